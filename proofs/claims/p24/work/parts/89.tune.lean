/-! OURS: a tune, as the law asks of it -/
/-- what the law's least tells -/
abbrev uLE (lim : Int) (no : Nat) (gn : Nat → Nat) (gg : Nat → Nat → Nat) (nn : Nat → Nat) (pt ln : Nat → Nat → Nat) (wi : Nat → Nat → Int) (t : Nat) : Int := if uLS lim no gn gg nn pt ln wi t < 1000000 then uLS lim no gn gg nn pt ln wi t else -1
theorem uLE_bd {lim : Int} {no : Nat} {gn : Nat → Nat} {gg : Nat → Nat → Nat} {nn : Nat → Nat} {pt ln : Nat → Nat → Nat} {wi : Nat → Nat → Int} (hOV : OV no gn gg) (hU : TusV nn pt ln wi) {t : Nat} (ht : t < 4) : -1 ≤ uLE lim no gn gg nn pt ln wi t ∧ uLE lim no gn gg nn pt ln wi t ≤ 1000000 := by
  have h := U_least (lim := lim) (pt := pt) (ln := ln) (wi := wi) hOV hU ht
  unfold uLE
  split <;> omega
theorem q_L_least (l : Launch) (hsT : l.stackTraces = false) (D : va_G) (G : Nat → ClassId) (ad : Nat → Nat) (N : Nat) (c : Nat → va_E) {lim : Int} {no dn : Nat} {gn : Nat → Nat} {gg : Nat → Nat → Nat} {dg nn : Nat → Nat} {pt ln : Nat → Nat → Nat} {wi : Nat → Nat → Int} (hNe : N = 120 + 2 * no) (hD : DK G ad c lim no dn gn gg dg nn pt ln wi) (hV : SV lim no dn gn gg dg nn pt ln wi) {t : Nat} (ht : t < 4) : MC l yL_least wsL_least rm_L_least [.ref (ad 0), .int (zI (t : Int))] D G ad N c (qI D G (fx ad N) (fun v c1 => v = zI (uLE lim no gn gg nn pt ln wi t) ∧ DK G ad c1 lim no dn gn gg dg nn pt ln wi)) 2 6 := by
  by_cases h : uLS lim no gn gg nn pt ln wi t < 1000000
  · have e : uLE lim no gn gg nn pt ln wi t = uLS lim no gn gg nn pt ln wi t := if_pos h
    rw [e]
    exact c_L_least l D G ad N c hNe hD hV ht h
  · have e : uLE lim no gn gg nn pt ln wi t = -1 := if_neg h
    rw [e]
    exact x_L_least2 l hsT D G ad N c hNe hD hV ht h
abbrev rm_L_isTuneSo : Room := { frames := 10, cells := 2, slots := 6, locals := 300 }
set_option maxHeartbeats 4000000 in
set_option maxRecDepth 100000 in
/-- a tune, as the law asks of it -/
theorem c_L_isTuneSo (l : Launch) (hsT : l.stackTraces = false) (D : va_G) (G : Nat → ClassId) (ad : Nat → Nat) (N : Nat) (c : Nat → va_E) {lim : Int} {no dn : Nat} {gn : Nat → Nat} {gg : Nat → Nat → Nat} {dg nn : Nat → Nat} {pt ln : Nat → Nat → Nat} {wi : Nat → Nat → Int} (hNe : N = 120 + 2 * no) (hD : DK G ad c lim no dn gn gg dg nn pt ln wi) (hV : SV lim no dn gn gg dg nn pt ln wi) {t : Nat} (ht : t < 4) : MC l yL_isTuneSo wsL_isTuneSo rm_L_isTuneSo [.ref (ad 0), .int (zI (t : Int))] D G ad N c (qI D G (fx ad N) (fun v c1 => v = zI 1 ∧ DK G ad c1 lim no dn gn gg dg nn pt ln wi)) 2 6 := by
  have hN : 120 + 2 * no ≤ N := by omega
  refine MCz.of (cc := cL_isTuneSo) (maxL := 10) (by decide) rfl (Nat.le_of_ble_eq_true rfl) ?_
  intro p e s m args below meth kc A Q hx hb hts hown hml fin H locs w ls hl
  have hown : s.vm.findClass RL = some m.cls := hown
  have hl : lv_has ls 10 [(0, .ref (ad 0)), (1, .int (zI (t : Int)))] := hl
  obtain ⟨hlim, hOV, hdn4, hdg, hUV⟩ := id hV
  have ht10 := (hUV t ht).1
  have hno8 := hOV.1
  have hc := U_cnt (lim := lim) hOV hUV ht
  have hls := U_least (lim := lim) hOV hUV ht
  have hleb := uLE_bd (lim := lim) hOV hUV ht
  have hfew := fun h => U_few (lim := lim) (no := no) (gn := gn) (gg := gg) (nn := nn) (pt := pt) (ln := ln) (wi := wi) (t := t) h
  refine lv_aload_n hx hb dL_isTuneSo_0 rfl (lv_at hl 0 rfl) ?_
  refine lv_iload_n hx hb dL_isTuneSo_1 rfl (lv_at hl 1 rfl) ?_
  refine pw_ci w (pw_runV (r := 0) (ci := 7) (As := [.int (zI (t : Int))]) (rest := []) w ⟨hx, hb, hml, hown, hts⟩ (c_X7_notes l D G ad N c hN hD hV ht) (cwV 1 hts gL_isTuneSo_X7_notes rfl rfl rfl (by decide +kernel) ⟨Nat.le_of_ble_eq_true rfl, Nat.le_of_ble_eq_true rfl⟩) (by omega) hD.1 rfl rfl hl.1 rfl (lv_room (Nat.le_of_ble_eq_true rfl)) dL_isTuneSo_2 ⟨Nat.le_of_ble_eq_true rfl, Nat.le_of_ble_eq_true rfl⟩) (fun r_ c1 H locs hp w => ?_)
  have w : PW D G A s ad N c1 H locs := w
  obtain ⟨hv, hD1, -⟩ := hp
  subst hv
  refine lv_istore_n (lv' := [(2, .int (zI (nn t : Int))), (0, .ref (ad 0)), (1, .int (zI (t : Int)))]) hx hb dL_isTuneSo_5 rfl hl (by decide) rfl (fun ls hl => ?_)
  refine lv_aload_n hx hb dL_isTuneSo_6 rfl (lv_at hl 1 rfl) ?_
  refine lv_iload_n hx hb dL_isTuneSo_7 rfl (lv_at hl 2 rfl) ?_
  refine pw_ci w (pw_runV (r := 0) (ci := 7) (As := [.int (zI (t : Int))]) (rest := []) w ⟨hx, hb, hml, hown, hts⟩ (c_X7_choices l D G ad N c1 hN hD1 hV ht) (cwV 1 hts gL_isTuneSo_X7_choices rfl rfl rfl (by decide +kernel) ⟨Nat.le_of_ble_eq_true rfl, Nat.le_of_ble_eq_true rfl⟩) (by omega) hD1.1 rfl rfl hl.1 rfl (lv_room (Nat.le_of_ble_eq_true rfl)) dL_isTuneSo_8 ⟨Nat.le_of_ble_eq_true rfl, Nat.le_of_ble_eq_true rfl⟩) (fun r_ c2 H locs hp w => ?_)
  have w : PW D G A s ad N c2 H locs := w
  obtain ⟨hv, hD2, -⟩ := hp
  subst hv
  refine pz_top (b := (uCN lim no gn gg nn pt ln wi t)) (rfl) ?_
  refine lv_istore_n (lv' := [(3, .int (zI (uCN lim no gn gg nn pt ln wi t))), (2, .int (zI (nn t : Int))), (0, .ref (ad 0)), (1, .int (zI (t : Int)))]) hx hb dL_isTuneSo_11 rfl hl (by decide) rfl (fun ls hl => ?_)
  refine lv_aload_n hx hb dL_isTuneSo_12 rfl (lv_at hl 2 rfl) ?_
  refine lv_iload_n hx hb dL_isTuneSo_13 rfl (lv_at hl 3 rfl) ?_
  refine pw_ci w (pw_runSW (As := [.ref (ad 0), .int (zI (t : Int))]) (rest := []) w ⟨hx, hb, hml, hown, hts⟩ (q_L_least l hsT D G ad N c2 hNe hD2 hV ht) (vx_cwSW 2 hts gL_isTuneSo_L_least rfl rfl rfl (by decide +kernel) ⟨Nat.le_of_ble_eq_true rfl, Nat.le_of_ble_eq_true rfl⟩) rfl hl.1 rfl (lv_room (Nat.le_of_ble_eq_true rfl)) dL_isTuneSo_14 ⟨Nat.le_of_ble_eq_true rfl, Nat.le_of_ble_eq_true rfl⟩) (fun r_ c3 H locs hp w => ?_)
  have w : PW D G A s ad N c3 H locs := w
  obtain ⟨hv, hD3⟩ := hp
  subst hv
  refine lv_istore (lv' := [(4, .int (zI (uLE lim no gn gg nn pt ln wi t))), (3, .int (zI (uCN lim no gn gg nn pt ln wi t))), (2, .int (zI (nn t : Int))), (0, .ref (ad 0)), (1, .int (zI (t : Int)))]) hx hb dL_isTuneSo_17 hl (by decide) rfl (fun ls hl => ?_)
  refine lv_iload_n hx hb dL_isTuneSo_19 rfl (lv_at hl 2 rfl) ?_
  have J30 : ∀ (ls : Array Slot), lv_has ls 10 [(4, .int (zI (uLE lim no gn gg nn pt ln wi t))), (3, .int (zI (uCN lim no gn gg nn pt ln wi t))), (2, .int (zI (nn t : Int))), (0, .ref (ad 0)), (1, .int (zI (t : Int)))] → W p l e rm_L_isTuneSo s m args below meth kc H locs 2 6 Q (F0 m 30 ls [.int (zI ((nn t - 1 : Nat) : Int))]) := by
    intro ls hl
    refine lv_istore (lv' := [(5, .int (zI ((nn t - 1 : Nat) : Int))), (4, .int (zI (uLE lim no gn gg nn pt ln wi t))), (3, .int (zI (uCN lim no gn gg nn pt ln wi t))), (2, .int (zI (nn t : Int))), (0, .ref (ad 0)), (1, .int (zI (t : Int)))]) hx hb dL_isTuneSo_30 hl (by decide) rfl (fun ls hl => ?_)
    refine lv_iload_n hx hb dL_isTuneSo_32 rfl (lv_at hl 2 rfl) ?_
    refine pz_ifne (tgt := 53) hx hb dL_isTuneSo_33 (by decide) (⟨by omega, by omega⟩) (fun hq => ?_) (fun hq => ?_)
    · have hlt : (uLS lim no gn gg nn pt ln wi t) < 1000000 := by omega
      have hW := hc.2.2 hlt
      have hle : (uLE lim no gn gg nn pt ln wi t) = (uLS lim no gn gg nn pt ln wi t) := if_pos hlt
      rw [hle] at hl
      refine lv_iconst (v := zI (-1)) hx hb dL_isTuneSo_53 rfl ?_
      refine pz_top (b := ((chT lim no gn gg nn pt ln wi t 0 : Int) - 1)) (rfl) ?_
      refine lv_istore (lv' := [(6, .int (zI ((chT lim no gn gg nn pt ln wi t 0 : Int) - 1))), (5, .int (zI ((nn t - 1 : Nat) : Int))), (4, .int (zI (uLS lim no gn gg nn pt ln wi t))), (3, .int (zI (uCN lim no gn gg nn pt ln wi t))), (2, .int (zI (nn t : Int))), (0, .ref (ad 0)), (1, .int (zI (t : Int)))]) hx hb dL_isTuneSo_54 hl (by decide) rfl (fun ls hl => ?_)
      refine lv_iconst (v := zI (0)) hx hb dL_isTuneSo_56 rfl ?_
      refine pz_top (b := (uFL lim no gn gg nn pt ln wi t 0)) (rfl) ?_
      refine lv_istore (lv' := [(7, .int (zI (uFL lim no gn gg nn pt ln wi t 0))), (6, .int (zI ((chT lim no gn gg nn pt ln wi t 0 : Int) - 1))), (5, .int (zI ((nn t - 1 : Nat) : Int))), (4, .int (zI (uLS lim no gn gg nn pt ln wi t))), (3, .int (zI (uCN lim no gn gg nn pt ln wi t))), (2, .int (zI (nn t : Int))), (0, .ref (ad 0)), (1, .int (zI (t : Int)))]) hx hb dL_isTuneSo_57 hl (by decide) rfl (fun ls hl => ?_)
      refine lv_iconst (v := zI (0)) hx hb dL_isTuneSo_59 rfl ?_
      refine pz_top (b := ((0 : Nat) : Int)) (rfl) ?_
      refine lv_istore (lv' := [(8, .int (zI ((0 : Nat) : Int))), (7, .int (zI (uFL lim no gn gg nn pt ln wi t 0))), (6, .int (zI ((chT lim no gn gg nn pt ln wi t 0 : Int) - 1))), (5, .int (zI ((nn t - 1 : Nat) : Int))), (4, .int (zI (uLS lim no gn gg nn pt ln wi t))), (3, .int (zI (uCN lim no gn gg nn pt ln wi t))), (2, .int (zI (nn t : Int))), (0, .ref (ad 0)), (1, .int (zI (t : Int)))]) hx hb dL_isTuneSo_60 hl (by decide) rfl (fun ls hl => ?_)
      have lp : ∀ (f : Nat) (g : Nat) (c1 : Nat → va_E) (H : Heap) (locs : List Loc) (ls : Array Slot), g ≤ nn t - 1 → DK G ad c1 lim no dn gn gg dg nn pt ln wi → nn t - 1 < f + g → PW D G A s ad N c1 H locs → lv_has ls 10 [(8, .int (zI (g : Int))), (7, .int (zI (uFL lim no gn gg nn pt ln wi t g))), (6, .int (zI ((chT lim no gn gg nn pt ln wi t g : Int) - 1))), (5, .int (zI ((nn t - 1 : Nat) : Int))), (4, .int (zI (uLS lim no gn gg nn pt ln wi t))), (3, .int (zI (uCN lim no gn gg nn pt ln wi t))), (2, .int (zI (nn t : Int))), (0, .ref (ad 0)), (1, .int (zI (t : Int)))] → W p l e rm_L_isTuneSo s m args below meth kc H locs 2 6 Q (F0 m 62 ls []) := by
        intro f
        induction f with
        | zero => intro g c1 H locs ls hg hD1 hfu w hl; omega
        | succ f ih =>
          intro g c1 H locs ls hg hD1 hfu w hl
          have hFL := U_FL (lim := lim) (no := no) (gn := gn) (gg := gg) (nn := nn) (pt := pt) (ln := ln) (wi := wi) t g
          have hcg : (chT lim no gn gg nn pt ln wi t g) < 9 := optN_lt _ g
          refine lv_iload hx hb dL_isTuneSo_62 (lv_at hl 0 rfl) ?_
          refine lv_iload hx hb dL_isTuneSo_64 (lv_at hl 3 rfl) ?_
          refine pz_icmpge (tgt := 172) hx hb dL_isTuneSo_66 (by decide) (⟨by omega, by omega⟩) (⟨by omega, by omega⟩) (fun hge => ?_) (fun hge => ?_)
          · have eg : g = nn t - 1 := by omega
            have hm : (uFL lim no gn gg nn pt ln wi t g) ≤ (uMO lim no gn gg nn pt ln wi t) ∧ (uMO lim no gn gg nn pt ln wi t) ≤ ((nn t - 1 : Nat) : Int) := by rw [eg]; exact U_most (lim := lim) hOV hUV ht hW
            refine lv_aload_n hx hb dL_isTuneSo_172 rfl (lv_at hl 7 rfl) ?_
            refine lv_iload_n hx hb dL_isTuneSo_173 rfl (lv_at hl 8 rfl) ?_
            refine pw_ci w (pw_runV (r := 0) (ci := 7) (As := [.int (zI (t : Int))]) (rest := []) w ⟨hx, hb, hml, hown, hts⟩ (c_X7_mostOrnaments l D G ad N c1 hN hD1 hV ht hlt) (cwV 1 hts gL_isTuneSo_X7_mostOrnaments rfl rfl rfl (by decide +kernel) ⟨Nat.le_of_ble_eq_true rfl, Nat.le_of_ble_eq_true rfl⟩) (by omega) hD1.1 rfl rfl hl.1 rfl (lv_room (Nat.le_of_ble_eq_true rfl)) dL_isTuneSo_174 ⟨Nat.le_of_ble_eq_true rfl, Nat.le_of_ble_eq_true rfl⟩) (fun r_ c4 H locs hp w => ?_)
            have w : PW D G A s ad N c4 H locs := w
            obtain ⟨hv, hD4, -⟩ := hp
            subst hv
            refine pz_top (b := (uMO lim no gn gg nn pt ln wi t)) (rfl) ?_
            refine lv_istore (lv' := [(8, .int (zI (uMO lim no gn gg nn pt ln wi t))), (7, .int (zI (uFL lim no gn gg nn pt ln wi t g))), (6, .int (zI ((chT lim no gn gg nn pt ln wi t g : Int) - 1))), (5, .int (zI ((nn t - 1 : Nat) : Int))), (4, .int (zI (uLS lim no gn gg nn pt ln wi t))), (3, .int (zI (uCN lim no gn gg nn pt ln wi t))), (2, .int (zI (nn t : Int))), (0, .ref (ad 0)), (1, .int (zI (t : Int)))]) hx hb dL_isTuneSo_177 hl (by decide) rfl (fun ls hl => ?_)
            refine lv_iload hx hb dL_isTuneSo_179 (lv_at hl 4 rfl) ?_
            refine pz_iflt (tgt := 233) hx hb dL_isTuneSo_181 (by decide) (⟨by omega, by omega⟩) (fun hq0 => ?_) (fun hq0 => ?_)
            · omega
            · refine lv_iload hx hb dL_isTuneSo_184 (lv_at hl 1 rfl) ?_
              refine lv_iload hx hb dL_isTuneSo_186 (lv_at hl 0 rfl) ?_
              refine pz_icmpgt (tgt := 233) hx hb dL_isTuneSo_188 (by decide) (⟨by omega, by omega⟩) (⟨by omega, by omega⟩) (fun hq1 => ?_) (fun hq1 => ?_)
              · omega
              · refine lv_iload hx hb dL_isTuneSo_191 (lv_at hl 0 rfl) ?_
                refine lv_iload hx hb dL_isTuneSo_193 (lv_at hl 3 rfl) ?_
                refine pz_icmpgt (tgt := 233) hx hb dL_isTuneSo_195 (by decide) (⟨by omega, by omega⟩) (⟨by omega, by omega⟩) (fun hq2 => ?_) (fun hq2 => ?_)
                · omega
                · refine lv_iload hx hb dL_isTuneSo_198 (lv_at hl 3 rfl) ?_
                  refine pz_ifgt (tgt := 213) hx hb dL_isTuneSo_200 (by decide) (⟨by omega, by omega⟩) (fun hq3 => ?_) (fun hq3 => ?_)
                  · refine lv_iload_n hx hb dL_isTuneSo_213 rfl (lv_at hl 6 rfl) ?_
                    refine pz_ifeq (tgt := 229) hx hb dL_isTuneSo_214 (by decide) (⟨by omega, by omega⟩) (fun hq6 => ?_) (fun hq6 => ?_)
                    · omega
                    · have hlen := (hUV t ht).2.1 (nn t - 1) (by omega)
                      refine lv_aload_n hx hb dL_isTuneSo_217 rfl (lv_at hl 7 rfl) ?_
                      refine lv_iload_n hx hb dL_isTuneSo_218 rfl (lv_at hl 8 rfl) ?_
                      refine lv_iload_n hx hb dL_isTuneSo_219 rfl (lv_at hl 6 rfl) ?_
                      refine lv_iconst (v := zI (1)) hx hb dL_isTuneSo_220 rfl ?_
                      refine pz_isub hx hb dL_isTuneSo_221 ?_
                      refine pz_top (b := ((nn t - 1 : Nat) : Int)) (by omega) ?_
                      refine pw_ci w (pw_runV (r := 0) (ci := 7) (As := [.int (zI (t : Int)), .int (zI ((nn t - 1 : Nat) : Int))]) (rest := []) w ⟨hx, hb, hml, hown, hts⟩ (c_X7_time_last l D G ad N c4 hN hD4 hV (i := nn t - 1) ht (by omega) (by omega) hlt) (cwV 2 hts gL_isTuneSo_X7_time rfl rfl rfl (by decide +kernel) ⟨Nat.le_of_ble_eq_true rfl, Nat.le_of_ble_eq_true rfl⟩) (by omega) hD4.1 rfl rfl hl.1 rfl (lv_room (Nat.le_of_ble_eq_true rfl)) dL_isTuneSo_222 ⟨Nat.le_of_ble_eq_true rfl, Nat.le_of_ble_eq_true rfl⟩) (fun r_ c5 H locs hp w => ?_)
                      have w : PW D G A s ad N c5 H locs := w
                      obtain ⟨hv, hD5, -⟩ := hp
                      subst hv
                      refine lv_iconst (v := zI (1)) hx hb dL_isTuneSo_225 rfl ?_
                      refine pz_icmplt (tgt := 233) hx hb dL_isTuneSo_226 (by decide) (⟨by omega, by omega⟩) (⟨by omega, by omega⟩) (fun hq7 => ?_) (fun hq7 => ?_)
                      · omega
                      · refine lv_iconst (v := zI (1)) hx hb dL_isTuneSo_229 rfl ?_
                        refine lv_goto (tgt := 234) hx hb dL_isTuneSo_230 (by decide) ?_
                        refine lv_istore (lv' := [(9, .int (zI 1)), (8, .int (zI (uMO lim no gn gg nn pt ln wi t))), (7, .int (zI (uFL lim no gn gg nn pt ln wi t g))), (6, .int (zI ((chT lim no gn gg nn pt ln wi t g : Int) - 1))), (5, .int (zI ((nn t - 1 : Nat) : Int))), (4, .int (zI (uLS lim no gn gg nn pt ln wi t))), (3, .int (zI (uCN lim no gn gg nn pt ln wi t))), (2, .int (zI (nn t : Int))), (0, .ref (ad 0)), (1, .int (zI (t : Int)))]) hx hb dL_isTuneSo_234 hl (by decide) rfl (fun ls hl => ?_)
                        refine lv_iload hx hb dL_isTuneSo_236 (lv_at hl 0 rfl) ?_
                        refine pz_ifeq (tgt := 270) hx hb dL_isTuneSo_238 (by decide) (⟨by omega, by omega⟩) (fun hq8 => ?_) (fun hq8 => ?_)
                        · omega
                        · refine lv_aload_n hx hb dL_isTuneSo_241 rfl (lv_at hl 8 rfl) ?_
                          refine lv_iload_n hx hb dL_isTuneSo_242 rfl (lv_at hl 9 rfl) ?_
                          refine pw_cf w (pw_runV (r := 0) (ci := 7) (As := [.int (zI (t : Int))]) (rest := []) w ⟨hx, hb, hml, hown, hts⟩ (c_X7_average l D G ad N c5 hN hD5 hV ht hlt (fun h2 => (U_av (lim := lim) hOV hUV ht hlt h2).1)) (cwV 1 hts gL_isTuneSo_X7_average rfl rfl rfl (by decide +kernel) ⟨Nat.le_of_ble_eq_true rfl, Nat.le_of_ble_eq_true rfl⟩) (by omega) hD5.1 rfl rfl hl.1 rfl (lv_room (Nat.le_of_ble_eq_true rfl)) dL_isTuneSo_243 ⟨Nat.le_of_ble_eq_true rfl, Nat.le_of_ble_eq_true rfl⟩) (fun r_ c6 H locs hp w => ?_)
                          have w : PW D G A s ad N c6 H locs := w
                          obtain ⟨hv, hD6, -⟩ := hp
                          subst hv
                          rw [if_neg (show ¬ nn t < 2 by omega)]
                          refine lv_iload hx hb dL_isTuneSo_246 (lv_at hl 4 rfl) ?_
                          refine pz_ifne (tgt := 255) hx hb dL_isTuneSo_248 (by decide) (⟨by omega, by omega⟩) (fun hqa => ?_) (fun hqa => ?_)
                          · refine lv_iload hx hb dL_isTuneSo_255 (lv_at hl 5 rfl) ?_
                            refine lv_i2f hx hb dL_isTuneSo_257 ?_
                            refine lv_iload hx hb dL_isTuneSo_258 (lv_at hl 4 rfl) ?_
                            refine pz_top (b := ((nn t : Int) - 1)) (by omega) ?_
                            refine lv_i2f hx hb dL_isTuneSo_260 ?_
                            refine lv_fdiv hx hb dL_isTuneSo_261 (U_av (lim := lim) hOV hUV ht hlt (by omega)).1 ?_
                            refine lv_fcmp hx hb dL_isTuneSo_262 ?_
                            refine pz_topI (y := zI 0) (U_av (lim := lim) hOV hUV ht hlt (by omega)).2 ?_
                            refine pz_ifne (tgt := 270) hx hb dL_isTuneSo_263 (by decide) (⟨by omega, by omega⟩) (fun hq9 => ?_) (fun hq9 => ?_)
                            · omega
                            · refine lv_iconst (v := zI (1)) hx hb dL_isTuneSo_266 rfl ?_
                              refine lv_goto (tgt := 271) hx hb dL_isTuneSo_267 (by decide) ?_
                              exact fin (ad, N, c6) c6 _ _ _ _ _ _ _ rfl (Or.inr rfl) ⟨rfl, hD6⟩ w dL_isTuneSo_271 (Nat.le_of_ble_eq_true rfl) (Nat.le_of_ble_eq_true rfl)
                          · omega
                  · have hf0 := hfew (by omega)
                    refine lv_iload hx hb dL_isTuneSo_203 (lv_at hl 4 rfl) ?_
                    refine pz_ifne (tgt := 233) hx hb dL_isTuneSo_205 (by decide) (⟨by omega, by omega⟩) (fun hq4 => ?_) (fun hq4 => ?_)
                    · omega
                    · refine lv_iload_n hx hb dL_isTuneSo_208 rfl (lv_at hl 5 rfl) ?_
                      refine lv_iconst (v := zI (1)) hx hb dL_isTuneSo_209 rfl ?_
                      refine pz_icmpne (tgt := 233) hx hb dL_isTuneSo_210 (by decide) (⟨by omega, by omega⟩) (⟨by omega, by omega⟩) (fun hq5 => ?_) (fun hq5 => ?_)
                      · omega
                      · refine lv_iload_n hx hb dL_isTuneSo_213 rfl (lv_at hl 6 rfl) ?_
                        refine pz_ifeq (tgt := 229) hx hb dL_isTuneSo_214 (by decide) (⟨by omega, by omega⟩) (fun hq6 => ?_) (fun hq6 => ?_)
                        · refine lv_iconst (v := zI (1)) hx hb dL_isTuneSo_229 rfl ?_
                          refine lv_goto (tgt := 234) hx hb dL_isTuneSo_230 (by decide) ?_
                          refine lv_istore (lv' := [(9, .int (zI 1)), (8, .int (zI (uMO lim no gn gg nn pt ln wi t))), (7, .int (zI (uFL lim no gn gg nn pt ln wi t g))), (6, .int (zI ((chT lim no gn gg nn pt ln wi t g : Int) - 1))), (5, .int (zI ((nn t - 1 : Nat) : Int))), (4, .int (zI (uLS lim no gn gg nn pt ln wi t))), (3, .int (zI (uCN lim no gn gg nn pt ln wi t))), (2, .int (zI (nn t : Int))), (0, .ref (ad 0)), (1, .int (zI (t : Int)))]) hx hb dL_isTuneSo_234 hl (by decide) rfl (fun ls hl => ?_)
                          refine lv_iload hx hb dL_isTuneSo_236 (lv_at hl 0 rfl) ?_
                          refine pz_ifeq (tgt := 270) hx hb dL_isTuneSo_238 (by decide) (⟨by omega, by omega⟩) (fun hq8 => ?_) (fun hq8 => ?_)
                          · omega
                          · refine lv_aload_n hx hb dL_isTuneSo_241 rfl (lv_at hl 8 rfl) ?_
                            refine lv_iload_n hx hb dL_isTuneSo_242 rfl (lv_at hl 9 rfl) ?_
                            refine pw_cf w (pw_runV (r := 0) (ci := 7) (As := [.int (zI (t : Int))]) (rest := []) w ⟨hx, hb, hml, hown, hts⟩ (c_X7_average l D G ad N c4 hN hD4 hV ht hlt (fun h2 => (U_av (lim := lim) hOV hUV ht hlt h2).1)) (cwV 1 hts gL_isTuneSo_X7_average rfl rfl rfl (by decide +kernel) ⟨Nat.le_of_ble_eq_true rfl, Nat.le_of_ble_eq_true rfl⟩) (by omega) hD4.1 rfl rfl hl.1 rfl (lv_room (Nat.le_of_ble_eq_true rfl)) dL_isTuneSo_243 ⟨Nat.le_of_ble_eq_true rfl, Nat.le_of_ble_eq_true rfl⟩) (fun r_ c7 H locs hp w => ?_)
                            have w : PW D G A s ad N c7 H locs := w
                            obtain ⟨hv, hD7, -⟩ := hp
                            subst hv
                            rw [if_pos (show nn t < 2 by omega)]
                            refine lv_iload hx hb dL_isTuneSo_246 (lv_at hl 4 rfl) ?_
                            refine pz_ifne (tgt := 255) hx hb dL_isTuneSo_248 (by decide) (⟨by omega, by omega⟩) (fun hqa => ?_) (fun hqa => ?_)
                            · omega
                            · refine lv_fconst0 hx hb dL_isTuneSo_251 ?_
                              refine lv_goto (tgt := 262) hx hb dL_isTuneSo_252 (by decide) ?_
                              refine lv_fcmp hx hb dL_isTuneSo_262 ?_
                              refine pz_topI (y := zI 0) avC0 ?_
                              refine pz_ifne (tgt := 270) hx hb dL_isTuneSo_263 (by decide) (⟨by omega, by omega⟩) (fun hq9 => ?_) (fun hq9 => ?_)
                              · omega
                              · refine lv_iconst (v := zI (1)) hx hb dL_isTuneSo_266 rfl ?_
                                refine lv_goto (tgt := 271) hx hb dL_isTuneSo_267 (by decide) ?_
                                exact fin (ad, N, c7) c7 _ _ _ _ _ _ _ rfl (Or.inr rfl) ⟨rfl, hD7⟩ w dL_isTuneSo_271 (Nat.le_of_ble_eq_true rfl) (Nat.le_of_ble_eq_true rfl)
                        · have hlen := (hUV t ht).2.1 (nn t - 1) (by omega)
                          refine lv_aload_n hx hb dL_isTuneSo_217 rfl (lv_at hl 7 rfl) ?_
                          refine lv_iload_n hx hb dL_isTuneSo_218 rfl (lv_at hl 8 rfl) ?_
                          refine lv_iload_n hx hb dL_isTuneSo_219 rfl (lv_at hl 6 rfl) ?_
                          refine lv_iconst (v := zI (1)) hx hb dL_isTuneSo_220 rfl ?_
                          refine pz_isub hx hb dL_isTuneSo_221 ?_
                          refine pz_top (b := ((nn t - 1 : Nat) : Int)) (by omega) ?_
                          refine pw_ci w (pw_runV (r := 0) (ci := 7) (As := [.int (zI (t : Int)), .int (zI ((nn t - 1 : Nat) : Int))]) (rest := []) w ⟨hx, hb, hml, hown, hts⟩ (c_X7_time_last l D G ad N c4 hN hD4 hV (i := nn t - 1) ht (by omega) (by omega) hlt) (cwV 2 hts gL_isTuneSo_X7_time rfl rfl rfl (by decide +kernel) ⟨Nat.le_of_ble_eq_true rfl, Nat.le_of_ble_eq_true rfl⟩) (by omega) hD4.1 rfl rfl hl.1 rfl (lv_room (Nat.le_of_ble_eq_true rfl)) dL_isTuneSo_222 ⟨Nat.le_of_ble_eq_true rfl, Nat.le_of_ble_eq_true rfl⟩) (fun r_ c8 H locs hp w => ?_)
                          have w : PW D G A s ad N c8 H locs := w
                          obtain ⟨hv, hD8, -⟩ := hp
                          subst hv
                          refine lv_iconst (v := zI (1)) hx hb dL_isTuneSo_225 rfl ?_
                          refine pz_icmplt (tgt := 233) hx hb dL_isTuneSo_226 (by decide) (⟨by omega, by omega⟩) (⟨by omega, by omega⟩) (fun hq7 => ?_) (fun hq7 => ?_)
                          · omega
                          · refine lv_iconst (v := zI (1)) hx hb dL_isTuneSo_229 rfl ?_
                            refine lv_goto (tgt := 234) hx hb dL_isTuneSo_230 (by decide) ?_
                            refine lv_istore (lv' := [(9, .int (zI 1)), (8, .int (zI (uMO lim no gn gg nn pt ln wi t))), (7, .int (zI (uFL lim no gn gg nn pt ln wi t g))), (6, .int (zI ((chT lim no gn gg nn pt ln wi t g : Int) - 1))), (5, .int (zI ((nn t - 1 : Nat) : Int))), (4, .int (zI (uLS lim no gn gg nn pt ln wi t))), (3, .int (zI (uCN lim no gn gg nn pt ln wi t))), (2, .int (zI (nn t : Int))), (0, .ref (ad 0)), (1, .int (zI (t : Int)))]) hx hb dL_isTuneSo_234 hl (by decide) rfl (fun ls hl => ?_)
                            refine lv_iload hx hb dL_isTuneSo_236 (lv_at hl 0 rfl) ?_
                            refine pz_ifeq (tgt := 270) hx hb dL_isTuneSo_238 (by decide) (⟨by omega, by omega⟩) (fun hq8 => ?_) (fun hq8 => ?_)
                            · omega
                            · refine lv_aload_n hx hb dL_isTuneSo_241 rfl (lv_at hl 8 rfl) ?_
                              refine lv_iload_n hx hb dL_isTuneSo_242 rfl (lv_at hl 9 rfl) ?_
                              refine pw_cf w (pw_runV (r := 0) (ci := 7) (As := [.int (zI (t : Int))]) (rest := []) w ⟨hx, hb, hml, hown, hts⟩ (c_X7_average l D G ad N c8 hN hD8 hV ht hlt (fun h2 => (U_av (lim := lim) hOV hUV ht hlt h2).1)) (cwV 1 hts gL_isTuneSo_X7_average rfl rfl rfl (by decide +kernel) ⟨Nat.le_of_ble_eq_true rfl, Nat.le_of_ble_eq_true rfl⟩) (by omega) hD8.1 rfl rfl hl.1 rfl (lv_room (Nat.le_of_ble_eq_true rfl)) dL_isTuneSo_243 ⟨Nat.le_of_ble_eq_true rfl, Nat.le_of_ble_eq_true rfl⟩) (fun r_ c9 H locs hp w => ?_)
                              have w : PW D G A s ad N c9 H locs := w
                              obtain ⟨hv, hD9, -⟩ := hp
                              subst hv
                              rw [if_pos (show nn t < 2 by omega)]
                              refine lv_iload hx hb dL_isTuneSo_246 (lv_at hl 4 rfl) ?_
                              refine pz_ifne (tgt := 255) hx hb dL_isTuneSo_248 (by decide) (⟨by omega, by omega⟩) (fun hqa => ?_) (fun hqa => ?_)
                              · omega
                              · refine lv_fconst0 hx hb dL_isTuneSo_251 ?_
                                refine lv_goto (tgt := 262) hx hb dL_isTuneSo_252 (by decide) ?_
                                refine lv_fcmp hx hb dL_isTuneSo_262 ?_
                                refine pz_topI (y := zI 0) avC0 ?_
                                refine pz_ifne (tgt := 270) hx hb dL_isTuneSo_263 (by decide) (⟨by omega, by omega⟩) (fun hq9 => ?_) (fun hq9 => ?_)
                                · omega
                                · refine lv_iconst (v := zI (1)) hx hb dL_isTuneSo_266 rfl ?_
                                  refine lv_goto (tgt := 271) hx hb dL_isTuneSo_267 (by decide) ?_
                                  exact fin (ad, N, c9) c9 _ _ _ _ _ _ _ rfl (Or.inr rfl) ⟨rfl, hD9⟩ w dL_isTuneSo_271 (Nat.le_of_ble_eq_true rfl) (Nat.le_of_ble_eq_true rfl)
          · have hi : g + 1 < nn t := by omega
            obtain ⟨u1, u2, u3⟩ := U_ch (lim := lim) hOV hUV ht hi hW
            have hf := U_fit (lim := lim) (pt := pt) (ln := ln) (wi := wi) hOV hUV ht hi
            have htm := U_time (lim := lim) (pt := pt) (ln := ln) (wi := wi) hOV hUV ht hi u1 u3
            refine lv_aload_n hx hb dL_isTuneSo_69 rfl (lv_at hl 7 rfl) ?_
            refine lv_iload_n hx hb dL_isTuneSo_70 rfl (lv_at hl 8 rfl) ?_
            refine lv_iload hx hb dL_isTuneSo_71 (lv_at hl 0 rfl) ?_
            refine pw_ci w (pw_runV (r := 0) (ci := 7) (As := [.int (zI (t : Int)), .int (zI (g : Int))]) (rest := []) w ⟨hx, hb, hml, hown, hts⟩ (c_X7_chosen l D G ad N c1 hN hD1 hV ht hi hlt) (cwV 2 hts gL_isTuneSo_X7_chosen rfl rfl rfl (by decide +kernel) ⟨Nat.le_of_ble_eq_true rfl, Nat.le_of_ble_eq_true rfl⟩) (by omega) hD1.1 rfl rfl hl.1 rfl (lv_room (Nat.le_of_ble_eq_true rfl)) dL_isTuneSo_73 ⟨Nat.le_of_ble_eq_true rfl, Nat.le_of_ble_eq_true rfl⟩) (fun r_ c10 H locs hp w => ?_)
            have w : PW D G A s ad N c10 H locs := w
            obtain ⟨hv, hD10, -⟩ := hp
            subst hv
            refine pz_top (b := ((chT lim no gn gg nn pt ln wi t (g + 1) : Int) - 1)) (rfl) ?_
            refine lv_istore (lv' := [(9, .int (zI ((chT lim no gn gg nn pt ln wi t (g + 1) : Int) - 1))), (8, .int (zI (g : Int))), (7, .int (zI (uFL lim no gn gg nn pt ln wi t g))), (6, .int (zI ((chT lim no gn gg nn pt ln wi t g : Int) - 1))), (5, .int (zI ((nn t - 1 : Nat) : Int))), (4, .int (zI (uLS lim no gn gg nn pt ln wi t))), (3, .int (zI (uCN lim no gn gg nn pt ln wi t))), (2, .int (zI (nn t : Int))), (0, .ref (ad 0)), (1, .int (zI (t : Int)))]) hx hb dL_isTuneSo_76 hl (by decide) rfl (fun ls hl => ?_)
            refine lv_iload hx hb dL_isTuneSo_78 (lv_at hl 0 rfl) ?_
            refine lv_iconst (v := zI (-1)) hx hb dL_isTuneSo_80 rfl ?_
            refine pz_icmplt (tgt := 145) hx hb dL_isTuneSo_81 (by decide) (⟨by omega, by omega⟩) (⟨by omega, by omega⟩) (fun hq8 => ?_) (fun hq8 => ?_)
            · omega
            · refine lv_iload hx hb dL_isTuneSo_84 (lv_at hl 0 rfl) ?_
              refine lv_aload_n hx hb dL_isTuneSo_86 rfl (lv_at hl 8 rfl) ?_
              refine pw_ci w (pw_runV (r := 0) (ci := 7) (As := []) (rest := [.int (zI ((chT lim no gn gg nn pt ln wi t (g + 1) : Int) - 1))]) w ⟨hx, hb, hml, hown, hts⟩ (c_X7_ornaments l D G ad N c10 hN hD10 hV) (cwV 0 hts gL_isTuneSo_X7_ornaments rfl rfl rfl (by decide +kernel) ⟨Nat.le_of_ble_eq_true rfl, Nat.le_of_ble_eq_true rfl⟩) (by omega) hD10.1 rfl rfl hl.1 rfl (lv_room (Nat.le_of_ble_eq_true rfl)) dL_isTuneSo_87 ⟨Nat.le_of_ble_eq_true rfl, Nat.le_of_ble_eq_true rfl⟩) (fun r_ c11 H locs hp w => ?_)
              have w : PW D G A s ad N c11 H locs := w
              obtain ⟨hv, hD11, -⟩ := hp
              subst hv
              refine pz_icmpge (tgt := 145) hx hb dL_isTuneSo_90 (by decide) (⟨by omega, by omega⟩) (⟨by omega, by omega⟩) (fun hq9 => ?_) (fun hq9 => ?_)
              · omega
              · refine lv_iload hx hb dL_isTuneSo_93 (lv_at hl 0 rfl) ?_
                refine pz_iflt (tgt := 105) hx hb dL_isTuneSo_95 (by decide) (⟨by omega, by omega⟩) (fun hqa => ?_) (fun hqa => ?_)
                · refine lv_aload_n hx hb dL_isTuneSo_105 rfl (lv_at hl 8 rfl) ?_
                  refine lv_iload_n hx hb dL_isTuneSo_106 rfl (lv_at hl 9 rfl) ?_
                  refine lv_iload hx hb dL_isTuneSo_107 (lv_at hl 1 rfl) ?_
                  refine pw_ci w (pw_runV (r := 0) (ci := 7) (As := [.int (zI (t : Int)), .int (zI (g : Int))]) (rest := []) w ⟨hx, hb, hml, hown, hts⟩ (c_X7_fitting l D G ad N c11 hN hD11 hV ht hi) (cwV 2 hts gL_isTuneSo_X7_fitting rfl rfl rfl (by decide +kernel) ⟨Nat.le_of_ble_eq_true rfl, Nat.le_of_ble_eq_true rfl⟩) (by omega) hD11.1 rfl rfl hl.1 rfl (lv_room (Nat.le_of_ble_eq_true rfl)) dL_isTuneSo_109 ⟨Nat.le_of_ble_eq_true rfl, Nat.le_of_ble_eq_true rfl⟩) (fun r_ c12 H locs hp w => ?_)
                  have w : PW D G A s ad N c12 H locs := w
                  obtain ⟨hv, hD12, -⟩ := hp
                  subst hv
                  refine pz_top (b := (uFT lim no gn gg nn pt ln wi t g)) (rfl) ?_
                  refine lv_aload_n hx hb dL_isTuneSo_112 rfl (lv_at hl 8 rfl) ?_
                  refine pw_ci w (pw_runV (r := 0) (ci := 7) (As := []) (rest := [.int (zI (uFT lim no gn gg nn pt ln wi t g))]) w ⟨hx, hb, hml, hown, hts⟩ (c_X7_ornaments l D G ad N c12 hN hD12 hV) (cwV 0 hts gL_isTuneSo_X7_ornaments rfl rfl rfl (by decide +kernel) ⟨Nat.le_of_ble_eq_true rfl, Nat.le_of_ble_eq_true rfl⟩) (by omega) hD12.1 rfl rfl hl.1 rfl (lv_room (Nat.le_of_ble_eq_true rfl)) dL_isTuneSo_113 ⟨Nat.le_of_ble_eq_true rfl, Nat.le_of_ble_eq_true rfl⟩) (fun r_ c13 H locs hp w => ?_)
                  have w : PW D G A s ad N c13 H locs := w
                  obtain ⟨hv, hD13, -⟩ := hp
                  subst hv
                  refine pz_icmpgt (tgt := 145) hx hb dL_isTuneSo_116 (by decide) (⟨by omega, by omega⟩) (⟨by omega, by omega⟩) (fun hqc => ?_) (fun hqc => ?_)
                  · omega
                  · refine lv_iload hx hb dL_isTuneSo_119 (lv_at hl 0 rfl) ?_
                    refine pz_iflt (tgt := 134) hx hb dL_isTuneSo_121 (by decide) (⟨by omega, by omega⟩) (fun hqd => ?_) (fun hqd => ?_)
                    · refine lv_aload_n hx hb dL_isTuneSo_134 rfl (lv_at hl 8 rfl) ?_
                      refine lv_iload_n hx hb dL_isTuneSo_135 rfl (lv_at hl 9 rfl) ?_
                      refine lv_iload hx hb dL_isTuneSo_136 (lv_at hl 1 rfl) ?_
                      refine pw_ci w (pw_runV (r := 0) (ci := 7) (As := [.int (zI (t : Int)), .int (zI (g : Int))]) (rest := []) w ⟨hx, hb, hml, hown, hts⟩ (c_X7_time l D G ad N c13 hN hD13 hV (i := g) ht (by omega) hi hlt) (cwV 2 hts gL_isTuneSo_X7_time rfl rfl rfl (by decide +kernel) ⟨Nat.le_of_ble_eq_true rfl, Nat.le_of_ble_eq_true rfl⟩) (by omega) hD13.1 rfl rfl hl.1 rfl (lv_room (Nat.le_of_ble_eq_true rfl)) dL_isTuneSo_138 ⟨Nat.le_of_ble_eq_true rfl, Nat.le_of_ble_eq_true rfl⟩) (fun r_ c14 H locs hp w => ?_)
                      have w : PW D G A s ad N c14 H locs := w
                      obtain ⟨hv, hD14, -⟩ := hp
                      subst hv
                      refine pz_top (b := ((ln t g : Int) - (graN no gn (chT lim no gn gg nn pt ln wi t (g + 1)) : Int))) (rfl) ?_
                      refine lv_iconst (v := zI (1)) hx hb dL_isTuneSo_141 rfl ?_
                      refine pz_icmpge (tgt := 147) hx hb dL_isTuneSo_142 (by decide) (⟨by omega, by omega⟩) (⟨by omega, by omega⟩) (fun hqf => ?_) (fun hqf => ?_)
                      · refine lv_iload hx hb dL_isTuneSo_147 (lv_at hl 2 rfl) ?_
                        refine lv_iload hx hb dL_isTuneSo_149 (lv_at hl 0 rfl) ?_
                        refine pz_iflt (tgt := 158) hx hb dL_isTuneSo_151 (by decide) (⟨by omega, by omega⟩) (fun hqg => ?_) (fun hqg => ?_)
                        · refine lv_iconst (v := zI (0)) hx hb dL_isTuneSo_158 rfl ?_
                          refine pz_iadd hx hb dL_isTuneSo_159 ?_
                          refine pz_top (b := (uFL lim no gn gg nn pt ln wi t (g + 1))) (by rw [show (uFL lim no gn gg nn pt ln wi t (g + 1)) = (uFL lim no gn gg nn pt ln wi t g) + (if (chT lim no gn gg nn pt ln wi t (g + 1)) = 0 then 0 else 1) from rfl, if_pos (show (chT lim no gn gg nn pt ln wi t (g + 1)) = 0 by omega)]) ?_
                          refine lv_istore (lv' := [(7, .int (zI (uFL lim no gn gg nn pt ln wi t (g + 1)))), (9, .int (zI ((chT lim no gn gg nn pt ln wi t (g + 1) : Int) - 1))), (8, .int (zI (g : Int))), (6, .int (zI ((chT lim no gn gg nn pt ln wi t g : Int) - 1))), (5, .int (zI ((nn t - 1 : Nat) : Int))), (4, .int (zI (uLS lim no gn gg nn pt ln wi t))), (3, .int (zI (uCN lim no gn gg nn pt ln wi t))), (2, .int (zI (nn t : Int))), (0, .ref (ad 0)), (1, .int (zI (t : Int)))]) hx hb dL_isTuneSo_160 hl (by decide) rfl (fun ls hl => ?_)
                          refine lv_iload hx hb dL_isTuneSo_162 (lv_at hl 1 rfl) ?_
                          refine lv_istore (lv' := [(6, .int (zI ((chT lim no gn gg nn pt ln wi t (g + 1) : Int) - 1))), (7, .int (zI (uFL lim no gn gg nn pt ln wi t (g + 1)))), (9, .int (zI ((chT lim no gn gg nn pt ln wi t (g + 1) : Int) - 1))), (8, .int (zI (g : Int))), (5, .int (zI ((nn t - 1 : Nat) : Int))), (4, .int (zI (uLS lim no gn gg nn pt ln wi t))), (3, .int (zI (uCN lim no gn gg nn pt ln wi t))), (2, .int (zI (nn t : Int))), (0, .ref (ad 0)), (1, .int (zI (t : Int)))]) hx hb dL_isTuneSo_164 hl (by decide) rfl (fun ls hl => ?_)
                          refine pz_iinc (lv' := [(8, .int (zI ((g + 1 : Nat) : Int))), (6, .int (zI ((chT lim no gn gg nn pt ln wi t (g + 1) : Int) - 1))), (7, .int (zI (uFL lim no gn gg nn pt ln wi t (g + 1)))), (9, .int (zI ((chT lim no gn gg nn pt ln wi t (g + 1) : Int) - 1))), (5, .int (zI ((nn t - 1 : Nat) : Int))), (4, .int (zI (uLS lim no gn gg nn pt ln wi t))), (3, .int (zI (uCN lim no gn gg nn pt ln wi t))), (2, .int (zI (nn t : Int))), (0, .ref (ad 0)), (1, .int (zI (t : Int)))]) hx hb dL_isTuneSo_166 hl (j := 3) rfl ((g + 1 : Nat) : Int) (by omega) (by decide) rfl (fun ls hl => ?_)
                          refine lv_goto (tgt := 62) hx hb dL_isTuneSo_169 (by decide) ?_
                          exact ih (g + 1) c14 H locs ls (by omega) hD14 (by omega) w (lv_sub hl [0, 2, 1, 4, 5, 6, 7, 8, 9] rfl)
                        · omega
                      · omega
                    · omega
                · refine lv_iload hx hb dL_isTuneSo_98 (lv_at hl 0 rfl) ?_
                  refine lv_iload hx hb dL_isTuneSo_100 (lv_at hl 3 rfl) ?_
                  refine pz_icmpeq (tgt := 145) hx hb dL_isTuneSo_102 (by decide) (⟨by omega, by omega⟩) (⟨by omega, by omega⟩) (fun hqb => ?_) (fun hqb => ?_)
                  · omega
                  · refine lv_aload_n hx hb dL_isTuneSo_105 rfl (lv_at hl 8 rfl) ?_
                    refine lv_iload_n hx hb dL_isTuneSo_106 rfl (lv_at hl 9 rfl) ?_
                    refine lv_iload hx hb dL_isTuneSo_107 (lv_at hl 1 rfl) ?_
                    refine pw_ci w (pw_runV (r := 0) (ci := 7) (As := [.int (zI (t : Int)), .int (zI (g : Int))]) (rest := []) w ⟨hx, hb, hml, hown, hts⟩ (c_X7_fitting l D G ad N c11 hN hD11 hV ht hi) (cwV 2 hts gL_isTuneSo_X7_fitting rfl rfl rfl (by decide +kernel) ⟨Nat.le_of_ble_eq_true rfl, Nat.le_of_ble_eq_true rfl⟩) (by omega) hD11.1 rfl rfl hl.1 rfl (lv_room (Nat.le_of_ble_eq_true rfl)) dL_isTuneSo_109 ⟨Nat.le_of_ble_eq_true rfl, Nat.le_of_ble_eq_true rfl⟩) (fun r_ c15 H locs hp w => ?_)
                    have w : PW D G A s ad N c15 H locs := w
                    obtain ⟨hv, hD15, -⟩ := hp
                    subst hv
                    refine pz_top (b := (uFT lim no gn gg nn pt ln wi t g)) (rfl) ?_
                    refine lv_aload_n hx hb dL_isTuneSo_112 rfl (lv_at hl 8 rfl) ?_
                    refine pw_ci w (pw_runV (r := 0) (ci := 7) (As := []) (rest := [.int (zI (uFT lim no gn gg nn pt ln wi t g))]) w ⟨hx, hb, hml, hown, hts⟩ (c_X7_ornaments l D G ad N c15 hN hD15 hV) (cwV 0 hts gL_isTuneSo_X7_ornaments rfl rfl rfl (by decide +kernel) ⟨Nat.le_of_ble_eq_true rfl, Nat.le_of_ble_eq_true rfl⟩) (by omega) hD15.1 rfl rfl hl.1 rfl (lv_room (Nat.le_of_ble_eq_true rfl)) dL_isTuneSo_113 ⟨Nat.le_of_ble_eq_true rfl, Nat.le_of_ble_eq_true rfl⟩) (fun r_ c16 H locs hp w => ?_)
                    have w : PW D G A s ad N c16 H locs := w
                    obtain ⟨hv, hD16, -⟩ := hp
                    subst hv
                    refine pz_icmpgt (tgt := 145) hx hb dL_isTuneSo_116 (by decide) (⟨by omega, by omega⟩) (⟨by omega, by omega⟩) (fun hqc => ?_) (fun hqc => ?_)
                    · omega
                    · refine lv_iload hx hb dL_isTuneSo_119 (lv_at hl 0 rfl) ?_
                      refine pz_iflt (tgt := 134) hx hb dL_isTuneSo_121 (by decide) (⟨by omega, by omega⟩) (fun hqd => ?_) (fun hqd => ?_)
                      · omega
                      · have hf3 := hf.2.2 (chT lim no gn gg nn pt ln wi t (g + 1)) (by omega) u1 u3
                        refine lv_aload_n hx hb dL_isTuneSo_124 rfl (lv_at hl 8 rfl) ?_
                        refine lv_iload_n hx hb dL_isTuneSo_125 rfl (lv_at hl 9 rfl) ?_
                        refine lv_iload hx hb dL_isTuneSo_126 (lv_at hl 1 rfl) ?_
                        refine pw_ci w (pw_runV (r := 0) (ci := 7) (As := [.int (zI (t : Int)), .int (zI (g : Int))]) (rest := []) w ⟨hx, hb, hml, hown, hts⟩ (c_X7_fitting l D G ad N c16 hN hD16 hV ht hi) (cwV 2 hts gL_isTuneSo_X7_fitting rfl rfl rfl (by decide +kernel) ⟨Nat.le_of_ble_eq_true rfl, Nat.le_of_ble_eq_true rfl⟩) (by omega) hD16.1 rfl rfl hl.1 rfl (lv_room (Nat.le_of_ble_eq_true rfl)) dL_isTuneSo_128 ⟨Nat.le_of_ble_eq_true rfl, Nat.le_of_ble_eq_true rfl⟩) (fun r_ c17 H locs hp w => ?_)
                        have w : PW D G A s ad N c17 H locs := w
                        obtain ⟨hv, hD17, -⟩ := hp
                        subst hv
                        refine pz_top (b := (uFT lim no gn gg nn pt ln wi t g)) (rfl) ?_
                        refine pz_ifeq (tgt := 145) hx hb dL_isTuneSo_131 (by decide) (⟨by omega, by omega⟩) (fun hqe => ?_) (fun hqe => ?_)
                        · omega
                        · refine lv_aload_n hx hb dL_isTuneSo_134 rfl (lv_at hl 8 rfl) ?_
                          refine lv_iload_n hx hb dL_isTuneSo_135 rfl (lv_at hl 9 rfl) ?_
                          refine lv_iload hx hb dL_isTuneSo_136 (lv_at hl 1 rfl) ?_
                          refine pw_ci w (pw_runV (r := 0) (ci := 7) (As := [.int (zI (t : Int)), .int (zI (g : Int))]) (rest := []) w ⟨hx, hb, hml, hown, hts⟩ (c_X7_time l D G ad N c17 hN hD17 hV (i := g) ht (by omega) hi hlt) (cwV 2 hts gL_isTuneSo_X7_time rfl rfl rfl (by decide +kernel) ⟨Nat.le_of_ble_eq_true rfl, Nat.le_of_ble_eq_true rfl⟩) (by omega) hD17.1 rfl rfl hl.1 rfl (lv_room (Nat.le_of_ble_eq_true rfl)) dL_isTuneSo_138 ⟨Nat.le_of_ble_eq_true rfl, Nat.le_of_ble_eq_true rfl⟩) (fun r_ c18 H locs hp w => ?_)
                          have w : PW D G A s ad N c18 H locs := w
                          obtain ⟨hv, hD18, -⟩ := hp
                          subst hv
                          refine pz_top (b := ((ln t g : Int) - (graN no gn (chT lim no gn gg nn pt ln wi t (g + 1)) : Int))) (rfl) ?_
                          refine lv_iconst (v := zI (1)) hx hb dL_isTuneSo_141 rfl ?_
                          refine pz_icmpge (tgt := 147) hx hb dL_isTuneSo_142 (by decide) (⟨by omega, by omega⟩) (⟨by omega, by omega⟩) (fun hqf => ?_) (fun hqf => ?_)
                          · refine lv_iload hx hb dL_isTuneSo_147 (lv_at hl 2 rfl) ?_
                            refine lv_iload hx hb dL_isTuneSo_149 (lv_at hl 0 rfl) ?_
                            refine pz_iflt (tgt := 158) hx hb dL_isTuneSo_151 (by decide) (⟨by omega, by omega⟩) (fun hqg => ?_) (fun hqg => ?_)
                            · omega
                            · refine lv_iconst (v := zI (1)) hx hb dL_isTuneSo_154 rfl ?_
                              refine lv_goto (tgt := 159) hx hb dL_isTuneSo_155 (by decide) ?_
                              refine pz_iadd hx hb dL_isTuneSo_159 ?_
                              refine pz_top (b := (uFL lim no gn gg nn pt ln wi t (g + 1))) (by rw [show (uFL lim no gn gg nn pt ln wi t (g + 1)) = (uFL lim no gn gg nn pt ln wi t g) + (if (chT lim no gn gg nn pt ln wi t (g + 1)) = 0 then 0 else 1) from rfl, if_neg (show ¬ (chT lim no gn gg nn pt ln wi t (g + 1)) = 0 by omega)]) ?_
                              refine lv_istore (lv' := [(7, .int (zI (uFL lim no gn gg nn pt ln wi t (g + 1)))), (9, .int (zI ((chT lim no gn gg nn pt ln wi t (g + 1) : Int) - 1))), (8, .int (zI (g : Int))), (6, .int (zI ((chT lim no gn gg nn pt ln wi t g : Int) - 1))), (5, .int (zI ((nn t - 1 : Nat) : Int))), (4, .int (zI (uLS lim no gn gg nn pt ln wi t))), (3, .int (zI (uCN lim no gn gg nn pt ln wi t))), (2, .int (zI (nn t : Int))), (0, .ref (ad 0)), (1, .int (zI (t : Int)))]) hx hb dL_isTuneSo_160 hl (by decide) rfl (fun ls hl => ?_)
                              refine lv_iload hx hb dL_isTuneSo_162 (lv_at hl 1 rfl) ?_
                              refine lv_istore (lv' := [(6, .int (zI ((chT lim no gn gg nn pt ln wi t (g + 1) : Int) - 1))), (7, .int (zI (uFL lim no gn gg nn pt ln wi t (g + 1)))), (9, .int (zI ((chT lim no gn gg nn pt ln wi t (g + 1) : Int) - 1))), (8, .int (zI (g : Int))), (5, .int (zI ((nn t - 1 : Nat) : Int))), (4, .int (zI (uLS lim no gn gg nn pt ln wi t))), (3, .int (zI (uCN lim no gn gg nn pt ln wi t))), (2, .int (zI (nn t : Int))), (0, .ref (ad 0)), (1, .int (zI (t : Int)))]) hx hb dL_isTuneSo_164 hl (by decide) rfl (fun ls hl => ?_)
                              refine pz_iinc (lv' := [(8, .int (zI ((g + 1 : Nat) : Int))), (6, .int (zI ((chT lim no gn gg nn pt ln wi t (g + 1) : Int) - 1))), (7, .int (zI (uFL lim no gn gg nn pt ln wi t (g + 1)))), (9, .int (zI ((chT lim no gn gg nn pt ln wi t (g + 1) : Int) - 1))), (5, .int (zI ((nn t - 1 : Nat) : Int))), (4, .int (zI (uLS lim no gn gg nn pt ln wi t))), (3, .int (zI (uCN lim no gn gg nn pt ln wi t))), (2, .int (zI (nn t : Int))), (0, .ref (ad 0)), (1, .int (zI (t : Int)))]) hx hb dL_isTuneSo_166 hl (j := 3) rfl ((g + 1 : Nat) : Int) (by omega) (by decide) rfl (fun ls hl => ?_)
                              refine lv_goto (tgt := 62) hx hb dL_isTuneSo_169 (by decide) ?_
                              exact ih (g + 1) c18 H locs ls (by omega) hD18 (by omega) w (lv_sub hl [0, 2, 1, 4, 5, 6, 7, 8, 9] rfl)
                          · omega
      exact lp (nn t + 1) 0 c3 H locs ls (by omega) hD3 (by omega) w (lv_sub hl [0, 1, 2, 3, 4, 5, 6, 7, 8] rfl)
    · have hn9 : ¬ (uLS lim no gn gg nn pt ln wi t) < 1000000 := hc.2.1.mp hq
      have e9 : (uLE lim no gn gg nn pt ln wi t) = -1 := if_neg hn9
      refine lv_iload hx hb dL_isTuneSo_36 (lv_at hl 1 rfl) ?_
      refine lv_iconst (v := zI (-1)) hx hb dL_isTuneSo_38 rfl ?_
      refine pz_icmpne (tgt := 51) hx hb dL_isTuneSo_39 (by decide) (⟨by omega, by omega⟩) (⟨by omega, by omega⟩) (fun hq1 => ?_) (fun hq1 => ?_)
      · omega
      · refine lv_iload hx hb dL_isTuneSo_42 (lv_at hl 0 rfl) ?_
        refine pz_ifle (tgt := 51) hx hb dL_isTuneSo_44 (by decide) (⟨by omega, by omega⟩) (fun hq2 => ?_) (fun hq2 => ?_)
        · exact absurd (hfew (by omega)).2 (by omega)
        · refine lv_iconst (v := zI (1)) hx hb dL_isTuneSo_47 rfl ?_
          refine lv_goto (tgt := 52) hx hb dL_isTuneSo_48 (by decide) ?_
          exact fin (ad, N, c3) c3 _ _ _ _ _ _ _ rfl (Or.inr rfl) ⟨rfl, hD3⟩ w dL_isTuneSo_52 (Nat.le_of_ble_eq_true rfl) (Nat.le_of_ble_eq_true rfl)
  refine pz_ifle (tgt := 29) hx hb dL_isTuneSo_20 (by decide) (⟨by omega, by omega⟩) (fun hn0 => ?_) (fun hn0 => ?_)
  · refine lv_iconst (v := zI (0)) hx hb dL_isTuneSo_29 rfl ?_
    refine pz_top (b := ((nn t - 1 : Nat) : Int)) (by omega) ?_
    exact J30 ls (lv_sub hl [0, 1, 2, 3, 4] rfl)
  · refine lv_iload_n hx hb dL_isTuneSo_23 rfl (lv_at hl 2 rfl) ?_
    refine lv_iconst (v := zI (1)) hx hb dL_isTuneSo_24 rfl ?_
    refine pz_isub hx hb dL_isTuneSo_25 ?_
    refine lv_goto (tgt := 30) hx hb dL_isTuneSo_26 (by decide) ?_
    refine pz_top (b := ((nn t - 1 : Nat) : Int)) (by omega) ?_
    exact J30 ls (lv_sub hl [0, 1, 2, 3, 4] rfl)
