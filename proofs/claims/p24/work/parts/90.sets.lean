/-! OURS: the sets, as the law asks of them -/
theorem sumU_mono {f : Nat → Int} (h : ∀ o, 0 ≤ f o) {p : Nat} : ∀ {n : Nat}, p ≤ n → sumU f p ≤ sumU f n
  | 0, h9 => by rw [show p = 0 by omega]; exact Int.le_refl _
  | n + 1, h9 => by
    by_cases e : p = n + 1
    · rw [e]
      exact Int.le_refl _
    · have h1 := sumU_mono h (show p ≤ n by omega)
      have h2 := h n
      show _ ≤ sumU f n + f n
      omega
/-- what the law's leastSet tells -/
abbrev uSE (lim : Int) (no : Nat) (gn : Nat → Nat) (gg : Nat → Nat → Nat) (nn : Nat → Nat) (pt ln : Nat → Nat → Nat) (wi : Nat → Nat → Int) : Int := if nSf lim no gn gg nn pt ln wi = 0 then -1 else lSf lim no gn gg nn pt ln wi
theorem q_L_leastSet (l : Launch) (hsT : l.stackTraces = false) (D : va_G) (G : Nat → ClassId) (ad : Nat → Nat) (N : Nat) (c : Nat → va_E) {lim : Int} {no dn : Nat} {gn : Nat → Nat} {gg : Nat → Nat → Nat} {dg nn : Nat → Nat} {pt ln : Nat → Nat → Nat} {wi : Nat → Nat → Int} (hNe : N = 120 + 2 * no) (hD : DK G ad c lim no dn gn gg dg nn pt ln wi) (hV : SV lim no dn gn gg dg nn pt ln wi) : MC l yL_leastSet wsL_leastSet rm_L_leastSet [.ref (ad 0)] D G ad N c (qI D G (fx ad N) (fun v c1 => v = zI (uSE lim no gn gg nn pt ln wi) ∧ DK G ad c1 lim no dn gn gg dg nn pt ln wi)) 2 6 := by
  have hset := U_set (lim := lim) hV.2.1 hV.2.2.2.2
  by_cases h : nSf lim no gn gg nn pt ln wi = 0
  · have e : uSE lim no gn gg nn pt ln wi = -1 := if_pos h
    rw [e]
    exact x_L_leastSet l hsT D G ad N c hNe hD hV hset h
  · have e : uSE lim no gn gg nn pt ln wi = lSf lim no gn gg nn pt ln wi := if_neg h
    rw [e]
    exact c_L_leastSet l D G ad N c hNe hD hV hset h
abbrev rm_L_areSetsSo : Room := { frames := 10, cells := 40, slots := 120, locals := 300 }
set_option maxHeartbeats 4000000 in
set_option maxRecDepth 100000 in
/-- the sets, as the law asks of them -/
theorem c_L_areSetsSo (l : Launch) (hsT : l.stackTraces = false) (D : va_G) (G : Nat → ClassId) (ad : Nat → Nat) (N : Nat) (c : Nat → va_E) {lim : Int} {no dn : Nat} {gn : Nat → Nat} {gg : Nat → Nat → Nat} {dg nn : Nat → Nat} {pt ln : Nat → Nat → Nat} {wi : Nat → Nat → Int} (hNe : N = 120 + 2 * no) (hD : DK G ad c lim no dn gn gg dg nn pt ln wi) (hV : SV lim no dn gn gg dg nn pt ln wi)  : MC l yL_areSetsSo wsL_areSetsSo rm_L_areSetsSo [.ref (ad 0)] D G ad N c (qI D G (fx ad N) (fun v c1 => v = zI 1 ∧ DK G ad c1 lim no dn gn gg dg nn pt ln wi)) 40 120 := by
  have hN : 120 + 2 * no ≤ N := by omega
  refine MCz.of (cc := cL_areSetsSo) (maxL := 9) (by decide) rfl (Nat.le_of_ble_eq_true rfl) ?_
  intro p e s m args below meth kc A Q hx hb hts hown hml fin H locs w ls hl
  have hown : s.vm.findClass RL = some m.cls := hown
  have hl : lv_has ls 9 [(0, .ref (ad 0))] := hl
  obtain ⟨hlim, hOV, hdn4, hdg, hUV⟩ := id hV
  have hoR := (vl_good2 nn).2.1
  obtain ⟨g1, g2, g3⟩ := U_sets (lim := lim) hOV hUV
  have hset := U_set (lim := lim) hOV hUV
  have htc4 := tC_le nn 4
  refine lv_iconst (v := zI (0)) hx hb dL_areSetsSo_0 rfl ?_
  refine pz_top (b := ((tC nn 0 : Nat) : Int)) (rfl) ?_
  refine lv_istore_n (lv' := [(1, .int (zI ((tC nn 0 : Nat) : Int))), (0, .ref (ad 0))]) hx hb dL_areSetsSo_1 rfl hl (by decide) rfl (fun ls hl => ?_)
  refine lv_iconst (v := zI (1)) hx hb dL_areSetsSo_2 rfl ?_
  refine pz_top (b := ((oR nn 0 : Nat) : Int)) (rfl) ?_
  refine lv_istore_n (lv' := [(2, .int (zI ((oR nn 0 : Nat) : Int))), (1, .int (zI ((tC nn 0 : Nat) : Int))), (0, .ref (ad 0))]) hx hb dL_areSetsSo_3 rfl hl (by decide) rfl (fun ls hl => ?_)
  refine lv_iconst (v := zI (0)) hx hb dL_areSetsSo_4 rfl ?_
  refine pz_top (b := ((0 : Nat) : Int)) (rfl) ?_
  refine lv_istore_n (lv' := [(3, .int (zI ((0 : Nat) : Int))), (2, .int (zI ((oR nn 0 : Nat) : Int))), (1, .int (zI ((tC nn 0 : Nat) : Int))), (0, .ref (ad 0))]) hx hb dL_areSetsSo_5 rfl hl (by decide) rfl (fun ls hl => ?_)
  have lp : ∀ (f : Nat) (t : Nat) (c1 : Nat → va_E) (H : Heap) (locs : List Loc) (ls : Array Slot), t ≤ 4 → DK G ad c1 lim no dn gn gg dg nn pt ln wi → 4 < f + t → PW D G A s ad N c1 H locs → lv_has ls 9 [(3, .int (zI (t : Int))), (2, .int (zI ((oR nn t : Nat) : Int))), (1, .int (zI ((tC nn t : Nat) : Int))), (0, .ref (ad 0))] → W p l e rm_L_areSetsSo s m args below meth kc H locs 0 0 Q (F0 m 6 ls []) := by
    intro f
    induction f with
    | zero => intro t c1 H locs ls ht5 hD1 hfu w hl; omega
    | succ f ih =>
      intro t c1 H locs ls ht5 hD1 hfu w hl
      refine lv_iload_n hx hb dL_areSetsSo_6 rfl (lv_at hl 0 rfl) ?_
      refine lv_iconst (v := zI (4)) hx hb dL_areSetsSo_7 rfl ?_
      refine pz_icmpge (tgt := 49) hx hb dL_areSetsSo_8 (by decide) (⟨by omega, by omega⟩) (⟨by omega, by omega⟩) (fun hge => ?_) (fun hge => ?_)
      · have e4 : t = 4 := by omega
        subst e4
        have k2 := hoR 4 (by omega)
        by_cases hn : (nSf lim no gn gg nn pt ln wi) = 0
        · have es : (uSE lim no gn gg nn pt ln wi) = -1 := if_pos hn
          have g2 := g2 hn
          refine lv_aload_n hx hb dL_areSetsSo_49 rfl (lv_at hl 3 rfl) ?_
          refine pw_ci w (pw_runSW (As := [.ref (ad 0)]) (rest := []) w ⟨hx, hb, hml, hown, hts⟩ (q_L_leastSet l hsT D G ad N c1 hNe hD1 hV) (vx_cwSW 1 hts gL_areSetsSo_L_leastSet rfl rfl rfl (by decide +kernel) ⟨Nat.le_of_ble_eq_true rfl, Nat.le_of_ble_eq_true rfl⟩) rfl hl.1 rfl (lv_room (Nat.le_of_ble_eq_true rfl)) dL_areSetsSo_50 ⟨Nat.le_of_ble_eq_true rfl, Nat.le_of_ble_eq_true rfl⟩) (fun r_ c1 H locs hp w => ?_)
          have w : PW D G A s ad N c1 H locs := w
          obtain ⟨hv, hD1⟩ := hp
          subst hv
          refine pz_top (b := (-1)) (es) ?_
          refine lv_istore_n (lv' := [(3, .int (zI (-1))), (2, .int (zI ((oR nn 4 : Nat) : Int))), (1, .int (zI ((tC nn 4 : Nat) : Int))), (0, .ref (ad 0))]) hx hb dL_areSetsSo_53 rfl hl (by decide) rfl (fun ls hl => ?_)
          refine lv_aload_n hx hb dL_areSetsSo_54 rfl (lv_at hl 3 rfl) ?_
          refine pw_ci w (pw_runV (r := 0) (ci := 7) (As := []) (rest := []) w ⟨hx, hb, hml, hown, hts⟩ (c_X7_sets l D G ad N c1 hN hD1 hV hset) (cwV 0 hts gL_areSetsSo_X7_sets rfl rfl rfl (by decide +kernel) ⟨Nat.le_of_ble_eq_true rfl, Nat.le_of_ble_eq_true rfl⟩) (by omega) hD1.1 rfl rfl hl.1 rfl (lv_room (Nat.le_of_ble_eq_true rfl)) dL_areSetsSo_55 ⟨Nat.le_of_ble_eq_true rfl, Nat.le_of_ble_eq_true rfl⟩) (fun r_ c2 H locs hp w => ?_)
          have w : PW D G A s ad N c2 H locs := w
          obtain ⟨hv, hD2, -⟩ := hp
          subst hv
          refine pz_top (b := (nSf lim no gn gg nn pt ln wi)) (rfl) ?_
          refine lv_istore (lv' := [(4, .int (zI (nSf lim no gn gg nn pt ln wi))), (3, .int (zI (-1))), (2, .int (zI ((oR nn 4 : Nat) : Int))), (1, .int (zI ((tC nn 4 : Nat) : Int))), (0, .ref (ad 0))]) hx hb dL_areSetsSo_58 hl (by decide) rfl (fun ls hl => ?_)
          refine lv_iload_n hx hb dL_areSetsSo_60 rfl (lv_at hl 1 rfl) ?_
          refine pz_ifge (tgt := 89) hx hb dL_areSetsSo_61 (by decide) (⟨by omega, by omega⟩) (fun hq0 => ?_) (fun hq0 => ?_)
          · omega
          · refine lv_iload hx hb dL_areSetsSo_64 (lv_at hl 0 rfl) ?_
            refine pz_ifne (tgt := 87) hx hb dL_areSetsSo_66 (by decide) (⟨by omega, by omega⟩) (fun hq1 => ?_) (fun hq1 => ?_)
            · omega
            · refine lv_aload_n hx hb dL_areSetsSo_69 rfl (lv_at hl 4 rfl) ?_
              refine lv_iconst (v := zI (0)) hx hb dL_areSetsSo_70 rfl ?_
              refine pw_ci w (pw_runSW (As := [.ref (ad 0), .int (zI 0)]) (rest := []) w ⟨hx, hb, hml, hown, hts⟩ (x_L_tuneAt1 l hsT D G ad N c2 hNe hD2 hV hset hn (z := 0)) (vx_cwSW 2 hts gL_areSetsSo_L_tuneAt rfl rfl rfl (by decide +kernel) ⟨Nat.le_of_ble_eq_true rfl, Nat.le_of_ble_eq_true rfl⟩) rfl hl.1 rfl (lv_room (Nat.le_of_ble_eq_true rfl)) dL_areSetsSo_71 ⟨Nat.le_of_ble_eq_true rfl, Nat.le_of_ble_eq_true rfl⟩) (fun r_ c3 H locs hp w => ?_)
              have w : PW D G A s ad N c3 H locs := w
              obtain ⟨hv, hD3⟩ := hp
              subst hv
              refine lv_bipush (v := zI (-2)) hx hb dL_areSetsSo_74 (by decide +kernel) ?_
              refine pz_icmpne (tgt := 87) hx hb dL_areSetsSo_76 (by decide) (⟨by omega, by omega⟩) (⟨by omega, by omega⟩) (fun hq2 => ?_) (fun hq2 => ?_)
              · omega
              · refine lv_iload_n hx hb dL_areSetsSo_79 rfl (lv_at hl 3 rfl) ?_
                refine pz_ifle (tgt := 87) hx hb dL_areSetsSo_80 (by decide) (⟨by omega, by omega⟩) (fun hq3 => ?_) (fun hq3 => ?_)
                · omega
                · refine lv_iconst (v := zI (1)) hx hb dL_areSetsSo_83 rfl ?_
                  refine lv_goto (tgt := 88) hx hb dL_areSetsSo_84 (by decide) ?_
                  exact fin (ad, N, c3) c3 _ _ _ _ _ _ _ rfl (Or.inr rfl) ⟨rfl, hD3⟩ w dL_areSetsSo_88 (Nat.le_of_ble_eq_true rfl) (Nat.le_of_ble_eq_true rfl)
        · have es : (uSE lim no gn gg nn pt ln wi) = (lSf lim no gn gg nn pt ln wi) := if_neg hn
          obtain ⟨⟨l0, l1⟩, hb9, hd9, hsum, h19⟩ := g3 hn
          refine lv_aload_n hx hb dL_areSetsSo_49 rfl (lv_at hl 3 rfl) ?_
          refine pw_ci w (pw_runSW (As := [.ref (ad 0)]) (rest := []) w ⟨hx, hb, hml, hown, hts⟩ (q_L_leastSet l hsT D G ad N c1 hNe hD1 hV) (vx_cwSW 1 hts gL_areSetsSo_L_leastSet rfl rfl rfl (by decide +kernel) ⟨Nat.le_of_ble_eq_true rfl, Nat.le_of_ble_eq_true rfl⟩) rfl hl.1 rfl (lv_room (Nat.le_of_ble_eq_true rfl)) dL_areSetsSo_50 ⟨Nat.le_of_ble_eq_true rfl, Nat.le_of_ble_eq_true rfl⟩) (fun r_ c4 H locs hp w => ?_)
          have w : PW D G A s ad N c4 H locs := w
          obtain ⟨hv, hD4⟩ := hp
          subst hv
          refine pz_top (b := (lSf lim no gn gg nn pt ln wi)) (es) ?_
          refine lv_istore_n (lv' := [(3, .int (zI (lSf lim no gn gg nn pt ln wi))), (2, .int (zI ((oR nn 4 : Nat) : Int))), (1, .int (zI ((tC nn 4 : Nat) : Int))), (0, .ref (ad 0))]) hx hb dL_areSetsSo_53 rfl hl (by decide) rfl (fun ls hl => ?_)
          refine lv_aload_n hx hb dL_areSetsSo_54 rfl (lv_at hl 3 rfl) ?_
          refine pw_ci w (pw_runV (r := 0) (ci := 7) (As := []) (rest := []) w ⟨hx, hb, hml, hown, hts⟩ (c_X7_sets l D G ad N c4 hN hD4 hV hset) (cwV 0 hts gL_areSetsSo_X7_sets rfl rfl rfl (by decide +kernel) ⟨Nat.le_of_ble_eq_true rfl, Nat.le_of_ble_eq_true rfl⟩) (by omega) hD4.1 rfl rfl hl.1 rfl (lv_room (Nat.le_of_ble_eq_true rfl)) dL_areSetsSo_55 ⟨Nat.le_of_ble_eq_true rfl, Nat.le_of_ble_eq_true rfl⟩) (fun r_ c5 H locs hp w => ?_)
          have w : PW D G A s ad N c5 H locs := w
          obtain ⟨hv, hD5, -⟩ := hp
          subst hv
          refine pz_top (b := (nSf lim no gn gg nn pt ln wi)) (rfl) ?_
          refine lv_istore (lv' := [(4, .int (zI (nSf lim no gn gg nn pt ln wi))), (3, .int (zI (lSf lim no gn gg nn pt ln wi))), (2, .int (zI ((oR nn 4 : Nat) : Int))), (1, .int (zI ((tC nn 4 : Nat) : Int))), (0, .ref (ad 0))]) hx hb dL_areSetsSo_58 hl (by decide) rfl (fun ls hl => ?_)
          refine lv_iload_n hx hb dL_areSetsSo_60 rfl (lv_at hl 1 rfl) ?_
          refine pz_ifge (tgt := 89) hx hb dL_areSetsSo_61 (by decide) (⟨by omega, by omega⟩) (fun hq0 => ?_) (fun hq0 => ?_)
          · refine lv_iconst (v := zI (0)) hx hb dL_areSetsSo_89 rfl ?_
            refine pz_top (b := ((mtF (bSf lim no gn gg nn pt ln wi) 0 : Nat) : Int)) (rfl) ?_
            refine lv_istore (lv' := [(5, .int (zI ((mtF (bSf lim no gn gg nn pt ln wi) 0 : Nat) : Int))), (4, .int (zI (nSf lim no gn gg nn pt ln wi))), (3, .int (zI (lSf lim no gn gg nn pt ln wi))), (2, .int (zI ((oR nn 4 : Nat) : Int))), (1, .int (zI ((tC nn 4 : Nat) : Int))), (0, .ref (ad 0))]) hx hb dL_areSetsSo_90 hl (by decide) rfl (fun ls hl => ?_)
            refine lv_iconst (v := zI (0)) hx hb dL_areSetsSo_92 rfl ?_
            refine pz_top (b := (sumU (fun j => uLS lim no gn gg nn pt ln wi (bSf lim no gn gg nn pt ln wi j)) 0)) (rfl) ?_
            refine lv_istore (lv' := [(6, .int (zI (sumU (fun j => uLS lim no gn gg nn pt ln wi (bSf lim no gn gg nn pt ln wi j)) 0))), (5, .int (zI ((mtF (bSf lim no gn gg nn pt ln wi) 0 : Nat) : Int))), (4, .int (zI (nSf lim no gn gg nn pt ln wi))), (3, .int (zI (lSf lim no gn gg nn pt ln wi))), (2, .int (zI ((oR nn 4 : Nat) : Int))), (1, .int (zI ((tC nn 4 : Nat) : Int))), (0, .ref (ad 0))]) hx hb dL_areSetsSo_93 hl (by decide) rfl (fun ls hl => ?_)
            refine lv_iconst (v := zI (0)) hx hb dL_areSetsSo_95 rfl ?_
            refine pz_top (b := ((0 : Nat) : Int)) (rfl) ?_
            refine lv_istore (lv' := [(7, .int (zI ((0 : Nat) : Int))), (6, .int (zI (sumU (fun j => uLS lim no gn gg nn pt ln wi (bSf lim no gn gg nn pt ln wi j)) 0))), (5, .int (zI ((mtF (bSf lim no gn gg nn pt ln wi) 0 : Nat) : Int))), (4, .int (zI (nSf lim no gn gg nn pt ln wi))), (3, .int (zI (lSf lim no gn gg nn pt ln wi))), (2, .int (zI ((oR nn 4 : Nat) : Int))), (1, .int (zI ((tC nn 4 : Nat) : Int))), (0, .ref (ad 0))]) hx hb dL_areSetsSo_96 hl (by decide) rfl (fun ls hl => ?_)
            have lp2 : ∀ (f : Nat) (p9 : Nat) (c1 : Nat → va_E) (H : Heap) (locs : List Loc) (ls : Array Slot) (cl : Nat) (sl : Nat), p9 ≤ tC nn 4 → cl ≤ 2 + 6 * p9 → sl ≤ 6 + 18 * p9 → DK G ad c1 lim no dn gn gg dg nn pt ln wi → tC nn 4 < f + p9 → PW D G A s ad N c1 H locs → lv_has ls 9 [(7, .int (zI (p9 : Int))), (6, .int (zI (sumU (fun j => uLS lim no gn gg nn pt ln wi (bSf lim no gn gg nn pt ln wi j)) p9))), (5, .int (zI ((mtF (bSf lim no gn gg nn pt ln wi) p9 : Nat) : Int))), (4, .int (zI (nSf lim no gn gg nn pt ln wi))), (3, .int (zI (lSf lim no gn gg nn pt ln wi))), (2, .int (zI ((oR nn 4 : Nat) : Int))), (1, .int (zI ((tC nn 4 : Nat) : Int))), (0, .ref (ad 0))] → W p l e rm_L_areSetsSo s m args below meth kc H locs cl sl Q (F0 m 98 ls []) := by
              intro f
              induction f with
              | zero => intro p9 c1 H locs ls cl sl hp5 hcl hsl hD1 hfu w hl; omega
              | succ f ih =>
                intro p9 c1 H locs ls cl sl hp5 hcl hsl hD1 hfu w hl
                have hmt := mt_ok (bS := (bSf lim no gn gg nn pt ln wi)) p9 (fun j hj => (hb9 j (by omega)).1)
                have hs0 : 0 ≤ (sumU (fun j => uLS lim no gn gg nn pt ln wi (bSf lim no gn gg nn pt ln wi j)) p9) := sumU_nn (fun j => (less_bd (Rr_bd (w := cwT lim no gn gg nn pt ln wi (bSf lim no gn gg nn pt ln wi j)) (fun i o _ => cwT_bd hOV hUV _ i o) _ 0)).1) p9
                have hs1 : (sumU (fun j => uLS lim no gn gg nn pt ln wi (bSf lim no gn gg nn pt ln wi j)) p9) ≤ (lSf lim no gn gg nn pt ln wi) := Int.le_trans (sumU_mono (fun j => (less_bd (Rr_bd (w := cwT lim no gn gg nn pt ln wi (bSf lim no gn gg nn pt ln wi j)) (fun i o _ => cwT_bd hOV hUV _ i o) _ 0)).1) hp5) hsum
                refine lv_iload hx hb dL_areSetsSo_98 (lv_at hl 0 rfl) ?_
                refine lv_iload_n hx hb dL_areSetsSo_100 rfl (lv_at hl 6 rfl) ?_
                refine pz_icmpge (tgt := 185) hx hb dL_areSetsSo_101 (by decide) (⟨by omega, by omega⟩) (⟨by omega, by omega⟩) (fun hq5 => ?_) (fun hq5 => ?_)
                · have ep : p9 = tC nn 4 := by omega
                  refine lv_iload hx hb dL_areSetsSo_185 (lv_at hl 3 rfl) ?_
                  refine lv_iconst (v := zI (1)) hx hb dL_areSetsSo_187 rfl ?_
                  refine pz_icmplt (tgt := 242) hx hb dL_areSetsSo_188 (by decide) (⟨by omega, by omega⟩) (⟨by omega, by omega⟩) (fun hq6 => ?_) (fun hq6 => ?_)
                  · omega
                  · refine lv_iload hx hb dL_areSetsSo_191 (lv_at hl 3 rfl) ?_
                    refine lv_iload_n hx hb dL_areSetsSo_193 rfl (lv_at hl 5 rfl) ?_
                    refine pz_icmpgt (tgt := 242) hx hb dL_areSetsSo_194 (by decide) (⟨by omega, by omega⟩) (⟨by omega, by omega⟩) (fun hq7 => ?_) (fun hq7 => ?_)
                    · omega
                    · refine lv_iload hx hb dL_areSetsSo_197 (lv_at hl 1 rfl) ?_
                      refine lv_iload_n hx hb dL_areSetsSo_199 rfl (lv_at hl 4 rfl) ?_
                      refine pz_icmpgt (tgt := 242) hx hb dL_areSetsSo_200 (by decide) (⟨by omega, by omega⟩) (⟨by omega, by omega⟩) (fun hq8 => ?_) (fun hq8 => ?_)
                      · omega
                      · refine lv_aload_n hx hb dL_areSetsSo_203 rfl (lv_at hl 7 rfl) ?_
                        refine lv_iload_n hx hb dL_areSetsSo_204 rfl (lv_at hl 6 rfl) ?_
                        refine pw_ci w (pw_runSW (As := [.ref (ad 0), .int (zI ((tC nn 4 : Nat) : Int))]) (rest := []) w ⟨hx, hb, hml, hown, hts⟩ (x_L_tuneAt2 l hsT D G ad N c1 hNe hD1 hV hset hn (z := ((tC nn 4 : Nat) : Int)) ⟨by omega, by omega⟩ (by omega)) (vx_cwSW 2 hts gL_areSetsSo_L_tuneAt rfl rfl rfl (by decide +kernel) ⟨Nat.le_of_ble_eq_true rfl, Nat.le_of_ble_eq_true rfl⟩) rfl hl.1 rfl (lv_room (Nat.le_of_ble_eq_true rfl)) dL_areSetsSo_205 ⟨by show (_ : Nat) ≤ 40; omega, by show (_ : Nat) ≤ 120; omega⟩) (fun r_ c6 H locs hp w => ?_)
                        have w : PW D G A s ad N c6 H locs := w
                        obtain ⟨hv, hD6⟩ := hp
                        subst hv
                        refine lv_iconst (v := zI (-1)) hx hb dL_areSetsSo_208 rfl ?_
                        refine pz_icmpne (tgt := 242) hx hb dL_areSetsSo_209 (by decide) (⟨by omega, by omega⟩) (⟨by omega, by omega⟩) (fun hq9 => ?_) (fun hq9 => ?_)
                        · omega
                        · refine lv_aload_n hx hb dL_areSetsSo_212 rfl (lv_at hl 7 rfl) ?_
                          refine lv_iconst (v := zI (-1)) hx hb dL_areSetsSo_213 rfl ?_
                          refine pw_ci w (pw_runSW (As := [.ref (ad 0), .int (zI (-1))]) (rest := []) w ⟨hx, hb, hml, hown, hts⟩ (x_L_tuneAt2 l hsT D G ad N c6 hNe hD6 hV hset hn (z := (-1)) ⟨by omega, by omega⟩ (by omega)) (vx_cwSW 2 hts gL_areSetsSo_L_tuneAt rfl rfl rfl (by decide +kernel) ⟨Nat.le_of_ble_eq_true rfl, Nat.le_of_ble_eq_true rfl⟩) rfl hl.1 rfl (lv_room (Nat.le_of_ble_eq_true rfl)) dL_areSetsSo_214 ⟨by show (_ : Nat) ≤ 40; omega, by show (_ : Nat) ≤ 120; omega⟩) (fun r_ c7 H locs hp w => ?_)
                          have w : PW D G A s ad N c7 H locs := w
                          obtain ⟨hv, hD7⟩ := hp
                          subst hv
                          refine lv_iconst (v := zI (-1)) hx hb dL_areSetsSo_217 rfl ?_
                          refine pz_icmpne (tgt := 242) hx hb dL_areSetsSo_218 (by decide) (⟨by omega, by omega⟩) (⟨by omega, by omega⟩) (fun hr0 => ?_) (fun hr0 => ?_)
                          · omega
                          · refine lv_iload_n hx hb dL_areSetsSo_221 rfl (lv_at hl 6 rfl) ?_
                            refine lv_iconst (v := zI (1)) hx hb dL_areSetsSo_222 rfl ?_
                            refine pz_icmpne (tgt := 238) hx hb dL_areSetsSo_223 (by decide) (⟨by omega, by omega⟩) (⟨by omega, by omega⟩) (fun hr1 => ?_) (fun hr1 => ?_)
                            · refine lv_iconst (v := zI (1)) hx hb dL_areSetsSo_238 rfl ?_
                              refine lv_goto (tgt := 243) hx hb dL_areSetsSo_239 (by decide) ?_
                              exact fin (ad, N, c7) c7 _ _ _ _ _ _ _ rfl (Or.inr rfl) ⟨rfl, hD7⟩ w dL_areSetsSo_243 (by omega) (by omega)
                            · have t1 : tC nn 4 = 1 := by omega
                              have h29 := h19 t1
                              have ho1 := (vl_good2 nn).2.2.1 t1
                              have hs2 : (sumU (fun j => uLS lim no gn gg nn pt ln wi (bSf lim no gn gg nn pt ln wi j)) p9) = uLS lim no gn gg nn pt ln wi (bSf lim no gn gg nn pt ln wi 0) := by
                                rw [ep, t1]
                                exact Int.zero_add _
                              refine lv_iload_n hx hb dL_areSetsSo_226 rfl (lv_at hl 4 rfl) ?_
                              refine lv_iload hx hb dL_areSetsSo_227 (lv_at hl 1 rfl) ?_
                              refine pz_icmpne (tgt := 242) hx hb dL_areSetsSo_229 (by decide) (⟨by omega, by omega⟩) (⟨by omega, by omega⟩) (fun hr2 => ?_) (fun hr2 => ?_)
                              · omega
                              · refine lv_iload hx hb dL_areSetsSo_232 (lv_at hl 3 rfl) ?_
                                refine lv_iconst (v := zI (1)) hx hb dL_areSetsSo_234 rfl ?_
                                refine pz_icmpne (tgt := 242) hx hb dL_areSetsSo_235 (by decide) (⟨by omega, by omega⟩) (⟨by omega, by omega⟩) (fun hr3 => ?_) (fun hr3 => ?_)
                                · omega
                                · refine lv_iconst (v := zI (1)) hx hb dL_areSetsSo_238 rfl ?_
                                  refine lv_goto (tgt := 243) hx hb dL_areSetsSo_239 (by decide) ?_
                                  exact fin (ad, N, c7) c7 _ _ _ _ _ _ _ rfl (Or.inr rfl) ⟨rfl, hD7⟩ w dL_areSetsSo_243 (by omega) (by omega)
                · obtain ⟨b4, bn, bl⟩ := hb9 p9 (by omega)
                  have hn10 := (hUV (bSf lim no gn gg nn pt ln wi p9) b4).1
                  have hls := U_least (lim := lim) hOV hUV b4
                  have ele : uLE lim no gn gg nn pt ln wi (bSf lim no gn gg nn pt ln wi p9) = uLS lim no gn gg nn pt ln wi (bSf lim no gn gg nn pt ln wi p9) := if_pos bl
                  refine lv_aload_n hx hb dL_areSetsSo_104 rfl (lv_at hl 7 rfl) ?_
                  refine lv_iload hx hb dL_areSetsSo_105 (lv_at hl 0 rfl) ?_
                  refine pw_ci w (pw_runSW (As := [.ref (ad 0), .int (zI (p9 : Int))]) (rest := []) w ⟨hx, hb, hml, hown, hts⟩ (c_L_tuneAt l D G ad N c1 hNe hD1 hV hset hn (i := p9) (by omega)) (vx_cwSW 2 hts gL_areSetsSo_L_tuneAt rfl rfl rfl (by decide +kernel) ⟨Nat.le_of_ble_eq_true rfl, Nat.le_of_ble_eq_true rfl⟩) rfl hl.1 rfl (lv_room (Nat.le_of_ble_eq_true rfl)) dL_areSetsSo_107 ⟨by show (_ : Nat) ≤ 40; omega, by show (_ : Nat) ≤ 120; omega⟩) (fun r_ c8 H locs hp w => ?_)
                  have w : PW D G A s ad N c8 H locs := w
                  obtain ⟨hv, hD8⟩ := hp
                  subst hv
                  refine pz_top (b := ((bSf lim no gn gg nn pt ln wi p9) : Int)) (rfl) ?_
                  refine lv_istore (lv' := [(8, .int (zI ((bSf lim no gn gg nn pt ln wi p9) : Int))), (7, .int (zI (p9 : Int))), (6, .int (zI (sumU (fun j => uLS lim no gn gg nn pt ln wi (bSf lim no gn gg nn pt ln wi j)) p9))), (5, .int (zI ((mtF (bSf lim no gn gg nn pt ln wi) p9 : Nat) : Int))), (4, .int (zI (nSf lim no gn gg nn pt ln wi))), (3, .int (zI (lSf lim no gn gg nn pt ln wi))), (2, .int (zI ((oR nn 4 : Nat) : Int))), (1, .int (zI ((tC nn 4 : Nat) : Int))), (0, .ref (ad 0))]) hx hb dL_areSetsSo_110 hl (by decide) rfl (fun ls hl => ?_)
                  refine lv_iload hx hb dL_areSetsSo_112 (lv_at hl 0 rfl) ?_
                  refine pz_iflt (tgt := 143) hx hb dL_areSetsSo_114 (by decide) (⟨by omega, by omega⟩) (fun hq6 => ?_) (fun hq6 => ?_)
                  · omega
                  · refine lv_iload hx hb dL_areSetsSo_117 (lv_at hl 0 rfl) ?_
                    refine lv_iconst (v := zI (3)) hx hb dL_areSetsSo_119 rfl ?_
                    refine pz_icmpgt (tgt := 143) hx hb dL_areSetsSo_120 (by decide) (⟨by omega, by omega⟩) (⟨by omega, by omega⟩) (fun hq7 => ?_) (fun hq7 => ?_)
                    · omega
                    · refine lv_aload_n hx hb dL_areSetsSo_123 rfl (lv_at hl 8 rfl) ?_
                      refine lv_iload hx hb dL_areSetsSo_124 (lv_at hl 0 rfl) ?_
                      refine pw_ci w (pw_runV (r := 0) (ci := 7) (As := [.int (zI ((bSf lim no gn gg nn pt ln wi p9) : Int))]) (rest := []) w ⟨hx, hb, hml, hown, hts⟩ (c_X7_notes l D G ad N c8 hN hD8 hV (t := (bSf lim no gn gg nn pt ln wi p9)) b4) (cwV 1 hts gL_areSetsSo_X7_notes rfl rfl rfl (by decide +kernel) ⟨Nat.le_of_ble_eq_true rfl, Nat.le_of_ble_eq_true rfl⟩) (by omega) hD8.1 rfl rfl hl.1 rfl (lv_room (Nat.le_of_ble_eq_true rfl)) dL_areSetsSo_126 ⟨by show (_ : Nat) ≤ 40; omega, by show (_ : Nat) ≤ 120; omega⟩) (fun r_ c9 H locs hp w => ?_)
                      have w : PW D G A s ad N c9 H locs := w
                      obtain ⟨hv, hD9, -⟩ := hp
                      subst hv
                      refine pz_ifeq (tgt := 143) hx hb dL_areSetsSo_129 (by decide) (⟨by omega, by omega⟩) (fun hq8 => ?_) (fun hq8 => ?_)
                      · omega
                      · refine lv_iload hx hb dL_areSetsSo_132 (lv_at hl 3 rfl) ?_
                        refine lv_iload hx hb dL_areSetsSo_134 (lv_at hl 0 rfl) ?_
                        refine lv_ishr hx hb dL_areSetsSo_136 ?_
                        refine lv_iconst (v := zI (1)) hx hb dL_areSetsSo_137 rfl ?_
                        refine lv_iand hx hb dL_areSetsSo_138 ?_
                        refine pz_topI (y := zI 0) (by rw [lo_bit _ hmt.1 _ b4, hmt.2 _ b4 (fun j hj => hd9 p9 (by omega) j hj)]; rfl) ?_
                        refine lv_iconst (v := zI (1)) hx hb dL_areSetsSo_139 rfl ?_
                        refine pz_icmpne (tgt := 145) hx hb dL_areSetsSo_140 (by decide) (⟨by omega, by omega⟩) (⟨by omega, by omega⟩) (fun hq9 => ?_) (fun hq9 => ?_)
                        · refine lv_iload hx hb dL_areSetsSo_145 (lv_at hl 3 rfl) ?_
                          refine lv_iconst (v := zI (1)) hx hb dL_areSetsSo_147 rfl ?_
                          refine lv_iload hx hb dL_areSetsSo_148 (lv_at hl 0 rfl) ?_
                          refine lv_ishl hx hb dL_areSetsSo_150 ?_
                          refine lv_ior hx hb dL_areSetsSo_151 ?_
                          refine pz_topI (y := zI ((mtF (bSf lim no gn gg nn pt ln wi) (p9 + 1) : Nat) : Int)) (lo_or _ hmt.1 _ b4) ?_
                          refine lv_istore (lv' := [(5, .int (zI ((mtF (bSf lim no gn gg nn pt ln wi) (p9 + 1) : Nat) : Int))), (8, .int (zI ((bSf lim no gn gg nn pt ln wi p9) : Int))), (7, .int (zI (p9 : Int))), (6, .int (zI (sumU (fun j => uLS lim no gn gg nn pt ln wi (bSf lim no gn gg nn pt ln wi j)) p9))), (4, .int (zI (nSf lim no gn gg nn pt ln wi))), (3, .int (zI (lSf lim no gn gg nn pt ln wi))), (2, .int (zI ((oR nn 4 : Nat) : Int))), (1, .int (zI ((tC nn 4 : Nat) : Int))), (0, .ref (ad 0))]) hx hb dL_areSetsSo_152 hl (by decide) rfl (fun ls hl => ?_)
                          refine lv_iload hx hb dL_areSetsSo_154 (lv_at hl 3 rfl) ?_
                          refine lv_aload_n hx hb dL_areSetsSo_156 rfl (lv_at hl 8 rfl) ?_
                          refine lv_iload hx hb dL_areSetsSo_157 (lv_at hl 1 rfl) ?_
                          refine pw_ci w (pw_runSW (As := [.ref (ad 0), .int (zI ((bSf lim no gn gg nn pt ln wi p9) : Int))]) (rest := [.int (zI (sumU (fun j => uLS lim no gn gg nn pt ln wi (bSf lim no gn gg nn pt ln wi j)) p9))]) w ⟨hx, hb, hml, hown, hts⟩ (q_L_least l hsT D G ad N c9 hNe hD9 hV (t := (bSf lim no gn gg nn pt ln wi p9)) b4) (vx_cwSW 2 hts gL_areSetsSo_L_least rfl rfl rfl (by decide +kernel) ⟨Nat.le_of_ble_eq_true rfl, Nat.le_of_ble_eq_true rfl⟩) rfl hl.1 rfl (lv_room (Nat.le_of_ble_eq_true rfl)) dL_areSetsSo_159 ⟨by show (_ : Nat) ≤ 40; omega, by show (_ : Nat) ≤ 120; omega⟩) (fun r_ c10 H locs hp w => ?_)
                          have w : PW D G A s ad N c10 H locs := w
                          obtain ⟨hv, hD10⟩ := hp
                          subst hv
                          refine pz_top (b := (uLS lim no gn gg nn pt ln wi (bSf lim no gn gg nn pt ln wi p9))) (ele) ?_
                          refine pz_ifge (tgt := 170) hx hb dL_areSetsSo_162 (by decide) (⟨by omega, by omega⟩) (fun hqa => ?_) (fun hqa => ?_)
                          · refine lv_aload_n hx hb dL_areSetsSo_170 rfl (lv_at hl 8 rfl) ?_
                            refine lv_iload hx hb dL_areSetsSo_171 (lv_at hl 1 rfl) ?_
                            refine pw_ci w (pw_runSW (As := [.ref (ad 0), .int (zI ((bSf lim no gn gg nn pt ln wi p9) : Int))]) (rest := [.int (zI (sumU (fun j => uLS lim no gn gg nn pt ln wi (bSf lim no gn gg nn pt ln wi j)) p9))]) w ⟨hx, hb, hml, hown, hts⟩ (q_L_least l hsT D G ad N c10 hNe hD10 hV (t := (bSf lim no gn gg nn pt ln wi p9)) b4) (vx_cwSW 2 hts gL_areSetsSo_L_least rfl rfl rfl (by decide +kernel) ⟨Nat.le_of_ble_eq_true rfl, Nat.le_of_ble_eq_true rfl⟩) rfl hl.1 rfl (lv_room (Nat.le_of_ble_eq_true rfl)) dL_areSetsSo_173 ⟨by show (_ : Nat) ≤ 40; omega, by show (_ : Nat) ≤ 120; omega⟩) (fun r_ c11 H locs hp w => ?_)
                            have w : PW D G A s ad N c11 H locs := w
                            obtain ⟨hv, hD11⟩ := hp
                            subst hv
                            refine pz_top (b := (uLS lim no gn gg nn pt ln wi (bSf lim no gn gg nn pt ln wi p9))) (ele) ?_
                            refine pz_iadd hx hb dL_areSetsSo_176 ?_
                            refine pz_top (b := (sumU (fun j => uLS lim no gn gg nn pt ln wi (bSf lim no gn gg nn pt ln wi j)) (p9 + 1))) (rfl) ?_
                            refine lv_istore (lv' := [(6, .int (zI (sumU (fun j => uLS lim no gn gg nn pt ln wi (bSf lim no gn gg nn pt ln wi j)) (p9 + 1)))), (5, .int (zI ((mtF (bSf lim no gn gg nn pt ln wi) (p9 + 1) : Nat) : Int))), (8, .int (zI ((bSf lim no gn gg nn pt ln wi p9) : Int))), (7, .int (zI (p9 : Int))), (4, .int (zI (nSf lim no gn gg nn pt ln wi))), (3, .int (zI (lSf lim no gn gg nn pt ln wi))), (2, .int (zI ((oR nn 4 : Nat) : Int))), (1, .int (zI ((tC nn 4 : Nat) : Int))), (0, .ref (ad 0))]) hx hb dL_areSetsSo_177 hl (by decide) rfl (fun ls hl => ?_)
                            refine pz_iinc (lv' := [(7, .int (zI ((p9 + 1 : Nat) : Int))), (6, .int (zI (sumU (fun j => uLS lim no gn gg nn pt ln wi (bSf lim no gn gg nn pt ln wi j)) (p9 + 1)))), (5, .int (zI ((mtF (bSf lim no gn gg nn pt ln wi) (p9 + 1) : Nat) : Int))), (8, .int (zI ((bSf lim no gn gg nn pt ln wi p9) : Int))), (4, .int (zI (nSf lim no gn gg nn pt ln wi))), (3, .int (zI (lSf lim no gn gg nn pt ln wi))), (2, .int (zI ((oR nn 4 : Nat) : Int))), (1, .int (zI ((tC nn 4 : Nat) : Int))), (0, .ref (ad 0))]) hx hb dL_areSetsSo_179 hl (j := 3) rfl ((p9 + 1 : Nat) : Int) (by omega) (by decide) rfl (fun ls hl => ?_)
                            refine lv_goto (tgt := 98) hx hb dL_areSetsSo_182 (by decide) ?_
                            exact ih (p9 + 1) c11 H locs ls _ _ (by omega) (by omega) (by omega) hD11 (by omega) w (lv_sub hl [0, 1, 2, 4, 5, 6, 7, 8] rfl)
                          · omega
                        · omega
            exact lp2 5 0 c5 H locs ls _ _ (by omega) (by omega) (by omega) hD5 (by omega) w (lv_sub hl [0, 1, 2, 3, 4, 5, 6, 7] rfl)
          · omega
      · have ht : t < 4 := by omega
        have hn10 := (hUV t ht).1
        have k1 := tC_le nn t
        have k2 := hoR t (by omega)
        have k3 := hoR (t + 1) (by omega)
        have k4 := tC_le nn (t + 1)
        refine lv_iload_n hx hb dL_areSetsSo_11 rfl (lv_at hl 2 rfl) ?_
        refine lv_aload_n hx hb dL_areSetsSo_12 rfl (lv_at hl 3 rfl) ?_
        refine lv_iload_n hx hb dL_areSetsSo_13 rfl (lv_at hl 0 rfl) ?_
        refine pw_ci w (pw_runV (r := 0) (ci := 7) (As := [.int (zI (t : Int))]) (rest := [.int (zI ((tC nn t : Nat) : Int))]) w ⟨hx, hb, hml, hown, hts⟩ (c_X7_notes l D G ad N c1 hN hD1 hV ht) (cwV 1 hts gL_areSetsSo_X7_notes rfl rfl rfl (by decide +kernel) ⟨Nat.le_of_ble_eq_true rfl, Nat.le_of_ble_eq_true rfl⟩) (by omega) hD1.1 rfl rfl hl.1 rfl (lv_room (Nat.le_of_ble_eq_true rfl)) dL_areSetsSo_14 ⟨Nat.le_of_ble_eq_true rfl, Nat.le_of_ble_eq_true rfl⟩) (fun r_ c12 H locs hp w => ?_)
        have w : PW D G A s ad N c12 H locs := w
        obtain ⟨hv, hD12, -⟩ := hp
        subst hv
        refine pz_ifle (tgt := 24) hx hb dL_areSetsSo_17 (by decide) (⟨by omega, by omega⟩) (fun hq1 => ?_) (fun hq1 => ?_)
        · have et : tC nn (t + 1) = tC nn t + 0 := by
            show tC nn t + (if 0 < nn t then 1 else 0) = _
            rw [if_neg (by omega)]
          have eo : oR nn (t + 1) = oR nn t * 1 := by
            show oR nn t * (if 0 < nn t then tC nn (t + 1) else 1) = _
            rw [if_neg (by omega)]
          refine lv_iconst (v := zI (0)) hx hb dL_areSetsSo_24 rfl ?_
          refine pz_iadd hx hb dL_areSetsSo_25 ?_
          refine pz_top (b := ((tC nn (t + 1) : Nat) : Int)) (by omega) ?_
          refine lv_istore_n (lv' := [(1, .int (zI ((tC nn (t + 1) : Nat) : Int))), (3, .int (zI (t : Int))), (2, .int (zI ((oR nn t : Nat) : Int))), (0, .ref (ad 0))]) hx hb dL_areSetsSo_26 rfl hl (by decide) rfl (fun ls hl => ?_)
          refine lv_iload_n hx hb dL_areSetsSo_27 rfl (lv_at hl 2 rfl) ?_
          refine lv_aload_n hx hb dL_areSetsSo_28 rfl (lv_at hl 3 rfl) ?_
          refine lv_iload_n hx hb dL_areSetsSo_29 rfl (lv_at hl 1 rfl) ?_
          refine pw_ci w (pw_runV (r := 0) (ci := 7) (As := [.int (zI (t : Int))]) (rest := [.int (zI ((oR nn t : Nat) : Int))]) w ⟨hx, hb, hml, hown, hts⟩ (c_X7_notes l D G ad N c12 hN hD12 hV ht) (cwV 1 hts gL_areSetsSo_X7_notes rfl rfl rfl (by decide +kernel) ⟨Nat.le_of_ble_eq_true rfl, Nat.le_of_ble_eq_true rfl⟩) (by omega) hD12.1 rfl rfl hl.1 rfl (lv_room (Nat.le_of_ble_eq_true rfl)) dL_areSetsSo_30 ⟨Nat.le_of_ble_eq_true rfl, Nat.le_of_ble_eq_true rfl⟩) (fun r_ c13 H locs hp w => ?_)
          have w : PW D G A s ad N c13 H locs := w
          obtain ⟨hv, hD13, -⟩ := hp
          subst hv
          refine pz_ifle (tgt := 40) hx hb dL_areSetsSo_33 (by decide) (⟨by omega, by omega⟩) (fun hq2 => ?_) (fun hq2 => ?_)
          · refine lv_iconst (v := zI (1)) hx hb dL_areSetsSo_40 rfl ?_
            refine pz_imul hx hb dL_areSetsSo_41 ?_
            refine pz_top (b := ((oR nn (t + 1) : Nat) : Int)) (by rw [eo]; omega) ?_
            refine lv_istore_n (lv' := [(2, .int (zI ((oR nn (t + 1) : Nat) : Int))), (1, .int (zI ((tC nn (t + 1) : Nat) : Int))), (3, .int (zI (t : Int))), (0, .ref (ad 0))]) hx hb dL_areSetsSo_42 rfl hl (by decide) rfl (fun ls hl => ?_)
            refine pz_iinc (lv' := [(3, .int (zI ((t + 1 : Nat) : Int))), (2, .int (zI ((oR nn (t + 1) : Nat) : Int))), (1, .int (zI ((tC nn (t + 1) : Nat) : Int))), (0, .ref (ad 0))]) hx hb dL_areSetsSo_43 hl (j := 2) rfl ((t + 1 : Nat) : Int) (by omega) (by decide) rfl (fun ls hl => ?_)
            refine lv_goto (tgt := 6) hx hb dL_areSetsSo_46 (by decide) ?_
            exact ih (t + 1) c13 H locs ls (by omega) hD13 (by omega) w (lv_sub hl [0, 1, 2, 3] rfl)
          · omega
        · have et : tC nn (t + 1) = tC nn t + 1 := by
            show tC nn t + (if 0 < nn t then 1 else 0) = _
            rw [if_pos (by omega)]
          have eo : oR nn (t + 1) = oR nn t * tC nn (t + 1) := by
            show oR nn t * (if 0 < nn t then tC nn (t + 1) else 1) = _
            rw [if_pos (by omega)]
          refine lv_iconst (v := zI (1)) hx hb dL_areSetsSo_20 rfl ?_
          refine lv_goto (tgt := 25) hx hb dL_areSetsSo_21 (by decide) ?_
          refine pz_iadd hx hb dL_areSetsSo_25 ?_
          refine pz_top (b := ((tC nn (t + 1) : Nat) : Int)) (by omega) ?_
          refine lv_istore_n (lv' := [(1, .int (zI ((tC nn (t + 1) : Nat) : Int))), (3, .int (zI (t : Int))), (2, .int (zI ((oR nn t : Nat) : Int))), (0, .ref (ad 0))]) hx hb dL_areSetsSo_26 rfl hl (by decide) rfl (fun ls hl => ?_)
          refine lv_iload_n hx hb dL_areSetsSo_27 rfl (lv_at hl 2 rfl) ?_
          refine lv_aload_n hx hb dL_areSetsSo_28 rfl (lv_at hl 3 rfl) ?_
          refine lv_iload_n hx hb dL_areSetsSo_29 rfl (lv_at hl 1 rfl) ?_
          refine pw_ci w (pw_runV (r := 0) (ci := 7) (As := [.int (zI (t : Int))]) (rest := [.int (zI ((oR nn t : Nat) : Int))]) w ⟨hx, hb, hml, hown, hts⟩ (c_X7_notes l D G ad N c12 hN hD12 hV ht) (cwV 1 hts gL_areSetsSo_X7_notes rfl rfl rfl (by decide +kernel) ⟨Nat.le_of_ble_eq_true rfl, Nat.le_of_ble_eq_true rfl⟩) (by omega) hD12.1 rfl rfl hl.1 rfl (lv_room (Nat.le_of_ble_eq_true rfl)) dL_areSetsSo_30 ⟨Nat.le_of_ble_eq_true rfl, Nat.le_of_ble_eq_true rfl⟩) (fun r_ c14 H locs hp w => ?_)
          have w : PW D G A s ad N c14 H locs := w
          obtain ⟨hv, hD14, -⟩ := hp
          subst hv
          refine pz_ifle (tgt := 40) hx hb dL_areSetsSo_33 (by decide) (⟨by omega, by omega⟩) (fun hq2 => ?_) (fun hq2 => ?_)
          · omega
          · refine lv_iload_n hx hb dL_areSetsSo_36 rfl (lv_at hl 0 rfl) ?_
            refine lv_goto (tgt := 41) hx hb dL_areSetsSo_37 (by decide) ?_
            refine pz_imul hx hb dL_areSetsSo_41 ?_
            refine pz_top (b := ((oR nn (t + 1) : Nat) : Int)) (by rw [eo]; first | exact (Int.natCast_mul _ _).symm | simp) ?_
            refine lv_istore_n (lv' := [(2, .int (zI ((oR nn (t + 1) : Nat) : Int))), (1, .int (zI ((tC nn (t + 1) : Nat) : Int))), (3, .int (zI (t : Int))), (0, .ref (ad 0))]) hx hb dL_areSetsSo_42 rfl hl (by decide) rfl (fun ls hl => ?_)
            refine pz_iinc (lv' := [(3, .int (zI ((t + 1 : Nat) : Int))), (2, .int (zI ((oR nn (t + 1) : Nat) : Int))), (1, .int (zI ((tC nn (t + 1) : Nat) : Int))), (0, .ref (ad 0))]) hx hb dL_areSetsSo_43 hl (j := 2) rfl ((t + 1 : Nat) : Int) (by omega) (by decide) rfl (fun ls hl => ?_)
            refine lv_goto (tgt := 6) hx hb dL_areSetsSo_46 (by decide) ?_
            exact ih (t + 1) c14 H locs ls (by omega) hD14 (by omega) w (lv_sub hl [0, 1, 2, 3] rfl)
  exact lp 5 0 c H locs ls (by omega) hD (by omega) w (lv_sub hl [0, 1, 2, 3] rfl)
