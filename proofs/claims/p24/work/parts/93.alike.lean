/-! OURS: both desks tell the same -/
theorem uSE_bd {lim : Int} {no : Nat} {gn : Nat → Nat} {gg : Nat → Nat → Nat} {nn : Nat → Nat} {pt ln : Nat → Nat → Nat} {wi : Nat → Nat → Int} (hOV : OV no gn gg) (hU : TusV nn pt ln wi) : -1 ≤ uSE lim no gn gg nn pt ln wi ∧ uSE lim no gn gg nn pt ln wi ≤ 1000000 := by
  obtain ⟨-, -, g3⟩ := U_sets (lim := lim) (pt := pt) (ln := ln) (wi := wi) hOV hU
  unfold uSE
  split
  · omega
  · rename_i h
    have h1 := (g3 h).1
    omega
abbrev rm_L_areAlike : Room := { frames := 10, cells := 24, slots := 72, locals := 300 }
set_option maxHeartbeats 4000000 in
set_option maxRecDepth 100000 in
/-- both desks tell the same -/
theorem c_L_areAlike (l : Launch) (hsT : l.stackTraces = false) (D : va_G) (G : Nat → ClassId) (ad1 ad2 : Nat → Nat) (N1 N2 : Nat) (c1 c2 : Nat → va_E) {lim : Int} {no dn : Nat} {gn : Nat → Nat} {gg : Nat → Nat → Nat} {dg nn : Nat → Nat} {pt ln : Nat → Nat → Nat} {wi : Nat → Nat → Int} (hNe1 : N1 = 120 + 2 * no) (hNe2 : N2 = 120 + 2 * no) (hD1 : DK G ad1 c1 lim no dn gn gg dg nn pt ln wi) (hD2 : DK G ad2 c2 lim no dn gn gg dg nn pt ln wi) (hV : SV lim no dn gn gg dg nn pt ln wi) : MC2 l yL_areAlike wsL_areAlike rm_L_areAlike [.ref (ad1 0), .ref (ad2 0)] D G (ad1, N1, c1) (ad2, N2, c2) (fun v u => v = zI 1 ∧ DK G ad1 u.1 lim no dn gn gg dg nn pt ln wi ∧ DK G ad2 u.2 lim no dn gn gg dg nn pt ln wi) 24 72 := by
  have hN1 : 120 + 2 * no ≤ N1 := by omega
  have hN2 : 120 + 2 * no ≤ N2 := by omega
  refine MC2.of (cc := cL_areAlike) (maxL := 4) (by decide) rfl (Nat.le_of_ble_eq_true rfl) ?_
  intro p e s m args below meth kc A Q hx hb hts hown hml fin H locs z ls hl
  have hown : s.vm.findClass RL = some m.cls := hown
  have hl : lv_has ls 4 [(0, .ref (ad1 0)), (1, .ref (ad2 0))] := hl
  obtain ⟨hlim, hOV, hdn4, hdg, hUV⟩ := id hV
  have hno8 := hOV.1
  have hse := uSE_bd (lim := lim) (pt := pt) (ln := ln) (wi := wi) hOV hUV
  refine lv_aload_n hx hb dL_areAlike_0 rfl (lv_at hl 0 rfl) ?_
  refine pz_ci (x1 := (ad1, N1, c1)) (x2 := (ad2, N2, c2)) z (pw_runV (r := 0) (ci := 7) (As := []) (rest := []) (show PW D G A s ad1 N1 c1 H locs from z.1) ⟨hx, hb, hml, hown, hts⟩ (c_X7_ornaments l D G ad1 N1 c1 hN1 hD1 hV) (cwV 0 hts gL_areAlike_X7_ornaments rfl rfl rfl (by decide +kernel) ⟨Nat.le_of_ble_eq_true rfl, Nat.le_of_ble_eq_true rfl⟩) (by omega) hD1.1 rfl rfl hl.1 rfl (lv_room (Nat.le_of_ble_eq_true rfl)) dL_areAlike_1 ⟨Nat.le_of_ble_eq_true rfl, Nat.le_of_ble_eq_true rfl⟩) (fun r_ c1 H locs hp z => ?_)
  have z : PZ D G A s (ad1, N1, c1) (ad2, N2, c2) H locs := z
  obtain ⟨hv, hD1, -⟩ := hp
  subst hv
  refine pz_top (b := (no : Int)) (rfl) ?_
  refine lv_aload_n hx hb dL_areAlike_4 rfl (lv_at hl 1 rfl) ?_
  refine pz_ci (x1 := (ad2, N2, c2)) (x2 := (ad1, N1, c1)) z.symm (pw_runV (r := 0) (ci := 7) (As := []) (rest := [.int (zI (no : Int))]) (show PW D G A s ad2 N2 c2 H locs from z.2.1) ⟨hx, hb, hml, hown, hts⟩ (c_X7_ornaments l D G ad2 N2 c2 hN2 hD2 hV) (cwV 0 hts gL_areAlike_X7_ornaments rfl rfl rfl (by decide +kernel) ⟨Nat.le_of_ble_eq_true rfl, Nat.le_of_ble_eq_true rfl⟩) (by omega) hD2.1 rfl rfl hl.1 rfl (lv_room (Nat.le_of_ble_eq_true rfl)) dL_areAlike_5 ⟨Nat.le_of_ble_eq_true rfl, Nat.le_of_ble_eq_true rfl⟩) (fun r_ c2 H locs hp z => ?_)
  have z : PZ D G A s (ad1, N1, c1) (ad2, N2, c2) H locs := z.symm
  obtain ⟨hv, hD2, -⟩ := hp
  subst hv
  refine pz_top (b := (no : Int)) (rfl) ?_
  refine pz_icmpne (tgt := 26) hx hb dL_areAlike_8 (by decide) (⟨by omega, by omega⟩) (⟨by omega, by omega⟩) (fun hq0 => ?_) (fun hq0 => ?_)
  · omega
  · refine lv_aload_n hx hb dL_areAlike_11 rfl (lv_at hl 0 rfl) ?_
    refine pz_ci (x1 := (ad1, N1, c1)) (x2 := (ad2, N2, c2)) z (pw_runSW (As := [.ref (ad1 0)]) (rest := []) (show PW D G A s ad1 N1 c1 H locs from z.1) ⟨hx, hb, hml, hown, hts⟩ (q_L_leastSet l hsT D G ad1 N1 c1 hNe1 hD1 hV) (vx_cwSW 1 hts gL_areAlike_L_leastSet rfl rfl rfl (by decide +kernel) ⟨Nat.le_of_ble_eq_true rfl, Nat.le_of_ble_eq_true rfl⟩) rfl hl.1 rfl (lv_room (Nat.le_of_ble_eq_true rfl)) dL_areAlike_12 ⟨Nat.le_of_ble_eq_true rfl, Nat.le_of_ble_eq_true rfl⟩) (fun r_ c3 H locs hp z => ?_)
    have z : PZ D G A s (ad1, N1, c3) (ad2, N2, c2) H locs := z
    obtain ⟨hv, hD3⟩ := hp
    subst hv
    refine pz_top (b := (uSE lim no gn gg nn pt ln wi)) (rfl) ?_
    refine lv_aload_n hx hb dL_areAlike_15 rfl (lv_at hl 1 rfl) ?_
    refine pz_ci (x1 := (ad2, N2, c2)) (x2 := (ad1, N1, c3)) z.symm (pw_runSW (As := [.ref (ad2 0)]) (rest := [.int (zI (uSE lim no gn gg nn pt ln wi))]) (show PW D G A s ad2 N2 c2 H locs from z.2.1) ⟨hx, hb, hml, hown, hts⟩ (q_L_leastSet l hsT D G ad2 N2 c2 hNe2 hD2 hV) (vx_cwSW 1 hts gL_areAlike_L_leastSet rfl rfl rfl (by decide +kernel) ⟨Nat.le_of_ble_eq_true rfl, Nat.le_of_ble_eq_true rfl⟩) rfl hl.1 rfl (lv_room (Nat.le_of_ble_eq_true rfl)) dL_areAlike_16 ⟨Nat.le_of_ble_eq_true rfl, Nat.le_of_ble_eq_true rfl⟩) (fun r_ c4 H locs hp z => ?_)
    have z : PZ D G A s (ad1, N1, c3) (ad2, N2, c4) H locs := z.symm
    obtain ⟨hv, hD4⟩ := hp
    subst hv
    refine pz_top (b := (uSE lim no gn gg nn pt ln wi)) (rfl) ?_
    refine pz_icmpne (tgt := 26) hx hb dL_areAlike_19 (by decide) (⟨by omega, by omega⟩) (⟨by omega, by omega⟩) (fun hq1 => ?_) (fun hq1 => ?_)
    · omega
    · refine lv_iconst (v := zI (1)) hx hb dL_areAlike_22 rfl ?_
      refine lv_goto (tgt := 27) hx hb dL_areAlike_23 (by decide) ?_
      refine lv_istore_n (lv' := [(2, .int (zI 1)), (0, .ref (ad1 0)), (1, .ref (ad2 0))]) hx hb dL_areAlike_27 rfl hl (by decide) rfl (fun ls hl => ?_)
      refine lv_iconst (v := zI (0)) hx hb dL_areAlike_28 rfl ?_
      refine pz_top (b := ((0 : Nat) : Int)) (rfl) ?_
      refine lv_istore_n (lv' := [(3, .int (zI ((0 : Nat) : Int))), (2, .int (zI 1)), (0, .ref (ad1 0)), (1, .ref (ad2 0))]) hx hb dL_areAlike_29 rfl hl (by decide) rfl (fun ls hl => ?_)
      have lp : ∀ (f t : Nat) (c3 c4 : Nat → va_E) (H : Heap) (locs : List Loc) (ls : Array Slot) (cl sl : Nat), t ≤ 4 → cl ≤ 4 + 4 * t → sl ≤ 12 + 12 * t → DK G ad1 c3 lim no dn gn gg dg nn pt ln wi → DK G ad2 c4 lim no dn gn gg dg nn pt ln wi → 4 < f + t → PZ D G A s (ad1, N1, c3) (ad2, N2, c4) H locs → lv_has ls 4 [(3, .int (zI (t : Int))), (2, .int (zI 1)), (0, .ref (ad1 0)), (1, .ref (ad2 0))] → W p l e rm_L_areAlike s m args below meth kc H locs cl sl Q (F0 m 30 ls []) := by
        intro f
        induction f with
        | zero => intro t c3 c4 H locs ls cl sl ht5 hcl hsl hD3 hD4 hfu z hl; omega
        | succ f ih =>
          intro t c3 c4 H locs ls cl sl ht5 hcl hsl hD3 hD4 hfu z hl
          refine lv_iload_n hx hb dL_areAlike_30 rfl (lv_at hl 0 rfl) ?_
          refine lv_iconst (v := zI (4)) hx hb dL_areAlike_31 rfl ?_
          refine pz_icmpge (tgt := 90) hx hb dL_areAlike_32 (by decide) (⟨by omega, by omega⟩) (⟨by omega, by omega⟩) (fun hge => ?_) (fun hge => ?_)
          · refine lv_iload_n hx hb dL_areAlike_90 rfl (lv_at hl 1 rfl) ?_
            exact fin (c3, c4) _ _ _ _ _ _ _ (Or.inr rfl) ⟨rfl, hD3, hD4⟩ z dL_areAlike_91 (by omega) (by omega)
          · have ht : t < 4 := by omega
            have hn10 := (hUV t ht).1
            have hc := U_cnt (lim := lim) hOV hUV ht
            have hls := U_least (lim := lim) hOV hUV ht
            have hleb := uLE_bd (lim := lim) (pt := pt) (ln := ln) (wi := wi) hOV hUV ht
            refine lv_iload_n hx hb dL_areAlike_35 rfl (lv_at hl 1 rfl) ?_
            refine pz_ifeq (tgt := 90) hx hb dL_areAlike_36 (by decide) (⟨by omega, by omega⟩) (fun hq2 => ?_) (fun hq2 => ?_)
            · omega
            · refine lv_aload_n hx hb dL_areAlike_39 rfl (lv_at hl 2 rfl) ?_
              refine lv_iload_n hx hb dL_areAlike_40 rfl (lv_at hl 0 rfl) ?_
              refine pz_ci (x1 := (ad1, N1, c3)) (x2 := (ad2, N2, c4)) z (pw_runV (r := 0) (ci := 7) (As := [.int (zI (t : Int))]) (rest := []) (show PW D G A s ad1 N1 c3 H locs from z.1) ⟨hx, hb, hml, hown, hts⟩ (c_X7_notes l D G ad1 N1 c3 hN1 hD3 hV ht) (cwV 1 hts gL_areAlike_X7_notes rfl rfl rfl (by decide +kernel) ⟨Nat.le_of_ble_eq_true rfl, Nat.le_of_ble_eq_true rfl⟩) (by omega) hD3.1 rfl rfl hl.1 rfl (lv_room (Nat.le_of_ble_eq_true rfl)) dL_areAlike_41 ⟨by show (_ : Nat) ≤ 24; omega, by show (_ : Nat) ≤ 72; omega⟩) (fun r_ c5 H locs hp z => ?_)
              have z : PZ D G A s (ad1, N1, c5) (ad2, N2, c4) H locs := z
              obtain ⟨hv, hD5, -⟩ := hp
              subst hv
              refine pz_top (b := (nn t : Int)) (rfl) ?_
              refine lv_aload_n hx hb dL_areAlike_44 rfl (lv_at hl 3 rfl) ?_
              refine lv_iload_n hx hb dL_areAlike_45 rfl (lv_at hl 0 rfl) ?_
              refine pz_ci (x1 := (ad2, N2, c4)) (x2 := (ad1, N1, c5)) z.symm (pw_runV (r := 0) (ci := 7) (As := [.int (zI (t : Int))]) (rest := [.int (zI (nn t : Int))]) (show PW D G A s ad2 N2 c4 H locs from z.2.1) ⟨hx, hb, hml, hown, hts⟩ (c_X7_notes l D G ad2 N2 c4 hN2 hD4 hV ht) (cwV 1 hts gL_areAlike_X7_notes rfl rfl rfl (by decide +kernel) ⟨Nat.le_of_ble_eq_true rfl, Nat.le_of_ble_eq_true rfl⟩) (by omega) hD4.1 rfl rfl hl.1 rfl (lv_room (Nat.le_of_ble_eq_true rfl)) dL_areAlike_46 ⟨by show (_ : Nat) ≤ 24; omega, by show (_ : Nat) ≤ 72; omega⟩) (fun r_ c6 H locs hp z => ?_)
              have z : PZ D G A s (ad1, N1, c5) (ad2, N2, c6) H locs := z.symm
              obtain ⟨hv, hD6, -⟩ := hp
              subst hv
              refine pz_top (b := (nn t : Int)) (rfl) ?_
              refine pz_icmpne (tgt := 82) hx hb dL_areAlike_49 (by decide) (⟨by omega, by omega⟩) (⟨by omega, by omega⟩) (fun hq3 => ?_) (fun hq3 => ?_)
              · omega
              · refine lv_aload_n hx hb dL_areAlike_52 rfl (lv_at hl 2 rfl) ?_
                refine lv_iload_n hx hb dL_areAlike_53 rfl (lv_at hl 0 rfl) ?_
                refine pz_ci (x1 := (ad1, N1, c5)) (x2 := (ad2, N2, c6)) z (pw_runV (r := 0) (ci := 7) (As := [.int (zI (t : Int))]) (rest := []) (show PW D G A s ad1 N1 c5 H locs from z.1) ⟨hx, hb, hml, hown, hts⟩ (c_X7_choices l D G ad1 N1 c5 hN1 hD5 hV ht) (cwV 1 hts gL_areAlike_X7_choices rfl rfl rfl (by decide +kernel) ⟨Nat.le_of_ble_eq_true rfl, Nat.le_of_ble_eq_true rfl⟩) (by omega) hD5.1 rfl rfl hl.1 rfl (lv_room (Nat.le_of_ble_eq_true rfl)) dL_areAlike_54 ⟨by show (_ : Nat) ≤ 24; omega, by show (_ : Nat) ≤ 72; omega⟩) (fun r_ c7 H locs hp z => ?_)
                have z : PZ D G A s (ad1, N1, c7) (ad2, N2, c6) H locs := z
                obtain ⟨hv, hD7, -⟩ := hp
                subst hv
                refine pz_top (b := (uCN lim no gn gg nn pt ln wi t)) (rfl) ?_
                refine lv_aload_n hx hb dL_areAlike_57 rfl (lv_at hl 3 rfl) ?_
                refine lv_iload_n hx hb dL_areAlike_58 rfl (lv_at hl 0 rfl) ?_
                refine pz_ci (x1 := (ad2, N2, c6)) (x2 := (ad1, N1, c7)) z.symm (pw_runV (r := 0) (ci := 7) (As := [.int (zI (t : Int))]) (rest := [.int (zI (uCN lim no gn gg nn pt ln wi t))]) (show PW D G A s ad2 N2 c6 H locs from z.2.1) ⟨hx, hb, hml, hown, hts⟩ (c_X7_choices l D G ad2 N2 c6 hN2 hD6 hV ht) (cwV 1 hts gL_areAlike_X7_choices rfl rfl rfl (by decide +kernel) ⟨Nat.le_of_ble_eq_true rfl, Nat.le_of_ble_eq_true rfl⟩) (by omega) hD6.1 rfl rfl hl.1 rfl (lv_room (Nat.le_of_ble_eq_true rfl)) dL_areAlike_59 ⟨by show (_ : Nat) ≤ 24; omega, by show (_ : Nat) ≤ 72; omega⟩) (fun r_ c8 H locs hp z => ?_)
                have z : PZ D G A s (ad1, N1, c7) (ad2, N2, c8) H locs := z.symm
                obtain ⟨hv, hD8, -⟩ := hp
                subst hv
                refine pz_top (b := (uCN lim no gn gg nn pt ln wi t)) (rfl) ?_
                refine pz_icmpne (tgt := 82) hx hb dL_areAlike_62 (by decide) (⟨by omega, by omega⟩) (⟨by omega, by omega⟩) (fun hq4 => ?_) (fun hq4 => ?_)
                · omega
                · refine lv_aload_n hx hb dL_areAlike_65 rfl (lv_at hl 2 rfl) ?_
                  refine lv_iload_n hx hb dL_areAlike_66 rfl (lv_at hl 0 rfl) ?_
                  refine pz_ci (x1 := (ad1, N1, c7)) (x2 := (ad2, N2, c8)) z (pw_runSW (As := [.ref (ad1 0), .int (zI (t : Int))]) (rest := []) (show PW D G A s ad1 N1 c7 H locs from z.1) ⟨hx, hb, hml, hown, hts⟩ (q_L_least l hsT D G ad1 N1 c7 hNe1 hD7 hV ht) (vx_cwSW 2 hts gL_areAlike_L_least rfl rfl rfl (by decide +kernel) ⟨Nat.le_of_ble_eq_true rfl, Nat.le_of_ble_eq_true rfl⟩) rfl hl.1 rfl (lv_room (Nat.le_of_ble_eq_true rfl)) dL_areAlike_67 ⟨by show (_ : Nat) ≤ 24; omega, by show (_ : Nat) ≤ 72; omega⟩) (fun r_ c9 H locs hp z => ?_)
                  have z : PZ D G A s (ad1, N1, c9) (ad2, N2, c8) H locs := z
                  obtain ⟨hv, hD9⟩ := hp
                  subst hv
                  refine pz_top (b := (uLE lim no gn gg nn pt ln wi t)) (rfl) ?_
                  refine lv_aload_n hx hb dL_areAlike_70 rfl (lv_at hl 3 rfl) ?_
                  refine lv_iload_n hx hb dL_areAlike_71 rfl (lv_at hl 0 rfl) ?_
                  refine pz_ci (x1 := (ad2, N2, c8)) (x2 := (ad1, N1, c9)) z.symm (pw_runSW (As := [.ref (ad2 0), .int (zI (t : Int))]) (rest := [.int (zI (uLE lim no gn gg nn pt ln wi t))]) (show PW D G A s ad2 N2 c8 H locs from z.2.1) ⟨hx, hb, hml, hown, hts⟩ (q_L_least l hsT D G ad2 N2 c8 hNe2 hD8 hV ht) (vx_cwSW 2 hts gL_areAlike_L_least rfl rfl rfl (by decide +kernel) ⟨Nat.le_of_ble_eq_true rfl, Nat.le_of_ble_eq_true rfl⟩) rfl hl.1 rfl (lv_room (Nat.le_of_ble_eq_true rfl)) dL_areAlike_72 ⟨by show (_ : Nat) ≤ 24; omega, by show (_ : Nat) ≤ 72; omega⟩) (fun r_ c10 H locs hp z => ?_)
                  have z : PZ D G A s (ad1, N1, c9) (ad2, N2, c10) H locs := z.symm
                  obtain ⟨hv, hD10⟩ := hp
                  subst hv
                  refine pz_top (b := (uLE lim no gn gg nn pt ln wi t)) (rfl) ?_
                  refine pz_icmpne (tgt := 82) hx hb dL_areAlike_75 (by decide) (⟨by omega, by omega⟩) (⟨by omega, by omega⟩) (fun hq5 => ?_) (fun hq5 => ?_)
                  · omega
                  · refine lv_iconst (v := zI (1)) hx hb dL_areAlike_78 rfl ?_
                    refine lv_goto (tgt := 83) hx hb dL_areAlike_79 (by decide) ?_
                    refine lv_istore_n (lv' := [(2, .int (zI 1)), (3, .int (zI (t : Int))), (0, .ref (ad1 0)), (1, .ref (ad2 0))]) hx hb dL_areAlike_83 rfl hl (by decide) rfl (fun ls hl => ?_)
                    refine pz_iinc (lv' := [(3, .int (zI ((t + 1 : Nat) : Int))), (2, .int (zI 1)), (0, .ref (ad1 0)), (1, .ref (ad2 0))]) hx hb dL_areAlike_84 hl (j := 1) rfl ((t + 1 : Nat) : Int) (by omega) (by decide) rfl (fun ls hl => ?_)
                    refine lv_goto (tgt := 30) hx hb dL_areAlike_87 (by decide) ?_
                    exact ih (t + 1) c9 c10 H locs ls _ _ (by omega) (by omega) (by omega) hD9 hD10 (by omega) z (lv_sub hl [0, 1, 2, 3] rfl)
      exact lp 5 0 c3 c4 H locs ls _ _ (by omega) (by omega) (by omega) hD3 hD4 (by omega) z (lv_sub hl [0, 1, 2, 3] rfl)
