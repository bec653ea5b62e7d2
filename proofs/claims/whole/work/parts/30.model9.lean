theorem goF_bd {lim : Int} {no : Nat} {gn : Nat → Nat} {gg : Nat → Nat → Nat} {nn : Nat → Nat} {pt ln : Nat → Nat → Nat} {wi : Nat → Nat → Int} (hOV : OV no gn gg) (hU : TusV nn pt ln wi) {bo : Nat → Int} : ∀ k, 0 ≤ (goF lim no gn gg nn pt ln wi bo k).2.1 ∧ (goF lim no gn gg nn pt ln wi bo k).2.1 ≤ 1000000
  | 0 => ⟨by show (0 : Int) ≤ 1000000; decide, by show (1000000 : Int) ≤ 1000000; decide⟩
  | k + 1 => by
    have h := goF_bd (lim := lim) hOV hU (bo := bo) k
    have h2 := RVv_bd (lim := lim) (pt := pt) (ln := ln) (wi := wi) hOV hU (od := dgs k) (fun j _ => dgs_lt k j)
    unfold goF
    split
    · dsimp only
      split <;> omega
    · exact h

theorem wd_X8_leastSet_k91 : Cond.constant RX8 91 (1000000) ∈ wsX8_leastSet := by decide +kernel
abbrev rm_X8_leastSet : Room := { frames := 8, cells := 0, slots := 0, locals := 240 }
set_option maxHeartbeats 4000000 in
set_option maxRecDepth 100000 in
/-- X8_leastSet_bad -/
theorem c_X8_leastSet_bad (l : Launch) (D : va_G) (G : Nat → ClassId) (ad : Nat → Nat) (N : Nat) (c : Nat → va_E) {th lim : Int} {no dn : Nat} {gn : Nat → Nat} {gg : Nat → Nat → Nat} {dg nn : Nat → Nat} {pt ln : Nat → Nat → Nat} {wi : Nat → Nat → Int} (hN : 139 ≤ N) (hS : MS G ad c th lim no dn gn gg dg nn pt ln wi) (hV : SV lim no dn gn gg dg nn pt ln wi) {bo : Nat → Int} (hb0 : isA 0 G (c 136) 4 bo) (hch : (goF lim no gn gg nn pt ln wi bo 256).2.1 = 1000000) : MC l yX8_leastSet wsX8_leastSet rm_X8_leastSet [.ref (ad 120)] D G ad N c (qI D G (fx ad N) (fun v c1 => v = zI 0 ∧ MS G ad c1 1 lim no dn gn gg dg nn pt ln wi ∧ ∀ q, (q < 120 ∨ 137 ≤ q) → c1 q = c q)) 0 0 := by
  refine MCi.of (cc := cX8_leastSet) (maxL := 2) (by decide) rfl (Nat.le_of_ble_eq_true rfl) ?_
  intro p e s m args below meth kc A Q hx hb hts hown hml fin H locs w ls hl
  have hown : s.vm.findClass RX8 = some m.cls := hown
  have hl : lv_has ls 2 [(0, .ref (ad 120))] := hl
  obtain ⟨⟨row, hm⟩, hh, hB, hDr, hMT, hMR⟩ := id hS
  obtain ⟨hlim, hOV, hdn4, hdg, hUV⟩ := id hV
  have hlb : bnd lim := ⟨by omega, by omega⟩
  have hno8 := hOV.1
  have hgo := goF_bd (lim := lim) (pt := pt) (ln := ln) (wi := wi) hOV hUV (bo := bo) 256
  refine lv_aload_n hx hb dX8_leastSet_0 rfl (lv_at hl 0 rfl) ?_
  refine lv_iconst (v := zI (0)) hx hb dX8_leastSet_1 rfl ?_
  refine pw_ci w (pw_runV (r := 120) (ci := 8) (As := [.int (zI 0)]) (rest := []) w ⟨hx, hb, hml, hown, hts⟩ (c_X8_goThrough l D G ad N c (cn := 0) (bo := bo) hN hS hV (Or.inl rfl) hb0) (cwV 1 hts gX8_leastSet_X8_goThrough rfl rfl rfl (by decide +kernel) ⟨Nat.le_of_ble_eq_true rfl, Nat.le_of_ble_eq_true rfl⟩) (by omega) hm rfl rfl hl.1 rfl (lv_room (Nat.le_of_ble_eq_true rfl)) dX8_leastSet_2 ⟨Nat.le_of_ble_eq_true rfl, Nat.le_of_ble_eq_true rfl⟩) (fun r_ c1 H locs hp w => ?_)
  have w : PW D G A s ad N c1 H locs := w
  obtain ⟨hv1, hS1, hb1, fr1⟩ := hp
  subst hv1
  refine pz_top (b := (goF lim no gn gg nn pt ln wi bo 256).2.1) (if_pos rfl) ?_
  obtain ⟨⟨row, hm⟩, hh, hB, hDr, hMT, hMR⟩ := id hS1
  refine lv_istore_n (lv' := [(1, .int (zI ((goF lim no gn gg nn pt ln wi bo 256).2.1))), (0, .ref (ad 120))]) hx hb dX8_leastSet_5 rfl hl (by decide) rfl (fun ls hl => ?_)
  refine lv_aload_n hx hb dX8_leastSet_6 rfl (lv_at hl 1 rfl) ?_
  refine lv_iload_n hx hb dX8_leastSet_7 rfl (lv_at hl 0 rfl) ?_
  refine lv_ldc hx hb hown (hts _ wd_X8_leastSet_k91) dX8_leastSet_8 (pz_topI (y := zI (1000000)) (by decide +kernel) ?_)
  refine pz_icmpne (tgt := 17) hx hb dX8_leastSet_10 (by decide) (⟨by omega, by omega⟩) (⟨by omega, by omega⟩) (fun h2 => ?_) (fun h2 => ?_)
  · omega
  · refine lv_iconst (v := zI (1)) hx hb dX8_leastSet_13 rfl ?_
    refine lv_goto (tgt := 18) hx hb dX8_leastSet_14 (by decide) ?_
    refine pw_ci w (pw_runV (r := 120) (ci := 8) (As := [.int (zI 1)]) (rest := []) w ⟨hx, hb, hml, hown, hts⟩ (c_X8_goesWell l D G ad N c1 (pl := 1) hN hm ⟨by decide, by decide⟩) (cwV 1 hts gX8_leastSet_X8_goesWell rfl rfl rfl (by decide +kernel) ⟨Nat.le_of_ble_eq_true rfl, Nat.le_of_ble_eq_true rfl⟩) (by omega) hm rfl rfl hl.1 rfl (lv_room (Nat.le_of_ble_eq_true rfl)) dX8_leastSet_18 ⟨Nat.le_of_ble_eq_true rfl, Nat.le_of_ble_eq_true rfl⟩) (fun r_ c3 H locs hp w => ?_)
    have w : PW D G A s ad N c3 H locs := w
    obtain ⟨hv3, hm3, fr3⟩ := hp
    subst hv3
    refine pz_top (b := 0) (if_neg (by omega)) ?_
    have hS3 := hS1.to hm3 fr3
    have hm := hm3
    obtain ⟨-, hh, hB, hDr, hMT, hMR⟩ := id hS3
    refine pz_ifeq (tgt := 28) hx hb dX8_leastSet_21 (by decide) (⟨by omega, by omega⟩) (fun h4 => ?_) (fun h4 => ?_)
    · refine lv_iconst (v := zI (0)) hx hb dX8_leastSet_28 rfl ?_
      exact fin (ad, N, c3) c3 _ _ _ _ _ _ _ rfl ⟨rfl, hS3, fun q hq => ((fr3 q (by omega)).trans ((fr1 q (by omega)).trans rfl))⟩ w dX8_leastSet_29 (Nat.le_refl _) (Nat.le_refl _)
    · omega

set_option maxHeartbeats 4000000 in
set_option maxRecDepth 100000 in
/-- X8_leastSet_ok -/
theorem c_X8_leastSet_ok (l : Launch) (D : va_G) (G : Nat → ClassId) (ad : Nat → Nat) (N : Nat) (c : Nat → va_E) {th lim : Int} {no dn : Nat} {gn : Nat → Nat} {gg : Nat → Nat → Nat} {dg nn : Nat → Nat} {pt ln : Nat → Nat → Nat} {wi : Nat → Nat → Int} (hN : 139 ≤ N) (hS : MS G ad c th lim no dn gn gg dg nn pt ln wi) (hV : SV lim no dn gn gg dg nn pt ln wi) {bo : Nat → Int} (hb0 : isA 0 G (c 136) 4 bo) (hch : ¬ (goF lim no gn gg nn pt ln wi bo 256).2.1 = 1000000) : MC l yX8_leastSet wsX8_leastSet rm_X8_leastSet [.ref (ad 120)] D G ad N c (qI D G (fx ad N) (fun v c1 => v = zI ((goF lim no gn gg nn pt ln wi bo 256).2.1) ∧ MS G ad c1 0 lim no dn gn gg dg nn pt ln wi ∧ ∀ q, (q < 120 ∨ 137 ≤ q) → c1 q = c q)) 0 0 := by
  refine MCi.of (cc := cX8_leastSet) (maxL := 2) (by decide) rfl (Nat.le_of_ble_eq_true rfl) ?_
  intro p e s m args below meth kc A Q hx hb hts hown hml fin H locs w ls hl
  have hown : s.vm.findClass RX8 = some m.cls := hown
  have hl : lv_has ls 2 [(0, .ref (ad 120))] := hl
  obtain ⟨⟨row, hm⟩, hh, hB, hDr, hMT, hMR⟩ := id hS
  obtain ⟨hlim, hOV, hdn4, hdg, hUV⟩ := id hV
  have hlb : bnd lim := ⟨by omega, by omega⟩
  have hno8 := hOV.1
  have hgo := goF_bd (lim := lim) (pt := pt) (ln := ln) (wi := wi) hOV hUV (bo := bo) 256
  refine lv_aload_n hx hb dX8_leastSet_0 rfl (lv_at hl 0 rfl) ?_
  refine lv_iconst (v := zI (0)) hx hb dX8_leastSet_1 rfl ?_
  refine pw_ci w (pw_runV (r := 120) (ci := 8) (As := [.int (zI 0)]) (rest := []) w ⟨hx, hb, hml, hown, hts⟩ (c_X8_goThrough l D G ad N c (cn := 0) (bo := bo) hN hS hV (Or.inl rfl) hb0) (cwV 1 hts gX8_leastSet_X8_goThrough rfl rfl rfl (by decide +kernel) ⟨Nat.le_of_ble_eq_true rfl, Nat.le_of_ble_eq_true rfl⟩) (by omega) hm rfl rfl hl.1 rfl (lv_room (Nat.le_of_ble_eq_true rfl)) dX8_leastSet_2 ⟨Nat.le_of_ble_eq_true rfl, Nat.le_of_ble_eq_true rfl⟩) (fun r_ c1 H locs hp w => ?_)
  have w : PW D G A s ad N c1 H locs := w
  obtain ⟨hv1, hS1, hb1, fr1⟩ := hp
  subst hv1
  refine pz_top (b := (goF lim no gn gg nn pt ln wi bo 256).2.1) (if_pos rfl) ?_
  obtain ⟨⟨row, hm⟩, hh, hB, hDr, hMT, hMR⟩ := id hS1
  refine lv_istore_n (lv' := [(1, .int (zI ((goF lim no gn gg nn pt ln wi bo 256).2.1))), (0, .ref (ad 120))]) hx hb dX8_leastSet_5 rfl hl (by decide) rfl (fun ls hl => ?_)
  refine lv_aload_n hx hb dX8_leastSet_6 rfl (lv_at hl 1 rfl) ?_
  refine lv_iload_n hx hb dX8_leastSet_7 rfl (lv_at hl 0 rfl) ?_
  refine lv_ldc hx hb hown (hts _ wd_X8_leastSet_k91) dX8_leastSet_8 (pz_topI (y := zI (1000000)) (by decide +kernel) ?_)
  refine pz_icmpne (tgt := 17) hx hb dX8_leastSet_10 (by decide) (⟨by omega, by omega⟩) (⟨by omega, by omega⟩) (fun h2 => ?_) (fun h2 => ?_)
  · refine lv_iconst (v := zI (0)) hx hb dX8_leastSet_17 rfl ?_
    refine pw_ci w (pw_runV (r := 120) (ci := 8) (As := [.int (zI 0)]) (rest := []) w ⟨hx, hb, hml, hown, hts⟩ (c_X8_goesWell l D G ad N c1 (pl := 0) hN hm ⟨by decide, by decide⟩) (cwV 1 hts gX8_leastSet_X8_goesWell rfl rfl rfl (by decide +kernel) ⟨Nat.le_of_ble_eq_true rfl, Nat.le_of_ble_eq_true rfl⟩) (by omega) hm rfl rfl hl.1 rfl (lv_room (Nat.le_of_ble_eq_true rfl)) dX8_leastSet_18 ⟨Nat.le_of_ble_eq_true rfl, Nat.le_of_ble_eq_true rfl⟩) (fun r_ c3 H locs hp w => ?_)
    have w : PW D G A s ad N c3 H locs := w
    obtain ⟨hv3, hm3, fr3⟩ := hp
    subst hv3
    refine pz_top (b := 1) (if_pos (by omega)) ?_
    have hS3 := hS1.to hm3 fr3
    have hm := hm3
    obtain ⟨-, hh, hB, hDr, hMT, hMR⟩ := id hS3
    refine pz_ifeq (tgt := 28) hx hb dX8_leastSet_21 (by decide) (⟨by omega, by omega⟩) (fun h4 => ?_) (fun h4 => ?_)
    · omega
    · refine lv_iload_n hx hb dX8_leastSet_24 rfl (lv_at hl 0 rfl) ?_
      refine lv_goto (tgt := 29) hx hb dX8_leastSet_25 (by decide) ?_
      exact fin (ad, N, c3) c3 _ _ _ _ _ _ _ rfl ⟨rfl, hS3, fun q hq => ((fr3 q (by omega)).trans ((fr1 q (by omega)).trans rfl))⟩ w dX8_leastSet_29 (Nat.le_refl _) (Nat.le_refl _)
  · omega

theorem hin_X8_sets_8 : ∀ w ∈ u_ws RX8 TX8 21, w ∈ wsX8_sets := by decide +kernel
theorem fl_X8_sets_63 : Cond.fieldLink RX8 63 "PipersDeskModel" "thrown" "I" ∈ wsX8_sets := by decide +kernel
abbrev rm_X8_sets : Room := { frames := 8, cells := 0, slots := 0, locals := 240 }
set_option maxHeartbeats 4000000 in
set_option maxRecDepth 100000 in
/-- sets -/
theorem c_X8_sets (l : Launch) (D : va_G) (G : Nat → ClassId) (ad : Nat → Nat) (N : Nat) (c : Nat → va_E) {th lim : Int} {no dn : Nat} {gn : Nat → Nat} {gg : Nat → Nat → Nat} {dg nn : Nat → Nat} {pt ln : Nat → Nat → Nat} {wi : Nat → Nat → Int} (hN : 139 ≤ N) (hS : MS G ad c th lim no dn gn gg dg nn pt ln wi) (hV : SV lim no dn gn gg dg nn pt ln wi) {bo : Nat → Int} (hb0 : isA 0 G (c 136) 4 bo) : MC l yX8_sets wsX8_sets rm_X8_sets [.ref (ad 120)] D G ad N c (qI D G (fx ad N) (fun v c1 => v = zI (goF lim no gn gg nn pt ln wi bo 256).1 ∧ MS G ad c1 0 lim no dn gn gg dg nn pt ln wi ∧ ∀ q, (q < 120 ∨ 137 ≤ q) → c1 q = c q)) 0 0 := by
  refine MCi.of (cc := cX8_sets) (maxL := 1) (by decide) rfl (Nat.le_of_ble_eq_true rfl) ?_
  intro p e s m args below meth kc A Q hx hb hts hown hml fin H locs w ls hl
  have hown : s.vm.findClass RX8 = some m.cls := hown
  have hl : lv_has ls 1 [(0, .ref (ad 120))] := hl
  obtain ⟨⟨row, hm⟩, hh, hB, hDr, hMT, hMR⟩ := id hS
  obtain ⟨hlim, hOV, hdn4, hdg, hUV⟩ := id hV
  have hlb : bnd lim := ⟨by omega, by omega⟩
  have hno8 := hOV.1
  refine lv_aload_n hx hb dX8_sets_0 rfl (lv_at hl 0 rfl) ?_
  refine lv_iconst (v := zI (0)) hx hb dX8_sets_1 rfl ?_
  refine pw_put' (r := 120) (ci := 8) (C := RX8) (T := TX8) (Nf := 21) hx hb w hts hin_X8_sets_8 tyX8 tyX8_ok nmX8 hown (by omega) hm rfl 0 (by decide) (hts _ fl_X8_sets_63) (fun _ h9 => h9) rfl (ty := .int) (by decide +kernel) rfl rfl (Nat.le_of_ble_eq_true rfl) dX8_sets_2 (fun H locs c1 hc1 fr1 w => ?_)
  have hm1 := hc1
  have hS1 := hS.to hm1 fr1
  have hb0 := isA.fr (fr1 136 (by omega)) hb0
  refine lv_aload_n hx hb dX8_sets_5 rfl (lv_at hl 0 rfl) ?_
  refine lv_iconst (v := zI (1)) hx hb dX8_sets_6 rfl ?_
  refine pw_ci w (pw_runV (r := 120) (ci := 8) (As := [.int (zI 1)]) (rest := []) w ⟨hx, hb, hml, hown, hts⟩ (c_X8_goThrough l D G ad N c1 (cn := 1) (bo := bo) hN hS1 hV (Or.inr rfl) hb0) (cwV 1 hts gX8_sets_X8_goThrough rfl rfl rfl (by decide +kernel) ⟨Nat.le_of_ble_eq_true rfl, Nat.le_of_ble_eq_true rfl⟩) (by omega) hm1 rfl rfl hl.1 rfl (lv_room (Nat.le_of_ble_eq_true rfl)) dX8_sets_7 ⟨Nat.le_of_ble_eq_true rfl, Nat.le_of_ble_eq_true rfl⟩) (fun r_ c2 H locs hp w => ?_)
  have w : PW D G A s ad N c2 H locs := w
  obtain ⟨hv2, hS2, hb2, fr2⟩ := hp
  subst hv2
  refine pz_top (b := (goF lim no gn gg nn pt ln wi bo 256).1) (if_neg (by decide)) ?_
  obtain ⟨⟨row, hm⟩, hh, hB, hDr, hMT, hMR⟩ := id hS2
  exact fin (ad, N, c2) c2 _ _ _ _ _ _ _ rfl ⟨rfl, hS2, fun q hq => ((fr2 q (by omega)).trans ((fr1 q (by omega)).trans rfl))⟩ w dX8_sets_10 (Nat.le_refl _) (Nat.le_refl _)

theorem wd_X8_tuneAt_k91 : Cond.constant RX8 91 (1000000) ∈ wsX8_tuneAt := by decide +kernel
theorem hin_X8_tuneAt_8 : ∀ w ∈ u_ws RX8 TX8 21, w ∈ wsX8_tuneAt := by decide +kernel
theorem fl_X8_tuneAt_36 : Cond.fieldLink RX8 36 "PipersDeskModel" "noteMany" "[I" ∈ wsX8_tuneAt := by decide +kernel
abbrev rm_X8_tuneAt : Room := { frames := 8, cells := 0, slots := 0, locals := 240 }
set_option maxHeartbeats 4000000 in
set_option maxRecDepth 100000 in
/-- X8_tuneAt_bad1 -/
theorem c_X8_tuneAt_bad1 (l : Launch) (D : va_G) (G : Nat → ClassId) (ad : Nat → Nat) (N : Nat) (c : Nat → va_E) {th lim : Int} {no dn : Nat} {gn : Nat → Nat} {gg : Nat → Nat → Nat} {dg nn : Nat → Nat} {pt ln : Nat → Nat → Nat} {wi : Nat → Nat → Int} (hN : 139 ≤ N) (hS : MS G ad c th lim no dn gn gg dg nn pt ln wi) (hV : SV lim no dn gn gg dg nn pt ln wi) {bo : Nat → Int} (hb0 : isA 0 G (c 136) 4 bo) {zi : Int} (hbzi : bnd zi) (hch : ¬ (goF lim no gn gg nn pt ln wi bo 256).2.1 < 1000000) : MC l yX8_tuneAt wsX8_tuneAt rm_X8_tuneAt [.ref (ad 120), .int (zI zi)] D G ad N c (qI D G (fx ad N) (fun v c1 => v = zI 0 ∧ MS G ad c1 1 lim no dn gn gg dg nn pt ln wi ∧ ∀ q, (q < 120 ∨ 137 ≤ q) → c1 q = c q)) 0 0 := by
  refine MCi.of (cc := cX8_tuneAt) (maxL := 5) (by decide) rfl (Nat.le_of_ble_eq_true rfl) ?_
  intro p e s m args below meth kc A Q hx hb hts hown hml fin H locs w ls hl
  have hown : s.vm.findClass RX8 = some m.cls := hown
  have hl : lv_has ls 5 [(0, .ref (ad 120)), (1, .int (zI zi))] := hl
  obtain ⟨⟨row, hm⟩, hh, hB, hDr, hMT, hMR⟩ := id hS
  obtain ⟨hlim, hOV, hdn4, hdg, hUV⟩ := id hV
  have hlb : bnd lim := ⟨by omega, by omega⟩
  have hno8 := hOV.1
  have hgo := goF_bd (lim := lim) (pt := pt) (ln := ln) (wi := wi) hOV hUV (bo := bo) 256
  have htc4 := tC_le nn 4
  refine lv_aload_n hx hb dX8_tuneAt_0 rfl (lv_at hl 0 rfl) ?_
  refine lv_iconst (v := zI (0)) hx hb dX8_tuneAt_1 rfl ?_
  refine pw_ci w (pw_runV (r := 120) (ci := 8) (As := [.int (zI 0)]) (rest := []) w ⟨hx, hb, hml, hown, hts⟩ (c_X8_goThrough l D G ad N c (cn := 0) (bo := bo) hN hS hV (Or.inl rfl) hb0) (cwV 1 hts gX8_tuneAt_X8_goThrough rfl rfl rfl (by decide +kernel) ⟨Nat.le_of_ble_eq_true rfl, Nat.le_of_ble_eq_true rfl⟩) (by omega) hm rfl rfl hl.1 rfl (lv_room (Nat.le_of_ble_eq_true rfl)) dX8_tuneAt_2 ⟨Nat.le_of_ble_eq_true rfl, Nat.le_of_ble_eq_true rfl⟩) (fun r_ c1 H locs hp w => ?_)
  have w : PW D G A s ad N c1 H locs := w
  obtain ⟨hv1, hS1, hb1, fr1⟩ := hp
  subst hv1
  refine pz_top (b := (goF lim no gn gg nn pt ln wi bo 256).2.1) (if_pos rfl) ?_
  obtain ⟨⟨row, hm⟩, hh, hB, hDr, hMT, hMR⟩ := id hS1
  refine lv_ldc hx hb hown (hts _ wd_X8_tuneAt_k91) dX8_tuneAt_5 (pz_topI (y := zI (1000000)) (by decide +kernel) ?_)
  refine pz_icmpge (tgt := 14) hx hb dX8_tuneAt_7 (by decide) (⟨by omega, by omega⟩) (⟨by omega, by omega⟩) (fun h2 => ?_) (fun h2 => ?_)
  · refine lv_iconst (v := zI (0)) hx hb dX8_tuneAt_14 rfl ?_
    refine lv_istore_n (lv' := [(2, .int (zI 0)), (0, .ref (ad 120)), (1, .int (zI zi))]) hx hb dX8_tuneAt_15 rfl hl (by decide) rfl (fun ls hl => ?_)
    refine lv_iconst (v := zI (0)) hx hb dX8_tuneAt_16 rfl ?_
    refine lv_istore_n (lv' := [(3, .int (zI 0)), (2, .int (zI 0)), (0, .ref (ad 120)), (1, .int (zI zi))]) hx hb dX8_tuneAt_17 rfl hl (by decide) rfl (fun ls hl => ?_)
    refine lv_iconst (v := zI (0)) hx hb dX8_tuneAt_18 rfl ?_
    refine lv_istore (lv' := [(4, .int (zI 0)), (3, .int (zI 0)), (2, .int (zI 0)), (0, .ref (ad 120)), (1, .int (zI zi))]) hx hb dX8_tuneAt_19 hl (by decide) rfl (fun ls hl => ?_)
    have lp : ∀ (n : Nat) (t : Nat) (H : Heap) (locs : List Loc) (ls : Array Slot), t ≤ 4 → 4 < t + n → PW D G A s ad N c1 H locs → lv_has ls 5 [(0, .ref (ad 120)), (1, .int (zI zi)), (2, .int (zI 0)), (3, .int (zI (tC nn t : Int))), (4, .int (zI (t : Int)))] → W p l e rm_X8_tuneAt s m args below meth kc H locs 0 0 Q (F0 m 21 ls []) := by
      intro n
      induction n with
      | zero => intro t H locs ls h9t hfu w hl; omega
      | succ n ih =>
        intro t H locs ls h9t hfu w hl
        have htc := tC_le nn t
        refine lv_iload hx hb dX8_tuneAt_21 (lv_at hl 4 rfl) ?_
        refine lv_iconst (v := zI (4)) hx hb dX8_tuneAt_23 rfl ?_
        refine pz_icmpge (tgt := 51) hx hb dX8_tuneAt_24 (by decide) (⟨by omega, by omega⟩) (⟨by omega, by omega⟩) (fun ht4 => ?_) (fun ht4 => ?_)
        · have t4 : t = 4 := by omega
          subst t4
          have hl : lv_has ls 5 [(0, .ref (ad 120)), (1, .int (zI zi)), (2, .int (zI 0)), (3, .int (zI (tC nn 4 : Int))), (4, .int (zI ((4 : Nat) : Int)))] := hl
          refine lv_aload_n hx hb dX8_tuneAt_51 rfl (lv_at hl 0 rfl) ?_
          refine lv_iload_n hx hb dX8_tuneAt_52 rfl (lv_at hl 2 rfl) ?_
          refine pz_ifne (tgt := 60) hx hb dX8_tuneAt_53 (by decide) (⟨by omega, by omega⟩) (fun h3 => ?_) (fun h3 => ?_)
          · omega
          · refine lv_iconst (v := zI (1)) hx hb dX8_tuneAt_56 rfl ?_
            refine lv_goto (tgt := 76) hx hb dX8_tuneAt_57 (by decide) ?_
            refine pw_ci w (pw_runV (r := 120) (ci := 8) (As := [.int (zI 1)]) (rest := []) w ⟨hx, hb, hml, hown, hts⟩ (c_X8_goesWell l D G ad N c1 (pl := 1) hN hm ⟨by decide, by decide⟩) (cwV 1 hts gX8_tuneAt_X8_goesWell rfl rfl rfl (by decide +kernel) ⟨Nat.le_of_ble_eq_true rfl, Nat.le_of_ble_eq_true rfl⟩) (by omega) hm rfl rfl hl.1 rfl (lv_room (Nat.le_of_ble_eq_true rfl)) dX8_tuneAt_76 ⟨Nat.le_of_ble_eq_true rfl, Nat.le_of_ble_eq_true rfl⟩) (fun r_ c4 H locs hp w => ?_)
            have w : PW D G A s ad N c4 H locs := w
            obtain ⟨hv4, hm4, fr4⟩ := hp
            subst hv4
            refine pz_top (b := 0) (if_neg (by omega)) ?_
            have hS4 := hS1.to hm4 fr4
            have hm := hm4
            obtain ⟨-, hh, hB, hDr, hMT, hMR⟩ := id hS4
            refine pz_ifeq (tgt := 91) hx hb dX8_tuneAt_79 (by decide) (⟨by omega, by omega⟩) (fun h5 => ?_) (fun h5 => ?_)
            · refine lv_iconst (v := zI (0)) hx hb dX8_tuneAt_91 rfl ?_
              exact fin (ad, N, c4) c4 _ _ _ _ _ _ _ rfl ⟨rfl, hS4, fun q hq => ((fr4 q (by omega)).trans ((fr1 q (by omega)).trans rfl))⟩ w dX8_tuneAt_92 (Nat.le_refl _) (Nat.le_refl _)
            · omega
        · have hnt := (hUV t (by omega)).1
          refine lv_iload_n hx hb dX8_tuneAt_27 rfl (lv_at hl 3 rfl) ?_
          refine lv_aload_n hx hb dX8_tuneAt_28 rfl (lv_at hl 0 rfl) ?_
          refine pw_get (r := 120) (ci := 8) (C := RX8) (T := TX8) (Nf := 21) hx hb w hts hin_X8_tuneAt_8 hown (by omega) hm rfl 11 (by decide) (hts _ fl_X8_tuneAt_36) (fun _ h9 => h9) rfl dX8_tuneAt_29 ?_
          refine lv_iload hx hb dX8_tuneAt_32 (lv_at hl 4 rfl) ?_
          refine pw_iald (r := 128) (j := t) hx hb w (by omega) hMT.2.2.2 (by omega) (by omega) (by decide) dX8_tuneAt_34 ?_
          refine pz_ifle (tgt := 42) hx hb dX8_tuneAt_35 (by decide) (⟨by omega, by omega⟩) (fun h8 => ?_) (fun h8 => ?_)
          · have h9 : ¬ 0 < nn t := by omega
            refine lv_iconst (v := zI (0)) hx hb dX8_tuneAt_42 rfl ?_
            refine pz_iadd hx hb dX8_tuneAt_43 ?_
            refine pz_top (b := (tC nn (t + 1) : Int)) (by rw [tC, if_neg h9]; omega) ?_
            refine lv_istore_n (lv' := [(3, .int (zI (tC nn (t + 1) : Int))), (0, .ref (ad 120)), (1, .int (zI zi)), (2, .int (zI 0)), (4, .int (zI (t : Int)))]) hx hb dX8_tuneAt_44 rfl hl (by decide) rfl (fun ls hl => ?_)
            refine pz_iinc (lv' := [(4, .int (zI ((t + 1 : Nat) : Int))), (3, .int (zI (tC nn (t + 1) : Int))), (0, .ref (ad 120)), (1, .int (zI zi)), (2, .int (zI 0))]) hx hb dX8_tuneAt_45 hl (j := 4) rfl ((t + 1 : Nat) : Int) (by omega) (by decide) rfl (fun ls hl => ?_)
            refine lv_goto (tgt := 21) hx hb dX8_tuneAt_48 (by decide) ?_
            exact ih (t + 1) H locs ls (by omega) (by omega) w (lv_sub hl [2, 3, 4, 1, 0] rfl)
          · have h9 : 0 < nn t := by omega
            refine lv_iconst (v := zI (1)) hx hb dX8_tuneAt_38 rfl ?_
            refine lv_goto (tgt := 43) hx hb dX8_tuneAt_39 (by decide) ?_
            refine pz_iadd hx hb dX8_tuneAt_43 ?_
            refine pz_top (b := (tC nn (t + 1) : Int)) (by rw [tC, if_pos h9]; omega) ?_
            refine lv_istore_n (lv' := [(3, .int (zI (tC nn (t + 1) : Int))), (0, .ref (ad 120)), (1, .int (zI zi)), (2, .int (zI 0)), (4, .int (zI (t : Int)))]) hx hb dX8_tuneAt_44 rfl hl (by decide) rfl (fun ls hl => ?_)
            refine pz_iinc (lv' := [(4, .int (zI ((t + 1 : Nat) : Int))), (3, .int (zI (tC nn (t + 1) : Int))), (0, .ref (ad 120)), (1, .int (zI zi)), (2, .int (zI 0))]) hx hb dX8_tuneAt_45 hl (j := 4) rfl ((t + 1 : Nat) : Int) (by omega) (by decide) rfl (fun ls hl => ?_)
            refine lv_goto (tgt := 21) hx hb dX8_tuneAt_48 (by decide) ?_
            exact ih (t + 1) H locs ls (by omega) (by omega) w (lv_sub hl [2, 3, 4, 1, 0] rfl)
    exact lp 5 0 H locs ls (by omega) (by omega) w (lv_sub hl [3, 4, 2, 1, 0] rfl)
  · omega

set_option maxHeartbeats 4000000 in
set_option maxRecDepth 100000 in
/-- X8_tuneAt_bad2 -/
theorem c_X8_tuneAt_bad2 (l : Launch) (D : va_G) (G : Nat → ClassId) (ad : Nat → Nat) (N : Nat) (c : Nat → va_E) {th lim : Int} {no dn : Nat} {gn : Nat → Nat} {gg : Nat → Nat → Nat} {dg nn : Nat → Nat} {pt ln : Nat → Nat → Nat} {wi : Nat → Nat → Int} (hN : 139 ≤ N) (hS : MS G ad c th lim no dn gn gg dg nn pt ln wi) (hV : SV lim no dn gn gg dg nn pt ln wi) {bo : Nat → Int} (hb0 : isA 0 G (c 136) 4 bo) {zi : Int} (hbzi : bnd zi) (hch : (goF lim no gn gg nn pt ln wi bo 256).2.1 < 1000000) (hbad : ¬ (0 ≤ zi ∧ zi ≤ (tC nn 4 : Int) - 1)) : MC l yX8_tuneAt wsX8_tuneAt rm_X8_tuneAt [.ref (ad 120), .int (zI zi)] D G ad N c (qI D G (fx ad N) (fun v c1 => v = zI 0 ∧ MS G ad c1 2 lim no dn gn gg dg nn pt ln wi ∧ ∀ q, (q < 120 ∨ 137 ≤ q) → c1 q = c q)) 0 0 := by
  refine MCi.of (cc := cX8_tuneAt) (maxL := 5) (by decide) rfl (Nat.le_of_ble_eq_true rfl) ?_
  intro p e s m args below meth kc A Q hx hb hts hown hml fin H locs w ls hl
  have hown : s.vm.findClass RX8 = some m.cls := hown
  have hl : lv_has ls 5 [(0, .ref (ad 120)), (1, .int (zI zi))] := hl
  obtain ⟨⟨row, hm⟩, hh, hB, hDr, hMT, hMR⟩ := id hS
  obtain ⟨hlim, hOV, hdn4, hdg, hUV⟩ := id hV
  have hlb : bnd lim := ⟨by omega, by omega⟩
  have hno8 := hOV.1
  have hgo := goF_bd (lim := lim) (pt := pt) (ln := ln) (wi := wi) hOV hUV (bo := bo) 256
  have htc4 := tC_le nn 4
  have hbzi1 := hbzi.1
  have hbzi2 := hbzi.2
  refine lv_aload_n hx hb dX8_tuneAt_0 rfl (lv_at hl 0 rfl) ?_
  refine lv_iconst (v := zI (0)) hx hb dX8_tuneAt_1 rfl ?_
  refine pw_ci w (pw_runV (r := 120) (ci := 8) (As := [.int (zI 0)]) (rest := []) w ⟨hx, hb, hml, hown, hts⟩ (c_X8_goThrough l D G ad N c (cn := 0) (bo := bo) hN hS hV (Or.inl rfl) hb0) (cwV 1 hts gX8_tuneAt_X8_goThrough rfl rfl rfl (by decide +kernel) ⟨Nat.le_of_ble_eq_true rfl, Nat.le_of_ble_eq_true rfl⟩) (by omega) hm rfl rfl hl.1 rfl (lv_room (Nat.le_of_ble_eq_true rfl)) dX8_tuneAt_2 ⟨Nat.le_of_ble_eq_true rfl, Nat.le_of_ble_eq_true rfl⟩) (fun r_ c1 H locs hp w => ?_)
  have w : PW D G A s ad N c1 H locs := w
  obtain ⟨hv1, hS1, hb1, fr1⟩ := hp
  subst hv1
  refine pz_top (b := (goF lim no gn gg nn pt ln wi bo 256).2.1) (if_pos rfl) ?_
  obtain ⟨⟨row, hm⟩, hh, hB, hDr, hMT, hMR⟩ := id hS1
  refine lv_ldc hx hb hown (hts _ wd_X8_tuneAt_k91) dX8_tuneAt_5 (pz_topI (y := zI (1000000)) (by decide +kernel) ?_)
  refine pz_icmpge (tgt := 14) hx hb dX8_tuneAt_7 (by decide) (⟨by omega, by omega⟩) (⟨by omega, by omega⟩) (fun h2 => ?_) (fun h2 => ?_)
  · omega
  · refine lv_iconst (v := zI (1)) hx hb dX8_tuneAt_10 rfl ?_
    refine lv_goto (tgt := 15) hx hb dX8_tuneAt_11 (by decide) ?_
    refine lv_istore_n (lv' := [(2, .int (zI 1)), (0, .ref (ad 120)), (1, .int (zI zi))]) hx hb dX8_tuneAt_15 rfl hl (by decide) rfl (fun ls hl => ?_)
    refine lv_iconst (v := zI (0)) hx hb dX8_tuneAt_16 rfl ?_
    refine lv_istore_n (lv' := [(3, .int (zI 0)), (2, .int (zI 1)), (0, .ref (ad 120)), (1, .int (zI zi))]) hx hb dX8_tuneAt_17 rfl hl (by decide) rfl (fun ls hl => ?_)
    refine lv_iconst (v := zI (0)) hx hb dX8_tuneAt_18 rfl ?_
    refine lv_istore (lv' := [(4, .int (zI 0)), (3, .int (zI 0)), (2, .int (zI 1)), (0, .ref (ad 120)), (1, .int (zI zi))]) hx hb dX8_tuneAt_19 hl (by decide) rfl (fun ls hl => ?_)
    have lp : ∀ (n : Nat) (t : Nat) (H : Heap) (locs : List Loc) (ls : Array Slot), t ≤ 4 → 4 < t + n → PW D G A s ad N c1 H locs → lv_has ls 5 [(0, .ref (ad 120)), (1, .int (zI zi)), (2, .int (zI 1)), (3, .int (zI (tC nn t : Int))), (4, .int (zI (t : Int)))] → W p l e rm_X8_tuneAt s m args below meth kc H locs 0 0 Q (F0 m 21 ls []) := by
      intro n
      induction n with
      | zero => intro t H locs ls h9t hfu w hl; omega
      | succ n ih =>
        intro t H locs ls h9t hfu w hl
        have htc := tC_le nn t
        refine lv_iload hx hb dX8_tuneAt_21 (lv_at hl 4 rfl) ?_
        refine lv_iconst (v := zI (4)) hx hb dX8_tuneAt_23 rfl ?_
        refine pz_icmpge (tgt := 51) hx hb dX8_tuneAt_24 (by decide) (⟨by omega, by omega⟩) (⟨by omega, by omega⟩) (fun ht4 => ?_) (fun ht4 => ?_)
        · have t4 : t = 4 := by omega
          subst t4
          have hl : lv_has ls 5 [(0, .ref (ad 120)), (1, .int (zI zi)), (2, .int (zI 1)), (3, .int (zI (tC nn 4 : Int))), (4, .int (zI ((4 : Nat) : Int)))] := hl
          refine lv_aload_n hx hb dX8_tuneAt_51 rfl (lv_at hl 0 rfl) ?_
          refine lv_iload_n hx hb dX8_tuneAt_52 rfl (lv_at hl 2 rfl) ?_
          refine pz_ifne (tgt := 60) hx hb dX8_tuneAt_53 (by decide) (⟨by omega, by omega⟩) (fun h3 => ?_) (fun h3 => ?_)
          · refine lv_iload_n hx hb dX8_tuneAt_60 rfl (lv_at hl 1 rfl) ?_
            refine lv_iconst (v := zI (0)) hx hb dX8_tuneAt_61 rfl ?_
            refine lv_iload_n hx hb dX8_tuneAt_62 rfl (lv_at hl 3 rfl) ?_
            refine lv_iconst (v := zI (1)) hx hb dX8_tuneAt_63 rfl ?_
            refine pz_isub hx hb dX8_tuneAt_64 ?_
            refine pw_ci w (pw_runS (As := [.int (zI zi), .int (zI 0), .int (zI ((tC nn 4 : Int) - 1))]) (rest := [.ref (ad 120)]) w ⟨hx, hb, hml, hown, hts⟩ (c_X8_in l D G ad N c1 (v := zi) (lo := 0) (hi := ((tC nn 4 : Int) - 1)) ⟨by omega, by omega⟩ ⟨by omega, by omega⟩ ⟨by omega, by omega⟩) (va_cwS 3 hts gX8_tuneAt_X8_in rfl rfl rfl (by decide +kernel) ⟨Nat.le_of_ble_eq_true rfl, Nat.le_of_ble_eq_true rfl⟩) rfl hl.1 rfl (lv_room (Nat.le_of_ble_eq_true rfl)) dX8_tuneAt_65 ⟨Nat.le_of_ble_eq_true rfl, Nat.le_of_ble_eq_true rfl⟩) (fun r_ u H locs hp w => ?_)
            obtain ⟨hv, hu⟩ := hp
            subst hv
            have w : PW D G A s ad N c1 H locs := by rw [hu] at w; exact w
            clear hu
            refine pz_top (b := 0) (if_neg (by omega)) ?_
            refine pz_ifeq (tgt := 75) hx hb dX8_tuneAt_68 (by decide) (⟨by omega, by omega⟩) (fun h4 => ?_) (fun h4 => ?_)
            · refine lv_iconst (v := zI (2)) hx hb dX8_tuneAt_75 rfl ?_
              refine pw_ci w (pw_runV (r := 120) (ci := 8) (As := [.int (zI 2)]) (rest := []) w ⟨hx, hb, hml, hown, hts⟩ (c_X8_goesWell l D G ad N c1 (pl := 2) hN hm ⟨by decide, by decide⟩) (cwV 1 hts gX8_tuneAt_X8_goesWell rfl rfl rfl (by decide +kernel) ⟨Nat.le_of_ble_eq_true rfl, Nat.le_of_ble_eq_true rfl⟩) (by omega) hm rfl rfl hl.1 rfl (lv_room (Nat.le_of_ble_eq_true rfl)) dX8_tuneAt_76 ⟨Nat.le_of_ble_eq_true rfl, Nat.le_of_ble_eq_true rfl⟩) (fun r_ c5 H locs hp w => ?_)
              have w : PW D G A s ad N c5 H locs := w
              obtain ⟨hv5, hm5, fr5⟩ := hp
              subst hv5
              refine pz_top (b := 0) (if_neg (by omega)) ?_
              have hS5 := hS1.to hm5 fr5
              have hm := hm5
              obtain ⟨-, hh, hB, hDr, hMT, hMR⟩ := id hS5
              refine pz_ifeq (tgt := 91) hx hb dX8_tuneAt_79 (by decide) (⟨by omega, by omega⟩) (fun h6 => ?_) (fun h6 => ?_)
              · refine lv_iconst (v := zI (0)) hx hb dX8_tuneAt_91 rfl ?_
                exact fin (ad, N, c5) c5 _ _ _ _ _ _ _ rfl ⟨rfl, hS5, fun q hq => ((fr5 q (by omega)).trans ((fr1 q (by omega)).trans rfl))⟩ w dX8_tuneAt_92 (Nat.le_refl _) (Nat.le_refl _)
              · omega
            · omega
          · omega
        · have hnt := (hUV t (by omega)).1
          refine lv_iload_n hx hb dX8_tuneAt_27 rfl (lv_at hl 3 rfl) ?_
          refine lv_aload_n hx hb dX8_tuneAt_28 rfl (lv_at hl 0 rfl) ?_
          refine pw_get (r := 120) (ci := 8) (C := RX8) (T := TX8) (Nf := 21) hx hb w hts hin_X8_tuneAt_8 hown (by omega) hm rfl 11 (by decide) (hts _ fl_X8_tuneAt_36) (fun _ h9 => h9) rfl dX8_tuneAt_29 ?_
          refine lv_iload hx hb dX8_tuneAt_32 (lv_at hl 4 rfl) ?_
          refine pw_iald (r := 128) (j := t) hx hb w (by omega) hMT.2.2.2 (by omega) (by omega) (by decide) dX8_tuneAt_34 ?_
          refine pz_ifle (tgt := 42) hx hb dX8_tuneAt_35 (by decide) (⟨by omega, by omega⟩) (fun h8 => ?_) (fun h8 => ?_)
          · have h9 : ¬ 0 < nn t := by omega
            refine lv_iconst (v := zI (0)) hx hb dX8_tuneAt_42 rfl ?_
            refine pz_iadd hx hb dX8_tuneAt_43 ?_
            refine pz_top (b := (tC nn (t + 1) : Int)) (by rw [tC, if_neg h9]; omega) ?_
            refine lv_istore_n (lv' := [(3, .int (zI (tC nn (t + 1) : Int))), (0, .ref (ad 120)), (1, .int (zI zi)), (2, .int (zI 1)), (4, .int (zI (t : Int)))]) hx hb dX8_tuneAt_44 rfl hl (by decide) rfl (fun ls hl => ?_)
            refine pz_iinc (lv' := [(4, .int (zI ((t + 1 : Nat) : Int))), (3, .int (zI (tC nn (t + 1) : Int))), (0, .ref (ad 120)), (1, .int (zI zi)), (2, .int (zI 1))]) hx hb dX8_tuneAt_45 hl (j := 4) rfl ((t + 1 : Nat) : Int) (by omega) (by decide) rfl (fun ls hl => ?_)
            refine lv_goto (tgt := 21) hx hb dX8_tuneAt_48 (by decide) ?_
            exact ih (t + 1) H locs ls (by omega) (by omega) w (lv_sub hl [2, 3, 4, 1, 0] rfl)
          · have h9 : 0 < nn t := by omega
            refine lv_iconst (v := zI (1)) hx hb dX8_tuneAt_38 rfl ?_
            refine lv_goto (tgt := 43) hx hb dX8_tuneAt_39 (by decide) ?_
            refine pz_iadd hx hb dX8_tuneAt_43 ?_
            refine pz_top (b := (tC nn (t + 1) : Int)) (by rw [tC, if_pos h9]; omega) ?_
            refine lv_istore_n (lv' := [(3, .int (zI (tC nn (t + 1) : Int))), (0, .ref (ad 120)), (1, .int (zI zi)), (2, .int (zI 1)), (4, .int (zI (t : Int)))]) hx hb dX8_tuneAt_44 rfl hl (by decide) rfl (fun ls hl => ?_)
            refine pz_iinc (lv' := [(4, .int (zI ((t + 1 : Nat) : Int))), (3, .int (zI (tC nn (t + 1) : Int))), (0, .ref (ad 120)), (1, .int (zI zi)), (2, .int (zI 1))]) hx hb dX8_tuneAt_45 hl (j := 4) rfl ((t + 1 : Nat) : Int) (by omega) (by decide) rfl (fun ls hl => ?_)
            refine lv_goto (tgt := 21) hx hb dX8_tuneAt_48 (by decide) ?_
            exact ih (t + 1) H locs ls (by omega) (by omega) w (lv_sub hl [2, 3, 4, 1, 0] rfl)
    exact lp 5 0 H locs ls (by omega) (by omega) w (lv_sub hl [3, 4, 2, 1, 0] rfl)

theorem fl_X8_tuneAt_60 : Cond.fieldLink RX8 60 "PipersDeskModel" "bestOrder" "[I" ∈ wsX8_tuneAt := by decide +kernel
set_option maxHeartbeats 4000000 in
set_option maxRecDepth 100000 in
/-- X8_tuneAt_ok -/
theorem c_X8_tuneAt_ok (l : Launch) (D : va_G) (G : Nat → ClassId) (ad : Nat → Nat) (N : Nat) (c : Nat → va_E) {th lim : Int} {no dn : Nat} {gn : Nat → Nat} {gg : Nat → Nat → Nat} {dg nn : Nat → Nat} {pt ln : Nat → Nat → Nat} {wi : Nat → Nat → Int} (hN : 139 ≤ N) (hS : MS G ad c th lim no dn gn gg dg nn pt ln wi) (hV : SV lim no dn gn gg dg nn pt ln wi) {bo : Nat → Int} (hb0 : isA 0 G (c 136) 4 bo) {i : Nat} (hch : (goF lim no gn gg nn pt ln wi bo 256).2.1 < 1000000) (hi : i < tC nn 4) : MC l yX8_tuneAt wsX8_tuneAt rm_X8_tuneAt [.ref (ad 120), .int (zI (i : Int))] D G ad N c (qI D G (fx ad N) (fun v c1 => v = zI ((goF lim no gn gg nn pt ln wi bo 256).2.2 i) ∧ MS G ad c1 0 lim no dn gn gg dg nn pt ln wi ∧ ∀ q, (q < 120 ∨ 137 ≤ q) → c1 q = c q)) 0 0 := by
  refine MCi.of (cc := cX8_tuneAt) (maxL := 5) (by decide) rfl (Nat.le_of_ble_eq_true rfl) ?_
  intro p e s m args below meth kc A Q hx hb hts hown hml fin H locs w ls hl
  have hown : s.vm.findClass RX8 = some m.cls := hown
  have hl : lv_has ls 5 [(0, .ref (ad 120)), (1, .int (zI (i : Int)))] := hl
  obtain ⟨⟨row, hm⟩, hh, hB, hDr, hMT, hMR⟩ := id hS
  obtain ⟨hlim, hOV, hdn4, hdg, hUV⟩ := id hV
  have hlb : bnd lim := ⟨by omega, by omega⟩
  have hno8 := hOV.1
  have hgo := goF_bd (lim := lim) (pt := pt) (ln := ln) (wi := wi) hOV hUV (bo := bo) 256
  have htc4 := tC_le nn 4
  refine lv_aload_n hx hb dX8_tuneAt_0 rfl (lv_at hl 0 rfl) ?_
  refine lv_iconst (v := zI (0)) hx hb dX8_tuneAt_1 rfl ?_
  refine pw_ci w (pw_runV (r := 120) (ci := 8) (As := [.int (zI 0)]) (rest := []) w ⟨hx, hb, hml, hown, hts⟩ (c_X8_goThrough l D G ad N c (cn := 0) (bo := bo) hN hS hV (Or.inl rfl) hb0) (cwV 1 hts gX8_tuneAt_X8_goThrough rfl rfl rfl (by decide +kernel) ⟨Nat.le_of_ble_eq_true rfl, Nat.le_of_ble_eq_true rfl⟩) (by omega) hm rfl rfl hl.1 rfl (lv_room (Nat.le_of_ble_eq_true rfl)) dX8_tuneAt_2 ⟨Nat.le_of_ble_eq_true rfl, Nat.le_of_ble_eq_true rfl⟩) (fun r_ c1 H locs hp w => ?_)
  have w : PW D G A s ad N c1 H locs := w
  obtain ⟨hv1, hS1, hb1, fr1⟩ := hp
  subst hv1
  refine pz_top (b := (goF lim no gn gg nn pt ln wi bo 256).2.1) (if_pos rfl) ?_
  obtain ⟨⟨row, hm⟩, hh, hB, hDr, hMT, hMR⟩ := id hS1
  refine lv_ldc hx hb hown (hts _ wd_X8_tuneAt_k91) dX8_tuneAt_5 (pz_topI (y := zI (1000000)) (by decide +kernel) ?_)
  refine pz_icmpge (tgt := 14) hx hb dX8_tuneAt_7 (by decide) (⟨by omega, by omega⟩) (⟨by omega, by omega⟩) (fun h2 => ?_) (fun h2 => ?_)
  · omega
  · refine lv_iconst (v := zI (1)) hx hb dX8_tuneAt_10 rfl ?_
    refine lv_goto (tgt := 15) hx hb dX8_tuneAt_11 (by decide) ?_
    refine lv_istore_n (lv' := [(2, .int (zI 1)), (0, .ref (ad 120)), (1, .int (zI (i : Int)))]) hx hb dX8_tuneAt_15 rfl hl (by decide) rfl (fun ls hl => ?_)
    refine lv_iconst (v := zI (0)) hx hb dX8_tuneAt_16 rfl ?_
    refine lv_istore_n (lv' := [(3, .int (zI 0)), (2, .int (zI 1)), (0, .ref (ad 120)), (1, .int (zI (i : Int)))]) hx hb dX8_tuneAt_17 rfl hl (by decide) rfl (fun ls hl => ?_)
    refine lv_iconst (v := zI (0)) hx hb dX8_tuneAt_18 rfl ?_
    refine lv_istore (lv' := [(4, .int (zI 0)), (3, .int (zI 0)), (2, .int (zI 1)), (0, .ref (ad 120)), (1, .int (zI (i : Int)))]) hx hb dX8_tuneAt_19 hl (by decide) rfl (fun ls hl => ?_)
    have lp : ∀ (n : Nat) (t : Nat) (H : Heap) (locs : List Loc) (ls : Array Slot), t ≤ 4 → 4 < t + n → PW D G A s ad N c1 H locs → lv_has ls 5 [(0, .ref (ad 120)), (1, .int (zI (i : Int))), (2, .int (zI 1)), (3, .int (zI (tC nn t : Int))), (4, .int (zI (t : Int)))] → W p l e rm_X8_tuneAt s m args below meth kc H locs 0 0 Q (F0 m 21 ls []) := by
      intro n
      induction n with
      | zero => intro t H locs ls h9t hfu w hl; omega
      | succ n ih =>
        intro t H locs ls h9t hfu w hl
        have htc := tC_le nn t
        refine lv_iload hx hb dX8_tuneAt_21 (lv_at hl 4 rfl) ?_
        refine lv_iconst (v := zI (4)) hx hb dX8_tuneAt_23 rfl ?_
        refine pz_icmpge (tgt := 51) hx hb dX8_tuneAt_24 (by decide) (⟨by omega, by omega⟩) (⟨by omega, by omega⟩) (fun ht4 => ?_) (fun ht4 => ?_)
        · have t4 : t = 4 := by omega
          subst t4
          have hl : lv_has ls 5 [(0, .ref (ad 120)), (1, .int (zI (i : Int))), (2, .int (zI 1)), (3, .int (zI (tC nn 4 : Int))), (4, .int (zI ((4 : Nat) : Int)))] := hl
          refine lv_aload_n hx hb dX8_tuneAt_51 rfl (lv_at hl 0 rfl) ?_
          refine lv_iload_n hx hb dX8_tuneAt_52 rfl (lv_at hl 2 rfl) ?_
          refine pz_ifne (tgt := 60) hx hb dX8_tuneAt_53 (by decide) (⟨by omega, by omega⟩) (fun h3 => ?_) (fun h3 => ?_)
          · refine lv_iload_n hx hb dX8_tuneAt_60 rfl (lv_at hl 1 rfl) ?_
            refine lv_iconst (v := zI (0)) hx hb dX8_tuneAt_61 rfl ?_
            refine lv_iload_n hx hb dX8_tuneAt_62 rfl (lv_at hl 3 rfl) ?_
            refine lv_iconst (v := zI (1)) hx hb dX8_tuneAt_63 rfl ?_
            refine pz_isub hx hb dX8_tuneAt_64 ?_
            refine pw_ci w (pw_runS (As := [.int (zI (i : Int)), .int (zI 0), .int (zI ((tC nn 4 : Int) - 1))]) (rest := [.ref (ad 120)]) w ⟨hx, hb, hml, hown, hts⟩ (c_X8_in l D G ad N c1 (v := (i : Int)) (lo := 0) (hi := ((tC nn 4 : Int) - 1)) ⟨by omega, by omega⟩ ⟨by omega, by omega⟩ ⟨by omega, by omega⟩) (va_cwS 3 hts gX8_tuneAt_X8_in rfl rfl rfl (by decide +kernel) ⟨Nat.le_of_ble_eq_true rfl, Nat.le_of_ble_eq_true rfl⟩) rfl hl.1 rfl (lv_room (Nat.le_of_ble_eq_true rfl)) dX8_tuneAt_65 ⟨Nat.le_of_ble_eq_true rfl, Nat.le_of_ble_eq_true rfl⟩) (fun r_ u H locs hp w => ?_)
            obtain ⟨hv, hu⟩ := hp
            subst hv
            have w : PW D G A s ad N c1 H locs := by rw [hu] at w; exact w
            clear hu
            refine pz_top (b := 1) (if_pos (by omega)) ?_
            refine pz_ifeq (tgt := 75) hx hb dX8_tuneAt_68 (by decide) (⟨by omega, by omega⟩) (fun h4 => ?_) (fun h4 => ?_)
            · omega
            · refine lv_iconst (v := zI (0)) hx hb dX8_tuneAt_71 rfl ?_
              refine lv_goto (tgt := 76) hx hb dX8_tuneAt_72 (by decide) ?_
              refine pw_ci w (pw_runV (r := 120) (ci := 8) (As := [.int (zI 0)]) (rest := []) w ⟨hx, hb, hml, hown, hts⟩ (c_X8_goesWell l D G ad N c1 (pl := 0) hN hm ⟨by decide, by decide⟩) (cwV 1 hts gX8_tuneAt_X8_goesWell rfl rfl rfl (by decide +kernel) ⟨Nat.le_of_ble_eq_true rfl, Nat.le_of_ble_eq_true rfl⟩) (by omega) hm rfl rfl hl.1 rfl (lv_room (Nat.le_of_ble_eq_true rfl)) dX8_tuneAt_76 ⟨Nat.le_of_ble_eq_true rfl, Nat.le_of_ble_eq_true rfl⟩) (fun r_ c5 H locs hp w => ?_)
              have w : PW D G A s ad N c5 H locs := w
              obtain ⟨hv5, hm5, fr5⟩ := hp
              subst hv5
              refine pz_top (b := 1) (if_pos (by omega)) ?_
              have hS5 := hS1.to hm5 fr5
              have hm := hm5
              obtain ⟨-, hh, hB, hDr, hMT, hMR⟩ := id hS5
              have hb9 := isA.fr (fr5 136 (by omega)) hb1
              refine pz_ifeq (tgt := 91) hx hb dX8_tuneAt_79 (by decide) (⟨by omega, by omega⟩) (fun h6 => ?_) (fun h6 => ?_)
              · omega
              · refine lv_aload_n hx hb dX8_tuneAt_82 rfl (lv_at hl 0 rfl) ?_
                refine pw_get (r := 120) (ci := 8) (C := RX8) (T := TX8) (Nf := 21) hx hb w hts hin_X8_tuneAt_8 hown (by omega) hm rfl 20 (by decide) (hts _ fl_X8_tuneAt_60) (fun _ h9 => h9) rfl dX8_tuneAt_83 ?_
                refine lv_iload_n hx hb dX8_tuneAt_86 rfl (lv_at hl 1 rfl) ?_
                refine pw_iald (r := 136) (j := i) hx hb w (by omega) hb9 (by omega) (by omega) (by decide) dX8_tuneAt_87 ?_
                refine lv_goto (tgt := 92) hx hb dX8_tuneAt_88 (by decide) ?_
                exact fin (ad, N, c5) c5 _ _ _ _ _ _ _ rfl ⟨rfl, hS5, fun q hq => ((fr5 q (by omega)).trans ((fr1 q (by omega)).trans rfl))⟩ w dX8_tuneAt_92 (Nat.le_refl _) (Nat.le_refl _)
          · omega
        · have hnt := (hUV t (by omega)).1
          refine lv_iload_n hx hb dX8_tuneAt_27 rfl (lv_at hl 3 rfl) ?_
          refine lv_aload_n hx hb dX8_tuneAt_28 rfl (lv_at hl 0 rfl) ?_
          refine pw_get (r := 120) (ci := 8) (C := RX8) (T := TX8) (Nf := 21) hx hb w hts hin_X8_tuneAt_8 hown (by omega) hm rfl 11 (by decide) (hts _ fl_X8_tuneAt_36) (fun _ h9 => h9) rfl dX8_tuneAt_29 ?_
          refine lv_iload hx hb dX8_tuneAt_32 (lv_at hl 4 rfl) ?_
          refine pw_iald (r := 128) (j := t) hx hb w (by omega) hMT.2.2.2 (by omega) (by omega) (by decide) dX8_tuneAt_34 ?_
          refine pz_ifle (tgt := 42) hx hb dX8_tuneAt_35 (by decide) (⟨by omega, by omega⟩) (fun h8 => ?_) (fun h8 => ?_)
          · have h9 : ¬ 0 < nn t := by omega
            refine lv_iconst (v := zI (0)) hx hb dX8_tuneAt_42 rfl ?_
            refine pz_iadd hx hb dX8_tuneAt_43 ?_
            refine pz_top (b := (tC nn (t + 1) : Int)) (by rw [tC, if_neg h9]; omega) ?_
            refine lv_istore_n (lv' := [(3, .int (zI (tC nn (t + 1) : Int))), (0, .ref (ad 120)), (1, .int (zI (i : Int))), (2, .int (zI 1)), (4, .int (zI (t : Int)))]) hx hb dX8_tuneAt_44 rfl hl (by decide) rfl (fun ls hl => ?_)
            refine pz_iinc (lv' := [(4, .int (zI ((t + 1 : Nat) : Int))), (3, .int (zI (tC nn (t + 1) : Int))), (0, .ref (ad 120)), (1, .int (zI (i : Int))), (2, .int (zI 1))]) hx hb dX8_tuneAt_45 hl (j := 4) rfl ((t + 1 : Nat) : Int) (by omega) (by decide) rfl (fun ls hl => ?_)
            refine lv_goto (tgt := 21) hx hb dX8_tuneAt_48 (by decide) ?_
            exact ih (t + 1) H locs ls (by omega) (by omega) w (lv_sub hl [2, 3, 4, 1, 0] rfl)
          · have h9 : 0 < nn t := by omega
            refine lv_iconst (v := zI (1)) hx hb dX8_tuneAt_38 rfl ?_
            refine lv_goto (tgt := 43) hx hb dX8_tuneAt_39 (by decide) ?_
            refine pz_iadd hx hb dX8_tuneAt_43 ?_
            refine pz_top (b := (tC nn (t + 1) : Int)) (by rw [tC, if_pos h9]; omega) ?_
            refine lv_istore_n (lv' := [(3, .int (zI (tC nn (t + 1) : Int))), (0, .ref (ad 120)), (1, .int (zI (i : Int))), (2, .int (zI 1)), (4, .int (zI (t : Int)))]) hx hb dX8_tuneAt_44 rfl hl (by decide) rfl (fun ls hl => ?_)
            refine pz_iinc (lv' := [(4, .int (zI ((t + 1 : Nat) : Int))), (3, .int (zI (tC nn (t + 1) : Int))), (0, .ref (ad 120)), (1, .int (zI (i : Int))), (2, .int (zI 1))]) hx hb dX8_tuneAt_45 hl (j := 4) rfl ((t + 1 : Nat) : Int) (by omega) (by decide) rfl (fun ls hl => ?_)
            refine lv_goto (tgt := 21) hx hb dX8_tuneAt_48 (by decide) ?_
            exact ih (t + 1) H locs ls (by omega) (by omega) w (lv_sub hl [2, 3, 4, 1, 0] rfl)
    exact lp 5 0 H locs ls (by omega) (by omega) w (lv_sub hl [3, 4, 2, 1, 0] rfl)
