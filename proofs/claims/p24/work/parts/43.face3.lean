theorem hin_X7_solve_7 : ∀ w ∈ u_ws RX7 TX7 5, w ∈ wsX7_solve := by decide +kernel
theorem fl_X7_solve_25 : Cond.fieldLink RX7 25 "PipersDesk" "tunes" "[LPipersDesk$Tune;" ∈ wsX7_solve := by decide +kernel
theorem fl_X7_solve_12 : Cond.fieldLink RX7 12 "PipersDesk" "fingers" "LPipersDesk$Fingers;" ∈ wsX7_solve := by decide +kernel
theorem fl_X7_solve_19 : Cond.fieldLink RX7 19 "PipersDesk" "book" "LPipersDesk$OrnamentBook;" ∈ wsX7_solve := by decide +kernel
theorem fl_X7_solve_33 : Cond.fieldLink RX7 33 "PipersDesk" "tuneChoices" "LPipersDesk$TuneChoices;" ∈ wsX7_solve := by decide +kernel
theorem wd_X7_solve_k108 : Cond.constant RX7 108 (1000000) ∈ wsX7_solve := by decide +kernel
abbrev rm_X7_solve : Room := { frames := 7, cells := 0, slots := 0, locals := 210 }
set_option maxHeartbeats 4000000 in
set_option maxRecDepth 100000 in
theorem c_X7_solve (l : Launch) (D : va_G) (G : Nat → ClassId) (ad : Nat → Nat) (N : Nat) (c : Nat → va_E) {lim : Int} {no dn : Nat} {gn : Nat → Nat} {gg : Nat → Nat → Nat} {dg nn : Nat → Nat} {pt ln : Nat → Nat → Nat} {wi : Nat → Nat → Int} (hN : 120 + 2 * no ≤ N) (hD : DK G ad c lim no dn gn gg dg nn pt ln wi) (hV : SV lim no dn gn gg dg nn pt ln wi) {t : Nat} (ht : t < 4) (hlt : (lessOf (Rr (cwT lim no gn gg nn pt ln wi t) (nn t - 1) 0)) < 1000000) : MC l yX7_solve wsX7_solve rm_X7_solve [.ref (ad 0), .int (zI (t : Int))] D G ad N c (qI D G (fx ad N) (fun v c1 => v = zI (lessOf (Rr (cwT lim no gn gg nn pt ln wi t) (nn t - 1) 0)) ∧ DK G ad c1 lim no dn gn gg dg nn pt ln wi ∧ (∀ j, j ≤ nn t - 1 → isA 0 G (c1 (74 + 2 * j + 1)) 9 (Rr (cwT lim no gn gg nn pt ln wi t) (nn t - 1 - j) j)) ∧ GW G c1 (16 + 14 * t) (nn t) (cwT lim no gn gg nn pt ln wi t) ∧ ∀ q, (120 ≤ q ∧ q < 120) → c1 q = c q)) 0 0 := by
  refine MCi.of (cc := cX7_solve) (maxL := 3) (by decide) rfl (Nat.le_of_ble_eq_true rfl) ?_
  intro p e s m args below meth kc A Q hx hb hts hown hml fin H locs w ls hl
  have hown : s.vm.findClass RX7 = some m.cls := hown
  have hl : lv_has ls 3 [(0, .ref (ad 0)), (1, .int (zI (t : Int)))] := hl
  obtain ⟨h0, hF, hB, hU, hTR, hTC, ⟨mz, lc, od, bt, hSS⟩, hJ⟩ := id hD
  obtain ⟨⟨ft, h15, hft⟩, hUo⟩ := id hU
  obtain ⟨hlim, hOV, hdn4, hdg, hUV⟩ := id hV
  have hlb : bnd lim := ⟨by omega, by omega⟩
  have hno8 := hOV.1
  have hBV : BookV no dn gn gg dg := ⟨hOV.1, hOV.2, hdn4, hdg⟩
  have hnt := (hUV t ht).1
  refine lv_aload_n hx hb dX7_solve_0 rfl (lv_at hl 0 rfl) ?_
  refine pw_get (r := 0) (ci := 7) (C := RX7) (T := TX7) (Nf := 5) hx hb w hts hin_X7_solve_7 hown (by omega) h0 rfl 2 (by decide) (hts _ fl_X7_solve_25) (fun _ h9 => h9) rfl dX7_solve_1 ?_
  refine lv_iload_n hx hb dX7_solve_4 rfl (lv_at hl 1 rfl) ?_
  refine pw_aaldR (r := 15) (j := t) hx hb w (by omega) h15 rfl rfl (by omega) (by omega) (by decide) (16 + 14 * t) (hft t (by omega)) dX7_solve_5 ?_
  refine lv_aload_n hx hb dX7_solve_6 rfl (lv_at hl 0 rfl) ?_
  refine pw_get (r := 0) (ci := 7) (C := RX7) (T := TX7) (Nf := 5) hx hb w hts hin_X7_solve_7 hown (by omega) h0 rfl 0 (by decide) (hts _ fl_X7_solve_12) (fun _ h9 => h9) rfl dX7_solve_7 ?_
  refine lv_aload_n hx hb dX7_solve_10 rfl (lv_at hl 0 rfl) ?_
  refine pw_get (r := 0) (ci := 7) (C := RX7) (T := TX7) (Nf := 5) hx hb w hts hin_X7_solve_7 hown (by omega) h0 rfl 1 (by decide) (hts _ fl_X7_solve_19) (fun _ h9 => h9) rfl dX7_solve_11 ?_
  refine pw_cv w (pw_runV (r := (16 + 14 * t)) (ci := 5) (As := [.ref (ad 1), .ref (ad 12)]) (rest := []) w ⟨hx, hb, hml, hown, hts⟩ (c_X5_weighGaps l D G ad N c (T := 16 + 14 * t) (n := nn t) ⟨by omega, by omega⟩ (by omega) (hUo t ht) (hUV t ht) hN hB hBV hF (hTR t ht)) (cwV 2 hts gX7_solve_X5_weighGaps rfl rfl rfl (by decide +kernel) ⟨Nat.le_of_ble_eq_true rfl, Nat.le_of_ble_eq_true rfl⟩) (by omega) (hUo t (by omega)).1 rfl rfl hl.1 rfl (lv_room (Nat.le_of_ble_eq_true rfl)) dX7_solve_14 ⟨Nat.le_of_ble_eq_true rfl, Nat.le_of_ble_eq_true rfl⟩) (fun c1 H locs hp w => ?_)
  have w : PW D G A s ad N c1 H locs := w
  obtain ⟨hGW1, hTR1, fr1⟩ := hp
  have hD1 := hD.wg ht hTR1 fr1
  have hf1 : ∀ q, (120 ≤ q ∧ q < 120) → c1 q = c q := fun q hq => (fr1 q (by omega)).trans ((fun _ _ => rfl) q hq)
  obtain ⟨h0, hF, hB, hU, hTR, hTC, ⟨mz, lc, od, bt, hSS⟩, hJ⟩ := id hD1
  obtain ⟨⟨ft, h15, hft⟩, hUo⟩ := id hU
  have hW : GW G c1 (16 + 14 * t) (nn t) (cwT lim no gn gg nn pt ln wi t) := fun j hj => (hGW1 j hj).to (fun o _ => (if_pos ⟨ht, hj⟩).symm)
  refine lv_aload_n hx hb dX7_solve_17 rfl (lv_at hl 0 rfl) ?_
  refine pw_get (r := 0) (ci := 7) (C := RX7) (T := TX7) (Nf := 5) hx hb w hts hin_X7_solve_7 hown (by omega) h0 rfl 3 (by decide) (hts _ fl_X7_solve_33) (fun _ h9 => h9) rfl dX7_solve_18 ?_
  refine lv_aload_n hx hb dX7_solve_21 rfl (lv_at hl 0 rfl) ?_
  refine pw_get (r := 0) (ci := 7) (C := RX7) (T := TX7) (Nf := 5) hx hb w hts hin_X7_solve_7 hown (by omega) h0 rfl 2 (by decide) (hts _ fl_X7_solve_25) (fun _ h9 => h9) rfl dX7_solve_22 ?_
  refine lv_iload_n hx hb dX7_solve_25 rfl (lv_at hl 1 rfl) ?_
  refine pw_aaldR (r := 15) (j := t) hx hb w (by omega) h15 rfl rfl (by omega) (by omega) (by decide) (16 + 14 * t) (hft t (by omega)) dX7_solve_26 ?_
  refine pw_ci w (pw_runV (r := 72) (ci := 6) (As := [.ref (ad (16 + 14 * t))]) (rest := []) w ⟨hx, hb, hml, hown, hts⟩ (c_X6_solveFor l D G ad N c1 (T := 16 + 14 * t) (n := nn t) ⟨by omega, by omega⟩ (by omega) (hUo t ht) (hUV t ht) hTC hW (fun i j _ => cwT_bd hOV hUV t i j)) (cwV 1 hts gX7_solve_X6_solveFor rfl rfl rfl (by decide +kernel) ⟨Nat.le_of_ble_eq_true rfl, Nat.le_of_ble_eq_true rfl⟩) (by omega) hTC.1 rfl rfl hl.1 rfl (lv_room (Nat.le_of_ble_eq_true rfl)) dX7_solve_27 ⟨Nat.le_of_ble_eq_true rfl, Nat.le_of_ble_eq_true rfl⟩) (fun r_ c2 H locs hp w => ?_)
  have w : PW D G A s ad N c2 H locs := w
  obtain ⟨hv2, hRw2, hTC2, fr2⟩ := hp
  subst hv2
  have hW := hW.fr (by omega) (fun q _ _ => fr2 q (by omega))
  have hD2 := hD1.tc hTC2 (fun q hq => fr2 q (by omega))
  have hf2 : ∀ q, (120 ≤ q ∧ q < 120) → c2 q = c q := fun q hq => (fr2 q (by omega)).trans (hf1 q hq)
  obtain ⟨h0, hF, hB, hU, hTR, hTC, ⟨mz, lc, od, bt, hSS⟩, hJ⟩ := id hD2
  obtain ⟨⟨ft, h15, hft⟩, hUo⟩ := id hU
  have hls := less_bd (Rr_bd (w := (cwT lim no gn gg nn pt ln wi t)) (fun i j _ => cwT_bd hOV hUV t i j) (nn t - 1) 0)
  refine lv_istore_n (lv' := [(2, .int (zI (lessOf (Rr (cwT lim no gn gg nn pt ln wi t) (nn t - 1) 0)))), (0, .ref (ad 0)), (1, .int (zI (t : Int)))]) hx hb dX7_solve_30 rfl hl (by decide) rfl (fun ls hl => ?_)
  refine lv_iload_n hx hb dX7_solve_31 rfl (lv_at hl 0 rfl) ?_
  refine lv_ldc hx hb hown (hts _ wd_X7_solve_k108) dX7_solve_32 (pz_topI (y := zI (1000000)) (by decide +kernel) ?_)
  refine pz_icmplt (tgt := 47) hx hb dX7_solve_34 (by decide) (⟨by omega, by omega⟩) (⟨by omega, by omega⟩) (fun h3 => ?_) (fun h3 => ?_)
  · refine lv_iload_n hx hb dX7_solve_47 rfl (lv_at hl 0 rfl) ?_
    exact fin (ad, N, c2) c2 _ _ _ _ _ _ _ rfl ⟨rfl, hD2, hRw2, hW, hf2⟩ w dX7_solve_48 (Nat.le_refl _) (Nat.le_refl _)
  · omega

theorem wd_X7_solve_ck73 : Cond.classLink RX7 73 "java/lang/IllegalStateException" ∈ wsX7_solve := by decide +kernel
theorem wd_X7_solve_ini73 : Cond.initialized "java/lang/IllegalStateException" ∈ wsX7_solve := by decide +kernel
theorem ats_X7_solve_IS : ∀ w ∈ (vx_atS RX7 77 "java/lang/IllegalStateException" ["java/lang/RuntimeException", "java/lang/Exception"]).filter goodWord, w ∈ wsX7_solve := fun w h => List.mem_cons_of_mem _ (List.mem_append_right _ h)
abbrev rx_X7_solve : Room := { frames := 7, cells := 1, slots := 6, locals := 210 }
set_option maxHeartbeats 4000000 in
set_option maxRecDepth 100000 in
theorem x_X7_solve (l : Launch) (hsT : l.stackTraces = false) (D : va_G) (G : Nat → ClassId) (ad : Nat → Nat) (N : Nat) (c : Nat → va_E) {lim : Int} {no dn : Nat} {gn : Nat → Nat} {gg : Nat → Nat → Nat} {dg nn : Nat → Nat} {pt ln : Nat → Nat → Nat} {wi : Nat → Nat → Int} (hN : 120 + 2 * no ≤ N) (hD : DK G ad c lim no dn gn gg dg nn pt ln wi) (hV : SV lim no dn gn gg dg nn pt ln wi) {t : Nat} (ht : t < 4) (hlt : ¬ (lessOf (Rr (cwT lim no gn gg nn pt ln wi t) (nn t - 1) 0)) < 1000000) : MX l yX7_solve wsX7_solve rx_X7_solve [.ref (ad 0), .int (zI (t : Int))] D G ad N c xIS (fx ad N) (fun c1 => DK G ad c1 lim no dn gn gg dg nn pt ln wi ∧ ∀ q, (120 ≤ q ∧ q < 120) → c1 q = c q) 1 6 := by
  refine MX.of (cc := cX7_solve) (maxL := 3) (ret := (some .int)) (by decide) rfl (Nat.le_of_ble_eq_true rfl) ?_
  intro p e s m below meth kc A hx hb hr hts hown hml hlk hno w ls hl
  have hown : s.vm.findClass RX7 = some m.cls := hown
  have hl : lv_has ls 3 [(0, .ref (ad 0)), (1, .int (zI (t : Int)))] := hl
  obtain ⟨h0, hF, hB, hU, hTR, hTC, ⟨mz, lc, od, bt, hSS⟩, hJ⟩ := id hD
  obtain ⟨⟨ft, h15, hft⟩, hUo⟩ := id hU
  obtain ⟨hlim, hOV, hdn4, hdg, hUV⟩ := id hV
  have hlb : bnd lim := ⟨by omega, by omega⟩
  have hno8 := hOV.1
  have hBV : BookV no dn gn gg dg := ⟨hOV.1, hOV.2, hdn4, hdg⟩
  have hnt := (hUV t ht).1
  refine lv_aload_n hx hb dX7_solve_0 rfl (lv_at hl 0 rfl) ?_
  refine pw_get (r := 0) (ci := 7) (C := RX7) (T := TX7) (Nf := 5) hx hb w hts hin_X7_solve_7 hown (by omega) h0 rfl 2 (by decide) (hts _ fl_X7_solve_25) (fun _ h9 => h9) rfl dX7_solve_1 ?_
  refine lv_iload_n hx hb dX7_solve_4 rfl (lv_at hl 1 rfl) ?_
  refine pw_aaldR (r := 15) (j := t) hx hb w (by omega) h15 rfl rfl (by omega) (by omega) (by decide) (16 + 14 * t) (hft t (by omega)) dX7_solve_5 ?_
  refine lv_aload_n hx hb dX7_solve_6 rfl (lv_at hl 0 rfl) ?_
  refine pw_get (r := 0) (ci := 7) (C := RX7) (T := TX7) (Nf := 5) hx hb w hts hin_X7_solve_7 hown (by omega) h0 rfl 0 (by decide) (hts _ fl_X7_solve_12) (fun _ h9 => h9) rfl dX7_solve_7 ?_
  refine lv_aload_n hx hb dX7_solve_10 rfl (lv_at hl 0 rfl) ?_
  refine pw_get (r := 0) (ci := 7) (C := RX7) (T := TX7) (Nf := 5) hx hb w hts hin_X7_solve_7 hown (by omega) h0 rfl 1 (by decide) (hts _ fl_X7_solve_19) (fun _ h9 => h9) rfl dX7_solve_11 ?_
  refine pw_cv w (pw_runV (r := (16 + 14 * t)) (ci := 5) (As := [.ref (ad 1), .ref (ad 12)]) (rest := []) w ⟨hx, hb, hml, hown, hts⟩ (c_X5_weighGaps l D G ad N c (T := 16 + 14 * t) (n := nn t) ⟨by omega, by omega⟩ (by omega) (hUo t ht) (hUV t ht) hN hB hBV hF (hTR t ht)) (cwV 2 hts gX7_solve_X5_weighGaps rfl rfl rfl (by decide +kernel) ⟨Nat.le_of_ble_eq_true rfl, Nat.le_of_ble_eq_true rfl⟩) (by omega) (hUo t (by omega)).1 rfl rfl hl.1 rfl (lv_room (Nat.le_of_ble_eq_true rfl)) dX7_solve_14 ⟨Nat.le_of_ble_eq_true rfl, Nat.le_of_ble_eq_true rfl⟩) (fun c1 H locs hp w => ?_)
  have w : PW D G A s ad N c1 H locs := w
  obtain ⟨hGW1, hTR1, fr1⟩ := hp
  have hD1 := hD.wg ht hTR1 fr1
  have hf1 : ∀ q, (120 ≤ q ∧ q < 120) → c1 q = c q := fun q hq => (fr1 q (by omega)).trans ((fun _ _ => rfl) q hq)
  obtain ⟨h0, hF, hB, hU, hTR, hTC, ⟨mz, lc, od, bt, hSS⟩, hJ⟩ := id hD1
  obtain ⟨⟨ft, h15, hft⟩, hUo⟩ := id hU
  have hW : GW G c1 (16 + 14 * t) (nn t) (cwT lim no gn gg nn pt ln wi t) := fun j hj => (hGW1 j hj).to (fun o _ => (if_pos ⟨ht, hj⟩).symm)
  refine lv_aload_n hx hb dX7_solve_17 rfl (lv_at hl 0 rfl) ?_
  refine pw_get (r := 0) (ci := 7) (C := RX7) (T := TX7) (Nf := 5) hx hb w hts hin_X7_solve_7 hown (by omega) h0 rfl 3 (by decide) (hts _ fl_X7_solve_33) (fun _ h9 => h9) rfl dX7_solve_18 ?_
  refine lv_aload_n hx hb dX7_solve_21 rfl (lv_at hl 0 rfl) ?_
  refine pw_get (r := 0) (ci := 7) (C := RX7) (T := TX7) (Nf := 5) hx hb w hts hin_X7_solve_7 hown (by omega) h0 rfl 2 (by decide) (hts _ fl_X7_solve_25) (fun _ h9 => h9) rfl dX7_solve_22 ?_
  refine lv_iload_n hx hb dX7_solve_25 rfl (lv_at hl 1 rfl) ?_
  refine pw_aaldR (r := 15) (j := t) hx hb w (by omega) h15 rfl rfl (by omega) (by omega) (by decide) (16 + 14 * t) (hft t (by omega)) dX7_solve_26 ?_
  refine pw_ci w (pw_runV (r := 72) (ci := 6) (As := [.ref (ad (16 + 14 * t))]) (rest := []) w ⟨hx, hb, hml, hown, hts⟩ (c_X6_solveFor l D G ad N c1 (T := 16 + 14 * t) (n := nn t) ⟨by omega, by omega⟩ (by omega) (hUo t ht) (hUV t ht) hTC hW (fun i j _ => cwT_bd hOV hUV t i j)) (cwV 1 hts gX7_solve_X6_solveFor rfl rfl rfl (by decide +kernel) ⟨Nat.le_of_ble_eq_true rfl, Nat.le_of_ble_eq_true rfl⟩) (by omega) hTC.1 rfl rfl hl.1 rfl (lv_room (Nat.le_of_ble_eq_true rfl)) dX7_solve_27 ⟨Nat.le_of_ble_eq_true rfl, Nat.le_of_ble_eq_true rfl⟩) (fun r_ c2 H locs hp w => ?_)
  have w : PW D G A s ad N c2 H locs := w
  obtain ⟨hv2, hRw2, hTC2, fr2⟩ := hp
  subst hv2
  have hW := hW.fr (by omega) (fun q _ _ => fr2 q (by omega))
  have hD2 := hD1.tc hTC2 (fun q hq => fr2 q (by omega))
  have hf2 : ∀ q, (120 ≤ q ∧ q < 120) → c2 q = c q := fun q hq => (fr2 q (by omega)).trans (hf1 q hq)
  obtain ⟨h0, hF, hB, hU, hTR, hTC, ⟨mz, lc, od, bt, hSS⟩, hJ⟩ := id hD2
  obtain ⟨⟨ft, h15, hft⟩, hUo⟩ := id hU
  have hls := less_bd (Rr_bd (w := (cwT lim no gn gg nn pt ln wi t)) (fun i j _ => cwT_bd hOV hUV t i j) (nn t - 1) 0)
  refine lv_istore_n (lv' := [(2, .int (zI (lessOf (Rr (cwT lim no gn gg nn pt ln wi t) (nn t - 1) 0)))), (0, .ref (ad 0)), (1, .int (zI (t : Int)))]) hx hb dX7_solve_30 rfl hl (by decide) rfl (fun ls hl => ?_)
  refine lv_iload_n hx hb dX7_solve_31 rfl (lv_at hl 0 rfl) ?_
  refine lv_ldc hx hb hown (hts _ wd_X7_solve_k108) dX7_solve_32 (pz_topI (y := zI (1000000)) (by decide +kernel) ?_)
  refine pz_icmplt (tgt := 47) hx hb dX7_solve_34 (by decide) (⟨by omega, by omega⟩) (⟨by omega, by omega⟩) (fun h3 => ?_) (fun h3 => ?_)
  · omega
  · exact pw_throw (E0 := xIS) (text := "no choice for the tune") (own := RX7) (names := ["java/lang/RuntimeException", "java/lang/Exception"]) (ik := 73) (is := 191) (ic := 77) (x := (ad, N, c2)) hx hb hsT hno hlk w c2 rfl ⟨hD2, hf2⟩ hown rfl (by decide +kernel) (by decide +kernel) (hts _ wd_X7_solve_ck73) (hts _ wd_X7_solve_ini73) (by decide) (fun w h => hts _ (ats_X7_solve_IS w h)) og_IS (by decide) oa_IS (hl.1.trans hml.symm) dX7_solve_37 dX7_solve_40 dX7_solve_41 dX7_solve_43 dX7_solve_46 (Nat.le_of_ble_eq_true rfl) (Nat.le_of_ble_eq_true rfl) (Nat.le_of_ble_eq_true rfl) (Nat.le_of_ble_eq_true rfl) (Nat.le_of_ble_eq_true rfl) (Nat.le_of_ble_eq_true rfl)

theorem hin_X7_choices_7 : ∀ w ∈ u_ws RX7 TX7 5, w ∈ wsX7_choices := by decide +kernel
theorem fl_X7_choices_25 : Cond.fieldLink RX7 25 "PipersDesk" "tunes" "[LPipersDesk$Tune;" ∈ wsX7_choices := by decide +kernel
theorem fl_X7_choices_12 : Cond.fieldLink RX7 12 "PipersDesk" "fingers" "LPipersDesk$Fingers;" ∈ wsX7_choices := by decide +kernel
theorem fl_X7_choices_19 : Cond.fieldLink RX7 19 "PipersDesk" "book" "LPipersDesk$OrnamentBook;" ∈ wsX7_choices := by decide +kernel
theorem fl_X7_choices_33 : Cond.fieldLink RX7 33 "PipersDesk" "tuneChoices" "LPipersDesk$TuneChoices;" ∈ wsX7_choices := by decide +kernel
abbrev rm_X7_choices : Room := { frames := 7, cells := 0, slots := 0, locals := 210 }
set_option maxHeartbeats 4000000 in
set_option maxRecDepth 100000 in
theorem c_X7_choices (l : Launch) (D : va_G) (G : Nat → ClassId) (ad : Nat → Nat) (N : Nat) (c : Nat → va_E) {lim : Int} {no dn : Nat} {gn : Nat → Nat} {gg : Nat → Nat → Nat} {dg nn : Nat → Nat} {pt ln : Nat → Nat → Nat} {wi : Nat → Nat → Int} (hN : 120 + 2 * no ≤ N) (hD : DK G ad c lim no dn gn gg dg nn pt ln wi) (hV : SV lim no dn gn gg dg nn pt ln wi) {t : Nat} (ht : t < 4) : MC l yX7_choices wsX7_choices rm_X7_choices [.ref (ad 0), .int (zI (t : Int))] D G ad N c (qI D G (fx ad N) (fun v c1 => v = zI ((cS (cwT lim no gn gg nn pt ln wi t) (nn t - 1)).2) ∧ DK G ad c1 lim no dn gn gg dg nn pt ln wi ∧ ∀ q, (120 ≤ q ∧ q < 120) → c1 q = c q)) 0 0 := by
  refine MCi.of (cc := cX7_choices) (maxL := 2) (by decide) rfl (Nat.le_of_ble_eq_true rfl) ?_
  intro p e s m args below meth kc A Q hx hb hts hown hml fin H locs w ls hl
  have hown : s.vm.findClass RX7 = some m.cls := hown
  have hl : lv_has ls 2 [(0, .ref (ad 0)), (1, .int (zI (t : Int)))] := hl
  obtain ⟨h0, hF, hB, hU, hTR, hTC, ⟨mz, lc, od, bt, hSS⟩, hJ⟩ := id hD
  obtain ⟨⟨ft, h15, hft⟩, hUo⟩ := id hU
  obtain ⟨hlim, hOV, hdn4, hdg, hUV⟩ := id hV
  have hlb : bnd lim := ⟨by omega, by omega⟩
  have hno8 := hOV.1
  have hBV : BookV no dn gn gg dg := ⟨hOV.1, hOV.2, hdn4, hdg⟩
  have hnt := (hUV t ht).1
  refine lv_iload_n hx hb dX7_choices_0 rfl (lv_at hl 1 rfl) ?_
  refine pw_cv w (pw_runS (As := [.int (zI (t : Int))]) (rest := []) w ⟨hx, hb, hml, hown, hts⟩ (c_X7_checkTune l D G ad N c (z := (t : Int)) ⟨by omega, by omega⟩ (by omega)) (va_cwS 1 hts gX7_choices_X7_checkTune rfl rfl rfl (by decide +kernel) ⟨Nat.le_of_ble_eq_true rfl, Nat.le_of_ble_eq_true rfl⟩) rfl hl.1 rfl (lv_room (Nat.le_of_ble_eq_true rfl)) dX7_choices_1 ⟨Nat.le_of_ble_eq_true rfl, Nat.le_of_ble_eq_true rfl⟩) (fun u H locs hp w => ?_)
  have hu := hp
  have w : PW D G A s ad N c H locs := by rw [hu] at w; exact w
  clear hu
  refine lv_aload_n hx hb dX7_choices_4 rfl (lv_at hl 0 rfl) ?_
  refine pw_get (r := 0) (ci := 7) (C := RX7) (T := TX7) (Nf := 5) hx hb w hts hin_X7_choices_7 hown (by omega) h0 rfl 2 (by decide) (hts _ fl_X7_choices_25) (fun _ h9 => h9) rfl dX7_choices_5 ?_
  refine lv_iload_n hx hb dX7_choices_8 rfl (lv_at hl 1 rfl) ?_
  refine pw_aaldR (r := 15) (j := t) hx hb w (by omega) h15 rfl rfl (by omega) (by omega) (by decide) (16 + 14 * t) (hft t (by omega)) dX7_choices_9 ?_
  refine lv_aload_n hx hb dX7_choices_10 rfl (lv_at hl 0 rfl) ?_
  refine pw_get (r := 0) (ci := 7) (C := RX7) (T := TX7) (Nf := 5) hx hb w hts hin_X7_choices_7 hown (by omega) h0 rfl 0 (by decide) (hts _ fl_X7_choices_12) (fun _ h9 => h9) rfl dX7_choices_11 ?_
  refine lv_aload_n hx hb dX7_choices_14 rfl (lv_at hl 0 rfl) ?_
  refine pw_get (r := 0) (ci := 7) (C := RX7) (T := TX7) (Nf := 5) hx hb w hts hin_X7_choices_7 hown (by omega) h0 rfl 1 (by decide) (hts _ fl_X7_choices_19) (fun _ h9 => h9) rfl dX7_choices_15 ?_
  refine pw_cv w (pw_runV (r := (16 + 14 * t)) (ci := 5) (As := [.ref (ad 1), .ref (ad 12)]) (rest := []) w ⟨hx, hb, hml, hown, hts⟩ (c_X5_weighGaps l D G ad N c (T := 16 + 14 * t) (n := nn t) ⟨by omega, by omega⟩ (by omega) (hUo t ht) (hUV t ht) hN hB hBV hF (hTR t ht)) (cwV 2 hts gX7_choices_X5_weighGaps rfl rfl rfl (by decide +kernel) ⟨Nat.le_of_ble_eq_true rfl, Nat.le_of_ble_eq_true rfl⟩) (by omega) (hUo t (by omega)).1 rfl rfl hl.1 rfl (lv_room (Nat.le_of_ble_eq_true rfl)) dX7_choices_18 ⟨Nat.le_of_ble_eq_true rfl, Nat.le_of_ble_eq_true rfl⟩) (fun c1 H locs hp w => ?_)
  have w : PW D G A s ad N c1 H locs := w
  obtain ⟨hGW1, hTR1, fr1⟩ := hp
  have hD1 := hD.wg ht hTR1 fr1
  have hf1 : ∀ q, (120 ≤ q ∧ q < 120) → c1 q = c q := fun q hq => (fr1 q (by omega)).trans ((fun _ _ => rfl) q hq)
  obtain ⟨h0, hF, hB, hU, hTR, hTC, ⟨mz, lc, od, bt, hSS⟩, hJ⟩ := id hD1
  obtain ⟨⟨ft, h15, hft⟩, hUo⟩ := id hU
  have hW : GW G c1 (16 + 14 * t) (nn t) (cwT lim no gn gg nn pt ln wi t) := fun j hj => (hGW1 j hj).to (fun o _ => (if_pos ⟨ht, hj⟩).symm)
  refine lv_aload_n hx hb dX7_choices_21 rfl (lv_at hl 0 rfl) ?_
  refine pw_get (r := 0) (ci := 7) (C := RX7) (T := TX7) (Nf := 5) hx hb w hts hin_X7_choices_7 hown (by omega) h0 rfl 3 (by decide) (hts _ fl_X7_choices_33) (fun _ h9 => h9) rfl dX7_choices_22 ?_
  refine lv_aload_n hx hb dX7_choices_25 rfl (lv_at hl 0 rfl) ?_
  refine pw_get (r := 0) (ci := 7) (C := RX7) (T := TX7) (Nf := 5) hx hb w hts hin_X7_choices_7 hown (by omega) h0 rfl 2 (by decide) (hts _ fl_X7_choices_25) (fun _ h9 => h9) rfl dX7_choices_26 ?_
  refine lv_iload_n hx hb dX7_choices_29 rfl (lv_at hl 1 rfl) ?_
  refine pw_aaldR (r := 15) (j := t) hx hb w (by omega) h15 rfl rfl (by omega) (by omega) (by decide) (16 + 14 * t) (hft t (by omega)) dX7_choices_30 ?_
  refine pw_ci w (pw_runV (r := 72) (ci := 6) (As := [.ref (ad (16 + 14 * t))]) (rest := []) w ⟨hx, hb, hml, hown, hts⟩ (c_X6_countFor l D G ad N c1 (T := 16 + 14 * t) (n := nn t) ⟨by omega, by omega⟩ (by omega) (hUo t ht) (hUV t ht) hTC hW (fun i j _ => cwT_bd hOV hUV t i j)) (cwV 1 hts gX7_choices_X6_countFor rfl rfl rfl (by decide +kernel) ⟨Nat.le_of_ble_eq_true rfl, Nat.le_of_ble_eq_true rfl⟩) (by omega) hTC.1 rfl rfl hl.1 rfl (lv_room (Nat.le_of_ble_eq_true rfl)) dX7_choices_31 ⟨Nat.le_of_ble_eq_true rfl, Nat.le_of_ble_eq_true rfl⟩) (fun r_ c2 H locs hp w => ?_)
  have w : PW D G A s ad N c2 H locs := w
  obtain ⟨hv2, hTC2, fr2⟩ := hp
  subst hv2
  have hD2 := hD1.tc hTC2 (fun q hq => fr2 q (by omega))
  have hf2 : ∀ q, (120 ≤ q ∧ q < 120) → c2 q = c q := fun q hq => (fr2 q (by omega)).trans (hf1 q hq)
  exact fin (ad, N, c2) c2 _ _ _ _ _ _ _ rfl ⟨rfl, hD2, hf2⟩ w dX7_choices_34 (Nat.le_refl _) (Nat.le_refl _)

abbrev rx_X7_choices : Room := { frames := 7, cells := 1, slots := 6, locals := 210 }
set_option maxHeartbeats 4000000 in
set_option maxRecDepth 100000 in
theorem x_X7_choices (l : Launch) (hsT : l.stackTraces = false) (D : va_G) (G : Nat → ClassId) (ad : Nat → Nat) (N : Nat) (c : Nat → va_E) {lim : Int} {no dn : Nat} {gn : Nat → Nat} {gg : Nat → Nat → Nat} {dg nn : Nat → Nat} {pt ln : Nat → Nat → Nat} {wi : Nat → Nat → Int} (hN : 120 + 2 * no ≤ N) (hD : DK G ad c lim no dn gn gg dg nn pt ln wi) (hV : SV lim no dn gn gg dg nn pt ln wi) {zt : Int} (hbzt : bnd zt) (hbad : ¬ (0 ≤ zt ∧ zt ≤ 3)) : MX l yX7_choices wsX7_choices rx_X7_choices [.ref (ad 0), .int (zI zt)] D G ad N c xIA (fx ad N) (fun c1 => DK G ad c1 lim no dn gn gg dg nn pt ln wi ∧ ∀ q, (120 ≤ q ∧ q < 120) → c1 q = c q) 1 6 := by
  refine MX.of (cc := cX7_choices) (maxL := 2) (ret := (some .int)) (by decide) rfl (Nat.le_of_ble_eq_true rfl) ?_
  intro p e s m below meth kc A hx hb hr hts hown hml hlk hno w ls hl
  have hown : s.vm.findClass RX7 = some m.cls := hown
  have hl : lv_has ls 2 [(0, .ref (ad 0)), (1, .int (zI zt))] := hl
  obtain ⟨h0, hF, hB, hU, hTR, hTC, ⟨mz, lc, od, bt, hSS⟩, hJ⟩ := id hD
  obtain ⟨⟨ft, h15, hft⟩, hUo⟩ := id hU
  obtain ⟨hlim, hOV, hdn4, hdg, hUV⟩ := id hV
  have hlb : bnd lim := ⟨by omega, by omega⟩
  have hno8 := hOV.1
  have hBV : BookV no dn gn gg dg := ⟨hOV.1, hOV.2, hdn4, hdg⟩
  have hbzt1 := hbzt.1
  have hbzt2 := hbzt.2
  refine lv_iload_n hx hb dX7_choices_0 rfl (lv_at hl 1 rfl) ?_
  exact pw_cx w (pw_runSX (As := [.int (zI zt)]) (rest := []) w ⟨hx, hb, hml, hown, hts⟩ (x_X7_checkTune l hsT D G ad N c (z := zt) ⟨by omega, by omega⟩ (by omega)) (va_cwS 1 hts gX7_choices_X7_checkTune rfl rfl rfl (by decide +kernel) ⟨Nat.le_of_ble_eq_true rfl, Nat.le_of_ble_eq_true rfl⟩) rfl hl.1 rfl (lv_room (Nat.le_of_ble_eq_true rfl)) dX7_choices_1 ⟨Nat.le_of_ble_eq_true rfl, Nat.le_of_ble_eq_true rfl⟩) (fun u ce q9 H locs hp w hce hcv hcl => pw_out hno hlk w u rfl ⟨by rw [show u = c from hp]; exact hD, fun q hq => by rw [show u = c from hp]⟩ hce hcv hcl (Nat.le_of_ble_eq_true rfl) (Nat.le_of_ble_eq_true rfl))

abbrev rm_X7_least : Room := { frames := 8, cells := 0, slots := 0, locals := 240 }
set_option maxHeartbeats 4000000 in
set_option maxRecDepth 100000 in
theorem c_X7_least (l : Launch) (D : va_G) (G : Nat → ClassId) (ad : Nat → Nat) (N : Nat) (c : Nat → va_E) {lim : Int} {no dn : Nat} {gn : Nat → Nat} {gg : Nat → Nat → Nat} {dg nn : Nat → Nat} {pt ln : Nat → Nat → Nat} {wi : Nat → Nat → Int} (hN : 120 + 2 * no ≤ N) (hD : DK G ad c lim no dn gn gg dg nn pt ln wi) (hV : SV lim no dn gn gg dg nn pt ln wi) {t : Nat} (ht : t < 4) (hlt : (lessOf (Rr (cwT lim no gn gg nn pt ln wi t) (nn t - 1) 0)) < 1000000) : MC l yX7_least wsX7_least rm_X7_least [.ref (ad 0), .int (zI (t : Int))] D G ad N c (qI D G (fx ad N) (fun v c1 => v = zI (lessOf (Rr (cwT lim no gn gg nn pt ln wi t) (nn t - 1) 0)) ∧ DK G ad c1 lim no dn gn gg dg nn pt ln wi ∧ ∀ q, (120 ≤ q ∧ q < 120) → c1 q = c q)) 0 0 := by
  refine MCi.of (cc := cX7_least) (maxL := 2) (by decide) rfl (Nat.le_of_ble_eq_true rfl) ?_
  intro p e s m args below meth kc A Q hx hb hts hown hml fin H locs w ls hl
  have hown : s.vm.findClass RX7 = some m.cls := hown
  have hl : lv_has ls 2 [(0, .ref (ad 0)), (1, .int (zI (t : Int)))] := hl
  obtain ⟨h0, hF, hB, hU, hTR, hTC, ⟨mz, lc, od, bt, hSS⟩, hJ⟩ := id hD
  obtain ⟨⟨ft, h15, hft⟩, hUo⟩ := id hU
  obtain ⟨hlim, hOV, hdn4, hdg, hUV⟩ := id hV
  have hlb : bnd lim := ⟨by omega, by omega⟩
  have hno8 := hOV.1
  have hBV : BookV no dn gn gg dg := ⟨hOV.1, hOV.2, hdn4, hdg⟩
  have hnt := (hUV t ht).1
  refine lv_iload_n hx hb dX7_least_0 rfl (lv_at hl 1 rfl) ?_
  refine pw_cv w (pw_runS (As := [.int (zI (t : Int))]) (rest := []) w ⟨hx, hb, hml, hown, hts⟩ (c_X7_checkTune l D G ad N c (z := (t : Int)) ⟨by omega, by omega⟩ (by omega)) (va_cwS 1 hts gX7_least_X7_checkTune rfl rfl rfl (by decide +kernel) ⟨Nat.le_of_ble_eq_true rfl, Nat.le_of_ble_eq_true rfl⟩) rfl hl.1 rfl (lv_room (Nat.le_of_ble_eq_true rfl)) dX7_least_1 ⟨Nat.le_of_ble_eq_true rfl, Nat.le_of_ble_eq_true rfl⟩) (fun u H locs hp w => ?_)
  have hu := hp
  have w : PW D G A s ad N c H locs := by rw [hu] at w; exact w
  clear hu
  refine lv_aload_n hx hb dX7_least_4 rfl (lv_at hl 0 rfl) ?_
  refine lv_iload_n hx hb dX7_least_5 rfl (lv_at hl 1 rfl) ?_
  refine pw_ci w (pw_runV (r := 0) (ci := 7) (As := [.int (zI (t : Int))]) (rest := []) w ⟨hx, hb, hml, hown, hts⟩ (c_X7_solve l D G ad N c hN hD hV ht hlt) (cwV 1 hts gX7_least_X7_solve rfl rfl rfl (by decide +kernel) ⟨Nat.le_of_ble_eq_true rfl, Nat.le_of_ble_eq_true rfl⟩) (by omega) h0 rfl rfl hl.1 rfl (lv_room (Nat.le_of_ble_eq_true rfl)) dX7_least_6 ⟨Nat.le_of_ble_eq_true rfl, Nat.le_of_ble_eq_true rfl⟩) (fun r_ c1 H locs hp w => ?_)
  have w : PW D G A s ad N c1 H locs := w
  obtain ⟨hv1, hD1, hRw1, hW, fr1⟩ := hp
  subst hv1
  have hf1 : ∀ q, (120 ≤ q ∧ q < 120) → c1 q = c q := fun q hq => (fr1 q hq).trans ((fun _ _ => rfl) q hq)
  obtain ⟨h0, hF, hB, hU, hTR, hTC, ⟨mz, lc, od, bt, hSS⟩, hJ⟩ := id hD1
  obtain ⟨⟨ft, h15, hft⟩, hUo⟩ := id hU
  have hls := less_bd (Rr_bd (w := (cwT lim no gn gg nn pt ln wi t)) (fun i j _ => cwT_bd hOV hUV t i j) (nn t - 1) 0)
  exact fin (ad, N, c1) c1 _ _ _ _ _ _ _ rfl ⟨rfl, hD1, hf1⟩ w dX7_least_9 (Nat.le_refl _) (Nat.le_refl _)

abbrev rx_X7_least : Room := { frames := 8, cells := 1, slots := 6, locals := 240 }
set_option maxHeartbeats 4000000 in
set_option maxRecDepth 100000 in
theorem x_X7_least1 (l : Launch) (hsT : l.stackTraces = false) (D : va_G) (G : Nat → ClassId) (ad : Nat → Nat) (N : Nat) (c : Nat → va_E) {lim : Int} {no dn : Nat} {gn : Nat → Nat} {gg : Nat → Nat → Nat} {dg nn : Nat → Nat} {pt ln : Nat → Nat → Nat} {wi : Nat → Nat → Int} (hN : 120 + 2 * no ≤ N) (hD : DK G ad c lim no dn gn gg dg nn pt ln wi) (hV : SV lim no dn gn gg dg nn pt ln wi) {zt : Int} (hbzt : bnd zt) (hbad : ¬ (0 ≤ zt ∧ zt ≤ 3)) : MX l yX7_least wsX7_least rx_X7_least [.ref (ad 0), .int (zI zt)] D G ad N c xIA (fx ad N) (fun c1 => DK G ad c1 lim no dn gn gg dg nn pt ln wi ∧ ∀ q, (120 ≤ q ∧ q < 120) → c1 q = c q) 1 6 := by
  refine MX.of (cc := cX7_least) (maxL := 2) (ret := (some .int)) (by decide) rfl (Nat.le_of_ble_eq_true rfl) ?_
  intro p e s m below meth kc A hx hb hr hts hown hml hlk hno w ls hl
  have hown : s.vm.findClass RX7 = some m.cls := hown
  have hl : lv_has ls 2 [(0, .ref (ad 0)), (1, .int (zI zt))] := hl
  obtain ⟨h0, hF, hB, hU, hTR, hTC, ⟨mz, lc, od, bt, hSS⟩, hJ⟩ := id hD
  obtain ⟨⟨ft, h15, hft⟩, hUo⟩ := id hU
  obtain ⟨hlim, hOV, hdn4, hdg, hUV⟩ := id hV
  have hlb : bnd lim := ⟨by omega, by omega⟩
  have hno8 := hOV.1
  have hBV : BookV no dn gn gg dg := ⟨hOV.1, hOV.2, hdn4, hdg⟩
  have hbzt1 := hbzt.1
  have hbzt2 := hbzt.2
  refine lv_iload_n hx hb dX7_least_0 rfl (lv_at hl 1 rfl) ?_
  exact pw_cx w (pw_runSX (As := [.int (zI zt)]) (rest := []) w ⟨hx, hb, hml, hown, hts⟩ (x_X7_checkTune l hsT D G ad N c (z := zt) ⟨by omega, by omega⟩ (by omega)) (va_cwS 1 hts gX7_least_X7_checkTune rfl rfl rfl (by decide +kernel) ⟨Nat.le_of_ble_eq_true rfl, Nat.le_of_ble_eq_true rfl⟩) rfl hl.1 rfl (lv_room (Nat.le_of_ble_eq_true rfl)) dX7_least_1 ⟨Nat.le_of_ble_eq_true rfl, Nat.le_of_ble_eq_true rfl⟩) (fun u ce q9 H locs hp w hce hcv hcl => pw_out hno hlk w u rfl ⟨by rw [show u = c from hp]; exact hD, fun q hq => by rw [show u = c from hp]⟩ hce hcv hcl (Nat.le_of_ble_eq_true rfl) (Nat.le_of_ble_eq_true rfl))

set_option maxHeartbeats 4000000 in
set_option maxRecDepth 100000 in
theorem x_X7_least2 (l : Launch) (hsT : l.stackTraces = false) (D : va_G) (G : Nat → ClassId) (ad : Nat → Nat) (N : Nat) (c : Nat → va_E) {lim : Int} {no dn : Nat} {gn : Nat → Nat} {gg : Nat → Nat → Nat} {dg nn : Nat → Nat} {pt ln : Nat → Nat → Nat} {wi : Nat → Nat → Int} (hN : 120 + 2 * no ≤ N) (hD : DK G ad c lim no dn gn gg dg nn pt ln wi) (hV : SV lim no dn gn gg dg nn pt ln wi) {t : Nat} (ht : t < 4) (hlt : ¬ (lessOf (Rr (cwT lim no gn gg nn pt ln wi t) (nn t - 1) 0)) < 1000000) : MX l yX7_least wsX7_least rx_X7_least [.ref (ad 0), .int (zI (t : Int))] D G ad N c xIS (fx ad N) (fun c1 => DK G ad c1 lim no dn gn gg dg nn pt ln wi ∧ ∀ q, (120 ≤ q ∧ q < 120) → c1 q = c q) 1 6 := by
  refine MX.of (cc := cX7_least) (maxL := 2) (ret := (some .int)) (by decide) rfl (Nat.le_of_ble_eq_true rfl) ?_
  intro p e s m below meth kc A hx hb hr hts hown hml hlk hno w ls hl
  have hown : s.vm.findClass RX7 = some m.cls := hown
  have hl : lv_has ls 2 [(0, .ref (ad 0)), (1, .int (zI (t : Int)))] := hl
  obtain ⟨h0, hF, hB, hU, hTR, hTC, ⟨mz, lc, od, bt, hSS⟩, hJ⟩ := id hD
  obtain ⟨⟨ft, h15, hft⟩, hUo⟩ := id hU
  obtain ⟨hlim, hOV, hdn4, hdg, hUV⟩ := id hV
  have hlb : bnd lim := ⟨by omega, by omega⟩
  have hno8 := hOV.1
  have hBV : BookV no dn gn gg dg := ⟨hOV.1, hOV.2, hdn4, hdg⟩
  have hnt := (hUV t ht).1
  refine lv_iload_n hx hb dX7_least_0 rfl (lv_at hl 1 rfl) ?_
  refine pw_cv w (pw_runS (As := [.int (zI (t : Int))]) (rest := []) w ⟨hx, hb, hml, hown, hts⟩ (c_X7_checkTune l D G ad N c (z := (t : Int)) ⟨by omega, by omega⟩ (by omega)) (va_cwS 1 hts gX7_least_X7_checkTune rfl rfl rfl (by decide +kernel) ⟨Nat.le_of_ble_eq_true rfl, Nat.le_of_ble_eq_true rfl⟩) rfl hl.1 rfl (lv_room (Nat.le_of_ble_eq_true rfl)) dX7_least_1 ⟨Nat.le_of_ble_eq_true rfl, Nat.le_of_ble_eq_true rfl⟩) (fun u H locs hp w => ?_)
  have hu := hp
  have w : PW D G A s ad N c H locs := by rw [hu] at w; exact w
  clear hu
  refine lv_aload_n hx hb dX7_least_4 rfl (lv_at hl 0 rfl) ?_
  refine lv_iload_n hx hb dX7_least_5 rfl (lv_at hl 1 rfl) ?_
  exact pw_cx w (pw_runVX (r := 0) (ci := 7) (As := [.int (zI (t : Int))]) (rest := []) w ⟨hx, hb, hml, hown, hts⟩ (x_X7_solve l hsT D G ad N c hN hD hV ht hlt) (cwV 1 hts gX7_least_X7_solve rfl rfl rfl (by decide +kernel) ⟨Nat.le_of_ble_eq_true rfl, Nat.le_of_ble_eq_true rfl⟩) (by omega) h0 rfl rfl hl.1 rfl (lv_room (Nat.le_of_ble_eq_true rfl)) dX7_least_6 ⟨Nat.le_of_ble_eq_true rfl, Nat.le_of_ble_eq_true rfl⟩) (fun u ce q9 H locs hp w hce hcv hcl => pw_out hno hlk w u rfl hp hce hcv hcl (Nat.le_of_ble_eq_true rfl) (Nat.le_of_ble_eq_true rfl))

theorem hin_X7_chosen_7 : ∀ w ∈ u_ws RX7 TX7 5, w ∈ wsX7_chosen := by decide +kernel
theorem fl_X7_chosen_33 : Cond.fieldLink RX7 33 "PipersDesk" "tuneChoices" "LPipersDesk$TuneChoices;" ∈ wsX7_chosen := by decide +kernel
abbrev rm_X7_chosen : Room := { frames := 8, cells := 0, slots := 0, locals := 240 }
set_option maxHeartbeats 4000000 in
set_option maxRecDepth 100000 in
theorem c_X7_chosen (l : Launch) (D : va_G) (G : Nat → ClassId) (ad : Nat → Nat) (N : Nat) (c : Nat → va_E) {lim : Int} {no dn : Nat} {gn : Nat → Nat} {gg : Nat → Nat → Nat} {dg nn : Nat → Nat} {pt ln : Nat → Nat → Nat} {wi : Nat → Nat → Int} (hN : 120 + 2 * no ≤ N) (hD : DK G ad c lim no dn gn gg dg nn pt ln wi) (hV : SV lim no dn gn gg dg nn pt ln wi) {t i : Nat} (ht : t < 4) (hi : i + 1 < nn t) (hlt : (lessOf (Rr (cwT lim no gn gg nn pt ln wi t) (nn t - 1) 0)) < 1000000) : MC l yX7_chosen wsX7_chosen rm_X7_chosen [.ref (ad 0), .int (zI (t : Int)), .int (zI (i : Int))] D G ad N c (qI D G (fx ad N) (fun v c1 => v = zI (((optN (fun i => Rr (cwT lim no gn gg nn pt ln wi t) (nn t - 1 - i) i) (i + 1)) : Int) - 1) ∧ DK G ad c1 lim no dn gn gg dg nn pt ln wi ∧ ∀ q, (120 ≤ q ∧ q < 120) → c1 q = c q)) 0 0 := by
  refine MCi.of (cc := cX7_chosen) (maxL := 3) (by decide) rfl (Nat.le_of_ble_eq_true rfl) ?_
  intro p e s m args below meth kc A Q hx hb hts hown hml fin H locs w ls hl
  have hown : s.vm.findClass RX7 = some m.cls := hown
  have hl : lv_has ls 3 [(0, .ref (ad 0)), (1, .int (zI (t : Int))), (2, .int (zI (i : Int)))] := hl
  obtain ⟨h0, hF, hB, hU, hTR, hTC, ⟨mz, lc, od, bt, hSS⟩, hJ⟩ := id hD
  obtain ⟨⟨ft, h15, hft⟩, hUo⟩ := id hU
  obtain ⟨hlim, hOV, hdn4, hdg, hUV⟩ := id hV
  have hlb : bnd lim := ⟨by omega, by omega⟩
  have hno8 := hOV.1
  have hBV : BookV no dn gn gg dg := ⟨hOV.1, hOV.2, hdn4, hdg⟩
  have hnt := (hUV t ht).1
  refine lv_iload_n hx hb dX7_chosen_0 rfl (lv_at hl 1 rfl) ?_
  refine pw_cv w (pw_runS (As := [.int (zI (t : Int))]) (rest := []) w ⟨hx, hb, hml, hown, hts⟩ (c_X7_checkTune l D G ad N c (z := (t : Int)) ⟨by omega, by omega⟩ (by omega)) (va_cwS 1 hts gX7_chosen_X7_checkTune rfl rfl rfl (by decide +kernel) ⟨Nat.le_of_ble_eq_true rfl, Nat.le_of_ble_eq_true rfl⟩) rfl hl.1 rfl (lv_room (Nat.le_of_ble_eq_true rfl)) dX7_chosen_1 ⟨Nat.le_of_ble_eq_true rfl, Nat.le_of_ble_eq_true rfl⟩) (fun u H locs hp w => ?_)
  have hu := hp
  have w : PW D G A s ad N c H locs := by rw [hu] at w; exact w
  clear hu
  refine lv_aload_n hx hb dX7_chosen_4 rfl (lv_at hl 0 rfl) ?_
  refine lv_iload_n hx hb dX7_chosen_5 rfl (lv_at hl 1 rfl) ?_
  refine lv_iload_n hx hb dX7_chosen_6 rfl (lv_at hl 2 rfl) ?_
  refine pw_cv w (pw_runV (r := 0) (ci := 7) (As := [.int (zI (t : Int)), .int (zI (i : Int))]) (rest := []) w ⟨hx, hb, hml, hown, hts⟩ (c_X7_checkGap l D G ad N c (t := t) (z := (i : Int)) hN hD hV ht ⟨by omega, by omega⟩ (by omega)) (cwV 2 hts gX7_chosen_X7_checkGap rfl rfl rfl (by decide +kernel) ⟨Nat.le_of_ble_eq_true rfl, Nat.le_of_ble_eq_true rfl⟩) (by omega) h0 rfl rfl hl.1 rfl (lv_room (Nat.le_of_ble_eq_true rfl)) dX7_chosen_7 ⟨Nat.le_of_ble_eq_true rfl, Nat.le_of_ble_eq_true rfl⟩) (fun u H locs hp w => ?_)
  have hu := hp
  have w : PW D G A s ad N c H locs := by rw [hu] at w; exact w
  clear hu
  refine lv_aload_n hx hb dX7_chosen_10 rfl (lv_at hl 0 rfl) ?_
  refine lv_iload_n hx hb dX7_chosen_11 rfl (lv_at hl 1 rfl) ?_
  refine pw_ci w (pw_runV (r := 0) (ci := 7) (As := [.int (zI (t : Int))]) (rest := []) w ⟨hx, hb, hml, hown, hts⟩ (c_X7_solve l D G ad N c hN hD hV ht hlt) (cwV 1 hts gX7_chosen_X7_solve rfl rfl rfl (by decide +kernel) ⟨Nat.le_of_ble_eq_true rfl, Nat.le_of_ble_eq_true rfl⟩) (by omega) h0 rfl rfl hl.1 rfl (lv_room (Nat.le_of_ble_eq_true rfl)) dX7_chosen_12 ⟨Nat.le_of_ble_eq_true rfl, Nat.le_of_ble_eq_true rfl⟩) (fun r_ c1 H locs hp w => ?_)
  have w : PW D G A s ad N c1 H locs := w
  obtain ⟨hv1, hD1, hRw1, hW, fr1⟩ := hp
  subst hv1
  have hf1 : ∀ q, (120 ≤ q ∧ q < 120) → c1 q = c q := fun q hq => (fr1 q hq).trans ((fun _ _ => rfl) q hq)
  obtain ⟨h0, hF, hB, hU, hTR, hTC, ⟨mz, lc, od, bt, hSS⟩, hJ⟩ := id hD1
  obtain ⟨⟨ft, h15, hft⟩, hUo⟩ := id hU
  have hls := less_bd (Rr_bd (w := (cwT lim no gn gg nn pt ln wi t)) (fun i j _ => cwT_bd hOV hUV t i j) (nn t - 1) 0)
  refine lv_pop hx hb dX7_chosen_15 rfl ?_
  refine lv_aload_n hx hb dX7_chosen_16 rfl (lv_at hl 0 rfl) ?_
  refine pw_get (r := 0) (ci := 7) (C := RX7) (T := TX7) (Nf := 5) hx hb w hts hin_X7_chosen_7 hown (by omega) h0 rfl 3 (by decide) (hts _ fl_X7_chosen_33) (fun _ h9 => h9) rfl dX7_chosen_17 ?_
  refine lv_iload_n hx hb dX7_chosen_20 rfl (lv_at hl 2 rfl) ?_
  refine pw_ci w (pw_runV (r := 72) (ci := 6) (As := [.int (zI (i : Int))]) (rest := []) w ⟨hx, hb, hml, hown, hts⟩ (c_X6_firstAt l D G ad N c1 (gap := i) (R := fun i => Rr (cwT lim no gn gg nn pt ln wi t) (nn t - 1 - i) i) (by omega) hTC (by omega) (fun j hj => hRw1 j (by omega)) (fun j _ o ho => Rr_bd (w := (cwT lim no gn gg nn pt ln wi t)) (fun i j _ => cwT_bd hOV hUV t i j) (nn t - 1 - j) j o ho)) (cwV 1 hts gX7_chosen_X6_firstAt rfl rfl rfl (by decide +kernel) ⟨Nat.le_of_ble_eq_true rfl, Nat.le_of_ble_eq_true rfl⟩) (by omega) hTC.1 rfl rfl hl.1 rfl (lv_room (Nat.le_of_ble_eq_true rfl)) dX7_chosen_21 ⟨Nat.le_of_ble_eq_true rfl, Nat.le_of_ble_eq_true rfl⟩) (fun r_ u H locs hp w => ?_)
  obtain ⟨hv, hu⟩ := hp
  subst hv
  have w : PW D G A s ad N c1 H locs := by rw [hu] at w; exact w
  clear hu
  have hop := optN_lt (fun i => Rr (cwT lim no gn gg nn pt ln wi t) (nn t - 1 - i) i) (i + 1)
  refine lv_iconst (v := zI (1)) hx hb dX7_chosen_24 rfl ?_
  refine pz_isub hx hb dX7_chosen_25 ?_
  exact fin (ad, N, c1) c1 _ _ _ _ _ _ _ rfl ⟨rfl, hD1, hf1⟩ w dX7_chosen_26 (Nat.le_refl _) (Nat.le_refl _)

abbrev rx_X7_chosen : Room := { frames := 8, cells := 1, slots := 6, locals := 240 }
set_option maxHeartbeats 4000000 in
set_option maxRecDepth 100000 in
theorem x_X7_chosen1 (l : Launch) (hsT : l.stackTraces = false) (D : va_G) (G : Nat → ClassId) (ad : Nat → Nat) (N : Nat) (c : Nat → va_E) {lim : Int} {no dn : Nat} {gn : Nat → Nat} {gg : Nat → Nat → Nat} {dg nn : Nat → Nat} {pt ln : Nat → Nat → Nat} {wi : Nat → Nat → Int} (hN : 120 + 2 * no ≤ N) (hD : DK G ad c lim no dn gn gg dg nn pt ln wi) (hV : SV lim no dn gn gg dg nn pt ln wi) {zt : Int} (hbzt : bnd zt) (hbad : ¬ (0 ≤ zt ∧ zt ≤ 3)) {zi : Int} : MX l yX7_chosen wsX7_chosen rx_X7_chosen [.ref (ad 0), .int (zI zt), .int (zI zi)] D G ad N c xIA (fx ad N) (fun c1 => DK G ad c1 lim no dn gn gg dg nn pt ln wi ∧ ∀ q, (120 ≤ q ∧ q < 120) → c1 q = c q) 1 6 := by
  refine MX.of (cc := cX7_chosen) (maxL := 3) (ret := (some .int)) (by decide) rfl (Nat.le_of_ble_eq_true rfl) ?_
  intro p e s m below meth kc A hx hb hr hts hown hml hlk hno w ls hl
  have hown : s.vm.findClass RX7 = some m.cls := hown
  have hl : lv_has ls 3 [(0, .ref (ad 0)), (1, .int (zI zt)), (2, .int (zI zi))] := hl
  obtain ⟨h0, hF, hB, hU, hTR, hTC, ⟨mz, lc, od, bt, hSS⟩, hJ⟩ := id hD
  obtain ⟨⟨ft, h15, hft⟩, hUo⟩ := id hU
  obtain ⟨hlim, hOV, hdn4, hdg, hUV⟩ := id hV
  have hlb : bnd lim := ⟨by omega, by omega⟩
  have hno8 := hOV.1
  have hBV : BookV no dn gn gg dg := ⟨hOV.1, hOV.2, hdn4, hdg⟩
  have hbzt1 := hbzt.1
  have hbzt2 := hbzt.2
  refine lv_iload_n hx hb dX7_chosen_0 rfl (lv_at hl 1 rfl) ?_
  exact pw_cx w (pw_runSX (As := [.int (zI zt)]) (rest := []) w ⟨hx, hb, hml, hown, hts⟩ (x_X7_checkTune l hsT D G ad N c (z := zt) ⟨by omega, by omega⟩ (by omega)) (va_cwS 1 hts gX7_chosen_X7_checkTune rfl rfl rfl (by decide +kernel) ⟨Nat.le_of_ble_eq_true rfl, Nat.le_of_ble_eq_true rfl⟩) rfl hl.1 rfl (lv_room (Nat.le_of_ble_eq_true rfl)) dX7_chosen_1 ⟨Nat.le_of_ble_eq_true rfl, Nat.le_of_ble_eq_true rfl⟩) (fun u ce q9 H locs hp w hce hcv hcl => pw_out hno hlk w u rfl ⟨by rw [show u = c from hp]; exact hD, fun q hq => by rw [show u = c from hp]⟩ hce hcv hcl (Nat.le_of_ble_eq_true rfl) (Nat.le_of_ble_eq_true rfl))

set_option maxHeartbeats 4000000 in
set_option maxRecDepth 100000 in
theorem x_X7_chosen2 (l : Launch) (hsT : l.stackTraces = false) (D : va_G) (G : Nat → ClassId) (ad : Nat → Nat) (N : Nat) (c : Nat → va_E) {lim : Int} {no dn : Nat} {gn : Nat → Nat} {gg : Nat → Nat → Nat} {dg nn : Nat → Nat} {pt ln : Nat → Nat → Nat} {wi : Nat → Nat → Int} (hN : 120 + 2 * no ≤ N) (hD : DK G ad c lim no dn gn gg dg nn pt ln wi) (hV : SV lim no dn gn gg dg nn pt ln wi) {t : Nat} (ht : t < 4) {zi : Int} (hbzi : bnd zi) (hbad : ¬ (0 ≤ zi ∧ zi ≤ (nn t : Int) - 2)) : MX l yX7_chosen wsX7_chosen rx_X7_chosen [.ref (ad 0), .int (zI (t : Int)), .int (zI zi)] D G ad N c xIO (fx ad N) (fun c1 => DK G ad c1 lim no dn gn gg dg nn pt ln wi ∧ ∀ q, (120 ≤ q ∧ q < 120) → c1 q = c q) 1 6 := by
  refine MX.of (cc := cX7_chosen) (maxL := 3) (ret := (some .int)) (by decide) rfl (Nat.le_of_ble_eq_true rfl) ?_
  intro p e s m below meth kc A hx hb hr hts hown hml hlk hno w ls hl
  have hown : s.vm.findClass RX7 = some m.cls := hown
  have hl : lv_has ls 3 [(0, .ref (ad 0)), (1, .int (zI (t : Int))), (2, .int (zI zi))] := hl
  obtain ⟨h0, hF, hB, hU, hTR, hTC, ⟨mz, lc, od, bt, hSS⟩, hJ⟩ := id hD
  obtain ⟨⟨ft, h15, hft⟩, hUo⟩ := id hU
  obtain ⟨hlim, hOV, hdn4, hdg, hUV⟩ := id hV
  have hlb : bnd lim := ⟨by omega, by omega⟩
  have hno8 := hOV.1
  have hBV : BookV no dn gn gg dg := ⟨hOV.1, hOV.2, hdn4, hdg⟩
  have hnt := (hUV t ht).1
  have hbzi1 := hbzi.1
  have hbzi2 := hbzi.2
  refine lv_iload_n hx hb dX7_chosen_0 rfl (lv_at hl 1 rfl) ?_
  refine pw_cv w (pw_runS (As := [.int (zI (t : Int))]) (rest := []) w ⟨hx, hb, hml, hown, hts⟩ (c_X7_checkTune l D G ad N c (z := (t : Int)) ⟨by omega, by omega⟩ (by omega)) (va_cwS 1 hts gX7_chosen_X7_checkTune rfl rfl rfl (by decide +kernel) ⟨Nat.le_of_ble_eq_true rfl, Nat.le_of_ble_eq_true rfl⟩) rfl hl.1 rfl (lv_room (Nat.le_of_ble_eq_true rfl)) dX7_chosen_1 ⟨Nat.le_of_ble_eq_true rfl, Nat.le_of_ble_eq_true rfl⟩) (fun u H locs hp w => ?_)
  have hu := hp
  have w : PW D G A s ad N c H locs := by rw [hu] at w; exact w
  clear hu
  refine lv_aload_n hx hb dX7_chosen_4 rfl (lv_at hl 0 rfl) ?_
  refine lv_iload_n hx hb dX7_chosen_5 rfl (lv_at hl 1 rfl) ?_
  refine lv_iload_n hx hb dX7_chosen_6 rfl (lv_at hl 2 rfl) ?_
  exact pw_cx w (pw_runVX (r := 0) (ci := 7) (As := [.int (zI (t : Int)), .int (zI zi)]) (rest := []) w ⟨hx, hb, hml, hown, hts⟩ (x_X7_checkGap l hsT D G ad N c (t := t) (z := zi) hN hD hV ht ⟨by omega, by omega⟩ (by omega)) (cwV 2 hts gX7_chosen_X7_checkGap rfl rfl rfl (by decide +kernel) ⟨Nat.le_of_ble_eq_true rfl, Nat.le_of_ble_eq_true rfl⟩) (by omega) h0 rfl rfl hl.1 rfl (lv_room (Nat.le_of_ble_eq_true rfl)) dX7_chosen_7 ⟨Nat.le_of_ble_eq_true rfl, Nat.le_of_ble_eq_true rfl⟩) (fun u ce q9 H locs hp w hce hcv hcl => pw_out hno hlk w u rfl ⟨by rw [show u = c from hp]; exact hD, fun q hq => by rw [show u = c from hp]⟩ hce hcv hcl (Nat.le_of_ble_eq_true rfl) (Nat.le_of_ble_eq_true rfl))

set_option maxHeartbeats 4000000 in
set_option maxRecDepth 100000 in
theorem x_X7_chosen3 (l : Launch) (hsT : l.stackTraces = false) (D : va_G) (G : Nat → ClassId) (ad : Nat → Nat) (N : Nat) (c : Nat → va_E) {lim : Int} {no dn : Nat} {gn : Nat → Nat} {gg : Nat → Nat → Nat} {dg nn : Nat → Nat} {pt ln : Nat → Nat → Nat} {wi : Nat → Nat → Int} (hN : 120 + 2 * no ≤ N) (hD : DK G ad c lim no dn gn gg dg nn pt ln wi) (hV : SV lim no dn gn gg dg nn pt ln wi) {t i : Nat} (ht : t < 4) (hi : i + 1 < nn t) (hlt : ¬ (lessOf (Rr (cwT lim no gn gg nn pt ln wi t) (nn t - 1) 0)) < 1000000) : MX l yX7_chosen wsX7_chosen rx_X7_chosen [.ref (ad 0), .int (zI (t : Int)), .int (zI (i : Int))] D G ad N c xIS (fx ad N) (fun c1 => DK G ad c1 lim no dn gn gg dg nn pt ln wi ∧ ∀ q, (120 ≤ q ∧ q < 120) → c1 q = c q) 1 6 := by
  refine MX.of (cc := cX7_chosen) (maxL := 3) (ret := (some .int)) (by decide) rfl (Nat.le_of_ble_eq_true rfl) ?_
  intro p e s m below meth kc A hx hb hr hts hown hml hlk hno w ls hl
  have hown : s.vm.findClass RX7 = some m.cls := hown
  have hl : lv_has ls 3 [(0, .ref (ad 0)), (1, .int (zI (t : Int))), (2, .int (zI (i : Int)))] := hl
  obtain ⟨h0, hF, hB, hU, hTR, hTC, ⟨mz, lc, od, bt, hSS⟩, hJ⟩ := id hD
  obtain ⟨⟨ft, h15, hft⟩, hUo⟩ := id hU
  obtain ⟨hlim, hOV, hdn4, hdg, hUV⟩ := id hV
  have hlb : bnd lim := ⟨by omega, by omega⟩
  have hno8 := hOV.1
  have hBV : BookV no dn gn gg dg := ⟨hOV.1, hOV.2, hdn4, hdg⟩
  have hnt := (hUV t ht).1
  refine lv_iload_n hx hb dX7_chosen_0 rfl (lv_at hl 1 rfl) ?_
  refine pw_cv w (pw_runS (As := [.int (zI (t : Int))]) (rest := []) w ⟨hx, hb, hml, hown, hts⟩ (c_X7_checkTune l D G ad N c (z := (t : Int)) ⟨by omega, by omega⟩ (by omega)) (va_cwS 1 hts gX7_chosen_X7_checkTune rfl rfl rfl (by decide +kernel) ⟨Nat.le_of_ble_eq_true rfl, Nat.le_of_ble_eq_true rfl⟩) rfl hl.1 rfl (lv_room (Nat.le_of_ble_eq_true rfl)) dX7_chosen_1 ⟨Nat.le_of_ble_eq_true rfl, Nat.le_of_ble_eq_true rfl⟩) (fun u H locs hp w => ?_)
  have hu := hp
  have w : PW D G A s ad N c H locs := by rw [hu] at w; exact w
  clear hu
  refine lv_aload_n hx hb dX7_chosen_4 rfl (lv_at hl 0 rfl) ?_
  refine lv_iload_n hx hb dX7_chosen_5 rfl (lv_at hl 1 rfl) ?_
  refine lv_iload_n hx hb dX7_chosen_6 rfl (lv_at hl 2 rfl) ?_
  refine pw_cv w (pw_runV (r := 0) (ci := 7) (As := [.int (zI (t : Int)), .int (zI (i : Int))]) (rest := []) w ⟨hx, hb, hml, hown, hts⟩ (c_X7_checkGap l D G ad N c (t := t) (z := (i : Int)) hN hD hV ht ⟨by omega, by omega⟩ (by omega)) (cwV 2 hts gX7_chosen_X7_checkGap rfl rfl rfl (by decide +kernel) ⟨Nat.le_of_ble_eq_true rfl, Nat.le_of_ble_eq_true rfl⟩) (by omega) h0 rfl rfl hl.1 rfl (lv_room (Nat.le_of_ble_eq_true rfl)) dX7_chosen_7 ⟨Nat.le_of_ble_eq_true rfl, Nat.le_of_ble_eq_true rfl⟩) (fun u H locs hp w => ?_)
  have hu := hp
  have w : PW D G A s ad N c H locs := by rw [hu] at w; exact w
  clear hu
  refine lv_aload_n hx hb dX7_chosen_10 rfl (lv_at hl 0 rfl) ?_
  refine lv_iload_n hx hb dX7_chosen_11 rfl (lv_at hl 1 rfl) ?_
  exact pw_cx w (pw_runVX (r := 0) (ci := 7) (As := [.int (zI (t : Int))]) (rest := []) w ⟨hx, hb, hml, hown, hts⟩ (x_X7_solve l hsT D G ad N c hN hD hV ht hlt) (cwV 1 hts gX7_chosen_X7_solve rfl rfl rfl (by decide +kernel) ⟨Nat.le_of_ble_eq_true rfl, Nat.le_of_ble_eq_true rfl⟩) (by omega) h0 rfl rfl hl.1 rfl (lv_room (Nat.le_of_ble_eq_true rfl)) dX7_chosen_12 ⟨Nat.le_of_ble_eq_true rfl, Nat.le_of_ble_eq_true rfl⟩) (fun u ce q9 H locs hp w hce hcv hcl => pw_out hno hlk w u rfl hp hce hcv hcl (Nat.le_of_ble_eq_true rfl) (Nat.le_of_ble_eq_true rfl))

theorem hin_X7_mostOrnaments_7 : ∀ w ∈ u_ws RX7 TX7 5, w ∈ wsX7_mostOrnaments := by decide +kernel
theorem fl_X7_mostOrnaments_25 : Cond.fieldLink RX7 25 "PipersDesk" "tunes" "[LPipersDesk$Tune;" ∈ wsX7_mostOrnaments := by decide +kernel
theorem fl_X7_mostOrnaments_33 : Cond.fieldLink RX7 33 "PipersDesk" "tuneChoices" "LPipersDesk$TuneChoices;" ∈ wsX7_mostOrnaments := by decide +kernel
abbrev rm_X7_mostOrnaments : Room := { frames := 8, cells := 0, slots := 0, locals := 240 }
set_option maxHeartbeats 4000000 in
set_option maxRecDepth 100000 in
theorem c_X7_mostOrnaments (l : Launch) (D : va_G) (G : Nat → ClassId) (ad : Nat → Nat) (N : Nat) (c : Nat → va_E) {lim : Int} {no dn : Nat} {gn : Nat → Nat} {gg : Nat → Nat → Nat} {dg nn : Nat → Nat} {pt ln : Nat → Nat → Nat} {wi : Nat → Nat → Int} (hN : 120 + 2 * no ≤ N) (hD : DK G ad c lim no dn gn gg dg nn pt ln wi) (hV : SV lim no dn gn gg dg nn pt ln wi) {t : Nat} (ht : t < 4) (hlt : (lessOf (Rr (cwT lim no gn gg nn pt ln wi t) (nn t - 1) 0)) < 1000000) : MC l yX7_mostOrnaments wsX7_mostOrnaments rm_X7_mostOrnaments [.ref (ad 0), .int (zI (t : Int))] D G ad N c (qI D G (fx ad N) (fun v c1 => v = zI (((nn t - 1 : Nat) : Int) - (lessOf (Fr (fun i => ewF ((cwT lim no gn gg nn pt ln wi t) i)) (nn t - 1)))) ∧ DK G ad c1 lim no dn gn gg dg nn pt ln wi ∧ ∀ q, (120 ≤ q ∧ q < 120) → c1 q = c q)) 0 0 := by
  refine MCi.of (cc := cX7_mostOrnaments) (maxL := 2) (by decide) rfl (Nat.le_of_ble_eq_true rfl) ?_
  intro p e s m args below meth kc A Q hx hb hts hown hml fin H locs w ls hl
  have hown : s.vm.findClass RX7 = some m.cls := hown
  have hl : lv_has ls 2 [(0, .ref (ad 0)), (1, .int (zI (t : Int)))] := hl
  obtain ⟨h0, hF, hB, hU, hTR, hTC, ⟨mz, lc, od, bt, hSS⟩, hJ⟩ := id hD
  obtain ⟨⟨ft, h15, hft⟩, hUo⟩ := id hU
  obtain ⟨hlim, hOV, hdn4, hdg, hUV⟩ := id hV
  have hlb : bnd lim := ⟨by omega, by omega⟩
  have hno8 := hOV.1
  have hBV : BookV no dn gn gg dg := ⟨hOV.1, hOV.2, hdn4, hdg⟩
  have hnt := (hUV t ht).1
  refine lv_iload_n hx hb dX7_mostOrnaments_0 rfl (lv_at hl 1 rfl) ?_
  refine pw_cv w (pw_runS (As := [.int (zI (t : Int))]) (rest := []) w ⟨hx, hb, hml, hown, hts⟩ (c_X7_checkTune l D G ad N c (z := (t : Int)) ⟨by omega, by omega⟩ (by omega)) (va_cwS 1 hts gX7_mostOrnaments_X7_checkTune rfl rfl rfl (by decide +kernel) ⟨Nat.le_of_ble_eq_true rfl, Nat.le_of_ble_eq_true rfl⟩) rfl hl.1 rfl (lv_room (Nat.le_of_ble_eq_true rfl)) dX7_mostOrnaments_1 ⟨Nat.le_of_ble_eq_true rfl, Nat.le_of_ble_eq_true rfl⟩) (fun u H locs hp w => ?_)
  have hu := hp
  have w : PW D G A s ad N c H locs := by rw [hu] at w; exact w
  clear hu
  refine lv_aload_n hx hb dX7_mostOrnaments_4 rfl (lv_at hl 0 rfl) ?_
  refine lv_iload_n hx hb dX7_mostOrnaments_5 rfl (lv_at hl 1 rfl) ?_
  refine pw_ci w (pw_runV (r := 0) (ci := 7) (As := [.int (zI (t : Int))]) (rest := []) w ⟨hx, hb, hml, hown, hts⟩ (c_X7_solve l D G ad N c hN hD hV ht hlt) (cwV 1 hts gX7_mostOrnaments_X7_solve rfl rfl rfl (by decide +kernel) ⟨Nat.le_of_ble_eq_true rfl, Nat.le_of_ble_eq_true rfl⟩) (by omega) h0 rfl rfl hl.1 rfl (lv_room (Nat.le_of_ble_eq_true rfl)) dX7_mostOrnaments_6 ⟨Nat.le_of_ble_eq_true rfl, Nat.le_of_ble_eq_true rfl⟩) (fun r_ c1 H locs hp w => ?_)
  have w : PW D G A s ad N c1 H locs := w
  obtain ⟨hv1, hD1, hRw1, hW, fr1⟩ := hp
  subst hv1
  have hf1 : ∀ q, (120 ≤ q ∧ q < 120) → c1 q = c q := fun q hq => (fr1 q hq).trans ((fun _ _ => rfl) q hq)
  obtain ⟨h0, hF, hB, hU, hTR, hTC, ⟨mz, lc, od, bt, hSS⟩, hJ⟩ := id hD1
  obtain ⟨⟨ft, h15, hft⟩, hUo⟩ := id hU
  have hls := less_bd (Rr_bd (w := (cwT lim no gn gg nn pt ln wi t)) (fun i j _ => cwT_bd hOV hUV t i j) (nn t - 1) 0)
  refine lv_pop hx hb dX7_mostOrnaments_9 rfl ?_
  refine lv_aload_n hx hb dX7_mostOrnaments_10 rfl (lv_at hl 0 rfl) ?_
  refine pw_get (r := 0) (ci := 7) (C := RX7) (T := TX7) (Nf := 5) hx hb w hts hin_X7_mostOrnaments_7 hown (by omega) h0 rfl 2 (by decide) (hts _ fl_X7_mostOrnaments_25) (fun _ h9 => h9) rfl dX7_mostOrnaments_11 ?_
  refine lv_iload_n hx hb dX7_mostOrnaments_14 rfl (lv_at hl 1 rfl) ?_
  refine pw_aaldR (r := 15) (j := t) hx hb w (by omega) h15 rfl rfl (by omega) (by omega) (by decide) (16 + 14 * t) (hft t (by omega)) dX7_mostOrnaments_15 ?_
  refine pw_ci w (pw_runV (r := (16 + 14 * t)) (ci := 5) (As := []) (rest := []) w ⟨hx, hb, hml, hown, hts⟩ (c_X5_gaps l D G ad N c1 (T := 16 + 14 * t) (n := nn t) ⟨by omega, by omega⟩ (by omega) (hUo t ht) (hUV t ht)) (cwV 0 hts gX7_mostOrnaments_X5_gaps rfl rfl rfl (by decide +kernel) ⟨Nat.le_of_ble_eq_true rfl, Nat.le_of_ble_eq_true rfl⟩) (by omega) (hUo t (by omega)).1 rfl rfl hl.1 rfl (lv_room (Nat.le_of_ble_eq_true rfl)) dX7_mostOrnaments_16 ⟨Nat.le_of_ble_eq_true rfl, Nat.le_of_ble_eq_true rfl⟩) (fun r_ u H locs hp w => ?_)
  obtain ⟨hv, hu⟩ := hp
  subst hv
  have w : PW D G A s ad N c1 H locs := by rw [hu] at w; exact w
  clear hu
  refine lv_aload_n hx hb dX7_mostOrnaments_19 rfl (lv_at hl 0 rfl) ?_
  refine pw_get (r := 0) (ci := 7) (C := RX7) (T := TX7) (Nf := 5) hx hb w hts hin_X7_mostOrnaments_7 hown (by omega) h0 rfl 3 (by decide) (hts _ fl_X7_mostOrnaments_33) (fun _ h9 => h9) rfl dX7_mostOrnaments_20 ?_
  refine lv_aload_n hx hb dX7_mostOrnaments_23 rfl (lv_at hl 0 rfl) ?_
  refine pw_get (r := 0) (ci := 7) (C := RX7) (T := TX7) (Nf := 5) hx hb w hts hin_X7_mostOrnaments_7 hown (by omega) h0 rfl 2 (by decide) (hts _ fl_X7_mostOrnaments_25) (fun _ h9 => h9) rfl dX7_mostOrnaments_24 ?_
  refine lv_iload_n hx hb dX7_mostOrnaments_27 rfl (lv_at hl 1 rfl) ?_
  refine pw_aaldR (r := 15) (j := t) hx hb w (by omega) h15 rfl rfl (by omega) (by omega) (by decide) (16 + 14 * t) (hft t (by omega)) dX7_mostOrnaments_28 ?_
  refine pw_ci w (pw_runV (r := 72) (ci := 6) (As := [.ref (ad (16 + 14 * t))]) (rest := [.int (zI ((nn t - 1 : Nat) : Int))]) w ⟨hx, hb, hml, hown, hts⟩ (c_X6_fewestEmptyGaps l D G ad N c1 (T := 16 + 14 * t) (n := nn t) ⟨by omega, by omega⟩ (by omega) (hUo t ht) (hUV t ht) hTC hW (fun i j _ => cwT_bd hOV hUV t i j)) (cwV 1 hts gX7_mostOrnaments_X6_fewestEmptyGaps rfl rfl rfl (by decide +kernel) ⟨Nat.le_of_ble_eq_true rfl, Nat.le_of_ble_eq_true rfl⟩) (by omega) hTC.1 rfl rfl hl.1 rfl (lv_room (Nat.le_of_ble_eq_true rfl)) dX7_mostOrnaments_29 ⟨Nat.le_of_ble_eq_true rfl, Nat.le_of_ble_eq_true rfl⟩) (fun r_ c2 H locs hp w => ?_)
  have w : PW D G A s ad N c2 H locs := w
  obtain ⟨hv2, hTC2, fr2⟩ := hp
  subst hv2
  have hD2 := hD1.tc hTC2 (fun q hq => fr2 q (by omega))
  have hf2 : ∀ q, (120 ≤ q ∧ q < 120) → c2 q = c q := fun q hq => (fr2 q (by omega)).trans (hf1 q hq)
  refine pz_isub hx hb dX7_mostOrnaments_32 ?_
  exact fin (ad, N, c2) c2 _ _ _ _ _ _ _ rfl ⟨rfl, hD2, hf2⟩ w dX7_mostOrnaments_33 (Nat.le_refl _) (Nat.le_refl _)

abbrev rx_X7_mostOrnaments : Room := { frames := 8, cells := 1, slots := 6, locals := 240 }
set_option maxHeartbeats 4000000 in
set_option maxRecDepth 100000 in
theorem x_X7_mostOrnaments1 (l : Launch) (hsT : l.stackTraces = false) (D : va_G) (G : Nat → ClassId) (ad : Nat → Nat) (N : Nat) (c : Nat → va_E) {lim : Int} {no dn : Nat} {gn : Nat → Nat} {gg : Nat → Nat → Nat} {dg nn : Nat → Nat} {pt ln : Nat → Nat → Nat} {wi : Nat → Nat → Int} (hN : 120 + 2 * no ≤ N) (hD : DK G ad c lim no dn gn gg dg nn pt ln wi) (hV : SV lim no dn gn gg dg nn pt ln wi) {zt : Int} (hbzt : bnd zt) (hbad : ¬ (0 ≤ zt ∧ zt ≤ 3)) : MX l yX7_mostOrnaments wsX7_mostOrnaments rx_X7_mostOrnaments [.ref (ad 0), .int (zI zt)] D G ad N c xIA (fx ad N) (fun c1 => DK G ad c1 lim no dn gn gg dg nn pt ln wi ∧ ∀ q, (120 ≤ q ∧ q < 120) → c1 q = c q) 1 6 := by
  refine MX.of (cc := cX7_mostOrnaments) (maxL := 2) (ret := (some .int)) (by decide) rfl (Nat.le_of_ble_eq_true rfl) ?_
  intro p e s m below meth kc A hx hb hr hts hown hml hlk hno w ls hl
  have hown : s.vm.findClass RX7 = some m.cls := hown
  have hl : lv_has ls 2 [(0, .ref (ad 0)), (1, .int (zI zt))] := hl
  obtain ⟨h0, hF, hB, hU, hTR, hTC, ⟨mz, lc, od, bt, hSS⟩, hJ⟩ := id hD
  obtain ⟨⟨ft, h15, hft⟩, hUo⟩ := id hU
  obtain ⟨hlim, hOV, hdn4, hdg, hUV⟩ := id hV
  have hlb : bnd lim := ⟨by omega, by omega⟩
  have hno8 := hOV.1
  have hBV : BookV no dn gn gg dg := ⟨hOV.1, hOV.2, hdn4, hdg⟩
  have hbzt1 := hbzt.1
  have hbzt2 := hbzt.2
  refine lv_iload_n hx hb dX7_mostOrnaments_0 rfl (lv_at hl 1 rfl) ?_
  exact pw_cx w (pw_runSX (As := [.int (zI zt)]) (rest := []) w ⟨hx, hb, hml, hown, hts⟩ (x_X7_checkTune l hsT D G ad N c (z := zt) ⟨by omega, by omega⟩ (by omega)) (va_cwS 1 hts gX7_mostOrnaments_X7_checkTune rfl rfl rfl (by decide +kernel) ⟨Nat.le_of_ble_eq_true rfl, Nat.le_of_ble_eq_true rfl⟩) rfl hl.1 rfl (lv_room (Nat.le_of_ble_eq_true rfl)) dX7_mostOrnaments_1 ⟨Nat.le_of_ble_eq_true rfl, Nat.le_of_ble_eq_true rfl⟩) (fun u ce q9 H locs hp w hce hcv hcl => pw_out hno hlk w u rfl ⟨by rw [show u = c from hp]; exact hD, fun q hq => by rw [show u = c from hp]⟩ hce hcv hcl (Nat.le_of_ble_eq_true rfl) (Nat.le_of_ble_eq_true rfl))

set_option maxHeartbeats 4000000 in
set_option maxRecDepth 100000 in
theorem x_X7_mostOrnaments2 (l : Launch) (hsT : l.stackTraces = false) (D : va_G) (G : Nat → ClassId) (ad : Nat → Nat) (N : Nat) (c : Nat → va_E) {lim : Int} {no dn : Nat} {gn : Nat → Nat} {gg : Nat → Nat → Nat} {dg nn : Nat → Nat} {pt ln : Nat → Nat → Nat} {wi : Nat → Nat → Int} (hN : 120 + 2 * no ≤ N) (hD : DK G ad c lim no dn gn gg dg nn pt ln wi) (hV : SV lim no dn gn gg dg nn pt ln wi) {t : Nat} (ht : t < 4) (hlt : ¬ (lessOf (Rr (cwT lim no gn gg nn pt ln wi t) (nn t - 1) 0)) < 1000000) : MX l yX7_mostOrnaments wsX7_mostOrnaments rx_X7_mostOrnaments [.ref (ad 0), .int (zI (t : Int))] D G ad N c xIS (fx ad N) (fun c1 => DK G ad c1 lim no dn gn gg dg nn pt ln wi ∧ ∀ q, (120 ≤ q ∧ q < 120) → c1 q = c q) 1 6 := by
  refine MX.of (cc := cX7_mostOrnaments) (maxL := 2) (ret := (some .int)) (by decide) rfl (Nat.le_of_ble_eq_true rfl) ?_
  intro p e s m below meth kc A hx hb hr hts hown hml hlk hno w ls hl
  have hown : s.vm.findClass RX7 = some m.cls := hown
  have hl : lv_has ls 2 [(0, .ref (ad 0)), (1, .int (zI (t : Int)))] := hl
  obtain ⟨h0, hF, hB, hU, hTR, hTC, ⟨mz, lc, od, bt, hSS⟩, hJ⟩ := id hD
  obtain ⟨⟨ft, h15, hft⟩, hUo⟩ := id hU
  obtain ⟨hlim, hOV, hdn4, hdg, hUV⟩ := id hV
  have hlb : bnd lim := ⟨by omega, by omega⟩
  have hno8 := hOV.1
  have hBV : BookV no dn gn gg dg := ⟨hOV.1, hOV.2, hdn4, hdg⟩
  have hnt := (hUV t ht).1
  refine lv_iload_n hx hb dX7_mostOrnaments_0 rfl (lv_at hl 1 rfl) ?_
  refine pw_cv w (pw_runS (As := [.int (zI (t : Int))]) (rest := []) w ⟨hx, hb, hml, hown, hts⟩ (c_X7_checkTune l D G ad N c (z := (t : Int)) ⟨by omega, by omega⟩ (by omega)) (va_cwS 1 hts gX7_mostOrnaments_X7_checkTune rfl rfl rfl (by decide +kernel) ⟨Nat.le_of_ble_eq_true rfl, Nat.le_of_ble_eq_true rfl⟩) rfl hl.1 rfl (lv_room (Nat.le_of_ble_eq_true rfl)) dX7_mostOrnaments_1 ⟨Nat.le_of_ble_eq_true rfl, Nat.le_of_ble_eq_true rfl⟩) (fun u H locs hp w => ?_)
  have hu := hp
  have w : PW D G A s ad N c H locs := by rw [hu] at w; exact w
  clear hu
  refine lv_aload_n hx hb dX7_mostOrnaments_4 rfl (lv_at hl 0 rfl) ?_
  refine lv_iload_n hx hb dX7_mostOrnaments_5 rfl (lv_at hl 1 rfl) ?_
  exact pw_cx w (pw_runVX (r := 0) (ci := 7) (As := [.int (zI (t : Int))]) (rest := []) w ⟨hx, hb, hml, hown, hts⟩ (x_X7_solve l hsT D G ad N c hN hD hV ht hlt) (cwV 1 hts gX7_mostOrnaments_X7_solve rfl rfl rfl (by decide +kernel) ⟨Nat.le_of_ble_eq_true rfl, Nat.le_of_ble_eq_true rfl⟩) (by omega) h0 rfl rfl hl.1 rfl (lv_room (Nat.le_of_ble_eq_true rfl)) dX7_mostOrnaments_6 ⟨Nat.le_of_ble_eq_true rfl, Nat.le_of_ble_eq_true rfl⟩) (fun u ce q9 H locs hp w hce hcv hcl => pw_out hno hlk w u rfl hp hce hcv hcl (Nat.le_of_ble_eq_true rfl) (Nat.le_of_ble_eq_true rfl))

theorem hin_X7_average_7 : ∀ w ∈ u_ws RX7 TX7 5, w ∈ wsX7_average := by decide +kernel
theorem fl_X7_average_25 : Cond.fieldLink RX7 25 "PipersDesk" "tunes" "[LPipersDesk$Tune;" ∈ wsX7_average := by decide +kernel
abbrev rm_X7_average : Room := { frames := 8, cells := 0, slots := 0, locals := 240 }
set_option maxHeartbeats 4000000 in
set_option maxRecDepth 100000 in
theorem c_X7_average (l : Launch) (D : va_G) (G : Nat → ClassId) (ad : Nat → Nat) (N : Nat) (c : Nat → va_E) {lim : Int} {no dn : Nat} {gn : Nat → Nat} {gg : Nat → Nat → Nat} {dg nn : Nat → Nat} {pt ln : Nat → Nat → Nat} {wi : Nat → Nat → Int} (hN : 120 + 2 * no ≤ N) (hD : DK G ad c lim no dn gn gg dg nn pt ln wi) (hV : SV lim no dn gn gg dg nn pt ln wi) {t : Nat} (ht : t < 4) (hlt : (lessOf (Rr (cwT lim no gn gg nn pt ln wi t) (nn t - 1) 0)) < 1000000) (hav : 2 ≤ nn t → vf_n32 (FP.fdiv (FP.i2f (zI (lessOf (Rr (cwT lim no gn gg nn pt ln wi t) (nn t - 1) 0)))) (FP.i2f (zI ((nn t : Int) - 1))))) : MC l yX7_average wsX7_average rm_X7_average [.ref (ad 0), .int (zI (t : Int))] D G ad N c (qF D G (fx ad N) (fun v c1 => v = (if nn t < 2 then FP.fconst0 else FP.fdiv (FP.i2f (zI (lessOf (Rr (cwT lim no gn gg nn pt ln wi t) (nn t - 1) 0)))) (FP.i2f (zI ((nn t : Int) - 1)))) ∧ DK G ad c1 lim no dn gn gg dg nn pt ln wi ∧ ∀ q, (120 ≤ q ∧ q < 120) → c1 q = c q)) 0 0 := by
  refine MCf.of (cc := cX7_average) (maxL := 4) (by decide) rfl (Nat.le_of_ble_eq_true rfl) ?_
  intro p e s m args below meth kc A Q hx hb hts hown hml fin H locs w ls hl
  have hown : s.vm.findClass RX7 = some m.cls := hown
  have hl : lv_has ls 4 [(0, .ref (ad 0)), (1, .int (zI (t : Int)))] := hl
  obtain ⟨h0, hF, hB, hU, hTR, hTC, ⟨mz, lc, od, bt, hSS⟩, hJ⟩ := id hD
  obtain ⟨⟨ft, h15, hft⟩, hUo⟩ := id hU
  obtain ⟨hlim, hOV, hdn4, hdg, hUV⟩ := id hV
  have hlb : bnd lim := ⟨by omega, by omega⟩
  have hno8 := hOV.1
  have hBV : BookV no dn gn gg dg := ⟨hOV.1, hOV.2, hdn4, hdg⟩
  have hnt := (hUV t ht).1
  refine lv_iload_n hx hb dX7_average_0 rfl (lv_at hl 1 rfl) ?_
  refine pw_cv w (pw_runS (As := [.int (zI (t : Int))]) (rest := []) w ⟨hx, hb, hml, hown, hts⟩ (c_X7_checkTune l D G ad N c (z := (t : Int)) ⟨by omega, by omega⟩ (by omega)) (va_cwS 1 hts gX7_average_X7_checkTune rfl rfl rfl (by decide +kernel) ⟨Nat.le_of_ble_eq_true rfl, Nat.le_of_ble_eq_true rfl⟩) rfl hl.1 rfl (lv_room (Nat.le_of_ble_eq_true rfl)) dX7_average_1 ⟨Nat.le_of_ble_eq_true rfl, Nat.le_of_ble_eq_true rfl⟩) (fun u H locs hp w => ?_)
  have hu := hp
  have w : PW D G A s ad N c H locs := by rw [hu] at w; exact w
  clear hu
  refine lv_aload_n hx hb dX7_average_4 rfl (lv_at hl 0 rfl) ?_
  refine lv_iload_n hx hb dX7_average_5 rfl (lv_at hl 1 rfl) ?_
  refine pw_ci w (pw_runV (r := 0) (ci := 7) (As := [.int (zI (t : Int))]) (rest := []) w ⟨hx, hb, hml, hown, hts⟩ (c_X7_solve l D G ad N c hN hD hV ht hlt) (cwV 1 hts gX7_average_X7_solve rfl rfl rfl (by decide +kernel) ⟨Nat.le_of_ble_eq_true rfl, Nat.le_of_ble_eq_true rfl⟩) (by omega) h0 rfl rfl hl.1 rfl (lv_room (Nat.le_of_ble_eq_true rfl)) dX7_average_6 ⟨Nat.le_of_ble_eq_true rfl, Nat.le_of_ble_eq_true rfl⟩) (fun r_ c1 H locs hp w => ?_)
  have w : PW D G A s ad N c1 H locs := w
  obtain ⟨hv1, hD1, hRw1, hW, fr1⟩ := hp
  subst hv1
  have hf1 : ∀ q, (120 ≤ q ∧ q < 120) → c1 q = c q := fun q hq => (fr1 q hq).trans ((fun _ _ => rfl) q hq)
  obtain ⟨h0, hF, hB, hU, hTR, hTC, ⟨mz, lc, od, bt, hSS⟩, hJ⟩ := id hD1
  obtain ⟨⟨ft, h15, hft⟩, hUo⟩ := id hU
  have hls := less_bd (Rr_bd (w := (cwT lim no gn gg nn pt ln wi t)) (fun i j _ => cwT_bd hOV hUV t i j) (nn t - 1) 0)
  refine lv_istore_n (lv' := [(2, .int (zI (lessOf (Rr (cwT lim no gn gg nn pt ln wi t) (nn t - 1) 0)))), (0, .ref (ad 0)), (1, .int (zI (t : Int)))]) hx hb dX7_average_9 rfl hl (by decide) rfl (fun ls hl => ?_)
  refine lv_aload_n hx hb dX7_average_10 rfl (lv_at hl 1 rfl) ?_
  refine pw_get (r := 0) (ci := 7) (C := RX7) (T := TX7) (Nf := 5) hx hb w hts hin_X7_average_7 hown (by omega) h0 rfl 2 (by decide) (hts _ fl_X7_average_25) (fun _ h9 => h9) rfl dX7_average_11 ?_
  refine lv_iload_n hx hb dX7_average_14 rfl (lv_at hl 2 rfl) ?_
  refine pw_aaldR (r := 15) (j := t) hx hb w (by omega) h15 rfl rfl (by omega) (by omega) (by decide) (16 + 14 * t) (hft t (by omega)) dX7_average_15 ?_
  refine pw_ci w (pw_runV (r := (16 + 14 * t)) (ci := 5) (As := []) (rest := []) w ⟨hx, hb, hml, hown, hts⟩ (c_X5_gaps l D G ad N c1 (T := 16 + 14 * t) (n := nn t) ⟨by omega, by omega⟩ (by omega) (hUo t ht) (hUV t ht)) (cwV 0 hts gX7_average_X5_gaps rfl rfl rfl (by decide +kernel) ⟨Nat.le_of_ble_eq_true rfl, Nat.le_of_ble_eq_true rfl⟩) (by omega) (hUo t (by omega)).1 rfl rfl hl.1 rfl (lv_room (Nat.le_of_ble_eq_true rfl)) dX7_average_16 ⟨Nat.le_of_ble_eq_true rfl, Nat.le_of_ble_eq_true rfl⟩) (fun r_ u H locs hp w => ?_)
  obtain ⟨hv, hu⟩ := hp
  subst hv
  have w : PW D G A s ad N c1 H locs := by rw [hu] at w; exact w
  clear hu
  refine lv_istore_n (lv' := [(3, .int (zI ((nn t - 1 : Nat) : Int))), (2, .int (zI (lessOf (Rr (cwT lim no gn gg nn pt ln wi t) (nn t - 1) 0)))), (0, .ref (ad 0)), (1, .int (zI (t : Int)))]) hx hb dX7_average_19 rfl hl (by decide) rfl (fun ls hl => ?_)
  refine lv_iload_n hx hb dX7_average_20 rfl (lv_at hl 0 rfl) ?_
  refine pz_ifne (tgt := 28) hx hb dX7_average_21 (by decide) (⟨by omega, by omega⟩) (fun hg0 => ?_) (fun hg0 => ?_)
  · refine lv_iload_n hx hb dX7_average_28 rfl (lv_at hl 1 rfl) ?_
    refine lv_i2f hx hb dX7_average_29 ?_
    refine lv_iload_n hx hb dX7_average_30 rfl (lv_at hl 0 rfl) ?_
    refine pz_top (b := ((nn t : Int) - 1)) (by omega) ?_
    refine lv_i2f hx hb dX7_average_31 ?_
    refine lv_fdiv hx hb dX7_average_32 (hav (by omega)) ?_
    exact fin (ad, N, c1) c1 _ _ _ _ _ _ _ rfl ⟨by rw [if_neg (by omega)], hD1, hf1⟩ w dX7_average_33 (Nat.le_refl _) (Nat.le_refl _)
  · refine lv_fconst0 hx hb dX7_average_24 ?_
    refine lv_goto (tgt := 33) hx hb dX7_average_25 (by decide) ?_
    exact fin (ad, N, c1) c1 _ _ _ _ _ _ _ rfl ⟨by rw [if_pos (by omega)], hD1, hf1⟩ w dX7_average_33 (Nat.le_refl _) (Nat.le_refl _)

abbrev rx_X7_average : Room := { frames := 8, cells := 1, slots := 6, locals := 240 }
set_option maxHeartbeats 4000000 in
set_option maxRecDepth 100000 in
theorem x_X7_average1 (l : Launch) (hsT : l.stackTraces = false) (D : va_G) (G : Nat → ClassId) (ad : Nat → Nat) (N : Nat) (c : Nat → va_E) {lim : Int} {no dn : Nat} {gn : Nat → Nat} {gg : Nat → Nat → Nat} {dg nn : Nat → Nat} {pt ln : Nat → Nat → Nat} {wi : Nat → Nat → Int} (hN : 120 + 2 * no ≤ N) (hD : DK G ad c lim no dn gn gg dg nn pt ln wi) (hV : SV lim no dn gn gg dg nn pt ln wi) {zt : Int} (hbzt : bnd zt) (hbad : ¬ (0 ≤ zt ∧ zt ≤ 3)) : MX l yX7_average wsX7_average rx_X7_average [.ref (ad 0), .int (zI zt)] D G ad N c xIA (fx ad N) (fun c1 => DK G ad c1 lim no dn gn gg dg nn pt ln wi ∧ ∀ q, (120 ≤ q ∧ q < 120) → c1 q = c q) 1 6 := by
  refine MX.of (cc := cX7_average) (maxL := 4) (ret := (some .float)) (by decide) rfl (Nat.le_of_ble_eq_true rfl) ?_
  intro p e s m below meth kc A hx hb hr hts hown hml hlk hno w ls hl
  have hown : s.vm.findClass RX7 = some m.cls := hown
  have hl : lv_has ls 4 [(0, .ref (ad 0)), (1, .int (zI zt))] := hl
  obtain ⟨h0, hF, hB, hU, hTR, hTC, ⟨mz, lc, od, bt, hSS⟩, hJ⟩ := id hD
  obtain ⟨⟨ft, h15, hft⟩, hUo⟩ := id hU
  obtain ⟨hlim, hOV, hdn4, hdg, hUV⟩ := id hV
  have hlb : bnd lim := ⟨by omega, by omega⟩
  have hno8 := hOV.1
  have hBV : BookV no dn gn gg dg := ⟨hOV.1, hOV.2, hdn4, hdg⟩
  have hbzt1 := hbzt.1
  have hbzt2 := hbzt.2
  refine lv_iload_n hx hb dX7_average_0 rfl (lv_at hl 1 rfl) ?_
  exact pw_cx w (pw_runSX (As := [.int (zI zt)]) (rest := []) w ⟨hx, hb, hml, hown, hts⟩ (x_X7_checkTune l hsT D G ad N c (z := zt) ⟨by omega, by omega⟩ (by omega)) (va_cwS 1 hts gX7_average_X7_checkTune rfl rfl rfl (by decide +kernel) ⟨Nat.le_of_ble_eq_true rfl, Nat.le_of_ble_eq_true rfl⟩) rfl hl.1 rfl (lv_room (Nat.le_of_ble_eq_true rfl)) dX7_average_1 ⟨Nat.le_of_ble_eq_true rfl, Nat.le_of_ble_eq_true rfl⟩) (fun u ce q9 H locs hp w hce hcv hcl => pw_out hno hlk w u rfl ⟨by rw [show u = c from hp]; exact hD, fun q hq => by rw [show u = c from hp]⟩ hce hcv hcl (Nat.le_of_ble_eq_true rfl) (Nat.le_of_ble_eq_true rfl))

set_option maxHeartbeats 4000000 in
set_option maxRecDepth 100000 in
theorem x_X7_average2 (l : Launch) (hsT : l.stackTraces = false) (D : va_G) (G : Nat → ClassId) (ad : Nat → Nat) (N : Nat) (c : Nat → va_E) {lim : Int} {no dn : Nat} {gn : Nat → Nat} {gg : Nat → Nat → Nat} {dg nn : Nat → Nat} {pt ln : Nat → Nat → Nat} {wi : Nat → Nat → Int} (hN : 120 + 2 * no ≤ N) (hD : DK G ad c lim no dn gn gg dg nn pt ln wi) (hV : SV lim no dn gn gg dg nn pt ln wi) {t : Nat} (ht : t < 4) (hlt : ¬ (lessOf (Rr (cwT lim no gn gg nn pt ln wi t) (nn t - 1) 0)) < 1000000) : MX l yX7_average wsX7_average rx_X7_average [.ref (ad 0), .int (zI (t : Int))] D G ad N c xIS (fx ad N) (fun c1 => DK G ad c1 lim no dn gn gg dg nn pt ln wi ∧ ∀ q, (120 ≤ q ∧ q < 120) → c1 q = c q) 1 6 := by
  refine MX.of (cc := cX7_average) (maxL := 4) (ret := (some .float)) (by decide) rfl (Nat.le_of_ble_eq_true rfl) ?_
  intro p e s m below meth kc A hx hb hr hts hown hml hlk hno w ls hl
  have hown : s.vm.findClass RX7 = some m.cls := hown
  have hl : lv_has ls 4 [(0, .ref (ad 0)), (1, .int (zI (t : Int)))] := hl
  obtain ⟨h0, hF, hB, hU, hTR, hTC, ⟨mz, lc, od, bt, hSS⟩, hJ⟩ := id hD
  obtain ⟨⟨ft, h15, hft⟩, hUo⟩ := id hU
  obtain ⟨hlim, hOV, hdn4, hdg, hUV⟩ := id hV
  have hlb : bnd lim := ⟨by omega, by omega⟩
  have hno8 := hOV.1
  have hBV : BookV no dn gn gg dg := ⟨hOV.1, hOV.2, hdn4, hdg⟩
  have hnt := (hUV t ht).1
  refine lv_iload_n hx hb dX7_average_0 rfl (lv_at hl 1 rfl) ?_
  refine pw_cv w (pw_runS (As := [.int (zI (t : Int))]) (rest := []) w ⟨hx, hb, hml, hown, hts⟩ (c_X7_checkTune l D G ad N c (z := (t : Int)) ⟨by omega, by omega⟩ (by omega)) (va_cwS 1 hts gX7_average_X7_checkTune rfl rfl rfl (by decide +kernel) ⟨Nat.le_of_ble_eq_true rfl, Nat.le_of_ble_eq_true rfl⟩) rfl hl.1 rfl (lv_room (Nat.le_of_ble_eq_true rfl)) dX7_average_1 ⟨Nat.le_of_ble_eq_true rfl, Nat.le_of_ble_eq_true rfl⟩) (fun u H locs hp w => ?_)
  have hu := hp
  have w : PW D G A s ad N c H locs := by rw [hu] at w; exact w
  clear hu
  refine lv_aload_n hx hb dX7_average_4 rfl (lv_at hl 0 rfl) ?_
  refine lv_iload_n hx hb dX7_average_5 rfl (lv_at hl 1 rfl) ?_
  exact pw_cx w (pw_runVX (r := 0) (ci := 7) (As := [.int (zI (t : Int))]) (rest := []) w ⟨hx, hb, hml, hown, hts⟩ (x_X7_solve l hsT D G ad N c hN hD hV ht hlt) (cwV 1 hts gX7_average_X7_solve rfl rfl rfl (by decide +kernel) ⟨Nat.le_of_ble_eq_true rfl, Nat.le_of_ble_eq_true rfl⟩) (by omega) h0 rfl rfl hl.1 rfl (lv_room (Nat.le_of_ble_eq_true rfl)) dX7_average_6 ⟨Nat.le_of_ble_eq_true rfl, Nat.le_of_ble_eq_true rfl⟩) (fun u ce q9 H locs hp w hce hcv hcl => pw_out hno hlk w u rfl hp hce hcv hcl (Nat.le_of_ble_eq_true rfl) (Nat.le_of_ble_eq_true rfl))

theorem hin_X7_time_7 : ∀ w ∈ u_ws RX7 TX7 5, w ∈ wsX7_time := by decide +kernel
theorem fl_X7_time_25 : Cond.fieldLink RX7 25 "PipersDesk" "tunes" "[LPipersDesk$Tune;" ∈ wsX7_time := by decide +kernel
abbrev rm_X7_time : Room := { frames := 8, cells := 0, slots := 0, locals := 240 }
set_option maxHeartbeats 4000000 in
set_option maxRecDepth 100000 in
theorem c_X7_time_last (l : Launch) (D : va_G) (G : Nat → ClassId) (ad : Nat → Nat) (N : Nat) (c : Nat → va_E) {lim : Int} {no dn : Nat} {gn : Nat → Nat} {gg : Nat → Nat → Nat} {dg nn : Nat → Nat} {pt ln : Nat → Nat → Nat} {wi : Nat → Nat → Int} (hN : 120 + 2 * no ≤ N) (hD : DK G ad c lim no dn gn gg dg nn pt ln wi) (hV : SV lim no dn gn gg dg nn pt ln wi) {t i : Nat} (ht : t < 4) (hi : i < nn t) (hi2 : i + 1 = nn t) (hlt : (lessOf (Rr (cwT lim no gn gg nn pt ln wi t) (nn t - 1) 0)) < 1000000) : MC l yX7_time wsX7_time rm_X7_time [.ref (ad 0), .int (zI (t : Int)), .int (zI (i : Int))] D G ad N c (qI D G (fx ad N) (fun v c1 => v = zI (ln t i : Int) ∧ DK G ad c1 lim no dn gn gg dg nn pt ln wi ∧ ∀ q, (120 ≤ q ∧ q < 120) → c1 q = c q)) 0 0 := by
  refine MCi.of (cc := cX7_time) (maxL := 4) (by decide) rfl (Nat.le_of_ble_eq_true rfl) ?_
  intro p e s m args below meth kc A Q hx hb hts hown hml fin H locs w ls hl
  have hown : s.vm.findClass RX7 = some m.cls := hown
  have hl : lv_has ls 4 [(0, .ref (ad 0)), (1, .int (zI (t : Int))), (2, .int (zI (i : Int)))] := hl
  obtain ⟨h0, hF, hB, hU, hTR, hTC, ⟨mz, lc, od, bt, hSS⟩, hJ⟩ := id hD
  obtain ⟨⟨ft, h15, hft⟩, hUo⟩ := id hU
  obtain ⟨hlim, hOV, hdn4, hdg, hUV⟩ := id hV
  have hlb : bnd lim := ⟨by omega, by omega⟩
  have hno8 := hOV.1
  have hBV : BookV no dn gn gg dg := ⟨hOV.1, hOV.2, hdn4, hdg⟩
  have hnt := (hUV t ht).1
  refine lv_iload_n hx hb dX7_time_0 rfl (lv_at hl 1 rfl) ?_
  refine pw_cv w (pw_runS (As := [.int (zI (t : Int))]) (rest := []) w ⟨hx, hb, hml, hown, hts⟩ (c_X7_checkTune l D G ad N c (z := (t : Int)) ⟨by omega, by omega⟩ (by omega)) (va_cwS 1 hts gX7_time_X7_checkTune rfl rfl rfl (by decide +kernel) ⟨Nat.le_of_ble_eq_true rfl, Nat.le_of_ble_eq_true rfl⟩) rfl hl.1 rfl (lv_room (Nat.le_of_ble_eq_true rfl)) dX7_time_1 ⟨Nat.le_of_ble_eq_true rfl, Nat.le_of_ble_eq_true rfl⟩) (fun u H locs hp w => ?_)
  have hu := hp
  have w : PW D G A s ad N c H locs := by rw [hu] at w; exact w
  clear hu
  refine lv_iload_n hx hb dX7_time_4 rfl (lv_at hl 2 rfl) ?_
  refine pz_iflt (tgt := 21) hx hb dX7_time_5 (by decide) (⟨by omega, by omega⟩) (fun h1 => ?_) (fun h1 => ?_)
  · omega
  · refine lv_iload_n hx hb dX7_time_8 rfl (lv_at hl 2 rfl) ?_
    refine lv_aload_n hx hb dX7_time_9 rfl (lv_at hl 0 rfl) ?_
    refine pw_get (r := 0) (ci := 7) (C := RX7) (T := TX7) (Nf := 5) hx hb w hts hin_X7_time_7 hown (by omega) h0 rfl 2 (by decide) (hts _ fl_X7_time_25) (fun _ h9 => h9) rfl dX7_time_10 ?_
    refine lv_iload_n hx hb dX7_time_13 rfl (lv_at hl 1 rfl) ?_
    refine pw_aaldR (r := 15) (j := t) hx hb w (by omega) h15 rfl rfl (by omega) (by omega) (by decide) (16 + 14 * t) (hft t (by omega)) dX7_time_14 ?_
    refine pw_ci w (pw_runV (r := (16 + 14 * t)) (ci := 5) (As := []) (rest := [.int (zI (i : Int))]) w ⟨hx, hb, hml, hown, hts⟩ (c_X5_size l D G ad N c (T := 16 + 14 * t) (n := nn t) ⟨by omega, by omega⟩ (by omega) (hUo t ht) (hUV t ht)) (cwV 0 hts gX7_time_X5_size rfl rfl rfl (by decide +kernel) ⟨Nat.le_of_ble_eq_true rfl, Nat.le_of_ble_eq_true rfl⟩) (by omega) (hUo t (by omega)).1 rfl rfl hl.1 rfl (lv_room (Nat.le_of_ble_eq_true rfl)) dX7_time_15 ⟨Nat.le_of_ble_eq_true rfl, Nat.le_of_ble_eq_true rfl⟩) (fun r_ u H locs hp w => ?_)
    obtain ⟨hv, hu⟩ := hp
    subst hv
    have w : PW D G A s ad N c H locs := by rw [hu] at w; exact w
    clear hu
    refine pz_icmplt (tgt := 31) hx hb dX7_time_18 (by decide) (⟨by omega, by omega⟩) (⟨by omega, by omega⟩) (fun h2 => ?_) (fun h2 => ?_)
    · refine lv_aload_n hx hb dX7_time_31 rfl (lv_at hl 0 rfl) ?_
      refine lv_iload_n hx hb dX7_time_32 rfl (lv_at hl 1 rfl) ?_
      refine pw_ci w (pw_runV (r := 0) (ci := 7) (As := [.int (zI (t : Int))]) (rest := []) w ⟨hx, hb, hml, hown, hts⟩ (c_X7_solve l D G ad N c hN hD hV ht hlt) (cwV 1 hts gX7_time_X7_solve rfl rfl rfl (by decide +kernel) ⟨Nat.le_of_ble_eq_true rfl, Nat.le_of_ble_eq_true rfl⟩) (by omega) h0 rfl rfl hl.1 rfl (lv_room (Nat.le_of_ble_eq_true rfl)) dX7_time_33 ⟨Nat.le_of_ble_eq_true rfl, Nat.le_of_ble_eq_true rfl⟩) (fun r_ c3 H locs hp w => ?_)
      have w : PW D G A s ad N c3 H locs := w
      obtain ⟨hv3, hD3, hRw3, hW, fr3⟩ := hp
      subst hv3
      have hf3 : ∀ q, (120 ≤ q ∧ q < 120) → c3 q = c q := fun q hq => (fr3 q hq).trans ((fun _ _ => rfl) q hq)
      obtain ⟨h0, hF, hB, hU, hTR, hTC, ⟨mz, lc, od, bt, hSS⟩, hJ⟩ := id hD3
      obtain ⟨⟨ft, h15, hft⟩, hUo⟩ := id hU
      have hls := less_bd (Rr_bd (w := (cwT lim no gn gg nn pt ln wi t)) (fun i j _ => cwT_bd hOV hUV t i j) (nn t - 1) 0)
      refine lv_pop hx hb dX7_time_36 rfl ?_
      refine lv_aload_n hx hb dX7_time_37 rfl (lv_at hl 0 rfl) ?_
      refine pw_get (r := 0) (ci := 7) (C := RX7) (T := TX7) (Nf := 5) hx hb w hts hin_X7_time_7 hown (by omega) h0 rfl 2 (by decide) (hts _ fl_X7_time_25) (fun _ h9 => h9) rfl dX7_time_38 ?_
      refine lv_iload_n hx hb dX7_time_41 rfl (lv_at hl 1 rfl) ?_
      refine pw_aaldR (r := 15) (j := t) hx hb w (by omega) h15 rfl rfl (by omega) (by omega) (by decide) (16 + 14 * t) (hft t (by omega)) dX7_time_42 ?_
      refine lv_iload_n hx hb dX7_time_43 rfl (lv_at hl 2 rfl) ?_
      refine pw_ci w (pw_runV (r := (16 + 14 * t)) (ci := 5) (As := [.int (zI (i : Int))]) (rest := []) w ⟨hx, hb, hml, hown, hts⟩ (c_X5_lengthOf l D G ad N c3 (T := 16 + 14 * t) (n := nn t) ⟨by omega, by omega⟩ (by omega) (hUo t ht) (hUV t ht) hi) (cwV 1 hts gX7_time_X5_lengthOf rfl rfl rfl (by decide +kernel) ⟨Nat.le_of_ble_eq_true rfl, Nat.le_of_ble_eq_true rfl⟩) (by omega) (hUo t (by omega)).1 rfl rfl hl.1 rfl (lv_room (Nat.le_of_ble_eq_true rfl)) dX7_time_44 ⟨Nat.le_of_ble_eq_true rfl, Nat.le_of_ble_eq_true rfl⟩) (fun r_ u H locs hp w => ?_)
      obtain ⟨hv, hu⟩ := hp
      subst hv
      have w : PW D G A s ad N c3 H locs := by rw [hu] at w; exact w
      clear hu
      refine lv_istore_n (lv' := [(3, .int (zI (ln t i : Int))), (0, .ref (ad 0)), (1, .int (zI (t : Int))), (2, .int (zI (i : Int)))]) hx hb dX7_time_47 rfl hl (by decide) rfl (fun ls hl => ?_)
      refine lv_iload_n hx hb dX7_time_48 rfl (lv_at hl 3 rfl) ?_
      refine lv_aload_n hx hb dX7_time_49 rfl (lv_at hl 1 rfl) ?_
      refine pw_get (r := 0) (ci := 7) (C := RX7) (T := TX7) (Nf := 5) hx hb w hts hin_X7_time_7 hown (by omega) h0 rfl 2 (by decide) (hts _ fl_X7_time_25) (fun _ h9 => h9) rfl dX7_time_50 ?_
      refine lv_iload_n hx hb dX7_time_53 rfl (lv_at hl 2 rfl) ?_
      refine pw_aaldR (r := 15) (j := t) hx hb w (by omega) h15 rfl rfl (by omega) (by omega) (by decide) (16 + 14 * t) (hft t (by omega)) dX7_time_54 ?_
      refine pw_ci w (pw_runV (r := (16 + 14 * t)) (ci := 5) (As := []) (rest := [.int (zI (i : Int))]) w ⟨hx, hb, hml, hown, hts⟩ (c_X5_gaps l D G ad N c3 (T := 16 + 14 * t) (n := nn t) ⟨by omega, by omega⟩ (by omega) (hUo t ht) (hUV t ht)) (cwV 0 hts gX7_time_X5_gaps rfl rfl rfl (by decide +kernel) ⟨Nat.le_of_ble_eq_true rfl, Nat.le_of_ble_eq_true rfl⟩) (by omega) (hUo t (by omega)).1 rfl rfl hl.1 rfl (lv_room (Nat.le_of_ble_eq_true rfl)) dX7_time_55 ⟨Nat.le_of_ble_eq_true rfl, Nat.le_of_ble_eq_true rfl⟩) (fun r_ u H locs hp w => ?_)
      obtain ⟨hv, hu⟩ := hp
      subst hv
      have w : PW D G A s ad N c3 H locs := by rw [hu] at w; exact w
      clear hu
      refine pz_icmpge (tgt := 81) hx hb dX7_time_58 (by decide) (⟨by omega, by omega⟩) (⟨by omega, by omega⟩) (fun h4 => ?_) (fun h4 => ?_)
      · refine lv_iload_n hx hb dX7_time_81 rfl (lv_at hl 0 rfl) ?_
        exact fin (ad, N, c3) c3 _ _ _ _ _ _ _ rfl ⟨rfl, hD3, hf3⟩ w dX7_time_82 (Nat.le_refl _) (Nat.le_refl _)
      · omega
    · omega

theorem fl_X7_time_19 : Cond.fieldLink RX7 19 "PipersDesk" "book" "LPipersDesk$OrnamentBook;" ∈ wsX7_time := by decide +kernel
theorem fl_X7_time_33 : Cond.fieldLink RX7 33 "PipersDesk" "tuneChoices" "LPipersDesk$TuneChoices;" ∈ wsX7_time := by decide +kernel
set_option maxHeartbeats 4000000 in
set_option maxRecDepth 100000 in
theorem c_X7_time (l : Launch) (D : va_G) (G : Nat → ClassId) (ad : Nat → Nat) (N : Nat) (c : Nat → va_E) {lim : Int} {no dn : Nat} {gn : Nat → Nat} {gg : Nat → Nat → Nat} {dg nn : Nat → Nat} {pt ln : Nat → Nat → Nat} {wi : Nat → Nat → Int} (hN : 120 + 2 * no ≤ N) (hD : DK G ad c lim no dn gn gg dg nn pt ln wi) (hV : SV lim no dn gn gg dg nn pt ln wi) {t i : Nat} (ht : t < 4) (hi : i < nn t) (hi2 : i + 1 < nn t) (hlt : (lessOf (Rr (cwT lim no gn gg nn pt ln wi t) (nn t - 1) 0)) < 1000000) : MC l yX7_time wsX7_time rm_X7_time [.ref (ad 0), .int (zI (t : Int)), .int (zI (i : Int))] D G ad N c (qI D G (fx ad N) (fun v c1 => v = zI ((ln t i : Int) - (graN no gn (optN (fun i => Rr (cwT lim no gn gg nn pt ln wi t) (nn t - 1 - i) i) (i + 1)) : Int)) ∧ DK G ad c1 lim no dn gn gg dg nn pt ln wi ∧ ∀ q, (120 ≤ q ∧ q < 120) → c1 q = c q)) 0 0 := by
  refine MCi.of (cc := cX7_time) (maxL := 4) (by decide) rfl (Nat.le_of_ble_eq_true rfl) ?_
  intro p e s m args below meth kc A Q hx hb hts hown hml fin H locs w ls hl
  have hown : s.vm.findClass RX7 = some m.cls := hown
  have hl : lv_has ls 4 [(0, .ref (ad 0)), (1, .int (zI (t : Int))), (2, .int (zI (i : Int)))] := hl
  obtain ⟨h0, hF, hB, hU, hTR, hTC, ⟨mz, lc, od, bt, hSS⟩, hJ⟩ := id hD
  obtain ⟨⟨ft, h15, hft⟩, hUo⟩ := id hU
  obtain ⟨hlim, hOV, hdn4, hdg, hUV⟩ := id hV
  have hlb : bnd lim := ⟨by omega, by omega⟩
  have hno8 := hOV.1
  have hBV : BookV no dn gn gg dg := ⟨hOV.1, hOV.2, hdn4, hdg⟩
  have hnt := (hUV t ht).1
  refine lv_iload_n hx hb dX7_time_0 rfl (lv_at hl 1 rfl) ?_
  refine pw_cv w (pw_runS (As := [.int (zI (t : Int))]) (rest := []) w ⟨hx, hb, hml, hown, hts⟩ (c_X7_checkTune l D G ad N c (z := (t : Int)) ⟨by omega, by omega⟩ (by omega)) (va_cwS 1 hts gX7_time_X7_checkTune rfl rfl rfl (by decide +kernel) ⟨Nat.le_of_ble_eq_true rfl, Nat.le_of_ble_eq_true rfl⟩) rfl hl.1 rfl (lv_room (Nat.le_of_ble_eq_true rfl)) dX7_time_1 ⟨Nat.le_of_ble_eq_true rfl, Nat.le_of_ble_eq_true rfl⟩) (fun u H locs hp w => ?_)
  have hu := hp
  have w : PW D G A s ad N c H locs := by rw [hu] at w; exact w
  clear hu
  refine lv_iload_n hx hb dX7_time_4 rfl (lv_at hl 2 rfl) ?_
  refine pz_iflt (tgt := 21) hx hb dX7_time_5 (by decide) (⟨by omega, by omega⟩) (fun h1 => ?_) (fun h1 => ?_)
  · omega
  · refine lv_iload_n hx hb dX7_time_8 rfl (lv_at hl 2 rfl) ?_
    refine lv_aload_n hx hb dX7_time_9 rfl (lv_at hl 0 rfl) ?_
    refine pw_get (r := 0) (ci := 7) (C := RX7) (T := TX7) (Nf := 5) hx hb w hts hin_X7_time_7 hown (by omega) h0 rfl 2 (by decide) (hts _ fl_X7_time_25) (fun _ h9 => h9) rfl dX7_time_10 ?_
    refine lv_iload_n hx hb dX7_time_13 rfl (lv_at hl 1 rfl) ?_
    refine pw_aaldR (r := 15) (j := t) hx hb w (by omega) h15 rfl rfl (by omega) (by omega) (by decide) (16 + 14 * t) (hft t (by omega)) dX7_time_14 ?_
    refine pw_ci w (pw_runV (r := (16 + 14 * t)) (ci := 5) (As := []) (rest := [.int (zI (i : Int))]) w ⟨hx, hb, hml, hown, hts⟩ (c_X5_size l D G ad N c (T := 16 + 14 * t) (n := nn t) ⟨by omega, by omega⟩ (by omega) (hUo t ht) (hUV t ht)) (cwV 0 hts gX7_time_X5_size rfl rfl rfl (by decide +kernel) ⟨Nat.le_of_ble_eq_true rfl, Nat.le_of_ble_eq_true rfl⟩) (by omega) (hUo t (by omega)).1 rfl rfl hl.1 rfl (lv_room (Nat.le_of_ble_eq_true rfl)) dX7_time_15 ⟨Nat.le_of_ble_eq_true rfl, Nat.le_of_ble_eq_true rfl⟩) (fun r_ u H locs hp w => ?_)
    obtain ⟨hv, hu⟩ := hp
    subst hv
    have w : PW D G A s ad N c H locs := by rw [hu] at w; exact w
    clear hu
    refine pz_icmplt (tgt := 31) hx hb dX7_time_18 (by decide) (⟨by omega, by omega⟩) (⟨by omega, by omega⟩) (fun h2 => ?_) (fun h2 => ?_)
    · refine lv_aload_n hx hb dX7_time_31 rfl (lv_at hl 0 rfl) ?_
      refine lv_iload_n hx hb dX7_time_32 rfl (lv_at hl 1 rfl) ?_
      refine pw_ci w (pw_runV (r := 0) (ci := 7) (As := [.int (zI (t : Int))]) (rest := []) w ⟨hx, hb, hml, hown, hts⟩ (c_X7_solve l D G ad N c hN hD hV ht hlt) (cwV 1 hts gX7_time_X7_solve rfl rfl rfl (by decide +kernel) ⟨Nat.le_of_ble_eq_true rfl, Nat.le_of_ble_eq_true rfl⟩) (by omega) h0 rfl rfl hl.1 rfl (lv_room (Nat.le_of_ble_eq_true rfl)) dX7_time_33 ⟨Nat.le_of_ble_eq_true rfl, Nat.le_of_ble_eq_true rfl⟩) (fun r_ c3 H locs hp w => ?_)
      have w : PW D G A s ad N c3 H locs := w
      obtain ⟨hv3, hD3, hRw3, hW, fr3⟩ := hp
      subst hv3
      have hf3 : ∀ q, (120 ≤ q ∧ q < 120) → c3 q = c q := fun q hq => (fr3 q hq).trans ((fun _ _ => rfl) q hq)
      obtain ⟨h0, hF, hB, hU, hTR, hTC, ⟨mz, lc, od, bt, hSS⟩, hJ⟩ := id hD3
      obtain ⟨⟨ft, h15, hft⟩, hUo⟩ := id hU
      have hls := less_bd (Rr_bd (w := (cwT lim no gn gg nn pt ln wi t)) (fun i j _ => cwT_bd hOV hUV t i j) (nn t - 1) 0)
      refine lv_pop hx hb dX7_time_36 rfl ?_
      refine lv_aload_n hx hb dX7_time_37 rfl (lv_at hl 0 rfl) ?_
      refine pw_get (r := 0) (ci := 7) (C := RX7) (T := TX7) (Nf := 5) hx hb w hts hin_X7_time_7 hown (by omega) h0 rfl 2 (by decide) (hts _ fl_X7_time_25) (fun _ h9 => h9) rfl dX7_time_38 ?_
      refine lv_iload_n hx hb dX7_time_41 rfl (lv_at hl 1 rfl) ?_
      refine pw_aaldR (r := 15) (j := t) hx hb w (by omega) h15 rfl rfl (by omega) (by omega) (by decide) (16 + 14 * t) (hft t (by omega)) dX7_time_42 ?_
      refine lv_iload_n hx hb dX7_time_43 rfl (lv_at hl 2 rfl) ?_
      refine pw_ci w (pw_runV (r := (16 + 14 * t)) (ci := 5) (As := [.int (zI (i : Int))]) (rest := []) w ⟨hx, hb, hml, hown, hts⟩ (c_X5_lengthOf l D G ad N c3 (T := 16 + 14 * t) (n := nn t) ⟨by omega, by omega⟩ (by omega) (hUo t ht) (hUV t ht) hi) (cwV 1 hts gX7_time_X5_lengthOf rfl rfl rfl (by decide +kernel) ⟨Nat.le_of_ble_eq_true rfl, Nat.le_of_ble_eq_true rfl⟩) (by omega) (hUo t (by omega)).1 rfl rfl hl.1 rfl (lv_room (Nat.le_of_ble_eq_true rfl)) dX7_time_44 ⟨Nat.le_of_ble_eq_true rfl, Nat.le_of_ble_eq_true rfl⟩) (fun r_ u H locs hp w => ?_)
      obtain ⟨hv, hu⟩ := hp
      subst hv
      have w : PW D G A s ad N c3 H locs := by rw [hu] at w; exact w
      clear hu
      refine lv_istore_n (lv' := [(3, .int (zI (ln t i : Int))), (0, .ref (ad 0)), (1, .int (zI (t : Int))), (2, .int (zI (i : Int)))]) hx hb dX7_time_47 rfl hl (by decide) rfl (fun ls hl => ?_)
      refine lv_iload_n hx hb dX7_time_48 rfl (lv_at hl 3 rfl) ?_
      refine lv_aload_n hx hb dX7_time_49 rfl (lv_at hl 1 rfl) ?_
      refine pw_get (r := 0) (ci := 7) (C := RX7) (T := TX7) (Nf := 5) hx hb w hts hin_X7_time_7 hown (by omega) h0 rfl 2 (by decide) (hts _ fl_X7_time_25) (fun _ h9 => h9) rfl dX7_time_50 ?_
      refine lv_iload_n hx hb dX7_time_53 rfl (lv_at hl 2 rfl) ?_
      refine pw_aaldR (r := 15) (j := t) hx hb w (by omega) h15 rfl rfl (by omega) (by omega) (by decide) (16 + 14 * t) (hft t (by omega)) dX7_time_54 ?_
      refine pw_ci w (pw_runV (r := (16 + 14 * t)) (ci := 5) (As := []) (rest := [.int (zI (i : Int))]) w ⟨hx, hb, hml, hown, hts⟩ (c_X5_gaps l D G ad N c3 (T := 16 + 14 * t) (n := nn t) ⟨by omega, by omega⟩ (by omega) (hUo t ht) (hUV t ht)) (cwV 0 hts gX7_time_X5_gaps rfl rfl rfl (by decide +kernel) ⟨Nat.le_of_ble_eq_true rfl, Nat.le_of_ble_eq_true rfl⟩) (by omega) (hUo t (by omega)).1 rfl rfl hl.1 rfl (lv_room (Nat.le_of_ble_eq_true rfl)) dX7_time_55 ⟨Nat.le_of_ble_eq_true rfl, Nat.le_of_ble_eq_true rfl⟩) (fun r_ u H locs hp w => ?_)
      obtain ⟨hv, hu⟩ := hp
      subst hv
      have w : PW D G A s ad N c3 H locs := by rw [hu] at w; exact w
      clear hu
      refine pz_icmpge (tgt := 81) hx hb dX7_time_58 (by decide) (⟨by omega, by omega⟩) (⟨by omega, by omega⟩) (fun h4 => ?_) (fun h4 => ?_)
      · omega
      · refine lv_iload_n hx hb dX7_time_61 rfl (lv_at hl 0 rfl) ?_
        refine lv_aload_n hx hb dX7_time_62 rfl (lv_at hl 1 rfl) ?_
        refine pw_get (r := 0) (ci := 7) (C := RX7) (T := TX7) (Nf := 5) hx hb w hts hin_X7_time_7 hown (by omega) h0 rfl 1 (by decide) (hts _ fl_X7_time_19) (fun _ h9 => h9) rfl dX7_time_63 ?_
        refine lv_aload_n hx hb dX7_time_66 rfl (lv_at hl 1 rfl) ?_
        refine pw_get (r := 0) (ci := 7) (C := RX7) (T := TX7) (Nf := 5) hx hb w hts hin_X7_time_7 hown (by omega) h0 rfl 3 (by decide) (hts _ fl_X7_time_33) (fun _ h9 => h9) rfl dX7_time_67 ?_
        refine lv_iload_n hx hb dX7_time_70 rfl (lv_at hl 3 rfl) ?_
        refine pw_ci w (pw_runV (r := 72) (ci := 6) (As := [.int (zI (i : Int))]) (rest := [.ref (ad 12), .int (zI (ln t i : Int))]) w ⟨hx, hb, hml, hown, hts⟩ (c_X6_firstAt l D G ad N c3 (gap := i) (R := fun i => Rr (cwT lim no gn gg nn pt ln wi t) (nn t - 1 - i) i) (by omega) hTC (by omega) (fun j hj => hRw3 j (by omega)) (fun j _ o ho => Rr_bd (w := (cwT lim no gn gg nn pt ln wi t)) (fun i j _ => cwT_bd hOV hUV t i j) (nn t - 1 - j) j o ho)) (cwV 1 hts gX7_time_X6_firstAt rfl rfl rfl (by decide +kernel) ⟨Nat.le_of_ble_eq_true rfl, Nat.le_of_ble_eq_true rfl⟩) (by omega) hTC.1 rfl rfl hl.1 rfl (lv_room (Nat.le_of_ble_eq_true rfl)) dX7_time_71 ⟨Nat.le_of_ble_eq_true rfl, Nat.le_of_ble_eq_true rfl⟩) (fun r_ u H locs hp w => ?_)
        obtain ⟨hv, hu⟩ := hp
        subst hv
        have w : PW D G A s ad N c3 H locs := by rw [hu] at w; exact w
        clear hu
        have hop := optN_lt (fun i => Rr (cwT lim no gn gg nn pt ln wi t) (nn t - 1 - i) i) (i + 1)
        refine pw_ci w (pw_runV (r := 12) (ci := 3) (As := [.int (zI ((optN (fun i => Rr (cwT lim no gn gg nn pt ln wi t) (nn t - 1 - i) i) (i + 1)) : Int))]) (rest := [.int (zI (ln t i : Int))]) w ⟨hx, hb, hml, hown, hts⟩ (c_X3_gracesOf l D G ad N c3 hN hB hBV (o := (optN (fun i => Rr (cwT lim no gn gg nn pt ln wi t) (nn t - 1 - i) i) (i + 1))) hop) (cwV 1 hts gX7_time_X3_gracesOf rfl rfl rfl (by decide +kernel) ⟨Nat.le_of_ble_eq_true rfl, Nat.le_of_ble_eq_true rfl⟩) (by omega) hB.1 rfl rfl hl.1 rfl (lv_room (Nat.le_of_ble_eq_true rfl)) dX7_time_74 ⟨Nat.le_of_ble_eq_true rfl, Nat.le_of_ble_eq_true rfl⟩) (fun r_ u H locs hp w => ?_)
        obtain ⟨hv, hu⟩ := hp
        subst hv
        have w : PW D G A s ad N c3 H locs := by rw [hu] at w; exact w
        clear hu
        refine pz_isub hx hb dX7_time_77 ?_
        refine lv_goto (tgt := 82) hx hb dX7_time_78 (by decide) ?_
        exact fin (ad, N, c3) c3 _ _ _ _ _ _ _ rfl ⟨rfl, hD3, hf3⟩ w dX7_time_82 (Nat.le_refl _) (Nat.le_refl _)
    · omega

abbrev rx_X7_time : Room := { frames := 8, cells := 1, slots := 6, locals := 240 }
set_option maxHeartbeats 4000000 in
set_option maxRecDepth 100000 in
theorem x_X7_time1 (l : Launch) (hsT : l.stackTraces = false) (D : va_G) (G : Nat → ClassId) (ad : Nat → Nat) (N : Nat) (c : Nat → va_E) {lim : Int} {no dn : Nat} {gn : Nat → Nat} {gg : Nat → Nat → Nat} {dg nn : Nat → Nat} {pt ln : Nat → Nat → Nat} {wi : Nat → Nat → Int} (hN : 120 + 2 * no ≤ N) (hD : DK G ad c lim no dn gn gg dg nn pt ln wi) (hV : SV lim no dn gn gg dg nn pt ln wi) {zt : Int} (hbzt : bnd zt) (hbad : ¬ (0 ≤ zt ∧ zt ≤ 3)) {zi : Int} : MX l yX7_time wsX7_time rx_X7_time [.ref (ad 0), .int (zI zt), .int (zI zi)] D G ad N c xIA (fx ad N) (fun c1 => DK G ad c1 lim no dn gn gg dg nn pt ln wi ∧ ∀ q, (120 ≤ q ∧ q < 120) → c1 q = c q) 1 6 := by
  refine MX.of (cc := cX7_time) (maxL := 4) (ret := (some .int)) (by decide) rfl (Nat.le_of_ble_eq_true rfl) ?_
  intro p e s m below meth kc A hx hb hr hts hown hml hlk hno w ls hl
  have hown : s.vm.findClass RX7 = some m.cls := hown
  have hl : lv_has ls 4 [(0, .ref (ad 0)), (1, .int (zI zt)), (2, .int (zI zi))] := hl
  obtain ⟨h0, hF, hB, hU, hTR, hTC, ⟨mz, lc, od, bt, hSS⟩, hJ⟩ := id hD
  obtain ⟨⟨ft, h15, hft⟩, hUo⟩ := id hU
  obtain ⟨hlim, hOV, hdn4, hdg, hUV⟩ := id hV
  have hlb : bnd lim := ⟨by omega, by omega⟩
  have hno8 := hOV.1
  have hBV : BookV no dn gn gg dg := ⟨hOV.1, hOV.2, hdn4, hdg⟩
  have hbzt1 := hbzt.1
  have hbzt2 := hbzt.2
  refine lv_iload_n hx hb dX7_time_0 rfl (lv_at hl 1 rfl) ?_
  exact pw_cx w (pw_runSX (As := [.int (zI zt)]) (rest := []) w ⟨hx, hb, hml, hown, hts⟩ (x_X7_checkTune l hsT D G ad N c (z := zt) ⟨by omega, by omega⟩ (by omega)) (va_cwS 1 hts gX7_time_X7_checkTune rfl rfl rfl (by decide +kernel) ⟨Nat.le_of_ble_eq_true rfl, Nat.le_of_ble_eq_true rfl⟩) rfl hl.1 rfl (lv_room (Nat.le_of_ble_eq_true rfl)) dX7_time_1 ⟨Nat.le_of_ble_eq_true rfl, Nat.le_of_ble_eq_true rfl⟩) (fun u ce q9 H locs hp w hce hcv hcl => pw_out hno hlk w u rfl ⟨by rw [show u = c from hp]; exact hD, fun q hq => by rw [show u = c from hp]⟩ hce hcv hcl (Nat.le_of_ble_eq_true rfl) (Nat.le_of_ble_eq_true rfl))

theorem wd_X7_time_ck96 : Cond.classLink RX7 96 "java/lang/IndexOutOfBoundsException" ∈ wsX7_time := by decide +kernel
theorem wd_X7_time_ini96 : Cond.initialized "java/lang/IndexOutOfBoundsException" ∈ wsX7_time := by decide +kernel
theorem ats_X7_time_IO : ∀ w ∈ (vx_atS RX7 100 "java/lang/IndexOutOfBoundsException" ["java/lang/RuntimeException", "java/lang/Exception"]).filter goodWord, w ∈ wsX7_time := fun w h => List.mem_cons_of_mem _ (List.mem_append_left _ (List.mem_append_left _ (List.mem_append_right _ h)))
set_option maxHeartbeats 4000000 in
set_option maxRecDepth 100000 in
theorem x_X7_time2 (l : Launch) (hsT : l.stackTraces = false) (D : va_G) (G : Nat → ClassId) (ad : Nat → Nat) (N : Nat) (c : Nat → va_E) {lim : Int} {no dn : Nat} {gn : Nat → Nat} {gg : Nat → Nat → Nat} {dg nn : Nat → Nat} {pt ln : Nat → Nat → Nat} {wi : Nat → Nat → Int} (hN : 120 + 2 * no ≤ N) (hD : DK G ad c lim no dn gn gg dg nn pt ln wi) (hV : SV lim no dn gn gg dg nn pt ln wi) {t : Nat} (ht : t < 4) {zi : Int} (hbzi : bnd zi) (hbad : ¬ (0 ≤ zi ∧ zi ≤ (nn t : Int) - 1)) : MX l yX7_time wsX7_time rx_X7_time [.ref (ad 0), .int (zI (t : Int)), .int (zI zi)] D G ad N c xIO (fx ad N) (fun c1 => DK G ad c1 lim no dn gn gg dg nn pt ln wi ∧ ∀ q, (120 ≤ q ∧ q < 120) → c1 q = c q) 1 6 := by
  refine MX.of (cc := cX7_time) (maxL := 4) (ret := (some .int)) (by decide) rfl (Nat.le_of_ble_eq_true rfl) ?_
  intro p e s m below meth kc A hx hb hr hts hown hml hlk hno w ls hl
  have hown : s.vm.findClass RX7 = some m.cls := hown
  have hl : lv_has ls 4 [(0, .ref (ad 0)), (1, .int (zI (t : Int))), (2, .int (zI zi))] := hl
  obtain ⟨h0, hF, hB, hU, hTR, hTC, ⟨mz, lc, od, bt, hSS⟩, hJ⟩ := id hD
  obtain ⟨⟨ft, h15, hft⟩, hUo⟩ := id hU
  obtain ⟨hlim, hOV, hdn4, hdg, hUV⟩ := id hV
  have hlb : bnd lim := ⟨by omega, by omega⟩
  have hno8 := hOV.1
  have hBV : BookV no dn gn gg dg := ⟨hOV.1, hOV.2, hdn4, hdg⟩
  have hnt := (hUV t ht).1
  have hbzi1 := hbzi.1
  have hbzi2 := hbzi.2
  refine lv_iload_n hx hb dX7_time_0 rfl (lv_at hl 1 rfl) ?_
  refine pw_cv w (pw_runS (As := [.int (zI (t : Int))]) (rest := []) w ⟨hx, hb, hml, hown, hts⟩ (c_X7_checkTune l D G ad N c (z := (t : Int)) ⟨by omega, by omega⟩ (by omega)) (va_cwS 1 hts gX7_time_X7_checkTune rfl rfl rfl (by decide +kernel) ⟨Nat.le_of_ble_eq_true rfl, Nat.le_of_ble_eq_true rfl⟩) rfl hl.1 rfl (lv_room (Nat.le_of_ble_eq_true rfl)) dX7_time_1 ⟨Nat.le_of_ble_eq_true rfl, Nat.le_of_ble_eq_true rfl⟩) (fun u H locs hp w => ?_)
  have hu := hp
  have w : PW D G A s ad N c H locs := by rw [hu] at w; exact w
  clear hu
  refine lv_iload_n hx hb dX7_time_4 rfl (lv_at hl 2 rfl) ?_
  refine pz_iflt (tgt := 21) hx hb dX7_time_5 (by decide) (⟨by omega, by omega⟩) (fun h1 => ?_) (fun h1 => ?_)
  · exact pw_throw (E0 := xIO) (text := "no such note") (own := RX7) (names := ["java/lang/RuntimeException", "java/lang/Exception"]) (ik := 96) (is := 134) (ic := 100) (x := (ad, N, c)) hx hb hsT hno hlk w c rfl ⟨hD, fun _ _ => rfl⟩ hown rfl (by decide +kernel) (by decide +kernel) (hts _ wd_X7_time_ck96) (hts _ wd_X7_time_ini96) (by decide) (fun w h => hts _ (ats_X7_time_IO w h)) og_IO (by decide) oa_IO (hl.1.trans hml.symm) dX7_time_21 dX7_time_24 dX7_time_25 dX7_time_27 dX7_time_30 (Nat.le_of_ble_eq_true rfl) (Nat.le_of_ble_eq_true rfl) (Nat.le_of_ble_eq_true rfl) (Nat.le_of_ble_eq_true rfl) (Nat.le_of_ble_eq_true rfl) (Nat.le_of_ble_eq_true rfl)
  · refine lv_iload_n hx hb dX7_time_8 rfl (lv_at hl 2 rfl) ?_
    refine lv_aload_n hx hb dX7_time_9 rfl (lv_at hl 0 rfl) ?_
    refine pw_get (r := 0) (ci := 7) (C := RX7) (T := TX7) (Nf := 5) hx hb w hts hin_X7_time_7 hown (by omega) h0 rfl 2 (by decide) (hts _ fl_X7_time_25) (fun _ h9 => h9) rfl dX7_time_10 ?_
    refine lv_iload_n hx hb dX7_time_13 rfl (lv_at hl 1 rfl) ?_
    refine pw_aaldR (r := 15) (j := t) hx hb w (by omega) h15 rfl rfl (by omega) (by omega) (by decide) (16 + 14 * t) (hft t (by omega)) dX7_time_14 ?_
    refine pw_ci w (pw_runV (r := (16 + 14 * t)) (ci := 5) (As := []) (rest := [.int (zI zi)]) w ⟨hx, hb, hml, hown, hts⟩ (c_X5_size l D G ad N c (T := 16 + 14 * t) (n := nn t) ⟨by omega, by omega⟩ (by omega) (hUo t ht) (hUV t ht)) (cwV 0 hts gX7_time_X5_size rfl rfl rfl (by decide +kernel) ⟨Nat.le_of_ble_eq_true rfl, Nat.le_of_ble_eq_true rfl⟩) (by omega) (hUo t (by omega)).1 rfl rfl hl.1 rfl (lv_room (Nat.le_of_ble_eq_true rfl)) dX7_time_15 ⟨Nat.le_of_ble_eq_true rfl, Nat.le_of_ble_eq_true rfl⟩) (fun r_ u H locs hp w => ?_)
    obtain ⟨hv, hu⟩ := hp
    subst hv
    have w : PW D G A s ad N c H locs := by rw [hu] at w; exact w
    clear hu
    refine pz_icmplt (tgt := 31) hx hb dX7_time_18 (by decide) (⟨by omega, by omega⟩) (⟨by omega, by omega⟩) (fun h2 => ?_) (fun h2 => ?_)
    · omega
    · exact pw_throw (E0 := xIO) (text := "no such note") (own := RX7) (names := ["java/lang/RuntimeException", "java/lang/Exception"]) (ik := 96) (is := 134) (ic := 100) (x := (ad, N, c)) hx hb hsT hno hlk w c rfl ⟨hD, fun _ _ => rfl⟩ hown rfl (by decide +kernel) (by decide +kernel) (hts _ wd_X7_time_ck96) (hts _ wd_X7_time_ini96) (by decide) (fun w h => hts _ (ats_X7_time_IO w h)) og_IO (by decide) oa_IO (hl.1.trans hml.symm) dX7_time_21 dX7_time_24 dX7_time_25 dX7_time_27 dX7_time_30 (Nat.le_of_ble_eq_true rfl) (Nat.le_of_ble_eq_true rfl) (Nat.le_of_ble_eq_true rfl) (Nat.le_of_ble_eq_true rfl) (Nat.le_of_ble_eq_true rfl) (Nat.le_of_ble_eq_true rfl)

set_option maxHeartbeats 4000000 in
set_option maxRecDepth 100000 in
theorem x_X7_time3 (l : Launch) (hsT : l.stackTraces = false) (D : va_G) (G : Nat → ClassId) (ad : Nat → Nat) (N : Nat) (c : Nat → va_E) {lim : Int} {no dn : Nat} {gn : Nat → Nat} {gg : Nat → Nat → Nat} {dg nn : Nat → Nat} {pt ln : Nat → Nat → Nat} {wi : Nat → Nat → Int} (hN : 120 + 2 * no ≤ N) (hD : DK G ad c lim no dn gn gg dg nn pt ln wi) (hV : SV lim no dn gn gg dg nn pt ln wi) {t i : Nat} (ht : t < 4) (hi : i < nn t) (hlt : ¬ (lessOf (Rr (cwT lim no gn gg nn pt ln wi t) (nn t - 1) 0)) < 1000000) : MX l yX7_time wsX7_time rx_X7_time [.ref (ad 0), .int (zI (t : Int)), .int (zI (i : Int))] D G ad N c xIS (fx ad N) (fun c1 => DK G ad c1 lim no dn gn gg dg nn pt ln wi ∧ ∀ q, (120 ≤ q ∧ q < 120) → c1 q = c q) 1 6 := by
  refine MX.of (cc := cX7_time) (maxL := 4) (ret := (some .int)) (by decide) rfl (Nat.le_of_ble_eq_true rfl) ?_
  intro p e s m below meth kc A hx hb hr hts hown hml hlk hno w ls hl
  have hown : s.vm.findClass RX7 = some m.cls := hown
  have hl : lv_has ls 4 [(0, .ref (ad 0)), (1, .int (zI (t : Int))), (2, .int (zI (i : Int)))] := hl
  obtain ⟨h0, hF, hB, hU, hTR, hTC, ⟨mz, lc, od, bt, hSS⟩, hJ⟩ := id hD
  obtain ⟨⟨ft, h15, hft⟩, hUo⟩ := id hU
  obtain ⟨hlim, hOV, hdn4, hdg, hUV⟩ := id hV
  have hlb : bnd lim := ⟨by omega, by omega⟩
  have hno8 := hOV.1
  have hBV : BookV no dn gn gg dg := ⟨hOV.1, hOV.2, hdn4, hdg⟩
  have hnt := (hUV t ht).1
  refine lv_iload_n hx hb dX7_time_0 rfl (lv_at hl 1 rfl) ?_
  refine pw_cv w (pw_runS (As := [.int (zI (t : Int))]) (rest := []) w ⟨hx, hb, hml, hown, hts⟩ (c_X7_checkTune l D G ad N c (z := (t : Int)) ⟨by omega, by omega⟩ (by omega)) (va_cwS 1 hts gX7_time_X7_checkTune rfl rfl rfl (by decide +kernel) ⟨Nat.le_of_ble_eq_true rfl, Nat.le_of_ble_eq_true rfl⟩) rfl hl.1 rfl (lv_room (Nat.le_of_ble_eq_true rfl)) dX7_time_1 ⟨Nat.le_of_ble_eq_true rfl, Nat.le_of_ble_eq_true rfl⟩) (fun u H locs hp w => ?_)
  have hu := hp
  have w : PW D G A s ad N c H locs := by rw [hu] at w; exact w
  clear hu
  refine lv_iload_n hx hb dX7_time_4 rfl (lv_at hl 2 rfl) ?_
  refine pz_iflt (tgt := 21) hx hb dX7_time_5 (by decide) (⟨by omega, by omega⟩) (fun h1 => ?_) (fun h1 => ?_)
  · omega
  · refine lv_iload_n hx hb dX7_time_8 rfl (lv_at hl 2 rfl) ?_
    refine lv_aload_n hx hb dX7_time_9 rfl (lv_at hl 0 rfl) ?_
    refine pw_get (r := 0) (ci := 7) (C := RX7) (T := TX7) (Nf := 5) hx hb w hts hin_X7_time_7 hown (by omega) h0 rfl 2 (by decide) (hts _ fl_X7_time_25) (fun _ h9 => h9) rfl dX7_time_10 ?_
    refine lv_iload_n hx hb dX7_time_13 rfl (lv_at hl 1 rfl) ?_
    refine pw_aaldR (r := 15) (j := t) hx hb w (by omega) h15 rfl rfl (by omega) (by omega) (by decide) (16 + 14 * t) (hft t (by omega)) dX7_time_14 ?_
    refine pw_ci w (pw_runV (r := (16 + 14 * t)) (ci := 5) (As := []) (rest := [.int (zI (i : Int))]) w ⟨hx, hb, hml, hown, hts⟩ (c_X5_size l D G ad N c (T := 16 + 14 * t) (n := nn t) ⟨by omega, by omega⟩ (by omega) (hUo t ht) (hUV t ht)) (cwV 0 hts gX7_time_X5_size rfl rfl rfl (by decide +kernel) ⟨Nat.le_of_ble_eq_true rfl, Nat.le_of_ble_eq_true rfl⟩) (by omega) (hUo t (by omega)).1 rfl rfl hl.1 rfl (lv_room (Nat.le_of_ble_eq_true rfl)) dX7_time_15 ⟨Nat.le_of_ble_eq_true rfl, Nat.le_of_ble_eq_true rfl⟩) (fun r_ u H locs hp w => ?_)
    obtain ⟨hv, hu⟩ := hp
    subst hv
    have w : PW D G A s ad N c H locs := by rw [hu] at w; exact w
    clear hu
    refine pz_icmplt (tgt := 31) hx hb dX7_time_18 (by decide) (⟨by omega, by omega⟩) (⟨by omega, by omega⟩) (fun h2 => ?_) (fun h2 => ?_)
    · refine lv_aload_n hx hb dX7_time_31 rfl (lv_at hl 0 rfl) ?_
      refine lv_iload_n hx hb dX7_time_32 rfl (lv_at hl 1 rfl) ?_
      exact pw_cx w (pw_runVX (r := 0) (ci := 7) (As := [.int (zI (t : Int))]) (rest := []) w ⟨hx, hb, hml, hown, hts⟩ (x_X7_solve l hsT D G ad N c hN hD hV ht hlt) (cwV 1 hts gX7_time_X7_solve rfl rfl rfl (by decide +kernel) ⟨Nat.le_of_ble_eq_true rfl, Nat.le_of_ble_eq_true rfl⟩) (by omega) h0 rfl rfl hl.1 rfl (lv_room (Nat.le_of_ble_eq_true rfl)) dX7_time_33 ⟨Nat.le_of_ble_eq_true rfl, Nat.le_of_ble_eq_true rfl⟩) (fun u ce q9 H locs hp w hce hcv hcl => pw_out hno hlk w u rfl hp hce hcv hcl (Nat.le_of_ble_eq_true rfl) (Nat.le_of_ble_eq_true rfl))
    · omega

theorem hin_X7_fitting_7 : ∀ w ∈ u_ws RX7 TX7 5, w ∈ wsX7_fitting := by decide +kernel
theorem fl_X7_fitting_25 : Cond.fieldLink RX7 25 "PipersDesk" "tunes" "[LPipersDesk$Tune;" ∈ wsX7_fitting := by decide +kernel
theorem fl_X7_fitting_12 : Cond.fieldLink RX7 12 "PipersDesk" "fingers" "LPipersDesk$Fingers;" ∈ wsX7_fitting := by decide +kernel
theorem fl_X7_fitting_19 : Cond.fieldLink RX7 19 "PipersDesk" "book" "LPipersDesk$OrnamentBook;" ∈ wsX7_fitting := by decide +kernel
theorem wd_X7_fitting_k108 : Cond.constant RX7 108 (1000000) ∈ wsX7_fitting := by decide +kernel
abbrev rm_X7_fitting : Room := { frames := 7, cells := 0, slots := 0, locals := 210 }
set_option maxHeartbeats 4000000 in
set_option maxRecDepth 100000 in
theorem c_X7_fitting (l : Launch) (D : va_G) (G : Nat → ClassId) (ad : Nat → Nat) (N : Nat) (c : Nat → va_E) {lim : Int} {no dn : Nat} {gn : Nat → Nat} {gg : Nat → Nat → Nat} {dg nn : Nat → Nat} {pt ln : Nat → Nat → Nat} {wi : Nat → Nat → Int} (hN : 120 + 2 * no ≤ N) (hD : DK G ad c lim no dn gn gg dg nn pt ln wi) (hV : SV lim no dn gn gg dg nn pt ln wi) {t i : Nat} (ht : t < 4) (hi : i + 1 < nn t) : MC l yX7_fitting wsX7_fitting rm_X7_fitting [.ref (ad 0), .int (zI (t : Int)), .int (zI (i : Int))] D G ad N c (qI D G (fx ad N) (fun v c1 => v = zI (sumU (fun o => if (cwT lim no gn gg nn pt ln wi t) i (o + 1) < 1000000 then 1 else 0) 8) ∧ DK G ad c1 lim no dn gn gg dg nn pt ln wi ∧ ∀ q, (120 ≤ q ∧ q < 120) → c1 q = c q)) 0 0 := by
  refine MCi.of (cc := cX7_fitting) (maxL := 6) (by decide) rfl (Nat.le_of_ble_eq_true rfl) ?_
  intro p e s m args below meth kc A Q hx hb hts hown hml fin H locs w ls hl
  have hown : s.vm.findClass RX7 = some m.cls := hown
  have hl : lv_has ls 6 [(0, .ref (ad 0)), (1, .int (zI (t : Int))), (2, .int (zI (i : Int)))] := hl
  obtain ⟨h0, hF, hB, hU, hTR, hTC, ⟨mz, lc, od, bt, hSS⟩, hJ⟩ := id hD
  obtain ⟨⟨ft, h15, hft⟩, hUo⟩ := id hU
  obtain ⟨hlim, hOV, hdn4, hdg, hUV⟩ := id hV
  have hlb : bnd lim := ⟨by omega, by omega⟩
  have hno8 := hOV.1
  have hBV : BookV no dn gn gg dg := ⟨hOV.1, hOV.2, hdn4, hdg⟩
  have hnt := (hUV t ht).1
  refine lv_iload_n hx hb dX7_fitting_0 rfl (lv_at hl 1 rfl) ?_
  refine pw_cv w (pw_runS (As := [.int (zI (t : Int))]) (rest := []) w ⟨hx, hb, hml, hown, hts⟩ (c_X7_checkTune l D G ad N c (z := (t : Int)) ⟨by omega, by omega⟩ (by omega)) (va_cwS 1 hts gX7_fitting_X7_checkTune rfl rfl rfl (by decide +kernel) ⟨Nat.le_of_ble_eq_true rfl, Nat.le_of_ble_eq_true rfl⟩) rfl hl.1 rfl (lv_room (Nat.le_of_ble_eq_true rfl)) dX7_fitting_1 ⟨Nat.le_of_ble_eq_true rfl, Nat.le_of_ble_eq_true rfl⟩) (fun u H locs hp w => ?_)
  have hu := hp
  have w : PW D G A s ad N c H locs := by rw [hu] at w; exact w
  clear hu
  refine lv_aload_n hx hb dX7_fitting_4 rfl (lv_at hl 0 rfl) ?_
  refine lv_iload_n hx hb dX7_fitting_5 rfl (lv_at hl 1 rfl) ?_
  refine lv_iload_n hx hb dX7_fitting_6 rfl (lv_at hl 2 rfl) ?_
  refine pw_cv w (pw_runV (r := 0) (ci := 7) (As := [.int (zI (t : Int)), .int (zI (i : Int))]) (rest := []) w ⟨hx, hb, hml, hown, hts⟩ (c_X7_checkGap l D G ad N c (t := t) (z := (i : Int)) hN hD hV ht ⟨by omega, by omega⟩ (by omega)) (cwV 2 hts gX7_fitting_X7_checkGap rfl rfl rfl (by decide +kernel) ⟨Nat.le_of_ble_eq_true rfl, Nat.le_of_ble_eq_true rfl⟩) (by omega) h0 rfl rfl hl.1 rfl (lv_room (Nat.le_of_ble_eq_true rfl)) dX7_fitting_7 ⟨Nat.le_of_ble_eq_true rfl, Nat.le_of_ble_eq_true rfl⟩) (fun u H locs hp w => ?_)
  have hu := hp
  have w : PW D G A s ad N c H locs := by rw [hu] at w; exact w
  clear hu
  refine lv_aload_n hx hb dX7_fitting_10 rfl (lv_at hl 0 rfl) ?_
  refine pw_get (r := 0) (ci := 7) (C := RX7) (T := TX7) (Nf := 5) hx hb w hts hin_X7_fitting_7 hown (by omega) h0 rfl 2 (by decide) (hts _ fl_X7_fitting_25) (fun _ h9 => h9) rfl dX7_fitting_11 ?_
  refine lv_iload_n hx hb dX7_fitting_14 rfl (lv_at hl 1 rfl) ?_
  refine pw_aaldR (r := 15) (j := t) hx hb w (by omega) h15 rfl rfl (by omega) (by omega) (by decide) (16 + 14 * t) (hft t (by omega)) dX7_fitting_15 ?_
  refine lv_aload_n hx hb dX7_fitting_16 rfl (lv_at hl 0 rfl) ?_
  refine pw_get (r := 0) (ci := 7) (C := RX7) (T := TX7) (Nf := 5) hx hb w hts hin_X7_fitting_7 hown (by omega) h0 rfl 0 (by decide) (hts _ fl_X7_fitting_12) (fun _ h9 => h9) rfl dX7_fitting_17 ?_
  refine lv_aload_n hx hb dX7_fitting_20 rfl (lv_at hl 0 rfl) ?_
  refine pw_get (r := 0) (ci := 7) (C := RX7) (T := TX7) (Nf := 5) hx hb w hts hin_X7_fitting_7 hown (by omega) h0 rfl 1 (by decide) (hts _ fl_X7_fitting_19) (fun _ h9 => h9) rfl dX7_fitting_21 ?_
  refine pw_cv w (pw_runV (r := (16 + 14 * t)) (ci := 5) (As := [.ref (ad 1), .ref (ad 12)]) (rest := []) w ⟨hx, hb, hml, hown, hts⟩ (c_X5_weighGaps l D G ad N c (T := 16 + 14 * t) (n := nn t) ⟨by omega, by omega⟩ (by omega) (hUo t ht) (hUV t ht) hN hB hBV hF (hTR t ht)) (cwV 2 hts gX7_fitting_X5_weighGaps rfl rfl rfl (by decide +kernel) ⟨Nat.le_of_ble_eq_true rfl, Nat.le_of_ble_eq_true rfl⟩) (by omega) (hUo t (by omega)).1 rfl rfl hl.1 rfl (lv_room (Nat.le_of_ble_eq_true rfl)) dX7_fitting_24 ⟨Nat.le_of_ble_eq_true rfl, Nat.le_of_ble_eq_true rfl⟩) (fun c1 H locs hp w => ?_)
  have w : PW D G A s ad N c1 H locs := w
  obtain ⟨hGW1, hTR1, fr1⟩ := hp
  have hD1 := hD.wg ht hTR1 fr1
  have hf1 : ∀ q, (120 ≤ q ∧ q < 120) → c1 q = c q := fun q hq => (fr1 q (by omega)).trans ((fun _ _ => rfl) q hq)
  obtain ⟨h0, hF, hB, hU, hTR, hTC, ⟨mz, lc, od, bt, hSS⟩, hJ⟩ := id hD1
  obtain ⟨⟨ft, h15, hft⟩, hUo⟩ := id hU
  have hW : GW G c1 (16 + 14 * t) (nn t) (cwT lim no gn gg nn pt ln wi t) := fun j hj => (hGW1 j hj).to (fun o _ => (if_pos ⟨ht, hj⟩).symm)
  refine lv_aload_n hx hb dX7_fitting_27 rfl (lv_at hl 0 rfl) ?_
  refine pw_get (r := 0) (ci := 7) (C := RX7) (T := TX7) (Nf := 5) hx hb w hts hin_X7_fitting_7 hown (by omega) h0 rfl 2 (by decide) (hts _ fl_X7_fitting_25) (fun _ h9 => h9) rfl dX7_fitting_28 ?_
  refine lv_iload_n hx hb dX7_fitting_31 rfl (lv_at hl 1 rfl) ?_
  refine pw_aaldR (r := 15) (j := t) hx hb w (by omega) h15 rfl rfl (by omega) (by omega) (by decide) (16 + 14 * t) (hft t (by omega)) dX7_fitting_32 ?_
  refine lv_iload_n hx hb dX7_fitting_33 rfl (lv_at hl 2 rfl) ?_
  refine pw_cr w (pw_runV (r := (16 + 14 * t)) (ci := 5) (As := [.int (zI (i : Int))]) (rest := []) w ⟨hx, hb, hml, hown, hts⟩ (c_X5_costsAt l D G ad N c1 (T := 16 + 14 * t) (n := nn t) ⟨by omega, by omega⟩ (by omega) (hUo t ht) (hUV t ht) (i := i) (by omega)) (cwV 1 hts gX7_fitting_X5_costsAt rfl rfl rfl (by decide +kernel) ⟨Nat.le_of_ble_eq_true rfl, Nat.le_of_ble_eq_true rfl⟩) (by omega) (hUo t (by omega)).1 rfl rfl hl.1 rfl (lv_room (Nat.le_of_ble_eq_true rfl)) dX7_fitting_34 ⟨Nat.le_of_ble_eq_true rfl, Nat.le_of_ble_eq_true rfl⟩) (fun r_ u H locs hp w => ?_)
  obtain ⟨hv, hu⟩ := hp
  subst hv
  have w : PW D G A s ad N c1 H locs := by rw [hu] at w; exact w
  clear hu
  refine lv_astore_n (lv' := [(3, .ref (ad (16 + 14 * t + 5 + i))), (0, .ref (ad 0)), (1, .int (zI (t : Int))), (2, .int (zI (i : Int)))]) hx hb dX7_fitting_37 rfl hl (by decide) rfl (fun ls hl => ?_)
  refine lv_iconst (v := zI (0)) hx hb dX7_fitting_38 rfl ?_
  refine lv_istore (lv' := [(4, .int (zI 0)), (3, .ref (ad (16 + 14 * t + 5 + i))), (0, .ref (ad 0)), (1, .int (zI (t : Int))), (2, .int (zI (i : Int)))]) hx hb dX7_fitting_39 hl (by decide) rfl (fun ls hl => ?_)
  refine lv_iconst (v := zI (1)) hx hb dX7_fitting_41 rfl ?_
  refine lv_istore (lv' := [(5, .int (zI 1)), (4, .int (zI 0)), (3, .ref (ad (16 + 14 * t + 5 + i))), (0, .ref (ad 0)), (1, .int (zI (t : Int))), (2, .int (zI (i : Int)))]) hx hb dX7_fitting_42 hl (by decide) rfl (fun ls hl => ?_)
  have lp : ∀ (n : Nat) (o : Nat) (H : Heap) (locs : List Loc) (ls : Array Slot), o ≤ 8 → 8 < o + n → PW D G A s ad N c1 H locs → lv_has ls 6 [(3, .ref (ad (16 + 14 * t + 5 + i))), (4, .int (zI (sumU (fun o => if (cwT lim no gn gg nn pt ln wi t) i (o + 1) < 1000000 then 1 else 0) o))), (5, .int (zI ((o + 1 : Nat) : Int)))] → W p l e rm_X7_fitting s m args below meth kc H locs 0 0 Q (F0 m 44 ls []) := by
    intro n
    induction n with
    | zero => intro o H locs ls h9o hfu w hl; omega
    | succ n ih =>
      intro o H locs ls h9o hfu w hl
      have hsb := sumU_01 (f := fun o => if (cwT lim no gn gg nn pt ln wi t) i (o + 1) < 1000000 then 1 else 0) (fun o => by (try dsimp only); split <;> omega) o
      refine lv_iload hx hb dX7_fitting_44 (lv_at hl 2 rfl) ?_
      refine lv_bipush (v := zI (9)) hx hb dX7_fitting_46 (by decide +kernel) ?_
      refine pz_icmpge (tgt := 69) hx hb dX7_fitting_48 (by decide) (⟨by omega, by omega⟩) (⟨by omega, by omega⟩) (fun ho8 => ?_) (fun ho8 => ?_)
      · have o8 : o = 8 := by omega
        subst o8
        refine lv_iload hx hb dX7_fitting_69 (lv_at hl 1 rfl) ?_
        exact fin (ad, N, c1) c1 _ _ _ _ _ _ _ rfl ⟨rfl, hD1, hf1⟩ w dX7_fitting_71 (Nat.le_refl _) (Nat.le_refl _)
      · refine lv_aload_n hx hb dX7_fitting_51 rfl (lv_at hl 0 rfl) ?_
        refine lv_iload hx hb dX7_fitting_52 (lv_at hl 2 rfl) ?_
        refine pw_iald (r := (16 + 14 * t + 5 + i)) (j := (o + 1)) hx hb w (by omega) (hW i (by omega)) (by omega) (by omega) (by decide) dX7_fitting_54 ?_
        refine lv_ldc hx hb hown (hts _ wd_X7_fitting_k108) dX7_fitting_55 (pz_topI (y := zI (1000000)) (by decide +kernel) ?_)
        have hcb := cwT_bd (lim := lim) (wi := wi) (pt := pt) (ln := ln) hOV hUV t i (o + 1)
        refine pz_icmpge (tgt := 63) hx hb dX7_fitting_57 (by decide) (⟨by omega, by omega⟩) (⟨by omega, by omega⟩) (fun h9 => ?_) (fun h9 => ?_)
        · have h9 : ¬ (cwT lim no gn gg nn pt ln wi t) i (o + 1) < 1000000 := by omega
          refine pz_iinc (lv' := [(5, .int (zI ((o + 1 + 1 : Nat) : Int))), (3, .ref (ad (16 + 14 * t + 5 + i))), (4, .int (zI (sumU (fun o => if (cwT lim no gn gg nn pt ln wi t) i (o + 1) < 1000000 then 1 else 0) o)))]) hx hb dX7_fitting_63 hl (j := 2) rfl ((o + 1 + 1 : Nat) : Int) (by omega) (by decide) rfl (fun ls hl => ?_)
          refine lv_goto (tgt := 44) hx hb dX7_fitting_66 (by decide) ?_
          exact ih (o + 1) H locs ls (by omega) (by omega) w (by rw [show (sumU (fun o => if (cwT lim no gn gg nn pt ln wi t) i (o + 1) < 1000000 then 1 else 0) (o + 1)) = (sumU (fun o => if (cwT lim no gn gg nn pt ln wi t) i (o + 1) < 1000000 then 1 else 0) o) from by rw [sumU, if_neg h9]; omega]; exact (lv_sub hl [1, 2, 0] rfl))
        · refine pz_iinc (lv' := [(4, .int (zI (sumU (fun o => if (cwT lim no gn gg nn pt ln wi t) i (o + 1) < 1000000 then 1 else 0) (o + 1)))), (3, .ref (ad (16 + 14 * t + 5 + i))), (5, .int (zI ((o + 1 : Nat) : Int)))]) hx hb dX7_fitting_60 hl (j := 1) rfl (sumU (fun o => if (cwT lim no gn gg nn pt ln wi t) i (o + 1) < 1000000 then 1 else 0) (o + 1)) (by rw [sumU, if_pos h9]) (by decide) rfl (fun ls hl => ?_)
          refine pz_iinc (lv' := [(5, .int (zI ((o + 1 + 1 : Nat) : Int))), (4, .int (zI (sumU (fun o => if (cwT lim no gn gg nn pt ln wi t) i (o + 1) < 1000000 then 1 else 0) (o + 1)))), (3, .ref (ad (16 + 14 * t + 5 + i)))]) hx hb dX7_fitting_63 hl (j := 2) rfl ((o + 1 + 1 : Nat) : Int) (by omega) (by decide) rfl (fun ls hl => ?_)
          refine lv_goto (tgt := 44) hx hb dX7_fitting_66 (by decide) ?_
          exact ih (o + 1) H locs ls (by omega) (by omega) w (lv_sub hl [2, 1, 0] rfl)
  exact lp 9 0 H locs ls (by omega) (by omega) w (lv_sub hl [2, 1, 0] rfl)

abbrev rx_X7_fitting : Room := { frames := 7, cells := 1, slots := 6, locals := 210 }
set_option maxHeartbeats 4000000 in
set_option maxRecDepth 100000 in
theorem x_X7_fitting1 (l : Launch) (hsT : l.stackTraces = false) (D : va_G) (G : Nat → ClassId) (ad : Nat → Nat) (N : Nat) (c : Nat → va_E) {lim : Int} {no dn : Nat} {gn : Nat → Nat} {gg : Nat → Nat → Nat} {dg nn : Nat → Nat} {pt ln : Nat → Nat → Nat} {wi : Nat → Nat → Int} (hN : 120 + 2 * no ≤ N) (hD : DK G ad c lim no dn gn gg dg nn pt ln wi) (hV : SV lim no dn gn gg dg nn pt ln wi) {zt : Int} (hbzt : bnd zt) (hbad : ¬ (0 ≤ zt ∧ zt ≤ 3)) {zi : Int} : MX l yX7_fitting wsX7_fitting rx_X7_fitting [.ref (ad 0), .int (zI zt), .int (zI zi)] D G ad N c xIA (fx ad N) (fun c1 => DK G ad c1 lim no dn gn gg dg nn pt ln wi ∧ ∀ q, (120 ≤ q ∧ q < 120) → c1 q = c q) 1 6 := by
  refine MX.of (cc := cX7_fitting) (maxL := 6) (ret := (some .int)) (by decide) rfl (Nat.le_of_ble_eq_true rfl) ?_
  intro p e s m below meth kc A hx hb hr hts hown hml hlk hno w ls hl
  have hown : s.vm.findClass RX7 = some m.cls := hown
  have hl : lv_has ls 6 [(0, .ref (ad 0)), (1, .int (zI zt)), (2, .int (zI zi))] := hl
  obtain ⟨h0, hF, hB, hU, hTR, hTC, ⟨mz, lc, od, bt, hSS⟩, hJ⟩ := id hD
  obtain ⟨⟨ft, h15, hft⟩, hUo⟩ := id hU
  obtain ⟨hlim, hOV, hdn4, hdg, hUV⟩ := id hV
  have hlb : bnd lim := ⟨by omega, by omega⟩
  have hno8 := hOV.1
  have hBV : BookV no dn gn gg dg := ⟨hOV.1, hOV.2, hdn4, hdg⟩
  have hbzt1 := hbzt.1
  have hbzt2 := hbzt.2
  refine lv_iload_n hx hb dX7_fitting_0 rfl (lv_at hl 1 rfl) ?_
  exact pw_cx w (pw_runSX (As := [.int (zI zt)]) (rest := []) w ⟨hx, hb, hml, hown, hts⟩ (x_X7_checkTune l hsT D G ad N c (z := zt) ⟨by omega, by omega⟩ (by omega)) (va_cwS 1 hts gX7_fitting_X7_checkTune rfl rfl rfl (by decide +kernel) ⟨Nat.le_of_ble_eq_true rfl, Nat.le_of_ble_eq_true rfl⟩) rfl hl.1 rfl (lv_room (Nat.le_of_ble_eq_true rfl)) dX7_fitting_1 ⟨Nat.le_of_ble_eq_true rfl, Nat.le_of_ble_eq_true rfl⟩) (fun u ce q9 H locs hp w hce hcv hcl => pw_out hno hlk w u rfl ⟨by rw [show u = c from hp]; exact hD, fun q hq => by rw [show u = c from hp]⟩ hce hcv hcl (Nat.le_of_ble_eq_true rfl) (Nat.le_of_ble_eq_true rfl))

set_option maxHeartbeats 4000000 in
set_option maxRecDepth 100000 in
theorem x_X7_fitting2 (l : Launch) (hsT : l.stackTraces = false) (D : va_G) (G : Nat → ClassId) (ad : Nat → Nat) (N : Nat) (c : Nat → va_E) {lim : Int} {no dn : Nat} {gn : Nat → Nat} {gg : Nat → Nat → Nat} {dg nn : Nat → Nat} {pt ln : Nat → Nat → Nat} {wi : Nat → Nat → Int} (hN : 120 + 2 * no ≤ N) (hD : DK G ad c lim no dn gn gg dg nn pt ln wi) (hV : SV lim no dn gn gg dg nn pt ln wi) {t : Nat} (ht : t < 4) {zi : Int} (hbzi : bnd zi) (hbad : ¬ (0 ≤ zi ∧ zi ≤ (nn t : Int) - 2)) : MX l yX7_fitting wsX7_fitting rx_X7_fitting [.ref (ad 0), .int (zI (t : Int)), .int (zI zi)] D G ad N c xIO (fx ad N) (fun c1 => DK G ad c1 lim no dn gn gg dg nn pt ln wi ∧ ∀ q, (120 ≤ q ∧ q < 120) → c1 q = c q) 1 6 := by
  refine MX.of (cc := cX7_fitting) (maxL := 6) (ret := (some .int)) (by decide) rfl (Nat.le_of_ble_eq_true rfl) ?_
  intro p e s m below meth kc A hx hb hr hts hown hml hlk hno w ls hl
  have hown : s.vm.findClass RX7 = some m.cls := hown
  have hl : lv_has ls 6 [(0, .ref (ad 0)), (1, .int (zI (t : Int))), (2, .int (zI zi))] := hl
  obtain ⟨h0, hF, hB, hU, hTR, hTC, ⟨mz, lc, od, bt, hSS⟩, hJ⟩ := id hD
  obtain ⟨⟨ft, h15, hft⟩, hUo⟩ := id hU
  obtain ⟨hlim, hOV, hdn4, hdg, hUV⟩ := id hV
  have hlb : bnd lim := ⟨by omega, by omega⟩
  have hno8 := hOV.1
  have hBV : BookV no dn gn gg dg := ⟨hOV.1, hOV.2, hdn4, hdg⟩
  have hnt := (hUV t ht).1
  have hbzi1 := hbzi.1
  have hbzi2 := hbzi.2
  refine lv_iload_n hx hb dX7_fitting_0 rfl (lv_at hl 1 rfl) ?_
  refine pw_cv w (pw_runS (As := [.int (zI (t : Int))]) (rest := []) w ⟨hx, hb, hml, hown, hts⟩ (c_X7_checkTune l D G ad N c (z := (t : Int)) ⟨by omega, by omega⟩ (by omega)) (va_cwS 1 hts gX7_fitting_X7_checkTune rfl rfl rfl (by decide +kernel) ⟨Nat.le_of_ble_eq_true rfl, Nat.le_of_ble_eq_true rfl⟩) rfl hl.1 rfl (lv_room (Nat.le_of_ble_eq_true rfl)) dX7_fitting_1 ⟨Nat.le_of_ble_eq_true rfl, Nat.le_of_ble_eq_true rfl⟩) (fun u H locs hp w => ?_)
  have hu := hp
  have w : PW D G A s ad N c H locs := by rw [hu] at w; exact w
  clear hu
  refine lv_aload_n hx hb dX7_fitting_4 rfl (lv_at hl 0 rfl) ?_
  refine lv_iload_n hx hb dX7_fitting_5 rfl (lv_at hl 1 rfl) ?_
  refine lv_iload_n hx hb dX7_fitting_6 rfl (lv_at hl 2 rfl) ?_
  exact pw_cx w (pw_runVX (r := 0) (ci := 7) (As := [.int (zI (t : Int)), .int (zI zi)]) (rest := []) w ⟨hx, hb, hml, hown, hts⟩ (x_X7_checkGap l hsT D G ad N c (t := t) (z := zi) hN hD hV ht ⟨by omega, by omega⟩ (by omega)) (cwV 2 hts gX7_fitting_X7_checkGap rfl rfl rfl (by decide +kernel) ⟨Nat.le_of_ble_eq_true rfl, Nat.le_of_ble_eq_true rfl⟩) (by omega) h0 rfl rfl hl.1 rfl (lv_room (Nat.le_of_ble_eq_true rfl)) dX7_fitting_7 ⟨Nat.le_of_ble_eq_true rfl, Nat.le_of_ble_eq_true rfl⟩) (fun u ce q9 H locs hp w hce hcv hcl => pw_out hno hlk w u rfl ⟨by rw [show u = c from hp]; exact hD, fun q hq => by rw [show u = c from hp]⟩ hce hcv hcl (Nat.le_of_ble_eq_true rfl) (Nat.le_of_ble_eq_true rfl))
