abbrev rm_L_time : Room := { frames := 9, cells := 1, slots := 6, locals := 270 }
set_option maxHeartbeats 1000000 in
set_option maxRecDepth 100000 in
theorem c_L_time (l : Launch) (D : va_G) (G : Nat → ClassId) (ad : Nat → Nat) (N : Nat) (c : Nat → va_E) {lim : Int} {no dn : Nat} {gn : Nat → Nat} {gg : Nat → Nat → Nat} {dg nn : Nat → Nat} {pt ln : Nat → Nat → Nat} {wi : Nat → Nat → Int} (hN : 139 + 2 * no ≤ N) (hD : DK G ad c lim no dn gn gg dg nn pt ln wi) (hV : SV lim no dn gn gg dg nn pt ln wi) {t i : Nat} (ht : t < 4) (hi : i < nn t) (hi2 : i + 1 < nn t) (hlt : (lessOf (Rr (cwT lim no gn gg nn pt ln wi t) (nn t - 1) 0)) < 1000000) {v0 : Int64} (hO : lnA G (c 137) v0) : MC l yL_time wsL_time rm_L_time [.ref (ad 0), .int (zI (t : Int)), .int (zI (i : Int)), .ref (ad 137)] D G ad N c (qI D G (fx ad N) (fun r c1 => r = zI 0 ∧ lnA G (c1 137) (zI ((ln t i : Int) - (graN no gn (optN (fun i => Rr (cwT lim no gn gg nn pt ln wi t) (nn t - 1 - i) i) (i + 1)) : Int))).toInt64 ∧ DK G ad c1 lim no dn gn gg dg nn pt ln wi ∧ ∀ q, (120 ≤ q ∧ q < 139 ∧ q ≠ 137) → c1 q = c q)) 1 6 := by
  refine MCiH.of (cc := cL_time) (maxL := 5) (by decide) rfl (Nat.le_of_ble_eq_true rfl) ?_
  intro p e s m args below meth kc A Q hx hb hts hown hml htab fin H locs w ls hl
  have hown : s.vm.findClass RL = some m.cls := hown
  have hl : lv_has ls 5 [(0, .ref (ad 0)), (1, .int (zI (t : Int))), (2, .int (zI (i : Int))), (3, .ref (ad 137))] := hl
  refine lv_aload_n hx hb dL_time_0 rfl (lv_at hl 3 rfl) ?_
  refine lv_iconst (v := zI (0)) hx hb dL_time_1 rfl ?_
  refine lv_aload_n hx hb dL_time_2 rfl (lv_at hl 0 rfl) ?_
  refine lv_iload_n hx hb dL_time_3 rfl (lv_at hl 1 rfl) ?_
  refine lv_iload_n hx hb dL_time_4 rfl (lv_at hl 2 rfl) ?_
  refine pw_ci w (pw_runV (r := 0) (ci := 7) (As := [.int (zI (t : Int)), .int (zI (i : Int))]) (rest := [.int (zI 0), .ref (ad 137)]) w ⟨hx, hb, hml, hown, hts⟩ (c_X7_time l D G ad N c hN hD hV (t := t) (i := i) ht hi hi2 hlt) (cwV 2 hts gL_time_X7_time rfl rfl rfl (by decide +kernel) ⟨Nat.le_of_ble_eq_true rfl, Nat.le_of_ble_eq_true rfl⟩) (by omega) hD.1 rfl rfl hl.1 rfl (lv_room (Nat.le_of_ble_eq_true rfl)) dL_time_5 ⟨Nat.le_of_ble_eq_true rfl, Nat.le_of_ble_eq_true rfl⟩) (fun r_ c1 H locs hp w => ?_)
  have w : PW D G A s ad N c1 H locs := w
  obtain ⟨hv, hD1, fr1⟩ := hp
  subst hv
  refine lv_i2l hx hb dL_time_8 rfl ?_
  refine pw_last (r := 137) hx hb w (by omega) (lnA.fr (fr1 137 (by omega)) hO) dL_time_9 (fun H locs c2 hc2 fr2 w => ?_)
  refine lv_goto (tgt := 25) hx hb dL_time_10 (by decide) ?_
  refine lv_iconst (v := zI (0)) hx hb dL_time_25 rfl ?_
  exact fin (ad, N, c2) c2 _ _ _ _ _ _ _ rfl ⟨rfl, hc2, hD1.fr (fun q hq => fr2 q (by omega)), fun q hq => (fr2 q (by omega)).trans (fr1 q (by omega))⟩ w dL_time_26 (Nat.le_of_ble_eq_true rfl) (Nat.le_of_ble_eq_true rfl)

set_option maxHeartbeats 1000000 in
set_option maxRecDepth 100000 in
theorem c_L_time_last (l : Launch) (D : va_G) (G : Nat → ClassId) (ad : Nat → Nat) (N : Nat) (c : Nat → va_E) {lim : Int} {no dn : Nat} {gn : Nat → Nat} {gg : Nat → Nat → Nat} {dg nn : Nat → Nat} {pt ln : Nat → Nat → Nat} {wi : Nat → Nat → Int} (hN : 139 + 2 * no ≤ N) (hD : DK G ad c lim no dn gn gg dg nn pt ln wi) (hV : SV lim no dn gn gg dg nn pt ln wi) {t i : Nat} (ht : t < 4) (hi : i < nn t) (hi2 : i + 1 = nn t) (hlt : (lessOf (Rr (cwT lim no gn gg nn pt ln wi t) (nn t - 1) 0)) < 1000000) {v0 : Int64} (hO : lnA G (c 137) v0) : MC l yL_time wsL_time rm_L_time [.ref (ad 0), .int (zI (t : Int)), .int (zI (i : Int)), .ref (ad 137)] D G ad N c (qI D G (fx ad N) (fun r c1 => r = zI 0 ∧ lnA G (c1 137) (zI (ln t i : Int)).toInt64 ∧ DK G ad c1 lim no dn gn gg dg nn pt ln wi ∧ ∀ q, (120 ≤ q ∧ q < 139 ∧ q ≠ 137) → c1 q = c q)) 1 6 := by
  refine MCiH.of (cc := cL_time) (maxL := 5) (by decide) rfl (Nat.le_of_ble_eq_true rfl) ?_
  intro p e s m args below meth kc A Q hx hb hts hown hml htab fin H locs w ls hl
  have hown : s.vm.findClass RL = some m.cls := hown
  have hl : lv_has ls 5 [(0, .ref (ad 0)), (1, .int (zI (t : Int))), (2, .int (zI (i : Int))), (3, .ref (ad 137))] := hl
  refine lv_aload_n hx hb dL_time_0 rfl (lv_at hl 3 rfl) ?_
  refine lv_iconst (v := zI (0)) hx hb dL_time_1 rfl ?_
  refine lv_aload_n hx hb dL_time_2 rfl (lv_at hl 0 rfl) ?_
  refine lv_iload_n hx hb dL_time_3 rfl (lv_at hl 1 rfl) ?_
  refine lv_iload_n hx hb dL_time_4 rfl (lv_at hl 2 rfl) ?_
  refine pw_ci w (pw_runV (r := 0) (ci := 7) (As := [.int (zI (t : Int)), .int (zI (i : Int))]) (rest := [.int (zI 0), .ref (ad 137)]) w ⟨hx, hb, hml, hown, hts⟩ (c_X7_time_last l D G ad N c hN hD hV (t := t) (i := i) ht hi hi2 hlt) (cwV 2 hts gL_time_X7_time rfl rfl rfl (by decide +kernel) ⟨Nat.le_of_ble_eq_true rfl, Nat.le_of_ble_eq_true rfl⟩) (by omega) hD.1 rfl rfl hl.1 rfl (lv_room (Nat.le_of_ble_eq_true rfl)) dL_time_5 ⟨Nat.le_of_ble_eq_true rfl, Nat.le_of_ble_eq_true rfl⟩) (fun r_ c1 H locs hp w => ?_)
  have w : PW D G A s ad N c1 H locs := w
  obtain ⟨hv, hD1, fr1⟩ := hp
  subst hv
  refine lv_i2l hx hb dL_time_8 rfl ?_
  refine pw_last (r := 137) hx hb w (by omega) (lnA.fr (fr1 137 (by omega)) hO) dL_time_9 (fun H locs c2 hc2 fr2 w => ?_)
  refine lv_goto (tgt := 25) hx hb dL_time_10 (by decide) ?_
  refine lv_iconst (v := zI (0)) hx hb dL_time_25 rfl ?_
  exact fin (ad, N, c2) c2 _ _ _ _ _ _ _ rfl ⟨rfl, hc2, hD1.fr (fun q hq => fr2 q (by omega)), fun q hq => (fr2 q (by omega)).trans (fr1 q (by omega))⟩ w dL_time_26 (Nat.le_of_ble_eq_true rfl) (Nat.le_of_ble_eq_true rfl)

theorem wd_L_time_k13 : Cond.classLink RL 13 "java/lang/IllegalArgumentException" ∈ wsL_time := by decide +kernel
set_option maxHeartbeats 1000000 in
set_option maxRecDepth 100000 in
theorem x_L_time1 (l : Launch) (hsT : l.stackTraces = false) (D : va_G) (G : Nat → ClassId) (ad : Nat → Nat) (N : Nat) (c : Nat → va_E) {lim : Int} {no dn : Nat} {gn : Nat → Nat} {gg : Nat → Nat → Nat} {dg nn : Nat → Nat} {pt ln : Nat → Nat → Nat} {wi : Nat → Nat → Int} (hN : 139 + 2 * no ≤ N) (hD : DK G ad c lim no dn gn gg dg nn pt ln wi) (hV : SV lim no dn gn gg dg nn pt ln wi) {zt : Int} (hbzt : bnd zt) (hbad : ¬ (0 ≤ zt ∧ zt ≤ 3)) {zi : Int}  : MC l yL_time wsL_time rm_L_time [.ref (ad 0), .int (zI zt), .int (zI zi), .ref (ad 137)] D G ad N c (qI D G (fx ad N) (fun r c1 => r = zI 1 ∧ DK G ad c1 lim no dn gn gg dg nn pt ln wi ∧ ∀ q, (120 ≤ q ∧ q < 139) → c1 q = c q)) 1 6 := by
  refine MCiH.of (cc := cL_time) (maxL := 5) (by decide) rfl (Nat.le_of_ble_eq_true rfl) ?_
  intro p e s m args below meth kc A Q hx hb hts hown hml htab fin H locs w ls hl
  have hown : s.vm.findClass RL = some m.cls := hown
  have hl : lv_has ls 5 [(0, .ref (ad 0)), (1, .int (zI zt)), (2, .int (zI zi)), (3, .ref (ad 137))] := hl
  refine lv_aload_n hx hb dL_time_0 rfl (lv_at hl 3 rfl) ?_
  refine lv_iconst (v := zI (0)) hx hb dL_time_1 rfl ?_
  refine lv_aload_n hx hb dL_time_2 rfl (lv_at hl 0 rfl) ?_
  refine lv_iload_n hx hb dL_time_3 rfl (lv_at hl 1 rfl) ?_
  refine lv_iload_n hx hb dL_time_4 rfl (lv_at hl 2 rfl) ?_
  refine pw_cx (E0 := xIA) w (pw_runVX (r := 0) (ci := 7) (As := [.int (zI zt), .int (zI zi)]) (rest := [.int (zI 0), .ref (ad 137)]) w ⟨hx, hb, hml, hown, hts⟩ (x_X7_time1 l hsT D G ad N c hN hD hV (zt := zt) hbzt hbad (zi := zi)) (cwV 2 hts gL_time_X7_time rfl rfl rfl (by decide +kernel) ⟨Nat.le_of_ble_eq_true rfl, Nat.le_of_ble_eq_true rfl⟩) (by omega) hD.1 rfl rfl hl.1 rfl (lv_room (Nat.le_of_ble_eq_true rfl)) dL_time_5 ⟨Nat.le_of_ble_eq_true rfl, Nat.le_of_ble_eq_true rfl⟩) (fun c1 ce q9 H locs hp w hce hcv hcl => ?_)
  have w : PW D G A s ad N c1 H locs := w
  obtain ⟨hD1, fr1⟩ := hp
  refine pw_catch w hown [] ⟨0, 10, 13, 13⟩ [⟨0, 10, 17, 36⟩, ⟨0, 10, 21, 26⟩] htab (fun _ h => absurd h List.not_mem_nil) (by decide) (by decide) (hts _ wd_L_time_k13) (by decide) hce hcv hcl ?_
  refine lv_astore (lv' := [(4, .ref q9), (0, .ref (ad 0)), (1, .int (zI zt)), (2, .int (zI zi)), (3, .ref (ad 137))]) hx hb dL_time_13 hl (by decide) rfl (fun ls hl => ?_)
  refine lv_iconst (v := zI (1)) hx hb dL_time_15 rfl ?_
  exact fin (ad, N, c1) c1 _ _ _ _ _ _ _ rfl ⟨rfl, hD1, fr1⟩ w dL_time_16 (Nat.le_of_ble_eq_true rfl) (Nat.le_of_ble_eq_true rfl)

theorem wd_L_time_k36 : Cond.classLink RL 36 "java/lang/IndexOutOfBoundsException" ∈ wsL_time := by decide +kernel
set_option maxHeartbeats 1000000 in
set_option maxRecDepth 100000 in
theorem x_L_time2 (l : Launch) (hsT : l.stackTraces = false) (D : va_G) (G : Nat → ClassId) (ad : Nat → Nat) (N : Nat) (c : Nat → va_E) {lim : Int} {no dn : Nat} {gn : Nat → Nat} {gg : Nat → Nat → Nat} {dg nn : Nat → Nat} {pt ln : Nat → Nat → Nat} {wi : Nat → Nat → Int} (hN : 139 + 2 * no ≤ N) (hD : DK G ad c lim no dn gn gg dg nn pt ln wi) (hV : SV lim no dn gn gg dg nn pt ln wi) {t : Nat} (ht : t < 4) {zi : Int} (hbzi : bnd zi) (hbad : ¬ (0 ≤ zi ∧ zi ≤ (nn t : Int) - 1))  : MC l yL_time wsL_time rm_L_time [.ref (ad 0), .int (zI (t : Int)), .int (zI zi), .ref (ad 137)] D G ad N c (qI D G (fx ad N) (fun r c1 => r = zI 2 ∧ DK G ad c1 lim no dn gn gg dg nn pt ln wi ∧ ∀ q, (120 ≤ q ∧ q < 139) → c1 q = c q)) 1 6 := by
  refine MCiH.of (cc := cL_time) (maxL := 5) (by decide) rfl (Nat.le_of_ble_eq_true rfl) ?_
  intro p e s m args below meth kc A Q hx hb hts hown hml htab fin H locs w ls hl
  have hown : s.vm.findClass RL = some m.cls := hown
  have hl : lv_has ls 5 [(0, .ref (ad 0)), (1, .int (zI (t : Int))), (2, .int (zI zi)), (3, .ref (ad 137))] := hl
  refine lv_aload_n hx hb dL_time_0 rfl (lv_at hl 3 rfl) ?_
  refine lv_iconst (v := zI (0)) hx hb dL_time_1 rfl ?_
  refine lv_aload_n hx hb dL_time_2 rfl (lv_at hl 0 rfl) ?_
  refine lv_iload_n hx hb dL_time_3 rfl (lv_at hl 1 rfl) ?_
  refine lv_iload_n hx hb dL_time_4 rfl (lv_at hl 2 rfl) ?_
  refine pw_cx (E0 := xIO) w (pw_runVX (r := 0) (ci := 7) (As := [.int (zI (t : Int)), .int (zI zi)]) (rest := [.int (zI 0), .ref (ad 137)]) w ⟨hx, hb, hml, hown, hts⟩ (x_X7_time2 l hsT D G ad N c hN hD hV (t := t) ht (zi := zi) hbzi hbad) (cwV 2 hts gL_time_X7_time rfl rfl rfl (by decide +kernel) ⟨Nat.le_of_ble_eq_true rfl, Nat.le_of_ble_eq_true rfl⟩) (by omega) hD.1 rfl rfl hl.1 rfl (lv_room (Nat.le_of_ble_eq_true rfl)) dL_time_5 ⟨Nat.le_of_ble_eq_true rfl, Nat.le_of_ble_eq_true rfl⟩) (fun c1 ce q9 H locs hp w hce hcv hcl => ?_)
  have w : PW D G A s ad N c1 H locs := w
  obtain ⟨hD1, fr1⟩ := hp
  refine pw_catch w hown [⟨0, 10, 13, 13⟩] ⟨0, 10, 17, 36⟩ [⟨0, 10, 21, 26⟩] htab (List.forall_mem_cons.mpr ⟨⟨by decide, xIA, by decide, hts _ wd_L_time_k13⟩, (fun _ h => absurd h List.not_mem_nil)⟩) (by decide) (by decide) (hts _ wd_L_time_k36) (by decide) hce hcv hcl ?_
  refine lv_astore (lv' := [(4, .ref q9), (0, .ref (ad 0)), (1, .int (zI (t : Int))), (2, .int (zI zi)), (3, .ref (ad 137))]) hx hb dL_time_17 hl (by decide) rfl (fun ls hl => ?_)
  refine lv_iconst (v := zI (2)) hx hb dL_time_19 rfl ?_
  exact fin (ad, N, c1) c1 _ _ _ _ _ _ _ rfl ⟨rfl, hD1, fr1⟩ w dL_time_20 (Nat.le_of_ble_eq_true rfl) (Nat.le_of_ble_eq_true rfl)

theorem wd_L_time_k26 : Cond.classLink RL 26 "java/lang/IllegalStateException" ∈ wsL_time := by decide +kernel
set_option maxHeartbeats 1000000 in
set_option maxRecDepth 100000 in
theorem x_L_time3 (l : Launch) (hsT : l.stackTraces = false) (D : va_G) (G : Nat → ClassId) (ad : Nat → Nat) (N : Nat) (c : Nat → va_E) {lim : Int} {no dn : Nat} {gn : Nat → Nat} {gg : Nat → Nat → Nat} {dg nn : Nat → Nat} {pt ln : Nat → Nat → Nat} {wi : Nat → Nat → Int} (hN : 139 + 2 * no ≤ N) (hD : DK G ad c lim no dn gn gg dg nn pt ln wi) (hV : SV lim no dn gn gg dg nn pt ln wi) {t i : Nat} (ht : t < 4) (hi : i < nn t) (hlt : ¬ (lessOf (Rr (cwT lim no gn gg nn pt ln wi t) (nn t - 1) 0)) < 1000000)  : MC l yL_time wsL_time rm_L_time [.ref (ad 0), .int (zI (t : Int)), .int (zI (i : Int)), .ref (ad 137)] D G ad N c (qI D G (fx ad N) (fun r c1 => r = zI 3 ∧ DK G ad c1 lim no dn gn gg dg nn pt ln wi ∧ ∀ q, (120 ≤ q ∧ q < 139) → c1 q = c q)) 1 6 := by
  refine MCiH.of (cc := cL_time) (maxL := 5) (by decide) rfl (Nat.le_of_ble_eq_true rfl) ?_
  intro p e s m args below meth kc A Q hx hb hts hown hml htab fin H locs w ls hl
  have hown : s.vm.findClass RL = some m.cls := hown
  have hl : lv_has ls 5 [(0, .ref (ad 0)), (1, .int (zI (t : Int))), (2, .int (zI (i : Int))), (3, .ref (ad 137))] := hl
  refine lv_aload_n hx hb dL_time_0 rfl (lv_at hl 3 rfl) ?_
  refine lv_iconst (v := zI (0)) hx hb dL_time_1 rfl ?_
  refine lv_aload_n hx hb dL_time_2 rfl (lv_at hl 0 rfl) ?_
  refine lv_iload_n hx hb dL_time_3 rfl (lv_at hl 1 rfl) ?_
  refine lv_iload_n hx hb dL_time_4 rfl (lv_at hl 2 rfl) ?_
  refine pw_cx (E0 := xIS) w (pw_runVX (r := 0) (ci := 7) (As := [.int (zI (t : Int)), .int (zI (i : Int))]) (rest := [.int (zI 0), .ref (ad 137)]) w ⟨hx, hb, hml, hown, hts⟩ (x_X7_time3 l hsT D G ad N c hN hD hV (t := t) (i := i) ht hi hlt) (cwV 2 hts gL_time_X7_time rfl rfl rfl (by decide +kernel) ⟨Nat.le_of_ble_eq_true rfl, Nat.le_of_ble_eq_true rfl⟩) (by omega) hD.1 rfl rfl hl.1 rfl (lv_room (Nat.le_of_ble_eq_true rfl)) dL_time_5 ⟨Nat.le_of_ble_eq_true rfl, Nat.le_of_ble_eq_true rfl⟩) (fun c1 ce q9 H locs hp w hce hcv hcl => ?_)
  have w : PW D G A s ad N c1 H locs := w
  obtain ⟨hD1, fr1⟩ := hp
  refine pw_catch w hown [⟨0, 10, 13, 13⟩, ⟨0, 10, 17, 36⟩] ⟨0, 10, 21, 26⟩ [] htab (List.forall_mem_cons.mpr ⟨⟨by decide, xIA, by decide, hts _ wd_L_time_k13⟩, (List.forall_mem_cons.mpr ⟨⟨by decide, xIO, by decide, hts _ wd_L_time_k36⟩, (fun _ h => absurd h List.not_mem_nil)⟩)⟩) (by decide) (by decide) (hts _ wd_L_time_k26) (by decide) hce hcv hcl ?_
  refine lv_astore (lv' := [(4, .ref q9), (0, .ref (ad 0)), (1, .int (zI (t : Int))), (2, .int (zI (i : Int))), (3, .ref (ad 137))]) hx hb dL_time_21 hl (by decide) rfl (fun ls hl => ?_)
  refine lv_iconst (v := zI (3)) hx hb dL_time_23 rfl ?_
  exact fin (ad, N, c1) c1 _ _ _ _ _ _ _ rfl ⟨rfl, hD1, fr1⟩ w dL_time_24 (Nat.le_of_ble_eq_true rfl) (Nat.le_of_ble_eq_true rfl)

abbrev rm_L_fitting : Room := { frames := 9, cells := 1, slots := 6, locals := 270 }
set_option maxHeartbeats 1000000 in
set_option maxRecDepth 100000 in
theorem c_L_fitting (l : Launch) (D : va_G) (G : Nat → ClassId) (ad : Nat → Nat) (N : Nat) (c : Nat → va_E) {lim : Int} {no dn : Nat} {gn : Nat → Nat} {gg : Nat → Nat → Nat} {dg nn : Nat → Nat} {pt ln : Nat → Nat → Nat} {wi : Nat → Nat → Int} (hN : 139 + 2 * no ≤ N) (hD : DK G ad c lim no dn gn gg dg nn pt ln wi) (hV : SV lim no dn gn gg dg nn pt ln wi) {t i : Nat} (ht : t < 4) (hi : i + 1 < nn t) {v0 : Int64} (hO : lnA G (c 137) v0) : MC l yL_fitting wsL_fitting rm_L_fitting [.ref (ad 0), .int (zI (t : Int)), .int (zI (i : Int)), .ref (ad 137)] D G ad N c (qI D G (fx ad N) (fun r c1 => r = zI 0 ∧ lnA G (c1 137) (zI (sumU (fun o => if (cwT lim no gn gg nn pt ln wi t) i (o + 1) < 1000000 then 1 else 0) 8)).toInt64 ∧ DK G ad c1 lim no dn gn gg dg nn pt ln wi ∧ ∀ q, (120 ≤ q ∧ q < 139 ∧ q ≠ 137) → c1 q = c q)) 1 6 := by
  refine MCiH.of (cc := cL_fitting) (maxL := 5) (by decide) rfl (Nat.le_of_ble_eq_true rfl) ?_
  intro p e s m args below meth kc A Q hx hb hts hown hml htab fin H locs w ls hl
  have hown : s.vm.findClass RL = some m.cls := hown
  have hl : lv_has ls 5 [(0, .ref (ad 0)), (1, .int (zI (t : Int))), (2, .int (zI (i : Int))), (3, .ref (ad 137))] := hl
  refine lv_aload_n hx hb dL_fitting_0 rfl (lv_at hl 3 rfl) ?_
  refine lv_iconst (v := zI (0)) hx hb dL_fitting_1 rfl ?_
  refine lv_aload_n hx hb dL_fitting_2 rfl (lv_at hl 0 rfl) ?_
  refine lv_iload_n hx hb dL_fitting_3 rfl (lv_at hl 1 rfl) ?_
  refine lv_iload_n hx hb dL_fitting_4 rfl (lv_at hl 2 rfl) ?_
  refine pw_ci w (pw_runV (r := 0) (ci := 7) (As := [.int (zI (t : Int)), .int (zI (i : Int))]) (rest := [.int (zI 0), .ref (ad 137)]) w ⟨hx, hb, hml, hown, hts⟩ (c_X7_fitting l D G ad N c hN hD hV (t := t) (i := i) ht hi) (cwV 2 hts gL_fitting_X7_fitting rfl rfl rfl (by decide +kernel) ⟨Nat.le_of_ble_eq_true rfl, Nat.le_of_ble_eq_true rfl⟩) (by omega) hD.1 rfl rfl hl.1 rfl (lv_room (Nat.le_of_ble_eq_true rfl)) dL_fitting_5 ⟨Nat.le_of_ble_eq_true rfl, Nat.le_of_ble_eq_true rfl⟩) (fun r_ c1 H locs hp w => ?_)
  have w : PW D G A s ad N c1 H locs := w
  obtain ⟨hv, hD1, fr1⟩ := hp
  subst hv
  refine lv_i2l hx hb dL_fitting_8 rfl ?_
  refine pw_last (r := 137) hx hb w (by omega) (lnA.fr (fr1 137 (by omega)) hO) dL_fitting_9 (fun H locs c2 hc2 fr2 w => ?_)
  refine lv_goto (tgt := 21) hx hb dL_fitting_10 (by decide) ?_
  refine lv_iconst (v := zI (0)) hx hb dL_fitting_21 rfl ?_
  exact fin (ad, N, c2) c2 _ _ _ _ _ _ _ rfl ⟨rfl, hc2, hD1.fr (fun q hq => fr2 q (by omega)), fun q hq => (fr2 q (by omega)).trans (fr1 q (by omega))⟩ w dL_fitting_22 (Nat.le_of_ble_eq_true rfl) (Nat.le_of_ble_eq_true rfl)

theorem wd_L_fitting_k13 : Cond.classLink RL 13 "java/lang/IllegalArgumentException" ∈ wsL_fitting := by decide +kernel
set_option maxHeartbeats 1000000 in
set_option maxRecDepth 100000 in
theorem x_L_fitting1 (l : Launch) (hsT : l.stackTraces = false) (D : va_G) (G : Nat → ClassId) (ad : Nat → Nat) (N : Nat) (c : Nat → va_E) {lim : Int} {no dn : Nat} {gn : Nat → Nat} {gg : Nat → Nat → Nat} {dg nn : Nat → Nat} {pt ln : Nat → Nat → Nat} {wi : Nat → Nat → Int} (hN : 139 + 2 * no ≤ N) (hD : DK G ad c lim no dn gn gg dg nn pt ln wi) (hV : SV lim no dn gn gg dg nn pt ln wi) {zt : Int} (hbzt : bnd zt) (hbad : ¬ (0 ≤ zt ∧ zt ≤ 3)) {zi : Int}  : MC l yL_fitting wsL_fitting rm_L_fitting [.ref (ad 0), .int (zI zt), .int (zI zi), .ref (ad 137)] D G ad N c (qI D G (fx ad N) (fun r c1 => r = zI 1 ∧ DK G ad c1 lim no dn gn gg dg nn pt ln wi ∧ ∀ q, (120 ≤ q ∧ q < 139) → c1 q = c q)) 1 6 := by
  refine MCiH.of (cc := cL_fitting) (maxL := 5) (by decide) rfl (Nat.le_of_ble_eq_true rfl) ?_
  intro p e s m args below meth kc A Q hx hb hts hown hml htab fin H locs w ls hl
  have hown : s.vm.findClass RL = some m.cls := hown
  have hl : lv_has ls 5 [(0, .ref (ad 0)), (1, .int (zI zt)), (2, .int (zI zi)), (3, .ref (ad 137))] := hl
  refine lv_aload_n hx hb dL_fitting_0 rfl (lv_at hl 3 rfl) ?_
  refine lv_iconst (v := zI (0)) hx hb dL_fitting_1 rfl ?_
  refine lv_aload_n hx hb dL_fitting_2 rfl (lv_at hl 0 rfl) ?_
  refine lv_iload_n hx hb dL_fitting_3 rfl (lv_at hl 1 rfl) ?_
  refine lv_iload_n hx hb dL_fitting_4 rfl (lv_at hl 2 rfl) ?_
  refine pw_cx (E0 := xIA) w (pw_runVX (r := 0) (ci := 7) (As := [.int (zI zt), .int (zI zi)]) (rest := [.int (zI 0), .ref (ad 137)]) w ⟨hx, hb, hml, hown, hts⟩ (x_X7_fitting1 l hsT D G ad N c hN hD hV (zt := zt) hbzt hbad (zi := zi)) (cwV 2 hts gL_fitting_X7_fitting rfl rfl rfl (by decide +kernel) ⟨Nat.le_of_ble_eq_true rfl, Nat.le_of_ble_eq_true rfl⟩) (by omega) hD.1 rfl rfl hl.1 rfl (lv_room (Nat.le_of_ble_eq_true rfl)) dL_fitting_5 ⟨Nat.le_of_ble_eq_true rfl, Nat.le_of_ble_eq_true rfl⟩) (fun c1 ce q9 H locs hp w hce hcv hcl => ?_)
  have w : PW D G A s ad N c1 H locs := w
  obtain ⟨hD1, fr1⟩ := hp
  refine pw_catch w hown [] ⟨0, 10, 13, 13⟩ [⟨0, 10, 17, 36⟩] htab (fun _ h => absurd h List.not_mem_nil) (by decide) (by decide) (hts _ wd_L_fitting_k13) (by decide) hce hcv hcl ?_
  refine lv_astore (lv' := [(4, .ref q9), (0, .ref (ad 0)), (1, .int (zI zt)), (2, .int (zI zi)), (3, .ref (ad 137))]) hx hb dL_fitting_13 hl (by decide) rfl (fun ls hl => ?_)
  refine lv_iconst (v := zI (1)) hx hb dL_fitting_15 rfl ?_
  exact fin (ad, N, c1) c1 _ _ _ _ _ _ _ rfl ⟨rfl, hD1, fr1⟩ w dL_fitting_16 (Nat.le_of_ble_eq_true rfl) (Nat.le_of_ble_eq_true rfl)

theorem wd_L_fitting_k36 : Cond.classLink RL 36 "java/lang/IndexOutOfBoundsException" ∈ wsL_fitting := by decide +kernel
set_option maxHeartbeats 1000000 in
set_option maxRecDepth 100000 in
theorem x_L_fitting2 (l : Launch) (hsT : l.stackTraces = false) (D : va_G) (G : Nat → ClassId) (ad : Nat → Nat) (N : Nat) (c : Nat → va_E) {lim : Int} {no dn : Nat} {gn : Nat → Nat} {gg : Nat → Nat → Nat} {dg nn : Nat → Nat} {pt ln : Nat → Nat → Nat} {wi : Nat → Nat → Int} (hN : 139 + 2 * no ≤ N) (hD : DK G ad c lim no dn gn gg dg nn pt ln wi) (hV : SV lim no dn gn gg dg nn pt ln wi) {t : Nat} (ht : t < 4) {zi : Int} (hbzi : bnd zi) (hbad : ¬ (0 ≤ zi ∧ zi ≤ (nn t : Int) - 2))  : MC l yL_fitting wsL_fitting rm_L_fitting [.ref (ad 0), .int (zI (t : Int)), .int (zI zi), .ref (ad 137)] D G ad N c (qI D G (fx ad N) (fun r c1 => r = zI 2 ∧ DK G ad c1 lim no dn gn gg dg nn pt ln wi ∧ ∀ q, (120 ≤ q ∧ q < 139) → c1 q = c q)) 1 6 := by
  refine MCiH.of (cc := cL_fitting) (maxL := 5) (by decide) rfl (Nat.le_of_ble_eq_true rfl) ?_
  intro p e s m args below meth kc A Q hx hb hts hown hml htab fin H locs w ls hl
  have hown : s.vm.findClass RL = some m.cls := hown
  have hl : lv_has ls 5 [(0, .ref (ad 0)), (1, .int (zI (t : Int))), (2, .int (zI zi)), (3, .ref (ad 137))] := hl
  refine lv_aload_n hx hb dL_fitting_0 rfl (lv_at hl 3 rfl) ?_
  refine lv_iconst (v := zI (0)) hx hb dL_fitting_1 rfl ?_
  refine lv_aload_n hx hb dL_fitting_2 rfl (lv_at hl 0 rfl) ?_
  refine lv_iload_n hx hb dL_fitting_3 rfl (lv_at hl 1 rfl) ?_
  refine lv_iload_n hx hb dL_fitting_4 rfl (lv_at hl 2 rfl) ?_
  refine pw_cx (E0 := xIO) w (pw_runVX (r := 0) (ci := 7) (As := [.int (zI (t : Int)), .int (zI zi)]) (rest := [.int (zI 0), .ref (ad 137)]) w ⟨hx, hb, hml, hown, hts⟩ (x_X7_fitting2 l hsT D G ad N c hN hD hV (t := t) ht (zi := zi) hbzi hbad) (cwV 2 hts gL_fitting_X7_fitting rfl rfl rfl (by decide +kernel) ⟨Nat.le_of_ble_eq_true rfl, Nat.le_of_ble_eq_true rfl⟩) (by omega) hD.1 rfl rfl hl.1 rfl (lv_room (Nat.le_of_ble_eq_true rfl)) dL_fitting_5 ⟨Nat.le_of_ble_eq_true rfl, Nat.le_of_ble_eq_true rfl⟩) (fun c1 ce q9 H locs hp w hce hcv hcl => ?_)
  have w : PW D G A s ad N c1 H locs := w
  obtain ⟨hD1, fr1⟩ := hp
  refine pw_catch w hown [⟨0, 10, 13, 13⟩] ⟨0, 10, 17, 36⟩ [] htab (List.forall_mem_cons.mpr ⟨⟨by decide, xIA, by decide, hts _ wd_L_fitting_k13⟩, (fun _ h => absurd h List.not_mem_nil)⟩) (by decide) (by decide) (hts _ wd_L_fitting_k36) (by decide) hce hcv hcl ?_
  refine lv_astore (lv' := [(4, .ref q9), (0, .ref (ad 0)), (1, .int (zI (t : Int))), (2, .int (zI zi)), (3, .ref (ad 137))]) hx hb dL_fitting_17 hl (by decide) rfl (fun ls hl => ?_)
  refine lv_iconst (v := zI (2)) hx hb dL_fitting_19 rfl ?_
  exact fin (ad, N, c1) c1 _ _ _ _ _ _ _ rfl ⟨rfl, hD1, fr1⟩ w dL_fitting_20 (Nat.le_of_ble_eq_true rfl) (Nat.le_of_ble_eq_true rfl)

abbrev rm_L_choices : Room := { frames := 9, cells := 1, slots := 6, locals := 270 }
set_option maxHeartbeats 1000000 in
set_option maxRecDepth 100000 in
theorem c_L_choices (l : Launch) (D : va_G) (G : Nat → ClassId) (ad : Nat → Nat) (N : Nat) (c : Nat → va_E) {lim : Int} {no dn : Nat} {gn : Nat → Nat} {gg : Nat → Nat → Nat} {dg nn : Nat → Nat} {pt ln : Nat → Nat → Nat} {wi : Nat → Nat → Int} (hN : 139 + 2 * no ≤ N) (hD : DK G ad c lim no dn gn gg dg nn pt ln wi) (hV : SV lim no dn gn gg dg nn pt ln wi) {t : Nat} (ht : t < 4) {v0 : Int64} (hO : lnA G (c 137) v0) : MC l yL_choices wsL_choices rm_L_choices [.ref (ad 0), .int (zI (t : Int)), .ref (ad 137)] D G ad N c (qI D G (fx ad N) (fun r c1 => r = zI 0 ∧ lnA G (c1 137) (zI ((cS (cwT lim no gn gg nn pt ln wi t) (nn t - 1)).2)).toInt64 ∧ DK G ad c1 lim no dn gn gg dg nn pt ln wi ∧ ∀ q, (120 ≤ q ∧ q < 139 ∧ q ≠ 137) → c1 q = c q)) 1 6 := by
  refine MCiH.of (cc := cL_choices) (maxL := 4) (by decide) rfl (Nat.le_of_ble_eq_true rfl) ?_
  intro p e s m args below meth kc A Q hx hb hts hown hml htab fin H locs w ls hl
  have hown : s.vm.findClass RL = some m.cls := hown
  have hl : lv_has ls 4 [(0, .ref (ad 0)), (1, .int (zI (t : Int))), (2, .ref (ad 137))] := hl
  refine lv_aload_n hx hb dL_choices_0 rfl (lv_at hl 2 rfl) ?_
  refine lv_iconst (v := zI (0)) hx hb dL_choices_1 rfl ?_
  refine lv_aload_n hx hb dL_choices_2 rfl (lv_at hl 0 rfl) ?_
  refine lv_iload_n hx hb dL_choices_3 rfl (lv_at hl 1 rfl) ?_
  refine pw_ci w (pw_runV (r := 0) (ci := 7) (As := [.int (zI (t : Int))]) (rest := [.int (zI 0), .ref (ad 137)]) w ⟨hx, hb, hml, hown, hts⟩ (c_X7_choices l D G ad N c hN hD hV (t := t) ht) (cwV 1 hts gL_choices_X7_choices rfl rfl rfl (by decide +kernel) ⟨Nat.le_of_ble_eq_true rfl, Nat.le_of_ble_eq_true rfl⟩) (by omega) hD.1 rfl rfl hl.1 rfl (lv_room (Nat.le_of_ble_eq_true rfl)) dL_choices_4 ⟨Nat.le_of_ble_eq_true rfl, Nat.le_of_ble_eq_true rfl⟩) (fun r_ c1 H locs hp w => ?_)
  have w : PW D G A s ad N c1 H locs := w
  obtain ⟨hv, hD1, fr1⟩ := hp
  subst hv
  refine lv_i2l hx hb dL_choices_7 rfl ?_
  refine pw_last (r := 137) hx hb w (by omega) (lnA.fr (fr1 137 (by omega)) hO) dL_choices_8 (fun H locs c2 hc2 fr2 w => ?_)
  refine lv_goto (tgt := 15) hx hb dL_choices_9 (by decide) ?_
  refine lv_iconst (v := zI (0)) hx hb dL_choices_15 rfl ?_
  exact fin (ad, N, c2) c2 _ _ _ _ _ _ _ rfl ⟨rfl, hc2, hD1.fr (fun q hq => fr2 q (by omega)), fun q hq => (fr2 q (by omega)).trans (fr1 q (by omega))⟩ w dL_choices_16 (Nat.le_of_ble_eq_true rfl) (Nat.le_of_ble_eq_true rfl)

theorem wd_L_choices_k13 : Cond.classLink RL 13 "java/lang/IllegalArgumentException" ∈ wsL_choices := by decide +kernel
set_option maxHeartbeats 1000000 in
set_option maxRecDepth 100000 in
theorem x_L_choices (l : Launch) (hsT : l.stackTraces = false) (D : va_G) (G : Nat → ClassId) (ad : Nat → Nat) (N : Nat) (c : Nat → va_E) {lim : Int} {no dn : Nat} {gn : Nat → Nat} {gg : Nat → Nat → Nat} {dg nn : Nat → Nat} {pt ln : Nat → Nat → Nat} {wi : Nat → Nat → Int} (hN : 139 + 2 * no ≤ N) (hD : DK G ad c lim no dn gn gg dg nn pt ln wi) (hV : SV lim no dn gn gg dg nn pt ln wi) {zt : Int} (hbzt : bnd zt) (hbad : ¬ (0 ≤ zt ∧ zt ≤ 3))  : MC l yL_choices wsL_choices rm_L_choices [.ref (ad 0), .int (zI zt), .ref (ad 137)] D G ad N c (qI D G (fx ad N) (fun r c1 => r = zI 1 ∧ DK G ad c1 lim no dn gn gg dg nn pt ln wi ∧ ∀ q, (120 ≤ q ∧ q < 139) → c1 q = c q)) 1 6 := by
  refine MCiH.of (cc := cL_choices) (maxL := 4) (by decide) rfl (Nat.le_of_ble_eq_true rfl) ?_
  intro p e s m args below meth kc A Q hx hb hts hown hml htab fin H locs w ls hl
  have hown : s.vm.findClass RL = some m.cls := hown
  have hl : lv_has ls 4 [(0, .ref (ad 0)), (1, .int (zI zt)), (2, .ref (ad 137))] := hl
  refine lv_aload_n hx hb dL_choices_0 rfl (lv_at hl 2 rfl) ?_
  refine lv_iconst (v := zI (0)) hx hb dL_choices_1 rfl ?_
  refine lv_aload_n hx hb dL_choices_2 rfl (lv_at hl 0 rfl) ?_
  refine lv_iload_n hx hb dL_choices_3 rfl (lv_at hl 1 rfl) ?_
  refine pw_cx (E0 := xIA) w (pw_runVX (r := 0) (ci := 7) (As := [.int (zI zt)]) (rest := [.int (zI 0), .ref (ad 137)]) w ⟨hx, hb, hml, hown, hts⟩ (x_X7_choices l hsT D G ad N c hN hD hV (zt := zt) hbzt hbad) (cwV 1 hts gL_choices_X7_choices rfl rfl rfl (by decide +kernel) ⟨Nat.le_of_ble_eq_true rfl, Nat.le_of_ble_eq_true rfl⟩) (by omega) hD.1 rfl rfl hl.1 rfl (lv_room (Nat.le_of_ble_eq_true rfl)) dL_choices_4 ⟨Nat.le_of_ble_eq_true rfl, Nat.le_of_ble_eq_true rfl⟩) (fun c1 ce q9 H locs hp w hce hcv hcl => ?_)
  have w : PW D G A s ad N c1 H locs := w
  obtain ⟨hD1, fr1⟩ := hp
  refine pw_catch w hown [] ⟨0, 9, 12, 13⟩ [] htab (fun _ h => absurd h List.not_mem_nil) (by decide) (by decide) (hts _ wd_L_choices_k13) (by decide) hce hcv hcl ?_
  refine lv_astore_n (lv' := [(3, .ref q9), (0, .ref (ad 0)), (1, .int (zI zt)), (2, .ref (ad 137))]) hx hb dL_choices_12 rfl hl (by decide) rfl (fun ls hl => ?_)
  refine lv_iconst (v := zI (1)) hx hb dL_choices_13 rfl ?_
  exact fin (ad, N, c1) c1 _ _ _ _ _ _ _ rfl ⟨rfl, hD1, fr1⟩ w dL_choices_14 (Nat.le_of_ble_eq_true rfl) (Nat.le_of_ble_eq_true rfl)

abbrev rm_L_least : Room := { frames := 9, cells := 1, slots := 6, locals := 270 }
set_option maxHeartbeats 1000000 in
set_option maxRecDepth 100000 in
theorem c_L_least (l : Launch) (D : va_G) (G : Nat → ClassId) (ad : Nat → Nat) (N : Nat) (c : Nat → va_E) {lim : Int} {no dn : Nat} {gn : Nat → Nat} {gg : Nat → Nat → Nat} {dg nn : Nat → Nat} {pt ln : Nat → Nat → Nat} {wi : Nat → Nat → Int} (hN : 139 + 2 * no ≤ N) (hD : DK G ad c lim no dn gn gg dg nn pt ln wi) (hV : SV lim no dn gn gg dg nn pt ln wi) {t : Nat} (ht : t < 4) (hlt : (lessOf (Rr (cwT lim no gn gg nn pt ln wi t) (nn t - 1) 0)) < 1000000) {v0 : Int64} (hO : lnA G (c 137) v0) : MC l yL_least wsL_least rm_L_least [.ref (ad 0), .int (zI (t : Int)), .ref (ad 137)] D G ad N c (qI D G (fx ad N) (fun r c1 => r = zI 0 ∧ lnA G (c1 137) (zI (lessOf (Rr (cwT lim no gn gg nn pt ln wi t) (nn t - 1) 0))).toInt64 ∧ DK G ad c1 lim no dn gn gg dg nn pt ln wi ∧ ∀ q, (120 ≤ q ∧ q < 139 ∧ q ≠ 137) → c1 q = c q)) 1 6 := by
  refine MCiH.of (cc := cL_least) (maxL := 4) (by decide) rfl (Nat.le_of_ble_eq_true rfl) ?_
  intro p e s m args below meth kc A Q hx hb hts hown hml htab fin H locs w ls hl
  have hown : s.vm.findClass RL = some m.cls := hown
  have hl : lv_has ls 4 [(0, .ref (ad 0)), (1, .int (zI (t : Int))), (2, .ref (ad 137))] := hl
  refine lv_aload_n hx hb dL_least_0 rfl (lv_at hl 2 rfl) ?_
  refine lv_iconst (v := zI (0)) hx hb dL_least_1 rfl ?_
  refine lv_aload_n hx hb dL_least_2 rfl (lv_at hl 0 rfl) ?_
  refine lv_iload_n hx hb dL_least_3 rfl (lv_at hl 1 rfl) ?_
  refine pw_ci w (pw_runV (r := 0) (ci := 7) (As := [.int (zI (t : Int))]) (rest := [.int (zI 0), .ref (ad 137)]) w ⟨hx, hb, hml, hown, hts⟩ (c_X7_least l D G ad N c hN hD hV (t := t) ht hlt) (cwV 1 hts gL_least_X7_least rfl rfl rfl (by decide +kernel) ⟨Nat.le_of_ble_eq_true rfl, Nat.le_of_ble_eq_true rfl⟩) (by omega) hD.1 rfl rfl hl.1 rfl (lv_room (Nat.le_of_ble_eq_true rfl)) dL_least_4 ⟨Nat.le_of_ble_eq_true rfl, Nat.le_of_ble_eq_true rfl⟩) (fun r_ c1 H locs hp w => ?_)
  have w : PW D G A s ad N c1 H locs := w
  obtain ⟨hv, hD1, fr1⟩ := hp
  subst hv
  refine lv_i2l hx hb dL_least_7 rfl ?_
  refine pw_last (r := 137) hx hb w (by omega) (lnA.fr (fr1 137 (by omega)) hO) dL_least_8 (fun H locs c2 hc2 fr2 w => ?_)
  refine lv_goto (tgt := 18) hx hb dL_least_9 (by decide) ?_
  refine lv_iconst (v := zI (0)) hx hb dL_least_18 rfl ?_
  exact fin (ad, N, c2) c2 _ _ _ _ _ _ _ rfl ⟨rfl, hc2, hD1.fr (fun q hq => fr2 q (by omega)), fun q hq => (fr2 q (by omega)).trans (fr1 q (by omega))⟩ w dL_least_19 (Nat.le_of_ble_eq_true rfl) (Nat.le_of_ble_eq_true rfl)

theorem wd_L_least_k13 : Cond.classLink RL 13 "java/lang/IllegalArgumentException" ∈ wsL_least := by decide +kernel
set_option maxHeartbeats 1000000 in
set_option maxRecDepth 100000 in
theorem x_L_least1 (l : Launch) (hsT : l.stackTraces = false) (D : va_G) (G : Nat → ClassId) (ad : Nat → Nat) (N : Nat) (c : Nat → va_E) {lim : Int} {no dn : Nat} {gn : Nat → Nat} {gg : Nat → Nat → Nat} {dg nn : Nat → Nat} {pt ln : Nat → Nat → Nat} {wi : Nat → Nat → Int} (hN : 139 + 2 * no ≤ N) (hD : DK G ad c lim no dn gn gg dg nn pt ln wi) (hV : SV lim no dn gn gg dg nn pt ln wi) {zt : Int} (hbzt : bnd zt) (hbad : ¬ (0 ≤ zt ∧ zt ≤ 3))  : MC l yL_least wsL_least rm_L_least [.ref (ad 0), .int (zI zt), .ref (ad 137)] D G ad N c (qI D G (fx ad N) (fun r c1 => r = zI 1 ∧ DK G ad c1 lim no dn gn gg dg nn pt ln wi ∧ ∀ q, (120 ≤ q ∧ q < 139) → c1 q = c q)) 1 6 := by
  refine MCiH.of (cc := cL_least) (maxL := 4) (by decide) rfl (Nat.le_of_ble_eq_true rfl) ?_
  intro p e s m args below meth kc A Q hx hb hts hown hml htab fin H locs w ls hl
  have hown : s.vm.findClass RL = some m.cls := hown
  have hl : lv_has ls 4 [(0, .ref (ad 0)), (1, .int (zI zt)), (2, .ref (ad 137))] := hl
  refine lv_aload_n hx hb dL_least_0 rfl (lv_at hl 2 rfl) ?_
  refine lv_iconst (v := zI (0)) hx hb dL_least_1 rfl ?_
  refine lv_aload_n hx hb dL_least_2 rfl (lv_at hl 0 rfl) ?_
  refine lv_iload_n hx hb dL_least_3 rfl (lv_at hl 1 rfl) ?_
  refine pw_cx (E0 := xIA) w (pw_runVX (r := 0) (ci := 7) (As := [.int (zI zt)]) (rest := [.int (zI 0), .ref (ad 137)]) w ⟨hx, hb, hml, hown, hts⟩ (x_X7_least1 l hsT D G ad N c hN hD hV (zt := zt) hbzt hbad) (cwV 1 hts gL_least_X7_least rfl rfl rfl (by decide +kernel) ⟨Nat.le_of_ble_eq_true rfl, Nat.le_of_ble_eq_true rfl⟩) (by omega) hD.1 rfl rfl hl.1 rfl (lv_room (Nat.le_of_ble_eq_true rfl)) dL_least_4 ⟨Nat.le_of_ble_eq_true rfl, Nat.le_of_ble_eq_true rfl⟩) (fun c1 ce q9 H locs hp w hce hcv hcl => ?_)
  have w : PW D G A s ad N c1 H locs := w
  obtain ⟨hD1, fr1⟩ := hp
  refine pw_catch w hown [] ⟨0, 9, 12, 13⟩ [⟨0, 9, 15, 26⟩] htab (fun _ h => absurd h List.not_mem_nil) (by decide) (by decide) (hts _ wd_L_least_k13) (by decide) hce hcv hcl ?_
  refine lv_astore_n (lv' := [(3, .ref q9), (0, .ref (ad 0)), (1, .int (zI zt)), (2, .ref (ad 137))]) hx hb dL_least_12 rfl hl (by decide) rfl (fun ls hl => ?_)
  refine lv_iconst (v := zI (1)) hx hb dL_least_13 rfl ?_
  exact fin (ad, N, c1) c1 _ _ _ _ _ _ _ rfl ⟨rfl, hD1, fr1⟩ w dL_least_14 (Nat.le_of_ble_eq_true rfl) (Nat.le_of_ble_eq_true rfl)

theorem wd_L_least_k26 : Cond.classLink RL 26 "java/lang/IllegalStateException" ∈ wsL_least := by decide +kernel
set_option maxHeartbeats 1000000 in
set_option maxRecDepth 100000 in
theorem x_L_least2 (l : Launch) (hsT : l.stackTraces = false) (D : va_G) (G : Nat → ClassId) (ad : Nat → Nat) (N : Nat) (c : Nat → va_E) {lim : Int} {no dn : Nat} {gn : Nat → Nat} {gg : Nat → Nat → Nat} {dg nn : Nat → Nat} {pt ln : Nat → Nat → Nat} {wi : Nat → Nat → Int} (hN : 139 + 2 * no ≤ N) (hD : DK G ad c lim no dn gn gg dg nn pt ln wi) (hV : SV lim no dn gn gg dg nn pt ln wi) {t : Nat} (ht : t < 4) (hlt : ¬ (lessOf (Rr (cwT lim no gn gg nn pt ln wi t) (nn t - 1) 0)) < 1000000)  : MC l yL_least wsL_least rm_L_least [.ref (ad 0), .int (zI (t : Int)), .ref (ad 137)] D G ad N c (qI D G (fx ad N) (fun r c1 => r = zI 2 ∧ DK G ad c1 lim no dn gn gg dg nn pt ln wi ∧ ∀ q, (120 ≤ q ∧ q < 139) → c1 q = c q)) 1 6 := by
  refine MCiH.of (cc := cL_least) (maxL := 4) (by decide) rfl (Nat.le_of_ble_eq_true rfl) ?_
  intro p e s m args below meth kc A Q hx hb hts hown hml htab fin H locs w ls hl
  have hown : s.vm.findClass RL = some m.cls := hown
  have hl : lv_has ls 4 [(0, .ref (ad 0)), (1, .int (zI (t : Int))), (2, .ref (ad 137))] := hl
  refine lv_aload_n hx hb dL_least_0 rfl (lv_at hl 2 rfl) ?_
  refine lv_iconst (v := zI (0)) hx hb dL_least_1 rfl ?_
  refine lv_aload_n hx hb dL_least_2 rfl (lv_at hl 0 rfl) ?_
  refine lv_iload_n hx hb dL_least_3 rfl (lv_at hl 1 rfl) ?_
  refine pw_cx (E0 := xIS) w (pw_runVX (r := 0) (ci := 7) (As := [.int (zI (t : Int))]) (rest := [.int (zI 0), .ref (ad 137)]) w ⟨hx, hb, hml, hown, hts⟩ (x_X7_least2 l hsT D G ad N c hN hD hV (t := t) ht hlt) (cwV 1 hts gL_least_X7_least rfl rfl rfl (by decide +kernel) ⟨Nat.le_of_ble_eq_true rfl, Nat.le_of_ble_eq_true rfl⟩) (by omega) hD.1 rfl rfl hl.1 rfl (lv_room (Nat.le_of_ble_eq_true rfl)) dL_least_4 ⟨Nat.le_of_ble_eq_true rfl, Nat.le_of_ble_eq_true rfl⟩) (fun c1 ce q9 H locs hp w hce hcv hcl => ?_)
  have w : PW D G A s ad N c1 H locs := w
  obtain ⟨hD1, fr1⟩ := hp
  refine pw_catch w hown [⟨0, 9, 12, 13⟩] ⟨0, 9, 15, 26⟩ [] htab (List.forall_mem_cons.mpr ⟨⟨by decide, xIA, by decide, hts _ wd_L_least_k13⟩, (fun _ h => absurd h List.not_mem_nil)⟩) (by decide) (by decide) (hts _ wd_L_least_k26) (by decide) hce hcv hcl ?_
  refine lv_astore_n (lv' := [(3, .ref q9), (0, .ref (ad 0)), (1, .int (zI (t : Int))), (2, .ref (ad 137))]) hx hb dL_least_15 rfl hl (by decide) rfl (fun ls hl => ?_)
  refine lv_iconst (v := zI (2)) hx hb dL_least_16 rfl ?_
  exact fin (ad, N, c1) c1 _ _ _ _ _ _ _ rfl ⟨rfl, hD1, fr1⟩ w dL_least_17 (Nat.le_of_ble_eq_true rfl) (Nat.le_of_ble_eq_true rfl)

abbrev rm_L_chosen : Room := { frames := 9, cells := 1, slots := 6, locals := 270 }
set_option maxHeartbeats 1000000 in
set_option maxRecDepth 100000 in
theorem c_L_chosen (l : Launch) (D : va_G) (G : Nat → ClassId) (ad : Nat → Nat) (N : Nat) (c : Nat → va_E) {lim : Int} {no dn : Nat} {gn : Nat → Nat} {gg : Nat → Nat → Nat} {dg nn : Nat → Nat} {pt ln : Nat → Nat → Nat} {wi : Nat → Nat → Int} (hN : 139 + 2 * no ≤ N) (hD : DK G ad c lim no dn gn gg dg nn pt ln wi) (hV : SV lim no dn gn gg dg nn pt ln wi) {t i : Nat} (ht : t < 4) (hi : i + 1 < nn t) (hlt : (lessOf (Rr (cwT lim no gn gg nn pt ln wi t) (nn t - 1) 0)) < 1000000) {v0 : Int64} (hO : lnA G (c 137) v0) : MC l yL_chosen wsL_chosen rm_L_chosen [.ref (ad 0), .int (zI (t : Int)), .int (zI (i : Int)), .ref (ad 137)] D G ad N c (qI D G (fx ad N) (fun r c1 => r = zI 0 ∧ lnA G (c1 137) (zI (((optN (fun i => Rr (cwT lim no gn gg nn pt ln wi t) (nn t - 1 - i) i) (i + 1)) : Int) - 1)).toInt64 ∧ DK G ad c1 lim no dn gn gg dg nn pt ln wi ∧ ∀ q, (120 ≤ q ∧ q < 139 ∧ q ≠ 137) → c1 q = c q)) 1 6 := by
  refine MCiH.of (cc := cL_chosen) (maxL := 5) (by decide) rfl (Nat.le_of_ble_eq_true rfl) ?_
  intro p e s m args below meth kc A Q hx hb hts hown hml htab fin H locs w ls hl
  have hown : s.vm.findClass RL = some m.cls := hown
  have hl : lv_has ls 5 [(0, .ref (ad 0)), (1, .int (zI (t : Int))), (2, .int (zI (i : Int))), (3, .ref (ad 137))] := hl
  refine lv_aload_n hx hb dL_chosen_0 rfl (lv_at hl 3 rfl) ?_
  refine lv_iconst (v := zI (0)) hx hb dL_chosen_1 rfl ?_
  refine lv_aload_n hx hb dL_chosen_2 rfl (lv_at hl 0 rfl) ?_
  refine lv_iload_n hx hb dL_chosen_3 rfl (lv_at hl 1 rfl) ?_
  refine lv_iload_n hx hb dL_chosen_4 rfl (lv_at hl 2 rfl) ?_
  refine pw_ci w (pw_runV (r := 0) (ci := 7) (As := [.int (zI (t : Int)), .int (zI (i : Int))]) (rest := [.int (zI 0), .ref (ad 137)]) w ⟨hx, hb, hml, hown, hts⟩ (c_X7_chosen l D G ad N c hN hD hV (t := t) (i := i) ht hi hlt) (cwV 2 hts gL_chosen_X7_chosen rfl rfl rfl (by decide +kernel) ⟨Nat.le_of_ble_eq_true rfl, Nat.le_of_ble_eq_true rfl⟩) (by omega) hD.1 rfl rfl hl.1 rfl (lv_room (Nat.le_of_ble_eq_true rfl)) dL_chosen_5 ⟨Nat.le_of_ble_eq_true rfl, Nat.le_of_ble_eq_true rfl⟩) (fun r_ c1 H locs hp w => ?_)
  have w : PW D G A s ad N c1 H locs := w
  obtain ⟨hv, hD1, fr1⟩ := hp
  subst hv
  refine lv_i2l hx hb dL_chosen_8 rfl ?_
  refine pw_last (r := 137) hx hb w (by omega) (lnA.fr (fr1 137 (by omega)) hO) dL_chosen_9 (fun H locs c2 hc2 fr2 w => ?_)
  refine lv_goto (tgt := 25) hx hb dL_chosen_10 (by decide) ?_
  refine lv_iconst (v := zI (0)) hx hb dL_chosen_25 rfl ?_
  exact fin (ad, N, c2) c2 _ _ _ _ _ _ _ rfl ⟨rfl, hc2, hD1.fr (fun q hq => fr2 q (by omega)), fun q hq => (fr2 q (by omega)).trans (fr1 q (by omega))⟩ w dL_chosen_26 (Nat.le_of_ble_eq_true rfl) (Nat.le_of_ble_eq_true rfl)

theorem wd_L_chosen_k13 : Cond.classLink RL 13 "java/lang/IllegalArgumentException" ∈ wsL_chosen := by decide +kernel
set_option maxHeartbeats 1000000 in
set_option maxRecDepth 100000 in
theorem x_L_chosen1 (l : Launch) (hsT : l.stackTraces = false) (D : va_G) (G : Nat → ClassId) (ad : Nat → Nat) (N : Nat) (c : Nat → va_E) {lim : Int} {no dn : Nat} {gn : Nat → Nat} {gg : Nat → Nat → Nat} {dg nn : Nat → Nat} {pt ln : Nat → Nat → Nat} {wi : Nat → Nat → Int} (hN : 139 + 2 * no ≤ N) (hD : DK G ad c lim no dn gn gg dg nn pt ln wi) (hV : SV lim no dn gn gg dg nn pt ln wi) {zt : Int} (hbzt : bnd zt) (hbad : ¬ (0 ≤ zt ∧ zt ≤ 3)) {zi : Int}  : MC l yL_chosen wsL_chosen rm_L_chosen [.ref (ad 0), .int (zI zt), .int (zI zi), .ref (ad 137)] D G ad N c (qI D G (fx ad N) (fun r c1 => r = zI 1 ∧ DK G ad c1 lim no dn gn gg dg nn pt ln wi ∧ ∀ q, (120 ≤ q ∧ q < 139) → c1 q = c q)) 1 6 := by
  refine MCiH.of (cc := cL_chosen) (maxL := 5) (by decide) rfl (Nat.le_of_ble_eq_true rfl) ?_
  intro p e s m args below meth kc A Q hx hb hts hown hml htab fin H locs w ls hl
  have hown : s.vm.findClass RL = some m.cls := hown
  have hl : lv_has ls 5 [(0, .ref (ad 0)), (1, .int (zI zt)), (2, .int (zI zi)), (3, .ref (ad 137))] := hl
  refine lv_aload_n hx hb dL_chosen_0 rfl (lv_at hl 3 rfl) ?_
  refine lv_iconst (v := zI (0)) hx hb dL_chosen_1 rfl ?_
  refine lv_aload_n hx hb dL_chosen_2 rfl (lv_at hl 0 rfl) ?_
  refine lv_iload_n hx hb dL_chosen_3 rfl (lv_at hl 1 rfl) ?_
  refine lv_iload_n hx hb dL_chosen_4 rfl (lv_at hl 2 rfl) ?_
  refine pw_cx (E0 := xIA) w (pw_runVX (r := 0) (ci := 7) (As := [.int (zI zt), .int (zI zi)]) (rest := [.int (zI 0), .ref (ad 137)]) w ⟨hx, hb, hml, hown, hts⟩ (x_X7_chosen1 l hsT D G ad N c hN hD hV (zt := zt) hbzt hbad (zi := zi)) (cwV 2 hts gL_chosen_X7_chosen rfl rfl rfl (by decide +kernel) ⟨Nat.le_of_ble_eq_true rfl, Nat.le_of_ble_eq_true rfl⟩) (by omega) hD.1 rfl rfl hl.1 rfl (lv_room (Nat.le_of_ble_eq_true rfl)) dL_chosen_5 ⟨Nat.le_of_ble_eq_true rfl, Nat.le_of_ble_eq_true rfl⟩) (fun c1 ce q9 H locs hp w hce hcv hcl => ?_)
  have w : PW D G A s ad N c1 H locs := w
  obtain ⟨hD1, fr1⟩ := hp
  refine pw_catch w hown [] ⟨0, 10, 13, 13⟩ [⟨0, 10, 17, 36⟩, ⟨0, 10, 21, 26⟩] htab (fun _ h => absurd h List.not_mem_nil) (by decide) (by decide) (hts _ wd_L_chosen_k13) (by decide) hce hcv hcl ?_
  refine lv_astore (lv' := [(4, .ref q9), (0, .ref (ad 0)), (1, .int (zI zt)), (2, .int (zI zi)), (3, .ref (ad 137))]) hx hb dL_chosen_13 hl (by decide) rfl (fun ls hl => ?_)
  refine lv_iconst (v := zI (1)) hx hb dL_chosen_15 rfl ?_
  exact fin (ad, N, c1) c1 _ _ _ _ _ _ _ rfl ⟨rfl, hD1, fr1⟩ w dL_chosen_16 (Nat.le_of_ble_eq_true rfl) (Nat.le_of_ble_eq_true rfl)

theorem wd_L_chosen_k36 : Cond.classLink RL 36 "java/lang/IndexOutOfBoundsException" ∈ wsL_chosen := by decide +kernel
set_option maxHeartbeats 1000000 in
set_option maxRecDepth 100000 in
theorem x_L_chosen2 (l : Launch) (hsT : l.stackTraces = false) (D : va_G) (G : Nat → ClassId) (ad : Nat → Nat) (N : Nat) (c : Nat → va_E) {lim : Int} {no dn : Nat} {gn : Nat → Nat} {gg : Nat → Nat → Nat} {dg nn : Nat → Nat} {pt ln : Nat → Nat → Nat} {wi : Nat → Nat → Int} (hN : 139 + 2 * no ≤ N) (hD : DK G ad c lim no dn gn gg dg nn pt ln wi) (hV : SV lim no dn gn gg dg nn pt ln wi) {t : Nat} (ht : t < 4) {zi : Int} (hbzi : bnd zi) (hbad : ¬ (0 ≤ zi ∧ zi ≤ (nn t : Int) - 2))  : MC l yL_chosen wsL_chosen rm_L_chosen [.ref (ad 0), .int (zI (t : Int)), .int (zI zi), .ref (ad 137)] D G ad N c (qI D G (fx ad N) (fun r c1 => r = zI 2 ∧ DK G ad c1 lim no dn gn gg dg nn pt ln wi ∧ ∀ q, (120 ≤ q ∧ q < 139) → c1 q = c q)) 1 6 := by
  refine MCiH.of (cc := cL_chosen) (maxL := 5) (by decide) rfl (Nat.le_of_ble_eq_true rfl) ?_
  intro p e s m args below meth kc A Q hx hb hts hown hml htab fin H locs w ls hl
  have hown : s.vm.findClass RL = some m.cls := hown
  have hl : lv_has ls 5 [(0, .ref (ad 0)), (1, .int (zI (t : Int))), (2, .int (zI zi)), (3, .ref (ad 137))] := hl
  refine lv_aload_n hx hb dL_chosen_0 rfl (lv_at hl 3 rfl) ?_
  refine lv_iconst (v := zI (0)) hx hb dL_chosen_1 rfl ?_
  refine lv_aload_n hx hb dL_chosen_2 rfl (lv_at hl 0 rfl) ?_
  refine lv_iload_n hx hb dL_chosen_3 rfl (lv_at hl 1 rfl) ?_
  refine lv_iload_n hx hb dL_chosen_4 rfl (lv_at hl 2 rfl) ?_
  refine pw_cx (E0 := xIO) w (pw_runVX (r := 0) (ci := 7) (As := [.int (zI (t : Int)), .int (zI zi)]) (rest := [.int (zI 0), .ref (ad 137)]) w ⟨hx, hb, hml, hown, hts⟩ (x_X7_chosen2 l hsT D G ad N c hN hD hV (t := t) ht (zi := zi) hbzi hbad) (cwV 2 hts gL_chosen_X7_chosen rfl rfl rfl (by decide +kernel) ⟨Nat.le_of_ble_eq_true rfl, Nat.le_of_ble_eq_true rfl⟩) (by omega) hD.1 rfl rfl hl.1 rfl (lv_room (Nat.le_of_ble_eq_true rfl)) dL_chosen_5 ⟨Nat.le_of_ble_eq_true rfl, Nat.le_of_ble_eq_true rfl⟩) (fun c1 ce q9 H locs hp w hce hcv hcl => ?_)
  have w : PW D G A s ad N c1 H locs := w
  obtain ⟨hD1, fr1⟩ := hp
  refine pw_catch w hown [⟨0, 10, 13, 13⟩] ⟨0, 10, 17, 36⟩ [⟨0, 10, 21, 26⟩] htab (List.forall_mem_cons.mpr ⟨⟨by decide, xIA, by decide, hts _ wd_L_chosen_k13⟩, (fun _ h => absurd h List.not_mem_nil)⟩) (by decide) (by decide) (hts _ wd_L_chosen_k36) (by decide) hce hcv hcl ?_
  refine lv_astore (lv' := [(4, .ref q9), (0, .ref (ad 0)), (1, .int (zI (t : Int))), (2, .int (zI zi)), (3, .ref (ad 137))]) hx hb dL_chosen_17 hl (by decide) rfl (fun ls hl => ?_)
  refine lv_iconst (v := zI (2)) hx hb dL_chosen_19 rfl ?_
  exact fin (ad, N, c1) c1 _ _ _ _ _ _ _ rfl ⟨rfl, hD1, fr1⟩ w dL_chosen_20 (Nat.le_of_ble_eq_true rfl) (Nat.le_of_ble_eq_true rfl)

theorem wd_L_chosen_k26 : Cond.classLink RL 26 "java/lang/IllegalStateException" ∈ wsL_chosen := by decide +kernel
set_option maxHeartbeats 1000000 in
set_option maxRecDepth 100000 in
theorem x_L_chosen3 (l : Launch) (hsT : l.stackTraces = false) (D : va_G) (G : Nat → ClassId) (ad : Nat → Nat) (N : Nat) (c : Nat → va_E) {lim : Int} {no dn : Nat} {gn : Nat → Nat} {gg : Nat → Nat → Nat} {dg nn : Nat → Nat} {pt ln : Nat → Nat → Nat} {wi : Nat → Nat → Int} (hN : 139 + 2 * no ≤ N) (hD : DK G ad c lim no dn gn gg dg nn pt ln wi) (hV : SV lim no dn gn gg dg nn pt ln wi) {t i : Nat} (ht : t < 4) (hi : i + 1 < nn t) (hlt : ¬ (lessOf (Rr (cwT lim no gn gg nn pt ln wi t) (nn t - 1) 0)) < 1000000)  : MC l yL_chosen wsL_chosen rm_L_chosen [.ref (ad 0), .int (zI (t : Int)), .int (zI (i : Int)), .ref (ad 137)] D G ad N c (qI D G (fx ad N) (fun r c1 => r = zI 3 ∧ DK G ad c1 lim no dn gn gg dg nn pt ln wi ∧ ∀ q, (120 ≤ q ∧ q < 139) → c1 q = c q)) 1 6 := by
  refine MCiH.of (cc := cL_chosen) (maxL := 5) (by decide) rfl (Nat.le_of_ble_eq_true rfl) ?_
  intro p e s m args below meth kc A Q hx hb hts hown hml htab fin H locs w ls hl
  have hown : s.vm.findClass RL = some m.cls := hown
  have hl : lv_has ls 5 [(0, .ref (ad 0)), (1, .int (zI (t : Int))), (2, .int (zI (i : Int))), (3, .ref (ad 137))] := hl
  refine lv_aload_n hx hb dL_chosen_0 rfl (lv_at hl 3 rfl) ?_
  refine lv_iconst (v := zI (0)) hx hb dL_chosen_1 rfl ?_
  refine lv_aload_n hx hb dL_chosen_2 rfl (lv_at hl 0 rfl) ?_
  refine lv_iload_n hx hb dL_chosen_3 rfl (lv_at hl 1 rfl) ?_
  refine lv_iload_n hx hb dL_chosen_4 rfl (lv_at hl 2 rfl) ?_
  refine pw_cx (E0 := xIS) w (pw_runVX (r := 0) (ci := 7) (As := [.int (zI (t : Int)), .int (zI (i : Int))]) (rest := [.int (zI 0), .ref (ad 137)]) w ⟨hx, hb, hml, hown, hts⟩ (x_X7_chosen3 l hsT D G ad N c hN hD hV (t := t) (i := i) ht hi hlt) (cwV 2 hts gL_chosen_X7_chosen rfl rfl rfl (by decide +kernel) ⟨Nat.le_of_ble_eq_true rfl, Nat.le_of_ble_eq_true rfl⟩) (by omega) hD.1 rfl rfl hl.1 rfl (lv_room (Nat.le_of_ble_eq_true rfl)) dL_chosen_5 ⟨Nat.le_of_ble_eq_true rfl, Nat.le_of_ble_eq_true rfl⟩) (fun c1 ce q9 H locs hp w hce hcv hcl => ?_)
  have w : PW D G A s ad N c1 H locs := w
  obtain ⟨hD1, fr1⟩ := hp
  refine pw_catch w hown [⟨0, 10, 13, 13⟩, ⟨0, 10, 17, 36⟩] ⟨0, 10, 21, 26⟩ [] htab (List.forall_mem_cons.mpr ⟨⟨by decide, xIA, by decide, hts _ wd_L_chosen_k13⟩, (List.forall_mem_cons.mpr ⟨⟨by decide, xIO, by decide, hts _ wd_L_chosen_k36⟩, (fun _ h => absurd h List.not_mem_nil)⟩)⟩) (by decide) (by decide) (hts _ wd_L_chosen_k26) (by decide) hce hcv hcl ?_
  refine lv_astore (lv' := [(4, .ref q9), (0, .ref (ad 0)), (1, .int (zI (t : Int))), (2, .int (zI (i : Int))), (3, .ref (ad 137))]) hx hb dL_chosen_21 hl (by decide) rfl (fun ls hl => ?_)
  refine lv_iconst (v := zI (3)) hx hb dL_chosen_23 rfl ?_
  exact fin (ad, N, c1) c1 _ _ _ _ _ _ _ rfl ⟨rfl, hD1, fr1⟩ w dL_chosen_24 (Nat.le_of_ble_eq_true rfl) (Nat.le_of_ble_eq_true rfl)

abbrev rm_L_mostOrnaments : Room := { frames := 9, cells := 1, slots := 6, locals := 270 }
set_option maxHeartbeats 1000000 in
set_option maxRecDepth 100000 in
theorem c_L_mostOrnaments (l : Launch) (D : va_G) (G : Nat → ClassId) (ad : Nat → Nat) (N : Nat) (c : Nat → va_E) {lim : Int} {no dn : Nat} {gn : Nat → Nat} {gg : Nat → Nat → Nat} {dg nn : Nat → Nat} {pt ln : Nat → Nat → Nat} {wi : Nat → Nat → Int} (hN : 139 + 2 * no ≤ N) (hD : DK G ad c lim no dn gn gg dg nn pt ln wi) (hV : SV lim no dn gn gg dg nn pt ln wi) {t : Nat} (ht : t < 4) (hlt : (lessOf (Rr (cwT lim no gn gg nn pt ln wi t) (nn t - 1) 0)) < 1000000) {v0 : Int64} (hO : lnA G (c 137) v0) : MC l yL_mostOrnaments wsL_mostOrnaments rm_L_mostOrnaments [.ref (ad 0), .int (zI (t : Int)), .ref (ad 137)] D G ad N c (qI D G (fx ad N) (fun r c1 => r = zI 0 ∧ lnA G (c1 137) (zI (((nn t - 1 : Nat) : Int) - (lessOf (Fr (fun i => ewF ((cwT lim no gn gg nn pt ln wi t) i)) (nn t - 1))))).toInt64 ∧ DK G ad c1 lim no dn gn gg dg nn pt ln wi ∧ ∀ q, (120 ≤ q ∧ q < 139 ∧ q ≠ 137) → c1 q = c q)) 1 6 := by
  refine MCiH.of (cc := cL_mostOrnaments) (maxL := 4) (by decide) rfl (Nat.le_of_ble_eq_true rfl) ?_
  intro p e s m args below meth kc A Q hx hb hts hown hml htab fin H locs w ls hl
  have hown : s.vm.findClass RL = some m.cls := hown
  have hl : lv_has ls 4 [(0, .ref (ad 0)), (1, .int (zI (t : Int))), (2, .ref (ad 137))] := hl
  refine lv_aload_n hx hb dL_mostOrnaments_0 rfl (lv_at hl 2 rfl) ?_
  refine lv_iconst (v := zI (0)) hx hb dL_mostOrnaments_1 rfl ?_
  refine lv_aload_n hx hb dL_mostOrnaments_2 rfl (lv_at hl 0 rfl) ?_
  refine lv_iload_n hx hb dL_mostOrnaments_3 rfl (lv_at hl 1 rfl) ?_
  refine pw_ci w (pw_runV (r := 0) (ci := 7) (As := [.int (zI (t : Int))]) (rest := [.int (zI 0), .ref (ad 137)]) w ⟨hx, hb, hml, hown, hts⟩ (c_X7_mostOrnaments l D G ad N c hN hD hV (t := t) ht hlt) (cwV 1 hts gL_mostOrnaments_X7_mostOrnaments rfl rfl rfl (by decide +kernel) ⟨Nat.le_of_ble_eq_true rfl, Nat.le_of_ble_eq_true rfl⟩) (by omega) hD.1 rfl rfl hl.1 rfl (lv_room (Nat.le_of_ble_eq_true rfl)) dL_mostOrnaments_4 ⟨Nat.le_of_ble_eq_true rfl, Nat.le_of_ble_eq_true rfl⟩) (fun r_ c1 H locs hp w => ?_)
  have w : PW D G A s ad N c1 H locs := w
  obtain ⟨hv, hD1, fr1⟩ := hp
  subst hv
  refine lv_i2l hx hb dL_mostOrnaments_7 rfl ?_
  refine pw_last (r := 137) hx hb w (by omega) (lnA.fr (fr1 137 (by omega)) hO) dL_mostOrnaments_8 (fun H locs c2 hc2 fr2 w => ?_)
  refine lv_goto (tgt := 18) hx hb dL_mostOrnaments_9 (by decide) ?_
  refine lv_iconst (v := zI (0)) hx hb dL_mostOrnaments_18 rfl ?_
  exact fin (ad, N, c2) c2 _ _ _ _ _ _ _ rfl ⟨rfl, hc2, hD1.fr (fun q hq => fr2 q (by omega)), fun q hq => (fr2 q (by omega)).trans (fr1 q (by omega))⟩ w dL_mostOrnaments_19 (Nat.le_of_ble_eq_true rfl) (Nat.le_of_ble_eq_true rfl)

theorem wd_L_mostOrnaments_k13 : Cond.classLink RL 13 "java/lang/IllegalArgumentException" ∈ wsL_mostOrnaments := by decide +kernel
set_option maxHeartbeats 1000000 in
set_option maxRecDepth 100000 in
theorem x_L_mostOrnaments1 (l : Launch) (hsT : l.stackTraces = false) (D : va_G) (G : Nat → ClassId) (ad : Nat → Nat) (N : Nat) (c : Nat → va_E) {lim : Int} {no dn : Nat} {gn : Nat → Nat} {gg : Nat → Nat → Nat} {dg nn : Nat → Nat} {pt ln : Nat → Nat → Nat} {wi : Nat → Nat → Int} (hN : 139 + 2 * no ≤ N) (hD : DK G ad c lim no dn gn gg dg nn pt ln wi) (hV : SV lim no dn gn gg dg nn pt ln wi) {zt : Int} (hbzt : bnd zt) (hbad : ¬ (0 ≤ zt ∧ zt ≤ 3))  : MC l yL_mostOrnaments wsL_mostOrnaments rm_L_mostOrnaments [.ref (ad 0), .int (zI zt), .ref (ad 137)] D G ad N c (qI D G (fx ad N) (fun r c1 => r = zI 1 ∧ DK G ad c1 lim no dn gn gg dg nn pt ln wi ∧ ∀ q, (120 ≤ q ∧ q < 139) → c1 q = c q)) 1 6 := by
  refine MCiH.of (cc := cL_mostOrnaments) (maxL := 4) (by decide) rfl (Nat.le_of_ble_eq_true rfl) ?_
  intro p e s m args below meth kc A Q hx hb hts hown hml htab fin H locs w ls hl
  have hown : s.vm.findClass RL = some m.cls := hown
  have hl : lv_has ls 4 [(0, .ref (ad 0)), (1, .int (zI zt)), (2, .ref (ad 137))] := hl
  refine lv_aload_n hx hb dL_mostOrnaments_0 rfl (lv_at hl 2 rfl) ?_
  refine lv_iconst (v := zI (0)) hx hb dL_mostOrnaments_1 rfl ?_
  refine lv_aload_n hx hb dL_mostOrnaments_2 rfl (lv_at hl 0 rfl) ?_
  refine lv_iload_n hx hb dL_mostOrnaments_3 rfl (lv_at hl 1 rfl) ?_
  refine pw_cx (E0 := xIA) w (pw_runVX (r := 0) (ci := 7) (As := [.int (zI zt)]) (rest := [.int (zI 0), .ref (ad 137)]) w ⟨hx, hb, hml, hown, hts⟩ (x_X7_mostOrnaments1 l hsT D G ad N c hN hD hV (zt := zt) hbzt hbad) (cwV 1 hts gL_mostOrnaments_X7_mostOrnaments rfl rfl rfl (by decide +kernel) ⟨Nat.le_of_ble_eq_true rfl, Nat.le_of_ble_eq_true rfl⟩) (by omega) hD.1 rfl rfl hl.1 rfl (lv_room (Nat.le_of_ble_eq_true rfl)) dL_mostOrnaments_4 ⟨Nat.le_of_ble_eq_true rfl, Nat.le_of_ble_eq_true rfl⟩) (fun c1 ce q9 H locs hp w hce hcv hcl => ?_)
  have w : PW D G A s ad N c1 H locs := w
  obtain ⟨hD1, fr1⟩ := hp
  refine pw_catch w hown [] ⟨0, 9, 12, 13⟩ [⟨0, 9, 15, 26⟩] htab (fun _ h => absurd h List.not_mem_nil) (by decide) (by decide) (hts _ wd_L_mostOrnaments_k13) (by decide) hce hcv hcl ?_
  refine lv_astore_n (lv' := [(3, .ref q9), (0, .ref (ad 0)), (1, .int (zI zt)), (2, .ref (ad 137))]) hx hb dL_mostOrnaments_12 rfl hl (by decide) rfl (fun ls hl => ?_)
  refine lv_iconst (v := zI (1)) hx hb dL_mostOrnaments_13 rfl ?_
  exact fin (ad, N, c1) c1 _ _ _ _ _ _ _ rfl ⟨rfl, hD1, fr1⟩ w dL_mostOrnaments_14 (Nat.le_of_ble_eq_true rfl) (Nat.le_of_ble_eq_true rfl)

theorem wd_L_mostOrnaments_k26 : Cond.classLink RL 26 "java/lang/IllegalStateException" ∈ wsL_mostOrnaments := by decide +kernel
set_option maxHeartbeats 1000000 in
set_option maxRecDepth 100000 in
theorem x_L_mostOrnaments2 (l : Launch) (hsT : l.stackTraces = false) (D : va_G) (G : Nat → ClassId) (ad : Nat → Nat) (N : Nat) (c : Nat → va_E) {lim : Int} {no dn : Nat} {gn : Nat → Nat} {gg : Nat → Nat → Nat} {dg nn : Nat → Nat} {pt ln : Nat → Nat → Nat} {wi : Nat → Nat → Int} (hN : 139 + 2 * no ≤ N) (hD : DK G ad c lim no dn gn gg dg nn pt ln wi) (hV : SV lim no dn gn gg dg nn pt ln wi) {t : Nat} (ht : t < 4) (hlt : ¬ (lessOf (Rr (cwT lim no gn gg nn pt ln wi t) (nn t - 1) 0)) < 1000000)  : MC l yL_mostOrnaments wsL_mostOrnaments rm_L_mostOrnaments [.ref (ad 0), .int (zI (t : Int)), .ref (ad 137)] D G ad N c (qI D G (fx ad N) (fun r c1 => r = zI 2 ∧ DK G ad c1 lim no dn gn gg dg nn pt ln wi ∧ ∀ q, (120 ≤ q ∧ q < 139) → c1 q = c q)) 1 6 := by
  refine MCiH.of (cc := cL_mostOrnaments) (maxL := 4) (by decide) rfl (Nat.le_of_ble_eq_true rfl) ?_
  intro p e s m args below meth kc A Q hx hb hts hown hml htab fin H locs w ls hl
  have hown : s.vm.findClass RL = some m.cls := hown
  have hl : lv_has ls 4 [(0, .ref (ad 0)), (1, .int (zI (t : Int))), (2, .ref (ad 137))] := hl
  refine lv_aload_n hx hb dL_mostOrnaments_0 rfl (lv_at hl 2 rfl) ?_
  refine lv_iconst (v := zI (0)) hx hb dL_mostOrnaments_1 rfl ?_
  refine lv_aload_n hx hb dL_mostOrnaments_2 rfl (lv_at hl 0 rfl) ?_
  refine lv_iload_n hx hb dL_mostOrnaments_3 rfl (lv_at hl 1 rfl) ?_
  refine pw_cx (E0 := xIS) w (pw_runVX (r := 0) (ci := 7) (As := [.int (zI (t : Int))]) (rest := [.int (zI 0), .ref (ad 137)]) w ⟨hx, hb, hml, hown, hts⟩ (x_X7_mostOrnaments2 l hsT D G ad N c hN hD hV (t := t) ht hlt) (cwV 1 hts gL_mostOrnaments_X7_mostOrnaments rfl rfl rfl (by decide +kernel) ⟨Nat.le_of_ble_eq_true rfl, Nat.le_of_ble_eq_true rfl⟩) (by omega) hD.1 rfl rfl hl.1 rfl (lv_room (Nat.le_of_ble_eq_true rfl)) dL_mostOrnaments_4 ⟨Nat.le_of_ble_eq_true rfl, Nat.le_of_ble_eq_true rfl⟩) (fun c1 ce q9 H locs hp w hce hcv hcl => ?_)
  have w : PW D G A s ad N c1 H locs := w
  obtain ⟨hD1, fr1⟩ := hp
  refine pw_catch w hown [⟨0, 9, 12, 13⟩] ⟨0, 9, 15, 26⟩ [] htab (List.forall_mem_cons.mpr ⟨⟨by decide, xIA, by decide, hts _ wd_L_mostOrnaments_k13⟩, (fun _ h => absurd h List.not_mem_nil)⟩) (by decide) (by decide) (hts _ wd_L_mostOrnaments_k26) (by decide) hce hcv hcl ?_
  refine lv_astore_n (lv' := [(3, .ref q9), (0, .ref (ad 0)), (1, .int (zI (t : Int))), (2, .ref (ad 137))]) hx hb dL_mostOrnaments_15 rfl hl (by decide) rfl (fun ls hl => ?_)
  refine lv_iconst (v := zI (2)) hx hb dL_mostOrnaments_16 rfl ?_
  exact fin (ad, N, c1) c1 _ _ _ _ _ _ _ rfl ⟨rfl, hD1, fr1⟩ w dL_mostOrnaments_17 (Nat.le_of_ble_eq_true rfl) (Nat.le_of_ble_eq_true rfl)

abbrev rm_L_average : Room := { frames := 9, cells := 1, slots := 6, locals := 270 }
set_option maxHeartbeats 1000000 in
set_option maxRecDepth 100000 in
theorem c_L_average (l : Launch) (D : va_G) (G : Nat → ClassId) (ad : Nat → Nat) (N : Nat) (c : Nat → va_E) {lim : Int} {no dn : Nat} {gn : Nat → Nat} {gg : Nat → Nat → Nat} {dg nn : Nat → Nat} {pt ln : Nat → Nat → Nat} {wi : Nat → Nat → Int} (hN : 139 + 2 * no ≤ N) (hD : DK G ad c lim no dn gn gg dg nn pt ln wi) (hV : SV lim no dn gn gg dg nn pt ln wi) {t : Nat} (ht : t < 4) (hlt : (lessOf (Rr (cwT lim no gn gg nn pt ln wi t) (nn t - 1) 0)) < 1000000) (hav : 2 ≤ nn t → vf_n32 (FP.fdiv (FP.i2f (zI (lessOf (Rr (cwT lim no gn gg nn pt ln wi t) (nn t - 1) 0)))) (FP.i2f (zI ((nn t : Int) - 1))))) (hne : vf_n64 (FP.f2d (if nn t < 2 then FP.fconst0 else FP.fdiv (FP.i2f (zI (lessOf (Rr (cwT lim no gn gg nn pt ln wi t) (nn t - 1) 0)))) (FP.i2f (zI ((nn t : Int) - 1)))))) {v0 : UInt64} (hO : dbA G (c 138) v0) : MC l yL_average wsL_average rm_L_average [.ref (ad 0), .int (zI (t : Int)), .ref (ad 138)] D G ad N c (qI D G (fx ad N) (fun r c1 => r = zI 0 ∧ dbA G (c1 138) (FP.f2d (if nn t < 2 then FP.fconst0 else FP.fdiv (FP.i2f (zI (lessOf (Rr (cwT lim no gn gg nn pt ln wi t) (nn t - 1) 0)))) (FP.i2f (zI ((nn t : Int) - 1))))) ∧ DK G ad c1 lim no dn gn gg dg nn pt ln wi ∧ ∀ q, (120 ≤ q ∧ q < 139 ∧ q ≠ 138) → c1 q = c q)) 1 6 := by
  refine MCiH.of (cc := cL_average) (maxL := 4) (by decide) rfl (Nat.le_of_ble_eq_true rfl) ?_
  intro p e s m args below meth kc A Q hx hb hts hown hml htab fin H locs w ls hl
  have hown : s.vm.findClass RL = some m.cls := hown
  have hl : lv_has ls 4 [(0, .ref (ad 0)), (1, .int (zI (t : Int))), (2, .ref (ad 138))] := hl
  refine lv_aload_n hx hb dL_average_0 rfl (lv_at hl 2 rfl) ?_
  refine lv_iconst (v := zI (0)) hx hb dL_average_1 rfl ?_
  refine lv_aload_n hx hb dL_average_2 rfl (lv_at hl 0 rfl) ?_
  refine lv_iload_n hx hb dL_average_3 rfl (lv_at hl 1 rfl) ?_
  refine pw_cf w (pw_runV (r := 0) (ci := 7) (As := [.int (zI (t : Int))]) (rest := [.int (zI 0), .ref (ad 138)]) w ⟨hx, hb, hml, hown, hts⟩ (c_X7_average l D G ad N c hN hD hV (t := t) ht hlt hav) (cwV 1 hts gL_average_X7_average rfl rfl rfl (by decide +kernel) ⟨Nat.le_of_ble_eq_true rfl, Nat.le_of_ble_eq_true rfl⟩) (by omega) hD.1 rfl rfl hl.1 rfl (lv_room (Nat.le_of_ble_eq_true rfl)) dL_average_4 ⟨Nat.le_of_ble_eq_true rfl, Nat.le_of_ble_eq_true rfl⟩) (fun r_ c1 H locs hp w => ?_)
  have w : PW D G A s ad N c1 H locs := w
  obtain ⟨hv, hD1, fr1⟩ := hp
  subst hv
  refine lv_f2d hx hb dL_average_7 hne ?_
  refine pw_dast (r := 138) hx hb w (by omega) (dbA.fr (fr1 138 (by omega)) hO) dL_average_8 (fun H locs c2 hc2 fr2 w => ?_)
  refine lv_goto (tgt := 18) hx hb dL_average_9 (by decide) ?_
  refine lv_iconst (v := zI (0)) hx hb dL_average_18 rfl ?_
  exact fin (ad, N, c2) c2 _ _ _ _ _ _ _ rfl ⟨rfl, hc2, hD1.fr (fun q hq => fr2 q (by omega)), fun q hq => (fr2 q (by omega)).trans (fr1 q (by omega))⟩ w dL_average_19 (Nat.le_of_ble_eq_true rfl) (Nat.le_of_ble_eq_true rfl)

theorem wd_L_average_k13 : Cond.classLink RL 13 "java/lang/IllegalArgumentException" ∈ wsL_average := by decide +kernel
set_option maxHeartbeats 1000000 in
set_option maxRecDepth 100000 in
theorem x_L_average1 (l : Launch) (hsT : l.stackTraces = false) (D : va_G) (G : Nat → ClassId) (ad : Nat → Nat) (N : Nat) (c : Nat → va_E) {lim : Int} {no dn : Nat} {gn : Nat → Nat} {gg : Nat → Nat → Nat} {dg nn : Nat → Nat} {pt ln : Nat → Nat → Nat} {wi : Nat → Nat → Int} (hN : 139 + 2 * no ≤ N) (hD : DK G ad c lim no dn gn gg dg nn pt ln wi) (hV : SV lim no dn gn gg dg nn pt ln wi) {zt : Int} (hbzt : bnd zt) (hbad : ¬ (0 ≤ zt ∧ zt ≤ 3))  : MC l yL_average wsL_average rm_L_average [.ref (ad 0), .int (zI zt), .ref (ad 138)] D G ad N c (qI D G (fx ad N) (fun r c1 => r = zI 1 ∧ DK G ad c1 lim no dn gn gg dg nn pt ln wi ∧ ∀ q, (120 ≤ q ∧ q < 139) → c1 q = c q)) 1 6 := by
  refine MCiH.of (cc := cL_average) (maxL := 4) (by decide) rfl (Nat.le_of_ble_eq_true rfl) ?_
  intro p e s m args below meth kc A Q hx hb hts hown hml htab fin H locs w ls hl
  have hown : s.vm.findClass RL = some m.cls := hown
  have hl : lv_has ls 4 [(0, .ref (ad 0)), (1, .int (zI zt)), (2, .ref (ad 138))] := hl
  refine lv_aload_n hx hb dL_average_0 rfl (lv_at hl 2 rfl) ?_
  refine lv_iconst (v := zI (0)) hx hb dL_average_1 rfl ?_
  refine lv_aload_n hx hb dL_average_2 rfl (lv_at hl 0 rfl) ?_
  refine lv_iload_n hx hb dL_average_3 rfl (lv_at hl 1 rfl) ?_
  refine pw_cx (E0 := xIA) w (pw_runVX (r := 0) (ci := 7) (As := [.int (zI zt)]) (rest := [.int (zI 0), .ref (ad 138)]) w ⟨hx, hb, hml, hown, hts⟩ (x_X7_average1 l hsT D G ad N c hN hD hV (zt := zt) hbzt hbad) (cwV 1 hts gL_average_X7_average rfl rfl rfl (by decide +kernel) ⟨Nat.le_of_ble_eq_true rfl, Nat.le_of_ble_eq_true rfl⟩) (by omega) hD.1 rfl rfl hl.1 rfl (lv_room (Nat.le_of_ble_eq_true rfl)) dL_average_4 ⟨Nat.le_of_ble_eq_true rfl, Nat.le_of_ble_eq_true rfl⟩) (fun c1 ce q9 H locs hp w hce hcv hcl => ?_)
  have w : PW D G A s ad N c1 H locs := w
  obtain ⟨hD1, fr1⟩ := hp
  refine pw_catch w hown [] ⟨0, 9, 12, 13⟩ [⟨0, 9, 15, 26⟩] htab (fun _ h => absurd h List.not_mem_nil) (by decide) (by decide) (hts _ wd_L_average_k13) (by decide) hce hcv hcl ?_
  refine lv_astore_n (lv' := [(3, .ref q9), (0, .ref (ad 0)), (1, .int (zI zt)), (2, .ref (ad 138))]) hx hb dL_average_12 rfl hl (by decide) rfl (fun ls hl => ?_)
  refine lv_iconst (v := zI (1)) hx hb dL_average_13 rfl ?_
  exact fin (ad, N, c1) c1 _ _ _ _ _ _ _ rfl ⟨rfl, hD1, fr1⟩ w dL_average_14 (Nat.le_of_ble_eq_true rfl) (Nat.le_of_ble_eq_true rfl)

theorem wd_L_average_k26 : Cond.classLink RL 26 "java/lang/IllegalStateException" ∈ wsL_average := by decide +kernel
set_option maxHeartbeats 1000000 in
set_option maxRecDepth 100000 in
theorem x_L_average2 (l : Launch) (hsT : l.stackTraces = false) (D : va_G) (G : Nat → ClassId) (ad : Nat → Nat) (N : Nat) (c : Nat → va_E) {lim : Int} {no dn : Nat} {gn : Nat → Nat} {gg : Nat → Nat → Nat} {dg nn : Nat → Nat} {pt ln : Nat → Nat → Nat} {wi : Nat → Nat → Int} (hN : 139 + 2 * no ≤ N) (hD : DK G ad c lim no dn gn gg dg nn pt ln wi) (hV : SV lim no dn gn gg dg nn pt ln wi) {t : Nat} (ht : t < 4) (hlt : ¬ (lessOf (Rr (cwT lim no gn gg nn pt ln wi t) (nn t - 1) 0)) < 1000000)  : MC l yL_average wsL_average rm_L_average [.ref (ad 0), .int (zI (t : Int)), .ref (ad 138)] D G ad N c (qI D G (fx ad N) (fun r c1 => r = zI 2 ∧ DK G ad c1 lim no dn gn gg dg nn pt ln wi ∧ ∀ q, (120 ≤ q ∧ q < 139) → c1 q = c q)) 1 6 := by
  refine MCiH.of (cc := cL_average) (maxL := 4) (by decide) rfl (Nat.le_of_ble_eq_true rfl) ?_
  intro p e s m args below meth kc A Q hx hb hts hown hml htab fin H locs w ls hl
  have hown : s.vm.findClass RL = some m.cls := hown
  have hl : lv_has ls 4 [(0, .ref (ad 0)), (1, .int (zI (t : Int))), (2, .ref (ad 138))] := hl
  refine lv_aload_n hx hb dL_average_0 rfl (lv_at hl 2 rfl) ?_
  refine lv_iconst (v := zI (0)) hx hb dL_average_1 rfl ?_
  refine lv_aload_n hx hb dL_average_2 rfl (lv_at hl 0 rfl) ?_
  refine lv_iload_n hx hb dL_average_3 rfl (lv_at hl 1 rfl) ?_
  refine pw_cx (E0 := xIS) w (pw_runVX (r := 0) (ci := 7) (As := [.int (zI (t : Int))]) (rest := [.int (zI 0), .ref (ad 138)]) w ⟨hx, hb, hml, hown, hts⟩ (x_X7_average2 l hsT D G ad N c hN hD hV (t := t) ht hlt) (cwV 1 hts gL_average_X7_average rfl rfl rfl (by decide +kernel) ⟨Nat.le_of_ble_eq_true rfl, Nat.le_of_ble_eq_true rfl⟩) (by omega) hD.1 rfl rfl hl.1 rfl (lv_room (Nat.le_of_ble_eq_true rfl)) dL_average_4 ⟨Nat.le_of_ble_eq_true rfl, Nat.le_of_ble_eq_true rfl⟩) (fun c1 ce q9 H locs hp w hce hcv hcl => ?_)
  have w : PW D G A s ad N c1 H locs := w
  obtain ⟨hD1, fr1⟩ := hp
  refine pw_catch w hown [⟨0, 9, 12, 13⟩] ⟨0, 9, 15, 26⟩ [] htab (List.forall_mem_cons.mpr ⟨⟨by decide, xIA, by decide, hts _ wd_L_average_k13⟩, (fun _ h => absurd h List.not_mem_nil)⟩) (by decide) (by decide) (hts _ wd_L_average_k26) (by decide) hce hcv hcl ?_
  refine lv_astore_n (lv' := [(3, .ref q9), (0, .ref (ad 0)), (1, .int (zI (t : Int))), (2, .ref (ad 138))]) hx hb dL_average_15 rfl hl (by decide) rfl (fun ls hl => ?_)
  refine lv_iconst (v := zI (2)) hx hb dL_average_16 rfl ?_
  exact fin (ad, N, c1) c1 _ _ _ _ _ _ _ rfl ⟨rfl, hD1, fr1⟩ w dL_average_17 (Nat.le_of_ble_eq_true rfl) (Nat.le_of_ble_eq_true rfl)

abbrev rm_L_leastSet : Room := { frames := 9, cells := 1, slots := 6, locals := 270 }
set_option maxHeartbeats 1000000 in
set_option maxRecDepth 100000 in
theorem c_L_leastSet (l : Launch) (D : va_G) (G : Nat → ClassId) (ad : Nat → Nat) (N : Nat) (c : Nat → va_E) {lim : Int} {no dn : Nat} {gn : Nat → Nat} {gg : Nat → Nat → Nat} {dg nn : Nat → Nat} {pt ln : Nat → Nat → Nat} {wi : Nat → Nat → Int} (hN : 139 + 2 * no ≤ N) (hD : DK G ad c lim no dn gn gg dg nn pt ln wi) (hV : SV lim no dn gn gg dg nn pt ln wi) {nS lS : Int} {bS : Nat → Nat} (hSV : SetV lim no gn gg nn pt ln wi nS lS bS) (hn : ¬ nS = 0) {v0 : Int64} (hO : lnA G (c 137) v0) : MC l yL_leastSet wsL_leastSet rm_L_leastSet [.ref (ad 0), .ref (ad 137)] D G ad N c (qI D G (fx ad N) (fun r c1 => r = zI 0 ∧ lnA G (c1 137) (zI lS).toInt64 ∧ DK G ad c1 lim no dn gn gg dg nn pt ln wi ∧ ∀ q, (120 ≤ q ∧ q < 139 ∧ q ≠ 137) → c1 q = c q)) 1 6 := by
  refine MCiH.of (cc := cL_leastSet) (maxL := 3) (by decide) rfl (Nat.le_of_ble_eq_true rfl) ?_
  intro p e s m args below meth kc A Q hx hb hts hown hml htab fin H locs w ls hl
  have hown : s.vm.findClass RL = some m.cls := hown
  have hl : lv_has ls 3 [(0, .ref (ad 0)), (1, .ref (ad 137))] := hl
  refine lv_aload_n hx hb dL_leastSet_0 rfl (lv_at hl 1 rfl) ?_
  refine lv_iconst (v := zI (0)) hx hb dL_leastSet_1 rfl ?_
  refine lv_aload_n hx hb dL_leastSet_2 rfl (lv_at hl 0 rfl) ?_
  refine pw_ci w (pw_runV (r := 0) (ci := 7) (As := []) (rest := [.int (zI 0), .ref (ad 137)]) w ⟨hx, hb, hml, hown, hts⟩ (c_X7_leastSet l D G ad N c hN hD hV (nS := nS) (lS := lS) (bS := bS) hSV hn) (cwV 0 hts gL_leastSet_X7_leastSet rfl rfl rfl (by decide +kernel) ⟨Nat.le_of_ble_eq_true rfl, Nat.le_of_ble_eq_true rfl⟩) (by omega) hD.1 rfl rfl hl.1 rfl (lv_room (Nat.le_of_ble_eq_true rfl)) dL_leastSet_3 ⟨Nat.le_of_ble_eq_true rfl, Nat.le_of_ble_eq_true rfl⟩) (fun r_ c1 H locs hp w => ?_)
  have w : PW D G A s ad N c1 H locs := w
  obtain ⟨hv, hD1, fr1⟩ := hp
  subst hv
  refine lv_i2l hx hb dL_leastSet_6 rfl ?_
  refine pw_last (r := 137) hx hb w (by omega) (lnA.fr (fr1 137 (by omega)) hO) dL_leastSet_7 (fun H locs c2 hc2 fr2 w => ?_)
  refine lv_goto (tgt := 14) hx hb dL_leastSet_8 (by decide) ?_
  refine lv_iconst (v := zI (0)) hx hb dL_leastSet_14 rfl ?_
  exact fin (ad, N, c2) c2 _ _ _ _ _ _ _ rfl ⟨rfl, hc2, hD1.fr (fun q hq => fr2 q (by omega)), fun q hq => (fr2 q (by omega)).trans (fr1 q (by omega))⟩ w dL_leastSet_15 (Nat.le_of_ble_eq_true rfl) (Nat.le_of_ble_eq_true rfl)

theorem wd_L_leastSet_k26 : Cond.classLink RL 26 "java/lang/IllegalStateException" ∈ wsL_leastSet := by decide +kernel
set_option maxHeartbeats 1000000 in
set_option maxRecDepth 100000 in
theorem x_L_leastSet (l : Launch) (hsT : l.stackTraces = false) (D : va_G) (G : Nat → ClassId) (ad : Nat → Nat) (N : Nat) (c : Nat → va_E) {lim : Int} {no dn : Nat} {gn : Nat → Nat} {gg : Nat → Nat → Nat} {dg nn : Nat → Nat} {pt ln : Nat → Nat → Nat} {wi : Nat → Nat → Int} (hN : 139 + 2 * no ≤ N) (hD : DK G ad c lim no dn gn gg dg nn pt ln wi) (hV : SV lim no dn gn gg dg nn pt ln wi) {nS lS : Int} {bS : Nat → Nat} (hSV : SetV lim no gn gg nn pt ln wi nS lS bS) (hn : nS = 0)  : MC l yL_leastSet wsL_leastSet rm_L_leastSet [.ref (ad 0), .ref (ad 137)] D G ad N c (qI D G (fx ad N) (fun r c1 => r = zI 1 ∧ DK G ad c1 lim no dn gn gg dg nn pt ln wi ∧ ∀ q, (120 ≤ q ∧ q < 139) → c1 q = c q)) 1 6 := by
  refine MCiH.of (cc := cL_leastSet) (maxL := 3) (by decide) rfl (Nat.le_of_ble_eq_true rfl) ?_
  intro p e s m args below meth kc A Q hx hb hts hown hml htab fin H locs w ls hl
  have hown : s.vm.findClass RL = some m.cls := hown
  have hl : lv_has ls 3 [(0, .ref (ad 0)), (1, .ref (ad 137))] := hl
  refine lv_aload_n hx hb dL_leastSet_0 rfl (lv_at hl 1 rfl) ?_
  refine lv_iconst (v := zI (0)) hx hb dL_leastSet_1 rfl ?_
  refine lv_aload_n hx hb dL_leastSet_2 rfl (lv_at hl 0 rfl) ?_
  refine pw_cx (E0 := xIS) w (pw_runVX (r := 0) (ci := 7) (As := []) (rest := [.int (zI 0), .ref (ad 137)]) w ⟨hx, hb, hml, hown, hts⟩ (x_X7_leastSet l hsT D G ad N c hN hD hV (nS := nS) (lS := lS) (bS := bS) hSV hn) (cwV 0 hts gL_leastSet_X7_leastSet rfl rfl rfl (by decide +kernel) ⟨Nat.le_of_ble_eq_true rfl, Nat.le_of_ble_eq_true rfl⟩) (by omega) hD.1 rfl rfl hl.1 rfl (lv_room (Nat.le_of_ble_eq_true rfl)) dL_leastSet_3 ⟨Nat.le_of_ble_eq_true rfl, Nat.le_of_ble_eq_true rfl⟩) (fun c1 ce q9 H locs hp w hce hcv hcl => ?_)
  have w : PW D G A s ad N c1 H locs := w
  obtain ⟨hD1, fr1⟩ := hp
  refine pw_catch w hown [] ⟨0, 8, 11, 26⟩ [] htab (fun _ h => absurd h List.not_mem_nil) (by decide) (by decide) (hts _ wd_L_leastSet_k26) (by decide) hce hcv hcl ?_
  refine lv_astore_n (lv' := [(2, .ref q9), (0, .ref (ad 0)), (1, .ref (ad 137))]) hx hb dL_leastSet_11 rfl hl (by decide) rfl (fun ls hl => ?_)
  refine lv_iconst (v := zI (1)) hx hb dL_leastSet_12 rfl ?_
  exact fin (ad, N, c1) c1 _ _ _ _ _ _ _ rfl ⟨rfl, hD1, fr1⟩ w dL_leastSet_13 (Nat.le_of_ble_eq_true rfl) (Nat.le_of_ble_eq_true rfl)

abbrev rm_L_tuneAt : Room := { frames := 9, cells := 1, slots := 6, locals := 270 }
set_option maxHeartbeats 1000000 in
set_option maxRecDepth 100000 in
theorem c_L_tuneAt (l : Launch) (D : va_G) (G : Nat → ClassId) (ad : Nat → Nat) (N : Nat) (c : Nat → va_E) {lim : Int} {no dn : Nat} {gn : Nat → Nat} {gg : Nat → Nat → Nat} {dg nn : Nat → Nat} {pt ln : Nat → Nat → Nat} {wi : Nat → Nat → Int} (hN : 139 + 2 * no ≤ N) (hD : DK G ad c lim no dn gn gg dg nn pt ln wi) (hV : SV lim no dn gn gg dg nn pt ln wi) {nS lS : Int} {bS : Nat → Nat} (hSV : SetV lim no gn gg nn pt ln wi nS lS bS) (hn : ¬ nS = 0) {i : Nat} (hi : i < tC nn 4) {v0 : Int64} (hO : lnA G (c 137) v0) : MC l yL_tuneAt wsL_tuneAt rm_L_tuneAt [.ref (ad 0), .int (zI (i : Int)), .ref (ad 137)] D G ad N c (qI D G (fx ad N) (fun r c1 => r = zI 0 ∧ lnA G (c1 137) (zI (bS i : Int)).toInt64 ∧ DK G ad c1 lim no dn gn gg dg nn pt ln wi ∧ ∀ q, (120 ≤ q ∧ q < 139 ∧ q ≠ 137) → c1 q = c q)) 1 6 := by
  refine MCiH.of (cc := cL_tuneAt) (maxL := 4) (by decide) rfl (Nat.le_of_ble_eq_true rfl) ?_
  intro p e s m args below meth kc A Q hx hb hts hown hml htab fin H locs w ls hl
  have hown : s.vm.findClass RL = some m.cls := hown
  have hl : lv_has ls 4 [(0, .ref (ad 0)), (1, .int (zI (i : Int))), (2, .ref (ad 137))] := hl
  refine lv_aload_n hx hb dL_tuneAt_0 rfl (lv_at hl 2 rfl) ?_
  refine lv_iconst (v := zI (0)) hx hb dL_tuneAt_1 rfl ?_
  refine lv_aload_n hx hb dL_tuneAt_2 rfl (lv_at hl 0 rfl) ?_
  refine lv_iload_n hx hb dL_tuneAt_3 rfl (lv_at hl 1 rfl) ?_
  refine pw_ci w (pw_runV (r := 0) (ci := 7) (As := [.int (zI (i : Int))]) (rest := [.int (zI 0), .ref (ad 137)]) w ⟨hx, hb, hml, hown, hts⟩ (c_X7_tuneAt l D G ad N c hN hD hV (nS := nS) (lS := lS) (bS := bS) hSV hn (i := i) hi) (cwV 1 hts gL_tuneAt_X7_tuneAt rfl rfl rfl (by decide +kernel) ⟨Nat.le_of_ble_eq_true rfl, Nat.le_of_ble_eq_true rfl⟩) (by omega) hD.1 rfl rfl hl.1 rfl (lv_room (Nat.le_of_ble_eq_true rfl)) dL_tuneAt_4 ⟨Nat.le_of_ble_eq_true rfl, Nat.le_of_ble_eq_true rfl⟩) (fun r_ c1 H locs hp w => ?_)
  have w : PW D G A s ad N c1 H locs := w
  obtain ⟨hv, hD1, fr1⟩ := hp
  subst hv
  refine lv_i2l hx hb dL_tuneAt_7 rfl ?_
  refine pw_last (r := 137) hx hb w (by omega) (lnA.fr (fr1 137 (by omega)) hO) dL_tuneAt_8 (fun H locs c2 hc2 fr2 w => ?_)
  refine lv_goto (tgt := 18) hx hb dL_tuneAt_9 (by decide) ?_
  refine lv_iconst (v := zI (0)) hx hb dL_tuneAt_18 rfl ?_
  exact fin (ad, N, c2) c2 _ _ _ _ _ _ _ rfl ⟨rfl, hc2, hD1.fr (fun q hq => fr2 q (by omega)), fun q hq => (fr2 q (by omega)).trans (fr1 q (by omega))⟩ w dL_tuneAt_19 (Nat.le_of_ble_eq_true rfl) (Nat.le_of_ble_eq_true rfl)

theorem wd_L_tuneAt_k26 : Cond.classLink RL 26 "java/lang/IllegalStateException" ∈ wsL_tuneAt := by decide +kernel
set_option maxHeartbeats 1000000 in
set_option maxRecDepth 100000 in
theorem x_L_tuneAt1 (l : Launch) (hsT : l.stackTraces = false) (D : va_G) (G : Nat → ClassId) (ad : Nat → Nat) (N : Nat) (c : Nat → va_E) {lim : Int} {no dn : Nat} {gn : Nat → Nat} {gg : Nat → Nat → Nat} {dg nn : Nat → Nat} {pt ln : Nat → Nat → Nat} {wi : Nat → Nat → Int} (hN : 139 + 2 * no ≤ N) (hD : DK G ad c lim no dn gn gg dg nn pt ln wi) (hV : SV lim no dn gn gg dg nn pt ln wi) {nS lS : Int} {bS : Nat → Nat} (hSV : SetV lim no gn gg nn pt ln wi nS lS bS) (hn : nS = 0) {z : Int}  : MC l yL_tuneAt wsL_tuneAt rm_L_tuneAt [.ref (ad 0), .int (zI z), .ref (ad 137)] D G ad N c (qI D G (fx ad N) (fun r c1 => r = zI 1 ∧ DK G ad c1 lim no dn gn gg dg nn pt ln wi ∧ ∀ q, (120 ≤ q ∧ q < 139) → c1 q = c q)) 1 6 := by
  refine MCiH.of (cc := cL_tuneAt) (maxL := 4) (by decide) rfl (Nat.le_of_ble_eq_true rfl) ?_
  intro p e s m args below meth kc A Q hx hb hts hown hml htab fin H locs w ls hl
  have hown : s.vm.findClass RL = some m.cls := hown
  have hl : lv_has ls 4 [(0, .ref (ad 0)), (1, .int (zI z)), (2, .ref (ad 137))] := hl
  refine lv_aload_n hx hb dL_tuneAt_0 rfl (lv_at hl 2 rfl) ?_
  refine lv_iconst (v := zI (0)) hx hb dL_tuneAt_1 rfl ?_
  refine lv_aload_n hx hb dL_tuneAt_2 rfl (lv_at hl 0 rfl) ?_
  refine lv_iload_n hx hb dL_tuneAt_3 rfl (lv_at hl 1 rfl) ?_
  refine pw_cx (E0 := xIS) w (pw_runVX (r := 0) (ci := 7) (As := [.int (zI z)]) (rest := [.int (zI 0), .ref (ad 137)]) w ⟨hx, hb, hml, hown, hts⟩ (x_X7_tuneAt1 l hsT D G ad N c hN hD hV (nS := nS) (lS := lS) (bS := bS) hSV hn (z := z)) (cwV 1 hts gL_tuneAt_X7_tuneAt rfl rfl rfl (by decide +kernel) ⟨Nat.le_of_ble_eq_true rfl, Nat.le_of_ble_eq_true rfl⟩) (by omega) hD.1 rfl rfl hl.1 rfl (lv_room (Nat.le_of_ble_eq_true rfl)) dL_tuneAt_4 ⟨Nat.le_of_ble_eq_true rfl, Nat.le_of_ble_eq_true rfl⟩) (fun c1 ce q9 H locs hp w hce hcv hcl => ?_)
  have w : PW D G A s ad N c1 H locs := w
  obtain ⟨hD1, fr1⟩ := hp
  refine pw_catch w hown [] ⟨0, 9, 12, 26⟩ [⟨0, 9, 15, 36⟩] htab (fun _ h => absurd h List.not_mem_nil) (by decide) (by decide) (hts _ wd_L_tuneAt_k26) (by decide) hce hcv hcl ?_
  refine lv_astore_n (lv' := [(3, .ref q9), (0, .ref (ad 0)), (1, .int (zI z)), (2, .ref (ad 137))]) hx hb dL_tuneAt_12 rfl hl (by decide) rfl (fun ls hl => ?_)
  refine lv_iconst (v := zI (1)) hx hb dL_tuneAt_13 rfl ?_
  exact fin (ad, N, c1) c1 _ _ _ _ _ _ _ rfl ⟨rfl, hD1, fr1⟩ w dL_tuneAt_14 (Nat.le_of_ble_eq_true rfl) (Nat.le_of_ble_eq_true rfl)

theorem wd_L_tuneAt_k36 : Cond.classLink RL 36 "java/lang/IndexOutOfBoundsException" ∈ wsL_tuneAt := by decide +kernel
set_option maxHeartbeats 1000000 in
set_option maxRecDepth 100000 in
theorem x_L_tuneAt2 (l : Launch) (hsT : l.stackTraces = false) (D : va_G) (G : Nat → ClassId) (ad : Nat → Nat) (N : Nat) (c : Nat → va_E) {lim : Int} {no dn : Nat} {gn : Nat → Nat} {gg : Nat → Nat → Nat} {dg nn : Nat → Nat} {pt ln : Nat → Nat → Nat} {wi : Nat → Nat → Int} (hN : 139 + 2 * no ≤ N) (hD : DK G ad c lim no dn gn gg dg nn pt ln wi) (hV : SV lim no dn gn gg dg nn pt ln wi) {nS lS : Int} {bS : Nat → Nat} (hSV : SetV lim no gn gg nn pt ln wi nS lS bS) (hn : ¬ nS = 0) {z : Int} (hbz : bnd z) (hbad : ¬ (0 ≤ z ∧ z ≤ (tC nn 4 : Int) - 1))  : MC l yL_tuneAt wsL_tuneAt rm_L_tuneAt [.ref (ad 0), .int (zI z), .ref (ad 137)] D G ad N c (qI D G (fx ad N) (fun r c1 => r = zI 2 ∧ DK G ad c1 lim no dn gn gg dg nn pt ln wi ∧ ∀ q, (120 ≤ q ∧ q < 139) → c1 q = c q)) 1 6 := by
  refine MCiH.of (cc := cL_tuneAt) (maxL := 4) (by decide) rfl (Nat.le_of_ble_eq_true rfl) ?_
  intro p e s m args below meth kc A Q hx hb hts hown hml htab fin H locs w ls hl
  have hown : s.vm.findClass RL = some m.cls := hown
  have hl : lv_has ls 4 [(0, .ref (ad 0)), (1, .int (zI z)), (2, .ref (ad 137))] := hl
  refine lv_aload_n hx hb dL_tuneAt_0 rfl (lv_at hl 2 rfl) ?_
  refine lv_iconst (v := zI (0)) hx hb dL_tuneAt_1 rfl ?_
  refine lv_aload_n hx hb dL_tuneAt_2 rfl (lv_at hl 0 rfl) ?_
  refine lv_iload_n hx hb dL_tuneAt_3 rfl (lv_at hl 1 rfl) ?_
  refine pw_cx (E0 := xIO) w (pw_runVX (r := 0) (ci := 7) (As := [.int (zI z)]) (rest := [.int (zI 0), .ref (ad 137)]) w ⟨hx, hb, hml, hown, hts⟩ (x_X7_tuneAt2 l hsT D G ad N c hN hD hV (nS := nS) (lS := lS) (bS := bS) hSV hn (z := z) hbz hbad) (cwV 1 hts gL_tuneAt_X7_tuneAt rfl rfl rfl (by decide +kernel) ⟨Nat.le_of_ble_eq_true rfl, Nat.le_of_ble_eq_true rfl⟩) (by omega) hD.1 rfl rfl hl.1 rfl (lv_room (Nat.le_of_ble_eq_true rfl)) dL_tuneAt_4 ⟨Nat.le_of_ble_eq_true rfl, Nat.le_of_ble_eq_true rfl⟩) (fun c1 ce q9 H locs hp w hce hcv hcl => ?_)
  have w : PW D G A s ad N c1 H locs := w
  obtain ⟨hD1, fr1⟩ := hp
  refine pw_catch w hown [⟨0, 9, 12, 26⟩] ⟨0, 9, 15, 36⟩ [] htab (List.forall_mem_cons.mpr ⟨⟨by decide, xIS, by decide, hts _ wd_L_tuneAt_k26⟩, (fun _ h => absurd h List.not_mem_nil)⟩) (by decide) (by decide) (hts _ wd_L_tuneAt_k36) (by decide) hce hcv hcl ?_
  refine lv_astore_n (lv' := [(3, .ref q9), (0, .ref (ad 0)), (1, .int (zI z)), (2, .ref (ad 137))]) hx hb dL_tuneAt_15 rfl hl (by decide) rfl (fun ls hl => ?_)
  refine lv_iconst (v := zI (2)) hx hb dL_tuneAt_16 rfl ?_
  exact fin (ad, N, c1) c1 _ _ _ _ _ _ _ rfl ⟨rfl, hD1, fr1⟩ w dL_tuneAt_17 (Nat.le_of_ble_eq_true rfl) (Nat.le_of_ble_eq_true rfl)
