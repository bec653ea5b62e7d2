/-! OURS: the helpers of the law that change a desk -/
abbrev rm_L_low : Room := { frames := 1, cells := 0, slots := 0, locals := 30 }
theorem wd_L_low_k7 : Cond.constant RL 7 (2147483647) ∈ wsL_low := by decide +kernel
set_option maxHeartbeats 1000000 in
set_option maxRecDepth 100000 in
theorem c_L_low (l : Launch) (D : va_G) (G : Nat → ClassId) (ad : Nat → Nat) (N : Nat) (c : Nat → va_E) {x : Int32} {n : Int} (h0 : 0 < n) (hn : n < 2147483648) : MC l yL_low wsL_low rm_L_low [.int x, .int (zI n)] D G ad N c (qI D G (fx ad N) (fun v c1 => v = zI (lwF x n) ∧ c1 = c)) 0 0 := by
  refine MCi.of (cc := cL_low) (maxL := 2) (by decide) rfl (Nat.le_of_ble_eq_true rfl) ?_
  intro p e s m args below meth kc A Q hx hb hts hown hml fin H locs w ls hl
  have hown : s.vm.findClass RL = some m.cls := hown
  have hl : lv_has ls 2 [(0, .int x), (1, .int (zI n))] := hl
  refine lv_iload_n hx hb dL_low_0 rfl (lv_at hl 0 rfl) ?_
  refine lv_ldc hx hb hown (hts _ wd_L_low_k7) dL_low_1 (pz_topI (y := zI (2147483647)) (by decide +kernel) ?_)
  refine lv_iand hx hb dL_low_3 ?_
  refine lv_iload_n hx hb dL_low_4 rfl (lv_at hl 1 rfl) ?_
  refine lv_irem hx hb dL_low_5 (zI_n0 h0 hn) ?_
  exact fin (ad, N, c) c _ _ _ _ _ _ _ rfl ⟨lwF_z x n, rfl⟩ w dL_low_6 (Nat.le_refl _) (Nat.le_refl _)
abbrev rm_L_setLimit : Room := { frames := 9, cells := 2, slots := 6, locals := 270 }
set_option maxHeartbeats 1000000 in
set_option maxRecDepth 100000 in
theorem c_L_setLimit (l : Launch) (D : va_G) (G : Nat → ClassId) (ad : Nat → Nat) (N : Nat) (c : Nat → va_E) {lim : Int} {no dn : Nat} {gn : Nat → Nat} {gg : Nat → Nat → Nat} {dg nn : Nat → Nat} {pt ln : Nat → Nat → Nat} {wi : Nat → Nat → Int} (hNe : N = 120 + 2 * no) (hD : DK G ad c lim no dn gn gg dg nn pt ln wi) (hV : SV lim no dn gn gg dg nn pt ln wi) {z : Int} (hbz : bnd z) (hok : 0 ≤ z ∧ z ≤ 8) : MC l yL_setLimit wsL_setLimit rm_L_setLimit [.ref (ad 0), .int (zI z)] D G ad N c (qI D G wI (hP G ad (brdAll z 9) (z, no, dn, gn, gg, dg, nn, pt, ln, wi))) 2 6 := by
  have hN : 120 + 2 * no ≤ N := by omega
  refine MCiH.of (cc := cL_setLimit) (maxL := 3) (by decide) rfl (Nat.le_of_ble_eq_true rfl) ?_
  intro p e s m args below meth kc A Q hx hb hts hown hml htab fin H locs w ls hl
  have hown : s.vm.findClass RL = some m.cls := hown
  have hl : lv_has ls 3 [(0, .ref (ad 0)), (1, .int (zI z))] := hl
  refine lv_aload_n hx hb dL_setLimit_0 rfl (lv_at hl 0 rfl) ?_
  refine lv_iload_n hx hb dL_setLimit_1 rfl (lv_at hl 1 rfl) ?_
  refine pw_ci w (pw_runV (r := 0) (ci := 7) (As := [.int (zI z)]) (rest := []) w ⟨hx, hb, hml, hown, hts⟩ (c_X7_setLimit l D G ad N c hN hD hV (z := z) hbz hok) (cwV 1 hts gL_setLimit_X7_setLimit rfl rfl rfl (by decide +kernel) ⟨Nat.le_of_ble_eq_true rfl, Nat.le_of_ble_eq_true rfl⟩) (by omega) hD.1 rfl rfl hl.1 rfl (lv_room (Nat.le_of_ble_eq_true rfl)) dL_setLimit_2 ⟨Nat.le_of_ble_eq_true rfl, Nat.le_of_ble_eq_true rfl⟩) (fun r_ c1 H locs hp w => ?_)
  have w : PW D G A s ad N c1 H locs := w
  obtain ⟨hv, hD1, -⟩ := hp
  subst hv
  exact fin (ad, N, c1) (ad, N, c1) _ _ _ _ _ _ _ rfl ⟨rfl, hNe, rfl, hD1⟩ w dL_setLimit_5 (Nat.le_of_ble_eq_true rfl) (Nat.le_of_ble_eq_true rfl)

theorem wd_L_setLimit_k14 : Cond.classLink RL 14 "java/lang/IllegalArgumentException" ∈ wsL_setLimit := by decide +kernel
theorem wd_L_setLimit_k16 : Cond.constant RL 16 (-99999) ∈ wsL_setLimit := by decide +kernel
set_option maxHeartbeats 1000000 in
set_option maxRecDepth 100000 in
theorem x_L_setLimit (l : Launch) (hsT : l.stackTraces = false) (D : va_G) (G : Nat → ClassId) (ad : Nat → Nat) (N : Nat) (c : Nat → va_E) {lim : Int} {no dn : Nat} {gn : Nat → Nat} {gg : Nat → Nat → Nat} {dg nn : Nat → Nat} {pt ln : Nat → Nat → Nat} {wi : Nat → Nat → Int} (hNe : N = 120 + 2 * no) (hD : DK G ad c lim no dn gn gg dg nn pt ln wi) (hV : SV lim no dn gn gg dg nn pt ln wi) {z : Int} (hbz : bnd z) (hbad : ¬ (0 ≤ z ∧ z ≤ 8)) : MC l yL_setLimit wsL_setLimit rm_L_setLimit [.ref (ad 0), .int (zI z)] D G ad N c (qI D G wI (hP G ad (-99999) (lim, no, dn, gn, gg, dg, nn, pt, ln, wi))) 2 6 := by
  have hN : 120 + 2 * no ≤ N := by omega
  refine MCiH.of (cc := cL_setLimit) (maxL := 3) (by decide) rfl (Nat.le_of_ble_eq_true rfl) ?_
  intro p e s m args below meth kc A Q hx hb hts hown hml htab fin H locs w ls hl
  have hown : s.vm.findClass RL = some m.cls := hown
  have hl : lv_has ls 3 [(0, .ref (ad 0)), (1, .int (zI z))] := hl
  refine lv_aload_n hx hb dL_setLimit_0 rfl (lv_at hl 0 rfl) ?_
  refine lv_iload_n hx hb dL_setLimit_1 rfl (lv_at hl 1 rfl) ?_
  refine pw_cx (E0 := xIA) w (pw_runVX (r := 0) (ci := 7) (As := [.int (zI z)]) (rest := []) w ⟨hx, hb, hml, hown, hts⟩ (x_X7_setLimit l hsT D G ad N c hN hD hV (z := z) hbz hbad) (cwV 1 hts gL_setLimit_X7_setLimit rfl rfl rfl (by decide +kernel) ⟨Nat.le_of_ble_eq_true rfl, Nat.le_of_ble_eq_true rfl⟩) (by omega) hD.1 rfl rfl hl.1 rfl (lv_room (Nat.le_of_ble_eq_true rfl)) dL_setLimit_2 ⟨Nat.le_of_ble_eq_true rfl, Nat.le_of_ble_eq_true rfl⟩) (fun c1 ce q9 H locs hp w hce hcv hcl => ?_)
  have w : PW D G A s ad N c1 H locs := w
  obtain ⟨hD1, -⟩ := hp
  refine pw_catch w hown [] ⟨0, 5, 6, 14⟩ [] htab (fun _ h => absurd h List.not_mem_nil) (by decide) (by decide) (hts _ wd_L_setLimit_k14) (by decide) hce hcv hcl ?_
  refine lv_astore_n (lv' := [(2, .ref q9), (0, .ref (ad 0)), (1, .int (zI z))]) hx hb dL_setLimit_6 rfl hl (by decide) rfl (fun ls hl => ?_)
  refine lv_ldc hx hb hown (hts _ wd_L_setLimit_k16) dL_setLimit_7 (pz_topI (y := zI (-99999)) (by decide +kernel) ?_)
  exact fin (ad, N, c1) (ad, N, c1) _ _ _ _ _ _ _ rfl ⟨rfl, hNe, rfl, hD1⟩ w dL_setLimit_9 (Nat.le_of_ble_eq_true rfl) (Nat.le_of_ble_eq_true rfl)

abbrev rm_L_grace : Room := { frames := 9, cells := 2, slots := 6, locals := 270 }
set_option maxHeartbeats 1000000 in
set_option maxRecDepth 100000 in
theorem c_L_grace (l : Launch) (D : va_G) (G : Nat → ClassId) (ad : Nat → Nat) (N : Nat) (c : Nat → va_E) {lim : Int} {no dn : Nat} {gn : Nat → Nat} {gg : Nat → Nat → Nat} {dg nn : Nat → Nat} {pt ln : Nat → Nat → Nat} {wi : Nat → Nat → Int} (hNe : N = 120 + 2 * no) (hD : DK G ad c lim no dn gn gg dg nn pt ln wi) (hV : SV lim no dn gn gg dg nn pt ln wi) {g : Nat} (hg : g ≤ 10) (hd : dn < 4) : MC l yL_grace wsL_grace rm_L_grace [.ref (ad 0), .int (zI (g : Int))] D G ad N c (qI D G wI (hP G ad ((dn + 1 : Nat) : Int) (lim, no, (dn + 1), gn, gg, (fun j => if j = dn then g else dg j), nn, pt, ln, wi))) 2 6 := by
  have hN : 120 + 2 * no ≤ N := by omega
  refine MCiH.of (cc := cL_grace) (maxL := 3) (by decide) rfl (Nat.le_of_ble_eq_true rfl) ?_
  intro p e s m args below meth kc A Q hx hb hts hown hml htab fin H locs w ls hl
  have hown : s.vm.findClass RL = some m.cls := hown
  have hl : lv_has ls 3 [(0, .ref (ad 0)), (1, .int (zI (g : Int)))] := hl
  refine lv_aload_n hx hb dL_grace_0 rfl (lv_at hl 0 rfl) ?_
  refine lv_iload_n hx hb dL_grace_1 rfl (lv_at hl 1 rfl) ?_
  refine pw_ci w (pw_runV (r := 0) (ci := 7) (As := [.int (zI (g : Int))]) (rest := []) w ⟨hx, hb, hml, hown, hts⟩ (c_X7_grace l D G ad N c hN hD hV (g := g) hg hd) (cwV 1 hts gL_grace_X7_grace rfl rfl rfl (by decide +kernel) ⟨Nat.le_of_ble_eq_true rfl, Nat.le_of_ble_eq_true rfl⟩) (by omega) hD.1 rfl rfl hl.1 rfl (lv_room (Nat.le_of_ble_eq_true rfl)) dL_grace_2 ⟨Nat.le_of_ble_eq_true rfl, Nat.le_of_ble_eq_true rfl⟩) (fun r_ c1 H locs hp w => ?_)
  have w : PW D G A s ad N c1 H locs := w
  obtain ⟨hv, hD1, -⟩ := hp
  subst hv
  exact fin (ad, N, c1) (ad, N, c1) _ _ _ _ _ _ _ rfl ⟨rfl, hNe, rfl, hD1⟩ w dL_grace_5 (Nat.le_of_ble_eq_true rfl) (Nat.le_of_ble_eq_true rfl)

theorem wd_L_grace_k14 : Cond.classLink RL 14 "java/lang/IllegalArgumentException" ∈ wsL_grace := by decide +kernel
theorem wd_L_grace_k16 : Cond.constant RL 16 (-99999) ∈ wsL_grace := by decide +kernel
set_option maxHeartbeats 1000000 in
set_option maxRecDepth 100000 in
theorem x_L_grace1 (l : Launch) (hsT : l.stackTraces = false) (D : va_G) (G : Nat → ClassId) (ad : Nat → Nat) (N : Nat) (c : Nat → va_E) {lim : Int} {no dn : Nat} {gn : Nat → Nat} {gg : Nat → Nat → Nat} {dg nn : Nat → Nat} {pt ln : Nat → Nat → Nat} {wi : Nat → Nat → Int} (hNe : N = 120 + 2 * no) (hD : DK G ad c lim no dn gn gg dg nn pt ln wi) (hV : SV lim no dn gn gg dg nn pt ln wi) {z : Int} (hbz : bnd z) (hbad : ¬ (0 ≤ z ∧ z ≤ 10)) : MC l yL_grace wsL_grace rm_L_grace [.ref (ad 0), .int (zI z)] D G ad N c (qI D G wI (hP G ad (-99999) (lim, no, dn, gn, gg, dg, nn, pt, ln, wi))) 2 6 := by
  have hN : 120 + 2 * no ≤ N := by omega
  refine MCiH.of (cc := cL_grace) (maxL := 3) (by decide) rfl (Nat.le_of_ble_eq_true rfl) ?_
  intro p e s m args below meth kc A Q hx hb hts hown hml htab fin H locs w ls hl
  have hown : s.vm.findClass RL = some m.cls := hown
  have hl : lv_has ls 3 [(0, .ref (ad 0)), (1, .int (zI z))] := hl
  refine lv_aload_n hx hb dL_grace_0 rfl (lv_at hl 0 rfl) ?_
  refine lv_iload_n hx hb dL_grace_1 rfl (lv_at hl 1 rfl) ?_
  refine pw_cx (E0 := xIA) w (pw_runVX (r := 0) (ci := 7) (As := [.int (zI z)]) (rest := []) w ⟨hx, hb, hml, hown, hts⟩ (x_X7_grace1 l hsT D G ad N c hN hD hV (z := z) hbz hbad) (cwV 1 hts gL_grace_X7_grace rfl rfl rfl (by decide +kernel) ⟨Nat.le_of_ble_eq_true rfl, Nat.le_of_ble_eq_true rfl⟩) (by omega) hD.1 rfl rfl hl.1 rfl (lv_room (Nat.le_of_ble_eq_true rfl)) dL_grace_2 ⟨Nat.le_of_ble_eq_true rfl, Nat.le_of_ble_eq_true rfl⟩) (fun c1 ce q9 H locs hp w hce hcv hcl => ?_)
  have w : PW D G A s ad N c1 H locs := w
  obtain ⟨hD1, -⟩ := hp
  refine pw_catch w hown [] ⟨0, 5, 6, 14⟩ [⟨0, 5, 10, 20⟩] htab (fun _ h => absurd h List.not_mem_nil) (by decide) (by decide) (hts _ wd_L_grace_k14) (by decide) hce hcv hcl ?_
  refine lv_astore_n (lv' := [(2, .ref q9), (0, .ref (ad 0)), (1, .int (zI z))]) hx hb dL_grace_6 rfl hl (by decide) rfl (fun ls hl => ?_)
  refine lv_ldc hx hb hown (hts _ wd_L_grace_k16) dL_grace_7 (pz_topI (y := zI (-99999)) (by decide +kernel) ?_)
  exact fin (ad, N, c1) (ad, N, c1) _ _ _ _ _ _ _ rfl ⟨rfl, hNe, rfl, hD1⟩ w dL_grace_9 (Nat.le_of_ble_eq_true rfl) (Nat.le_of_ble_eq_true rfl)

theorem wd_L_grace_k20 : Cond.classLink RL 20 "java/lang/IllegalStateException" ∈ wsL_grace := by decide +kernel
set_option maxHeartbeats 1000000 in
set_option maxRecDepth 100000 in
theorem x_L_grace2 (l : Launch) (hsT : l.stackTraces = false) (D : va_G) (G : Nat → ClassId) (ad : Nat → Nat) (N : Nat) (c : Nat → va_E) {lim : Int} {no dn : Nat} {gn : Nat → Nat} {gg : Nat → Nat → Nat} {dg nn : Nat → Nat} {pt ln : Nat → Nat → Nat} {wi : Nat → Nat → Int} (hNe : N = 120 + 2 * no) (hD : DK G ad c lim no dn gn gg dg nn pt ln wi) (hV : SV lim no dn gn gg dg nn pt ln wi) {g : Nat} (hg : g ≤ 10) (hd : dn = 4) : MC l yL_grace wsL_grace rm_L_grace [.ref (ad 0), .int (zI (g : Int))] D G ad N c (qI D G wI (hP G ad (-99999) (lim, no, dn, gn, gg, dg, nn, pt, ln, wi))) 2 6 := by
  have hN : 120 + 2 * no ≤ N := by omega
  refine MCiH.of (cc := cL_grace) (maxL := 3) (by decide) rfl (Nat.le_of_ble_eq_true rfl) ?_
  intro p e s m args below meth kc A Q hx hb hts hown hml htab fin H locs w ls hl
  have hown : s.vm.findClass RL = some m.cls := hown
  have hl : lv_has ls 3 [(0, .ref (ad 0)), (1, .int (zI (g : Int)))] := hl
  refine lv_aload_n hx hb dL_grace_0 rfl (lv_at hl 0 rfl) ?_
  refine lv_iload_n hx hb dL_grace_1 rfl (lv_at hl 1 rfl) ?_
  refine pw_cx (E0 := xIS) w (pw_runVX (r := 0) (ci := 7) (As := [.int (zI (g : Int))]) (rest := []) w ⟨hx, hb, hml, hown, hts⟩ (x_X7_grace2 l hsT D G ad N c hN hD hV (g := g) hg hd) (cwV 1 hts gL_grace_X7_grace rfl rfl rfl (by decide +kernel) ⟨Nat.le_of_ble_eq_true rfl, Nat.le_of_ble_eq_true rfl⟩) (by omega) hD.1 rfl rfl hl.1 rfl (lv_room (Nat.le_of_ble_eq_true rfl)) dL_grace_2 ⟨Nat.le_of_ble_eq_true rfl, Nat.le_of_ble_eq_true rfl⟩) (fun c1 ce q9 H locs hp w hce hcv hcl => ?_)
  have w : PW D G A s ad N c1 H locs := w
  obtain ⟨hD1, -⟩ := hp
  refine pw_catch w hown [⟨0, 5, 6, 14⟩] ⟨0, 5, 10, 20⟩ [] htab (List.forall_mem_cons.mpr ⟨⟨by decide, xIA, by decide, hts _ wd_L_grace_k14⟩, (fun _ h => absurd h List.not_mem_nil)⟩) (by decide) (by decide) (hts _ wd_L_grace_k20) (by decide) hce hcv hcl ?_
  refine lv_astore_n (lv' := [(2, .ref q9), (0, .ref (ad 0)), (1, .int (zI (g : Int)))]) hx hb dL_grace_10 rfl hl (by decide) rfl (fun ls hl => ?_)
  refine lv_ldc hx hb hown (hts _ wd_L_grace_k16) dL_grace_11 (pz_topI (y := zI (-99999)) (by decide +kernel) ?_)
  exact fin (ad, N, c1) (ad, N, c1) _ _ _ _ _ _ _ rfl ⟨rfl, hNe, rfl, hD1⟩ w dL_grace_13 (Nat.le_of_ble_eq_true rfl) (Nat.le_of_ble_eq_true rfl)

abbrev rm_L_enter : Room := { frames := 9, cells := 2, slots := 6, locals := 270 }
set_option maxHeartbeats 1000000 in
set_option maxRecDepth 100000 in
theorem c_L_enter (l : Launch) (D : va_G) (G : Nat → ClassId) (ad : Nat → Nat) (N : Nat) (c : Nat → va_E) {lim : Int} {no dn : Nat} {gn : Nat → Nat} {gg : Nat → Nat → Nat} {dg nn : Nat → Nat} {pt ln : Nat → Nat → Nat} {wi : Nat → Nat → Int} (hNe : N = 120 + 2 * no) (hD : DK G ad c lim no dn gn gg dg nn pt ln wi) (hV : SV lim no dn gn gg dg nn pt ln wi) (hd1 : 1 ≤ dn) (ho7 : no < 8) : MC l yL_enter wsL_enter rm_L_enter [.ref (ad 0)] D G ad N c (qI D G wI (hP G ad (no : Int) (lim, (no + 1), 0, (fun k => if k = no then dn else gn k), (fun k => if k = no then dg else gg k), dg, nn, pt, ln, wi))) 2 6 := by
  have hN : 120 + 2 * no ≤ N := by omega
  refine MCiH.of (cc := cL_enter) (maxL := 2) (by decide) rfl (Nat.le_of_ble_eq_true rfl) ?_
  intro p e s m args below meth kc A Q hx hb hts hown hml htab fin H locs w ls hl
  have hown : s.vm.findClass RL = some m.cls := hown
  have hl : lv_has ls 2 [(0, .ref (ad 0))] := hl
  refine lv_aload_n hx hb dL_enter_0 rfl (lv_at hl 0 rfl) ?_
  refine pw_ci w (pw_runV (r := 0) (ci := 7) (As := []) (rest := []) w ⟨hx, hb, hml, hown, hts⟩ (c_X7_enter l D G ad N c hNe hD hV hd1 ho7) (cwV 0 hts gL_enter_X7_enter rfl rfl rfl (by decide +kernel) ⟨Nat.le_of_ble_eq_true rfl, Nat.le_of_ble_eq_true rfl⟩) (by omega) hD.1 rfl rfl hl.1 rfl (lv_room (Nat.le_of_ble_eq_true rfl)) dL_enter_1 ⟨Nat.le_of_ble_eq_true rfl, Nat.le_of_ble_eq_true rfl⟩) (fun r_ u1 H locs hp w => ?_)
  obtain ⟨ad1, c1⟩ := u1
  obtain ⟨hv, ha, hD1, -⟩ := hp
  subst hv
  have w : PW D G A s ad1 (N + 1 + 1) c1 H locs := w
  have ha : ∀ r, r < N → ad1 r = ad r := ha
  exact fin (ad1, N + 1 + 1, c1) (ad1, N + 1 + 1, c1) _ _ _ _ _ _ _ rfl ⟨rfl, (by show N + 1 + 1 = 120 + 2 * (no + 1); omega), ha 0 (by omega), hD1⟩ w dL_enter_4 (Nat.le_of_ble_eq_true rfl) (Nat.le_of_ble_eq_true rfl)

theorem wd_L_enter_k20 : Cond.classLink RL 20 "java/lang/IllegalStateException" ∈ wsL_enter := by decide +kernel
theorem wd_L_enter_k16 : Cond.constant RL 16 (-99999) ∈ wsL_enter := by decide +kernel
set_option maxHeartbeats 1000000 in
set_option maxRecDepth 100000 in
theorem x_L_enter1 (l : Launch) (hsT : l.stackTraces = false) (D : va_G) (G : Nat → ClassId) (ad : Nat → Nat) (N : Nat) (c : Nat → va_E) {lim : Int} {no dn : Nat} {gn : Nat → Nat} {gg : Nat → Nat → Nat} {dg nn : Nat → Nat} {pt ln : Nat → Nat → Nat} {wi : Nat → Nat → Int} (hNe : N = 120 + 2 * no) (hD : DK G ad c lim no dn gn gg dg nn pt ln wi) (hV : SV lim no dn gn gg dg nn pt ln wi) (hbad : dn = 0) : MC l yL_enter wsL_enter rm_L_enter [.ref (ad 0)] D G ad N c (qI D G wI (hP G ad (-99999) (lim, no, dn, gn, gg, dg, nn, pt, ln, wi))) 2 6 := by
  have hN : 120 + 2 * no ≤ N := by omega
  refine MCiH.of (cc := cL_enter) (maxL := 2) (by decide) rfl (Nat.le_of_ble_eq_true rfl) ?_
  intro p e s m args below meth kc A Q hx hb hts hown hml htab fin H locs w ls hl
  have hown : s.vm.findClass RL = some m.cls := hown
  have hl : lv_has ls 2 [(0, .ref (ad 0))] := hl
  refine lv_aload_n hx hb dL_enter_0 rfl (lv_at hl 0 rfl) ?_
  refine pw_cx (E0 := xIS) w (pw_runVX (r := 0) (ci := 7) (As := []) (rest := []) w ⟨hx, hb, hml, hown, hts⟩ (x_X7_enter1 l hsT D G ad N c hN hD hV hbad) (cwV 0 hts gL_enter_X7_enter rfl rfl rfl (by decide +kernel) ⟨Nat.le_of_ble_eq_true rfl, Nat.le_of_ble_eq_true rfl⟩) (by omega) hD.1 rfl rfl hl.1 rfl (lv_room (Nat.le_of_ble_eq_true rfl)) dL_enter_1 ⟨Nat.le_of_ble_eq_true rfl, Nat.le_of_ble_eq_true rfl⟩) (fun c1 ce q9 H locs hp w hce hcv hcl => ?_)
  have w : PW D G A s ad N c1 H locs := w
  obtain ⟨hD1, -⟩ := hp
  refine pw_catch w hown [] ⟨0, 4, 5, 20⟩ [] htab (fun _ h => absurd h List.not_mem_nil) (by decide) (by decide) (hts _ wd_L_enter_k20) (by decide) hce hcv hcl ?_
  refine lv_astore_n (lv' := [(1, .ref q9), (0, .ref (ad 0))]) hx hb dL_enter_5 rfl hl (by decide) rfl (fun ls hl => ?_)
  refine lv_ldc hx hb hown (hts _ wd_L_enter_k16) dL_enter_6 (pz_topI (y := zI (-99999)) (by decide +kernel) ?_)
  exact fin (ad, N, c1) (ad, N, c1) _ _ _ _ _ _ _ rfl ⟨rfl, hNe, rfl, hD1⟩ w dL_enter_8 (Nat.le_of_ble_eq_true rfl) (Nat.le_of_ble_eq_true rfl)

set_option maxHeartbeats 1000000 in
set_option maxRecDepth 100000 in
theorem x_L_enter2 (l : Launch) (hsT : l.stackTraces = false) (D : va_G) (G : Nat → ClassId) (ad : Nat → Nat) (N : Nat) (c : Nat → va_E) {lim : Int} {no dn : Nat} {gn : Nat → Nat} {gg : Nat → Nat → Nat} {dg nn : Nat → Nat} {pt ln : Nat → Nat → Nat} {wi : Nat → Nat → Int} (hNe : N = 120 + 2 * no) (hD : DK G ad c lim no dn gn gg dg nn pt ln wi) (hV : SV lim no dn gn gg dg nn pt ln wi) (hd1 : 1 ≤ dn) (hbad : no = 8) : MC l yL_enter wsL_enter rm_L_enter [.ref (ad 0)] D G ad N c (qI D G wI (hP G ad (-99999) (lim, no, dn, gn, gg, dg, nn, pt, ln, wi))) 2 6 := by
  have hN : 120 + 2 * no ≤ N := by omega
  refine MCiH.of (cc := cL_enter) (maxL := 2) (by decide) rfl (Nat.le_of_ble_eq_true rfl) ?_
  intro p e s m args below meth kc A Q hx hb hts hown hml htab fin H locs w ls hl
  have hown : s.vm.findClass RL = some m.cls := hown
  have hl : lv_has ls 2 [(0, .ref (ad 0))] := hl
  refine lv_aload_n hx hb dL_enter_0 rfl (lv_at hl 0 rfl) ?_
  refine pw_cx (E0 := xIS) w (pw_runVX (r := 0) (ci := 7) (As := []) (rest := []) w ⟨hx, hb, hml, hown, hts⟩ (x_X7_enter2 l hsT D G ad N c hN hD hV hd1 hbad) (cwV 0 hts gL_enter_X7_enter rfl rfl rfl (by decide +kernel) ⟨Nat.le_of_ble_eq_true rfl, Nat.le_of_ble_eq_true rfl⟩) (by omega) hD.1 rfl rfl hl.1 rfl (lv_room (Nat.le_of_ble_eq_true rfl)) dL_enter_1 ⟨Nat.le_of_ble_eq_true rfl, Nat.le_of_ble_eq_true rfl⟩) (fun c1 ce q9 H locs hp w hce hcv hcl => ?_)
  have w : PW D G A s ad N c1 H locs := w
  obtain ⟨hD1, -⟩ := hp
  refine pw_catch w hown [] ⟨0, 4, 5, 20⟩ [] htab (fun _ h => absurd h List.not_mem_nil) (by decide) (by decide) (hts _ wd_L_enter_k20) (by decide) hce hcv hcl ?_
  refine lv_astore_n (lv' := [(1, .ref q9), (0, .ref (ad 0))]) hx hb dL_enter_5 rfl hl (by decide) rfl (fun ls hl => ?_)
  refine lv_ldc hx hb hown (hts _ wd_L_enter_k16) dL_enter_6 (pz_topI (y := zI (-99999)) (by decide +kernel) ?_)
  exact fin (ad, N, c1) (ad, N, c1) _ _ _ _ _ _ _ rfl ⟨rfl, hNe, rfl, hD1⟩ w dL_enter_8 (Nat.le_of_ble_eq_true rfl) (Nat.le_of_ble_eq_true rfl)

abbrev rm_L_addNote : Room := { frames := 9, cells := 2, slots := 6, locals := 270 }
set_option maxHeartbeats 1000000 in
set_option maxRecDepth 100000 in
theorem c_L_addNote (l : Launch) (D : va_G) (G : Nat → ClassId) (ad : Nat → Nat) (N : Nat) (c : Nat → va_E) {lim : Int} {no dn : Nat} {gn : Nat → Nat} {gg : Nat → Nat → Nat} {dg nn : Nat → Nat} {pt ln : Nat → Nat → Nat} {wi : Nat → Nat → Int} (hNe : N = 120 + 2 * no) (hD : DK G ad c lim no dn gn gg dg nn pt ln wi) (hV : SV lim no dn gn gg dg nn pt ln wi) {t x mm : Nat} (ht : t < 4) (hx9 : x < 9) (hmm : 1 ≤ mm ∧ mm ≤ 32) (hn10 : nn t < 10) : MC l yL_addNote wsL_addNote rm_L_addNote [.ref (ad 0), .int (zI (t : Int)), .int (zI (x : Int)), .int (zI (mm : Int))] D G ad N c (qI D G wI (hP G ad ((nn t + 1 : Nat) : Int) (lim, no, dn, gn, gg, dg, (upT nn t (nn t + 1)), (upT pt t (fun i => if i = nn t then x else pt t i)), (upT ln t (fun i => if i = nn t then mm else ln t i)), (upT wi t (fun i => if i + 1 = nn t then 0 else wi t i))))) 2 6 := by
  have hN : 120 + 2 * no ≤ N := by omega
  refine MCiH.of (cc := cL_addNote) (maxL := 5) (by decide) rfl (Nat.le_of_ble_eq_true rfl) ?_
  intro p e s m args below meth kc A Q hx hb hts hown hml htab fin H locs w ls hl
  have hown : s.vm.findClass RL = some m.cls := hown
  have hl : lv_has ls 5 [(0, .ref (ad 0)), (1, .int (zI (t : Int))), (2, .int (zI (x : Int))), (3, .int (zI (mm : Int)))] := hl
  refine lv_aload_n hx hb dL_addNote_0 rfl (lv_at hl 0 rfl) ?_
  refine lv_iload_n hx hb dL_addNote_1 rfl (lv_at hl 1 rfl) ?_
  refine lv_iload_n hx hb dL_addNote_2 rfl (lv_at hl 2 rfl) ?_
  refine lv_iload_n hx hb dL_addNote_3 rfl (lv_at hl 3 rfl) ?_
  refine pw_ci w (pw_runV (r := 0) (ci := 7) (As := [.int (zI (t : Int)), .int (zI (x : Int)), .int (zI (mm : Int))]) (rest := []) w ⟨hx, hb, hml, hown, hts⟩ (c_X7_addNote l D G ad N c hN hD hV (t := t) (x := x) (mm := mm) ht hx9 hmm hn10) (cwV 3 hts gL_addNote_X7_addNote rfl rfl rfl (by decide +kernel) ⟨Nat.le_of_ble_eq_true rfl, Nat.le_of_ble_eq_true rfl⟩) (by omega) hD.1 rfl rfl hl.1 rfl (lv_room (Nat.le_of_ble_eq_true rfl)) dL_addNote_4 ⟨Nat.le_of_ble_eq_true rfl, Nat.le_of_ble_eq_true rfl⟩) (fun r_ c1 H locs hp w => ?_)
  have w : PW D G A s ad N c1 H locs := w
  obtain ⟨hv, hD1, -⟩ := hp
  subst hv
  exact fin (ad, N, c1) (ad, N, c1) _ _ _ _ _ _ _ rfl ⟨rfl, hNe, rfl, hD1⟩ w dL_addNote_7 (Nat.le_of_ble_eq_true rfl) (Nat.le_of_ble_eq_true rfl)

theorem wd_L_addNote_k14 : Cond.classLink RL 14 "java/lang/IllegalArgumentException" ∈ wsL_addNote := by decide +kernel
theorem wd_L_addNote_k16 : Cond.constant RL 16 (-99999) ∈ wsL_addNote := by decide +kernel
set_option maxHeartbeats 1000000 in
set_option maxRecDepth 100000 in
theorem x_L_addNote1 (l : Launch) (hsT : l.stackTraces = false) (D : va_G) (G : Nat → ClassId) (ad : Nat → Nat) (N : Nat) (c : Nat → va_E) {lim : Int} {no dn : Nat} {gn : Nat → Nat} {gg : Nat → Nat → Nat} {dg nn : Nat → Nat} {pt ln : Nat → Nat → Nat} {wi : Nat → Nat → Int} (hNe : N = 120 + 2 * no) (hD : DK G ad c lim no dn gn gg dg nn pt ln wi) (hV : SV lim no dn gn gg dg nn pt ln wi) {zt zx zm : Int} (hbzt : bnd zt) (hbzx : bnd zx) (hbzm : bnd zm) (hbad : ¬ ((0 ≤ zt ∧ zt ≤ 3) ∧ (0 ≤ zx ∧ zx ≤ 8) ∧ 1 ≤ zm ∧ zm ≤ 32)) : MC l yL_addNote wsL_addNote rm_L_addNote [.ref (ad 0), .int (zI zt), .int (zI zx), .int (zI zm)] D G ad N c (qI D G wI (hP G ad (-99999) (lim, no, dn, gn, gg, dg, nn, pt, ln, wi))) 2 6 := by
  have hN : 120 + 2 * no ≤ N := by omega
  refine MCiH.of (cc := cL_addNote) (maxL := 5) (by decide) rfl (Nat.le_of_ble_eq_true rfl) ?_
  intro p e s m args below meth kc A Q hx hb hts hown hml htab fin H locs w ls hl
  have hown : s.vm.findClass RL = some m.cls := hown
  have hl : lv_has ls 5 [(0, .ref (ad 0)), (1, .int (zI zt)), (2, .int (zI zx)), (3, .int (zI zm))] := hl
  refine lv_aload_n hx hb dL_addNote_0 rfl (lv_at hl 0 rfl) ?_
  refine lv_iload_n hx hb dL_addNote_1 rfl (lv_at hl 1 rfl) ?_
  refine lv_iload_n hx hb dL_addNote_2 rfl (lv_at hl 2 rfl) ?_
  refine lv_iload_n hx hb dL_addNote_3 rfl (lv_at hl 3 rfl) ?_
  refine pw_cx (E0 := xIA) w (pw_runVX (r := 0) (ci := 7) (As := [.int (zI zt), .int (zI zx), .int (zI zm)]) (rest := []) w ⟨hx, hb, hml, hown, hts⟩ (x_X7_addNote1 l hsT D G ad N c hN hD hV (zt := zt) (zx := zx) (zm := zm) hbzt hbzx hbzm hbad) (cwV 3 hts gL_addNote_X7_addNote rfl rfl rfl (by decide +kernel) ⟨Nat.le_of_ble_eq_true rfl, Nat.le_of_ble_eq_true rfl⟩) (by omega) hD.1 rfl rfl hl.1 rfl (lv_room (Nat.le_of_ble_eq_true rfl)) dL_addNote_4 ⟨Nat.le_of_ble_eq_true rfl, Nat.le_of_ble_eq_true rfl⟩) (fun c1 ce q9 H locs hp w hce hcv hcl => ?_)
  have w : PW D G A s ad N c1 H locs := w
  obtain ⟨hD1, -⟩ := hp
  refine pw_catch w hown [] ⟨0, 7, 8, 14⟩ [⟨0, 7, 13, 20⟩] htab (fun _ h => absurd h List.not_mem_nil) (by decide) (by decide) (hts _ wd_L_addNote_k14) (by decide) hce hcv hcl ?_
  refine lv_astore (lv' := [(4, .ref q9), (0, .ref (ad 0)), (1, .int (zI zt)), (2, .int (zI zx)), (3, .int (zI zm))]) hx hb dL_addNote_8 hl (by decide) rfl (fun ls hl => ?_)
  refine lv_ldc hx hb hown (hts _ wd_L_addNote_k16) dL_addNote_10 (pz_topI (y := zI (-99999)) (by decide +kernel) ?_)
  exact fin (ad, N, c1) (ad, N, c1) _ _ _ _ _ _ _ rfl ⟨rfl, hNe, rfl, hD1⟩ w dL_addNote_12 (Nat.le_of_ble_eq_true rfl) (Nat.le_of_ble_eq_true rfl)

theorem wd_L_addNote_k20 : Cond.classLink RL 20 "java/lang/IllegalStateException" ∈ wsL_addNote := by decide +kernel
set_option maxHeartbeats 1000000 in
set_option maxRecDepth 100000 in
theorem x_L_addNote2 (l : Launch) (hsT : l.stackTraces = false) (D : va_G) (G : Nat → ClassId) (ad : Nat → Nat) (N : Nat) (c : Nat → va_E) {lim : Int} {no dn : Nat} {gn : Nat → Nat} {gg : Nat → Nat → Nat} {dg nn : Nat → Nat} {pt ln : Nat → Nat → Nat} {wi : Nat → Nat → Int} (hNe : N = 120 + 2 * no) (hD : DK G ad c lim no dn gn gg dg nn pt ln wi) (hV : SV lim no dn gn gg dg nn pt ln wi) {t x mm : Nat} (ht : t < 4) (hx9 : x < 9) (hmm : 1 ≤ mm ∧ mm ≤ 32) (hfull : nn t = 10) : MC l yL_addNote wsL_addNote rm_L_addNote [.ref (ad 0), .int (zI (t : Int)), .int (zI (x : Int)), .int (zI (mm : Int))] D G ad N c (qI D G wI (hP G ad (-99999) (lim, no, dn, gn, gg, dg, nn, pt, ln, wi))) 2 6 := by
  have hN : 120 + 2 * no ≤ N := by omega
  refine MCiH.of (cc := cL_addNote) (maxL := 5) (by decide) rfl (Nat.le_of_ble_eq_true rfl) ?_
  intro p e s m args below meth kc A Q hx hb hts hown hml htab fin H locs w ls hl
  have hown : s.vm.findClass RL = some m.cls := hown
  have hl : lv_has ls 5 [(0, .ref (ad 0)), (1, .int (zI (t : Int))), (2, .int (zI (x : Int))), (3, .int (zI (mm : Int)))] := hl
  refine lv_aload_n hx hb dL_addNote_0 rfl (lv_at hl 0 rfl) ?_
  refine lv_iload_n hx hb dL_addNote_1 rfl (lv_at hl 1 rfl) ?_
  refine lv_iload_n hx hb dL_addNote_2 rfl (lv_at hl 2 rfl) ?_
  refine lv_iload_n hx hb dL_addNote_3 rfl (lv_at hl 3 rfl) ?_
  refine pw_cx (E0 := xIS) w (pw_runVX (r := 0) (ci := 7) (As := [.int (zI (t : Int)), .int (zI (x : Int)), .int (zI (mm : Int))]) (rest := []) w ⟨hx, hb, hml, hown, hts⟩ (x_X7_addNote2 l hsT D G ad N c hN hD hV (t := t) (x := x) (mm := mm) ht hx9 hmm hfull) (cwV 3 hts gL_addNote_X7_addNote rfl rfl rfl (by decide +kernel) ⟨Nat.le_of_ble_eq_true rfl, Nat.le_of_ble_eq_true rfl⟩) (by omega) hD.1 rfl rfl hl.1 rfl (lv_room (Nat.le_of_ble_eq_true rfl)) dL_addNote_4 ⟨Nat.le_of_ble_eq_true rfl, Nat.le_of_ble_eq_true rfl⟩) (fun c1 ce q9 H locs hp w hce hcv hcl => ?_)
  have w : PW D G A s ad N c1 H locs := w
  obtain ⟨hD1, -⟩ := hp
  refine pw_catch w hown [⟨0, 7, 8, 14⟩] ⟨0, 7, 13, 20⟩ [] htab (List.forall_mem_cons.mpr ⟨⟨by decide, xIA, by decide, hts _ wd_L_addNote_k14⟩, (fun _ h => absurd h List.not_mem_nil)⟩) (by decide) (by decide) (hts _ wd_L_addNote_k20) (by decide) hce hcv hcl ?_
  refine lv_astore (lv' := [(4, .ref q9), (0, .ref (ad 0)), (1, .int (zI (t : Int))), (2, .int (zI (x : Int))), (3, .int (zI (mm : Int)))]) hx hb dL_addNote_13 hl (by decide) rfl (fun ls hl => ?_)
  refine lv_ldc hx hb hown (hts _ wd_L_addNote_k16) dL_addNote_15 (pz_topI (y := zI (-99999)) (by decide +kernel) ?_)
  exact fin (ad, N, c1) (ad, N, c1) _ _ _ _ _ _ _ rfl ⟨rfl, hNe, rfl, hD1⟩ w dL_addNote_17 (Nat.le_of_ble_eq_true rfl) (Nat.le_of_ble_eq_true rfl)

abbrev rm_L_removeNote : Room := { frames := 9, cells := 2, slots := 6, locals := 270 }
set_option maxHeartbeats 1000000 in
set_option maxRecDepth 100000 in
theorem c_L_removeNote (l : Launch) (D : va_G) (G : Nat → ClassId) (ad : Nat → Nat) (N : Nat) (c : Nat → va_E) {lim : Int} {no dn : Nat} {gn : Nat → Nat} {gg : Nat → Nat → Nat} {dg nn : Nat → Nat} {pt ln : Nat → Nat → Nat} {wi : Nat → Nat → Int} (hNe : N = 120 + 2 * no) (hD : DK G ad c lim no dn gn gg dg nn pt ln wi) (hV : SV lim no dn gn gg dg nn pt ln wi) {t : Nat} (ht : t < 4) (hn0 : 0 < nn t) : MC l yL_removeNote wsL_removeNote rm_L_removeNote [.ref (ad 0), .int (zI (t : Int))] D G ad N c (qI D G wI (hP G ad (pt t (nn t - 1) : Int) (lim, no, dn, gn, gg, dg, (upT nn t (nn t - 1)), pt, ln, wi))) 2 6 := by
  have hN : 120 + 2 * no ≤ N := by omega
  refine MCiH.of (cc := cL_removeNote) (maxL := 3) (by decide) rfl (Nat.le_of_ble_eq_true rfl) ?_
  intro p e s m args below meth kc A Q hx hb hts hown hml htab fin H locs w ls hl
  have hown : s.vm.findClass RL = some m.cls := hown
  have hl : lv_has ls 3 [(0, .ref (ad 0)), (1, .int (zI (t : Int)))] := hl
  refine lv_aload_n hx hb dL_removeNote_0 rfl (lv_at hl 0 rfl) ?_
  refine lv_iload_n hx hb dL_removeNote_1 rfl (lv_at hl 1 rfl) ?_
  refine pw_ci w (pw_runV (r := 0) (ci := 7) (As := [.int (zI (t : Int))]) (rest := []) w ⟨hx, hb, hml, hown, hts⟩ (c_X7_removeNote l D G ad N c hN hD hV (t := t) ht hn0) (cwV 1 hts gL_removeNote_X7_removeNote rfl rfl rfl (by decide +kernel) ⟨Nat.le_of_ble_eq_true rfl, Nat.le_of_ble_eq_true rfl⟩) (by omega) hD.1 rfl rfl hl.1 rfl (lv_room (Nat.le_of_ble_eq_true rfl)) dL_removeNote_2 ⟨Nat.le_of_ble_eq_true rfl, Nat.le_of_ble_eq_true rfl⟩) (fun r_ c1 H locs hp w => ?_)
  have w : PW D G A s ad N c1 H locs := w
  obtain ⟨hv, hD1, -⟩ := hp
  subst hv
  exact fin (ad, N, c1) (ad, N, c1) _ _ _ _ _ _ _ rfl ⟨rfl, hNe, rfl, hD1⟩ w dL_removeNote_5 (Nat.le_of_ble_eq_true rfl) (Nat.le_of_ble_eq_true rfl)

theorem wd_L_removeNote_k14 : Cond.classLink RL 14 "java/lang/IllegalArgumentException" ∈ wsL_removeNote := by decide +kernel
theorem wd_L_removeNote_k16 : Cond.constant RL 16 (-99999) ∈ wsL_removeNote := by decide +kernel
set_option maxHeartbeats 1000000 in
set_option maxRecDepth 100000 in
theorem x_L_removeNote1 (l : Launch) (hsT : l.stackTraces = false) (D : va_G) (G : Nat → ClassId) (ad : Nat → Nat) (N : Nat) (c : Nat → va_E) {lim : Int} {no dn : Nat} {gn : Nat → Nat} {gg : Nat → Nat → Nat} {dg nn : Nat → Nat} {pt ln : Nat → Nat → Nat} {wi : Nat → Nat → Int} (hNe : N = 120 + 2 * no) (hD : DK G ad c lim no dn gn gg dg nn pt ln wi) (hV : SV lim no dn gn gg dg nn pt ln wi) {zt : Int} (hbzt : bnd zt) (hbad : ¬ (0 ≤ zt ∧ zt ≤ 3)) : MC l yL_removeNote wsL_removeNote rm_L_removeNote [.ref (ad 0), .int (zI zt)] D G ad N c (qI D G wI (hP G ad (-99999) (lim, no, dn, gn, gg, dg, nn, pt, ln, wi))) 2 6 := by
  have hN : 120 + 2 * no ≤ N := by omega
  refine MCiH.of (cc := cL_removeNote) (maxL := 3) (by decide) rfl (Nat.le_of_ble_eq_true rfl) ?_
  intro p e s m args below meth kc A Q hx hb hts hown hml htab fin H locs w ls hl
  have hown : s.vm.findClass RL = some m.cls := hown
  have hl : lv_has ls 3 [(0, .ref (ad 0)), (1, .int (zI zt))] := hl
  refine lv_aload_n hx hb dL_removeNote_0 rfl (lv_at hl 0 rfl) ?_
  refine lv_iload_n hx hb dL_removeNote_1 rfl (lv_at hl 1 rfl) ?_
  refine pw_cx (E0 := xIA) w (pw_runVX (r := 0) (ci := 7) (As := [.int (zI zt)]) (rest := []) w ⟨hx, hb, hml, hown, hts⟩ (x_X7_removeNote1 l hsT D G ad N c hN hD hV (zt := zt) hbzt hbad) (cwV 1 hts gL_removeNote_X7_removeNote rfl rfl rfl (by decide +kernel) ⟨Nat.le_of_ble_eq_true rfl, Nat.le_of_ble_eq_true rfl⟩) (by omega) hD.1 rfl rfl hl.1 rfl (lv_room (Nat.le_of_ble_eq_true rfl)) dL_removeNote_2 ⟨Nat.le_of_ble_eq_true rfl, Nat.le_of_ble_eq_true rfl⟩) (fun c1 ce q9 H locs hp w hce hcv hcl => ?_)
  have w : PW D G A s ad N c1 H locs := w
  obtain ⟨hD1, -⟩ := hp
  refine pw_catch w hown [] ⟨0, 5, 6, 14⟩ [⟨0, 5, 10, 33⟩] htab (fun _ h => absurd h List.not_mem_nil) (by decide) (by decide) (hts _ wd_L_removeNote_k14) (by decide) hce hcv hcl ?_
  refine lv_astore_n (lv' := [(2, .ref q9), (0, .ref (ad 0)), (1, .int (zI zt))]) hx hb dL_removeNote_6 rfl hl (by decide) rfl (fun ls hl => ?_)
  refine lv_ldc hx hb hown (hts _ wd_L_removeNote_k16) dL_removeNote_7 (pz_topI (y := zI (-99999)) (by decide +kernel) ?_)
  exact fin (ad, N, c1) (ad, N, c1) _ _ _ _ _ _ _ rfl ⟨rfl, hNe, rfl, hD1⟩ w dL_removeNote_9 (Nat.le_of_ble_eq_true rfl) (Nat.le_of_ble_eq_true rfl)

theorem wd_L_removeNote_k33 : Cond.classLink RL 33 "java/util/NoSuchElementException" ∈ wsL_removeNote := by decide +kernel
set_option maxHeartbeats 1000000 in
set_option maxRecDepth 100000 in
theorem x_L_removeNote2 (l : Launch) (hsT : l.stackTraces = false) (D : va_G) (G : Nat → ClassId) (ad : Nat → Nat) (N : Nat) (c : Nat → va_E) {lim : Int} {no dn : Nat} {gn : Nat → Nat} {gg : Nat → Nat → Nat} {dg nn : Nat → Nat} {pt ln : Nat → Nat → Nat} {wi : Nat → Nat → Int} (hNe : N = 120 + 2 * no) (hD : DK G ad c lim no dn gn gg dg nn pt ln wi) (hV : SV lim no dn gn gg dg nn pt ln wi) {t : Nat} (ht : t < 4) (hn0 : nn t = 0) : MC l yL_removeNote wsL_removeNote rm_L_removeNote [.ref (ad 0), .int (zI (t : Int))] D G ad N c (qI D G wI (hP G ad (-99999) (lim, no, dn, gn, gg, dg, nn, pt, ln, wi))) 2 6 := by
  have hN : 120 + 2 * no ≤ N := by omega
  refine MCiH.of (cc := cL_removeNote) (maxL := 3) (by decide) rfl (Nat.le_of_ble_eq_true rfl) ?_
  intro p e s m args below meth kc A Q hx hb hts hown hml htab fin H locs w ls hl
  have hown : s.vm.findClass RL = some m.cls := hown
  have hl : lv_has ls 3 [(0, .ref (ad 0)), (1, .int (zI (t : Int)))] := hl
  refine lv_aload_n hx hb dL_removeNote_0 rfl (lv_at hl 0 rfl) ?_
  refine lv_iload_n hx hb dL_removeNote_1 rfl (lv_at hl 1 rfl) ?_
  refine pw_cx (E0 := xNS) w (pw_runVX (r := 0) (ci := 7) (As := [.int (zI (t : Int))]) (rest := []) w ⟨hx, hb, hml, hown, hts⟩ (x_X7_removeNote2 l hsT D G ad N c hN hD hV (t := t) ht hn0) (cwV 1 hts gL_removeNote_X7_removeNote rfl rfl rfl (by decide +kernel) ⟨Nat.le_of_ble_eq_true rfl, Nat.le_of_ble_eq_true rfl⟩) (by omega) hD.1 rfl rfl hl.1 rfl (lv_room (Nat.le_of_ble_eq_true rfl)) dL_removeNote_2 ⟨Nat.le_of_ble_eq_true rfl, Nat.le_of_ble_eq_true rfl⟩) (fun c1 ce q9 H locs hp w hce hcv hcl => ?_)
  have w : PW D G A s ad N c1 H locs := w
  obtain ⟨hD1, -⟩ := hp
  refine pw_catch w hown [⟨0, 5, 6, 14⟩] ⟨0, 5, 10, 33⟩ [] htab (List.forall_mem_cons.mpr ⟨⟨by decide, xIA, by decide, hts _ wd_L_removeNote_k14⟩, (fun _ h => absurd h List.not_mem_nil)⟩) (by decide) (by decide) (hts _ wd_L_removeNote_k33) (by decide) hce hcv hcl ?_
  refine lv_astore_n (lv' := [(2, .ref q9), (0, .ref (ad 0)), (1, .int (zI (t : Int)))]) hx hb dL_removeNote_10 rfl hl (by decide) rfl (fun ls hl => ?_)
  refine lv_ldc hx hb hown (hts _ wd_L_removeNote_k16) dL_removeNote_11 (pz_topI (y := zI (-99999)) (by decide +kernel) ?_)
  exact fin (ad, N, c1) (ad, N, c1) _ _ _ _ _ _ _ rfl ⟨rfl, hNe, rfl, hD1⟩ w dL_removeNote_13 (Nat.le_of_ble_eq_true rfl) (Nat.le_of_ble_eq_true rfl)

abbrev rm_L_setWish : Room := { frames := 9, cells := 2, slots := 6, locals := 270 }
set_option maxHeartbeats 1000000 in
set_option maxRecDepth 100000 in
theorem c_L_setWish (l : Launch) (D : va_G) (G : Nat → ClassId) (ad : Nat → Nat) (N : Nat) (c : Nat → va_E) {lim : Int} {no dn : Nat} {gn : Nat → Nat} {gg : Nat → Nat → Nat} {dg nn : Nat → Nat} {pt ln : Nat → Nat → Nat} {wi : Nat → Nat → Int} (hNe : N = 120 + 2 * no) (hD : DK G ad c lim no dn gn gg dg nn pt ln wi) (hV : SV lim no dn gn gg dg nn pt ln wi) {t : Nat} (ht : t < 4) {i : Nat} {xw : Int} (hi : i + 1 < nn t) (hxw : xw = 0 ∨ xw = 1) : MC l yL_setWish wsL_setWish rm_L_setWish [.ref (ad 0), .int (zI (t : Int)), .int (zI (i : Int)), .int (zI xw)] D G ad N c (qI D G wI (hP G ad (wi t i) (lim, no, dn, gn, gg, dg, nn, pt, ln, (upT wi t (fun j => if j = i then xw else wi t j))))) 2 6 := by
  have hN : 120 + 2 * no ≤ N := by omega
  refine MCiH.of (cc := cL_setWish) (maxL := 5) (by decide) rfl (Nat.le_of_ble_eq_true rfl) ?_
  intro p e s m args below meth kc A Q hx hb hts hown hml htab fin H locs w ls hl
  have hown : s.vm.findClass RL = some m.cls := hown
  have hl : lv_has ls 5 [(0, .ref (ad 0)), (1, .int (zI (t : Int))), (2, .int (zI (i : Int))), (3, .int (zI xw))] := hl
  refine lv_aload_n hx hb dL_setWish_0 rfl (lv_at hl 0 rfl) ?_
  refine lv_iload_n hx hb dL_setWish_1 rfl (lv_at hl 1 rfl) ?_
  refine lv_iload_n hx hb dL_setWish_2 rfl (lv_at hl 2 rfl) ?_
  refine lv_iload_n hx hb dL_setWish_3 rfl (lv_at hl 3 rfl) ?_
  refine pw_ci w (pw_runV (r := 0) (ci := 7) (As := [.int (zI (t : Int)), .int (zI (i : Int)), .int (zI xw)]) (rest := []) w ⟨hx, hb, hml, hown, hts⟩ (c_X7_setWish l D G ad N c hN hD hV (t := t) ht (i := i) (xw := xw) hi hxw) (cwV 3 hts gL_setWish_X7_setWish rfl rfl rfl (by decide +kernel) ⟨Nat.le_of_ble_eq_true rfl, Nat.le_of_ble_eq_true rfl⟩) (by omega) hD.1 rfl rfl hl.1 rfl (lv_room (Nat.le_of_ble_eq_true rfl)) dL_setWish_4 ⟨Nat.le_of_ble_eq_true rfl, Nat.le_of_ble_eq_true rfl⟩) (fun r_ c1 H locs hp w => ?_)
  have w : PW D G A s ad N c1 H locs := w
  obtain ⟨hv, hD1, -⟩ := hp
  subst hv
  have h01 : ((wi t i) : Int) = 0 ∨ ((wi t i) : Int) = 1 := (hV.2.2.2.2 t ht).2.2 i hi
  refine pz_ifeq (tgt := 14) hx hb dL_setWish_7 (by decide) (by rcases h01 with h | h <;> rw [h] <;> exact ⟨by decide, by decide⟩) (fun hz => ?_) (fun hz => ?_)
  · refine lv_iconst (v := zI (0)) hx hb dL_setWish_14 rfl ?_
    exact fin (ad, N, c1) (ad, N, c1) _ _ _ _ _ _ _ rfl ⟨by rw [hz], hNe, rfl, hD1⟩ w dL_setWish_15 (Nat.le_of_ble_eq_true rfl) (Nat.le_of_ble_eq_true rfl)
  · refine lv_iconst (v := zI (1)) hx hb dL_setWish_10 rfl ?_
    refine lv_goto (tgt := 15) hx hb dL_setWish_11 (by decide) ?_
    exact fin (ad, N, c1) (ad, N, c1) _ _ _ _ _ _ _ rfl ⟨by rw [h01.resolve_left hz], hNe, rfl, hD1⟩ w dL_setWish_15 (Nat.le_of_ble_eq_true rfl) (Nat.le_of_ble_eq_true rfl)

theorem wd_L_setWish_k14 : Cond.classLink RL 14 "java/lang/IllegalArgumentException" ∈ wsL_setWish := by decide +kernel
theorem wd_L_setWish_k16 : Cond.constant RL 16 (-99999) ∈ wsL_setWish := by decide +kernel
set_option maxHeartbeats 1000000 in
set_option maxRecDepth 100000 in
theorem x_L_setWish1 (l : Launch) (hsT : l.stackTraces = false) (D : va_G) (G : Nat → ClassId) (ad : Nat → Nat) (N : Nat) (c : Nat → va_E) {lim : Int} {no dn : Nat} {gn : Nat → Nat} {gg : Nat → Nat → Nat} {dg nn : Nat → Nat} {pt ln : Nat → Nat → Nat} {wi : Nat → Nat → Int} (hNe : N = 120 + 2 * no) (hD : DK G ad c lim no dn gn gg dg nn pt ln wi) (hV : SV lim no dn gn gg dg nn pt ln wi) {zt : Int} (hbzt : bnd zt) (hbad : ¬ (0 ≤ zt ∧ zt ≤ 3)) {zi xw : Int} : MC l yL_setWish wsL_setWish rm_L_setWish [.ref (ad 0), .int (zI zt), .int (zI zi), .int (zI xw)] D G ad N c (qI D G wI (hP G ad (-99999) (lim, no, dn, gn, gg, dg, nn, pt, ln, wi))) 2 6 := by
  have hN : 120 + 2 * no ≤ N := by omega
  refine MCiH.of (cc := cL_setWish) (maxL := 5) (by decide) rfl (Nat.le_of_ble_eq_true rfl) ?_
  intro p e s m args below meth kc A Q hx hb hts hown hml htab fin H locs w ls hl
  have hown : s.vm.findClass RL = some m.cls := hown
  have hl : lv_has ls 5 [(0, .ref (ad 0)), (1, .int (zI zt)), (2, .int (zI zi)), (3, .int (zI xw))] := hl
  refine lv_aload_n hx hb dL_setWish_0 rfl (lv_at hl 0 rfl) ?_
  refine lv_iload_n hx hb dL_setWish_1 rfl (lv_at hl 1 rfl) ?_
  refine lv_iload_n hx hb dL_setWish_2 rfl (lv_at hl 2 rfl) ?_
  refine lv_iload_n hx hb dL_setWish_3 rfl (lv_at hl 3 rfl) ?_
  refine pw_cx (E0 := xIA) w (pw_runVX (r := 0) (ci := 7) (As := [.int (zI zt), .int (zI zi), .int (zI xw)]) (rest := []) w ⟨hx, hb, hml, hown, hts⟩ (x_X7_setWish1 l hsT D G ad N c hN hD hV (zt := zt) hbzt hbad (zi := zi) (xw := xw)) (cwV 3 hts gL_setWish_X7_setWish rfl rfl rfl (by decide +kernel) ⟨Nat.le_of_ble_eq_true rfl, Nat.le_of_ble_eq_true rfl⟩) (by omega) hD.1 rfl rfl hl.1 rfl (lv_room (Nat.le_of_ble_eq_true rfl)) dL_setWish_4 ⟨Nat.le_of_ble_eq_true rfl, Nat.le_of_ble_eq_true rfl⟩) (fun c1 ce q9 H locs hp w hce hcv hcl => ?_)
  have w : PW D G A s ad N c1 H locs := w
  obtain ⟨hD1, -⟩ := hp
  refine pw_catch w hown [] ⟨0, 15, 16, 14⟩ [⟨0, 15, 21, 39⟩] htab (fun _ h => absurd h List.not_mem_nil) (by decide) (by decide) (hts _ wd_L_setWish_k14) (by decide) hce hcv hcl ?_
  refine lv_astore (lv' := [(4, .ref q9), (0, .ref (ad 0)), (1, .int (zI zt)), (2, .int (zI zi)), (3, .int (zI xw))]) hx hb dL_setWish_16 hl (by decide) rfl (fun ls hl => ?_)
  refine lv_ldc hx hb hown (hts _ wd_L_setWish_k16) dL_setWish_18 (pz_topI (y := zI (-99999)) (by decide +kernel) ?_)
  exact fin (ad, N, c1) (ad, N, c1) _ _ _ _ _ _ _ rfl ⟨rfl, hNe, rfl, hD1⟩ w dL_setWish_20 (Nat.le_of_ble_eq_true rfl) (Nat.le_of_ble_eq_true rfl)

theorem wd_L_setWish_k39 : Cond.classLink RL 39 "java/lang/IndexOutOfBoundsException" ∈ wsL_setWish := by decide +kernel
set_option maxHeartbeats 1000000 in
set_option maxRecDepth 100000 in
theorem x_L_setWish2 (l : Launch) (hsT : l.stackTraces = false) (D : va_G) (G : Nat → ClassId) (ad : Nat → Nat) (N : Nat) (c : Nat → va_E) {lim : Int} {no dn : Nat} {gn : Nat → Nat} {gg : Nat → Nat → Nat} {dg nn : Nat → Nat} {pt ln : Nat → Nat → Nat} {wi : Nat → Nat → Int} (hNe : N = 120 + 2 * no) (hD : DK G ad c lim no dn gn gg dg nn pt ln wi) (hV : SV lim no dn gn gg dg nn pt ln wi) {t : Nat} (ht : t < 4) {zi : Int} (hbzi : bnd zi) (hbad : ¬ (0 ≤ zi ∧ zi ≤ (nn t : Int) - 2)) {xw : Int} : MC l yL_setWish wsL_setWish rm_L_setWish [.ref (ad 0), .int (zI (t : Int)), .int (zI zi), .int (zI xw)] D G ad N c (qI D G wI (hP G ad (-99999) (lim, no, dn, gn, gg, dg, nn, pt, ln, wi))) 2 6 := by
  have hN : 120 + 2 * no ≤ N := by omega
  refine MCiH.of (cc := cL_setWish) (maxL := 5) (by decide) rfl (Nat.le_of_ble_eq_true rfl) ?_
  intro p e s m args below meth kc A Q hx hb hts hown hml htab fin H locs w ls hl
  have hown : s.vm.findClass RL = some m.cls := hown
  have hl : lv_has ls 5 [(0, .ref (ad 0)), (1, .int (zI (t : Int))), (2, .int (zI zi)), (3, .int (zI xw))] := hl
  refine lv_aload_n hx hb dL_setWish_0 rfl (lv_at hl 0 rfl) ?_
  refine lv_iload_n hx hb dL_setWish_1 rfl (lv_at hl 1 rfl) ?_
  refine lv_iload_n hx hb dL_setWish_2 rfl (lv_at hl 2 rfl) ?_
  refine lv_iload_n hx hb dL_setWish_3 rfl (lv_at hl 3 rfl) ?_
  refine pw_cx (E0 := xIO) w (pw_runVX (r := 0) (ci := 7) (As := [.int (zI (t : Int)), .int (zI zi), .int (zI xw)]) (rest := []) w ⟨hx, hb, hml, hown, hts⟩ (x_X7_setWish2 l hsT D G ad N c hN hD hV (t := t) ht (zi := zi) hbzi hbad (xw := xw)) (cwV 3 hts gL_setWish_X7_setWish rfl rfl rfl (by decide +kernel) ⟨Nat.le_of_ble_eq_true rfl, Nat.le_of_ble_eq_true rfl⟩) (by omega) hD.1 rfl rfl hl.1 rfl (lv_room (Nat.le_of_ble_eq_true rfl)) dL_setWish_4 ⟨Nat.le_of_ble_eq_true rfl, Nat.le_of_ble_eq_true rfl⟩) (fun c1 ce q9 H locs hp w hce hcv hcl => ?_)
  have w : PW D G A s ad N c1 H locs := w
  obtain ⟨hD1, -⟩ := hp
  refine pw_catch w hown [⟨0, 15, 16, 14⟩] ⟨0, 15, 21, 39⟩ [] htab (List.forall_mem_cons.mpr ⟨⟨by decide, xIA, by decide, hts _ wd_L_setWish_k14⟩, (fun _ h => absurd h List.not_mem_nil)⟩) (by decide) (by decide) (hts _ wd_L_setWish_k39) (by decide) hce hcv hcl ?_
  refine lv_astore (lv' := [(4, .ref q9), (0, .ref (ad 0)), (1, .int (zI (t : Int))), (2, .int (zI zi)), (3, .int (zI xw))]) hx hb dL_setWish_21 hl (by decide) rfl (fun ls hl => ?_)
  refine lv_ldc hx hb hown (hts _ wd_L_setWish_k16) dL_setWish_23 (pz_topI (y := zI (-99999)) (by decide +kernel) ?_)
  exact fin (ad, N, c1) (ad, N, c1) _ _ _ _ _ _ _ rfl ⟨rfl, hNe, rfl, hD1⟩ w dL_setWish_25 (Nat.le_of_ble_eq_true rfl) (Nat.le_of_ble_eq_true rfl)
