/-! OURS: the helpers of the law that ask a desk -/
abbrev rm_L_least : Room := { frames := 9, cells := 2, slots := 6, locals := 270 }
set_option maxHeartbeats 1000000 in
set_option maxRecDepth 100000 in
theorem c_L_least (l : Launch) (D : va_G) (G : Nat → ClassId) (ad : Nat → Nat) (N : Nat) (c : Nat → va_E) {lim : Int} {no dn : Nat} {gn : Nat → Nat} {gg : Nat → Nat → Nat} {dg nn : Nat → Nat} {pt ln : Nat → Nat → Nat} {wi : Nat → Nat → Int} (hNe : N = 120 + 2 * no) (hD : DK G ad c lim no dn gn gg dg nn pt ln wi) (hV : SV lim no dn gn gg dg nn pt ln wi) {t : Nat} (ht : t < 4) (hlt : (lessOf (Rr (cwT lim no gn gg nn pt ln wi t) (nn t - 1) 0)) < 1000000) : MC l yL_least wsL_least rm_L_least [.ref (ad 0), .int (zI (t : Int))] D G ad N c (qI D G (fx ad N) (fun v c1 => v = zI (lessOf (Rr (cwT lim no gn gg nn pt ln wi t) (nn t - 1) 0)) ∧ DK G ad c1 lim no dn gn gg dg nn pt ln wi)) 2 6 := by
  have hN : 120 + 2 * no ≤ N := by omega
  refine MCiH.of (cc := cL_least) (maxL := 3) (by decide) rfl (Nat.le_of_ble_eq_true rfl) ?_
  intro p e s m args below meth kc A Q hx hb hts hown hml htab fin H locs w ls hl
  have hown : s.vm.findClass RL = some m.cls := hown
  have hl : lv_has ls 3 [(0, .ref (ad 0)), (1, .int (zI (t : Int)))] := hl
  refine lv_aload_n hx hb dL_least_0 rfl (lv_at hl 0 rfl) ?_
  refine lv_iload_n hx hb dL_least_1 rfl (lv_at hl 1 rfl) ?_
  refine pw_ci w (pw_runV (r := 0) (ci := 7) (As := [.int (zI (t : Int))]) (rest := []) w ⟨hx, hb, hml, hown, hts⟩ (c_X7_least l D G ad N c hN hD hV (t := t) ht hlt) (cwV 1 hts gL_least_X7_least rfl rfl rfl (by decide +kernel) ⟨Nat.le_of_ble_eq_true rfl, Nat.le_of_ble_eq_true rfl⟩) (by omega) hD.1 rfl rfl hl.1 rfl (lv_room (Nat.le_of_ble_eq_true rfl)) dL_least_2 ⟨Nat.le_of_ble_eq_true rfl, Nat.le_of_ble_eq_true rfl⟩) (fun r_ c1 H locs hp w => ?_)
  have w : PW D G A s ad N c1 H locs := w
  obtain ⟨hv, hD1, -⟩ := hp
  subst hv
  exact fin (ad, N, c1) c1 _ _ _ _ _ _ _ rfl ⟨rfl, hD1⟩ w dL_least_5 (Nat.le_of_ble_eq_true rfl) (Nat.le_of_ble_eq_true rfl)

theorem wd_L_least_k14 : Cond.classLink RL 14 "java/lang/IllegalArgumentException" ∈ wsL_least := by decide +kernel
theorem wd_L_least_k16 : Cond.constant RL 16 (-99999) ∈ wsL_least := by decide +kernel
set_option maxHeartbeats 1000000 in
set_option maxRecDepth 100000 in
theorem x_L_least1 (l : Launch) (hsT : l.stackTraces = false) (D : va_G) (G : Nat → ClassId) (ad : Nat → Nat) (N : Nat) (c : Nat → va_E) {lim : Int} {no dn : Nat} {gn : Nat → Nat} {gg : Nat → Nat → Nat} {dg nn : Nat → Nat} {pt ln : Nat → Nat → Nat} {wi : Nat → Nat → Int} (hNe : N = 120 + 2 * no) (hD : DK G ad c lim no dn gn gg dg nn pt ln wi) (hV : SV lim no dn gn gg dg nn pt ln wi) {zt : Int} (hbzt : bnd zt) (hbad : ¬ (0 ≤ zt ∧ zt ≤ 3)) : MC l yL_least wsL_least rm_L_least [.ref (ad 0), .int (zI zt)] D G ad N c (qI D G (fx ad N) (fun v c1 => v = zI (-99999) ∧ DK G ad c1 lim no dn gn gg dg nn pt ln wi)) 2 6 := by
  have hN : 120 + 2 * no ≤ N := by omega
  refine MCiH.of (cc := cL_least) (maxL := 3) (by decide) rfl (Nat.le_of_ble_eq_true rfl) ?_
  intro p e s m args below meth kc A Q hx hb hts hown hml htab fin H locs w ls hl
  have hown : s.vm.findClass RL = some m.cls := hown
  have hl : lv_has ls 3 [(0, .ref (ad 0)), (1, .int (zI zt))] := hl
  refine lv_aload_n hx hb dL_least_0 rfl (lv_at hl 0 rfl) ?_
  refine lv_iload_n hx hb dL_least_1 rfl (lv_at hl 1 rfl) ?_
  refine pw_cx (E0 := xIA) w (pw_runVX (r := 0) (ci := 7) (As := [.int (zI zt)]) (rest := []) w ⟨hx, hb, hml, hown, hts⟩ (x_X7_least1 l hsT D G ad N c hN hD hV (zt := zt) hbzt hbad) (cwV 1 hts gL_least_X7_least rfl rfl rfl (by decide +kernel) ⟨Nat.le_of_ble_eq_true rfl, Nat.le_of_ble_eq_true rfl⟩) (by omega) hD.1 rfl rfl hl.1 rfl (lv_room (Nat.le_of_ble_eq_true rfl)) dL_least_2 ⟨Nat.le_of_ble_eq_true rfl, Nat.le_of_ble_eq_true rfl⟩) (fun c1 ce q9 H locs hp w hce hcv hcl => ?_)
  have w : PW D G A s ad N c1 H locs := w
  obtain ⟨hD1, -⟩ := hp
  refine pw_catch w hown [] ⟨0, 5, 6, 14⟩ [⟨0, 5, 10, 20⟩] htab (fun _ h => absurd h List.not_mem_nil) (by decide) (by decide) (hts _ wd_L_least_k14) (by decide) hce hcv hcl ?_
  refine lv_astore_n (lv' := [(2, .ref q9), (0, .ref (ad 0)), (1, .int (zI zt))]) hx hb dL_least_6 rfl hl (by decide) rfl (fun ls hl => ?_)
  refine lv_ldc hx hb hown (hts _ wd_L_least_k16) dL_least_7 (pz_topI (y := zI (-99999)) (by decide +kernel) ?_)
  exact fin (ad, N, c1) c1 _ _ _ _ _ _ _ rfl ⟨rfl, hD1⟩ w dL_least_9 (Nat.le_of_ble_eq_true rfl) (Nat.le_of_ble_eq_true rfl)

theorem wd_L_least_k20 : Cond.classLink RL 20 "java/lang/IllegalStateException" ∈ wsL_least := by decide +kernel
set_option maxHeartbeats 1000000 in
set_option maxRecDepth 100000 in
theorem x_L_least2 (l : Launch) (hsT : l.stackTraces = false) (D : va_G) (G : Nat → ClassId) (ad : Nat → Nat) (N : Nat) (c : Nat → va_E) {lim : Int} {no dn : Nat} {gn : Nat → Nat} {gg : Nat → Nat → Nat} {dg nn : Nat → Nat} {pt ln : Nat → Nat → Nat} {wi : Nat → Nat → Int} (hNe : N = 120 + 2 * no) (hD : DK G ad c lim no dn gn gg dg nn pt ln wi) (hV : SV lim no dn gn gg dg nn pt ln wi) {t : Nat} (ht : t < 4) (hlt : ¬ (lessOf (Rr (cwT lim no gn gg nn pt ln wi t) (nn t - 1) 0)) < 1000000) : MC l yL_least wsL_least rm_L_least [.ref (ad 0), .int (zI (t : Int))] D G ad N c (qI D G (fx ad N) (fun v c1 => v = zI (-1) ∧ DK G ad c1 lim no dn gn gg dg nn pt ln wi)) 2 6 := by
  have hN : 120 + 2 * no ≤ N := by omega
  refine MCiH.of (cc := cL_least) (maxL := 3) (by decide) rfl (Nat.le_of_ble_eq_true rfl) ?_
  intro p e s m args below meth kc A Q hx hb hts hown hml htab fin H locs w ls hl
  have hown : s.vm.findClass RL = some m.cls := hown
  have hl : lv_has ls 3 [(0, .ref (ad 0)), (1, .int (zI (t : Int)))] := hl
  refine lv_aload_n hx hb dL_least_0 rfl (lv_at hl 0 rfl) ?_
  refine lv_iload_n hx hb dL_least_1 rfl (lv_at hl 1 rfl) ?_
  refine pw_cx (E0 := xIS) w (pw_runVX (r := 0) (ci := 7) (As := [.int (zI (t : Int))]) (rest := []) w ⟨hx, hb, hml, hown, hts⟩ (x_X7_least2 l hsT D G ad N c hN hD hV (t := t) ht hlt) (cwV 1 hts gL_least_X7_least rfl rfl rfl (by decide +kernel) ⟨Nat.le_of_ble_eq_true rfl, Nat.le_of_ble_eq_true rfl⟩) (by omega) hD.1 rfl rfl hl.1 rfl (lv_room (Nat.le_of_ble_eq_true rfl)) dL_least_2 ⟨Nat.le_of_ble_eq_true rfl, Nat.le_of_ble_eq_true rfl⟩) (fun c1 ce q9 H locs hp w hce hcv hcl => ?_)
  have w : PW D G A s ad N c1 H locs := w
  obtain ⟨hD1, -⟩ := hp
  refine pw_catch w hown [⟨0, 5, 6, 14⟩] ⟨0, 5, 10, 20⟩ [] htab (List.forall_mem_cons.mpr ⟨⟨by decide, xIA, by decide, hts _ wd_L_least_k14⟩, (fun _ h => absurd h List.not_mem_nil)⟩) (by decide) (by decide) (hts _ wd_L_least_k20) (by decide) hce hcv hcl ?_
  refine lv_astore_n (lv' := [(2, .ref q9), (0, .ref (ad 0)), (1, .int (zI (t : Int)))]) hx hb dL_least_10 rfl hl (by decide) rfl (fun ls hl => ?_)
  refine lv_iconst (v := zI (-1)) hx hb dL_least_11 rfl ?_
  exact fin (ad, N, c1) c1 _ _ _ _ _ _ _ rfl ⟨rfl, hD1⟩ w dL_least_12 (Nat.le_of_ble_eq_true rfl) (Nat.le_of_ble_eq_true rfl)

abbrev rm_L_leastSet : Room := { frames := 9, cells := 2, slots := 6, locals := 270 }
set_option maxHeartbeats 1000000 in
set_option maxRecDepth 100000 in
theorem c_L_leastSet (l : Launch) (D : va_G) (G : Nat → ClassId) (ad : Nat → Nat) (N : Nat) (c : Nat → va_E) {lim : Int} {no dn : Nat} {gn : Nat → Nat} {gg : Nat → Nat → Nat} {dg nn : Nat → Nat} {pt ln : Nat → Nat → Nat} {wi : Nat → Nat → Int} (hNe : N = 120 + 2 * no) (hD : DK G ad c lim no dn gn gg dg nn pt ln wi) (hV : SV lim no dn gn gg dg nn pt ln wi) {nS lS : Int} {bS : Nat → Nat} (hSV : SetV lim no gn gg nn pt ln wi nS lS bS) (hn : ¬ nS = 0) : MC l yL_leastSet wsL_leastSet rm_L_leastSet [.ref (ad 0)] D G ad N c (qI D G (fx ad N) (fun v c1 => v = zI lS ∧ DK G ad c1 lim no dn gn gg dg nn pt ln wi)) 2 6 := by
  have hN : 120 + 2 * no ≤ N := by omega
  refine MCiH.of (cc := cL_leastSet) (maxL := 2) (by decide) rfl (Nat.le_of_ble_eq_true rfl) ?_
  intro p e s m args below meth kc A Q hx hb hts hown hml htab fin H locs w ls hl
  have hown : s.vm.findClass RL = some m.cls := hown
  have hl : lv_has ls 2 [(0, .ref (ad 0))] := hl
  refine lv_aload_n hx hb dL_leastSet_0 rfl (lv_at hl 0 rfl) ?_
  refine pw_ci w (pw_runV (r := 0) (ci := 7) (As := []) (rest := []) w ⟨hx, hb, hml, hown, hts⟩ (c_X7_leastSet l D G ad N c hN hD hV (nS := nS) (lS := lS) (bS := bS) hSV hn) (cwV 0 hts gL_leastSet_X7_leastSet rfl rfl rfl (by decide +kernel) ⟨Nat.le_of_ble_eq_true rfl, Nat.le_of_ble_eq_true rfl⟩) (by omega) hD.1 rfl rfl hl.1 rfl (lv_room (Nat.le_of_ble_eq_true rfl)) dL_leastSet_1 ⟨Nat.le_of_ble_eq_true rfl, Nat.le_of_ble_eq_true rfl⟩) (fun r_ c1 H locs hp w => ?_)
  have w : PW D G A s ad N c1 H locs := w
  obtain ⟨hv, hD1, -⟩ := hp
  subst hv
  exact fin (ad, N, c1) c1 _ _ _ _ _ _ _ rfl ⟨rfl, hD1⟩ w dL_leastSet_4 (Nat.le_of_ble_eq_true rfl) (Nat.le_of_ble_eq_true rfl)

theorem wd_L_leastSet_k20 : Cond.classLink RL 20 "java/lang/IllegalStateException" ∈ wsL_leastSet := by decide +kernel
set_option maxHeartbeats 1000000 in
set_option maxRecDepth 100000 in
theorem x_L_leastSet (l : Launch) (hsT : l.stackTraces = false) (D : va_G) (G : Nat → ClassId) (ad : Nat → Nat) (N : Nat) (c : Nat → va_E) {lim : Int} {no dn : Nat} {gn : Nat → Nat} {gg : Nat → Nat → Nat} {dg nn : Nat → Nat} {pt ln : Nat → Nat → Nat} {wi : Nat → Nat → Int} (hNe : N = 120 + 2 * no) (hD : DK G ad c lim no dn gn gg dg nn pt ln wi) (hV : SV lim no dn gn gg dg nn pt ln wi) {nS lS : Int} {bS : Nat → Nat} (hSV : SetV lim no gn gg nn pt ln wi nS lS bS) (hn : nS = 0) : MC l yL_leastSet wsL_leastSet rm_L_leastSet [.ref (ad 0)] D G ad N c (qI D G (fx ad N) (fun v c1 => v = zI (-1) ∧ DK G ad c1 lim no dn gn gg dg nn pt ln wi)) 2 6 := by
  have hN : 120 + 2 * no ≤ N := by omega
  refine MCiH.of (cc := cL_leastSet) (maxL := 2) (by decide) rfl (Nat.le_of_ble_eq_true rfl) ?_
  intro p e s m args below meth kc A Q hx hb hts hown hml htab fin H locs w ls hl
  have hown : s.vm.findClass RL = some m.cls := hown
  have hl : lv_has ls 2 [(0, .ref (ad 0))] := hl
  refine lv_aload_n hx hb dL_leastSet_0 rfl (lv_at hl 0 rfl) ?_
  refine pw_cx (E0 := xIS) w (pw_runVX (r := 0) (ci := 7) (As := []) (rest := []) w ⟨hx, hb, hml, hown, hts⟩ (x_X7_leastSet l hsT D G ad N c hN hD hV (nS := nS) (lS := lS) (bS := bS) hSV hn) (cwV 0 hts gL_leastSet_X7_leastSet rfl rfl rfl (by decide +kernel) ⟨Nat.le_of_ble_eq_true rfl, Nat.le_of_ble_eq_true rfl⟩) (by omega) hD.1 rfl rfl hl.1 rfl (lv_room (Nat.le_of_ble_eq_true rfl)) dL_leastSet_1 ⟨Nat.le_of_ble_eq_true rfl, Nat.le_of_ble_eq_true rfl⟩) (fun c1 ce q9 H locs hp w hce hcv hcl => ?_)
  have w : PW D G A s ad N c1 H locs := w
  obtain ⟨hD1, -⟩ := hp
  refine pw_catch w hown [] ⟨0, 4, 5, 20⟩ [] htab (fun _ h => absurd h List.not_mem_nil) (by decide) (by decide) (hts _ wd_L_leastSet_k20) (by decide) hce hcv hcl ?_
  refine lv_astore_n (lv' := [(1, .ref q9), (0, .ref (ad 0))]) hx hb dL_leastSet_5 rfl hl (by decide) rfl (fun ls hl => ?_)
  refine lv_iconst (v := zI (-1)) hx hb dL_leastSet_6 rfl ?_
  exact fin (ad, N, c1) c1 _ _ _ _ _ _ _ rfl ⟨rfl, hD1⟩ w dL_leastSet_7 (Nat.le_of_ble_eq_true rfl) (Nat.le_of_ble_eq_true rfl)

abbrev rm_L_tuneAt : Room := { frames := 9, cells := 2, slots := 6, locals := 270 }
set_option maxHeartbeats 1000000 in
set_option maxRecDepth 100000 in
theorem c_L_tuneAt (l : Launch) (D : va_G) (G : Nat → ClassId) (ad : Nat → Nat) (N : Nat) (c : Nat → va_E) {lim : Int} {no dn : Nat} {gn : Nat → Nat} {gg : Nat → Nat → Nat} {dg nn : Nat → Nat} {pt ln : Nat → Nat → Nat} {wi : Nat → Nat → Int} (hNe : N = 120 + 2 * no) (hD : DK G ad c lim no dn gn gg dg nn pt ln wi) (hV : SV lim no dn gn gg dg nn pt ln wi) {nS lS : Int} {bS : Nat → Nat} (hSV : SetV lim no gn gg nn pt ln wi nS lS bS) (hn : ¬ nS = 0) {i : Nat} (hi : i < tC nn 4) : MC l yL_tuneAt wsL_tuneAt rm_L_tuneAt [.ref (ad 0), .int (zI (i : Int))] D G ad N c (qI D G (fx ad N) (fun v c1 => v = zI (bS i : Int) ∧ DK G ad c1 lim no dn gn gg dg nn pt ln wi)) 2 6 := by
  have hN : 120 + 2 * no ≤ N := by omega
  refine MCiH.of (cc := cL_tuneAt) (maxL := 3) (by decide) rfl (Nat.le_of_ble_eq_true rfl) ?_
  intro p e s m args below meth kc A Q hx hb hts hown hml htab fin H locs w ls hl
  have hown : s.vm.findClass RL = some m.cls := hown
  have hl : lv_has ls 3 [(0, .ref (ad 0)), (1, .int (zI (i : Int)))] := hl
  refine lv_aload_n hx hb dL_tuneAt_0 rfl (lv_at hl 0 rfl) ?_
  refine lv_iload_n hx hb dL_tuneAt_1 rfl (lv_at hl 1 rfl) ?_
  refine pw_ci w (pw_runV (r := 0) (ci := 7) (As := [.int (zI (i : Int))]) (rest := []) w ⟨hx, hb, hml, hown, hts⟩ (c_X7_tuneAt l D G ad N c hN hD hV (nS := nS) (lS := lS) (bS := bS) hSV hn (i := i) hi) (cwV 1 hts gL_tuneAt_X7_tuneAt rfl rfl rfl (by decide +kernel) ⟨Nat.le_of_ble_eq_true rfl, Nat.le_of_ble_eq_true rfl⟩) (by omega) hD.1 rfl rfl hl.1 rfl (lv_room (Nat.le_of_ble_eq_true rfl)) dL_tuneAt_2 ⟨Nat.le_of_ble_eq_true rfl, Nat.le_of_ble_eq_true rfl⟩) (fun r_ c1 H locs hp w => ?_)
  have w : PW D G A s ad N c1 H locs := w
  obtain ⟨hv, hD1, -⟩ := hp
  subst hv
  exact fin (ad, N, c1) c1 _ _ _ _ _ _ _ rfl ⟨rfl, hD1⟩ w dL_tuneAt_5 (Nat.le_of_ble_eq_true rfl) (Nat.le_of_ble_eq_true rfl)

theorem wd_L_tuneAt_k20 : Cond.classLink RL 20 "java/lang/IllegalStateException" ∈ wsL_tuneAt := by decide +kernel
set_option maxHeartbeats 1000000 in
set_option maxRecDepth 100000 in
theorem x_L_tuneAt1 (l : Launch) (hsT : l.stackTraces = false) (D : va_G) (G : Nat → ClassId) (ad : Nat → Nat) (N : Nat) (c : Nat → va_E) {lim : Int} {no dn : Nat} {gn : Nat → Nat} {gg : Nat → Nat → Nat} {dg nn : Nat → Nat} {pt ln : Nat → Nat → Nat} {wi : Nat → Nat → Int} (hNe : N = 120 + 2 * no) (hD : DK G ad c lim no dn gn gg dg nn pt ln wi) (hV : SV lim no dn gn gg dg nn pt ln wi) {nS lS : Int} {bS : Nat → Nat} (hSV : SetV lim no gn gg nn pt ln wi nS lS bS) (hn : nS = 0) {z : Int} : MC l yL_tuneAt wsL_tuneAt rm_L_tuneAt [.ref (ad 0), .int (zI z)] D G ad N c (qI D G (fx ad N) (fun v c1 => v = zI (-2) ∧ DK G ad c1 lim no dn gn gg dg nn pt ln wi)) 2 6 := by
  have hN : 120 + 2 * no ≤ N := by omega
  refine MCiH.of (cc := cL_tuneAt) (maxL := 3) (by decide) rfl (Nat.le_of_ble_eq_true rfl) ?_
  intro p e s m args below meth kc A Q hx hb hts hown hml htab fin H locs w ls hl
  have hown : s.vm.findClass RL = some m.cls := hown
  have hl : lv_has ls 3 [(0, .ref (ad 0)), (1, .int (zI z))] := hl
  refine lv_aload_n hx hb dL_tuneAt_0 rfl (lv_at hl 0 rfl) ?_
  refine lv_iload_n hx hb dL_tuneAt_1 rfl (lv_at hl 1 rfl) ?_
  refine pw_cx (E0 := xIS) w (pw_runVX (r := 0) (ci := 7) (As := [.int (zI z)]) (rest := []) w ⟨hx, hb, hml, hown, hts⟩ (x_X7_tuneAt1 l hsT D G ad N c hN hD hV (nS := nS) (lS := lS) (bS := bS) hSV hn (z := z)) (cwV 1 hts gL_tuneAt_X7_tuneAt rfl rfl rfl (by decide +kernel) ⟨Nat.le_of_ble_eq_true rfl, Nat.le_of_ble_eq_true rfl⟩) (by omega) hD.1 rfl rfl hl.1 rfl (lv_room (Nat.le_of_ble_eq_true rfl)) dL_tuneAt_2 ⟨Nat.le_of_ble_eq_true rfl, Nat.le_of_ble_eq_true rfl⟩) (fun c1 ce q9 H locs hp w hce hcv hcl => ?_)
  have w : PW D G A s ad N c1 H locs := w
  obtain ⟨hD1, -⟩ := hp
  refine pw_catch w hown [] ⟨0, 5, 6, 20⟩ [⟨0, 5, 10, 39⟩] htab (fun _ h => absurd h List.not_mem_nil) (by decide) (by decide) (hts _ wd_L_tuneAt_k20) (by decide) hce hcv hcl ?_
  refine lv_astore_n (lv' := [(2, .ref q9), (0, .ref (ad 0)), (1, .int (zI z))]) hx hb dL_tuneAt_6 rfl hl (by decide) rfl (fun ls hl => ?_)
  refine lv_bipush (v := zI (-2)) hx hb dL_tuneAt_7 (by decide +kernel) ?_
  exact fin (ad, N, c1) c1 _ _ _ _ _ _ _ rfl ⟨rfl, hD1⟩ w dL_tuneAt_9 (Nat.le_of_ble_eq_true rfl) (Nat.le_of_ble_eq_true rfl)

theorem wd_L_tuneAt_k39 : Cond.classLink RL 39 "java/lang/IndexOutOfBoundsException" ∈ wsL_tuneAt := by decide +kernel
set_option maxHeartbeats 1000000 in
set_option maxRecDepth 100000 in
theorem x_L_tuneAt2 (l : Launch) (hsT : l.stackTraces = false) (D : va_G) (G : Nat → ClassId) (ad : Nat → Nat) (N : Nat) (c : Nat → va_E) {lim : Int} {no dn : Nat} {gn : Nat → Nat} {gg : Nat → Nat → Nat} {dg nn : Nat → Nat} {pt ln : Nat → Nat → Nat} {wi : Nat → Nat → Int} (hNe : N = 120 + 2 * no) (hD : DK G ad c lim no dn gn gg dg nn pt ln wi) (hV : SV lim no dn gn gg dg nn pt ln wi) {nS lS : Int} {bS : Nat → Nat} (hSV : SetV lim no gn gg nn pt ln wi nS lS bS) (hn : ¬ nS = 0) {z : Int} (hbz : bnd z) (hbad : ¬ (0 ≤ z ∧ z ≤ (tC nn 4 : Int) - 1)) : MC l yL_tuneAt wsL_tuneAt rm_L_tuneAt [.ref (ad 0), .int (zI z)] D G ad N c (qI D G (fx ad N) (fun v c1 => v = zI (-1) ∧ DK G ad c1 lim no dn gn gg dg nn pt ln wi)) 2 6 := by
  have hN : 120 + 2 * no ≤ N := by omega
  refine MCiH.of (cc := cL_tuneAt) (maxL := 3) (by decide) rfl (Nat.le_of_ble_eq_true rfl) ?_
  intro p e s m args below meth kc A Q hx hb hts hown hml htab fin H locs w ls hl
  have hown : s.vm.findClass RL = some m.cls := hown
  have hl : lv_has ls 3 [(0, .ref (ad 0)), (1, .int (zI z))] := hl
  refine lv_aload_n hx hb dL_tuneAt_0 rfl (lv_at hl 0 rfl) ?_
  refine lv_iload_n hx hb dL_tuneAt_1 rfl (lv_at hl 1 rfl) ?_
  refine pw_cx (E0 := xIO) w (pw_runVX (r := 0) (ci := 7) (As := [.int (zI z)]) (rest := []) w ⟨hx, hb, hml, hown, hts⟩ (x_X7_tuneAt2 l hsT D G ad N c hN hD hV (nS := nS) (lS := lS) (bS := bS) hSV hn (z := z) hbz hbad) (cwV 1 hts gL_tuneAt_X7_tuneAt rfl rfl rfl (by decide +kernel) ⟨Nat.le_of_ble_eq_true rfl, Nat.le_of_ble_eq_true rfl⟩) (by omega) hD.1 rfl rfl hl.1 rfl (lv_room (Nat.le_of_ble_eq_true rfl)) dL_tuneAt_2 ⟨Nat.le_of_ble_eq_true rfl, Nat.le_of_ble_eq_true rfl⟩) (fun c1 ce q9 H locs hp w hce hcv hcl => ?_)
  have w : PW D G A s ad N c1 H locs := w
  obtain ⟨hD1, -⟩ := hp
  refine pw_catch w hown [⟨0, 5, 6, 20⟩] ⟨0, 5, 10, 39⟩ [] htab (List.forall_mem_cons.mpr ⟨⟨by decide, xIS, by decide, hts _ wd_L_tuneAt_k20⟩, (fun _ h => absurd h List.not_mem_nil)⟩) (by decide) (by decide) (hts _ wd_L_tuneAt_k39) (by decide) hce hcv hcl ?_
  refine lv_astore_n (lv' := [(2, .ref q9), (0, .ref (ad 0)), (1, .int (zI z))]) hx hb dL_tuneAt_10 rfl hl (by decide) rfl (fun ls hl => ?_)
  refine lv_iconst (v := zI (-1)) hx hb dL_tuneAt_11 rfl ?_
  exact fin (ad, N, c1) c1 _ _ _ _ _ _ _ rfl ⟨rfl, hD1⟩ w dL_tuneAt_12 (Nat.le_of_ble_eq_true rfl) (Nat.le_of_ble_eq_true rfl)
