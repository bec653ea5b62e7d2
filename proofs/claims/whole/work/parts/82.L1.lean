/-! OURS: the law's static helpers: what each leaves in out[0], and its exception's number -/
theorem zL_of0 {V : Int} (h : V = 0) : Int64.ofNat ((0 : Fin 2) : Nat) = (zI V).toInt64 := by rw [h]; decide +kernel
theorem zL_of1 {V : Int} (h : V = 1) : Int64.ofNat ((1 : Fin 2) : Nat) = (zI V).toInt64 := by rw [h]; decide +kernel
theorem bnd_01 {V : Int} (h : V = 0 ∨ V = 1) : bnd V := by rcases h with h | h <;> rw [h] <;> exact ⟨by decide, by decide⟩
abbrev rm_L_cost : Room := { frames := 9, cells := 1, slots := 6, locals := 270 }
set_option maxHeartbeats 1000000 in
set_option maxRecDepth 100000 in
theorem c_L_cost (l : Launch) (D : va_G) (G : Nat → ClassId) (ad : Nat → Nat) (N : Nat) (c : Nat → va_E) {lim : Int} {no dn : Nat} {gn : Nat → Nat} {gg : Nat → Nat → Nat} {dg nn : Nat → Nat} {pt ln : Nat → Nat → Nat} {wi : Nat → Nat → Int} (hN : 139 + 2 * no ≤ N) (hD : DK G ad c lim no dn gn gg dg nn pt ln wi) (hV : SV lim no dn gn gg dg nn pt ln wi) {x y : Nat} (hx9 : x < 9) (hy9 : y < 9) {v0 : Int64} (hO : lnA G (c 137) v0) : MC l yL_cost wsL_cost rm_L_cost [.ref (ad 0), .int (zI (x : Int)), .int (zI (y : Int)), .ref (ad 137)] D G ad N c (qI D G (fx ad N) (fun r c1 => r = zI 0 ∧ lnA G (c1 137) (zI (mv x y)).toInt64 ∧ DK G ad c1 lim no dn gn gg dg nn pt ln wi ∧ ∀ q, (120 ≤ q ∧ q < 139 ∧ q ≠ 137) → c1 q = c q)) 1 6 := by
  refine MCiH.of (cc := cL_cost) (maxL := 5) (by decide) rfl (Nat.le_of_ble_eq_true rfl) ?_
  intro p e s m args below meth kc A Q hx hb hts hown hml htab fin H locs w ls hl
  have hown : s.vm.findClass RL = some m.cls := hown
  have hl : lv_has ls 5 [(0, .ref (ad 0)), (1, .int (zI (x : Int))), (2, .int (zI (y : Int))), (3, .ref (ad 137))] := hl
  refine lv_aload_n hx hb dL_cost_0 rfl (lv_at hl 3 rfl) ?_
  refine lv_iconst (v := zI (0)) hx hb dL_cost_1 rfl ?_
  refine lv_aload_n hx hb dL_cost_2 rfl (lv_at hl 0 rfl) ?_
  refine lv_iload_n hx hb dL_cost_3 rfl (lv_at hl 1 rfl) ?_
  refine lv_iload_n hx hb dL_cost_4 rfl (lv_at hl 2 rfl) ?_
  refine pw_ci w (pw_runV (r := 0) (ci := 7) (As := [.int (zI (x : Int)), .int (zI (y : Int))]) (rest := [.int (zI 0), .ref (ad 137)]) w ⟨hx, hb, hml, hown, hts⟩ (c_X7_cost l D G ad N c hN hD hV (x := x) (y := y) hx9 hy9) (cwV 2 hts gL_cost_X7_cost rfl rfl rfl (by decide +kernel) ⟨Nat.le_of_ble_eq_true rfl, Nat.le_of_ble_eq_true rfl⟩) (by omega) hD.1 rfl rfl hl.1 rfl (lv_room (Nat.le_of_ble_eq_true rfl)) dL_cost_5 ⟨Nat.le_of_ble_eq_true rfl, Nat.le_of_ble_eq_true rfl⟩) (fun r_ c1 H locs hp w => ?_)
  have w : PW D G A s ad N c1 H locs := w
  obtain ⟨hv, hD1, fr1⟩ := hp
  subst hv
  refine lv_i2l hx hb dL_cost_8 rfl ?_
  refine pw_last (r := 137) hx hb w (by omega) (lnA.fr (fr1 137 (by omega)) hO) dL_cost_9 (fun H locs c2 hc2 fr2 w => ?_)
  refine lv_goto (tgt := 17) hx hb dL_cost_10 (by decide) ?_
  refine lv_iconst (v := zI (0)) hx hb dL_cost_17 rfl ?_
  exact fin (ad, N, c2) c2 _ _ _ _ _ _ _ rfl ⟨rfl, hc2, hD1.fr (fun q hq => fr2 q (by omega)), fun q hq => (fr2 q (by omega)).trans (fr1 q (by omega))⟩ w dL_cost_18 (Nat.le_of_ble_eq_true rfl) (Nat.le_of_ble_eq_true rfl)

theorem wd_L_cost_k13 : Cond.classLink RL 13 "java/lang/IllegalArgumentException" ∈ wsL_cost := by decide +kernel
set_option maxHeartbeats 1000000 in
set_option maxRecDepth 100000 in
theorem x_L_cost (l : Launch) (hsT : l.stackTraces = false) (D : va_G) (G : Nat → ClassId) (ad : Nat → Nat) (N : Nat) (c : Nat → va_E) {lim : Int} {no dn : Nat} {gn : Nat → Nat} {gg : Nat → Nat → Nat} {dg nn : Nat → Nat} {pt ln : Nat → Nat → Nat} {wi : Nat → Nat → Int} (hN : 139 + 2 * no ≤ N) (hD : DK G ad c lim no dn gn gg dg nn pt ln wi) (hV : SV lim no dn gn gg dg nn pt ln wi) {zx zy : Int} (hbzx : bnd zx) (hbzy : bnd zy) (hbad : ¬ ((0 ≤ zx ∧ zx ≤ 8) ∧ 0 ≤ zy ∧ zy ≤ 8))  : MC l yL_cost wsL_cost rm_L_cost [.ref (ad 0), .int (zI zx), .int (zI zy), .ref (ad 137)] D G ad N c (qI D G (fx ad N) (fun r c1 => r = zI 1 ∧ DK G ad c1 lim no dn gn gg dg nn pt ln wi ∧ ∀ q, (120 ≤ q ∧ q < 139) → c1 q = c q)) 1 6 := by
  refine MCiH.of (cc := cL_cost) (maxL := 5) (by decide) rfl (Nat.le_of_ble_eq_true rfl) ?_
  intro p e s m args below meth kc A Q hx hb hts hown hml htab fin H locs w ls hl
  have hown : s.vm.findClass RL = some m.cls := hown
  have hl : lv_has ls 5 [(0, .ref (ad 0)), (1, .int (zI zx)), (2, .int (zI zy)), (3, .ref (ad 137))] := hl
  refine lv_aload_n hx hb dL_cost_0 rfl (lv_at hl 3 rfl) ?_
  refine lv_iconst (v := zI (0)) hx hb dL_cost_1 rfl ?_
  refine lv_aload_n hx hb dL_cost_2 rfl (lv_at hl 0 rfl) ?_
  refine lv_iload_n hx hb dL_cost_3 rfl (lv_at hl 1 rfl) ?_
  refine lv_iload_n hx hb dL_cost_4 rfl (lv_at hl 2 rfl) ?_
  refine pw_cx (E0 := xIA) w (pw_runVX (r := 0) (ci := 7) (As := [.int (zI zx), .int (zI zy)]) (rest := [.int (zI 0), .ref (ad 137)]) w ⟨hx, hb, hml, hown, hts⟩ (x_X7_cost l hsT D G ad N c hN hD hV (zx := zx) (zy := zy) hbzx hbzy hbad) (cwV 2 hts gL_cost_X7_cost rfl rfl rfl (by decide +kernel) ⟨Nat.le_of_ble_eq_true rfl, Nat.le_of_ble_eq_true rfl⟩) (by omega) hD.1 rfl rfl hl.1 rfl (lv_room (Nat.le_of_ble_eq_true rfl)) dL_cost_5 ⟨Nat.le_of_ble_eq_true rfl, Nat.le_of_ble_eq_true rfl⟩) (fun c1 ce q9 H locs hp w hce hcv hcl => ?_)
  have w : PW D G A s ad N c1 H locs := w
  obtain ⟨hD1, fr1⟩ := hp
  refine pw_catch w hown [] ⟨0, 10, 13, 13⟩ [] htab (fun _ h => absurd h List.not_mem_nil) (by decide) (by decide) (hts _ wd_L_cost_k13) (by decide) hce hcv hcl ?_
  refine lv_astore (lv' := [(4, .ref q9), (0, .ref (ad 0)), (1, .int (zI zx)), (2, .int (zI zy)), (3, .ref (ad 137))]) hx hb dL_cost_13 hl (by decide) rfl (fun ls hl => ?_)
  refine lv_iconst (v := zI (1)) hx hb dL_cost_15 rfl ?_
  exact fin (ad, N, c1) c1 _ _ _ _ _ _ _ rfl ⟨rfl, hD1, fr1⟩ w dL_cost_16 (Nat.le_of_ble_eq_true rfl) (Nat.le_of_ble_eq_true rfl)

abbrev rm_L_isBarred : Room := { frames := 9, cells := 1, slots := 6, locals := 270 }
set_option maxHeartbeats 1000000 in
set_option maxRecDepth 100000 in
theorem c_L_isBarred (l : Launch) (D : va_G) (G : Nat → ClassId) (ad : Nat → Nat) (N : Nat) (c : Nat → va_E) {lim : Int} {no dn : Nat} {gn : Nat → Nat} {gg : Nat → Nat → Nat} {dg nn : Nat → Nat} {pt ln : Nat → Nat → Nat} {wi : Nat → Nat → Int} (hN : 139 + 2 * no ≤ N) (hD : DK G ad c lim no dn gn gg dg nn pt ln wi) (hV : SV lim no dn gn gg dg nn pt ln wi) {x y : Nat} (hx9 : x < 9) (hy9 : y < 9) {v0 : Int64} (hO : lnA G (c 137) v0) : MC l yL_isBarred wsL_isBarred rm_L_isBarred [.ref (ad 0), .int (zI (x : Int)), .int (zI (y : Int)), .ref (ad 137)] D G ad N c (qI D G (fx ad N) (fun r c1 => r = zI 0 ∧ lnA G (c1 137) (zI (if brd lim x y = true then 1 else 0)).toInt64 ∧ DK G ad c1 lim no dn gn gg dg nn pt ln wi ∧ ∀ q, (120 ≤ q ∧ q < 139 ∧ q ≠ 137) → c1 q = c q)) 1 6 := by
  refine MCiH.of (cc := cL_isBarred) (maxL := 5) (by decide) rfl (Nat.le_of_ble_eq_true rfl) ?_
  intro p e s m args below meth kc A Q hx hb hts hown hml htab fin H locs w ls hl
  have hown : s.vm.findClass RL = some m.cls := hown
  have hl : lv_has ls 5 [(0, .ref (ad 0)), (1, .int (zI (x : Int))), (2, .int (zI (y : Int))), (3, .ref (ad 137))] := hl
  refine lv_aload_n hx hb dL_isBarred_0 rfl (lv_at hl 3 rfl) ?_
  refine lv_iconst (v := zI (0)) hx hb dL_isBarred_1 rfl ?_
  refine lv_aload_n hx hb dL_isBarred_2 rfl (lv_at hl 0 rfl) ?_
  refine lv_iload_n hx hb dL_isBarred_3 rfl (lv_at hl 1 rfl) ?_
  refine lv_iload_n hx hb dL_isBarred_4 rfl (lv_at hl 2 rfl) ?_
  refine pw_ci w (pw_runV (r := 0) (ci := 7) (As := [.int (zI (x : Int)), .int (zI (y : Int))]) (rest := [.int (zI 0), .ref (ad 137)]) w ⟨hx, hb, hml, hown, hts⟩ (c_X7_isBarred l D G ad N c hN hD hV (x := x) (y := y) hx9 hy9) (cwV 2 hts gL_isBarred_X7_isBarred rfl rfl rfl (by decide +kernel) ⟨Nat.le_of_ble_eq_true rfl, Nat.le_of_ble_eq_true rfl⟩) (by omega) hD.1 rfl rfl hl.1 rfl (lv_room (Nat.le_of_ble_eq_true rfl)) dL_isBarred_5 ⟨Nat.le_of_ble_eq_true rfl, Nat.le_of_ble_eq_true rfl⟩) (fun r_ c1 H locs hp w => ?_)
  have w : PW D G A s ad N c1 H locs := w
  obtain ⟨hv, hD1, fr1⟩ := hp
  subst hv
  have h01 : ((if brd lim x y = true then 1 else 0) : Int) = 0 ∨ ((if brd lim x y = true then 1 else 0) : Int) = 1 := by split <;> first | exact Or.inr rfl | exact Or.inl rfl
  refine pz_ifeq (tgt := 15) hx hb dL_isBarred_8 (by decide) (bnd_01 h01) (fun hz => ?_) (fun hz => ?_)
  · refine lv_lconst (v := (zI (if brd lim x y = true then 1 else 0)).toInt64) hx hb dL_isBarred_15 (zL_of0 hz) ?_
    refine pw_last (r := 137) hx hb w (by omega) (lnA.fr (fr1 137 (by omega)) hO) dL_isBarred_16 (fun H locs c2 hc2 fr2 w => ?_)
    refine lv_goto (tgt := 24) hx hb dL_isBarred_17 (by decide) ?_
    refine lv_iconst (v := zI (0)) hx hb dL_isBarred_24 rfl ?_
    exact fin (ad, N, c2) c2 _ _ _ _ _ _ _ rfl ⟨rfl, hc2, hD1.fr (fun q hq => fr2 q (by omega)), fun q hq => (fr2 q (by omega)).trans (fr1 q (by omega))⟩ w dL_isBarred_25 (Nat.le_of_ble_eq_true rfl) (Nat.le_of_ble_eq_true rfl)
  · refine lv_lconst (v := (zI (if brd lim x y = true then 1 else 0)).toInt64) hx hb dL_isBarred_11 (zL_of1 (h01.resolve_left hz)) ?_
    refine lv_goto (tgt := 16) hx hb dL_isBarred_12 (by decide) ?_
    refine pw_last (r := 137) hx hb w (by omega) (lnA.fr (fr1 137 (by omega)) hO) dL_isBarred_16 (fun H locs c2 hc2 fr2 w => ?_)
    refine lv_goto (tgt := 24) hx hb dL_isBarred_17 (by decide) ?_
    refine lv_iconst (v := zI (0)) hx hb dL_isBarred_24 rfl ?_
    exact fin (ad, N, c2) c2 _ _ _ _ _ _ _ rfl ⟨rfl, hc2, hD1.fr (fun q hq => fr2 q (by omega)), fun q hq => (fr2 q (by omega)).trans (fr1 q (by omega))⟩ w dL_isBarred_25 (Nat.le_of_ble_eq_true rfl) (Nat.le_of_ble_eq_true rfl)

theorem wd_L_isBarred_k13 : Cond.classLink RL 13 "java/lang/IllegalArgumentException" ∈ wsL_isBarred := by decide +kernel
set_option maxHeartbeats 1000000 in
set_option maxRecDepth 100000 in
theorem x_L_isBarred (l : Launch) (hsT : l.stackTraces = false) (D : va_G) (G : Nat → ClassId) (ad : Nat → Nat) (N : Nat) (c : Nat → va_E) {lim : Int} {no dn : Nat} {gn : Nat → Nat} {gg : Nat → Nat → Nat} {dg nn : Nat → Nat} {pt ln : Nat → Nat → Nat} {wi : Nat → Nat → Int} (hN : 139 + 2 * no ≤ N) (hD : DK G ad c lim no dn gn gg dg nn pt ln wi) (hV : SV lim no dn gn gg dg nn pt ln wi) {zx zy : Int} (hbzx : bnd zx) (hbzy : bnd zy) (hbad : ¬ ((0 ≤ zx ∧ zx ≤ 8) ∧ 0 ≤ zy ∧ zy ≤ 8))  : MC l yL_isBarred wsL_isBarred rm_L_isBarred [.ref (ad 0), .int (zI zx), .int (zI zy), .ref (ad 137)] D G ad N c (qI D G (fx ad N) (fun r c1 => r = zI 1 ∧ DK G ad c1 lim no dn gn gg dg nn pt ln wi ∧ ∀ q, (120 ≤ q ∧ q < 139) → c1 q = c q)) 1 6 := by
  refine MCiH.of (cc := cL_isBarred) (maxL := 5) (by decide) rfl (Nat.le_of_ble_eq_true rfl) ?_
  intro p e s m args below meth kc A Q hx hb hts hown hml htab fin H locs w ls hl
  have hown : s.vm.findClass RL = some m.cls := hown
  have hl : lv_has ls 5 [(0, .ref (ad 0)), (1, .int (zI zx)), (2, .int (zI zy)), (3, .ref (ad 137))] := hl
  refine lv_aload_n hx hb dL_isBarred_0 rfl (lv_at hl 3 rfl) ?_
  refine lv_iconst (v := zI (0)) hx hb dL_isBarred_1 rfl ?_
  refine lv_aload_n hx hb dL_isBarred_2 rfl (lv_at hl 0 rfl) ?_
  refine lv_iload_n hx hb dL_isBarred_3 rfl (lv_at hl 1 rfl) ?_
  refine lv_iload_n hx hb dL_isBarred_4 rfl (lv_at hl 2 rfl) ?_
  refine pw_cx (E0 := xIA) w (pw_runVX (r := 0) (ci := 7) (As := [.int (zI zx), .int (zI zy)]) (rest := [.int (zI 0), .ref (ad 137)]) w ⟨hx, hb, hml, hown, hts⟩ (x_X7_isBarred l hsT D G ad N c hN hD hV (zx := zx) (zy := zy) hbzx hbzy hbad) (cwV 2 hts gL_isBarred_X7_isBarred rfl rfl rfl (by decide +kernel) ⟨Nat.le_of_ble_eq_true rfl, Nat.le_of_ble_eq_true rfl⟩) (by omega) hD.1 rfl rfl hl.1 rfl (lv_room (Nat.le_of_ble_eq_true rfl)) dL_isBarred_5 ⟨Nat.le_of_ble_eq_true rfl, Nat.le_of_ble_eq_true rfl⟩) (fun c1 ce q9 H locs hp w hce hcv hcl => ?_)
  have w : PW D G A s ad N c1 H locs := w
  obtain ⟨hD1, fr1⟩ := hp
  refine pw_catch w hown [] ⟨0, 17, 20, 13⟩ [] htab (fun _ h => absurd h List.not_mem_nil) (by decide) (by decide) (hts _ wd_L_isBarred_k13) (by decide) hce hcv hcl ?_
  refine lv_astore (lv' := [(4, .ref q9), (0, .ref (ad 0)), (1, .int (zI zx)), (2, .int (zI zy)), (3, .ref (ad 137))]) hx hb dL_isBarred_20 hl (by decide) rfl (fun ls hl => ?_)
  refine lv_iconst (v := zI (1)) hx hb dL_isBarred_22 rfl ?_
  exact fin (ad, N, c1) c1 _ _ _ _ _ _ _ rfl ⟨rfl, hD1, fr1⟩ w dL_isBarred_23 (Nat.le_of_ble_eq_true rfl) (Nat.le_of_ble_eq_true rfl)

abbrev rm_L_setLimit : Room := { frames := 9, cells := 1, slots := 6, locals := 270 }
set_option maxHeartbeats 1000000 in
set_option maxRecDepth 100000 in
theorem c_L_setLimit (l : Launch) (D : va_G) (G : Nat → ClassId) (ad : Nat → Nat) (N : Nat) (c : Nat → va_E) {lim : Int} {no dn : Nat} {gn : Nat → Nat} {gg : Nat → Nat → Nat} {dg nn : Nat → Nat} {pt ln : Nat → Nat → Nat} {wi : Nat → Nat → Int} (hN : 139 + 2 * no ≤ N) (hD : DK G ad c lim no dn gn gg dg nn pt ln wi) (hV : SV lim no dn gn gg dg nn pt ln wi) {z : Int} (hbz : bnd z) (hok : 0 ≤ z ∧ z ≤ 8) {v0 : Int64} (hO : lnA G (c 137) v0) : MC l yL_setLimit wsL_setLimit rm_L_setLimit [.ref (ad 0), .int (zI z), .ref (ad 137)] D G ad N c (qI D G (fx ad N) (fun r c1 => r = zI 0 ∧ lnA G (c1 137) (zI (brdAll z 9)).toInt64 ∧ DK G ad c1 z no dn gn gg dg nn pt ln wi ∧ ∀ q, (120 ≤ q ∧ q < 139 ∧ q ≠ 137) → c1 q = c q)) 1 6 := by
  refine MCiH.of (cc := cL_setLimit) (maxL := 4) (by decide) rfl (Nat.le_of_ble_eq_true rfl) ?_
  intro p e s m args below meth kc A Q hx hb hts hown hml htab fin H locs w ls hl
  have hown : s.vm.findClass RL = some m.cls := hown
  have hl : lv_has ls 4 [(0, .ref (ad 0)), (1, .int (zI z)), (2, .ref (ad 137))] := hl
  refine lv_aload_n hx hb dL_setLimit_0 rfl (lv_at hl 2 rfl) ?_
  refine lv_iconst (v := zI (0)) hx hb dL_setLimit_1 rfl ?_
  refine lv_aload_n hx hb dL_setLimit_2 rfl (lv_at hl 0 rfl) ?_
  refine lv_iload_n hx hb dL_setLimit_3 rfl (lv_at hl 1 rfl) ?_
  refine pw_ci w (pw_runV (r := 0) (ci := 7) (As := [.int (zI z)]) (rest := [.int (zI 0), .ref (ad 137)]) w ⟨hx, hb, hml, hown, hts⟩ (c_X7_setLimit l D G ad N c hN hD hV (z := z) hbz hok) (cwV 1 hts gL_setLimit_X7_setLimit rfl rfl rfl (by decide +kernel) ⟨Nat.le_of_ble_eq_true rfl, Nat.le_of_ble_eq_true rfl⟩) (by omega) hD.1 rfl rfl hl.1 rfl (lv_room (Nat.le_of_ble_eq_true rfl)) dL_setLimit_4 ⟨Nat.le_of_ble_eq_true rfl, Nat.le_of_ble_eq_true rfl⟩) (fun r_ c1 H locs hp w => ?_)
  have w : PW D G A s ad N c1 H locs := w
  obtain ⟨hv, hD1, fr1⟩ := hp
  subst hv
  refine lv_i2l hx hb dL_setLimit_7 rfl ?_
  refine pw_last (r := 137) hx hb w (by omega) (lnA.fr (fr1 137 (by omega)) hO) dL_setLimit_8 (fun H locs c2 hc2 fr2 w => ?_)
  refine lv_goto (tgt := 15) hx hb dL_setLimit_9 (by decide) ?_
  refine lv_iconst (v := zI (0)) hx hb dL_setLimit_15 rfl ?_
  exact fin (ad, N, c2) c2 _ _ _ _ _ _ _ rfl ⟨rfl, hc2, hD1.fr (fun q hq => fr2 q (by omega)), fun q hq => (fr2 q (by omega)).trans (fr1 q (by omega))⟩ w dL_setLimit_16 (Nat.le_of_ble_eq_true rfl) (Nat.le_of_ble_eq_true rfl)

theorem wd_L_setLimit_k13 : Cond.classLink RL 13 "java/lang/IllegalArgumentException" ∈ wsL_setLimit := by decide +kernel
set_option maxHeartbeats 1000000 in
set_option maxRecDepth 100000 in
theorem x_L_setLimit (l : Launch) (hsT : l.stackTraces = false) (D : va_G) (G : Nat → ClassId) (ad : Nat → Nat) (N : Nat) (c : Nat → va_E) {lim : Int} {no dn : Nat} {gn : Nat → Nat} {gg : Nat → Nat → Nat} {dg nn : Nat → Nat} {pt ln : Nat → Nat → Nat} {wi : Nat → Nat → Int} (hN : 139 + 2 * no ≤ N) (hD : DK G ad c lim no dn gn gg dg nn pt ln wi) (hV : SV lim no dn gn gg dg nn pt ln wi) {z : Int} (hbz : bnd z) (hbad : ¬ (0 ≤ z ∧ z ≤ 8))  : MC l yL_setLimit wsL_setLimit rm_L_setLimit [.ref (ad 0), .int (zI z), .ref (ad 137)] D G ad N c (qI D G (fx ad N) (fun r c1 => r = zI 1 ∧ DK G ad c1 lim no dn gn gg dg nn pt ln wi ∧ ∀ q, (120 ≤ q ∧ q < 139) → c1 q = c q)) 1 6 := by
  refine MCiH.of (cc := cL_setLimit) (maxL := 4) (by decide) rfl (Nat.le_of_ble_eq_true rfl) ?_
  intro p e s m args below meth kc A Q hx hb hts hown hml htab fin H locs w ls hl
  have hown : s.vm.findClass RL = some m.cls := hown
  have hl : lv_has ls 4 [(0, .ref (ad 0)), (1, .int (zI z)), (2, .ref (ad 137))] := hl
  refine lv_aload_n hx hb dL_setLimit_0 rfl (lv_at hl 2 rfl) ?_
  refine lv_iconst (v := zI (0)) hx hb dL_setLimit_1 rfl ?_
  refine lv_aload_n hx hb dL_setLimit_2 rfl (lv_at hl 0 rfl) ?_
  refine lv_iload_n hx hb dL_setLimit_3 rfl (lv_at hl 1 rfl) ?_
  refine pw_cx (E0 := xIA) w (pw_runVX (r := 0) (ci := 7) (As := [.int (zI z)]) (rest := [.int (zI 0), .ref (ad 137)]) w ⟨hx, hb, hml, hown, hts⟩ (x_X7_setLimit l hsT D G ad N c hN hD hV (z := z) hbz hbad) (cwV 1 hts gL_setLimit_X7_setLimit rfl rfl rfl (by decide +kernel) ⟨Nat.le_of_ble_eq_true rfl, Nat.le_of_ble_eq_true rfl⟩) (by omega) hD.1 rfl rfl hl.1 rfl (lv_room (Nat.le_of_ble_eq_true rfl)) dL_setLimit_4 ⟨Nat.le_of_ble_eq_true rfl, Nat.le_of_ble_eq_true rfl⟩) (fun c1 ce q9 H locs hp w hce hcv hcl => ?_)
  have w : PW D G A s ad N c1 H locs := w
  obtain ⟨hD1, fr1⟩ := hp
  refine pw_catch w hown [] ⟨0, 9, 12, 13⟩ [] htab (fun _ h => absurd h List.not_mem_nil) (by decide) (by decide) (hts _ wd_L_setLimit_k13) (by decide) hce hcv hcl ?_
  refine lv_astore_n (lv' := [(3, .ref q9), (0, .ref (ad 0)), (1, .int (zI z)), (2, .ref (ad 137))]) hx hb dL_setLimit_12 rfl hl (by decide) rfl (fun ls hl => ?_)
  refine lv_iconst (v := zI (1)) hx hb dL_setLimit_13 rfl ?_
  exact fin (ad, N, c1) c1 _ _ _ _ _ _ _ rfl ⟨rfl, hD1, fr1⟩ w dL_setLimit_14 (Nat.le_of_ble_eq_true rfl) (Nat.le_of_ble_eq_true rfl)

abbrev rm_L_grace : Room := { frames := 9, cells := 1, slots := 6, locals := 270 }
set_option maxHeartbeats 1000000 in
set_option maxRecDepth 100000 in
theorem c_L_grace (l : Launch) (D : va_G) (G : Nat → ClassId) (ad : Nat → Nat) (N : Nat) (c : Nat → va_E) {lim : Int} {no dn : Nat} {gn : Nat → Nat} {gg : Nat → Nat → Nat} {dg nn : Nat → Nat} {pt ln : Nat → Nat → Nat} {wi : Nat → Nat → Int} (hN : 139 + 2 * no ≤ N) (hD : DK G ad c lim no dn gn gg dg nn pt ln wi) (hV : SV lim no dn gn gg dg nn pt ln wi) {g : Nat} (hg : g ≤ 10) (hd : dn < 4) {v0 : Int64} (hO : lnA G (c 137) v0) : MC l yL_grace wsL_grace rm_L_grace [.ref (ad 0), .int (zI (g : Int)), .ref (ad 137)] D G ad N c (qI D G (fx ad N) (fun r c1 => r = zI 0 ∧ lnA G (c1 137) (zI ((dn + 1 : Nat) : Int)).toInt64 ∧ DK G ad c1 lim no (dn + 1) gn gg (fun j => if j = dn then g else dg j) nn pt ln wi ∧ ∀ q, (120 ≤ q ∧ q < 139 ∧ q ≠ 137) → c1 q = c q)) 1 6 := by
  refine MCiH.of (cc := cL_grace) (maxL := 4) (by decide) rfl (Nat.le_of_ble_eq_true rfl) ?_
  intro p e s m args below meth kc A Q hx hb hts hown hml htab fin H locs w ls hl
  have hown : s.vm.findClass RL = some m.cls := hown
  have hl : lv_has ls 4 [(0, .ref (ad 0)), (1, .int (zI (g : Int))), (2, .ref (ad 137))] := hl
  refine lv_aload_n hx hb dL_grace_0 rfl (lv_at hl 2 rfl) ?_
  refine lv_iconst (v := zI (0)) hx hb dL_grace_1 rfl ?_
  refine lv_aload_n hx hb dL_grace_2 rfl (lv_at hl 0 rfl) ?_
  refine lv_iload_n hx hb dL_grace_3 rfl (lv_at hl 1 rfl) ?_
  refine pw_ci w (pw_runV (r := 0) (ci := 7) (As := [.int (zI (g : Int))]) (rest := [.int (zI 0), .ref (ad 137)]) w ⟨hx, hb, hml, hown, hts⟩ (c_X7_grace l D G ad N c hN hD hV (g := g) hg hd) (cwV 1 hts gL_grace_X7_grace rfl rfl rfl (by decide +kernel) ⟨Nat.le_of_ble_eq_true rfl, Nat.le_of_ble_eq_true rfl⟩) (by omega) hD.1 rfl rfl hl.1 rfl (lv_room (Nat.le_of_ble_eq_true rfl)) dL_grace_4 ⟨Nat.le_of_ble_eq_true rfl, Nat.le_of_ble_eq_true rfl⟩) (fun r_ c1 H locs hp w => ?_)
  have w : PW D G A s ad N c1 H locs := w
  obtain ⟨hv, hD1, fr1⟩ := hp
  subst hv
  refine lv_i2l hx hb dL_grace_7 rfl ?_
  refine pw_last (r := 137) hx hb w (by omega) (lnA.fr (fr1 137 (by omega)) hO) dL_grace_8 (fun H locs c2 hc2 fr2 w => ?_)
  refine lv_goto (tgt := 18) hx hb dL_grace_9 (by decide) ?_
  refine lv_iconst (v := zI (0)) hx hb dL_grace_18 rfl ?_
  exact fin (ad, N, c2) c2 _ _ _ _ _ _ _ rfl ⟨rfl, hc2, hD1.fr (fun q hq => fr2 q (by omega)), fun q hq => (fr2 q (by omega)).trans (fr1 q (by omega))⟩ w dL_grace_19 (Nat.le_of_ble_eq_true rfl) (Nat.le_of_ble_eq_true rfl)

theorem wd_L_grace_k13 : Cond.classLink RL 13 "java/lang/IllegalArgumentException" ∈ wsL_grace := by decide +kernel
set_option maxHeartbeats 1000000 in
set_option maxRecDepth 100000 in
theorem x_L_grace1 (l : Launch) (hsT : l.stackTraces = false) (D : va_G) (G : Nat → ClassId) (ad : Nat → Nat) (N : Nat) (c : Nat → va_E) {lim : Int} {no dn : Nat} {gn : Nat → Nat} {gg : Nat → Nat → Nat} {dg nn : Nat → Nat} {pt ln : Nat → Nat → Nat} {wi : Nat → Nat → Int} (hN : 139 + 2 * no ≤ N) (hD : DK G ad c lim no dn gn gg dg nn pt ln wi) (hV : SV lim no dn gn gg dg nn pt ln wi) {z : Int} (hbz : bnd z) (hbad : ¬ (0 ≤ z ∧ z ≤ 10))  : MC l yL_grace wsL_grace rm_L_grace [.ref (ad 0), .int (zI z), .ref (ad 137)] D G ad N c (qI D G (fx ad N) (fun r c1 => r = zI 1 ∧ DK G ad c1 lim no dn gn gg dg nn pt ln wi ∧ ∀ q, (120 ≤ q ∧ q < 139) → c1 q = c q)) 1 6 := by
  refine MCiH.of (cc := cL_grace) (maxL := 4) (by decide) rfl (Nat.le_of_ble_eq_true rfl) ?_
  intro p e s m args below meth kc A Q hx hb hts hown hml htab fin H locs w ls hl
  have hown : s.vm.findClass RL = some m.cls := hown
  have hl : lv_has ls 4 [(0, .ref (ad 0)), (1, .int (zI z)), (2, .ref (ad 137))] := hl
  refine lv_aload_n hx hb dL_grace_0 rfl (lv_at hl 2 rfl) ?_
  refine lv_iconst (v := zI (0)) hx hb dL_grace_1 rfl ?_
  refine lv_aload_n hx hb dL_grace_2 rfl (lv_at hl 0 rfl) ?_
  refine lv_iload_n hx hb dL_grace_3 rfl (lv_at hl 1 rfl) ?_
  refine pw_cx (E0 := xIA) w (pw_runVX (r := 0) (ci := 7) (As := [.int (zI z)]) (rest := [.int (zI 0), .ref (ad 137)]) w ⟨hx, hb, hml, hown, hts⟩ (x_X7_grace1 l hsT D G ad N c hN hD hV (z := z) hbz hbad) (cwV 1 hts gL_grace_X7_grace rfl rfl rfl (by decide +kernel) ⟨Nat.le_of_ble_eq_true rfl, Nat.le_of_ble_eq_true rfl⟩) (by omega) hD.1 rfl rfl hl.1 rfl (lv_room (Nat.le_of_ble_eq_true rfl)) dL_grace_4 ⟨Nat.le_of_ble_eq_true rfl, Nat.le_of_ble_eq_true rfl⟩) (fun c1 ce q9 H locs hp w hce hcv hcl => ?_)
  have w : PW D G A s ad N c1 H locs := w
  obtain ⟨hD1, fr1⟩ := hp
  refine pw_catch w hown [] ⟨0, 9, 12, 13⟩ [⟨0, 9, 15, 26⟩] htab (fun _ h => absurd h List.not_mem_nil) (by decide) (by decide) (hts _ wd_L_grace_k13) (by decide) hce hcv hcl ?_
  refine lv_astore_n (lv' := [(3, .ref q9), (0, .ref (ad 0)), (1, .int (zI z)), (2, .ref (ad 137))]) hx hb dL_grace_12 rfl hl (by decide) rfl (fun ls hl => ?_)
  refine lv_iconst (v := zI (1)) hx hb dL_grace_13 rfl ?_
  exact fin (ad, N, c1) c1 _ _ _ _ _ _ _ rfl ⟨rfl, hD1, fr1⟩ w dL_grace_14 (Nat.le_of_ble_eq_true rfl) (Nat.le_of_ble_eq_true rfl)

theorem wd_L_grace_k26 : Cond.classLink RL 26 "java/lang/IllegalStateException" ∈ wsL_grace := by decide +kernel
set_option maxHeartbeats 1000000 in
set_option maxRecDepth 100000 in
theorem x_L_grace2 (l : Launch) (hsT : l.stackTraces = false) (D : va_G) (G : Nat → ClassId) (ad : Nat → Nat) (N : Nat) (c : Nat → va_E) {lim : Int} {no dn : Nat} {gn : Nat → Nat} {gg : Nat → Nat → Nat} {dg nn : Nat → Nat} {pt ln : Nat → Nat → Nat} {wi : Nat → Nat → Int} (hN : 139 + 2 * no ≤ N) (hD : DK G ad c lim no dn gn gg dg nn pt ln wi) (hV : SV lim no dn gn gg dg nn pt ln wi) {g : Nat} (hg : g ≤ 10) (hd : dn = 4)  : MC l yL_grace wsL_grace rm_L_grace [.ref (ad 0), .int (zI (g : Int)), .ref (ad 137)] D G ad N c (qI D G (fx ad N) (fun r c1 => r = zI 2 ∧ DK G ad c1 lim no dn gn gg dg nn pt ln wi ∧ ∀ q, (120 ≤ q ∧ q < 139) → c1 q = c q)) 1 6 := by
  refine MCiH.of (cc := cL_grace) (maxL := 4) (by decide) rfl (Nat.le_of_ble_eq_true rfl) ?_
  intro p e s m args below meth kc A Q hx hb hts hown hml htab fin H locs w ls hl
  have hown : s.vm.findClass RL = some m.cls := hown
  have hl : lv_has ls 4 [(0, .ref (ad 0)), (1, .int (zI (g : Int))), (2, .ref (ad 137))] := hl
  refine lv_aload_n hx hb dL_grace_0 rfl (lv_at hl 2 rfl) ?_
  refine lv_iconst (v := zI (0)) hx hb dL_grace_1 rfl ?_
  refine lv_aload_n hx hb dL_grace_2 rfl (lv_at hl 0 rfl) ?_
  refine lv_iload_n hx hb dL_grace_3 rfl (lv_at hl 1 rfl) ?_
  refine pw_cx (E0 := xIS) w (pw_runVX (r := 0) (ci := 7) (As := [.int (zI (g : Int))]) (rest := [.int (zI 0), .ref (ad 137)]) w ⟨hx, hb, hml, hown, hts⟩ (x_X7_grace2 l hsT D G ad N c hN hD hV (g := g) hg hd) (cwV 1 hts gL_grace_X7_grace rfl rfl rfl (by decide +kernel) ⟨Nat.le_of_ble_eq_true rfl, Nat.le_of_ble_eq_true rfl⟩) (by omega) hD.1 rfl rfl hl.1 rfl (lv_room (Nat.le_of_ble_eq_true rfl)) dL_grace_4 ⟨Nat.le_of_ble_eq_true rfl, Nat.le_of_ble_eq_true rfl⟩) (fun c1 ce q9 H locs hp w hce hcv hcl => ?_)
  have w : PW D G A s ad N c1 H locs := w
  obtain ⟨hD1, fr1⟩ := hp
  refine pw_catch w hown [⟨0, 9, 12, 13⟩] ⟨0, 9, 15, 26⟩ [] htab (List.forall_mem_cons.mpr ⟨⟨by decide, xIA, by decide, hts _ wd_L_grace_k13⟩, (fun _ h => absurd h List.not_mem_nil)⟩) (by decide) (by decide) (hts _ wd_L_grace_k26) (by decide) hce hcv hcl ?_
  refine lv_astore_n (lv' := [(3, .ref q9), (0, .ref (ad 0)), (1, .int (zI (g : Int))), (2, .ref (ad 137))]) hx hb dL_grace_15 rfl hl (by decide) rfl (fun ls hl => ?_)
  refine lv_iconst (v := zI (2)) hx hb dL_grace_16 rfl ?_
  exact fin (ad, N, c1) c1 _ _ _ _ _ _ _ rfl ⟨rfl, hD1, fr1⟩ w dL_grace_17 (Nat.le_of_ble_eq_true rfl) (Nat.le_of_ble_eq_true rfl)

abbrev rm_L_enter : Room := { frames := 9, cells := 2, slots := 6, locals := 270 }
set_option maxHeartbeats 1000000 in
set_option maxRecDepth 100000 in
theorem c_L_enter (l : Launch) (D : va_G) (G : Nat → ClassId) (ad : Nat → Nat) (N : Nat) (c : Nat → va_E) {lim : Int} {no dn : Nat} {gn : Nat → Nat} {gg : Nat → Nat → Nat} {dg nn : Nat → Nat} {pt ln : Nat → Nat → Nat} {wi : Nat → Nat → Int} (hNe : N = 139 + 2 * no) (hD : DK G ad c lim no dn gn gg dg nn pt ln wi) (hV : SV lim no dn gn gg dg nn pt ln wi) (hd1 : 1 ≤ dn) (ho7 : no < 8) {v0 : Int64} (hO : lnA G (c 137) v0) : MC l yL_enter wsL_enter rm_L_enter [.ref (ad 0), .ref (ad 137)] D G ad N c (qI D G (fun u : (Nat → Nat) × (Nat → va_E) => (u.1, N + 1 + 1, u.2)) (fun r u => r = zI 0 ∧ (∀ r, r < N → u.1 r = ad r) ∧ lnA G (u.2 137) (zI (no : Int)).toInt64 ∧ DK G u.1 u.2 lim (no + 1) 0 (fun k => if k = no then dn else gn k) (fun k => if k = no then dg else gg k) dg nn pt ln wi ∧ ∀ q, (120 ≤ q ∧ q < 139 ∧ q ≠ 137) → u.2 q = c q)) 2 6 := by
  refine MCiH.of (cc := cL_enter) (maxL := 3) (by decide) rfl (Nat.le_of_ble_eq_true rfl) ?_
  intro p e s m args below meth kc A Q hx hb hts hown hml htab fin H locs w ls hl
  have hown : s.vm.findClass RL = some m.cls := hown
  have hl : lv_has ls 3 [(0, .ref (ad 0)), (1, .ref (ad 137))] := hl
  refine lv_aload_n hx hb dL_enter_0 rfl (lv_at hl 1 rfl) ?_
  refine lv_iconst (v := zI (0)) hx hb dL_enter_1 rfl ?_
  refine lv_aload_n hx hb dL_enter_2 rfl (lv_at hl 0 rfl) ?_
  refine pw_ci w (pw_runV (r := 0) (ci := 7) (As := []) (rest := [.int (zI 0), .ref (ad 137)]) w ⟨hx, hb, hml, hown, hts⟩ (c_X7_enter l D G ad N c hNe hD hV hd1 ho7) (cwV 0 hts gL_enter_X7_enter rfl rfl rfl (by decide +kernel) ⟨Nat.le_of_ble_eq_true rfl, Nat.le_of_ble_eq_true rfl⟩) (by omega) hD.1 rfl rfl hl.1 rfl (lv_room (Nat.le_of_ble_eq_true rfl)) dL_enter_3 ⟨Nat.le_of_ble_eq_true rfl, Nat.le_of_ble_eq_true rfl⟩) (fun r_ u1 H locs hp w => ?_)
  obtain ⟨ad1, c1⟩ := u1
  obtain ⟨hv, ha, hD1, fr1⟩ := hp
  subst hv
  have w : PW D G A s ad1 (N + 1 + 1) c1 H locs := w
  have ha : ∀ r, r < N → ad1 r = ad r := ha
  have hD1 : DK G ad1 c1 lim (no + 1) 0 (fun k => if k = no then dn else gn k) (fun k => if k = no then dg else gg k) dg nn pt ln wi := hD1
  have fr1 : ∀ q, (120 ≤ q ∧ q < 139) → c1 q = c q := fr1
  refine lv_i2l hx hb dL_enter_6 rfl ?_
  rw [show ad 137 = ad1 137 from (ha 137 (by omega)).symm]
  refine pw_last (r := 137) hx hb w (by omega) (lnA.fr (fr1 137 (by omega)) hO) dL_enter_7 (fun H locs c2 hc2 fr2 w => ?_)
  refine lv_goto (tgt := 14) hx hb dL_enter_8 (by decide) ?_
  refine lv_iconst (v := zI (0)) hx hb dL_enter_14 rfl ?_
  exact fin (ad1, _, c2) (ad1, c2) _ _ _ _ _ _ _ rfl ⟨rfl, ha, hc2, hD1.fr (fun q hq => fr2 q (by omega)), fun q hq => (fr2 q (by omega)).trans (fr1 q (by omega))⟩ w dL_enter_15 (Nat.le_of_ble_eq_true rfl) (Nat.le_of_ble_eq_true rfl)

theorem wd_L_enter_k26 : Cond.classLink RL 26 "java/lang/IllegalStateException" ∈ wsL_enter := by decide +kernel
set_option maxHeartbeats 1000000 in
set_option maxRecDepth 100000 in
theorem x_L_enter1 (l : Launch) (hsT : l.stackTraces = false) (D : va_G) (G : Nat → ClassId) (ad : Nat → Nat) (N : Nat) (c : Nat → va_E) {lim : Int} {no dn : Nat} {gn : Nat → Nat} {gg : Nat → Nat → Nat} {dg nn : Nat → Nat} {pt ln : Nat → Nat → Nat} {wi : Nat → Nat → Int} (hN : 139 + 2 * no ≤ N) (hD : DK G ad c lim no dn gn gg dg nn pt ln wi) (hV : SV lim no dn gn gg dg nn pt ln wi) (hbad : dn = 0)  : MC l yL_enter wsL_enter rm_L_enter [.ref (ad 0), .ref (ad 137)] D G ad N c (qI D G (fx ad N) (fun r c1 => r = zI 1 ∧ DK G ad c1 lim no dn gn gg dg nn pt ln wi ∧ ∀ q, (120 ≤ q ∧ q < 139) → c1 q = c q)) 2 6 := by
  refine MCiH.of (cc := cL_enter) (maxL := 3) (by decide) rfl (Nat.le_of_ble_eq_true rfl) ?_
  intro p e s m args below meth kc A Q hx hb hts hown hml htab fin H locs w ls hl
  have hown : s.vm.findClass RL = some m.cls := hown
  have hl : lv_has ls 3 [(0, .ref (ad 0)), (1, .ref (ad 137))] := hl
  refine lv_aload_n hx hb dL_enter_0 rfl (lv_at hl 1 rfl) ?_
  refine lv_iconst (v := zI (0)) hx hb dL_enter_1 rfl ?_
  refine lv_aload_n hx hb dL_enter_2 rfl (lv_at hl 0 rfl) ?_
  refine pw_cx (E0 := xIS) w (pw_runVX (r := 0) (ci := 7) (As := []) (rest := [.int (zI 0), .ref (ad 137)]) w ⟨hx, hb, hml, hown, hts⟩ (x_X7_enter1 l hsT D G ad N c hN hD hV hbad) (cwV 0 hts gL_enter_X7_enter rfl rfl rfl (by decide +kernel) ⟨Nat.le_of_ble_eq_true rfl, Nat.le_of_ble_eq_true rfl⟩) (by omega) hD.1 rfl rfl hl.1 rfl (lv_room (Nat.le_of_ble_eq_true rfl)) dL_enter_3 ⟨Nat.le_of_ble_eq_true rfl, Nat.le_of_ble_eq_true rfl⟩) (fun c1 ce q9 H locs hp w hce hcv hcl => ?_)
  have w : PW D G A s ad N c1 H locs := w
  obtain ⟨hD1, fr1⟩ := hp
  refine pw_catch w hown [] ⟨0, 8, 11, 26⟩ [] htab (fun _ h => absurd h List.not_mem_nil) (by decide) (by decide) (hts _ wd_L_enter_k26) (by decide) hce hcv hcl ?_
  refine lv_astore_n (lv' := [(2, .ref q9), (0, .ref (ad 0)), (1, .ref (ad 137))]) hx hb dL_enter_11 rfl hl (by decide) rfl (fun ls hl => ?_)
  refine lv_iconst (v := zI (1)) hx hb dL_enter_12 rfl ?_
  exact fin (ad, N, c1) c1 _ _ _ _ _ _ _ rfl ⟨rfl, hD1, fr1⟩ w dL_enter_13 (Nat.le_of_ble_eq_true rfl) (Nat.le_of_ble_eq_true rfl)

set_option maxHeartbeats 1000000 in
set_option maxRecDepth 100000 in
theorem x_L_enter2 (l : Launch) (hsT : l.stackTraces = false) (D : va_G) (G : Nat → ClassId) (ad : Nat → Nat) (N : Nat) (c : Nat → va_E) {lim : Int} {no dn : Nat} {gn : Nat → Nat} {gg : Nat → Nat → Nat} {dg nn : Nat → Nat} {pt ln : Nat → Nat → Nat} {wi : Nat → Nat → Int} (hN : 139 + 2 * no ≤ N) (hD : DK G ad c lim no dn gn gg dg nn pt ln wi) (hV : SV lim no dn gn gg dg nn pt ln wi) (hd1 : 1 ≤ dn) (hbad : no = 8)  : MC l yL_enter wsL_enter rm_L_enter [.ref (ad 0), .ref (ad 137)] D G ad N c (qI D G (fx ad N) (fun r c1 => r = zI 1 ∧ DK G ad c1 lim no dn gn gg dg nn pt ln wi ∧ ∀ q, (120 ≤ q ∧ q < 139) → c1 q = c q)) 2 6 := by
  refine MCiH.of (cc := cL_enter) (maxL := 3) (by decide) rfl (Nat.le_of_ble_eq_true rfl) ?_
  intro p e s m args below meth kc A Q hx hb hts hown hml htab fin H locs w ls hl
  have hown : s.vm.findClass RL = some m.cls := hown
  have hl : lv_has ls 3 [(0, .ref (ad 0)), (1, .ref (ad 137))] := hl
  refine lv_aload_n hx hb dL_enter_0 rfl (lv_at hl 1 rfl) ?_
  refine lv_iconst (v := zI (0)) hx hb dL_enter_1 rfl ?_
  refine lv_aload_n hx hb dL_enter_2 rfl (lv_at hl 0 rfl) ?_
  refine pw_cx (E0 := xIS) w (pw_runVX (r := 0) (ci := 7) (As := []) (rest := [.int (zI 0), .ref (ad 137)]) w ⟨hx, hb, hml, hown, hts⟩ (x_X7_enter2 l hsT D G ad N c hN hD hV hd1 hbad) (cwV 0 hts gL_enter_X7_enter rfl rfl rfl (by decide +kernel) ⟨Nat.le_of_ble_eq_true rfl, Nat.le_of_ble_eq_true rfl⟩) (by omega) hD.1 rfl rfl hl.1 rfl (lv_room (Nat.le_of_ble_eq_true rfl)) dL_enter_3 ⟨Nat.le_of_ble_eq_true rfl, Nat.le_of_ble_eq_true rfl⟩) (fun c1 ce q9 H locs hp w hce hcv hcl => ?_)
  have w : PW D G A s ad N c1 H locs := w
  obtain ⟨hD1, fr1⟩ := hp
  refine pw_catch w hown [] ⟨0, 8, 11, 26⟩ [] htab (fun _ h => absurd h List.not_mem_nil) (by decide) (by decide) (hts _ wd_L_enter_k26) (by decide) hce hcv hcl ?_
  refine lv_astore_n (lv' := [(2, .ref q9), (0, .ref (ad 0)), (1, .ref (ad 137))]) hx hb dL_enter_11 rfl hl (by decide) rfl (fun ls hl => ?_)
  refine lv_iconst (v := zI (1)) hx hb dL_enter_12 rfl ?_
  exact fin (ad, N, c1) c1 _ _ _ _ _ _ _ rfl ⟨rfl, hD1, fr1⟩ w dL_enter_13 (Nat.le_of_ble_eq_true rfl) (Nat.le_of_ble_eq_true rfl)

abbrev rm_L_fits : Room := { frames := 9, cells := 1, slots := 6, locals := 270 }
set_option maxHeartbeats 1000000 in
set_option maxRecDepth 100000 in
theorem c_L_fits (l : Launch) (D : va_G) (G : Nat → ClassId) (ad : Nat → Nat) (N : Nat) (c : Nat → va_E) {lim : Int} {no dn : Nat} {gn : Nat → Nat} {gg : Nat → Nat → Nat} {dg nn : Nat → Nat} {pt ln : Nat → Nat → Nat} {wi : Nat → Nat → Int} (hN : 139 + 2 * no ≤ N) (hD : DK G ad c lim no dn gn gg dg nn pt ln wi) (hV : SV lim no dn gn gg dg nn pt ln wi) {o x mm y : Nat} (ho : o < no) (hx9 : x < 9) (hmm : 1 ≤ mm ∧ mm ≤ 32) (hy9 : y < 9) {v0 : Int64} (hO : lnA G (c 137) v0) : MC l yL_fits wsL_fits rm_L_fits [.ref (ad 0), .int (zI (o : Int)), .int (zI (x : Int)), .int (zI (mm : Int)), .int (zI (y : Int)), .ref (ad 137)] D G ad N c (qI D G (fx ad N) (fun r c1 => r = zI 0 ∧ lnA G (c1 137) (zI (if (gapC lim no gn gg x mm y 0 (o + 1)) < 1000000 then 1 else 0)).toInt64 ∧ DK G ad c1 lim no dn gn gg dg nn pt ln wi ∧ ∀ q, (120 ≤ q ∧ q < 139 ∧ q ≠ 137) → c1 q = c q)) 1 6 := by
  refine MCiH.of (cc := cL_fits) (maxL := 7) (by decide) rfl (Nat.le_of_ble_eq_true rfl) ?_
  intro p e s m args below meth kc A Q hx hb hts hown hml htab fin H locs w ls hl
  have hown : s.vm.findClass RL = some m.cls := hown
  have hl : lv_has ls 7 [(0, .ref (ad 0)), (1, .int (zI (o : Int))), (2, .int (zI (x : Int))), (3, .int (zI (mm : Int))), (4, .int (zI (y : Int))), (5, .ref (ad 137))] := hl
  refine lv_aload hx hb dL_fits_0 (lv_at hl 5 rfl) ?_
  refine lv_iconst (v := zI (0)) hx hb dL_fits_2 rfl ?_
  refine lv_aload_n hx hb dL_fits_3 rfl (lv_at hl 0 rfl) ?_
  refine lv_iload_n hx hb dL_fits_4 rfl (lv_at hl 1 rfl) ?_
  refine lv_iload_n hx hb dL_fits_5 rfl (lv_at hl 2 rfl) ?_
  refine lv_iload_n hx hb dL_fits_6 rfl (lv_at hl 3 rfl) ?_
  refine lv_iload hx hb dL_fits_7 (lv_at hl 4 rfl) ?_
  refine pw_ci w (pw_runV (r := 0) (ci := 7) (As := [.int (zI (o : Int)), .int (zI (x : Int)), .int (zI (mm : Int)), .int (zI (y : Int))]) (rest := [.int (zI 0), .ref (ad 137)]) w ⟨hx, hb, hml, hown, hts⟩ (c_X7_fits l D G ad N c hN hD hV (o := o) (x := x) (mm := mm) (y := y) ho hx9 hmm hy9) (cwV 4 hts gL_fits_X7_fits rfl rfl rfl (by decide +kernel) ⟨Nat.le_of_ble_eq_true rfl, Nat.le_of_ble_eq_true rfl⟩) (by omega) hD.1 rfl rfl hl.1 rfl (lv_room (Nat.le_of_ble_eq_true rfl)) dL_fits_9 ⟨Nat.le_of_ble_eq_true rfl, Nat.le_of_ble_eq_true rfl⟩) (fun r_ c1 H locs hp w => ?_)
  have w : PW D G A s ad N c1 H locs := w
  obtain ⟨hv, hD1, fr1⟩ := hp
  subst hv
  have h01 : ((if (gapC lim no gn gg x mm y 0 (o + 1)) < 1000000 then 1 else 0) : Int) = 0 ∨ ((if (gapC lim no gn gg x mm y 0 (o + 1)) < 1000000 then 1 else 0) : Int) = 1 := by split <;> first | exact Or.inr rfl | exact Or.inl rfl
  refine pz_ifeq (tgt := 19) hx hb dL_fits_12 (by decide) (bnd_01 h01) (fun hz => ?_) (fun hz => ?_)
  · refine lv_lconst (v := (zI (if (gapC lim no gn gg x mm y 0 (o + 1)) < 1000000 then 1 else 0)).toInt64) hx hb dL_fits_19 (zL_of0 hz) ?_
    refine pw_last (r := 137) hx hb w (by omega) (lnA.fr (fr1 137 (by omega)) hO) dL_fits_20 (fun H locs c2 hc2 fr2 w => ?_)
    refine lv_goto (tgt := 32) hx hb dL_fits_21 (by decide) ?_
    refine lv_iconst (v := zI (0)) hx hb dL_fits_32 rfl ?_
    exact fin (ad, N, c2) c2 _ _ _ _ _ _ _ rfl ⟨rfl, hc2, hD1.fr (fun q hq => fr2 q (by omega)), fun q hq => (fr2 q (by omega)).trans (fr1 q (by omega))⟩ w dL_fits_33 (Nat.le_of_ble_eq_true rfl) (Nat.le_of_ble_eq_true rfl)
  · refine lv_lconst (v := (zI (if (gapC lim no gn gg x mm y 0 (o + 1)) < 1000000 then 1 else 0)).toInt64) hx hb dL_fits_15 (zL_of1 (h01.resolve_left hz)) ?_
    refine lv_goto (tgt := 20) hx hb dL_fits_16 (by decide) ?_
    refine pw_last (r := 137) hx hb w (by omega) (lnA.fr (fr1 137 (by omega)) hO) dL_fits_20 (fun H locs c2 hc2 fr2 w => ?_)
    refine lv_goto (tgt := 32) hx hb dL_fits_21 (by decide) ?_
    refine lv_iconst (v := zI (0)) hx hb dL_fits_32 rfl ?_
    exact fin (ad, N, c2) c2 _ _ _ _ _ _ _ rfl ⟨rfl, hc2, hD1.fr (fun q hq => fr2 q (by omega)), fun q hq => (fr2 q (by omega)).trans (fr1 q (by omega))⟩ w dL_fits_33 (Nat.le_of_ble_eq_true rfl) (Nat.le_of_ble_eq_true rfl)

theorem wd_L_fits_k36 : Cond.classLink RL 36 "java/lang/IndexOutOfBoundsException" ∈ wsL_fits := by decide +kernel
set_option maxHeartbeats 1000000 in
set_option maxRecDepth 100000 in
theorem x_L_fits1 (l : Launch) (hsT : l.stackTraces = false) (D : va_G) (G : Nat → ClassId) (ad : Nat → Nat) (N : Nat) (c : Nat → va_E) {lim : Int} {no dn : Nat} {gn : Nat → Nat} {gg : Nat → Nat → Nat} {dg nn : Nat → Nat} {pt ln : Nat → Nat → Nat} {wi : Nat → Nat → Int} (hN : 139 + 2 * no ≤ N) (hD : DK G ad c lim no dn gn gg dg nn pt ln wi) (hV : SV lim no dn gn gg dg nn pt ln wi) {zx zm zy : Int} {zo : Int} (hbzo : bnd zo) (hbad : ¬ (0 ≤ zo ∧ zo ≤ (no : Int) - 1))  : MC l yL_fits wsL_fits rm_L_fits [.ref (ad 0), .int (zI zo), .int (zI zx), .int (zI zm), .int (zI zy), .ref (ad 137)] D G ad N c (qI D G (fx ad N) (fun r c1 => r = zI 1 ∧ DK G ad c1 lim no dn gn gg dg nn pt ln wi ∧ ∀ q, (120 ≤ q ∧ q < 139) → c1 q = c q)) 1 6 := by
  refine MCiH.of (cc := cL_fits) (maxL := 7) (by decide) rfl (Nat.le_of_ble_eq_true rfl) ?_
  intro p e s m args below meth kc A Q hx hb hts hown hml htab fin H locs w ls hl
  have hown : s.vm.findClass RL = some m.cls := hown
  have hl : lv_has ls 7 [(0, .ref (ad 0)), (1, .int (zI zo)), (2, .int (zI zx)), (3, .int (zI zm)), (4, .int (zI zy)), (5, .ref (ad 137))] := hl
  refine lv_aload hx hb dL_fits_0 (lv_at hl 5 rfl) ?_
  refine lv_iconst (v := zI (0)) hx hb dL_fits_2 rfl ?_
  refine lv_aload_n hx hb dL_fits_3 rfl (lv_at hl 0 rfl) ?_
  refine lv_iload_n hx hb dL_fits_4 rfl (lv_at hl 1 rfl) ?_
  refine lv_iload_n hx hb dL_fits_5 rfl (lv_at hl 2 rfl) ?_
  refine lv_iload_n hx hb dL_fits_6 rfl (lv_at hl 3 rfl) ?_
  refine lv_iload hx hb dL_fits_7 (lv_at hl 4 rfl) ?_
  refine pw_cx (E0 := xIO) w (pw_runVX (r := 0) (ci := 7) (As := [.int (zI zo), .int (zI zx), .int (zI zm), .int (zI zy)]) (rest := [.int (zI 0), .ref (ad 137)]) w ⟨hx, hb, hml, hown, hts⟩ (x_X7_fits1 l hsT D G ad N c hN hD hV (zx := zx) (zm := zm) (zy := zy) (zo := zo) hbzo hbad) (cwV 4 hts gL_fits_X7_fits rfl rfl rfl (by decide +kernel) ⟨Nat.le_of_ble_eq_true rfl, Nat.le_of_ble_eq_true rfl⟩) (by omega) hD.1 rfl rfl hl.1 rfl (lv_room (Nat.le_of_ble_eq_true rfl)) dL_fits_9 ⟨Nat.le_of_ble_eq_true rfl, Nat.le_of_ble_eq_true rfl⟩) (fun c1 ce q9 H locs hp w hce hcv hcl => ?_)
  have w : PW D G A s ad N c1 H locs := w
  obtain ⟨hD1, fr1⟩ := hp
  refine pw_catch w hown [] ⟨0, 21, 24, 36⟩ [⟨0, 21, 28, 13⟩] htab (fun _ h => absurd h List.not_mem_nil) (by decide) (by decide) (hts _ wd_L_fits_k36) (by decide) hce hcv hcl ?_
  refine lv_astore (lv' := [(6, .ref q9), (0, .ref (ad 0)), (1, .int (zI zo)), (2, .int (zI zx)), (3, .int (zI zm)), (4, .int (zI zy)), (5, .ref (ad 137))]) hx hb dL_fits_24 hl (by decide) rfl (fun ls hl => ?_)
  refine lv_iconst (v := zI (1)) hx hb dL_fits_26 rfl ?_
  exact fin (ad, N, c1) c1 _ _ _ _ _ _ _ rfl ⟨rfl, hD1, fr1⟩ w dL_fits_27 (Nat.le_of_ble_eq_true rfl) (Nat.le_of_ble_eq_true rfl)

theorem wd_L_fits_k13 : Cond.classLink RL 13 "java/lang/IllegalArgumentException" ∈ wsL_fits := by decide +kernel
set_option maxHeartbeats 1000000 in
set_option maxRecDepth 100000 in
theorem x_L_fits2 (l : Launch) (hsT : l.stackTraces = false) (D : va_G) (G : Nat → ClassId) (ad : Nat → Nat) (N : Nat) (c : Nat → va_E) {lim : Int} {no dn : Nat} {gn : Nat → Nat} {gg : Nat → Nat → Nat} {dg nn : Nat → Nat} {pt ln : Nat → Nat → Nat} {wi : Nat → Nat → Int} (hN : 139 + 2 * no ≤ N) (hD : DK G ad c lim no dn gn gg dg nn pt ln wi) (hV : SV lim no dn gn gg dg nn pt ln wi) {zo zx zm zy : Int} (hbzo : bnd zo) (hbzx : bnd zx) (hbzm : bnd zm) (hbzy : bnd zy) (hok : 0 ≤ zo ∧ zo ≤ (no : Int) - 1) (hbad : ¬ ((0 ≤ zx ∧ zx ≤ 8) ∧ (1 ≤ zm ∧ zm ≤ 32) ∧ 0 ≤ zy ∧ zy ≤ 8))  : MC l yL_fits wsL_fits rm_L_fits [.ref (ad 0), .int (zI zo), .int (zI zx), .int (zI zm), .int (zI zy), .ref (ad 137)] D G ad N c (qI D G (fx ad N) (fun r c1 => r = zI 2 ∧ DK G ad c1 lim no dn gn gg dg nn pt ln wi ∧ ∀ q, (120 ≤ q ∧ q < 139) → c1 q = c q)) 1 6 := by
  refine MCiH.of (cc := cL_fits) (maxL := 7) (by decide) rfl (Nat.le_of_ble_eq_true rfl) ?_
  intro p e s m args below meth kc A Q hx hb hts hown hml htab fin H locs w ls hl
  have hown : s.vm.findClass RL = some m.cls := hown
  have hl : lv_has ls 7 [(0, .ref (ad 0)), (1, .int (zI zo)), (2, .int (zI zx)), (3, .int (zI zm)), (4, .int (zI zy)), (5, .ref (ad 137))] := hl
  refine lv_aload hx hb dL_fits_0 (lv_at hl 5 rfl) ?_
  refine lv_iconst (v := zI (0)) hx hb dL_fits_2 rfl ?_
  refine lv_aload_n hx hb dL_fits_3 rfl (lv_at hl 0 rfl) ?_
  refine lv_iload_n hx hb dL_fits_4 rfl (lv_at hl 1 rfl) ?_
  refine lv_iload_n hx hb dL_fits_5 rfl (lv_at hl 2 rfl) ?_
  refine lv_iload_n hx hb dL_fits_6 rfl (lv_at hl 3 rfl) ?_
  refine lv_iload hx hb dL_fits_7 (lv_at hl 4 rfl) ?_
  refine pw_cx (E0 := xIA) w (pw_runVX (r := 0) (ci := 7) (As := [.int (zI zo), .int (zI zx), .int (zI zm), .int (zI zy)]) (rest := [.int (zI 0), .ref (ad 137)]) w ⟨hx, hb, hml, hown, hts⟩ (x_X7_fits2 l hsT D G ad N c hN hD hV (zo := zo) (zx := zx) (zm := zm) (zy := zy) hbzo hbzx hbzm hbzy hok hbad) (cwV 4 hts gL_fits_X7_fits rfl rfl rfl (by decide +kernel) ⟨Nat.le_of_ble_eq_true rfl, Nat.le_of_ble_eq_true rfl⟩) (by omega) hD.1 rfl rfl hl.1 rfl (lv_room (Nat.le_of_ble_eq_true rfl)) dL_fits_9 ⟨Nat.le_of_ble_eq_true rfl, Nat.le_of_ble_eq_true rfl⟩) (fun c1 ce q9 H locs hp w hce hcv hcl => ?_)
  have w : PW D G A s ad N c1 H locs := w
  obtain ⟨hD1, fr1⟩ := hp
  refine pw_catch w hown [⟨0, 21, 24, 36⟩] ⟨0, 21, 28, 13⟩ [] htab (List.forall_mem_cons.mpr ⟨⟨by decide, xIO, by decide, hts _ wd_L_fits_k36⟩, (fun _ h => absurd h List.not_mem_nil)⟩) (by decide) (by decide) (hts _ wd_L_fits_k13) (by decide) hce hcv hcl ?_
  refine lv_astore (lv' := [(6, .ref q9), (0, .ref (ad 0)), (1, .int (zI zo)), (2, .int (zI zx)), (3, .int (zI zm)), (4, .int (zI zy)), (5, .ref (ad 137))]) hx hb dL_fits_28 hl (by decide) rfl (fun ls hl => ?_)
  refine lv_iconst (v := zI (2)) hx hb dL_fits_30 rfl ?_
  exact fin (ad, N, c1) c1 _ _ _ _ _ _ _ rfl ⟨rfl, hD1, fr1⟩ w dL_fits_31 (Nat.le_of_ble_eq_true rfl) (Nat.le_of_ble_eq_true rfl)

abbrev rm_L_addNote : Room := { frames := 9, cells := 1, slots := 6, locals := 270 }
set_option maxHeartbeats 1000000 in
set_option maxRecDepth 100000 in
theorem c_L_addNote (l : Launch) (D : va_G) (G : Nat → ClassId) (ad : Nat → Nat) (N : Nat) (c : Nat → va_E) {lim : Int} {no dn : Nat} {gn : Nat → Nat} {gg : Nat → Nat → Nat} {dg nn : Nat → Nat} {pt ln : Nat → Nat → Nat} {wi : Nat → Nat → Int} (hN : 139 + 2 * no ≤ N) (hD : DK G ad c lim no dn gn gg dg nn pt ln wi) (hV : SV lim no dn gn gg dg nn pt ln wi) {t x mm : Nat} (ht : t < 4) (hx9 : x < 9) (hmm : 1 ≤ mm ∧ mm ≤ 32) (hn10 : nn t < 10) {v0 : Int64} (hO : lnA G (c 137) v0) : MC l yL_addNote wsL_addNote rm_L_addNote [.ref (ad 0), .int (zI (t : Int)), .int (zI (x : Int)), .int (zI (mm : Int)), .ref (ad 137)] D G ad N c (qI D G (fx ad N) (fun r c1 => r = zI 0 ∧ lnA G (c1 137) (zI ((nn t + 1 : Nat) : Int)).toInt64 ∧ DK G ad c1 lim no dn gn gg dg (upT nn t (nn t + 1)) (upT pt t (fun i => if i = nn t then x else pt t i)) (upT ln t (fun i => if i = nn t then mm else ln t i)) (upT wi t (fun i => if i + 1 = nn t then 0 else wi t i)) ∧ ∀ q, (120 ≤ q ∧ q < 139 ∧ q ≠ 137) → c1 q = c q)) 1 6 := by
  refine MCiH.of (cc := cL_addNote) (maxL := 6) (by decide) rfl (Nat.le_of_ble_eq_true rfl) ?_
  intro p e s m args below meth kc A Q hx hb hts hown hml htab fin H locs w ls hl
  have hown : s.vm.findClass RL = some m.cls := hown
  have hl : lv_has ls 6 [(0, .ref (ad 0)), (1, .int (zI (t : Int))), (2, .int (zI (x : Int))), (3, .int (zI (mm : Int))), (4, .ref (ad 137))] := hl
  refine lv_aload hx hb dL_addNote_0 (lv_at hl 4 rfl) ?_
  refine lv_iconst (v := zI (0)) hx hb dL_addNote_2 rfl ?_
  refine lv_aload_n hx hb dL_addNote_3 rfl (lv_at hl 0 rfl) ?_
  refine lv_iload_n hx hb dL_addNote_4 rfl (lv_at hl 1 rfl) ?_
  refine lv_iload_n hx hb dL_addNote_5 rfl (lv_at hl 2 rfl) ?_
  refine lv_iload_n hx hb dL_addNote_6 rfl (lv_at hl 3 rfl) ?_
  refine pw_ci w (pw_runV (r := 0) (ci := 7) (As := [.int (zI (t : Int)), .int (zI (x : Int)), .int (zI (mm : Int))]) (rest := [.int (zI 0), .ref (ad 137)]) w ⟨hx, hb, hml, hown, hts⟩ (c_X7_addNote l D G ad N c hN hD hV (t := t) (x := x) (mm := mm) ht hx9 hmm hn10) (cwV 3 hts gL_addNote_X7_addNote rfl rfl rfl (by decide +kernel) ⟨Nat.le_of_ble_eq_true rfl, Nat.le_of_ble_eq_true rfl⟩) (by omega) hD.1 rfl rfl hl.1 rfl (lv_room (Nat.le_of_ble_eq_true rfl)) dL_addNote_7 ⟨Nat.le_of_ble_eq_true rfl, Nat.le_of_ble_eq_true rfl⟩) (fun r_ c1 H locs hp w => ?_)
  have w : PW D G A s ad N c1 H locs := w
  obtain ⟨hv, hD1, fr1⟩ := hp
  subst hv
  refine lv_i2l hx hb dL_addNote_10 rfl ?_
  refine pw_last (r := 137) hx hb w (by omega) (lnA.fr (fr1 137 (by omega)) hO) dL_addNote_11 (fun H locs c2 hc2 fr2 w => ?_)
  refine lv_goto (tgt := 23) hx hb dL_addNote_12 (by decide) ?_
  refine lv_iconst (v := zI (0)) hx hb dL_addNote_23 rfl ?_
  exact fin (ad, N, c2) c2 _ _ _ _ _ _ _ rfl ⟨rfl, hc2, hD1.fr (fun q hq => fr2 q (by omega)), fun q hq => (fr2 q (by omega)).trans (fr1 q (by omega))⟩ w dL_addNote_24 (Nat.le_of_ble_eq_true rfl) (Nat.le_of_ble_eq_true rfl)

theorem wd_L_addNote_k13 : Cond.classLink RL 13 "java/lang/IllegalArgumentException" ∈ wsL_addNote := by decide +kernel
set_option maxHeartbeats 1000000 in
set_option maxRecDepth 100000 in
theorem x_L_addNote1 (l : Launch) (hsT : l.stackTraces = false) (D : va_G) (G : Nat → ClassId) (ad : Nat → Nat) (N : Nat) (c : Nat → va_E) {lim : Int} {no dn : Nat} {gn : Nat → Nat} {gg : Nat → Nat → Nat} {dg nn : Nat → Nat} {pt ln : Nat → Nat → Nat} {wi : Nat → Nat → Int} (hN : 139 + 2 * no ≤ N) (hD : DK G ad c lim no dn gn gg dg nn pt ln wi) (hV : SV lim no dn gn gg dg nn pt ln wi) {zt zx zm : Int} (hbzt : bnd zt) (hbzx : bnd zx) (hbzm : bnd zm) (hbad : ¬ ((0 ≤ zt ∧ zt ≤ 3) ∧ (0 ≤ zx ∧ zx ≤ 8) ∧ 1 ≤ zm ∧ zm ≤ 32))  : MC l yL_addNote wsL_addNote rm_L_addNote [.ref (ad 0), .int (zI zt), .int (zI zx), .int (zI zm), .ref (ad 137)] D G ad N c (qI D G (fx ad N) (fun r c1 => r = zI 1 ∧ DK G ad c1 lim no dn gn gg dg nn pt ln wi ∧ ∀ q, (120 ≤ q ∧ q < 139) → c1 q = c q)) 1 6 := by
  refine MCiH.of (cc := cL_addNote) (maxL := 6) (by decide) rfl (Nat.le_of_ble_eq_true rfl) ?_
  intro p e s m args below meth kc A Q hx hb hts hown hml htab fin H locs w ls hl
  have hown : s.vm.findClass RL = some m.cls := hown
  have hl : lv_has ls 6 [(0, .ref (ad 0)), (1, .int (zI zt)), (2, .int (zI zx)), (3, .int (zI zm)), (4, .ref (ad 137))] := hl
  refine lv_aload hx hb dL_addNote_0 (lv_at hl 4 rfl) ?_
  refine lv_iconst (v := zI (0)) hx hb dL_addNote_2 rfl ?_
  refine lv_aload_n hx hb dL_addNote_3 rfl (lv_at hl 0 rfl) ?_
  refine lv_iload_n hx hb dL_addNote_4 rfl (lv_at hl 1 rfl) ?_
  refine lv_iload_n hx hb dL_addNote_5 rfl (lv_at hl 2 rfl) ?_
  refine lv_iload_n hx hb dL_addNote_6 rfl (lv_at hl 3 rfl) ?_
  refine pw_cx (E0 := xIA) w (pw_runVX (r := 0) (ci := 7) (As := [.int (zI zt), .int (zI zx), .int (zI zm)]) (rest := [.int (zI 0), .ref (ad 137)]) w ⟨hx, hb, hml, hown, hts⟩ (x_X7_addNote1 l hsT D G ad N c hN hD hV (zt := zt) (zx := zx) (zm := zm) hbzt hbzx hbzm hbad) (cwV 3 hts gL_addNote_X7_addNote rfl rfl rfl (by decide +kernel) ⟨Nat.le_of_ble_eq_true rfl, Nat.le_of_ble_eq_true rfl⟩) (by omega) hD.1 rfl rfl hl.1 rfl (lv_room (Nat.le_of_ble_eq_true rfl)) dL_addNote_7 ⟨Nat.le_of_ble_eq_true rfl, Nat.le_of_ble_eq_true rfl⟩) (fun c1 ce q9 H locs hp w hce hcv hcl => ?_)
  have w : PW D G A s ad N c1 H locs := w
  obtain ⟨hD1, fr1⟩ := hp
  refine pw_catch w hown [] ⟨0, 12, 15, 13⟩ [⟨0, 12, 19, 26⟩] htab (fun _ h => absurd h List.not_mem_nil) (by decide) (by decide) (hts _ wd_L_addNote_k13) (by decide) hce hcv hcl ?_
  refine lv_astore (lv' := [(5, .ref q9), (0, .ref (ad 0)), (1, .int (zI zt)), (2, .int (zI zx)), (3, .int (zI zm)), (4, .ref (ad 137))]) hx hb dL_addNote_15 hl (by decide) rfl (fun ls hl => ?_)
  refine lv_iconst (v := zI (1)) hx hb dL_addNote_17 rfl ?_
  exact fin (ad, N, c1) c1 _ _ _ _ _ _ _ rfl ⟨rfl, hD1, fr1⟩ w dL_addNote_18 (Nat.le_of_ble_eq_true rfl) (Nat.le_of_ble_eq_true rfl)

theorem wd_L_addNote_k26 : Cond.classLink RL 26 "java/lang/IllegalStateException" ∈ wsL_addNote := by decide +kernel
set_option maxHeartbeats 1000000 in
set_option maxRecDepth 100000 in
theorem x_L_addNote2 (l : Launch) (hsT : l.stackTraces = false) (D : va_G) (G : Nat → ClassId) (ad : Nat → Nat) (N : Nat) (c : Nat → va_E) {lim : Int} {no dn : Nat} {gn : Nat → Nat} {gg : Nat → Nat → Nat} {dg nn : Nat → Nat} {pt ln : Nat → Nat → Nat} {wi : Nat → Nat → Int} (hN : 139 + 2 * no ≤ N) (hD : DK G ad c lim no dn gn gg dg nn pt ln wi) (hV : SV lim no dn gn gg dg nn pt ln wi) {t x mm : Nat} (ht : t < 4) (hx9 : x < 9) (hmm : 1 ≤ mm ∧ mm ≤ 32) (hfull : nn t = 10)  : MC l yL_addNote wsL_addNote rm_L_addNote [.ref (ad 0), .int (zI (t : Int)), .int (zI (x : Int)), .int (zI (mm : Int)), .ref (ad 137)] D G ad N c (qI D G (fx ad N) (fun r c1 => r = zI 2 ∧ DK G ad c1 lim no dn gn gg dg nn pt ln wi ∧ ∀ q, (120 ≤ q ∧ q < 139) → c1 q = c q)) 1 6 := by
  refine MCiH.of (cc := cL_addNote) (maxL := 6) (by decide) rfl (Nat.le_of_ble_eq_true rfl) ?_
  intro p e s m args below meth kc A Q hx hb hts hown hml htab fin H locs w ls hl
  have hown : s.vm.findClass RL = some m.cls := hown
  have hl : lv_has ls 6 [(0, .ref (ad 0)), (1, .int (zI (t : Int))), (2, .int (zI (x : Int))), (3, .int (zI (mm : Int))), (4, .ref (ad 137))] := hl
  refine lv_aload hx hb dL_addNote_0 (lv_at hl 4 rfl) ?_
  refine lv_iconst (v := zI (0)) hx hb dL_addNote_2 rfl ?_
  refine lv_aload_n hx hb dL_addNote_3 rfl (lv_at hl 0 rfl) ?_
  refine lv_iload_n hx hb dL_addNote_4 rfl (lv_at hl 1 rfl) ?_
  refine lv_iload_n hx hb dL_addNote_5 rfl (lv_at hl 2 rfl) ?_
  refine lv_iload_n hx hb dL_addNote_6 rfl (lv_at hl 3 rfl) ?_
  refine pw_cx (E0 := xIS) w (pw_runVX (r := 0) (ci := 7) (As := [.int (zI (t : Int)), .int (zI (x : Int)), .int (zI (mm : Int))]) (rest := [.int (zI 0), .ref (ad 137)]) w ⟨hx, hb, hml, hown, hts⟩ (x_X7_addNote2 l hsT D G ad N c hN hD hV (t := t) (x := x) (mm := mm) ht hx9 hmm hfull) (cwV 3 hts gL_addNote_X7_addNote rfl rfl rfl (by decide +kernel) ⟨Nat.le_of_ble_eq_true rfl, Nat.le_of_ble_eq_true rfl⟩) (by omega) hD.1 rfl rfl hl.1 rfl (lv_room (Nat.le_of_ble_eq_true rfl)) dL_addNote_7 ⟨Nat.le_of_ble_eq_true rfl, Nat.le_of_ble_eq_true rfl⟩) (fun c1 ce q9 H locs hp w hce hcv hcl => ?_)
  have w : PW D G A s ad N c1 H locs := w
  obtain ⟨hD1, fr1⟩ := hp
  refine pw_catch w hown [⟨0, 12, 15, 13⟩] ⟨0, 12, 19, 26⟩ [] htab (List.forall_mem_cons.mpr ⟨⟨by decide, xIA, by decide, hts _ wd_L_addNote_k13⟩, (fun _ h => absurd h List.not_mem_nil)⟩) (by decide) (by decide) (hts _ wd_L_addNote_k26) (by decide) hce hcv hcl ?_
  refine lv_astore (lv' := [(5, .ref q9), (0, .ref (ad 0)), (1, .int (zI (t : Int))), (2, .int (zI (x : Int))), (3, .int (zI (mm : Int))), (4, .ref (ad 137))]) hx hb dL_addNote_19 hl (by decide) rfl (fun ls hl => ?_)
  refine lv_iconst (v := zI (2)) hx hb dL_addNote_21 rfl ?_
  exact fin (ad, N, c1) c1 _ _ _ _ _ _ _ rfl ⟨rfl, hD1, fr1⟩ w dL_addNote_22 (Nat.le_of_ble_eq_true rfl) (Nat.le_of_ble_eq_true rfl)

abbrev rm_L_removeNote : Room := { frames := 9, cells := 1, slots := 6, locals := 270 }
set_option maxHeartbeats 1000000 in
set_option maxRecDepth 100000 in
theorem c_L_removeNote (l : Launch) (D : va_G) (G : Nat → ClassId) (ad : Nat → Nat) (N : Nat) (c : Nat → va_E) {lim : Int} {no dn : Nat} {gn : Nat → Nat} {gg : Nat → Nat → Nat} {dg nn : Nat → Nat} {pt ln : Nat → Nat → Nat} {wi : Nat → Nat → Int} (hN : 139 + 2 * no ≤ N) (hD : DK G ad c lim no dn gn gg dg nn pt ln wi) (hV : SV lim no dn gn gg dg nn pt ln wi) {t : Nat} (ht : t < 4) (hn0 : 0 < nn t) {v0 : Int64} (hO : lnA G (c 137) v0) : MC l yL_removeNote wsL_removeNote rm_L_removeNote [.ref (ad 0), .int (zI (t : Int)), .ref (ad 137)] D G ad N c (qI D G (fx ad N) (fun r c1 => r = zI 0 ∧ lnA G (c1 137) (zI (pt t (nn t - 1) : Int)).toInt64 ∧ DK G ad c1 lim no dn gn gg dg (upT nn t (nn t - 1)) pt ln wi ∧ ∀ q, (120 ≤ q ∧ q < 139 ∧ q ≠ 137) → c1 q = c q)) 1 6 := by
  refine MCiH.of (cc := cL_removeNote) (maxL := 4) (by decide) rfl (Nat.le_of_ble_eq_true rfl) ?_
  intro p e s m args below meth kc A Q hx hb hts hown hml htab fin H locs w ls hl
  have hown : s.vm.findClass RL = some m.cls := hown
  have hl : lv_has ls 4 [(0, .ref (ad 0)), (1, .int (zI (t : Int))), (2, .ref (ad 137))] := hl
  refine lv_aload_n hx hb dL_removeNote_0 rfl (lv_at hl 2 rfl) ?_
  refine lv_iconst (v := zI (0)) hx hb dL_removeNote_1 rfl ?_
  refine lv_aload_n hx hb dL_removeNote_2 rfl (lv_at hl 0 rfl) ?_
  refine lv_iload_n hx hb dL_removeNote_3 rfl (lv_at hl 1 rfl) ?_
  refine pw_ci w (pw_runV (r := 0) (ci := 7) (As := [.int (zI (t : Int))]) (rest := [.int (zI 0), .ref (ad 137)]) w ⟨hx, hb, hml, hown, hts⟩ (c_X7_removeNote l D G ad N c hN hD hV (t := t) ht hn0) (cwV 1 hts gL_removeNote_X7_removeNote rfl rfl rfl (by decide +kernel) ⟨Nat.le_of_ble_eq_true rfl, Nat.le_of_ble_eq_true rfl⟩) (by omega) hD.1 rfl rfl hl.1 rfl (lv_room (Nat.le_of_ble_eq_true rfl)) dL_removeNote_4 ⟨Nat.le_of_ble_eq_true rfl, Nat.le_of_ble_eq_true rfl⟩) (fun r_ c1 H locs hp w => ?_)
  have w : PW D G A s ad N c1 H locs := w
  obtain ⟨hv, hD1, fr1⟩ := hp
  subst hv
  refine lv_i2l hx hb dL_removeNote_7 rfl ?_
  refine pw_last (r := 137) hx hb w (by omega) (lnA.fr (fr1 137 (by omega)) hO) dL_removeNote_8 (fun H locs c2 hc2 fr2 w => ?_)
  refine lv_goto (tgt := 18) hx hb dL_removeNote_9 (by decide) ?_
  refine lv_iconst (v := zI (0)) hx hb dL_removeNote_18 rfl ?_
  exact fin (ad, N, c2) c2 _ _ _ _ _ _ _ rfl ⟨rfl, hc2, hD1.fr (fun q hq => fr2 q (by omega)), fun q hq => (fr2 q (by omega)).trans (fr1 q (by omega))⟩ w dL_removeNote_19 (Nat.le_of_ble_eq_true rfl) (Nat.le_of_ble_eq_true rfl)

theorem wd_L_removeNote_k13 : Cond.classLink RL 13 "java/lang/IllegalArgumentException" ∈ wsL_removeNote := by decide +kernel
set_option maxHeartbeats 1000000 in
set_option maxRecDepth 100000 in
theorem x_L_removeNote1 (l : Launch) (hsT : l.stackTraces = false) (D : va_G) (G : Nat → ClassId) (ad : Nat → Nat) (N : Nat) (c : Nat → va_E) {lim : Int} {no dn : Nat} {gn : Nat → Nat} {gg : Nat → Nat → Nat} {dg nn : Nat → Nat} {pt ln : Nat → Nat → Nat} {wi : Nat → Nat → Int} (hN : 139 + 2 * no ≤ N) (hD : DK G ad c lim no dn gn gg dg nn pt ln wi) (hV : SV lim no dn gn gg dg nn pt ln wi) {zt : Int} (hbzt : bnd zt) (hbad : ¬ (0 ≤ zt ∧ zt ≤ 3))  : MC l yL_removeNote wsL_removeNote rm_L_removeNote [.ref (ad 0), .int (zI zt), .ref (ad 137)] D G ad N c (qI D G (fx ad N) (fun r c1 => r = zI 1 ∧ DK G ad c1 lim no dn gn gg dg nn pt ln wi ∧ ∀ q, (120 ≤ q ∧ q < 139) → c1 q = c q)) 1 6 := by
  refine MCiH.of (cc := cL_removeNote) (maxL := 4) (by decide) rfl (Nat.le_of_ble_eq_true rfl) ?_
  intro p e s m args below meth kc A Q hx hb hts hown hml htab fin H locs w ls hl
  have hown : s.vm.findClass RL = some m.cls := hown
  have hl : lv_has ls 4 [(0, .ref (ad 0)), (1, .int (zI zt)), (2, .ref (ad 137))] := hl
  refine lv_aload_n hx hb dL_removeNote_0 rfl (lv_at hl 2 rfl) ?_
  refine lv_iconst (v := zI (0)) hx hb dL_removeNote_1 rfl ?_
  refine lv_aload_n hx hb dL_removeNote_2 rfl (lv_at hl 0 rfl) ?_
  refine lv_iload_n hx hb dL_removeNote_3 rfl (lv_at hl 1 rfl) ?_
  refine pw_cx (E0 := xIA) w (pw_runVX (r := 0) (ci := 7) (As := [.int (zI zt)]) (rest := [.int (zI 0), .ref (ad 137)]) w ⟨hx, hb, hml, hown, hts⟩ (x_X7_removeNote1 l hsT D G ad N c hN hD hV (zt := zt) hbzt hbad) (cwV 1 hts gL_removeNote_X7_removeNote rfl rfl rfl (by decide +kernel) ⟨Nat.le_of_ble_eq_true rfl, Nat.le_of_ble_eq_true rfl⟩) (by omega) hD.1 rfl rfl hl.1 rfl (lv_room (Nat.le_of_ble_eq_true rfl)) dL_removeNote_4 ⟨Nat.le_of_ble_eq_true rfl, Nat.le_of_ble_eq_true rfl⟩) (fun c1 ce q9 H locs hp w hce hcv hcl => ?_)
  have w : PW D G A s ad N c1 H locs := w
  obtain ⟨hD1, fr1⟩ := hp
  refine pw_catch w hown [] ⟨0, 9, 12, 13⟩ [⟨0, 9, 15, 45⟩] htab (fun _ h => absurd h List.not_mem_nil) (by decide) (by decide) (hts _ wd_L_removeNote_k13) (by decide) hce hcv hcl ?_
  refine lv_astore_n (lv' := [(3, .ref q9), (0, .ref (ad 0)), (1, .int (zI zt)), (2, .ref (ad 137))]) hx hb dL_removeNote_12 rfl hl (by decide) rfl (fun ls hl => ?_)
  refine lv_iconst (v := zI (1)) hx hb dL_removeNote_13 rfl ?_
  exact fin (ad, N, c1) c1 _ _ _ _ _ _ _ rfl ⟨rfl, hD1, fr1⟩ w dL_removeNote_14 (Nat.le_of_ble_eq_true rfl) (Nat.le_of_ble_eq_true rfl)

theorem wd_L_removeNote_k45 : Cond.classLink RL 45 "java/util/NoSuchElementException" ∈ wsL_removeNote := by decide +kernel
set_option maxHeartbeats 1000000 in
set_option maxRecDepth 100000 in
theorem x_L_removeNote2 (l : Launch) (hsT : l.stackTraces = false) (D : va_G) (G : Nat → ClassId) (ad : Nat → Nat) (N : Nat) (c : Nat → va_E) {lim : Int} {no dn : Nat} {gn : Nat → Nat} {gg : Nat → Nat → Nat} {dg nn : Nat → Nat} {pt ln : Nat → Nat → Nat} {wi : Nat → Nat → Int} (hN : 139 + 2 * no ≤ N) (hD : DK G ad c lim no dn gn gg dg nn pt ln wi) (hV : SV lim no dn gn gg dg nn pt ln wi) {t : Nat} (ht : t < 4) (hn0 : nn t = 0)  : MC l yL_removeNote wsL_removeNote rm_L_removeNote [.ref (ad 0), .int (zI (t : Int)), .ref (ad 137)] D G ad N c (qI D G (fx ad N) (fun r c1 => r = zI 2 ∧ DK G ad c1 lim no dn gn gg dg nn pt ln wi ∧ ∀ q, (120 ≤ q ∧ q < 139) → c1 q = c q)) 1 6 := by
  refine MCiH.of (cc := cL_removeNote) (maxL := 4) (by decide) rfl (Nat.le_of_ble_eq_true rfl) ?_
  intro p e s m args below meth kc A Q hx hb hts hown hml htab fin H locs w ls hl
  have hown : s.vm.findClass RL = some m.cls := hown
  have hl : lv_has ls 4 [(0, .ref (ad 0)), (1, .int (zI (t : Int))), (2, .ref (ad 137))] := hl
  refine lv_aload_n hx hb dL_removeNote_0 rfl (lv_at hl 2 rfl) ?_
  refine lv_iconst (v := zI (0)) hx hb dL_removeNote_1 rfl ?_
  refine lv_aload_n hx hb dL_removeNote_2 rfl (lv_at hl 0 rfl) ?_
  refine lv_iload_n hx hb dL_removeNote_3 rfl (lv_at hl 1 rfl) ?_
  refine pw_cx (E0 := xNS) w (pw_runVX (r := 0) (ci := 7) (As := [.int (zI (t : Int))]) (rest := [.int (zI 0), .ref (ad 137)]) w ⟨hx, hb, hml, hown, hts⟩ (x_X7_removeNote2 l hsT D G ad N c hN hD hV (t := t) ht hn0) (cwV 1 hts gL_removeNote_X7_removeNote rfl rfl rfl (by decide +kernel) ⟨Nat.le_of_ble_eq_true rfl, Nat.le_of_ble_eq_true rfl⟩) (by omega) hD.1 rfl rfl hl.1 rfl (lv_room (Nat.le_of_ble_eq_true rfl)) dL_removeNote_4 ⟨Nat.le_of_ble_eq_true rfl, Nat.le_of_ble_eq_true rfl⟩) (fun c1 ce q9 H locs hp w hce hcv hcl => ?_)
  have w : PW D G A s ad N c1 H locs := w
  obtain ⟨hD1, fr1⟩ := hp
  refine pw_catch w hown [⟨0, 9, 12, 13⟩] ⟨0, 9, 15, 45⟩ [] htab (List.forall_mem_cons.mpr ⟨⟨by decide, xIA, by decide, hts _ wd_L_removeNote_k13⟩, (fun _ h => absurd h List.not_mem_nil)⟩) (by decide) (by decide) (hts _ wd_L_removeNote_k45) (by decide) hce hcv hcl ?_
  refine lv_astore_n (lv' := [(3, .ref q9), (0, .ref (ad 0)), (1, .int (zI (t : Int))), (2, .ref (ad 137))]) hx hb dL_removeNote_15 rfl hl (by decide) rfl (fun ls hl => ?_)
  refine lv_iconst (v := zI (2)) hx hb dL_removeNote_16 rfl ?_
  exact fin (ad, N, c1) c1 _ _ _ _ _ _ _ rfl ⟨rfl, hD1, fr1⟩ w dL_removeNote_17 (Nat.le_of_ble_eq_true rfl) (Nat.le_of_ble_eq_true rfl)

abbrev rm_L_setWish : Room := { frames := 9, cells := 1, slots := 6, locals := 270 }
set_option maxHeartbeats 1000000 in
set_option maxRecDepth 100000 in
theorem c_L_setWish (l : Launch) (D : va_G) (G : Nat → ClassId) (ad : Nat → Nat) (N : Nat) (c : Nat → va_E) {lim : Int} {no dn : Nat} {gn : Nat → Nat} {gg : Nat → Nat → Nat} {dg nn : Nat → Nat} {pt ln : Nat → Nat → Nat} {wi : Nat → Nat → Int} (hN : 139 + 2 * no ≤ N) (hD : DK G ad c lim no dn gn gg dg nn pt ln wi) (hV : SV lim no dn gn gg dg nn pt ln wi) {t : Nat} (ht : t < 4) {i : Nat} {xw : Int} (hi : i + 1 < nn t) (hxw : xw = 0 ∨ xw = 1) {v0 : Int64} (hO : lnA G (c 137) v0) : MC l yL_setWish wsL_setWish rm_L_setWish [.ref (ad 0), .int (zI (t : Int)), .int (zI (i : Int)), .int (zI xw), .ref (ad 137)] D G ad N c (qI D G (fx ad N) (fun r c1 => r = zI 0 ∧ lnA G (c1 137) (zI (wi t i)).toInt64 ∧ DK G ad c1 lim no dn gn gg dg nn pt ln (upT wi t (fun j => if j = i then xw else wi t j)) ∧ ∀ q, (120 ≤ q ∧ q < 139 ∧ q ≠ 137) → c1 q = c q)) 1 6 := by
  refine MCiH.of (cc := cL_setWish) (maxL := 6) (by decide) rfl (Nat.le_of_ble_eq_true rfl) ?_
  intro p e s m args below meth kc A Q hx hb hts hown hml htab fin H locs w ls hl
  have hown : s.vm.findClass RL = some m.cls := hown
  have hl : lv_has ls 6 [(0, .ref (ad 0)), (1, .int (zI (t : Int))), (2, .int (zI (i : Int))), (3, .int (zI xw)), (4, .ref (ad 137))] := hl
  refine lv_aload hx hb dL_setWish_0 (lv_at hl 4 rfl) ?_
  refine lv_iconst (v := zI (0)) hx hb dL_setWish_2 rfl ?_
  refine lv_aload_n hx hb dL_setWish_3 rfl (lv_at hl 0 rfl) ?_
  refine lv_iload_n hx hb dL_setWish_4 rfl (lv_at hl 1 rfl) ?_
  refine lv_iload_n hx hb dL_setWish_5 rfl (lv_at hl 2 rfl) ?_
  refine lv_iload_n hx hb dL_setWish_6 rfl (lv_at hl 3 rfl) ?_
  refine pw_ci w (pw_runV (r := 0) (ci := 7) (As := [.int (zI (t : Int)), .int (zI (i : Int)), .int (zI xw)]) (rest := [.int (zI 0), .ref (ad 137)]) w ⟨hx, hb, hml, hown, hts⟩ (c_X7_setWish l D G ad N c hN hD hV (t := t) ht (i := i) (xw := xw) hi hxw) (cwV 3 hts gL_setWish_X7_setWish rfl rfl rfl (by decide +kernel) ⟨Nat.le_of_ble_eq_true rfl, Nat.le_of_ble_eq_true rfl⟩) (by omega) hD.1 rfl rfl hl.1 rfl (lv_room (Nat.le_of_ble_eq_true rfl)) dL_setWish_7 ⟨Nat.le_of_ble_eq_true rfl, Nat.le_of_ble_eq_true rfl⟩) (fun r_ c1 H locs hp w => ?_)
  have w : PW D G A s ad N c1 H locs := w
  obtain ⟨hv, hD1, fr1⟩ := hp
  subst hv
  have h01 : ((wi t i) : Int) = 0 ∨ ((wi t i) : Int) = 1 := (hV.2.2.2.2 t ht).2.2 i hi
  refine pz_ifeq (tgt := 17) hx hb dL_setWish_10 (by decide) (bnd_01 h01) (fun hz => ?_) (fun hz => ?_)
  · refine lv_lconst (v := (zI (wi t i)).toInt64) hx hb dL_setWish_17 (zL_of0 hz) ?_
    refine pw_last (r := 137) hx hb w (by omega) (lnA.fr (fr1 137 (by omega)) hO) dL_setWish_18 (fun H locs c2 hc2 fr2 w => ?_)
    refine lv_goto (tgt := 30) hx hb dL_setWish_19 (by decide) ?_
    refine lv_iconst (v := zI (0)) hx hb dL_setWish_30 rfl ?_
    exact fin (ad, N, c2) c2 _ _ _ _ _ _ _ rfl ⟨rfl, hc2, hD1.fr (fun q hq => fr2 q (by omega)), fun q hq => (fr2 q (by omega)).trans (fr1 q (by omega))⟩ w dL_setWish_31 (Nat.le_of_ble_eq_true rfl) (Nat.le_of_ble_eq_true rfl)
  · refine lv_lconst (v := (zI (wi t i)).toInt64) hx hb dL_setWish_13 (zL_of1 (h01.resolve_left hz)) ?_
    refine lv_goto (tgt := 18) hx hb dL_setWish_14 (by decide) ?_
    refine pw_last (r := 137) hx hb w (by omega) (lnA.fr (fr1 137 (by omega)) hO) dL_setWish_18 (fun H locs c2 hc2 fr2 w => ?_)
    refine lv_goto (tgt := 30) hx hb dL_setWish_19 (by decide) ?_
    refine lv_iconst (v := zI (0)) hx hb dL_setWish_30 rfl ?_
    exact fin (ad, N, c2) c2 _ _ _ _ _ _ _ rfl ⟨rfl, hc2, hD1.fr (fun q hq => fr2 q (by omega)), fun q hq => (fr2 q (by omega)).trans (fr1 q (by omega))⟩ w dL_setWish_31 (Nat.le_of_ble_eq_true rfl) (Nat.le_of_ble_eq_true rfl)

theorem wd_L_setWish_k13 : Cond.classLink RL 13 "java/lang/IllegalArgumentException" ∈ wsL_setWish := by decide +kernel
set_option maxHeartbeats 1000000 in
set_option maxRecDepth 100000 in
theorem x_L_setWish1 (l : Launch) (hsT : l.stackTraces = false) (D : va_G) (G : Nat → ClassId) (ad : Nat → Nat) (N : Nat) (c : Nat → va_E) {lim : Int} {no dn : Nat} {gn : Nat → Nat} {gg : Nat → Nat → Nat} {dg nn : Nat → Nat} {pt ln : Nat → Nat → Nat} {wi : Nat → Nat → Int} (hN : 139 + 2 * no ≤ N) (hD : DK G ad c lim no dn gn gg dg nn pt ln wi) (hV : SV lim no dn gn gg dg nn pt ln wi) {zt : Int} (hbzt : bnd zt) (hbad : ¬ (0 ≤ zt ∧ zt ≤ 3)) {zi xw : Int}  : MC l yL_setWish wsL_setWish rm_L_setWish [.ref (ad 0), .int (zI zt), .int (zI zi), .int (zI xw), .ref (ad 137)] D G ad N c (qI D G (fx ad N) (fun r c1 => r = zI 1 ∧ DK G ad c1 lim no dn gn gg dg nn pt ln wi ∧ ∀ q, (120 ≤ q ∧ q < 139) → c1 q = c q)) 1 6 := by
  refine MCiH.of (cc := cL_setWish) (maxL := 6) (by decide) rfl (Nat.le_of_ble_eq_true rfl) ?_
  intro p e s m args below meth kc A Q hx hb hts hown hml htab fin H locs w ls hl
  have hown : s.vm.findClass RL = some m.cls := hown
  have hl : lv_has ls 6 [(0, .ref (ad 0)), (1, .int (zI zt)), (2, .int (zI zi)), (3, .int (zI xw)), (4, .ref (ad 137))] := hl
  refine lv_aload hx hb dL_setWish_0 (lv_at hl 4 rfl) ?_
  refine lv_iconst (v := zI (0)) hx hb dL_setWish_2 rfl ?_
  refine lv_aload_n hx hb dL_setWish_3 rfl (lv_at hl 0 rfl) ?_
  refine lv_iload_n hx hb dL_setWish_4 rfl (lv_at hl 1 rfl) ?_
  refine lv_iload_n hx hb dL_setWish_5 rfl (lv_at hl 2 rfl) ?_
  refine lv_iload_n hx hb dL_setWish_6 rfl (lv_at hl 3 rfl) ?_
  refine pw_cx (E0 := xIA) w (pw_runVX (r := 0) (ci := 7) (As := [.int (zI zt), .int (zI zi), .int (zI xw)]) (rest := [.int (zI 0), .ref (ad 137)]) w ⟨hx, hb, hml, hown, hts⟩ (x_X7_setWish1 l hsT D G ad N c hN hD hV (zt := zt) hbzt hbad (zi := zi) (xw := xw)) (cwV 3 hts gL_setWish_X7_setWish rfl rfl rfl (by decide +kernel) ⟨Nat.le_of_ble_eq_true rfl, Nat.le_of_ble_eq_true rfl⟩) (by omega) hD.1 rfl rfl hl.1 rfl (lv_room (Nat.le_of_ble_eq_true rfl)) dL_setWish_7 ⟨Nat.le_of_ble_eq_true rfl, Nat.le_of_ble_eq_true rfl⟩) (fun c1 ce q9 H locs hp w hce hcv hcl => ?_)
  have w : PW D G A s ad N c1 H locs := w
  obtain ⟨hD1, fr1⟩ := hp
  refine pw_catch w hown [] ⟨0, 19, 22, 13⟩ [⟨0, 19, 26, 36⟩] htab (fun _ h => absurd h List.not_mem_nil) (by decide) (by decide) (hts _ wd_L_setWish_k13) (by decide) hce hcv hcl ?_
  refine lv_astore (lv' := [(5, .ref q9), (0, .ref (ad 0)), (1, .int (zI zt)), (2, .int (zI zi)), (3, .int (zI xw)), (4, .ref (ad 137))]) hx hb dL_setWish_22 hl (by decide) rfl (fun ls hl => ?_)
  refine lv_iconst (v := zI (1)) hx hb dL_setWish_24 rfl ?_
  exact fin (ad, N, c1) c1 _ _ _ _ _ _ _ rfl ⟨rfl, hD1, fr1⟩ w dL_setWish_25 (Nat.le_of_ble_eq_true rfl) (Nat.le_of_ble_eq_true rfl)

theorem wd_L_setWish_k36 : Cond.classLink RL 36 "java/lang/IndexOutOfBoundsException" ∈ wsL_setWish := by decide +kernel
set_option maxHeartbeats 1000000 in
set_option maxRecDepth 100000 in
theorem x_L_setWish2 (l : Launch) (hsT : l.stackTraces = false) (D : va_G) (G : Nat → ClassId) (ad : Nat → Nat) (N : Nat) (c : Nat → va_E) {lim : Int} {no dn : Nat} {gn : Nat → Nat} {gg : Nat → Nat → Nat} {dg nn : Nat → Nat} {pt ln : Nat → Nat → Nat} {wi : Nat → Nat → Int} (hN : 139 + 2 * no ≤ N) (hD : DK G ad c lim no dn gn gg dg nn pt ln wi) (hV : SV lim no dn gn gg dg nn pt ln wi) {t : Nat} (ht : t < 4) {zi : Int} (hbzi : bnd zi) (hbad : ¬ (0 ≤ zi ∧ zi ≤ (nn t : Int) - 2)) {xw : Int}  : MC l yL_setWish wsL_setWish rm_L_setWish [.ref (ad 0), .int (zI (t : Int)), .int (zI zi), .int (zI xw), .ref (ad 137)] D G ad N c (qI D G (fx ad N) (fun r c1 => r = zI 2 ∧ DK G ad c1 lim no dn gn gg dg nn pt ln wi ∧ ∀ q, (120 ≤ q ∧ q < 139) → c1 q = c q)) 1 6 := by
  refine MCiH.of (cc := cL_setWish) (maxL := 6) (by decide) rfl (Nat.le_of_ble_eq_true rfl) ?_
  intro p e s m args below meth kc A Q hx hb hts hown hml htab fin H locs w ls hl
  have hown : s.vm.findClass RL = some m.cls := hown
  have hl : lv_has ls 6 [(0, .ref (ad 0)), (1, .int (zI (t : Int))), (2, .int (zI zi)), (3, .int (zI xw)), (4, .ref (ad 137))] := hl
  refine lv_aload hx hb dL_setWish_0 (lv_at hl 4 rfl) ?_
  refine lv_iconst (v := zI (0)) hx hb dL_setWish_2 rfl ?_
  refine lv_aload_n hx hb dL_setWish_3 rfl (lv_at hl 0 rfl) ?_
  refine lv_iload_n hx hb dL_setWish_4 rfl (lv_at hl 1 rfl) ?_
  refine lv_iload_n hx hb dL_setWish_5 rfl (lv_at hl 2 rfl) ?_
  refine lv_iload_n hx hb dL_setWish_6 rfl (lv_at hl 3 rfl) ?_
  refine pw_cx (E0 := xIO) w (pw_runVX (r := 0) (ci := 7) (As := [.int (zI (t : Int)), .int (zI zi), .int (zI xw)]) (rest := [.int (zI 0), .ref (ad 137)]) w ⟨hx, hb, hml, hown, hts⟩ (x_X7_setWish2 l hsT D G ad N c hN hD hV (t := t) ht (zi := zi) hbzi hbad (xw := xw)) (cwV 3 hts gL_setWish_X7_setWish rfl rfl rfl (by decide +kernel) ⟨Nat.le_of_ble_eq_true rfl, Nat.le_of_ble_eq_true rfl⟩) (by omega) hD.1 rfl rfl hl.1 rfl (lv_room (Nat.le_of_ble_eq_true rfl)) dL_setWish_7 ⟨Nat.le_of_ble_eq_true rfl, Nat.le_of_ble_eq_true rfl⟩) (fun c1 ce q9 H locs hp w hce hcv hcl => ?_)
  have w : PW D G A s ad N c1 H locs := w
  obtain ⟨hD1, fr1⟩ := hp
  refine pw_catch w hown [⟨0, 19, 22, 13⟩] ⟨0, 19, 26, 36⟩ [] htab (List.forall_mem_cons.mpr ⟨⟨by decide, xIA, by decide, hts _ wd_L_setWish_k13⟩, (fun _ h => absurd h List.not_mem_nil)⟩) (by decide) (by decide) (hts _ wd_L_setWish_k36) (by decide) hce hcv hcl ?_
  refine lv_astore (lv' := [(5, .ref q9), (0, .ref (ad 0)), (1, .int (zI (t : Int))), (2, .int (zI zi)), (3, .int (zI xw)), (4, .ref (ad 137))]) hx hb dL_setWish_26 hl (by decide) rfl (fun ls hl => ?_)
  refine lv_iconst (v := zI (2)) hx hb dL_setWish_28 rfl ?_
  exact fin (ad, N, c1) c1 _ _ _ _ _ _ _ rfl ⟨rfl, hD1, fr1⟩ w dL_setWish_29 (Nat.le_of_ble_eq_true rfl) (Nat.le_of_ble_eq_true rfl)

abbrev rm_L_notes : Room := { frames := 9, cells := 1, slots := 6, locals := 270 }
set_option maxHeartbeats 1000000 in
set_option maxRecDepth 100000 in
theorem c_L_notes (l : Launch) (D : va_G) (G : Nat → ClassId) (ad : Nat → Nat) (N : Nat) (c : Nat → va_E) {lim : Int} {no dn : Nat} {gn : Nat → Nat} {gg : Nat → Nat → Nat} {dg nn : Nat → Nat} {pt ln : Nat → Nat → Nat} {wi : Nat → Nat → Int} (hN : 139 + 2 * no ≤ N) (hD : DK G ad c lim no dn gn gg dg nn pt ln wi) (hV : SV lim no dn gn gg dg nn pt ln wi) {t : Nat} (ht : t < 4) {v0 : Int64} (hO : lnA G (c 137) v0) : MC l yL_notes wsL_notes rm_L_notes [.ref (ad 0), .int (zI (t : Int)), .ref (ad 137)] D G ad N c (qI D G (fx ad N) (fun r c1 => r = zI 0 ∧ lnA G (c1 137) (zI (nn t : Int)).toInt64 ∧ DK G ad c1 lim no dn gn gg dg nn pt ln wi ∧ ∀ q, (120 ≤ q ∧ q < 139 ∧ q ≠ 137) → c1 q = c q)) 1 6 := by
  refine MCiH.of (cc := cL_notes) (maxL := 4) (by decide) rfl (Nat.le_of_ble_eq_true rfl) ?_
  intro p e s m args below meth kc A Q hx hb hts hown hml htab fin H locs w ls hl
  have hown : s.vm.findClass RL = some m.cls := hown
  have hl : lv_has ls 4 [(0, .ref (ad 0)), (1, .int (zI (t : Int))), (2, .ref (ad 137))] := hl
  refine lv_aload_n hx hb dL_notes_0 rfl (lv_at hl 2 rfl) ?_
  refine lv_iconst (v := zI (0)) hx hb dL_notes_1 rfl ?_
  refine lv_aload_n hx hb dL_notes_2 rfl (lv_at hl 0 rfl) ?_
  refine lv_iload_n hx hb dL_notes_3 rfl (lv_at hl 1 rfl) ?_
  refine pw_ci w (pw_runV (r := 0) (ci := 7) (As := [.int (zI (t : Int))]) (rest := [.int (zI 0), .ref (ad 137)]) w ⟨hx, hb, hml, hown, hts⟩ (c_X7_notes l D G ad N c hN hD hV (t := t) ht) (cwV 1 hts gL_notes_X7_notes rfl rfl rfl (by decide +kernel) ⟨Nat.le_of_ble_eq_true rfl, Nat.le_of_ble_eq_true rfl⟩) (by omega) hD.1 rfl rfl hl.1 rfl (lv_room (Nat.le_of_ble_eq_true rfl)) dL_notes_4 ⟨Nat.le_of_ble_eq_true rfl, Nat.le_of_ble_eq_true rfl⟩) (fun r_ c1 H locs hp w => ?_)
  have w : PW D G A s ad N c1 H locs := w
  obtain ⟨hv, hD1, fr1⟩ := hp
  subst hv
  refine lv_i2l hx hb dL_notes_7 rfl ?_
  refine pw_last (r := 137) hx hb w (by omega) (lnA.fr (fr1 137 (by omega)) hO) dL_notes_8 (fun H locs c2 hc2 fr2 w => ?_)
  refine lv_goto (tgt := 15) hx hb dL_notes_9 (by decide) ?_
  refine lv_iconst (v := zI (0)) hx hb dL_notes_15 rfl ?_
  exact fin (ad, N, c2) c2 _ _ _ _ _ _ _ rfl ⟨rfl, hc2, hD1.fr (fun q hq => fr2 q (by omega)), fun q hq => (fr2 q (by omega)).trans (fr1 q (by omega))⟩ w dL_notes_16 (Nat.le_of_ble_eq_true rfl) (Nat.le_of_ble_eq_true rfl)

theorem wd_L_notes_k13 : Cond.classLink RL 13 "java/lang/IllegalArgumentException" ∈ wsL_notes := by decide +kernel
set_option maxHeartbeats 1000000 in
set_option maxRecDepth 100000 in
theorem x_L_notes (l : Launch) (hsT : l.stackTraces = false) (D : va_G) (G : Nat → ClassId) (ad : Nat → Nat) (N : Nat) (c : Nat → va_E) {lim : Int} {no dn : Nat} {gn : Nat → Nat} {gg : Nat → Nat → Nat} {dg nn : Nat → Nat} {pt ln : Nat → Nat → Nat} {wi : Nat → Nat → Int} (hN : 139 + 2 * no ≤ N) (hD : DK G ad c lim no dn gn gg dg nn pt ln wi) (hV : SV lim no dn gn gg dg nn pt ln wi) {zt : Int} (hbzt : bnd zt) (hbad : ¬ (0 ≤ zt ∧ zt ≤ 3))  : MC l yL_notes wsL_notes rm_L_notes [.ref (ad 0), .int (zI zt), .ref (ad 137)] D G ad N c (qI D G (fx ad N) (fun r c1 => r = zI 1 ∧ DK G ad c1 lim no dn gn gg dg nn pt ln wi ∧ ∀ q, (120 ≤ q ∧ q < 139) → c1 q = c q)) 1 6 := by
  refine MCiH.of (cc := cL_notes) (maxL := 4) (by decide) rfl (Nat.le_of_ble_eq_true rfl) ?_
  intro p e s m args below meth kc A Q hx hb hts hown hml htab fin H locs w ls hl
  have hown : s.vm.findClass RL = some m.cls := hown
  have hl : lv_has ls 4 [(0, .ref (ad 0)), (1, .int (zI zt)), (2, .ref (ad 137))] := hl
  refine lv_aload_n hx hb dL_notes_0 rfl (lv_at hl 2 rfl) ?_
  refine lv_iconst (v := zI (0)) hx hb dL_notes_1 rfl ?_
  refine lv_aload_n hx hb dL_notes_2 rfl (lv_at hl 0 rfl) ?_
  refine lv_iload_n hx hb dL_notes_3 rfl (lv_at hl 1 rfl) ?_
  refine pw_cx (E0 := xIA) w (pw_runVX (r := 0) (ci := 7) (As := [.int (zI zt)]) (rest := [.int (zI 0), .ref (ad 137)]) w ⟨hx, hb, hml, hown, hts⟩ (x_X7_notes l hsT D G ad N c hN hD hV (zt := zt) hbzt hbad) (cwV 1 hts gL_notes_X7_notes rfl rfl rfl (by decide +kernel) ⟨Nat.le_of_ble_eq_true rfl, Nat.le_of_ble_eq_true rfl⟩) (by omega) hD.1 rfl rfl hl.1 rfl (lv_room (Nat.le_of_ble_eq_true rfl)) dL_notes_4 ⟨Nat.le_of_ble_eq_true rfl, Nat.le_of_ble_eq_true rfl⟩) (fun c1 ce q9 H locs hp w hce hcv hcl => ?_)
  have w : PW D G A s ad N c1 H locs := w
  obtain ⟨hD1, fr1⟩ := hp
  refine pw_catch w hown [] ⟨0, 9, 12, 13⟩ [] htab (fun _ h => absurd h List.not_mem_nil) (by decide) (by decide) (hts _ wd_L_notes_k13) (by decide) hce hcv hcl ?_
  refine lv_astore_n (lv' := [(3, .ref q9), (0, .ref (ad 0)), (1, .int (zI zt)), (2, .ref (ad 137))]) hx hb dL_notes_12 rfl hl (by decide) rfl (fun ls hl => ?_)
  refine lv_iconst (v := zI (1)) hx hb dL_notes_13 rfl ?_
  exact fin (ad, N, c1) c1 _ _ _ _ _ _ _ rfl ⟨rfl, hD1, fr1⟩ w dL_notes_14 (Nat.le_of_ble_eq_true rfl) (Nat.le_of_ble_eq_true rfl)
