theorem hin_X1_init_1 : ∀ w ∈ u_ws RX1 TX1 1, w ∈ wsX1_init := by decide +kernel
theorem fl_X1_init_9 : Cond.fieldLink RX1 9 "PipersDesk$Leasts" "costs" "[I" ∈ wsX1_init := by decide +kernel
abbrev rm_X1_init : Room := { frames := 1, cells := 1, slots := 9, locals := 30 }
set_option maxHeartbeats 400000 in
set_option maxRecDepth 100000 in
/-- Leasts() -/
theorem c_X1_init (l : Launch) (D : va_G) (G : Nat → ClassId) (ad : Nat → Nat) (N : Nat) (c : Nat → va_E) {o : Nat} (hoN : N = o + 1) (ho : c o = .inr (1, [.null])) : MC l yX1_init wsX1_init rm_X1_init [.ref (ad o)] D G ad N c (qV D G (fun u : (Nat → Nat) × (Nat → va_E) => (u.1, N + 1, u.2)) (fun u => (∀ r, r < N → u.1 r = ad r) ∧ u.2 o = .inr (1, [.ref (u.1 (o + 1))]) ∧ isA 0 G (u.2 (o + 1)) 9 (fun _ => 0) ∧ ∀ q, q < N → q ≠ o → u.2 q = c q)) 1 9 := by
  refine MCv.of (cc := cX1_init) (maxL := 1) (by decide) rfl (Nat.le_of_ble_eq_true rfl) ?_
  intro p e s m args below meth kc A Q hx hb hts hown hml hin2 fin H locs w ls hl
  have hown : s.vm.findClass RX1 = some m.cls := hown
  have hl : lv_has ls 1 [(0, .ref (ad o))] := hl
  subst hoN
  refine lv_aload_n hx hb dX1_init_0 rfl (lv_at hl 0 rfl) ?_
  refine W.objInit hx hb hown (hts (.methodLink RX1 3 objectInit) (by decide +kernel)) (hts (.instanceMethod objectInit) (by decide +kernel)) (hts (.code objectInit ⟨#[0xb1]⟩ 1 none) (by decide +kernel)) rfl (by rw [hml]; exact hl.1) rfl dX1_init_1 (Nat.le_of_ble_eq_true rfl) (Nat.le_of_ble_eq_true rfl) ?_
  refine W.eq (g2 := F0 m 4 ls []) rfl ?_
  refine lv_aload_n hx hb dX1_init_4 rfl (lv_at hl 0 rfl) ?_
  refine lv_bipush (v := zI (9)) hx hb dX1_init_5 (by decide +kernel) ?_
  refine pw_newi 0 (atype := .int) (ty := .int) hx hb w rfl (hts (.arrayClass .int) (by decide +kernel)) (Or.inl ⟨rfl, rfl⟩) (z := 9) (n := 9) rfl (by decide) (Nat.le_of_ble_eq_true rfl) (Nat.le_of_ble_eq_true rfl) dX1_init_7 (fun H ad1 c1 ha1 hc1 fr1 w => ?_)
  rw [← ha1 o (by omega)]
  rw [← ha1 o (by omega)] at hl
  have k2 : c1 o = .inr (1, [.null]) := by
    rw [fr1 o (by omega)]
    exact ho
  refine pw_putF' (r := o) (ci := 1) (C := RX1) (T := TX1) (Nf := 1) hx hb w hts hin_X1_init_1 tyX1 tyX1_ok nmX1 hown (by omega) k2 rfl 0 (by decide) (hts _ fl_X1_init_9) (fun _ h9 => h9) rfl hin2 rfl (ty := tyX1 0) (by decide +kernel) rfl rfl (Nat.le_of_ble_eq_true rfl) dX1_init_9 (fun H locs c3 hc3 fr3 w => ?_)
  exact fin (ad1, _, c3) (ad1, c3) _ _ _ _ _ _ rfl ⟨fun r hr => ha1 r (by omega), hc3, (isA.fr (fr3 (o + 1) (by omega)) hc1), fun q hq hqo => (fr3 q (by omega)).trans (fr1 q (by omega))⟩ w dX1_init_12 (Nat.le_of_ble_eq_true rfl) (Nat.le_of_ble_eq_true rfl)

theorem hin_X2_init_2 : ∀ w ∈ u_ws RX2 TX2 1, w ∈ wsX2_init := by decide +kernel
theorem fl_X2_init_9 : Cond.fieldLink RX2 9 "PipersDesk$Ornament" "graces" "[I" ∈ wsX2_init := by decide +kernel
abbrev rm_X2_init : Room := { frames := 1, cells := 0, slots := 0, locals := 30 }
set_option maxHeartbeats 400000 in
set_option maxRecDepth 100000 in
/-- Ornament() -/
theorem c_X2_init (l : Launch) (D : va_G) (G : Nat → ClassId) (ad : Nat → Nat) (N : Nat) (c : Nat → va_E) {o g9 : Nat} (hoN : o < N) (hgN : g9 < N) {gz : Nat → Int} {nz : Nat} (hg : isA 0 G (c g9) nz gz) (ho : c o = .inr (2, [.null])) : MC l yX2_init wsX2_init rm_X2_init [.ref (ad o), .ref (ad g9)] D G ad N c (qV D G (fx ad N) (fun c1 => c1 o = .inr (2, [.ref (ad g9)]) ∧ ∀ q, q ≠ o → c1 q = c q)) 0 0 := by
  refine MCv.of (cc := cX2_init) (maxL := 2) (by decide) rfl (Nat.le_of_ble_eq_true rfl) ?_
  intro p e s m args below meth kc A Q hx hb hts hown hml hin2 fin H locs w ls hl
  have hown : s.vm.findClass RX2 = some m.cls := hown
  have hl : lv_has ls 2 [(0, .ref (ad o)), (1, .ref (ad g9))] := hl
  refine lv_aload_n hx hb dX2_init_0 rfl (lv_at hl 0 rfl) ?_
  refine W.objInit hx hb hown (hts (.methodLink RX2 3 objectInit) (by decide +kernel)) (hts (.instanceMethod objectInit) (by decide +kernel)) (hts (.code objectInit ⟨#[0xb1]⟩ 1 none) (by decide +kernel)) rfl (by rw [hml]; exact hl.1) rfl dX2_init_1 (Nat.le_of_ble_eq_true rfl) (Nat.le_of_ble_eq_true rfl) ?_
  refine W.eq (g2 := F0 m 4 ls []) rfl ?_
  refine lv_aload_n hx hb dX2_init_4 rfl (lv_at hl 0 rfl) ?_
  refine lv_aload_n hx hb dX2_init_5 rfl (lv_at hl 1 rfl) ?_
  refine pw_putF' (r := o) (ci := 2) (C := RX2) (T := TX2) (Nf := 1) hx hb w hts hin_X2_init_2 tyX2 tyX2_ok nmX2 hown (by omega) ho rfl 0 (by decide) (hts _ fl_X2_init_9) (fun _ h9 => h9) rfl hin2 rfl (ty := tyX2 0) (by decide +kernel) rfl rfl (Nat.le_of_ble_eq_true rfl) dX2_init_6 (fun H locs c1 hc1 fr1 w => ?_)
  exact fin (ad, N, c1) c1 _ _ _ _ _ _ rfl ⟨hc1, fr1⟩ w dX2_init_9 (Nat.le_refl _) (Nat.le_refl _)

theorem hin_X3_init_3 : ∀ w ∈ u_ws RX3 TX3 4, w ∈ wsX3_init := by decide +kernel
theorem fl_X3_init_11 : Cond.fieldLink RX3 11 "PipersDesk$OrnamentBook" "entries" "[LPipersDesk$Ornament;" ∈ wsX3_init := by decide +kernel
theorem fl_X3_init_17 : Cond.fieldLink RX3 17 "PipersDesk$OrnamentBook" "draft" "[I" ∈ wsX3_init := by decide +kernel
abbrev rm_X3_init : Room := { frames := 1, cells := 2, slots := 12, locals := 30 }
set_option maxHeartbeats 400000 in
set_option maxRecDepth 100000 in
/-- OrnamentBook() -/
theorem c_X3_init (l : Launch) (D : va_G) (G : Nat → ClassId) (ad : Nat → Nat) (N : Nat) (c : Nat → va_E) {gn : Nat → Nat} {gg : Nat → Nat → Nat} (hN : N = 13) (ho : c 12 = .inr (3, [.null, .null, .int (zI 0), .int (zI 0)])) : MC l yX3_init wsX3_init rm_X3_init [.ref (ad 12)] D G ad N c (qV D G (fun u : (Nat → Nat) × (Nat → va_E) => (u.1, N + 1 + 1, u.2)) (fun u => (∀ r, r < N → u.1 r = ad r) ∧ Book G u.1 u.2 0 0 gn gg (fun _ => 0) ∧ ∀ q, q < N → q ≠ 12 → u.2 q = c q)) 2 12 := by
  refine MCv.of (cc := cX3_init) (maxL := 1) (by decide) rfl (Nat.le_of_ble_eq_true rfl) ?_
  intro p e s m args below meth kc A Q hx hb hts hown hml hin2 fin H locs w ls hl
  have hown : s.vm.findClass RX3 = some m.cls := hown
  have hl : lv_has ls 1 [(0, .ref (ad 12))] := hl
  subst hN
  refine lv_aload_n hx hb dX3_init_0 rfl (lv_at hl 0 rfl) ?_
  refine W.objInit hx hb hown (hts (.methodLink RX3 3 objectInit) (by decide +kernel)) (hts (.instanceMethod objectInit) (by decide +kernel)) (hts (.code objectInit ⟨#[0xb1]⟩ 1 none) (by decide +kernel)) rfl (by rw [hml]; exact hl.1) rfl dX3_init_1 (Nat.le_of_ble_eq_true rfl) (Nat.le_of_ble_eq_true rfl) ?_
  refine W.eq (g2 := F0 m 4 ls []) rfl ?_
  refine lv_aload_n hx hb dX3_init_4 rfl (lv_at hl 0 rfl) ?_
  refine lv_bipush (v := zI (8)) hx hb dX3_init_5 (by decide +kernel) ?_
  refine pw_newq 4 hx hb w hown (hts (.classLink RX3 9 RX2) (by decide +kernel)) w.2.2.2.2.2.2.2.2.2.2.2.2.1 rfl (z := 8) (n := 8) rfl (by decide) (Nat.le_of_ble_eq_true rfl) (Nat.le_of_ble_eq_true rfl) dX3_init_7 (fun H ad1 c1 ha1 hc1 fr1 w => ?_)
  rw [← ha1 12 (by omega)]
  rw [← ha1 12 (by omega)] at hl
  have k2 : c1 12 = .inr (3, [.null, .null, .int (zI 0), .int (zI 0)]) := by
    rw [fr1 12 (by omega)]
    exact ho
  refine pw_putF' (r := 12) (ci := 3) (C := RX3) (T := TX3) (Nf := 4) hx hb w hts hin_X3_init_3 tyX3 tyX3_ok nmX3 hown (by omega) k2 rfl 0 (by decide) (hts _ fl_X3_init_11) (fun _ h9 => h9) rfl hin2 rfl (ty := tyX3 0) (by decide +kernel) rfl rfl (Nat.le_of_ble_eq_true rfl) dX3_init_10 (fun H locs c3 hc3 fr3 w => ?_)
  have hq : c3 13 = rfs 4 G 8 (fun _ => none) := (fr3 13 (by omega)).trans hc1
  refine lv_aload_n hx hb dX3_init_13 rfl (lv_at hl 0 rfl) ?_
  refine lv_iconst (v := zI (4)) hx hb dX3_init_14 rfl ?_
  refine pw_newi 0 (atype := .int) (ty := .int) hx hb w rfl (hts (.arrayClass .int) (by decide +kernel)) (Or.inl ⟨rfl, rfl⟩) (z := 4) (n := 4) rfl (by decide) (Nat.le_of_ble_eq_true rfl) (Nat.le_of_ble_eq_true rfl) dX3_init_15 (fun H ad4 c4 ha4 hc4 fr4 w => ?_)
  rw [← ha4 12 (by omega)]
  rw [← ha4 12 (by omega)] at hl
  have k5 : c4 12 = .inr (3, [.ref (ad4 13), .null, .int (zI 0), .int (zI 0)]) := by
    rw [fr4 12 (by omega), ha4 13 (by omega)]
    exact hc3
  refine pw_putF' (r := 12) (ci := 3) (C := RX3) (T := TX3) (Nf := 4) hx hb w hts hin_X3_init_3 tyX3 tyX3_ok nmX3 hown (by omega) k5 rfl 1 (by decide) (hts _ fl_X3_init_17) (fun _ h9 => h9) rfl hin2 rfl (ty := tyX3 1) (by decide +kernel) rfl rfl (Nat.le_of_ble_eq_true rfl) dX3_init_17 (fun H locs c6 hc6 fr6 w => ?_)
  have hA : ∀ r, r < 13 → ad4 r = ad r := fun r hr => (ha4 r (by omega)).trans (ha1 r (by omega))
  exact fin (ad4, _, c6) (ad4, c6) _ _ _ _ _ _ rfl ⟨hA, ⟨hc6, ⟨_, ((fr6 13 (by omega)).trans (fr4 13 (by omega))).trans hq, fun _ _ => rfl⟩, ((isA.fr (fr6 14 (by omega)) hc4)).to (fun _ _ => rfl), fun k hk => absurd hk (Nat.not_lt_zero k)⟩, fun q hq hqo => (fr6 q (by omega)).trans ((fr4 q (by omega)).trans ((fr3 q (by omega)).trans (fr1 q (by omega))))⟩ w dX3_init_20 (Nat.le_of_ble_eq_true rfl) (Nat.le_of_ble_eq_true rfl)

theorem hin_X0_init_0 : ∀ w ∈ u_ws RX0 TX0 1, w ∈ wsX0_init := by decide +kernel
theorem fl_X0_init_11 : Cond.fieldLink RX0 11 "PipersDesk$Fingers" "stepCosts" "[[I" ∈ wsX0_init := by decide +kernel
abbrev rm_X0_init : Room := { frames := 3, cells := 10, slots := 90, locals := 90 }
set_option maxHeartbeats 400000 in
set_option maxRecDepth 100000 in
/-- Fingers() -/
theorem c_X0_init (l : Launch) (D : va_G) (G : Nat → ClassId) (ad : Nat → Nat) (N : Nat) (c : Nat → va_E) (hN : N = 2) (ho : c 1 = .inr (0, [.null])) : MC l yX0_init wsX0_init rm_X0_init [.ref (ad 1)] D G ad N c (qV D G (fun u : (Nat → Nat) × (Nat → va_E) => (u.1, N + 1 + 9, u.2)) (fun u => (∀ r, r < N → u.1 r = ad r) ∧ Fing G u.1 u.2 3 ∧ ∀ q, q < N → q ≠ 1 → u.2 q = c q)) 10 90 := by
  refine MCv.of (cc := cX0_init) (maxL := 1) (by decide) rfl (Nat.le_of_ble_eq_true rfl) ?_
  intro p e s m args below meth kc A Q hx hb hts hown hml hin2 fin H locs w ls hl
  have hown : s.vm.findClass RX0 = some m.cls := hown
  have hl : lv_has ls 1 [(0, .ref (ad 1))] := hl
  subst hN
  refine lv_aload_n hx hb dX0_init_0 rfl (lv_at hl 0 rfl) ?_
  refine W.objInit hx hb hown (hts (.methodLink RX0 3 objectInit) (by decide +kernel)) (hts (.instanceMethod objectInit) (by decide +kernel)) (hts (.code objectInit ⟨#[0xb1]⟩ 1 none) (by decide +kernel)) rfl (by rw [hml]; exact hl.1) rfl dX0_init_1 (Nat.le_of_ble_eq_true rfl) (Nat.le_of_ble_eq_true rfl) ?_
  refine W.eq (g2 := F0 m 4 ls []) rfl ?_
  refine lv_aload_n hx hb dX0_init_4 rfl (lv_at hl 0 rfl) ?_
  refine lv_bipush (v := zI (9)) hx hb dX0_init_5 (by decide +kernel) ?_
  refine lv_bipush (v := zI (9)) hx hb dX0_init_7 (by decide +kernel) ?_
  refine pw_mna hx hb w hown (hts (.classLink RX0 9 "[[I") (by decide +kernel)) (hts (.arrayClass .int) (by decide +kernel)) (z := 9) (y := 9) (n := 9) (r := 9) rfl rfl (by decide) (by decide) (Nat.le_of_ble_eq_true rfl) (Nat.le_of_ble_eq_true rfl) dX0_init_9 (fun H ad1 c1 ha1 hq1 hr1 fr1 w => ?_)
  obtain ⟨fo1, ho1, hof1⟩ := hq1
  rw [← ha1 1 (by omega)]
  rw [← ha1 1 (by omega)] at hl
  have k2 : c1 1 = .inr (0, [.null]) := by
    rw [fr1 1 (by omega)]
    exact ho
  refine pw_putF' (r := 1) (ci := 0) (C := RX0) (T := TX0) (Nf := 1) hx hb w hts hin_X0_init_0 tyX0 tyX0_ok nmX0 hown (by omega) k2 rfl 0 (by decide) (hts _ fl_X0_init_11) (fun _ h9 => h9) rfl hin2 rfl (ty := tyX0 0) (by decide +kernel) rfl rfl (Nat.le_of_ble_eq_true rfl) dX0_init_13 (fun H locs c3 hc3 fr3 w => ?_)
  have hr2 : ∀ i, i < 9 → isA 0 G (c3 (3 + i)) 9 (fun _ => 0) := fun i hi => isA.fr (fr3 (3 + i) (by omega)) (by have := hr1 i hi; rw [show 2 + 1 + i = 3 + i from by omega] at this; exact this)
  have ho2 : c3 2 = rfs 2 G 9 fo1 := (fr3 2 (by omega)).trans ho1
  have hof : ∀ i, i < 9 → fo1 i = some (ad1 (3 + i)) := fun i hi => by have := hof1 i hi; rw [show 2 + 1 + i = 3 + i from by omega] at this; exact this
  refine lv_aload_n hx hb dX0_init_16 rfl (lv_at hl 0 rfl) ?_
  refine lv_iconst (v := zI (3)) hx hb dX0_init_17 rfl ?_
  refine pw_ci w (pw_runV (r := 1) (ci := 0) (As := [.int (zI 3)]) (rest := []) w ⟨hx, hb, hml, hown, hts⟩ (c_X0_limitTo l D G ad1 _ c3 (lim := 3) (by omega) ⟨by decide, by decide⟩ hc3 ho2 hof (fun i hi => ⟨_, hr2 i hi⟩)) (cwV 1 hts gX0_init_X0_limitTo rfl rfl rfl (by decide +kernel) ⟨Nat.le_of_ble_eq_true rfl, Nat.le_of_ble_eq_true rfl⟩) (by omega) hc3 rfl rfl hl.1 rfl (lv_room (Nat.le_of_ble_eq_true rfl)) dX0_init_18 ⟨Nat.le_of_ble_eq_true rfl, Nat.le_of_ble_eq_true rfl⟩) (fun r_ c4 H locs hp w => ?_)
  obtain ⟨-, hst, fr4⟩ := hp
  refine lv_pop hx hb dX0_init_21 rfl ?_
  exact fin (ad1, _, c4) (ad1, c4) _ _ _ _ _ _ rfl ⟨fun r hr => ha1 r (by omega), ⟨(fr4 1 (by omega)).trans hc3, ⟨_, (fr4 2 (by omega)).trans ho2, hof⟩, hst⟩, fun q hq hqo => (fr4 q (by omega)).trans ((fr3 q (by omega)).trans (fr1 q (by omega)))⟩ w dX0_init_22 (Nat.le_of_ble_eq_true rfl) (Nat.le_of_ble_eq_true rfl)

theorem hin_X5_init_5 : ∀ w ∈ u_ws RX5 TX5 5, w ∈ wsX5_init := by decide +kernel
theorem fl_X5_init_9 : Cond.fieldLink RX5 9 "PipersDesk$Tune" "pitches" "[I" ∈ wsX5_init := by decide +kernel
theorem fl_X5_init_15 : Cond.fieldLink RX5 15 "PipersDesk$Tune" "lengths" "[I" ∈ wsX5_init := by decide +kernel
theorem fl_X5_init_18 : Cond.fieldLink RX5 18 "PipersDesk$Tune" "wishes" "[Z" ∈ wsX5_init := by decide +kernel
theorem fl_X5_init_24 : Cond.fieldLink RX5 24 "PipersDesk$Tune" "gapCosts" "[[I" ∈ wsX5_init := by decide +kernel
abbrev rm_X5_init : Room := { frames := 1, cells := 13, slots := 119, locals := 30 }
set_option maxHeartbeats 400000 in
set_option maxRecDepth 100000 in
/-- Tune() -/
theorem c_X5_init (l : Launch) (D : va_G) (G : Nat → ClassId) (ad : Nat → Nat) (N : Nat) (c : Nat → va_E) {T : Nat} {pt ln : Nat → Nat} {wi : Nat → Int} (hN : N = T + 1) (ho : c T = .inr (5, [.null, .null, .null, .null, .int (zI 0)])) : MC l yX5_init wsX5_init rm_X5_init [.ref (ad T)] D G ad N c (qV D G (fun u : (Nat → Nat) × (Nat → va_E) => (u.1, N + 1 + 1 + 1 + 1 + 9, u.2)) (fun u => (∀ r, r < N → u.1 r = ad r) ∧ TuneO G u.1 u.2 T 0 pt ln wi ∧ TuneR G u.2 T ∧ ∀ q, q < N → q ≠ T → u.2 q = c q)) 13 119 := by
  refine MCv.of (cc := cX5_init) (maxL := 1) (by decide) rfl (Nat.le_of_ble_eq_true rfl) ?_
  intro p e s m args below meth kc A Q hx hb hts hown hml hin2 fin H locs w ls hl
  have hown : s.vm.findClass RX5 = some m.cls := hown
  have hl : lv_has ls 1 [(0, .ref (ad T))] := hl
  subst hN
  refine lv_aload_n hx hb dX5_init_0 rfl (lv_at hl 0 rfl) ?_
  refine W.objInit hx hb hown (hts (.methodLink RX5 3 objectInit) (by decide +kernel)) (hts (.instanceMethod objectInit) (by decide +kernel)) (hts (.code objectInit ⟨#[0xb1]⟩ 1 none) (by decide +kernel)) rfl (by rw [hml]; exact hl.1) rfl dX5_init_1 (Nat.le_of_ble_eq_true rfl) (Nat.le_of_ble_eq_true rfl) ?_
  refine W.eq (g2 := F0 m 4 ls []) rfl ?_
  refine lv_aload_n hx hb dX5_init_4 rfl (lv_at hl 0 rfl) ?_
  refine lv_bipush (v := zI (10)) hx hb dX5_init_5 (by decide +kernel) ?_
  refine pw_newi 0 (atype := .int) (ty := .int) hx hb w rfl (hts (.arrayClass .int) (by decide +kernel)) (Or.inl ⟨rfl, rfl⟩) (z := 10) (n := 10) rfl (by decide) (Nat.le_of_ble_eq_true rfl) (Nat.le_of_ble_eq_true rfl) dX5_init_7 (fun H ad1 c1 ha1 hc1 fr1 w => ?_)
  rw [← ha1 T (by omega)]
  rw [← ha1 T (by omega)] at hl
  have k2 : c1 T = .inr (5, [.null, .null, .null, .null, .int (zI 0)]) := by
    rw [fr1 T (by omega)]
    exact ho
  refine pw_putF' (r := T) (ci := 5) (C := RX5) (T := TX5) (Nf := 5) hx hb w hts hin_X5_init_5 tyX5 tyX5_ok nmX5 hown (by omega) k2 rfl 0 (by decide) (hts _ fl_X5_init_9) (fun _ h9 => h9) rfl hin2 rfl (ty := tyX5 0) (by decide +kernel) rfl rfl (Nat.le_of_ble_eq_true rfl) dX5_init_9 (fun H locs c3 hc3 fr3 w => ?_)
  refine lv_aload_n hx hb dX5_init_12 rfl (lv_at hl 0 rfl) ?_
  refine lv_bipush (v := zI (10)) hx hb dX5_init_13 (by decide +kernel) ?_
  refine pw_newi 0 (atype := .int) (ty := .int) hx hb w rfl (hts (.arrayClass .int) (by decide +kernel)) (Or.inl ⟨rfl, rfl⟩) (z := 10) (n := 10) rfl (by decide) (Nat.le_of_ble_eq_true rfl) (Nat.le_of_ble_eq_true rfl) dX5_init_15 (fun H ad4 c4 ha4 hc4 fr4 w => ?_)
  rw [← ha4 T (by omega)]
  rw [← ha4 T (by omega)] at hl
  have k5 : c4 T = .inr (5, [.ref (ad4 (T + 1)), .null, .null, .null, .int (zI 0)]) := by
    rw [fr4 T (by omega), ha4 (T + 1) (by omega)]
    exact hc3
  refine pw_putF' (r := T) (ci := 5) (C := RX5) (T := TX5) (Nf := 5) hx hb w hts hin_X5_init_5 tyX5 tyX5_ok nmX5 hown (by omega) k5 rfl 1 (by decide) (hts _ fl_X5_init_15) (fun _ h9 => h9) rfl hin2 rfl (ty := tyX5 1) (by decide +kernel) rfl rfl (Nat.le_of_ble_eq_true rfl) dX5_init_17 (fun H locs c6 hc6 fr6 w => ?_)
  refine lv_aload_n hx hb dX5_init_20 rfl (lv_at hl 0 rfl) ?_
  refine lv_bipush (v := zI (9)) hx hb dX5_init_21 (by decide +kernel) ?_
  refine pw_newi 1 (atype := .boolean) (ty := .boolean) hx hb w rfl (hts (.arrayClass .boolean) (by decide +kernel)) (Or.inr ⟨rfl, rfl⟩) (z := 9) (n := 9) rfl (by decide) (Nat.le_of_ble_eq_true rfl) (Nat.le_of_ble_eq_true rfl) dX5_init_23 (fun H ad7 c7 ha7 hc7 fr7 w => ?_)
  rw [← ha7 T (by omega)]
  rw [← ha7 T (by omega)] at hl
  have k8 : c7 T = .inr (5, [.ref (ad7 (T + 1)), .ref (ad7 (T + 2)), .null, .null, .int (zI 0)]) := by
    rw [fr7 T (by omega), ha7 (T + 1) (by omega), ha7 (T + 2) (by omega)]
    exact hc6
  refine pw_putF' (r := T) (ci := 5) (C := RX5) (T := TX5) (Nf := 5) hx hb w hts hin_X5_init_5 tyX5 tyX5_ok nmX5 hown (by omega) k8 rfl 2 (by decide) (hts _ fl_X5_init_18) (fun _ h9 => h9) rfl hin2 rfl (ty := tyX5 2) (by decide +kernel) rfl rfl (Nat.le_of_ble_eq_true rfl) dX5_init_25 (fun H locs c9 hc9 fr9 w => ?_)
  refine lv_aload_n hx hb dX5_init_28 rfl (lv_at hl 0 rfl) ?_
  refine lv_bipush (v := zI (9)) hx hb dX5_init_29 (by decide +kernel) ?_
  refine lv_bipush (v := zI (9)) hx hb dX5_init_31 (by decide +kernel) ?_
  refine pw_mna hx hb w hown (hts (.classLink RX5 22 "[[I") (by decide +kernel)) (hts (.arrayClass .int) (by decide +kernel)) (z := 9) (y := 9) (n := 9) (r := 9) rfl rfl (by decide) (by decide) (Nat.le_of_ble_eq_true rfl) (Nat.le_of_ble_eq_true rfl) dX5_init_33 (fun H ad10 c10 ha10 hq10 hr10 fr10 w => ?_)
  obtain ⟨fo10, ho10, hof10⟩ := hq10
  rw [← ha10 T (by omega)]
  rw [← ha10 T (by omega)] at hl
  have k11 : c10 T = .inr (5, [.ref (ad10 (T + 1)), .ref (ad10 (T + 2)), .ref (ad10 (T + 3)), .null, .int (zI 0)]) := by
    rw [fr10 T (by omega), ha10 (T + 1) (by omega), ha10 (T + 2) (by omega), ha10 (T + 3) (by omega)]
    exact hc9
  refine pw_putF' (r := T) (ci := 5) (C := RX5) (T := TX5) (Nf := 5) hx hb w hts hin_X5_init_5 tyX5 tyX5_ok nmX5 hown (by omega) k11 rfl 3 (by decide) (hts _ fl_X5_init_24) (fun _ h9 => h9) rfl hin2 rfl (ty := tyX5 3) (by decide +kernel) rfl rfl (Nat.le_of_ble_eq_true rfl) dX5_init_37 (fun H locs c12 hc12 fr12 w => ?_)
  have hof9 : ∀ i, i < 9 → fo10 i = some (ad10 (T + 5 + i)) := fun i hi => by have := hof10 i hi; rw [show T + 1 + 1 + 1 + 1 + 1 + i = T + 5 + i from by omega] at this; exact this
  have hr9 : ∀ i, i < 9 → isA 0 G (c10 (T + 5 + i)) 9 (fun _ => 0) := fun i hi => by have := hr10 i hi; rw [show T + 1 + 1 + 1 + 1 + 1 + i = T + 5 + i from by omega] at this; exact this
  exact fin (ad10, _, c12) (ad10, c12) _ _ _ _ _ _ rfl ⟨fun r hr => ((ha10 r (by omega)).trans ((ha7 r (by omega)).trans ((ha4 r (by omega)).trans ((ha1 r (by omega)).trans rfl)))), ⟨hc12, ⟨_, (isA.fr (fr12 (T + 1) (by omega)) (isA.fr (fr10 (T + 1) (by omega)) (isA.fr (fr9 (T + 1) (by omega)) (isA.fr (fr7 (T + 1) (by omega)) (isA.fr (fr6 (T + 1) (by omega)) (isA.fr (fr4 (T + 1) (by omega)) (isA.fr (fr3 (T + 1) (by omega)) hc1))))))), fun i hi => absurd hi (Nat.not_lt_zero i)⟩, ⟨_, (isA.fr (fr12 (T + 2) (by omega)) (isA.fr (fr10 (T + 2) (by omega)) (isA.fr (fr9 (T + 2) (by omega)) (isA.fr (fr7 (T + 2) (by omega)) (isA.fr (fr6 (T + 2) (by omega)) hc4))))), fun i hi => absurd hi (Nat.not_lt_zero i)⟩, ⟨_, (isA.fr (fr12 (T + 3) (by omega)) (isA.fr (fr10 (T + 3) (by omega)) (isA.fr (fr9 (T + 3) (by omega)) hc7))), fun i hi => absurd hi (Nat.not_lt_zero (i + 1))⟩, _, (fr12 (T + 4) (by omega)).trans ho10, hof9⟩, fun i hi => ⟨_, isA.fr (fr12 (T + 5 + i) (by omega)) (hr9 i hi)⟩, fun q hq hqo => ((fr12 q (by omega)).trans ((fr10 q (by omega)).trans ((fr9 q (by omega)).trans ((fr7 q (by omega)).trans ((fr6 q (by omega)).trans ((fr4 q (by omega)).trans ((fr3 q (by omega)).trans ((fr1 q (by omega)).trans rfl))))))))⟩ w dX5_init_40 (Nat.le_of_ble_eq_true rfl) (Nat.le_of_ble_eq_true rfl)
