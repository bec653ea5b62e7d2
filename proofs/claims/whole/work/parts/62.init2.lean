theorem hin_X4_init_4 : ∀ w ∈ u_ws RX4 TX4 6, w ∈ wsX4_init := by decide +kernel
theorem fl_X4_init_11 : Cond.fieldLink RX4 11 "PipersDesk$SetSearch" "joinCosts" "[[I" ∈ wsX4_init := by decide +kernel
theorem hinn_X4_init_1 : ∀ w ∈ u_ws RX1 TX1 1, w ∈ wsX4_init := by decide +kernel
theorem fl_X4_init_19 : Cond.fieldLink RX4 19 "PipersDesk$SetSearch" "row" "LPipersDesk$Leasts;" ∈ wsX4_init := by decide +kernel
theorem fl_X4_init_23 : Cond.fieldLink RX4 23 "PipersDesk$SetSearch" "order" "[I" ∈ wsX4_init := by decide +kernel
theorem fl_X4_init_27 : Cond.fieldLink RX4 27 "PipersDesk$SetSearch" "best" "[I" ∈ wsX4_init := by decide +kernel
abbrev rm_X4_init : Room := { frames := 2, cells := 21, slots := 179, locals := 60 }
set_option maxHeartbeats 1000000 in
set_option maxRecDepth 100000 in
/-- SetSearch() -/
theorem c_X4_init (l : Launch) (D : va_G) (G : Nat → ClassId) (ad : Nat → Nat) (N : Nat) (c : Nat → va_E) (hN : N = 99) (ho : c 98 = .inr (4, [.null, .null, .null, .null, .int (zI 0), .int (zI 0)])) : MC l yX4_init wsX4_init rm_X4_init [.ref (ad 98)] D G ad N c (qV D G (fun u : (Nat → Nat) × (Nat → va_E) => (u.1, 120, u.2)) (fun u => (∀ r, r < N → u.1 r = ad r) ∧ SS G u.1 u.2 0 0 (fun _ => 0) (fun _ => 0) ∧ (∀ i, i < 16 → ∃ g, isA 0 G (u.2 (100 + i)) 9 g) ∧ ∀ q, q < N → q ≠ 98 → u.2 q = c q)) 21 179 := by
  refine MCv.of (cc := cX4_init) (maxL := 1) (by decide) rfl (Nat.le_of_ble_eq_true rfl) ?_
  intro p e s m args below meth kc A Q hx hb hts hown hml hin2 fin H locs w ls hl
  have hown : s.vm.findClass RX4 = some m.cls := hown
  have hl : lv_has ls 1 [(0, .ref (ad 98))] := hl
  subst hN
  refine lv_aload_n hx hb dX4_init_0 rfl (lv_at hl 0 rfl) ?_
  refine W.objInit hx hb hown (hts (.methodLink RX4 3 objectInit) (by decide +kernel)) (hts (.instanceMethod objectInit) (by decide +kernel)) (hts (.code objectInit ⟨#[0xb1]⟩ 1 none) (by decide +kernel)) rfl (by rw [hml]; exact hl.1) rfl dX4_init_1 (Nat.le_of_ble_eq_true rfl) (Nat.le_of_ble_eq_true rfl) ?_
  refine W.eq (g2 := F0 m 4 ls []) rfl ?_
  refine lv_aload_n hx hb dX4_init_4 rfl (lv_at hl 0 rfl) ?_
  refine lv_bipush (v := zI (16)) hx hb dX4_init_5 (by decide +kernel) ?_
  refine lv_bipush (v := zI (9)) hx hb dX4_init_7 (by decide +kernel) ?_
  refine pw_mna hx hb w hown (hts (.classLink RX4 9 "[[I") (by decide +kernel)) (hts (.arrayClass .int) (by decide +kernel)) (z := 16) (y := 9) (n := 16) (r := 9) rfl rfl (by decide) (by decide) (Nat.le_of_ble_eq_true rfl) (Nat.le_of_ble_eq_true rfl) dX4_init_9 (fun H ad1 c1 ha1 hq1 hr1 fr1 w => ?_)
  obtain ⟨fo1, ho1, hof1⟩ := hq1
  rw [← ha1 98 (by omega)]
  rw [← ha1 98 (by omega)] at hl
  have k2 : c1 98 = .inr (4, [.null, .null, .null, .null, .int (zI 0), .int (zI 0)]) := by
    rw [fr1 98 (by omega)]
    exact ho
  have hof9 : ∀ i, i < 16 → fo1 i = some (ad1 (100 + i)) := fun i hi => by have := hof1 i hi; rw [show 99 + 1 + i = 100 + i from by omega] at this; exact this
  have hr9 : ∀ i, i < 16 → isA 0 G (c1 (100 + i)) 9 (fun _ => 0) := fun i hi => by have := hr1 i hi; rw [show 99 + 1 + i = 100 + i from by omega] at this; exact this
  refine pw_putF' (r := 98) (ci := 4) (C := RX4) (T := TX4) (Nf := 6) hx hb w hts hin_X4_init_4 tyX4 tyX4_ok nmX4 hown (by omega) k2 rfl 0 (by decide) (hts _ fl_X4_init_11) (fun _ h9 => h9) rfl hin2 rfl (ty := tyX4 0) (by decide +kernel) rfl rfl (Nat.le_of_ble_eq_true rfl) dX4_init_13 (fun H locs c3 hc3 fr3 w => ?_)
  refine lv_aload_n hx hb dX4_init_16 rfl (lv_at hl 0 rfl) ?_
  refine pw_new (ci := 1) (C := RX1) (T := TX1) (Nf := 1) (fs := [.null]) hx hb w hts hinn_X4_init_1 tyX1 tyX1_ok hown (hts (.classLink RX4 16 RX1) (by decide +kernel)) (hts (.instantiable RX1 1) (by decide +kernel)) (hts (.initialized RX1) (by decide +kernel)) rfl (fun j hj => by
    have h : j = 0 := by omega
    subst h
    rfl) (Nat.le_of_ble_eq_true rfl) (Nat.le_of_ble_eq_true rfl) dX4_init_17 (fun H ad4 c4 ha4 hc4 fr4 w => ?_)
  rw [← ha4 98 (by omega)]
  rw [← ha4 98 (by omega)] at hl
  have k5 : c4 98 = .inr (4, [.ref (ad4 99), .null, .null, .null, .int (zI 0), .int (zI 0)]) := by
    rw [fr4 98 (by omega), ha4 99 (by omega)]
    exact hc3
  refine lv_dup hx hb dX4_init_20 rfl ?_
  refine pw_cv w (pw_runI (b := ad4 116) (As := []) (rest := [.ref (ad4 116), .ref (ad4 98)]) w ⟨hx, hb, hml, hown, hts⟩ (c_X1_init l D G ad4 _ c4 (o := 116) rfl hc4) (cwI 0 hts gX4_init_X1_init rfl rfl rfl (hts (.initialized RX1) (by decide +kernel)) (hts (.methodLink RX4 18 yX1_init) (by decide +kernel)) (hts (.instanceMethod yX1_init) (by decide +kernel)) rfl (by decide +kernel) ⟨Nat.le_of_ble_eq_true rfl, Nat.le_of_ble_eq_true rfl⟩) rfl hl.1 rfl (lv_room (Nat.le_of_ble_eq_true rfl)) dX4_init_21 ⟨(Nat.le_of_ble_eq_true rfl), (Nat.le_of_ble_eq_true rfl)⟩) (fun u6 H locs hp6 w => ?_)
  obtain ⟨ad6, c6⟩ := u6
  obtain ⟨ha6, ho6, hc6, fr6⟩ := hp6
  have w : PW D G A s ad6 (118) c6 H locs := w
  have ha6 : ∀ r, r < 117 → ad6 r = ad4 r := ha6 -- ha6 hc
  have fr6 : ∀ q, (q < 117 ∧ q ≠ 116) → c6 q = c4 q := fun q hq => fr6 q hq.1 hq.2 -- fr6 w =>
  rw [← ha6 116 (by omega)]
  rw [← ha6 98 (by omega)]
  rw [← ha6 98 (by omega)] at hl
  have k7 : c6 98 = .inr (4, [.ref (ad6 99), .null, .null, .null, .int (zI 0), .int (zI 0)]) := by
    rw [fr6 98 (by omega), ha6 99 (by omega)]
    exact k5
  refine pw_putF' (r := 98) (ci := 4) (C := RX4) (T := TX4) (Nf := 6) hx hb w hts hin_X4_init_4 tyX4 tyX4_ok nmX4 hown (by omega) k7 rfl 1 (by decide) (hts _ fl_X4_init_19) (fun _ h9 => h9) rfl hin2 rfl (ty := tyX4 1) (by decide +kernel) rfl rfl (Nat.le_of_ble_eq_true rfl) dX4_init_24 (fun H locs c8 hc8 fr8 w => ?_)
  refine lv_aload_n hx hb dX4_init_27 rfl (lv_at hl 0 rfl) ?_
  refine lv_iconst (v := zI (4)) hx hb dX4_init_28 rfl ?_
  refine pw_newi 0 (atype := .int) (ty := .int) hx hb w rfl (hts (.arrayClass .int) (by decide +kernel)) (Or.inl ⟨rfl, rfl⟩) (z := 4) (n := 4) rfl (by decide) (Nat.le_of_ble_eq_true rfl) (Nat.le_of_ble_eq_true rfl) dX4_init_29 (fun H ad9 c9 ha9 hc9 fr9 w => ?_)
  rw [← ha9 98 (by omega)]
  rw [← ha9 98 (by omega)] at hl
  have k10 : c9 98 = .inr (4, [.ref (ad9 99), .ref (ad9 116), .null, .null, .int (zI 0), .int (zI 0)]) := by
    rw [fr9 98 (by omega), ha9 99 (by omega), ha9 116 (by omega)]
    exact hc8
  have k11 : c9 116 = .inr (1, [.ref (ad9 117)]) := by
    rw [fr9 116 (by omega), ha9 117 (by omega)]
    exact ((fr8 116 (by omega)).trans ho6)
  refine pw_putF' (r := 98) (ci := 4) (C := RX4) (T := TX4) (Nf := 6) hx hb w hts hin_X4_init_4 tyX4 tyX4_ok nmX4 hown (by omega) k10 rfl 2 (by decide) (hts _ fl_X4_init_23) (fun _ h9 => h9) rfl hin2 rfl (ty := tyX4 2) (by decide +kernel) rfl rfl (Nat.le_of_ble_eq_true rfl) dX4_init_31 (fun H locs c12 hc12 fr12 w => ?_)
  refine lv_aload_n hx hb dX4_init_34 rfl (lv_at hl 0 rfl) ?_
  refine lv_iconst (v := zI (4)) hx hb dX4_init_35 rfl ?_
  refine pw_newi 0 (atype := .int) (ty := .int) hx hb w rfl (hts (.arrayClass .int) (by decide +kernel)) (Or.inl ⟨rfl, rfl⟩) (z := 4) (n := 4) rfl (by decide) (Nat.le_of_ble_eq_true rfl) (Nat.le_of_ble_eq_true rfl) dX4_init_36 (fun H ad13 c13 ha13 hc13 fr13 w => ?_)
  rw [← ha13 98 (by omega)]
  rw [← ha13 98 (by omega)] at hl
  have k14 : c13 98 = .inr (4, [.ref (ad13 99), .ref (ad13 116), .ref (ad13 118), .null, .int (zI 0), .int (zI 0)]) := by
    rw [fr13 98 (by omega), ha13 99 (by omega), ha13 116 (by omega), ha13 118 (by omega)]
    exact hc12
  have k15 : c13 116 = .inr (1, [.ref (ad13 117)]) := by
    rw [fr13 116 (by omega), ha13 117 (by omega)]
    exact ((fr12 116 (by omega)).trans k11)
  refine pw_putF' (r := 98) (ci := 4) (C := RX4) (T := TX4) (Nf := 6) hx hb w hts hin_X4_init_4 tyX4 tyX4_ok nmX4 hown (by omega) k14 rfl 3 (by decide) (hts _ fl_X4_init_27) (fun _ h9 => h9) rfl hin2 rfl (ty := tyX4 3) (by decide +kernel) rfl rfl (Nat.le_of_ble_eq_true rfl) dX4_init_38 (fun H locs c16 hc16 fr16 w => ?_)
  exact fin (ad13, _, c16) (ad13, c16) _ _ _ _ _ _ rfl ⟨fun r hr => ((ha13 r (by omega)).trans ((ha9 r (by omega)).trans ((ha6 r (by omega)).trans ((ha4 r (by omega)).trans ((ha1 r (by omega)).trans rfl))))), ⟨hc16, ⟨_, ((fr16 99 (by omega)).trans ((fr13 99 (by omega)).trans ((fr12 99 (by omega)).trans ((fr9 99 (by omega)).trans ((fr8 99 (by omega)).trans ((fr6 99 (by omega)).trans ((fr4 99 (by omega)).trans ((fr3 99 (by omega)).trans ho1)))))))), fun i hi => by rw [hof9 i hi]; exact congrArg some (Eq.symm ((ha13 _ (by omega)).trans ((ha9 _ (by omega)).trans ((ha6 _ (by omega)).trans ((ha4 _ (by omega)).trans rfl)))))⟩, ((fr16 116 (by omega)).trans k15), ⟨_, (isA.fr (fr16 117 (by omega)) (isA.fr (fr13 117 (by omega)) (isA.fr (fr12 117 (by omega)) (isA.fr (fr9 117 (by omega)) (isA.fr (fr8 117 (by omega)) hc6)))))⟩, ((isA.fr (fr16 118 (by omega)) (isA.fr (fr13 118 (by omega)) (isA.fr (fr12 118 (by omega)) hc9)))).to (fun _ _ => rfl), ((isA.fr (fr16 119 (by omega)) hc13)).to (fun _ _ => rfl)⟩, (fun i hi => ⟨_, isA.fr ((fr16 (100 + i) (by omega)).trans ((fr13 (100 + i) (by omega)).trans ((fr12 (100 + i) (by omega)).trans ((fr9 (100 + i) (by omega)).trans ((fr8 (100 + i) (by omega)).trans ((fr6 (100 + i) (by omega)).trans ((fr4 (100 + i) (by omega)).trans ((fr3 (100 + i) (by omega)).trans rfl)))))))) (hr9 i hi)⟩), fun q hq hqo => ((fr16 q (by omega)).trans ((fr13 q (by omega)).trans ((fr12 q (by omega)).trans ((fr9 q (by omega)).trans ((fr8 q (by omega)).trans ((fr6 q (by omega)).trans ((fr4 q (by omega)).trans ((fr3 q (by omega)).trans ((fr1 q (by omega)).trans rfl)))))))))⟩ w dX4_init_41 (Nat.le_of_ble_eq_true rfl) (Nat.le_of_ble_eq_true rfl)

theorem hin_X8_init_8 : ∀ w ∈ u_ws RX8 TX8 21, w ∈ wsX8_init := by decide +kernel
theorem fl_X8_init_7 : Cond.fieldLink RX8 7 "PipersDeskModel" "holes" "[I" ∈ wsX8_init := by decide +kernel
theorem fl_X8_init_13 : Cond.fieldLink RX8 13 "PipersDeskModel" "limit" "I" ∈ wsX8_init := by decide +kernel
theorem fl_X8_init_17 : Cond.fieldLink RX8 17 "PipersDeskModel" "graces" "[I" ∈ wsX8_init := by decide +kernel
theorem fl_X8_init_20 : Cond.fieldLink RX8 20 "PipersDeskModel" "graceMany" "[I" ∈ wsX8_init := by decide +kernel
theorem fl_X8_init_23 : Cond.fieldLink RX8 23 "PipersDeskModel" "draft" "[I" ∈ wsX8_init := by decide +kernel
theorem fl_X8_init_26 : Cond.fieldLink RX8 26 "PipersDeskModel" "pitches" "[I" ∈ wsX8_init := by decide +kernel
theorem fl_X8_init_29 : Cond.fieldLink RX8 29 "PipersDeskModel" "lengths" "[I" ∈ wsX8_init := by decide +kernel
theorem fl_X8_init_32 : Cond.fieldLink RX8 32 "PipersDeskModel" "wishes" "[Z" ∈ wsX8_init := by decide +kernel
theorem fl_X8_init_36 : Cond.fieldLink RX8 36 "PipersDeskModel" "noteMany" "[I" ∈ wsX8_init := by decide +kernel
theorem fl_X8_init_39 : Cond.fieldLink RX8 39 "PipersDeskModel" "rowPitches" "[I" ∈ wsX8_init := by decide +kernel
theorem fl_X8_init_42 : Cond.fieldLink RX8 42 "PipersDeskModel" "rowLengths" "[I" ∈ wsX8_init := by decide +kernel
theorem fl_X8_init_45 : Cond.fieldLink RX8 45 "PipersDeskModel" "rowWishes" "[Z" ∈ wsX8_init := by decide +kernel
theorem fl_X8_init_48 : Cond.fieldLink RX8 48 "PipersDeskModel" "least" "[I" ∈ wsX8_init := by decide +kernel
theorem fl_X8_init_51 : Cond.fieldLink RX8 51 "PipersDeskModel" "ways" "[I" ∈ wsX8_init := by decide +kernel
theorem fl_X8_init_54 : Cond.fieldLink RX8 54 "PipersDeskModel" "most" "[I" ∈ wsX8_init := by decide +kernel
theorem fl_X8_init_57 : Cond.fieldLink RX8 57 "PipersDeskModel" "order" "[I" ∈ wsX8_init := by decide +kernel
theorem fl_X8_init_60 : Cond.fieldLink RX8 60 "PipersDeskModel" "bestOrder" "[I" ∈ wsX8_init := by decide +kernel
abbrev rm_X8_init : Room := { frames := 2, cells := 16, slots := 1416, locals := 60 }
set_option maxHeartbeats 1000000 in
set_option maxRecDepth 100000 in
/-- PipersDeskModel() -/
theorem c_X8_init (l : Launch) (D : va_G) (G : Nat → ClassId) (ad : Nat → Nat) (N : Nat) (c : Nat → va_E) {gn : Nat → Nat} {gg : Nat → Nat → Nat} {pt ln : Nat → Nat → Nat} {wi : Nat → Nat → Int} (hN : N = 121) (ho : c 120 = .inr (8, [.int (zI 0), .null, .int (zI 0), .null, .null, .int (zI 0), .null, .int (zI 0), .null, .null, .null, .null, .null, .null, .null, .int (zI 0), .null, .null, .null, .null, .null])) : MC l yX8_init wsX8_init rm_X8_init [.ref (ad 120)] D G ad N c (qV D G (fun u : (Nat → Nat) × (Nat → va_E) => (u.1, 137, u.2)) (fun u => (∀ r, r < N → u.1 r = ad r) ∧ MS G u.1 u.2 0 3 0 0 gn gg (fun _ => 0) (fun _ => 0) pt ln wi ∧ ∀ q, q < N → q ≠ 120 → u.2 q = c q)) 16 1416 := by
  refine MCv.of (cc := cX8_init) (maxL := 1) (by decide) rfl (Nat.le_of_ble_eq_true rfl) ?_
  intro p e s m args below meth kc A Q hx hb hts hown hml hin2 fin H locs w ls hl
  have hown : s.vm.findClass RX8 = some m.cls := hown
  have hl : lv_has ls 1 [(0, .ref (ad 120))] := hl
  subst hN
  refine lv_aload_n hx hb dX8_init_0 rfl (lv_at hl 0 rfl) ?_
  refine W.objInit hx hb hown (hts (.methodLink RX8 1 objectInit) (by decide +kernel)) (hts (.instanceMethod objectInit) (by decide +kernel)) (hts (.code objectInit ⟨#[0xb1]⟩ 1 none) (by decide +kernel)) rfl (by rw [hml]; exact hl.1) rfl dX8_init_1 (Nat.le_of_ble_eq_true rfl) (Nat.le_of_ble_eq_true rfl) ?_
  refine W.eq (g2 := F0 m 4 ls []) rfl ?_
  refine lv_aload_n hx hb dX8_init_4 rfl (lv_at hl 0 rfl) ?_
  refine lv_bipush (v := zI (9)) hx hb dX8_init_5 (by decide +kernel) ?_
  refine pw_newi 0 (atype := .int) (ty := .int) hx hb w rfl (hts (.arrayClass .int) (by decide +kernel)) (Or.inl ⟨rfl, rfl⟩) (z := 9) (n := 9) rfl (by decide) (Nat.le_of_ble_eq_true rfl) (Nat.le_of_ble_eq_true rfl) dX8_init_7 (fun H ad1 c1 ha1 hc1 fr1 w => ?_)
  rw [← ha1 120 (by omega)]
  rw [← ha1 120 (by omega)] at hl
  have k2 : c1 120 = .inr (8, [.int (zI 0), .null, .int (zI 0), .null, .null, .int (zI 0), .null, .int (zI 0), .null, .null, .null, .null, .null, .null, .null, .int (zI 0), .null, .null, .null, .null, .null]) := by
    rw [fr1 120 (by omega)]
    exact ho
  refine lv_dup hx hb dX8_init_9 rfl ?_
  refine lv_iconst (v := zI (0)) hx hb dX8_init_10 rfl ?_
  refine lv_sipush (v := zI (255)) hx hb dX8_init_11 (by decide +kernel) ?_
  refine pw_iast' (r := 121) (j := 0) hx hb w (by omega) hc1 (by omega) (by omega) (by decide) dX8_init_14 (fun H locs c3 hc3 fr3 w => ?_)
  refine lv_dup hx hb dX8_init_15 rfl ?_
  refine lv_iconst (v := zI (1)) hx hb dX8_init_16 rfl ?_
  refine lv_bipush (v := zI (127)) hx hb dX8_init_17 (by decide +kernel) ?_
  refine pw_iast' (r := 121) (j := 1) hx hb w (by omega) hc3 (by omega) (by omega) (by decide) dX8_init_19 (fun H locs c4 hc4 fr4 w => ?_)
  refine lv_dup hx hb dX8_init_20 rfl ?_
  refine lv_iconst (v := zI (2)) hx hb dX8_init_21 rfl ?_
  refine lv_bipush (v := zI (63)) hx hb dX8_init_22 (by decide +kernel) ?_
  refine pw_iast' (r := 121) (j := 2) hx hb w (by omega) hc4 (by omega) (by omega) (by decide) dX8_init_24 (fun H locs c5 hc5 fr5 w => ?_)
  refine lv_dup hx hb dX8_init_25 rfl ?_
  refine lv_iconst (v := zI (3)) hx hb dX8_init_26 rfl ?_
  refine lv_sipush (v := zI (159)) hx hb dX8_init_27 (by decide +kernel) ?_
  refine pw_iast' (r := 121) (j := 3) hx hb w (by omega) hc5 (by omega) (by omega) (by decide) dX8_init_30 (fun H locs c6 hc6 fr6 w => ?_)
  refine lv_dup hx hb dX8_init_31 rfl ?_
  refine lv_iconst (v := zI (4)) hx hb dX8_init_32 rfl ?_
  refine lv_sipush (v := zI (143)) hx hb dX8_init_33 (by decide +kernel) ?_
  refine pw_iast' (r := 121) (j := 4) hx hb w (by omega) hc6 (by omega) (by omega) (by decide) dX8_init_36 (fun H locs c7 hc7 fr7 w => ?_)
  refine lv_dup hx hb dX8_init_37 rfl ?_
  refine lv_iconst (v := zI (5)) hx hb dX8_init_38 rfl ?_
  refine lv_bipush (v := zI (119)) hx hb dX8_init_39 (by decide +kernel) ?_
  refine pw_iast' (r := 121) (j := 5) hx hb w (by omega) hc7 (by omega) (by omega) (by decide) dX8_init_41 (fun H locs c8 hc8 fr8 w => ?_)
  refine lv_dup hx hb dX8_init_42 rfl ?_
  refine lv_bipush (v := zI (6)) hx hb dX8_init_43 (by decide +kernel) ?_
  refine lv_bipush (v := zI (115)) hx hb dX8_init_45 (by decide +kernel) ?_
  refine pw_iast' (r := 121) (j := 6) hx hb w (by omega) hc8 (by omega) (by omega) (by decide) dX8_init_47 (fun H locs c9 hc9 fr9 w => ?_)
  refine lv_dup hx hb dX8_init_48 rfl ?_
  refine lv_bipush (v := zI (7)) hx hb dX8_init_49 (by decide +kernel) ?_
  refine lv_bipush (v := zI (113)) hx hb dX8_init_51 (by decide +kernel) ?_
  refine pw_iast' (r := 121) (j := 7) hx hb w (by omega) hc9 (by omega) (by omega) (by decide) dX8_init_53 (fun H locs c10 hc10 fr10 w => ?_)
  refine lv_dup hx hb dX8_init_54 rfl ?_
  refine lv_bipush (v := zI (8)) hx hb dX8_init_55 (by decide +kernel) ?_
  refine lv_bipush (v := zI (114)) hx hb dX8_init_57 (by decide +kernel) ?_
  refine pw_iast' (r := 121) (j := 8) hx hb w (by omega) hc10 (by omega) (by omega) (by decide) dX8_init_59 (fun H locs c11 hc11 fr11 w => ?_)
  refine pw_putF' (r := 120) (ci := 8) (C := RX8) (T := TX8) (Nf := 21) hx hb w hts hin_X8_init_8 tyX8 tyX8_ok nmX8 hown (by omega) ((fr11 120 (by omega)).trans ((fr10 120 (by omega)).trans ((fr9 120 (by omega)).trans ((fr8 120 (by omega)).trans ((fr7 120 (by omega)).trans ((fr6 120 (by omega)).trans ((fr5 120 (by omega)).trans ((fr4 120 (by omega)).trans ((fr3 120 (by omega)).trans k2))))))))) rfl 1 (by decide) (hts _ fl_X8_init_7) (fun _ h9 => h9) rfl hin2 rfl (ty := tyX8 1) (by decide +kernel) rfl rfl (Nat.le_of_ble_eq_true rfl) dX8_init_60 (fun H locs c12 hc12 fr12 w => ?_)
  refine lv_aload_n hx hb dX8_init_63 rfl (lv_at hl 0 rfl) ?_
  refine lv_iconst (v := zI (3)) hx hb dX8_init_64 rfl ?_
  refine pw_put' (r := 120) (ci := 8) (C := RX8) (T := TX8) (Nf := 21) hx hb w hts hin_X8_init_8 tyX8 tyX8_ok nmX8 hown (by omega) hc12 rfl 2 (by decide) (hts _ fl_X8_init_13) (fun _ h9 => h9) rfl (ty := .int) (by decide +kernel) rfl rfl (Nat.le_of_ble_eq_true rfl) dX8_init_65 (fun H locs c13 hc13 fr13 w => ?_)
  refine lv_aload_n hx hb dX8_init_68 rfl (lv_at hl 0 rfl) ?_
  refine lv_bipush (v := zI (32)) hx hb dX8_init_69 (by decide +kernel) ?_
  refine pw_newi 0 (atype := .int) (ty := .int) hx hb w rfl (hts (.arrayClass .int) (by decide +kernel)) (Or.inl ⟨rfl, rfl⟩) (z := 32) (n := 32) rfl (by decide) (Nat.le_of_ble_eq_true rfl) (Nat.le_of_ble_eq_true rfl) dX8_init_71 (fun H ad14 c14 ha14 hc14 fr14 w => ?_)
  rw [← ha14 120 (by omega)]
  rw [← ha14 120 (by omega)] at hl
  have k15 : c14 120 = .inr (8, [.int (zI 0), .ref (ad14 121), .int (zI 3), .null, .null, .int (zI 0), .null, .int (zI 0), .null, .null, .null, .null, .null, .null, .null, .int (zI 0), .null, .null, .null, .null, .null]) := by
    rw [fr14 120 (by omega), ha14 121 (by omega)]
    exact hc13
  refine pw_putF' (r := 120) (ci := 8) (C := RX8) (T := TX8) (Nf := 21) hx hb w hts hin_X8_init_8 tyX8 tyX8_ok nmX8 hown (by omega) k15 rfl 3 (by decide) (hts _ fl_X8_init_17) (fun _ h9 => h9) rfl hin2 rfl (ty := tyX8 3) (by decide +kernel) rfl rfl (Nat.le_of_ble_eq_true rfl) dX8_init_73 (fun H locs c16 hc16 fr16 w => ?_)
  refine lv_aload_n hx hb dX8_init_76 rfl (lv_at hl 0 rfl) ?_
  refine lv_bipush (v := zI (8)) hx hb dX8_init_77 (by decide +kernel) ?_
  refine pw_newi 0 (atype := .int) (ty := .int) hx hb w rfl (hts (.arrayClass .int) (by decide +kernel)) (Or.inl ⟨rfl, rfl⟩) (z := 8) (n := 8) rfl (by decide) (Nat.le_of_ble_eq_true rfl) (Nat.le_of_ble_eq_true rfl) dX8_init_79 (fun H ad17 c17 ha17 hc17 fr17 w => ?_)
  rw [← ha17 120 (by omega)]
  rw [← ha17 120 (by omega)] at hl
  have k18 : c17 120 = .inr (8, [.int (zI 0), .ref (ad17 121), .int (zI 3), .ref (ad17 122), .null, .int (zI 0), .null, .int (zI 0), .null, .null, .null, .null, .null, .null, .null, .int (zI 0), .null, .null, .null, .null, .null]) := by
    rw [fr17 120 (by omega), ha17 121 (by omega), ha17 122 (by omega)]
    exact hc16
  refine pw_putF' (r := 120) (ci := 8) (C := RX8) (T := TX8) (Nf := 21) hx hb w hts hin_X8_init_8 tyX8 tyX8_ok nmX8 hown (by omega) k18 rfl 4 (by decide) (hts _ fl_X8_init_20) (fun _ h9 => h9) rfl hin2 rfl (ty := tyX8 4) (by decide +kernel) rfl rfl (Nat.le_of_ble_eq_true rfl) dX8_init_81 (fun H locs c19 hc19 fr19 w => ?_)
  refine lv_aload_n hx hb dX8_init_84 rfl (lv_at hl 0 rfl) ?_
  refine lv_iconst (v := zI (4)) hx hb dX8_init_85 rfl ?_
  refine pw_newi 0 (atype := .int) (ty := .int) hx hb w rfl (hts (.arrayClass .int) (by decide +kernel)) (Or.inl ⟨rfl, rfl⟩) (z := 4) (n := 4) rfl (by decide) (Nat.le_of_ble_eq_true rfl) (Nat.le_of_ble_eq_true rfl) dX8_init_86 (fun H ad20 c20 ha20 hc20 fr20 w => ?_)
  rw [← ha20 120 (by omega)]
  rw [← ha20 120 (by omega)] at hl
  have k21 : c20 120 = .inr (8, [.int (zI 0), .ref (ad20 121), .int (zI 3), .ref (ad20 122), .ref (ad20 123), .int (zI 0), .null, .int (zI 0), .null, .null, .null, .null, .null, .null, .null, .int (zI 0), .null, .null, .null, .null, .null]) := by
    rw [fr20 120 (by omega), ha20 121 (by omega), ha20 122 (by omega), ha20 123 (by omega)]
    exact hc19
  refine pw_putF' (r := 120) (ci := 8) (C := RX8) (T := TX8) (Nf := 21) hx hb w hts hin_X8_init_8 tyX8 tyX8_ok nmX8 hown (by omega) k21 rfl 6 (by decide) (hts _ fl_X8_init_23) (fun _ h9 => h9) rfl hin2 rfl (ty := tyX8 6) (by decide +kernel) rfl rfl (Nat.le_of_ble_eq_true rfl) dX8_init_88 (fun H locs c22 hc22 fr22 w => ?_)
  refine lv_aload_n hx hb dX8_init_91 rfl (lv_at hl 0 rfl) ?_
  refine lv_bipush (v := zI (40)) hx hb dX8_init_92 (by decide +kernel) ?_
  refine pw_newi 0 (atype := .int) (ty := .int) hx hb w rfl (hts (.arrayClass .int) (by decide +kernel)) (Or.inl ⟨rfl, rfl⟩) (z := 40) (n := 40) rfl (by decide) (Nat.le_of_ble_eq_true rfl) (Nat.le_of_ble_eq_true rfl) dX8_init_94 (fun H ad23 c23 ha23 hc23 fr23 w => ?_)
  rw [← ha23 120 (by omega)]
  rw [← ha23 120 (by omega)] at hl
  have k24 : c23 120 = .inr (8, [.int (zI 0), .ref (ad23 121), .int (zI 3), .ref (ad23 122), .ref (ad23 123), .int (zI 0), .ref (ad23 124), .int (zI 0), .null, .null, .null, .null, .null, .null, .null, .int (zI 0), .null, .null, .null, .null, .null]) := by
    rw [fr23 120 (by omega), ha23 121 (by omega), ha23 122 (by omega), ha23 123 (by omega), ha23 124 (by omega)]
    exact hc22
  refine pw_putF' (r := 120) (ci := 8) (C := RX8) (T := TX8) (Nf := 21) hx hb w hts hin_X8_init_8 tyX8 tyX8_ok nmX8 hown (by omega) k24 rfl 8 (by decide) (hts _ fl_X8_init_26) (fun _ h9 => h9) rfl hin2 rfl (ty := tyX8 8) (by decide +kernel) rfl rfl (Nat.le_of_ble_eq_true rfl) dX8_init_96 (fun H locs c25 hc25 fr25 w => ?_)
  refine lv_aload_n hx hb dX8_init_99 rfl (lv_at hl 0 rfl) ?_
  refine lv_bipush (v := zI (40)) hx hb dX8_init_100 (by decide +kernel) ?_
  refine pw_newi 0 (atype := .int) (ty := .int) hx hb w rfl (hts (.arrayClass .int) (by decide +kernel)) (Or.inl ⟨rfl, rfl⟩) (z := 40) (n := 40) rfl (by decide) (Nat.le_of_ble_eq_true rfl) (Nat.le_of_ble_eq_true rfl) dX8_init_102 (fun H ad26 c26 ha26 hc26 fr26 w => ?_)
  rw [← ha26 120 (by omega)]
  rw [← ha26 120 (by omega)] at hl
  have k27 : c26 120 = .inr (8, [.int (zI 0), .ref (ad26 121), .int (zI 3), .ref (ad26 122), .ref (ad26 123), .int (zI 0), .ref (ad26 124), .int (zI 0), .ref (ad26 125), .null, .null, .null, .null, .null, .null, .int (zI 0), .null, .null, .null, .null, .null]) := by
    rw [fr26 120 (by omega), ha26 121 (by omega), ha26 122 (by omega), ha26 123 (by omega), ha26 124 (by omega), ha26 125 (by omega)]
    exact hc25
  refine pw_putF' (r := 120) (ci := 8) (C := RX8) (T := TX8) (Nf := 21) hx hb w hts hin_X8_init_8 tyX8 tyX8_ok nmX8 hown (by omega) k27 rfl 9 (by decide) (hts _ fl_X8_init_29) (fun _ h9 => h9) rfl hin2 rfl (ty := tyX8 9) (by decide +kernel) rfl rfl (Nat.le_of_ble_eq_true rfl) dX8_init_104 (fun H locs c28 hc28 fr28 w => ?_)
  refine lv_aload_n hx hb dX8_init_107 rfl (lv_at hl 0 rfl) ?_
  refine lv_bipush (v := zI (40)) hx hb dX8_init_108 (by decide +kernel) ?_
  refine pw_newi 1 (atype := .boolean) (ty := .boolean) hx hb w rfl (hts (.arrayClass .boolean) (by decide +kernel)) (Or.inr ⟨rfl, rfl⟩) (z := 40) (n := 40) rfl (by decide) (Nat.le_of_ble_eq_true rfl) (Nat.le_of_ble_eq_true rfl) dX8_init_110 (fun H ad29 c29 ha29 hc29 fr29 w => ?_)
  rw [← ha29 120 (by omega)]
  rw [← ha29 120 (by omega)] at hl
  have k30 : c29 120 = .inr (8, [.int (zI 0), .ref (ad29 121), .int (zI 3), .ref (ad29 122), .ref (ad29 123), .int (zI 0), .ref (ad29 124), .int (zI 0), .ref (ad29 125), .ref (ad29 126), .null, .null, .null, .null, .null, .int (zI 0), .null, .null, .null, .null, .null]) := by
    rw [fr29 120 (by omega), ha29 121 (by omega), ha29 122 (by omega), ha29 123 (by omega), ha29 124 (by omega), ha29 125 (by omega), ha29 126 (by omega)]
    exact hc28
  refine pw_putF' (r := 120) (ci := 8) (C := RX8) (T := TX8) (Nf := 21) hx hb w hts hin_X8_init_8 tyX8 tyX8_ok nmX8 hown (by omega) k30 rfl 10 (by decide) (hts _ fl_X8_init_32) (fun _ h9 => h9) rfl hin2 rfl (ty := tyX8 10) (by decide +kernel) rfl rfl (Nat.le_of_ble_eq_true rfl) dX8_init_112 (fun H locs c31 hc31 fr31 w => ?_)
  refine lv_aload_n hx hb dX8_init_115 rfl (lv_at hl 0 rfl) ?_
  refine lv_iconst (v := zI (4)) hx hb dX8_init_116 rfl ?_
  refine pw_newi 0 (atype := .int) (ty := .int) hx hb w rfl (hts (.arrayClass .int) (by decide +kernel)) (Or.inl ⟨rfl, rfl⟩) (z := 4) (n := 4) rfl (by decide) (Nat.le_of_ble_eq_true rfl) (Nat.le_of_ble_eq_true rfl) dX8_init_117 (fun H ad32 c32 ha32 hc32 fr32 w => ?_)
  rw [← ha32 120 (by omega)]
  rw [← ha32 120 (by omega)] at hl
  have k33 : c32 120 = .inr (8, [.int (zI 0), .ref (ad32 121), .int (zI 3), .ref (ad32 122), .ref (ad32 123), .int (zI 0), .ref (ad32 124), .int (zI 0), .ref (ad32 125), .ref (ad32 126), .ref (ad32 127), .null, .null, .null, .null, .int (zI 0), .null, .null, .null, .null, .null]) := by
    rw [fr32 120 (by omega), ha32 121 (by omega), ha32 122 (by omega), ha32 123 (by omega), ha32 124 (by omega), ha32 125 (by omega), ha32 126 (by omega), ha32 127 (by omega)]
    exact hc31
  refine pw_putF' (r := 120) (ci := 8) (C := RX8) (T := TX8) (Nf := 21) hx hb w hts hin_X8_init_8 tyX8 tyX8_ok nmX8 hown (by omega) k33 rfl 11 (by decide) (hts _ fl_X8_init_36) (fun _ h9 => h9) rfl hin2 rfl (ty := tyX8 11) (by decide +kernel) rfl rfl (Nat.le_of_ble_eq_true rfl) dX8_init_119 (fun H locs c34 hc34 fr34 w => ?_)
  refine lv_aload_n hx hb dX8_init_122 rfl (lv_at hl 0 rfl) ?_
  refine lv_bipush (v := zI (40)) hx hb dX8_init_123 (by decide +kernel) ?_
  refine pw_newi 0 (atype := .int) (ty := .int) hx hb w rfl (hts (.arrayClass .int) (by decide +kernel)) (Or.inl ⟨rfl, rfl⟩) (z := 40) (n := 40) rfl (by decide) (Nat.le_of_ble_eq_true rfl) (Nat.le_of_ble_eq_true rfl) dX8_init_125 (fun H ad35 c35 ha35 hc35 fr35 w => ?_)
  rw [← ha35 120 (by omega)]
  rw [← ha35 120 (by omega)] at hl
  have k36 : c35 120 = .inr (8, [.int (zI 0), .ref (ad35 121), .int (zI 3), .ref (ad35 122), .ref (ad35 123), .int (zI 0), .ref (ad35 124), .int (zI 0), .ref (ad35 125), .ref (ad35 126), .ref (ad35 127), .ref (ad35 128), .null, .null, .null, .int (zI 0), .null, .null, .null, .null, .null]) := by
    rw [fr35 120 (by omega), ha35 121 (by omega), ha35 122 (by omega), ha35 123 (by omega), ha35 124 (by omega), ha35 125 (by omega), ha35 126 (by omega), ha35 127 (by omega), ha35 128 (by omega)]
    exact hc34
  refine pw_putF' (r := 120) (ci := 8) (C := RX8) (T := TX8) (Nf := 21) hx hb w hts hin_X8_init_8 tyX8 tyX8_ok nmX8 hown (by omega) k36 rfl 12 (by decide) (hts _ fl_X8_init_39) (fun _ h9 => h9) rfl hin2 rfl (ty := tyX8 12) (by decide +kernel) rfl rfl (Nat.le_of_ble_eq_true rfl) dX8_init_127 (fun H locs c37 hc37 fr37 w => ?_)
  refine lv_aload_n hx hb dX8_init_130 rfl (lv_at hl 0 rfl) ?_
  refine lv_bipush (v := zI (40)) hx hb dX8_init_131 (by decide +kernel) ?_
  refine pw_newi 0 (atype := .int) (ty := .int) hx hb w rfl (hts (.arrayClass .int) (by decide +kernel)) (Or.inl ⟨rfl, rfl⟩) (z := 40) (n := 40) rfl (by decide) (Nat.le_of_ble_eq_true rfl) (Nat.le_of_ble_eq_true rfl) dX8_init_133 (fun H ad38 c38 ha38 hc38 fr38 w => ?_)
  rw [← ha38 120 (by omega)]
  rw [← ha38 120 (by omega)] at hl
  have k39 : c38 120 = .inr (8, [.int (zI 0), .ref (ad38 121), .int (zI 3), .ref (ad38 122), .ref (ad38 123), .int (zI 0), .ref (ad38 124), .int (zI 0), .ref (ad38 125), .ref (ad38 126), .ref (ad38 127), .ref (ad38 128), .ref (ad38 129), .null, .null, .int (zI 0), .null, .null, .null, .null, .null]) := by
    rw [fr38 120 (by omega), ha38 121 (by omega), ha38 122 (by omega), ha38 123 (by omega), ha38 124 (by omega), ha38 125 (by omega), ha38 126 (by omega), ha38 127 (by omega), ha38 128 (by omega), ha38 129 (by omega)]
    exact hc37
  refine pw_putF' (r := 120) (ci := 8) (C := RX8) (T := TX8) (Nf := 21) hx hb w hts hin_X8_init_8 tyX8 tyX8_ok nmX8 hown (by omega) k39 rfl 13 (by decide) (hts _ fl_X8_init_42) (fun _ h9 => h9) rfl hin2 rfl (ty := tyX8 13) (by decide +kernel) rfl rfl (Nat.le_of_ble_eq_true rfl) dX8_init_135 (fun H locs c40 hc40 fr40 w => ?_)
  refine lv_aload_n hx hb dX8_init_138 rfl (lv_at hl 0 rfl) ?_
  refine lv_bipush (v := zI (40)) hx hb dX8_init_139 (by decide +kernel) ?_
  refine pw_newi 1 (atype := .boolean) (ty := .boolean) hx hb w rfl (hts (.arrayClass .boolean) (by decide +kernel)) (Or.inr ⟨rfl, rfl⟩) (z := 40) (n := 40) rfl (by decide) (Nat.le_of_ble_eq_true rfl) (Nat.le_of_ble_eq_true rfl) dX8_init_141 (fun H ad41 c41 ha41 hc41 fr41 w => ?_)
  rw [← ha41 120 (by omega)]
  rw [← ha41 120 (by omega)] at hl
  have k42 : c41 120 = .inr (8, [.int (zI 0), .ref (ad41 121), .int (zI 3), .ref (ad41 122), .ref (ad41 123), .int (zI 0), .ref (ad41 124), .int (zI 0), .ref (ad41 125), .ref (ad41 126), .ref (ad41 127), .ref (ad41 128), .ref (ad41 129), .ref (ad41 130), .null, .int (zI 0), .null, .null, .null, .null, .null]) := by
    rw [fr41 120 (by omega), ha41 121 (by omega), ha41 122 (by omega), ha41 123 (by omega), ha41 124 (by omega), ha41 125 (by omega), ha41 126 (by omega), ha41 127 (by omega), ha41 128 (by omega), ha41 129 (by omega), ha41 130 (by omega)]
    exact hc40
  refine pw_putF' (r := 120) (ci := 8) (C := RX8) (T := TX8) (Nf := 21) hx hb w hts hin_X8_init_8 tyX8 tyX8_ok nmX8 hown (by omega) k42 rfl 14 (by decide) (hts _ fl_X8_init_45) (fun _ h9 => h9) rfl hin2 rfl (ty := tyX8 14) (by decide +kernel) rfl rfl (Nat.le_of_ble_eq_true rfl) dX8_init_143 (fun H locs c43 hc43 fr43 w => ?_)
  refine lv_aload_n hx hb dX8_init_146 rfl (lv_at hl 0 rfl) ?_
  refine lv_sipush (v := zI (369)) hx hb dX8_init_147 (by decide +kernel) ?_
  refine pw_newi 0 (atype := .int) (ty := .int) hx hb w rfl (hts (.arrayClass .int) (by decide +kernel)) (Or.inl ⟨rfl, rfl⟩) (z := 369) (n := 369) rfl (by decide) (Nat.le_of_ble_eq_true rfl) (Nat.le_of_ble_eq_true rfl) dX8_init_150 (fun H ad44 c44 ha44 hc44 fr44 w => ?_)
  rw [← ha44 120 (by omega)]
  rw [← ha44 120 (by omega)] at hl
  have k45 : c44 120 = .inr (8, [.int (zI 0), .ref (ad44 121), .int (zI 3), .ref (ad44 122), .ref (ad44 123), .int (zI 0), .ref (ad44 124), .int (zI 0), .ref (ad44 125), .ref (ad44 126), .ref (ad44 127), .ref (ad44 128), .ref (ad44 129), .ref (ad44 130), .ref (ad44 131), .int (zI 0), .null, .null, .null, .null, .null]) := by
    rw [fr44 120 (by omega), ha44 121 (by omega), ha44 122 (by omega), ha44 123 (by omega), ha44 124 (by omega), ha44 125 (by omega), ha44 126 (by omega), ha44 127 (by omega), ha44 128 (by omega), ha44 129 (by omega), ha44 130 (by omega), ha44 131 (by omega)]
    exact hc43
  refine pw_putF' (r := 120) (ci := 8) (C := RX8) (T := TX8) (Nf := 21) hx hb w hts hin_X8_init_8 tyX8 tyX8_ok nmX8 hown (by omega) k45 rfl 16 (by decide) (hts _ fl_X8_init_48) (fun _ h9 => h9) rfl hin2 rfl (ty := tyX8 16) (by decide +kernel) rfl rfl (Nat.le_of_ble_eq_true rfl) dX8_init_152 (fun H locs c46 hc46 fr46 w => ?_)
  refine lv_aload_n hx hb dX8_init_155 rfl (lv_at hl 0 rfl) ?_
  refine lv_sipush (v := zI (369)) hx hb dX8_init_156 (by decide +kernel) ?_
  refine pw_newi 0 (atype := .int) (ty := .int) hx hb w rfl (hts (.arrayClass .int) (by decide +kernel)) (Or.inl ⟨rfl, rfl⟩) (z := 369) (n := 369) rfl (by decide) (Nat.le_of_ble_eq_true rfl) (Nat.le_of_ble_eq_true rfl) dX8_init_159 (fun H ad47 c47 ha47 hc47 fr47 w => ?_)
  rw [← ha47 120 (by omega)]
  rw [← ha47 120 (by omega)] at hl
  have k48 : c47 120 = .inr (8, [.int (zI 0), .ref (ad47 121), .int (zI 3), .ref (ad47 122), .ref (ad47 123), .int (zI 0), .ref (ad47 124), .int (zI 0), .ref (ad47 125), .ref (ad47 126), .ref (ad47 127), .ref (ad47 128), .ref (ad47 129), .ref (ad47 130), .ref (ad47 131), .int (zI 0), .ref (ad47 132), .null, .null, .null, .null]) := by
    rw [fr47 120 (by omega), ha47 121 (by omega), ha47 122 (by omega), ha47 123 (by omega), ha47 124 (by omega), ha47 125 (by omega), ha47 126 (by omega), ha47 127 (by omega), ha47 128 (by omega), ha47 129 (by omega), ha47 130 (by omega), ha47 131 (by omega), ha47 132 (by omega)]
    exact hc46
  refine pw_putF' (r := 120) (ci := 8) (C := RX8) (T := TX8) (Nf := 21) hx hb w hts hin_X8_init_8 tyX8 tyX8_ok nmX8 hown (by omega) k48 rfl 17 (by decide) (hts _ fl_X8_init_51) (fun _ h9 => h9) rfl hin2 rfl (ty := tyX8 17) (by decide +kernel) rfl rfl (Nat.le_of_ble_eq_true rfl) dX8_init_161 (fun H locs c49 hc49 fr49 w => ?_)
  refine lv_aload_n hx hb dX8_init_164 rfl (lv_at hl 0 rfl) ?_
  refine lv_sipush (v := zI (369)) hx hb dX8_init_165 (by decide +kernel) ?_
  refine pw_newi 0 (atype := .int) (ty := .int) hx hb w rfl (hts (.arrayClass .int) (by decide +kernel)) (Or.inl ⟨rfl, rfl⟩) (z := 369) (n := 369) rfl (by decide) (Nat.le_of_ble_eq_true rfl) (Nat.le_of_ble_eq_true rfl) dX8_init_168 (fun H ad50 c50 ha50 hc50 fr50 w => ?_)
  rw [← ha50 120 (by omega)]
  rw [← ha50 120 (by omega)] at hl
  have k51 : c50 120 = .inr (8, [.int (zI 0), .ref (ad50 121), .int (zI 3), .ref (ad50 122), .ref (ad50 123), .int (zI 0), .ref (ad50 124), .int (zI 0), .ref (ad50 125), .ref (ad50 126), .ref (ad50 127), .ref (ad50 128), .ref (ad50 129), .ref (ad50 130), .ref (ad50 131), .int (zI 0), .ref (ad50 132), .ref (ad50 133), .null, .null, .null]) := by
    rw [fr50 120 (by omega), ha50 121 (by omega), ha50 122 (by omega), ha50 123 (by omega), ha50 124 (by omega), ha50 125 (by omega), ha50 126 (by omega), ha50 127 (by omega), ha50 128 (by omega), ha50 129 (by omega), ha50 130 (by omega), ha50 131 (by omega), ha50 132 (by omega), ha50 133 (by omega)]
    exact hc49
  refine pw_putF' (r := 120) (ci := 8) (C := RX8) (T := TX8) (Nf := 21) hx hb w hts hin_X8_init_8 tyX8 tyX8_ok nmX8 hown (by omega) k51 rfl 18 (by decide) (hts _ fl_X8_init_54) (fun _ h9 => h9) rfl hin2 rfl (ty := tyX8 18) (by decide +kernel) rfl rfl (Nat.le_of_ble_eq_true rfl) dX8_init_170 (fun H locs c52 hc52 fr52 w => ?_)
  refine lv_aload_n hx hb dX8_init_173 rfl (lv_at hl 0 rfl) ?_
  refine lv_iconst (v := zI (4)) hx hb dX8_init_174 rfl ?_
  refine pw_newi 0 (atype := .int) (ty := .int) hx hb w rfl (hts (.arrayClass .int) (by decide +kernel)) (Or.inl ⟨rfl, rfl⟩) (z := 4) (n := 4) rfl (by decide) (Nat.le_of_ble_eq_true rfl) (Nat.le_of_ble_eq_true rfl) dX8_init_175 (fun H ad53 c53 ha53 hc53 fr53 w => ?_)
  rw [← ha53 120 (by omega)]
  rw [← ha53 120 (by omega)] at hl
  have k54 : c53 120 = .inr (8, [.int (zI 0), .ref (ad53 121), .int (zI 3), .ref (ad53 122), .ref (ad53 123), .int (zI 0), .ref (ad53 124), .int (zI 0), .ref (ad53 125), .ref (ad53 126), .ref (ad53 127), .ref (ad53 128), .ref (ad53 129), .ref (ad53 130), .ref (ad53 131), .int (zI 0), .ref (ad53 132), .ref (ad53 133), .ref (ad53 134), .null, .null]) := by
    rw [fr53 120 (by omega), ha53 121 (by omega), ha53 122 (by omega), ha53 123 (by omega), ha53 124 (by omega), ha53 125 (by omega), ha53 126 (by omega), ha53 127 (by omega), ha53 128 (by omega), ha53 129 (by omega), ha53 130 (by omega), ha53 131 (by omega), ha53 132 (by omega), ha53 133 (by omega), ha53 134 (by omega)]
    exact hc52
  refine pw_putF' (r := 120) (ci := 8) (C := RX8) (T := TX8) (Nf := 21) hx hb w hts hin_X8_init_8 tyX8 tyX8_ok nmX8 hown (by omega) k54 rfl 19 (by decide) (hts _ fl_X8_init_57) (fun _ h9 => h9) rfl hin2 rfl (ty := tyX8 19) (by decide +kernel) rfl rfl (Nat.le_of_ble_eq_true rfl) dX8_init_177 (fun H locs c55 hc55 fr55 w => ?_)
  refine lv_aload_n hx hb dX8_init_180 rfl (lv_at hl 0 rfl) ?_
  refine lv_iconst (v := zI (4)) hx hb dX8_init_181 rfl ?_
  refine pw_newi 0 (atype := .int) (ty := .int) hx hb w rfl (hts (.arrayClass .int) (by decide +kernel)) (Or.inl ⟨rfl, rfl⟩) (z := 4) (n := 4) rfl (by decide) (Nat.le_of_ble_eq_true rfl) (Nat.le_of_ble_eq_true rfl) dX8_init_182 (fun H ad56 c56 ha56 hc56 fr56 w => ?_)
  rw [← ha56 120 (by omega)]
  rw [← ha56 120 (by omega)] at hl
  have k57 : c56 120 = .inr (8, [.int (zI 0), .ref (ad56 121), .int (zI 3), .ref (ad56 122), .ref (ad56 123), .int (zI 0), .ref (ad56 124), .int (zI 0), .ref (ad56 125), .ref (ad56 126), .ref (ad56 127), .ref (ad56 128), .ref (ad56 129), .ref (ad56 130), .ref (ad56 131), .int (zI 0), .ref (ad56 132), .ref (ad56 133), .ref (ad56 134), .ref (ad56 135), .null]) := by
    rw [fr56 120 (by omega), ha56 121 (by omega), ha56 122 (by omega), ha56 123 (by omega), ha56 124 (by omega), ha56 125 (by omega), ha56 126 (by omega), ha56 127 (by omega), ha56 128 (by omega), ha56 129 (by omega), ha56 130 (by omega), ha56 131 (by omega), ha56 132 (by omega), ha56 133 (by omega), ha56 134 (by omega), ha56 135 (by omega)]
    exact hc55
  refine pw_putF' (r := 120) (ci := 8) (C := RX8) (T := TX8) (Nf := 21) hx hb w hts hin_X8_init_8 tyX8 tyX8_ok nmX8 hown (by omega) k57 rfl 20 (by decide) (hts _ fl_X8_init_60) (fun _ h9 => h9) rfl hin2 rfl (ty := tyX8 20) (by decide +kernel) rfl rfl (Nat.le_of_ble_eq_true rfl) dX8_init_184 (fun H locs c58 hc58 fr58 w => ?_)
  have hh9 : isA 0 G (c58 121) 9 closedN := ((isA.fr (fr58 121 (by omega)) (isA.fr (fr56 121 (by omega)) (isA.fr (fr55 121 (by omega)) (isA.fr (fr53 121 (by omega)) (isA.fr (fr52 121 (by omega)) (isA.fr (fr50 121 (by omega)) (isA.fr (fr49 121 (by omega)) (isA.fr (fr47 121 (by omega)) (isA.fr (fr46 121 (by omega)) (isA.fr (fr44 121 (by omega)) (isA.fr (fr43 121 (by omega)) (isA.fr (fr41 121 (by omega)) (isA.fr (fr40 121 (by omega)) (isA.fr (fr38 121 (by omega)) (isA.fr (fr37 121 (by omega)) (isA.fr (fr35 121 (by omega)) (isA.fr (fr34 121 (by omega)) (isA.fr (fr32 121 (by omega)) (isA.fr (fr31 121 (by omega)) (isA.fr (fr29 121 (by omega)) (isA.fr (fr28 121 (by omega)) (isA.fr (fr26 121 (by omega)) (isA.fr (fr25 121 (by omega)) (isA.fr (fr23 121 (by omega)) (isA.fr (fr22 121 (by omega)) (isA.fr (fr20 121 (by omega)) (isA.fr (fr19 121 (by omega)) (isA.fr (fr17 121 (by omega)) (isA.fr (fr16 121 (by omega)) (isA.fr (fr14 121 (by omega)) (isA.fr (fr13 121 (by omega)) (isA.fr (fr12 121 (by omega)) hc11))))))))))))))))))))))))))))))))).to (fun j hj => by
    rcases (by omega : j = 0 ∨ j = 1 ∨ j = 2 ∨ j = 3 ∨ j = 4 ∨ j = 5 ∨ j = 6 ∨ j = 7 ∨ j = 8) with h | h | h | h | h | h | h | h | h <;> subst h <;> rfl)
  exact fin (ad56, _, c58) (ad56, c58) _ _ _ _ _ _ rfl ⟨fun r hr => ((ha56 r (by omega)).trans ((ha53 r (by omega)).trans ((ha50 r (by omega)).trans ((ha47 r (by omega)).trans ((ha44 r (by omega)).trans ((ha41 r (by omega)).trans ((ha38 r (by omega)).trans ((ha35 r (by omega)).trans ((ha32 r (by omega)).trans ((ha29 r (by omega)).trans ((ha26 r (by omega)).trans ((ha23 r (by omega)).trans ((ha20 r (by omega)).trans ((ha17 r (by omega)).trans ((ha14 r (by omega)).trans ((ha1 r (by omega)).trans rfl)))))))))))))))), ⟨⟨0, hc58⟩, hh9, ⟨⟨_, (isA.fr (fr58 122 (by omega)) (isA.fr (fr56 122 (by omega)) (isA.fr (fr55 122 (by omega)) (isA.fr (fr53 122 (by omega)) (isA.fr (fr52 122 (by omega)) (isA.fr (fr50 122 (by omega)) (isA.fr (fr49 122 (by omega)) (isA.fr (fr47 122 (by omega)) (isA.fr (fr46 122 (by omega)) (isA.fr (fr44 122 (by omega)) (isA.fr (fr43 122 (by omega)) (isA.fr (fr41 122 (by omega)) (isA.fr (fr40 122 (by omega)) (isA.fr (fr38 122 (by omega)) (isA.fr (fr37 122 (by omega)) (isA.fr (fr35 122 (by omega)) (isA.fr (fr34 122 (by omega)) (isA.fr (fr32 122 (by omega)) (isA.fr (fr31 122 (by omega)) (isA.fr (fr29 122 (by omega)) (isA.fr (fr28 122 (by omega)) (isA.fr (fr26 122 (by omega)) (isA.fr (fr25 122 (by omega)) (isA.fr (fr23 122 (by omega)) (isA.fr (fr22 122 (by omega)) (isA.fr (fr20 122 (by omega)) (isA.fr (fr19 122 (by omega)) (isA.fr (fr17 122 (by omega)) (isA.fr (fr16 122 (by omega)) hc14))))))))))))))))))))))))))))), fun k hk => absurd hk (Nat.not_lt_zero k)⟩, _, (isA.fr (fr58 123 (by omega)) (isA.fr (fr56 123 (by omega)) (isA.fr (fr55 123 (by omega)) (isA.fr (fr53 123 (by omega)) (isA.fr (fr52 123 (by omega)) (isA.fr (fr50 123 (by omega)) (isA.fr (fr49 123 (by omega)) (isA.fr (fr47 123 (by omega)) (isA.fr (fr46 123 (by omega)) (isA.fr (fr44 123 (by omega)) (isA.fr (fr43 123 (by omega)) (isA.fr (fr41 123 (by omega)) (isA.fr (fr40 123 (by omega)) (isA.fr (fr38 123 (by omega)) (isA.fr (fr37 123 (by omega)) (isA.fr (fr35 123 (by omega)) (isA.fr (fr34 123 (by omega)) (isA.fr (fr32 123 (by omega)) (isA.fr (fr31 123 (by omega)) (isA.fr (fr29 123 (by omega)) (isA.fr (fr28 123 (by omega)) (isA.fr (fr26 123 (by omega)) (isA.fr (fr25 123 (by omega)) (isA.fr (fr23 123 (by omega)) (isA.fr (fr22 123 (by omega)) (isA.fr (fr20 123 (by omega)) (isA.fr (fr19 123 (by omega)) hc17))))))))))))))))))))))))))), fun k hk => absurd hk (Nat.not_lt_zero k)⟩, ((isA.fr (fr58 124 (by omega)) (isA.fr (fr56 124 (by omega)) (isA.fr (fr55 124 (by omega)) (isA.fr (fr53 124 (by omega)) (isA.fr (fr52 124 (by omega)) (isA.fr (fr50 124 (by omega)) (isA.fr (fr49 124 (by omega)) (isA.fr (fr47 124 (by omega)) (isA.fr (fr46 124 (by omega)) (isA.fr (fr44 124 (by omega)) (isA.fr (fr43 124 (by omega)) (isA.fr (fr41 124 (by omega)) (isA.fr (fr40 124 (by omega)) (isA.fr (fr38 124 (by omega)) (isA.fr (fr37 124 (by omega)) (isA.fr (fr35 124 (by omega)) (isA.fr (fr34 124 (by omega)) (isA.fr (fr32 124 (by omega)) (isA.fr (fr31 124 (by omega)) (isA.fr (fr29 124 (by omega)) (isA.fr (fr28 124 (by omega)) (isA.fr (fr26 124 (by omega)) (isA.fr (fr25 124 (by omega)) (isA.fr (fr23 124 (by omega)) (isA.fr (fr22 124 (by omega)) hc20)))))))))))))))))))))))))).to (fun _ _ => rfl), ⟨⟨_, (isA.fr (fr58 125 (by omega)) (isA.fr (fr56 125 (by omega)) (isA.fr (fr55 125 (by omega)) (isA.fr (fr53 125 (by omega)) (isA.fr (fr52 125 (by omega)) (isA.fr (fr50 125 (by omega)) (isA.fr (fr49 125 (by omega)) (isA.fr (fr47 125 (by omega)) (isA.fr (fr46 125 (by omega)) (isA.fr (fr44 125 (by omega)) (isA.fr (fr43 125 (by omega)) (isA.fr (fr41 125 (by omega)) (isA.fr (fr40 125 (by omega)) (isA.fr (fr38 125 (by omega)) (isA.fr (fr37 125 (by omega)) (isA.fr (fr35 125 (by omega)) (isA.fr (fr34 125 (by omega)) (isA.fr (fr32 125 (by omega)) (isA.fr (fr31 125 (by omega)) (isA.fr (fr29 125 (by omega)) (isA.fr (fr28 125 (by omega)) (isA.fr (fr26 125 (by omega)) (isA.fr (fr25 125 (by omega)) hc23))))))))))))))))))))))), fun t ht i hi => absurd hi (Nat.not_lt_zero _)⟩, ⟨_, (isA.fr (fr58 126 (by omega)) (isA.fr (fr56 126 (by omega)) (isA.fr (fr55 126 (by omega)) (isA.fr (fr53 126 (by omega)) (isA.fr (fr52 126 (by omega)) (isA.fr (fr50 126 (by omega)) (isA.fr (fr49 126 (by omega)) (isA.fr (fr47 126 (by omega)) (isA.fr (fr46 126 (by omega)) (isA.fr (fr44 126 (by omega)) (isA.fr (fr43 126 (by omega)) (isA.fr (fr41 126 (by omega)) (isA.fr (fr40 126 (by omega)) (isA.fr (fr38 126 (by omega)) (isA.fr (fr37 126 (by omega)) (isA.fr (fr35 126 (by omega)) (isA.fr (fr34 126 (by omega)) (isA.fr (fr32 126 (by omega)) (isA.fr (fr31 126 (by omega)) (isA.fr (fr29 126 (by omega)) (isA.fr (fr28 126 (by omega)) hc26))))))))))))))))))))), fun t ht i hi => absurd hi (Nat.not_lt_zero _)⟩, ⟨_, (isA.fr (fr58 127 (by omega)) (isA.fr (fr56 127 (by omega)) (isA.fr (fr55 127 (by omega)) (isA.fr (fr53 127 (by omega)) (isA.fr (fr52 127 (by omega)) (isA.fr (fr50 127 (by omega)) (isA.fr (fr49 127 (by omega)) (isA.fr (fr47 127 (by omega)) (isA.fr (fr46 127 (by omega)) (isA.fr (fr44 127 (by omega)) (isA.fr (fr43 127 (by omega)) (isA.fr (fr41 127 (by omega)) (isA.fr (fr40 127 (by omega)) (isA.fr (fr38 127 (by omega)) (isA.fr (fr37 127 (by omega)) (isA.fr (fr35 127 (by omega)) (isA.fr (fr34 127 (by omega)) (isA.fr (fr32 127 (by omega)) (isA.fr (fr31 127 (by omega)) hc29))))))))))))))))))), fun t ht i hi => absurd hi (Nat.not_lt_zero _)⟩, ((isA.fr (fr58 128 (by omega)) (isA.fr (fr56 128 (by omega)) (isA.fr (fr55 128 (by omega)) (isA.fr (fr53 128 (by omega)) (isA.fr (fr52 128 (by omega)) (isA.fr (fr50 128 (by omega)) (isA.fr (fr49 128 (by omega)) (isA.fr (fr47 128 (by omega)) (isA.fr (fr46 128 (by omega)) (isA.fr (fr44 128 (by omega)) (isA.fr (fr43 128 (by omega)) (isA.fr (fr41 128 (by omega)) (isA.fr (fr40 128 (by omega)) (isA.fr (fr38 128 (by omega)) (isA.fr (fr37 128 (by omega)) (isA.fr (fr35 128 (by omega)) (isA.fr (fr34 128 (by omega)) hc32)))))))))))))))))).to (fun _ _ => rfl)⟩, ⟨_, (isA.fr (fr58 129 (by omega)) (isA.fr (fr56 129 (by omega)) (isA.fr (fr55 129 (by omega)) (isA.fr (fr53 129 (by omega)) (isA.fr (fr52 129 (by omega)) (isA.fr (fr50 129 (by omega)) (isA.fr (fr49 129 (by omega)) (isA.fr (fr47 129 (by omega)) (isA.fr (fr46 129 (by omega)) (isA.fr (fr44 129 (by omega)) (isA.fr (fr43 129 (by omega)) (isA.fr (fr41 129 (by omega)) (isA.fr (fr40 129 (by omega)) (isA.fr (fr38 129 (by omega)) (isA.fr (fr37 129 (by omega)) hc35)))))))))))))))⟩, ⟨_, (isA.fr (fr58 130 (by omega)) (isA.fr (fr56 130 (by omega)) (isA.fr (fr55 130 (by omega)) (isA.fr (fr53 130 (by omega)) (isA.fr (fr52 130 (by omega)) (isA.fr (fr50 130 (by omega)) (isA.fr (fr49 130 (by omega)) (isA.fr (fr47 130 (by omega)) (isA.fr (fr46 130 (by omega)) (isA.fr (fr44 130 (by omega)) (isA.fr (fr43 130 (by omega)) (isA.fr (fr41 130 (by omega)) (isA.fr (fr40 130 (by omega)) hc38)))))))))))))⟩, ⟨_, (isA.fr (fr58 131 (by omega)) (isA.fr (fr56 131 (by omega)) (isA.fr (fr55 131 (by omega)) (isA.fr (fr53 131 (by omega)) (isA.fr (fr52 131 (by omega)) (isA.fr (fr50 131 (by omega)) (isA.fr (fr49 131 (by omega)) (isA.fr (fr47 131 (by omega)) (isA.fr (fr46 131 (by omega)) (isA.fr (fr44 131 (by omega)) (isA.fr (fr43 131 (by omega)) hc41)))))))))))⟩, ⟨_, (isA.fr (fr58 132 (by omega)) (isA.fr (fr56 132 (by omega)) (isA.fr (fr55 132 (by omega)) (isA.fr (fr53 132 (by omega)) (isA.fr (fr52 132 (by omega)) (isA.fr (fr50 132 (by omega)) (isA.fr (fr49 132 (by omega)) (isA.fr (fr47 132 (by omega)) (isA.fr (fr46 132 (by omega)) hc44)))))))))⟩, ⟨_, (isA.fr (fr58 133 (by omega)) (isA.fr (fr56 133 (by omega)) (isA.fr (fr55 133 (by omega)) (isA.fr (fr53 133 (by omega)) (isA.fr (fr52 133 (by omega)) (isA.fr (fr50 133 (by omega)) (isA.fr (fr49 133 (by omega)) hc47)))))))⟩, ⟨_, (isA.fr (fr58 134 (by omega)) (isA.fr (fr56 134 (by omega)) (isA.fr (fr55 134 (by omega)) (isA.fr (fr53 134 (by omega)) (isA.fr (fr52 134 (by omega)) hc50)))))⟩, ⟨_, (isA.fr (fr58 135 (by omega)) (isA.fr (fr56 135 (by omega)) (isA.fr (fr55 135 (by omega)) hc53)))⟩, _, (isA.fr (fr58 136 (by omega)) hc56)⟩, fun q hq hqo => ((fr58 q (by omega)).trans ((fr56 q (by omega)).trans ((fr55 q (by omega)).trans ((fr53 q (by omega)).trans ((fr52 q (by omega)).trans ((fr50 q (by omega)).trans ((fr49 q (by omega)).trans ((fr47 q (by omega)).trans ((fr46 q (by omega)).trans ((fr44 q (by omega)).trans ((fr43 q (by omega)).trans ((fr41 q (by omega)).trans ((fr40 q (by omega)).trans ((fr38 q (by omega)).trans ((fr37 q (by omega)).trans ((fr35 q (by omega)).trans ((fr34 q (by omega)).trans ((fr32 q (by omega)).trans ((fr31 q (by omega)).trans ((fr29 q (by omega)).trans ((fr28 q (by omega)).trans ((fr26 q (by omega)).trans ((fr25 q (by omega)).trans ((fr23 q (by omega)).trans ((fr22 q (by omega)).trans ((fr20 q (by omega)).trans ((fr19 q (by omega)).trans ((fr17 q (by omega)).trans ((fr16 q (by omega)).trans ((fr14 q (by omega)).trans ((fr13 q (by omega)).trans ((fr12 q (by omega)).trans ((fr11 q (by omega)).trans ((fr10 q (by omega)).trans ((fr9 q (by omega)).trans ((fr8 q (by omega)).trans ((fr7 q (by omega)).trans ((fr6 q (by omega)).trans ((fr5 q (by omega)).trans ((fr4 q (by omega)).trans ((fr3 q (by omega)).trans ((fr1 q (by omega)).trans rfl))))))))))))))))))))))))))))))))))))))))))⟩ w dX8_init_187 (Nat.le_of_ble_eq_true rfl) (Nat.le_of_ble_eq_true rfl)
