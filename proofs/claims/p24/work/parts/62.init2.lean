theorem hin_X4_init_4 : ∀ w ∈ u_ws RX4 TX4 6, w ∈ wsX4_init := by decide +kernel
theorem fl_X4_init_11 : Cond.fieldLink RX4 11 "PipersDesk$SetSearch" "joinCosts" "[[I" ∈ wsX4_init := by decide +kernel
theorem hinn_X4_init_1 : ∀ w ∈ u_ws RX1 TX1 1, w ∈ wsX4_init := by decide +kernel
theorem fl_X4_init_19 : Cond.fieldLink RX4 19 "PipersDesk$SetSearch" "row" "LPipersDesk$Leasts;" ∈ wsX4_init := by decide +kernel
theorem fl_X4_init_23 : Cond.fieldLink RX4 23 "PipersDesk$SetSearch" "order" "[I" ∈ wsX4_init := by decide +kernel
theorem fl_X4_init_27 : Cond.fieldLink RX4 27 "PipersDesk$SetSearch" "best" "[I" ∈ wsX4_init := by decide +kernel
abbrev rm_X4_init : Room := { frames := 2, cells := 21, slots := 179, locals := 60 }
set_option maxHeartbeats 1000000 in
set_option maxRecDepth 100000 in
/-- SetSearch() -/
theorem c_X4_init (l : Launch) (D : va_G) (G : Nat → ClassId) (ad : Nat → Nat) (N : Nat) (c : Nat → va_E) (hN : N = 99) (ho : c 98 = .inr (4, [.null, .null, .null, .null, .int (zI 0), .int (zI 0)])) : MC l yX4_init wsX4_init rm_X4_init [.ref (ad 98)] D G ad N c (qV D G (fun u : (Nat → Nat) × (Nat → va_E) => (u.1, 120, u.2)) (fun u => (∀ r, r < N → u.1 r = ad r) ∧ SS G u.1 u.2 0 0 (fun _ => 0) (fun _ => 0) ∧ (∀ i, i < 16 → ∃ g, isA 0 G (u.2 (100 + i)) 9 g) ∧ ∀ q, q < N → q ≠ 98 → u.2 q = c q)) 21 179 := by
  refine MCv.of (cc := cX4_init) (maxL := 1) (by decide) rfl (Nat.le_of_ble_eq_true rfl) ?_
  intro p e s m args below meth kc A Q hx hb hts hown hml hin2 fin H locs w ls hl
  have hown : s.vm.findClass RX4 = some m.cls := hown
  have hl : lv_has ls 1 [(0, .ref (ad 98))] := hl
  subst hN
  refine lv_aload_n hx hb dX4_init_0 rfl (lv_at hl 0 rfl) ?_
  refine W.objInit hx hb hown (hts (.methodLink RX4 3 objectInit) (by decide +kernel)) (hts (.instanceMethod objectInit) (by decide +kernel)) (hts (.code objectInit ⟨#[0xb1]⟩ 1 none) (by decide +kernel)) rfl (by rw [hml]; exact hl.1) rfl dX4_init_1 (Nat.le_of_ble_eq_true rfl) (Nat.le_of_ble_eq_true rfl) ?_
  refine W.eq (g2 := F0 m 4 ls []) rfl ?_
  refine lv_aload_n hx hb dX4_init_4 rfl (lv_at hl 0 rfl) ?_
  refine lv_bipush (v := zI (16)) hx hb dX4_init_5 (by decide +kernel) ?_
  refine lv_bipush (v := zI (9)) hx hb dX4_init_7 (by decide +kernel) ?_
  refine pw_mna hx hb w hown (hts (.classLink RX4 9 "[[I") (by decide +kernel)) (hts (.arrayClass .int) (by decide +kernel)) (z := 16) (y := 9) (n := 16) (r := 9) rfl rfl (by decide) (by decide) (Nat.le_of_ble_eq_true rfl) (Nat.le_of_ble_eq_true rfl) dX4_init_9 (fun H ad1 c1 ha1 hq1 hr1 fr1 w => ?_)
  obtain ⟨fo1, ho1, hof1⟩ := hq1
  rw [← ha1 98 (by omega)]
  rw [← ha1 98 (by omega)] at hl
  have k2 : c1 98 = .inr (4, [.null, .null, .null, .null, .int (zI 0), .int (zI 0)]) := by
    rw [fr1 98 (by omega)]
    exact ho
  have hof9 : ∀ i, i < 16 → fo1 i = some (ad1 (100 + i)) := fun i hi => by have := hof1 i hi; rw [show 99 + 1 + i = 100 + i from by omega] at this; exact this
  have hr9 : ∀ i, i < 16 → isA 0 G (c1 (100 + i)) 9 (fun _ => 0) := fun i hi => by have := hr1 i hi; rw [show 99 + 1 + i = 100 + i from by omega] at this; exact this
  refine pw_putF' (r := 98) (ci := 4) (C := RX4) (T := TX4) (Nf := 6) hx hb w hts hin_X4_init_4 tyX4 tyX4_ok nmX4 hown (by omega) k2 rfl 0 (by decide) (hts _ fl_X4_init_11) (fun _ h9 => h9) rfl hin2 rfl (ty := tyX4 0) (by decide +kernel) rfl rfl (Nat.le_of_ble_eq_true rfl) dX4_init_13 (fun H locs c3 hc3 fr3 w => ?_)
  refine lv_aload_n hx hb dX4_init_16 rfl (lv_at hl 0 rfl) ?_
  refine pw_new (ci := 1) (C := RX1) (T := TX1) (Nf := 1) (fs := [.null]) hx hb w hts hinn_X4_init_1 tyX1 tyX1_ok hown (hts (.classLink RX4 16 RX1) (by decide +kernel)) (hts (.instantiable RX1 1) (by decide +kernel)) (hts (.initialized RX1) (by decide +kernel)) rfl (fun j hj => by
    have h : j = 0 := by omega
    subst h
    rfl) (Nat.le_of_ble_eq_true rfl) (Nat.le_of_ble_eq_true rfl) dX4_init_17 (fun H ad4 c4 ha4 hc4 fr4 w => ?_)
  rw [← ha4 98 (by omega)]
  rw [← ha4 98 (by omega)] at hl
  have k5 : c4 98 = .inr (4, [.ref (ad4 99), .null, .null, .null, .int (zI 0), .int (zI 0)]) := by
    rw [fr4 98 (by omega), ha4 99 (by omega)]
    exact hc3
  refine lv_dup hx hb dX4_init_20 rfl ?_
  refine pw_cv w (pw_runI (b := ad4 116) (As := []) (rest := [.ref (ad4 116), .ref (ad4 98)]) w ⟨hx, hb, hml, hown, hts⟩ (c_X1_init l D G ad4 _ c4 (o := 116) rfl hc4) (cwI 0 hts gX4_init_X1_init rfl rfl rfl (hts (.initialized RX1) (by decide +kernel)) (hts (.methodLink RX4 18 yX1_init) (by decide +kernel)) (hts (.instanceMethod yX1_init) (by decide +kernel)) rfl (by decide +kernel) ⟨Nat.le_of_ble_eq_true rfl, Nat.le_of_ble_eq_true rfl⟩) rfl hl.1 rfl (lv_room (Nat.le_of_ble_eq_true rfl)) dX4_init_21 ⟨(Nat.le_of_ble_eq_true rfl), (Nat.le_of_ble_eq_true rfl)⟩) (fun u6 H locs hp6 w => ?_)
  obtain ⟨ad6, c6⟩ := u6
  obtain ⟨ha6, ho6, hc6, fr6⟩ := hp6
  have w : PW D G A s ad6 (118) c6 H locs := w
  have ha6 : ∀ r, r < 117 → ad6 r = ad4 r := ha6 -- ha6 hc
  have fr6 : ∀ q, (q < 117 ∧ q ≠ 116) → c6 q = c4 q := fun q hq => fr6 q hq.1 hq.2 -- fr6 w =>
  rw [← ha6 116 (by omega)]
  rw [← ha6 98 (by omega)]
  rw [← ha6 98 (by omega)] at hl
  have k7 : c6 98 = .inr (4, [.ref (ad6 99), .null, .null, .null, .int (zI 0), .int (zI 0)]) := by
    rw [fr6 98 (by omega), ha6 99 (by omega)]
    exact k5
  refine pw_putF' (r := 98) (ci := 4) (C := RX4) (T := TX4) (Nf := 6) hx hb w hts hin_X4_init_4 tyX4 tyX4_ok nmX4 hown (by omega) k7 rfl 1 (by decide) (hts _ fl_X4_init_19) (fun _ h9 => h9) rfl hin2 rfl (ty := tyX4 1) (by decide +kernel) rfl rfl (Nat.le_of_ble_eq_true rfl) dX4_init_24 (fun H locs c8 hc8 fr8 w => ?_)
  refine lv_aload_n hx hb dX4_init_27 rfl (lv_at hl 0 rfl) ?_
  refine lv_iconst (v := zI (4)) hx hb dX4_init_28 rfl ?_
  refine pw_newi 0 (atype := .int) (ty := .int) hx hb w rfl (hts (.arrayClass .int) (by decide +kernel)) (Or.inl ⟨rfl, rfl⟩) (z := 4) (n := 4) rfl (by decide) (Nat.le_of_ble_eq_true rfl) (Nat.le_of_ble_eq_true rfl) dX4_init_29 (fun H ad9 c9 ha9 hc9 fr9 w => ?_)
  rw [← ha9 98 (by omega)]
  rw [← ha9 98 (by omega)] at hl
  have k10 : c9 98 = .inr (4, [.ref (ad9 99), .ref (ad9 116), .null, .null, .int (zI 0), .int (zI 0)]) := by
    rw [fr9 98 (by omega), ha9 99 (by omega), ha9 116 (by omega)]
    exact hc8
  have k11 : c9 116 = .inr (1, [.ref (ad9 117)]) := by
    rw [fr9 116 (by omega), ha9 117 (by omega)]
    exact ((fr8 116 (by omega)).trans ho6)
  refine pw_putF' (r := 98) (ci := 4) (C := RX4) (T := TX4) (Nf := 6) hx hb w hts hin_X4_init_4 tyX4 tyX4_ok nmX4 hown (by omega) k10 rfl 2 (by decide) (hts _ fl_X4_init_23) (fun _ h9 => h9) rfl hin2 rfl (ty := tyX4 2) (by decide +kernel) rfl rfl (Nat.le_of_ble_eq_true rfl) dX4_init_31 (fun H locs c12 hc12 fr12 w => ?_)
  refine lv_aload_n hx hb dX4_init_34 rfl (lv_at hl 0 rfl) ?_
  refine lv_iconst (v := zI (4)) hx hb dX4_init_35 rfl ?_
  refine pw_newi 0 (atype := .int) (ty := .int) hx hb w rfl (hts (.arrayClass .int) (by decide +kernel)) (Or.inl ⟨rfl, rfl⟩) (z := 4) (n := 4) rfl (by decide) (Nat.le_of_ble_eq_true rfl) (Nat.le_of_ble_eq_true rfl) dX4_init_36 (fun H ad13 c13 ha13 hc13 fr13 w => ?_)
  rw [← ha13 98 (by omega)]
  rw [← ha13 98 (by omega)] at hl
  have k14 : c13 98 = .inr (4, [.ref (ad13 99), .ref (ad13 116), .ref (ad13 118), .null, .int (zI 0), .int (zI 0)]) := by
    rw [fr13 98 (by omega), ha13 99 (by omega), ha13 116 (by omega), ha13 118 (by omega)]
    exact hc12
  have k15 : c13 116 = .inr (1, [.ref (ad13 117)]) := by
    rw [fr13 116 (by omega), ha13 117 (by omega)]
    exact ((fr12 116 (by omega)).trans k11)
  refine pw_putF' (r := 98) (ci := 4) (C := RX4) (T := TX4) (Nf := 6) hx hb w hts hin_X4_init_4 tyX4 tyX4_ok nmX4 hown (by omega) k14 rfl 3 (by decide) (hts _ fl_X4_init_27) (fun _ h9 => h9) rfl hin2 rfl (ty := tyX4 3) (by decide +kernel) rfl rfl (Nat.le_of_ble_eq_true rfl) dX4_init_38 (fun H locs c16 hc16 fr16 w => ?_)
  exact fin (ad13, _, c16) (ad13, c16) _ _ _ _ _ _ rfl ⟨fun r hr => ((ha13 r (by omega)).trans ((ha9 r (by omega)).trans ((ha6 r (by omega)).trans ((ha4 r (by omega)).trans ((ha1 r (by omega)).trans rfl))))), ⟨hc16, ⟨_, ((fr16 99 (by omega)).trans ((fr13 99 (by omega)).trans ((fr12 99 (by omega)).trans ((fr9 99 (by omega)).trans ((fr8 99 (by omega)).trans ((fr6 99 (by omega)).trans ((fr4 99 (by omega)).trans ((fr3 99 (by omega)).trans ho1)))))))), fun i hi => by rw [hof9 i hi]; exact congrArg some (Eq.symm ((ha13 _ (by omega)).trans ((ha9 _ (by omega)).trans ((ha6 _ (by omega)).trans ((ha4 _ (by omega)).trans rfl)))))⟩, ((fr16 116 (by omega)).trans k15), ⟨_, (isA.fr (fr16 117 (by omega)) (isA.fr (fr13 117 (by omega)) (isA.fr (fr12 117 (by omega)) (isA.fr (fr9 117 (by omega)) (isA.fr (fr8 117 (by omega)) hc6)))))⟩, ((isA.fr (fr16 118 (by omega)) (isA.fr (fr13 118 (by omega)) (isA.fr (fr12 118 (by omega)) hc9)))).to (fun _ _ => rfl), ((isA.fr (fr16 119 (by omega)) hc13)).to (fun _ _ => rfl)⟩, (fun i hi => ⟨_, isA.fr ((fr16 (100 + i) (by omega)).trans ((fr13 (100 + i) (by omega)).trans ((fr12 (100 + i) (by omega)).trans ((fr9 (100 + i) (by omega)).trans ((fr8 (100 + i) (by omega)).trans ((fr6 (100 + i) (by omega)).trans ((fr4 (100 + i) (by omega)).trans ((fr3 (100 + i) (by omega)).trans rfl)))))))) (hr9 i hi)⟩), fun q hq hqo => ((fr16 q (by omega)).trans ((fr13 q (by omega)).trans ((fr12 q (by omega)).trans ((fr9 q (by omega)).trans ((fr8 q (by omega)).trans ((fr6 q (by omega)).trans ((fr4 q (by omega)).trans ((fr3 q (by omega)).trans ((fr1 q (by omega)).trans rfl)))))))))⟩ w dX4_init_41 (Nat.le_of_ble_eq_true rfl) (Nat.le_of_ble_eq_true rfl)
