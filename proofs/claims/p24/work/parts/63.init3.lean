theorem hin_X6_init_6 : ∀ w ∈ u_ws RX6 TX6 4, w ∈ wsX6_init := by decide +kernel
theorem fl_X6_init_11 : Cond.fieldLink RX6 11 "PipersDesk$TuneChoices" "rows" "[LPipersDesk$Leasts;" ∈ wsX6_init := by decide +kernel
theorem hinn_X6_init_1 : ∀ w ∈ u_ws RX1 TX1 1, w ∈ wsX6_init := by decide +kernel
theorem fl_X6_init_18 : Cond.fieldLink RX6 18 "PipersDesk$TuneChoices" "empties" "LPipersDesk$Leasts;" ∈ wsX6_init := by decide +kernel
theorem fl_X6_init_22 : Cond.fieldLink RX6 22 "PipersDesk$TuneChoices" "emptyCosts" "[I" ∈ wsX6_init := by decide +kernel
theorem fl_X6_init_26 : Cond.fieldLink RX6 26 "PipersDesk$TuneChoices" "counts" "[I" ∈ wsX6_init := by decide +kernel
abbrev rm_X6_init : Room := { frames := 2, cells := 25, slots := 138, locals := 60 }
set_option maxHeartbeats 1000000 in
set_option maxRecDepth 100000 in
/-- TuneChoices() -/
theorem c_X6_init (l : Launch) (D : va_G) (G : Nat → ClassId) (ad : Nat → Nat) (N : Nat) (c : Nat → va_E) (hN : N = 73) (ho : c 72 = .inr (6, [.null, .null, .null, .null])) : MC l yX6_init wsX6_init rm_X6_init [.ref (ad 72)] D G ad N c (qV D G (fun u : (Nat → Nat) × (Nat → va_E) => (u.1, 98, u.2)) (fun u => (∀ r, r < N → u.1 r = ad r) ∧ TC G u.1 u.2 ∧ ∀ q, q < N → q ≠ 72 → u.2 q = c q)) 25 138 := by
  refine MCv.of (cc := cX6_init) (maxL := 2) (by decide) rfl (Nat.le_of_ble_eq_true rfl) ?_
  intro p e s m args below meth kc A Q hx hb hts hown hml hin2 fin H locs w ls hl
  have hown : s.vm.findClass RX6 = some m.cls := hown
  have hl : lv_has ls 2 [(0, .ref (ad 72))] := hl
  subst hN
  refine lv_aload_n hx hb dX6_init_0 rfl (lv_at hl 0 rfl) ?_
  refine W.objInit hx hb hown (hts (.methodLink RX6 3 objectInit) (by decide +kernel)) (hts (.instanceMethod objectInit) (by decide +kernel)) (hts (.code objectInit ⟨#[0xb1]⟩ 1 none) (by decide +kernel)) rfl (by rw [hml]; exact hl.1) rfl dX6_init_1 (Nat.le_of_ble_eq_true rfl) (Nat.le_of_ble_eq_true rfl) ?_
  refine W.eq (g2 := F0 m 4 ls []) rfl ?_
  refine lv_aload_n hx hb dX6_init_4 rfl (lv_at hl 0 rfl) ?_
  refine lv_bipush (v := zI (10)) hx hb dX6_init_5 (by decide +kernel) ?_
  refine pw_newq 3 hx hb w hown (hts (.classLink RX6 9 RX1) (by decide +kernel)) w.2.2.2.2.2.2.2.2.2.2.2.1 rfl (z := 10) (n := 10) rfl (by decide) (Nat.le_of_ble_eq_true rfl) (Nat.le_of_ble_eq_true rfl) dX6_init_7 (fun H ad1 c1 ha1 hc1 fr1 w => ?_)
  rw [← ha1 72 (by omega)]
  rw [← ha1 72 (by omega)] at hl
  have k2 : c1 72 = .inr (6, [.null, .null, .null, .null]) := by
    rw [fr1 72 (by omega)]
    exact ho
  refine pw_putF' (r := 72) (ci := 6) (C := RX6) (T := TX6) (Nf := 4) hx hb w hts hin_X6_init_6 tyX6 tyX6_ok nmX6 hown (by omega) k2 rfl 0 (by decide) (hts _ fl_X6_init_11) (fun _ h9 => h9) rfl hin2 rfl (ty := tyX6 0) (by decide +kernel) rfl rfl (Nat.le_of_ble_eq_true rfl) dX6_init_10 (fun H locs c3 hc3 fr3 w => ?_)
  refine lv_iconst (v := zI (0)) hx hb dX6_init_13 rfl ?_
  refine lv_istore_n (lv' := [(1, .int (zI 0)), (0, .ref (ad1 72))]) hx hb dX6_init_14 rfl hl (by decide) rfl (fun ls hl => ?_)
  have lp : ∀ (f i : Nat) (adL : Nat → Nat) (cL : Nat → va_E) (H : Heap) (locs : List Loc) (ls : Array Slot), i ≤ 10 → (∀ r, r < 74 → adL r = ad1 r) → cL 72 = .inr (6, [.ref (adL 73), .null, .null, .null]) → (∃ fo, cL 73 = rfs 3 G 10 fo ∧ ∀ k, k < i → fo k = some (adL (74 + 2 * k))) → (∀ k, k < i → cL (74 + 2 * k) = .inr (1, [.ref (adL (74 + 2 * k + 1))]) ∧ isA 0 G (cL (74 + 2 * k + 1)) 9 (fun _ => 0)) → (∀ q, q < 72 → cL q = c q) → 10 < i + f → PW D G A s adL (74 + 2 * i) cL H locs → lv_has ls 2 [(1, .int (zI (i : Int))), (0, .ref (adL 72))] → W p l e rm_X6_init s m args below meth kc H locs (1 + 2 * i) (10 + 10 * i) Q (F0 m 15 ls []) := by
    intro f
    induction f with
    | zero => intro i adL cL H locs ls h9 hA h72 h73 hL hf hfu w hl; omega
    | succ f ih =>
      intro i adL cL H locs ls h9 hA h72 h73 hL hf hfu w hl
      obtain ⟨fo, h73, hfo⟩ := h73
      refine lv_iload_n hx hb dX6_init_15 rfl (lv_at hl 0 rfl) ?_
      refine lv_bipush (v := zI (9)) hx hb dX6_init_16 (by decide +kernel) ?_
      refine pz_icmpgt (tgt := 40) hx hb dX6_init_18 (by decide) (⟨by omega, by omega⟩) (⟨by omega, by omega⟩) (fun hi9 => ?_) (fun hi9 => ?_)
      · have i9 : i = 10 := by omega
        subst i9
        have w : PW D G A s adL 94 cL H locs := w
        refine lv_aload_n hx hb dX6_init_40 rfl (lv_at hl 1 rfl) ?_
        refine pw_new (ci := 1) (C := RX1) (T := TX1) (Nf := 1) (fs := [.null]) hx hb w hts hinn_X6_init_1 tyX1 tyX1_ok hown (hts (.classLink RX6 9 RX1) (by decide +kernel)) (hts (.instantiable RX1 1) (by decide +kernel)) (hts (.initialized RX1) (by decide +kernel)) rfl (fun j hj => by
          have h : j = 0 := by omega
          subst h
          rfl) (Nat.le_of_ble_eq_true rfl) (Nat.le_of_ble_eq_true rfl) dX6_init_41 (fun H ad4 c4 ha4 hc4 fr4 w => ?_)
        rw [← ha4 72 (by omega)]
        rw [← ha4 72 (by omega)] at hl
        have k5 : c4 72 = .inr (6, [.ref (ad4 73), .null, .null, .null]) := by
          rw [fr4 72 (by omega), ha4 73 (by omega)]
          exact h72
        refine lv_dup hx hb dX6_init_44 rfl ?_
        refine pw_cv w (pw_runI (b := ad4 94) (As := []) (rest := [.ref (ad4 94), .ref (ad4 72)]) w ⟨hx, hb, hml, hown, hts⟩ (c_X1_init l D G ad4 _ c4 (o := 94) rfl hc4) (cwI 0 hts gX6_init_X1_init rfl rfl rfl (hts (.initialized RX1) (by decide +kernel)) (hts (.methodLink RX6 17 yX1_init) (by decide +kernel)) (hts (.instanceMethod yX1_init) (by decide +kernel)) rfl (by decide +kernel) ⟨Nat.le_of_ble_eq_true rfl, Nat.le_of_ble_eq_true rfl⟩) rfl hl.1 rfl (lv_room (Nat.le_of_ble_eq_true rfl)) dX6_init_45 ⟨(Nat.le_of_ble_eq_true rfl), (Nat.le_of_ble_eq_true rfl)⟩) (fun u6 H locs hp6 w => ?_)
        obtain ⟨ad6, c6⟩ := u6
        obtain ⟨ha6, ho6, hc6, fr6⟩ := hp6
        have w : PW D G A s ad6 (96) c6 H locs := w
        have ha6 : ∀ r, r < 95 → ad6 r = ad4 r := ha6 -- ha6 hc
        have fr6 : ∀ q, (q < 95 ∧ q ≠ 94) → c6 q = c4 q := fun q hq => fr6 q hq.1 hq.2 -- fr6 w =>
        rw [← ha6 94 (by omega)]
        rw [← ha6 72 (by omega)]
        rw [← ha6 72 (by omega)] at hl
        have k7 : c6 72 = .inr (6, [.ref (ad6 73), .null, .null, .null]) := by
          rw [fr6 72 (by omega), ha6 73 (by omega)]
          exact k5
        refine pw_putF' (r := 72) (ci := 6) (C := RX6) (T := TX6) (Nf := 4) hx hb w hts hin_X6_init_6 tyX6 tyX6_ok nmX6 hown (by omega) k7 rfl 1 (by decide) (hts _ fl_X6_init_18) (fun _ h9 => h9) rfl hin2 rfl (ty := tyX6 1) (by decide +kernel) rfl rfl (Nat.le_of_ble_eq_true rfl) dX6_init_48 (fun H locs c8 hc8 fr8 w => ?_)
        refine lv_aload_n hx hb dX6_init_51 rfl (lv_at hl 1 rfl) ?_
        refine lv_bipush (v := zI (9)) hx hb dX6_init_52 (by decide +kernel) ?_
        refine pw_newi 0 (atype := .int) (ty := .int) hx hb w rfl (hts (.arrayClass .int) (by decide +kernel)) (Or.inl ⟨rfl, rfl⟩) (z := 9) (n := 9) rfl (by decide) (Nat.le_of_ble_eq_true rfl) (Nat.le_of_ble_eq_true rfl) dX6_init_54 (fun H ad9 c9 ha9 hc9 fr9 w => ?_)
        rw [← ha9 72 (by omega)]
        rw [← ha9 72 (by omega)] at hl
        have k10 : c9 72 = .inr (6, [.ref (ad9 73), .ref (ad9 94), .null, .null]) := by
          rw [fr9 72 (by omega), ha9 73 (by omega), ha9 94 (by omega)]
          exact hc8
        have k11 : c9 94 = .inr (1, [.ref (ad9 95)]) := by
          rw [fr9 94 (by omega), ha9 95 (by omega)]
          exact ((fr8 94 (by omega)).trans ho6)
        refine pw_putF' (r := 72) (ci := 6) (C := RX6) (T := TX6) (Nf := 4) hx hb w hts hin_X6_init_6 tyX6 tyX6_ok nmX6 hown (by omega) k10 rfl 2 (by decide) (hts _ fl_X6_init_22) (fun _ h9 => h9) rfl hin2 rfl (ty := tyX6 2) (by decide +kernel) rfl rfl (Nat.le_of_ble_eq_true rfl) dX6_init_56 (fun H locs c12 hc12 fr12 w => ?_)
        refine lv_aload_n hx hb dX6_init_59 rfl (lv_at hl 1 rfl) ?_
        refine lv_bipush (v := zI (9)) hx hb dX6_init_60 (by decide +kernel) ?_
        refine pw_newi 0 (atype := .int) (ty := .int) hx hb w rfl (hts (.arrayClass .int) (by decide +kernel)) (Or.inl ⟨rfl, rfl⟩) (z := 9) (n := 9) rfl (by decide) (Nat.le_of_ble_eq_true rfl) (Nat.le_of_ble_eq_true rfl) dX6_init_62 (fun H ad13 c13 ha13 hc13 fr13 w => ?_)
        rw [← ha13 72 (by omega)]
        rw [← ha13 72 (by omega)] at hl
        have k14 : c13 72 = .inr (6, [.ref (ad13 73), .ref (ad13 94), .ref (ad13 96), .null]) := by
          rw [fr13 72 (by omega), ha13 73 (by omega), ha13 94 (by omega), ha13 96 (by omega)]
          exact hc12
        have k15 : c13 94 = .inr (1, [.ref (ad13 95)]) := by
          rw [fr13 94 (by omega), ha13 95 (by omega)]
          exact ((fr12 94 (by omega)).trans k11)
        refine pw_putF' (r := 72) (ci := 6) (C := RX6) (T := TX6) (Nf := 4) hx hb w hts hin_X6_init_6 tyX6 tyX6_ok nmX6 hown (by omega) k14 rfl 3 (by decide) (hts _ fl_X6_init_26) (fun _ h9 => h9) rfl hin2 rfl (ty := tyX6 3) (by decide +kernel) rfl rfl (Nat.le_of_ble_eq_true rfl) dX6_init_64 (fun H locs c16 hc16 fr16 w => ?_)
        have hA9 : ∀ r, r < 94 → ad13 r = adL r := fun r hr => ((ha13 r (by omega)).trans ((ha9 r (by omega)).trans ((ha6 r (by omega)).trans ((ha4 r (by omega)).trans rfl))))
        have hF9 : ∀ q, q < 94 → q ≠ 72 → c16 q = cL q := fun q hq h72 => ((fr16 q (by omega)).trans ((fr13 q (by omega)).trans ((fr12 q (by omega)).trans ((fr9 q (by omega)).trans ((fr8 q (by omega)).trans ((fr6 q (by omega)).trans ((fr4 q (by omega)).trans rfl)))))))
        exact fin (ad13, _, c16) (ad13, c16) _ _ _ _ _ _ rfl ⟨fun r hr => (hA9 r (by omega)).trans ((hA r (by omega)).trans (ha1 r (by omega))), ⟨hc16, ⟨fo, (hF9 73 (by omega) (by omega)).trans h73, fun i hi => (hfo i hi).trans (congrArg some (hA9 _ (by omega)).symm)⟩, fun i hi => ⟨(show c16 (74 + 2 * i) = .inr (1, [.ref (ad13 (74 + 2 * i + 1))]) from by rw [hF9 _ (by omega) (by omega), (hL i hi).1, hA9 _ (by omega)]), _, isA.fr (hF9 _ (by omega) (by omega)) (hL i hi).2⟩, ((fr16 94 (by omega)).trans k15), ⟨_, (isA.fr (fr16 95 (by omega)) (isA.fr (fr13 95 (by omega)) (isA.fr (fr12 95 (by omega)) (isA.fr (fr9 95 (by omega)) (isA.fr (fr8 95 (by omega)) hc6)))))⟩, ⟨_, (isA.fr (fr16 96 (by omega)) (isA.fr (fr13 96 (by omega)) (isA.fr (fr12 96 (by omega)) hc9)))⟩, _, (isA.fr (fr16 97 (by omega)) hc13)⟩, fun q hq hqo => (hF9 q (by omega) hqo).trans (hf q (by omega))⟩ w dX6_init_67 (Nat.le_of_ble_eq_true rfl) (Nat.le_of_ble_eq_true rfl)
      · refine lv_aload_n hx hb dX6_init_21 rfl (lv_at hl 1 rfl) ?_
        refine pw_get (r := 72) (ci := 6) (C := RX6) (T := TX6) (Nf := 4) hx hb w hts hin_X6_init_6 hown (by omega) h72 rfl 0 (by decide) (hts _ fl_X6_init_11) (fun _ h9 => h9) rfl dX6_init_22 ?_
        refine lv_iload_n hx hb dX6_init_25 rfl (lv_at hl 0 rfl) ?_
        refine pw_new (ci := 1) (C := RX1) (T := TX1) (Nf := 1) (fs := [.null]) hx hb w hts hinn_X6_init_1 tyX1 tyX1_ok hown (hts (.classLink RX6 9 RX1) (by decide +kernel)) (hts (.instantiable RX1 1) (by decide +kernel)) (hts (.initialized RX1) (by decide +kernel)) rfl (fun j hj => by
          have h : j = 0 := by omega
          subst h
          rfl) (by first | (show _ ≤ 25; omega) | (show _ ≤ 138; omega)) (by first | (show _ ≤ 25; omega) | (show _ ≤ 138; omega)) dX6_init_26 (fun H ad17 c17 ha17 hc17 fr17 w => ?_)
        rw [← ha17 73 (by omega)]
        rw [← ha17 72 (by omega)] at hl
        have k18 : c17 72 = .inr (6, [.ref (ad17 73), .null, .null, .null]) := by
          rw [fr17 72 (by omega), ha17 73 (by omega)]
          exact h72
        refine lv_dup hx hb dX6_init_29 rfl ?_
        refine pw_cv w (pw_runI (b := ad17 (74 + 2 * i)) (As := []) (rest := [.ref (ad17 (74 + 2 * i)), .int (zI (i : Int)), .ref (ad17 73)]) w ⟨hx, hb, hml, hown, hts⟩ (c_X1_init l D G ad17 _ c17 (o := 74 + 2 * i) rfl hc17) (cwI 0 hts gX6_init_X1_init rfl rfl rfl (hts (.initialized RX1) (by decide +kernel)) (hts (.methodLink RX6 17 yX1_init) (by decide +kernel)) (hts (.instanceMethod yX1_init) (by decide +kernel)) rfl (by decide +kernel) ⟨Nat.le_of_ble_eq_true rfl, Nat.le_of_ble_eq_true rfl⟩) rfl hl.1 rfl (lv_room (Nat.le_of_ble_eq_true rfl)) dX6_init_30 ⟨(by first | (show _ ≤ 25; omega) | (show _ ≤ 138; omega)), (by first | (show _ ≤ 25; omega) | (show _ ≤ 138; omega))⟩) (fun u19 H locs hp19 w => ?_)
        obtain ⟨ad19, c19⟩ := u19
        obtain ⟨ha19, ho19, hc19, fr19⟩ := hp19
        have w : PW D G A s ad19 (74 + 2 * i + 1 + 1) c19 H locs := w
        have ha19 : ∀ r, r < 74 + 2 * i + 1 → ad19 r = ad17 r := ha19 -- ha19 hc
        have fr19 : ∀ q, (q < 74 + 2 * i + 1 ∧ q ≠ 74 + 2 * i) → c19 q = c17 q := fun q hq => fr19 q hq.1 hq.2 -- fr19 w =>
        rw [← ha19 (74 + 2 * i) (by omega)]
        rw [← ha19 73 (by omega)]
        rw [← ha19 72 (by omega)] at hl
        have k20 : c19 72 = .inr (6, [.ref (ad19 73), .null, .null, .null]) := by
          rw [fr19 72 (by omega), ha19 73 (by omega)]
          exact k18
        have hA9 : ∀ r, r < 74 + 2 * i → ad19 r = adL r := fun r hr => ((ha19 r (by omega)).trans ((ha17 r (by omega)).trans rfl))
        have hF9 : ∀ q, q < 74 + 2 * i → c19 q = cL q := fun q hq => ((fr19 q (by omega)).trans ((fr17 q (by omega)).trans rfl))
        refine pw_aast (r := 73) (q := 74 + 2 * i) (ci := 1) (kd := 3) (n := 10) (f := fo) (j := i) hx hb w (by omega) (by omega) ((hF9 73 (by omega)).trans h73) ho19 rfl rfl rfl (by omega) (by decide) dX6_init_33 (fun H locs w => ?_)
        refine pz_iinc (lv' := [(1, .int (zI ((i + 1 : Nat) : Int))), (0, .ref (ad19 72))]) hx hb dX6_init_34 hl (j := 0) rfl ((i + 1 : Nat) : Int) (by omega) (by decide) rfl (fun ls hl => ?_)
        refine lv_goto (tgt := 15) hx hb dX6_init_37 (by decide) ?_
        rw [show 1 + 2 * i + 1 + 1 = 1 + 2 * (i + 1) from by omega, show 10 + 10 * i + 1 + 9 = 10 + 10 * (i + 1) from by omega]
        exact ih (i + 1) ad19 (va_up c19 73 (rfs 3 G 10 (va_up fo i (some (ad19 (74 + 2 * i)))))) H locs ls (by omega) (fun r hr => (hA9 r (by omega)).trans (hA r hr)) ((va_up_ne _ _ (by omega)).trans k20) ⟨va_up fo i (some (ad19 (74 + 2 * i))), va_up_self _ _ _, fun k hk => by
          by_cases e : k = i
          · rw [e, va_up_self]
          · rw [va_up_ne _ _ e, hfo k (by omega), hA9 _ (by omega)]⟩ (fun k hk => by
          by_cases e : k = i
          · rw [e]
            exact ⟨(va_up_ne _ _ (by omega)).trans ho19, isA.fr (va_up_ne _ _ (by omega)) hc19⟩
          · have h := hL k (by omega)
            exact ⟨by rw [va_up_ne _ _ (by omega), hF9 _ (by omega), h.1, hA9 _ (by omega)], isA.fr ((va_up_ne _ _ (by omega)).trans (hF9 _ (by omega))) h.2⟩) (fun q hq => (va_up_ne _ _ (by omega)).trans ((hF9 q (by omega)).trans (hf q hq))) (by omega) (by rw [show 74 + 2 * (i + 1) = 74 + 2 * i + 1 + 1 from by omega]; exact w) (lv_sub hl [0, 1] rfl)
  exact lp 11 0 ad1 c3 H locs ls (by omega) (fun _ _ => rfl) hc3 ⟨_, (fr3 73 (by omega)).trans hc1, fun k hk => absurd hk (Nat.not_lt_zero k)⟩ (fun k hk => absurd hk (Nat.not_lt_zero k)) (fun q hq => (fr3 q (by omega)).trans (fr1 q (by omega))) (by omega) w (lv_sub hl [0, 1] rfl)
