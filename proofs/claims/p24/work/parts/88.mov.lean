/-! OURS: movements, as the law asks of them -/
theorem mvN_sym : ∀ a, a < 9 → ∀ b, b < 9 → mvN a b = mvN b a := by decide +kernel
theorem mvN_tri : ∀ a, a < 9 → ∀ b, b < 9 → ∀ c, c < 9 → mvN a b ≤ mvN a c + mvN c b := by decide +kernel
theorem mvN_par : ∀ a, a < 9 → ∀ b, b < 9 → ∀ c, c < 9 → (mvN a b + mvN b c + mvN a c) % 2 = 0 := by decide +kernel
theorem mvN_zero : ∀ a, a < 9 → ∀ b, b < 9 → (mvN a b = 0 ↔ a = b) := by decide +kernel
theorem mv_sym {a b : Nat} (ha : a < 9) (hb : b < 9) : mv a b = mv b a := congrArg Int.ofNat (mvN_sym a ha b hb)
theorem mv_tri {a b c : Nat} (ha : a < 9) (hb : b < 9) (hc : c < 9) : mv a b ≤ mv a c + mv c b := by
  have := mvN_tri a ha b hb c hc
  unfold mv
  omega
theorem mv_par {a b c : Nat} (ha : a < 9) (hb : b < 9) (hc : c < 9) : (mv a b + mv b c + mv a c) % 2 = 0 := by
  have := mvN_par a ha b hb c hc
  unfold mv
  omega
theorem mv_zero {a b : Nat} (ha : a < 9) (hb : b < 9) : mv a b = 0 ↔ a = b := by
  have := mvN_zero a ha b hb
  unfold mv
  omega
theorem crs_sym (a b : Nat) : crs a b = crs b a := by
  unfold crs
  rw [Bool.and_comm]
theorem brd_sym (lim : Int) {a b : Nat} (ha : a < 9) (hb : b < 9) : brd lim a b = brd lim b a := by
  unfold brd
  rw [crs_sym, mv_sym ha hb]
theorem brd_same (lim : Int) {a b : Nat} (_ : a < 9) (hb : b < 9) (h : a = b) : brd lim a b = false := by
  subst h
  unfold brd
  rw [crs_same a hb, Bool.false_and]
theorem bnd_if {p : Prop} [Decidable p] : bnd (if p then 1 else 0) := by
  split
  · exact ⟨by decide, by decide⟩
  · exact ⟨by decide, by decide⟩
theorem rem2N : ∀ n : Nat, n < 25 → n % 2 = 0 → zI (n : Int) - zI (n : Int) / zI 2 * zI 2 = zI 0 := by decide +kernel
theorem rem2 {z : Int} (h0 : 0 ≤ z) (h1 : z ≤ 24) (h2 : z % 2 = 0) : zI z - zI z / zI 2 * zI 2 = zI 0 := by
  obtain ⟨n, rfl⟩ : ∃ n : Nat, z = (n : Int) := ⟨z.toNat, by omega⟩
  exact rem2N n (by omega) (by omega)
abbrev rm_L_isMovementSo : Room := { frames := 10, cells := 0, slots := 0, locals := 300 }
set_option maxHeartbeats 4000000 in
set_option maxRecDepth 100000 in
/-- movements, as the law asks of them -/
theorem c_L_isMovementSo (l : Launch) (D : va_G) (G : Nat → ClassId) (ad : Nat → Nat) (N : Nat) (c : Nat → va_E) {lim : Int} {no dn : Nat} {gn : Nat → Nat} {gg : Nat → Nat → Nat} {dg nn : Nat → Nat} {pt ln : Nat → Nat → Nat} {wi : Nat → Nat → Int} (hNe : N = 120 + 2 * no) (hD : DK G ad c lim no dn gn gg dg nn pt ln wi) (hV : SV lim no dn gn gg dg nn pt ln wi) {x y z : Nat} (hX : x < 9) (hY : y < 9) (hZ : z < 9) : MC l yL_isMovementSo wsL_isMovementSo rm_L_isMovementSo [.ref (ad 0), .int (zI (x : Int)), .int (zI (y : Int)), .int (zI (z : Int))] D G ad N c (qI D G (fx ad N) (fun v c1 => v = zI 1 ∧ DK G ad c1 lim no dn gn gg dg nn pt ln wi)) 0 0 := by
  have hN : 120 + 2 * no ≤ N := by omega
  refine MCz.of (cc := cL_isMovementSo) (maxL := 5) (by decide) rfl (Nat.le_of_ble_eq_true rfl) ?_
  intro p e s m args below meth kc A Q hx hb hts hown hml fin H locs w ls hl
  have hown : s.vm.findClass RL = some m.cls := hown
  have hl : lv_has ls 5 [(0, .ref (ad 0)), (1, .int (zI (x : Int))), (2, .int (zI (y : Int))), (3, .int (zI (z : Int)))] := hl
  have bxy := mv_bd (a := x) (b := y) hX hY
  have byx := mv_bd (a := y) (b := x) hY hX
  have bxz := mv_bd (a := x) (b := z) hX hZ
  have bzy := mv_bd (a := z) (b := y) hZ hY
  have byz := mv_bd (a := y) (b := z) hY hZ
  have e1 := mv_sym hX hY
  have e2 := mv_tri hX hY hZ
  have e3 := mv_par hX hY hZ
  have e4 := mv_zero hX hY
  have e5 := brd_sym lim hX hY
  have e6 := brd_same lim hX hY
  refine lv_aload_n hx hb dL_isMovementSo_0 rfl (lv_at hl 0 rfl) ?_
  refine lv_iload_n hx hb dL_isMovementSo_1 rfl (lv_at hl 1 rfl) ?_
  refine lv_iload_n hx hb dL_isMovementSo_2 rfl (lv_at hl 2 rfl) ?_
  refine pw_ci w (pw_runV (r := 0) (ci := 7) (As := [.int (zI (x : Int)), .int (zI (y : Int))]) (rest := []) w ⟨hx, hb, hml, hown, hts⟩ (c_X7_cost l D G ad N c hN hD hV (x := x) (y := y) hX hY) (cwV 2 hts gL_isMovementSo_X7_cost rfl rfl rfl (by decide +kernel) ⟨Nat.le_of_ble_eq_true rfl, Nat.le_of_ble_eq_true rfl⟩) (by omega) hD.1 rfl rfl hl.1 rfl (lv_room (Nat.le_of_ble_eq_true rfl)) dL_isMovementSo_3 ⟨Nat.le_of_ble_eq_true rfl, Nat.le_of_ble_eq_true rfl⟩) (fun r_ c1 H locs hp w => ?_)
  have w : PW D G A s ad N c1 H locs := w
  obtain ⟨hv, hD1, -⟩ := hp
  subst hv
  refine lv_istore (lv' := [(4, .int (zI (mv x y))), (0, .ref (ad 0)), (1, .int (zI (x : Int))), (2, .int (zI (y : Int))), (3, .int (zI (z : Int)))]) hx hb dL_isMovementSo_6 hl (by decide) rfl (fun ls hl => ?_)
  refine lv_iload hx hb dL_isMovementSo_8 (lv_at hl 0 rfl) ?_
  refine lv_aload_n hx hb dL_isMovementSo_10 rfl (lv_at hl 1 rfl) ?_
  refine lv_iload_n hx hb dL_isMovementSo_11 rfl (lv_at hl 3 rfl) ?_
  refine lv_iload_n hx hb dL_isMovementSo_12 rfl (lv_at hl 2 rfl) ?_
  refine pw_ci w (pw_runV (r := 0) (ci := 7) (As := [.int (zI (y : Int)), .int (zI (x : Int))]) (rest := [.int (zI (mv x y))]) w ⟨hx, hb, hml, hown, hts⟩ (c_X7_cost l D G ad N c1 hN hD1 hV (x := y) (y := x) hY hX) (cwV 2 hts gL_isMovementSo_X7_cost rfl rfl rfl (by decide +kernel) ⟨Nat.le_of_ble_eq_true rfl, Nat.le_of_ble_eq_true rfl⟩) (by omega) hD1.1 rfl rfl hl.1 rfl (lv_room (Nat.le_of_ble_eq_true rfl)) dL_isMovementSo_13 ⟨Nat.le_of_ble_eq_true rfl, Nat.le_of_ble_eq_true rfl⟩) (fun r_ c2 H locs hp w => ?_)
  have w : PW D G A s ad N c2 H locs := w
  obtain ⟨hv, hD2, -⟩ := hp
  subst hv
  refine pz_icmpne (tgt := 118) hx hb dL_isMovementSo_16 (by decide) (⟨by omega, by omega⟩) (⟨by omega, by omega⟩) (fun hq1 => ?_) (fun hq1 => ?_)
  · omega
  · refine lv_iload hx hb dL_isMovementSo_19 (lv_at hl 0 rfl) ?_
    refine pz_ifne (tgt := 28) hx hb dL_isMovementSo_21 (by decide) (⟨by omega, by omega⟩) (fun hm0 => ?_) (fun hm0 => ?_)
    · refine lv_iconst (v := zI (0)) hx hb dL_isMovementSo_28 rfl ?_
      refine lv_iload_n hx hb dL_isMovementSo_29 rfl (lv_at hl 2 rfl) ?_
      refine lv_iload_n hx hb dL_isMovementSo_30 rfl (lv_at hl 3 rfl) ?_
      refine pz_icmpne (tgt := 38) hx hb dL_isMovementSo_31 (by decide) (⟨by omega, by omega⟩) (⟨by omega, by omega⟩) (fun hq2 => ?_) (fun hq2 => ?_)
      · refine lv_iconst (v := zI (0)) hx hb dL_isMovementSo_38 rfl ?_
        refine pz_icmpne (tgt := 118) hx hb dL_isMovementSo_39 (by decide) (⟨by omega, by omega⟩) (⟨by omega, by omega⟩) (fun hq3 => ?_) (fun hq3 => ?_)
        · omega
        · refine lv_iload hx hb dL_isMovementSo_42 (lv_at hl 0 rfl) ?_
          refine lv_aload_n hx hb dL_isMovementSo_44 rfl (lv_at hl 1 rfl) ?_
          refine lv_iload_n hx hb dL_isMovementSo_45 rfl (lv_at hl 2 rfl) ?_
          refine lv_iload_n hx hb dL_isMovementSo_46 rfl (lv_at hl 4 rfl) ?_
          refine pw_ci w (pw_runV (r := 0) (ci := 7) (As := [.int (zI (x : Int)), .int (zI (z : Int))]) (rest := [.int (zI (mv x y))]) w ⟨hx, hb, hml, hown, hts⟩ (c_X7_cost l D G ad N c2 hN hD2 hV (x := x) (y := z) hX hZ) (cwV 2 hts gL_isMovementSo_X7_cost rfl rfl rfl (by decide +kernel) ⟨Nat.le_of_ble_eq_true rfl, Nat.le_of_ble_eq_true rfl⟩) (by omega) hD2.1 rfl rfl hl.1 rfl (lv_room (Nat.le_of_ble_eq_true rfl)) dL_isMovementSo_47 ⟨Nat.le_of_ble_eq_true rfl, Nat.le_of_ble_eq_true rfl⟩) (fun r_ c3 H locs hp w => ?_)
          have w : PW D G A s ad N c3 H locs := w
          obtain ⟨hv, hD3, -⟩ := hp
          subst hv
          refine lv_aload_n hx hb dL_isMovementSo_50 rfl (lv_at hl 1 rfl) ?_
          refine lv_iload_n hx hb dL_isMovementSo_51 rfl (lv_at hl 4 rfl) ?_
          refine lv_iload_n hx hb dL_isMovementSo_52 rfl (lv_at hl 3 rfl) ?_
          refine pw_ci w (pw_runV (r := 0) (ci := 7) (As := [.int (zI (z : Int)), .int (zI (y : Int))]) (rest := [.int (zI (mv x z)), .int (zI (mv x y))]) w ⟨hx, hb, hml, hown, hts⟩ (c_X7_cost l D G ad N c3 hN hD3 hV (x := z) (y := y) hZ hY) (cwV 2 hts gL_isMovementSo_X7_cost rfl rfl rfl (by decide +kernel) ⟨Nat.le_of_ble_eq_true rfl, Nat.le_of_ble_eq_true rfl⟩) (by omega) hD3.1 rfl rfl hl.1 rfl (lv_room (Nat.le_of_ble_eq_true rfl)) dL_isMovementSo_53 ⟨Nat.le_of_ble_eq_true rfl, Nat.le_of_ble_eq_true rfl⟩) (fun r_ c4 H locs hp w => ?_)
          have w : PW D G A s ad N c4 H locs := w
          obtain ⟨hv, hD4, -⟩ := hp
          subst hv
          refine pz_iadd hx hb dL_isMovementSo_56 ?_
          refine pz_icmpgt (tgt := 118) hx hb dL_isMovementSo_57 (by decide) (⟨by omega, by omega⟩) (⟨by omega, by omega⟩) (fun hq4 => ?_) (fun hq4 => ?_)
          · omega
          · refine lv_aload_n hx hb dL_isMovementSo_60 rfl (lv_at hl 1 rfl) ?_
            refine lv_iload_n hx hb dL_isMovementSo_61 rfl (lv_at hl 2 rfl) ?_
            refine lv_iload_n hx hb dL_isMovementSo_62 rfl (lv_at hl 3 rfl) ?_
            refine pw_ci w (pw_runV (r := 0) (ci := 7) (As := [.int (zI (x : Int)), .int (zI (y : Int))]) (rest := []) w ⟨hx, hb, hml, hown, hts⟩ (c_X7_isBarred l D G ad N c4 hN hD4 hV (x := x) (y := y) hX hY) (cwV 2 hts gL_isMovementSo_X7_isBarred rfl rfl rfl (by decide +kernel) ⟨Nat.le_of_ble_eq_true rfl, Nat.le_of_ble_eq_true rfl⟩) (by omega) hD4.1 rfl rfl hl.1 rfl (lv_room (Nat.le_of_ble_eq_true rfl)) dL_isMovementSo_63 ⟨Nat.le_of_ble_eq_true rfl, Nat.le_of_ble_eq_true rfl⟩) (fun r_ c5 H locs hp w => ?_)
            have w : PW D G A s ad N c5 H locs := w
            obtain ⟨hv, hD5, -⟩ := hp
            subst hv
            refine lv_aload_n hx hb dL_isMovementSo_66 rfl (lv_at hl 1 rfl) ?_
            refine lv_iload_n hx hb dL_isMovementSo_67 rfl (lv_at hl 3 rfl) ?_
            refine lv_iload_n hx hb dL_isMovementSo_68 rfl (lv_at hl 2 rfl) ?_
            refine pw_ci w (pw_runV (r := 0) (ci := 7) (As := [.int (zI (y : Int)), .int (zI (x : Int))]) (rest := [.int (zI (if brd lim x y = true then 1 else 0))]) w ⟨hx, hb, hml, hown, hts⟩ (c_X7_isBarred l D G ad N c5 hN hD5 hV (x := y) (y := x) hY hX) (cwV 2 hts gL_isMovementSo_X7_isBarred rfl rfl rfl (by decide +kernel) ⟨Nat.le_of_ble_eq_true rfl, Nat.le_of_ble_eq_true rfl⟩) (by omega) hD5.1 rfl rfl hl.1 rfl (lv_room (Nat.le_of_ble_eq_true rfl)) dL_isMovementSo_69 ⟨Nat.le_of_ble_eq_true rfl, Nat.le_of_ble_eq_true rfl⟩) (fun r_ c6 H locs hp w => ?_)
            have w : PW D G A s ad N c6 H locs := w
            obtain ⟨hv, hD6, -⟩ := hp
            subst hv
            refine pz_icmpne (tgt := 118) hx hb dL_isMovementSo_72 (by decide) (bnd_if) (bnd_if) (fun hq5 => ?_) (fun hq5 => ?_)
            · exact absurd (by rw [e5]) hq5
            · refine lv_iload_n hx hb dL_isMovementSo_75 rfl (lv_at hl 2 rfl) ?_
              refine lv_iload_n hx hb dL_isMovementSo_76 rfl (lv_at hl 3 rfl) ?_
              refine pz_icmpne (tgt := 89) hx hb dL_isMovementSo_77 (by decide) (⟨by omega, by omega⟩) (⟨by omega, by omega⟩) (fun hs9 => ?_) (fun hs9 => ?_)
              · refine lv_aload_n hx hb dL_isMovementSo_89 rfl (lv_at hl 1 rfl) ?_
                refine lv_iload_n hx hb dL_isMovementSo_90 rfl (lv_at hl 2 rfl) ?_
                refine lv_iload_n hx hb dL_isMovementSo_91 rfl (lv_at hl 3 rfl) ?_
                refine pw_ci w (pw_runV (r := 0) (ci := 7) (As := [.int (zI (x : Int)), .int (zI (y : Int))]) (rest := []) w ⟨hx, hb, hml, hown, hts⟩ (c_X7_cost l D G ad N c6 hN hD6 hV (x := x) (y := y) hX hY) (cwV 2 hts gL_isMovementSo_X7_cost rfl rfl rfl (by decide +kernel) ⟨Nat.le_of_ble_eq_true rfl, Nat.le_of_ble_eq_true rfl⟩) (by omega) hD6.1 rfl rfl hl.1 rfl (lv_room (Nat.le_of_ble_eq_true rfl)) dL_isMovementSo_92 ⟨Nat.le_of_ble_eq_true rfl, Nat.le_of_ble_eq_true rfl⟩) (fun r_ c7 H locs hp w => ?_)
                have w : PW D G A s ad N c7 H locs := w
                obtain ⟨hv, hD7, -⟩ := hp
                subst hv
                refine lv_aload_n hx hb dL_isMovementSo_95 rfl (lv_at hl 1 rfl) ?_
                refine lv_iload_n hx hb dL_isMovementSo_96 rfl (lv_at hl 3 rfl) ?_
                refine lv_iload_n hx hb dL_isMovementSo_97 rfl (lv_at hl 4 rfl) ?_
                refine pw_ci w (pw_runV (r := 0) (ci := 7) (As := [.int (zI (y : Int)), .int (zI (z : Int))]) (rest := [.int (zI (mv x y))]) w ⟨hx, hb, hml, hown, hts⟩ (c_X7_cost l D G ad N c7 hN hD7 hV (x := y) (y := z) hY hZ) (cwV 2 hts gL_isMovementSo_X7_cost rfl rfl rfl (by decide +kernel) ⟨Nat.le_of_ble_eq_true rfl, Nat.le_of_ble_eq_true rfl⟩) (by omega) hD7.1 rfl rfl hl.1 rfl (lv_room (Nat.le_of_ble_eq_true rfl)) dL_isMovementSo_98 ⟨Nat.le_of_ble_eq_true rfl, Nat.le_of_ble_eq_true rfl⟩) (fun r_ c8 H locs hp w => ?_)
                have w : PW D G A s ad N c8 H locs := w
                obtain ⟨hv, hD8, -⟩ := hp
                subst hv
                refine pz_iadd hx hb dL_isMovementSo_101 ?_
                refine lv_aload_n hx hb dL_isMovementSo_102 rfl (lv_at hl 1 rfl) ?_
                refine lv_iload_n hx hb dL_isMovementSo_103 rfl (lv_at hl 2 rfl) ?_
                refine lv_iload_n hx hb dL_isMovementSo_104 rfl (lv_at hl 4 rfl) ?_
                refine pw_ci w (pw_runV (r := 0) (ci := 7) (As := [.int (zI (x : Int)), .int (zI (z : Int))]) (rest := [.int (zI ((mv x y) + (mv y z)))]) w ⟨hx, hb, hml, hown, hts⟩ (c_X7_cost l D G ad N c8 hN hD8 hV (x := x) (y := z) hX hZ) (cwV 2 hts gL_isMovementSo_X7_cost rfl rfl rfl (by decide +kernel) ⟨Nat.le_of_ble_eq_true rfl, Nat.le_of_ble_eq_true rfl⟩) (by omega) hD8.1 rfl rfl hl.1 rfl (lv_room (Nat.le_of_ble_eq_true rfl)) dL_isMovementSo_105 ⟨Nat.le_of_ble_eq_true rfl, Nat.le_of_ble_eq_true rfl⟩) (fun r_ c9 H locs hp w => ?_)
                have w : PW D G A s ad N c9 H locs := w
                obtain ⟨hv, hD9, -⟩ := hp
                subst hv
                refine pz_iadd hx hb dL_isMovementSo_108 ?_
                refine lv_iconst (v := zI (2)) hx hb dL_isMovementSo_109 rfl ?_
                refine lv_irem hx hb dL_isMovementSo_110 (by decide +kernel) ?_
                refine pz_topI (y := zI 0) (rem2 (by omega) (by omega) e3) ?_
                refine pz_ifne (tgt := 118) hx hb dL_isMovementSo_111 (by decide) (⟨by omega, by omega⟩) (fun hq7 => ?_) (fun hq7 => ?_)
                · omega
                · refine lv_iconst (v := zI (1)) hx hb dL_isMovementSo_114 rfl ?_
                  refine lv_goto (tgt := 119) hx hb dL_isMovementSo_115 (by decide) ?_
                  exact fin (ad, N, c9) c9 _ _ _ _ _ _ _ rfl (Or.inr rfl) ⟨rfl, hD9⟩ w dL_isMovementSo_119 (Nat.le_of_ble_eq_true rfl) (Nat.le_of_ble_eq_true rfl)
              · refine lv_aload_n hx hb dL_isMovementSo_80 rfl (lv_at hl 1 rfl) ?_
                refine lv_iload_n hx hb dL_isMovementSo_81 rfl (lv_at hl 2 rfl) ?_
                refine lv_iload_n hx hb dL_isMovementSo_82 rfl (lv_at hl 3 rfl) ?_
                refine pw_ci w (pw_runV (r := 0) (ci := 7) (As := [.int (zI (x : Int)), .int (zI (y : Int))]) (rest := []) w ⟨hx, hb, hml, hown, hts⟩ (c_X7_isBarred l D G ad N c6 hN hD6 hV (x := x) (y := y) hX hY) (cwV 2 hts gL_isMovementSo_X7_isBarred rfl rfl rfl (by decide +kernel) ⟨Nat.le_of_ble_eq_true rfl, Nat.le_of_ble_eq_true rfl⟩) (by omega) hD6.1 rfl rfl hl.1 rfl (lv_room (Nat.le_of_ble_eq_true rfl)) dL_isMovementSo_83 ⟨Nat.le_of_ble_eq_true rfl, Nat.le_of_ble_eq_true rfl⟩) (fun r_ c10 H locs hp w => ?_)
                have w : PW D G A s ad N c10 H locs := w
                obtain ⟨hv, hD10, -⟩ := hp
                subst hv
                refine pz_ifne (tgt := 118) hx hb dL_isMovementSo_86 (by decide) (bnd_if) (fun hq6 => ?_) (fun hq6 => ?_)
                · exact absurd (by rw [e6 (by omega)]; rfl) hq6
                · refine lv_aload_n hx hb dL_isMovementSo_89 rfl (lv_at hl 1 rfl) ?_
                  refine lv_iload_n hx hb dL_isMovementSo_90 rfl (lv_at hl 2 rfl) ?_
                  refine lv_iload_n hx hb dL_isMovementSo_91 rfl (lv_at hl 3 rfl) ?_
                  refine pw_ci w (pw_runV (r := 0) (ci := 7) (As := [.int (zI (x : Int)), .int (zI (y : Int))]) (rest := []) w ⟨hx, hb, hml, hown, hts⟩ (c_X7_cost l D G ad N c10 hN hD10 hV (x := x) (y := y) hX hY) (cwV 2 hts gL_isMovementSo_X7_cost rfl rfl rfl (by decide +kernel) ⟨Nat.le_of_ble_eq_true rfl, Nat.le_of_ble_eq_true rfl⟩) (by omega) hD10.1 rfl rfl hl.1 rfl (lv_room (Nat.le_of_ble_eq_true rfl)) dL_isMovementSo_92 ⟨Nat.le_of_ble_eq_true rfl, Nat.le_of_ble_eq_true rfl⟩) (fun r_ c11 H locs hp w => ?_)
                  have w : PW D G A s ad N c11 H locs := w
                  obtain ⟨hv, hD11, -⟩ := hp
                  subst hv
                  refine lv_aload_n hx hb dL_isMovementSo_95 rfl (lv_at hl 1 rfl) ?_
                  refine lv_iload_n hx hb dL_isMovementSo_96 rfl (lv_at hl 3 rfl) ?_
                  refine lv_iload_n hx hb dL_isMovementSo_97 rfl (lv_at hl 4 rfl) ?_
                  refine pw_ci w (pw_runV (r := 0) (ci := 7) (As := [.int (zI (y : Int)), .int (zI (z : Int))]) (rest := [.int (zI (mv x y))]) w ⟨hx, hb, hml, hown, hts⟩ (c_X7_cost l D G ad N c11 hN hD11 hV (x := y) (y := z) hY hZ) (cwV 2 hts gL_isMovementSo_X7_cost rfl rfl rfl (by decide +kernel) ⟨Nat.le_of_ble_eq_true rfl, Nat.le_of_ble_eq_true rfl⟩) (by omega) hD11.1 rfl rfl hl.1 rfl (lv_room (Nat.le_of_ble_eq_true rfl)) dL_isMovementSo_98 ⟨Nat.le_of_ble_eq_true rfl, Nat.le_of_ble_eq_true rfl⟩) (fun r_ c12 H locs hp w => ?_)
                  have w : PW D G A s ad N c12 H locs := w
                  obtain ⟨hv, hD12, -⟩ := hp
                  subst hv
                  refine pz_iadd hx hb dL_isMovementSo_101 ?_
                  refine lv_aload_n hx hb dL_isMovementSo_102 rfl (lv_at hl 1 rfl) ?_
                  refine lv_iload_n hx hb dL_isMovementSo_103 rfl (lv_at hl 2 rfl) ?_
                  refine lv_iload_n hx hb dL_isMovementSo_104 rfl (lv_at hl 4 rfl) ?_
                  refine pw_ci w (pw_runV (r := 0) (ci := 7) (As := [.int (zI (x : Int)), .int (zI (z : Int))]) (rest := [.int (zI ((mv x y) + (mv y z)))]) w ⟨hx, hb, hml, hown, hts⟩ (c_X7_cost l D G ad N c12 hN hD12 hV (x := x) (y := z) hX hZ) (cwV 2 hts gL_isMovementSo_X7_cost rfl rfl rfl (by decide +kernel) ⟨Nat.le_of_ble_eq_true rfl, Nat.le_of_ble_eq_true rfl⟩) (by omega) hD12.1 rfl rfl hl.1 rfl (lv_room (Nat.le_of_ble_eq_true rfl)) dL_isMovementSo_105 ⟨Nat.le_of_ble_eq_true rfl, Nat.le_of_ble_eq_true rfl⟩) (fun r_ c13 H locs hp w => ?_)
                  have w : PW D G A s ad N c13 H locs := w
                  obtain ⟨hv, hD13, -⟩ := hp
                  subst hv
                  refine pz_iadd hx hb dL_isMovementSo_108 ?_
                  refine lv_iconst (v := zI (2)) hx hb dL_isMovementSo_109 rfl ?_
                  refine lv_irem hx hb dL_isMovementSo_110 (by decide +kernel) ?_
                  refine pz_topI (y := zI 0) (rem2 (by omega) (by omega) e3) ?_
                  refine pz_ifne (tgt := 118) hx hb dL_isMovementSo_111 (by decide) (⟨by omega, by omega⟩) (fun hq7 => ?_) (fun hq7 => ?_)
                  · omega
                  · refine lv_iconst (v := zI (1)) hx hb dL_isMovementSo_114 rfl ?_
                    refine lv_goto (tgt := 119) hx hb dL_isMovementSo_115 (by decide) ?_
                    exact fin (ad, N, c13) c13 _ _ _ _ _ _ _ rfl (Or.inr rfl) ⟨rfl, hD13⟩ w dL_isMovementSo_119 (Nat.le_of_ble_eq_true rfl) (Nat.le_of_ble_eq_true rfl)
      · omega
    · refine lv_iconst (v := zI (1)) hx hb dL_isMovementSo_24 rfl ?_
      refine lv_goto (tgt := 29) hx hb dL_isMovementSo_25 (by decide) ?_
      refine lv_iload_n hx hb dL_isMovementSo_29 rfl (lv_at hl 2 rfl) ?_
      refine lv_iload_n hx hb dL_isMovementSo_30 rfl (lv_at hl 3 rfl) ?_
      refine pz_icmpne (tgt := 38) hx hb dL_isMovementSo_31 (by decide) (⟨by omega, by omega⟩) (⟨by omega, by omega⟩) (fun hq2 => ?_) (fun hq2 => ?_)
      · omega
      · refine lv_iconst (v := zI (1)) hx hb dL_isMovementSo_34 rfl ?_
        refine lv_goto (tgt := 39) hx hb dL_isMovementSo_35 (by decide) ?_
        refine pz_icmpne (tgt := 118) hx hb dL_isMovementSo_39 (by decide) (⟨by omega, by omega⟩) (⟨by omega, by omega⟩) (fun hq3 => ?_) (fun hq3 => ?_)
        · omega
        · refine lv_iload hx hb dL_isMovementSo_42 (lv_at hl 0 rfl) ?_
          refine lv_aload_n hx hb dL_isMovementSo_44 rfl (lv_at hl 1 rfl) ?_
          refine lv_iload_n hx hb dL_isMovementSo_45 rfl (lv_at hl 2 rfl) ?_
          refine lv_iload_n hx hb dL_isMovementSo_46 rfl (lv_at hl 4 rfl) ?_
          refine pw_ci w (pw_runV (r := 0) (ci := 7) (As := [.int (zI (x : Int)), .int (zI (z : Int))]) (rest := [.int (zI (mv x y))]) w ⟨hx, hb, hml, hown, hts⟩ (c_X7_cost l D G ad N c2 hN hD2 hV (x := x) (y := z) hX hZ) (cwV 2 hts gL_isMovementSo_X7_cost rfl rfl rfl (by decide +kernel) ⟨Nat.le_of_ble_eq_true rfl, Nat.le_of_ble_eq_true rfl⟩) (by omega) hD2.1 rfl rfl hl.1 rfl (lv_room (Nat.le_of_ble_eq_true rfl)) dL_isMovementSo_47 ⟨Nat.le_of_ble_eq_true rfl, Nat.le_of_ble_eq_true rfl⟩) (fun r_ c14 H locs hp w => ?_)
          have w : PW D G A s ad N c14 H locs := w
          obtain ⟨hv, hD14, -⟩ := hp
          subst hv
          refine lv_aload_n hx hb dL_isMovementSo_50 rfl (lv_at hl 1 rfl) ?_
          refine lv_iload_n hx hb dL_isMovementSo_51 rfl (lv_at hl 4 rfl) ?_
          refine lv_iload_n hx hb dL_isMovementSo_52 rfl (lv_at hl 3 rfl) ?_
          refine pw_ci w (pw_runV (r := 0) (ci := 7) (As := [.int (zI (z : Int)), .int (zI (y : Int))]) (rest := [.int (zI (mv x z)), .int (zI (mv x y))]) w ⟨hx, hb, hml, hown, hts⟩ (c_X7_cost l D G ad N c14 hN hD14 hV (x := z) (y := y) hZ hY) (cwV 2 hts gL_isMovementSo_X7_cost rfl rfl rfl (by decide +kernel) ⟨Nat.le_of_ble_eq_true rfl, Nat.le_of_ble_eq_true rfl⟩) (by omega) hD14.1 rfl rfl hl.1 rfl (lv_room (Nat.le_of_ble_eq_true rfl)) dL_isMovementSo_53 ⟨Nat.le_of_ble_eq_true rfl, Nat.le_of_ble_eq_true rfl⟩) (fun r_ c15 H locs hp w => ?_)
          have w : PW D G A s ad N c15 H locs := w
          obtain ⟨hv, hD15, -⟩ := hp
          subst hv
          refine pz_iadd hx hb dL_isMovementSo_56 ?_
          refine pz_icmpgt (tgt := 118) hx hb dL_isMovementSo_57 (by decide) (⟨by omega, by omega⟩) (⟨by omega, by omega⟩) (fun hq4 => ?_) (fun hq4 => ?_)
          · omega
          · refine lv_aload_n hx hb dL_isMovementSo_60 rfl (lv_at hl 1 rfl) ?_
            refine lv_iload_n hx hb dL_isMovementSo_61 rfl (lv_at hl 2 rfl) ?_
            refine lv_iload_n hx hb dL_isMovementSo_62 rfl (lv_at hl 3 rfl) ?_
            refine pw_ci w (pw_runV (r := 0) (ci := 7) (As := [.int (zI (x : Int)), .int (zI (y : Int))]) (rest := []) w ⟨hx, hb, hml, hown, hts⟩ (c_X7_isBarred l D G ad N c15 hN hD15 hV (x := x) (y := y) hX hY) (cwV 2 hts gL_isMovementSo_X7_isBarred rfl rfl rfl (by decide +kernel) ⟨Nat.le_of_ble_eq_true rfl, Nat.le_of_ble_eq_true rfl⟩) (by omega) hD15.1 rfl rfl hl.1 rfl (lv_room (Nat.le_of_ble_eq_true rfl)) dL_isMovementSo_63 ⟨Nat.le_of_ble_eq_true rfl, Nat.le_of_ble_eq_true rfl⟩) (fun r_ c16 H locs hp w => ?_)
            have w : PW D G A s ad N c16 H locs := w
            obtain ⟨hv, hD16, -⟩ := hp
            subst hv
            refine lv_aload_n hx hb dL_isMovementSo_66 rfl (lv_at hl 1 rfl) ?_
            refine lv_iload_n hx hb dL_isMovementSo_67 rfl (lv_at hl 3 rfl) ?_
            refine lv_iload_n hx hb dL_isMovementSo_68 rfl (lv_at hl 2 rfl) ?_
            refine pw_ci w (pw_runV (r := 0) (ci := 7) (As := [.int (zI (y : Int)), .int (zI (x : Int))]) (rest := [.int (zI (if brd lim x y = true then 1 else 0))]) w ⟨hx, hb, hml, hown, hts⟩ (c_X7_isBarred l D G ad N c16 hN hD16 hV (x := y) (y := x) hY hX) (cwV 2 hts gL_isMovementSo_X7_isBarred rfl rfl rfl (by decide +kernel) ⟨Nat.le_of_ble_eq_true rfl, Nat.le_of_ble_eq_true rfl⟩) (by omega) hD16.1 rfl rfl hl.1 rfl (lv_room (Nat.le_of_ble_eq_true rfl)) dL_isMovementSo_69 ⟨Nat.le_of_ble_eq_true rfl, Nat.le_of_ble_eq_true rfl⟩) (fun r_ c17 H locs hp w => ?_)
            have w : PW D G A s ad N c17 H locs := w
            obtain ⟨hv, hD17, -⟩ := hp
            subst hv
            refine pz_icmpne (tgt := 118) hx hb dL_isMovementSo_72 (by decide) (bnd_if) (bnd_if) (fun hq5 => ?_) (fun hq5 => ?_)
            · exact absurd (by rw [e5]) hq5
            · refine lv_iload_n hx hb dL_isMovementSo_75 rfl (lv_at hl 2 rfl) ?_
              refine lv_iload_n hx hb dL_isMovementSo_76 rfl (lv_at hl 3 rfl) ?_
              refine pz_icmpne (tgt := 89) hx hb dL_isMovementSo_77 (by decide) (⟨by omega, by omega⟩) (⟨by omega, by omega⟩) (fun hs9 => ?_) (fun hs9 => ?_)
              · refine lv_aload_n hx hb dL_isMovementSo_89 rfl (lv_at hl 1 rfl) ?_
                refine lv_iload_n hx hb dL_isMovementSo_90 rfl (lv_at hl 2 rfl) ?_
                refine lv_iload_n hx hb dL_isMovementSo_91 rfl (lv_at hl 3 rfl) ?_
                refine pw_ci w (pw_runV (r := 0) (ci := 7) (As := [.int (zI (x : Int)), .int (zI (y : Int))]) (rest := []) w ⟨hx, hb, hml, hown, hts⟩ (c_X7_cost l D G ad N c17 hN hD17 hV (x := x) (y := y) hX hY) (cwV 2 hts gL_isMovementSo_X7_cost rfl rfl rfl (by decide +kernel) ⟨Nat.le_of_ble_eq_true rfl, Nat.le_of_ble_eq_true rfl⟩) (by omega) hD17.1 rfl rfl hl.1 rfl (lv_room (Nat.le_of_ble_eq_true rfl)) dL_isMovementSo_92 ⟨Nat.le_of_ble_eq_true rfl, Nat.le_of_ble_eq_true rfl⟩) (fun r_ c18 H locs hp w => ?_)
                have w : PW D G A s ad N c18 H locs := w
                obtain ⟨hv, hD18, -⟩ := hp
                subst hv
                refine lv_aload_n hx hb dL_isMovementSo_95 rfl (lv_at hl 1 rfl) ?_
                refine lv_iload_n hx hb dL_isMovementSo_96 rfl (lv_at hl 3 rfl) ?_
                refine lv_iload_n hx hb dL_isMovementSo_97 rfl (lv_at hl 4 rfl) ?_
                refine pw_ci w (pw_runV (r := 0) (ci := 7) (As := [.int (zI (y : Int)), .int (zI (z : Int))]) (rest := [.int (zI (mv x y))]) w ⟨hx, hb, hml, hown, hts⟩ (c_X7_cost l D G ad N c18 hN hD18 hV (x := y) (y := z) hY hZ) (cwV 2 hts gL_isMovementSo_X7_cost rfl rfl rfl (by decide +kernel) ⟨Nat.le_of_ble_eq_true rfl, Nat.le_of_ble_eq_true rfl⟩) (by omega) hD18.1 rfl rfl hl.1 rfl (lv_room (Nat.le_of_ble_eq_true rfl)) dL_isMovementSo_98 ⟨Nat.le_of_ble_eq_true rfl, Nat.le_of_ble_eq_true rfl⟩) (fun r_ c19 H locs hp w => ?_)
                have w : PW D G A s ad N c19 H locs := w
                obtain ⟨hv, hD19, -⟩ := hp
                subst hv
                refine pz_iadd hx hb dL_isMovementSo_101 ?_
                refine lv_aload_n hx hb dL_isMovementSo_102 rfl (lv_at hl 1 rfl) ?_
                refine lv_iload_n hx hb dL_isMovementSo_103 rfl (lv_at hl 2 rfl) ?_
                refine lv_iload_n hx hb dL_isMovementSo_104 rfl (lv_at hl 4 rfl) ?_
                refine pw_ci w (pw_runV (r := 0) (ci := 7) (As := [.int (zI (x : Int)), .int (zI (z : Int))]) (rest := [.int (zI ((mv x y) + (mv y z)))]) w ⟨hx, hb, hml, hown, hts⟩ (c_X7_cost l D G ad N c19 hN hD19 hV (x := x) (y := z) hX hZ) (cwV 2 hts gL_isMovementSo_X7_cost rfl rfl rfl (by decide +kernel) ⟨Nat.le_of_ble_eq_true rfl, Nat.le_of_ble_eq_true rfl⟩) (by omega) hD19.1 rfl rfl hl.1 rfl (lv_room (Nat.le_of_ble_eq_true rfl)) dL_isMovementSo_105 ⟨Nat.le_of_ble_eq_true rfl, Nat.le_of_ble_eq_true rfl⟩) (fun r_ c20 H locs hp w => ?_)
                have w : PW D G A s ad N c20 H locs := w
                obtain ⟨hv, hD20, -⟩ := hp
                subst hv
                refine pz_iadd hx hb dL_isMovementSo_108 ?_
                refine lv_iconst (v := zI (2)) hx hb dL_isMovementSo_109 rfl ?_
                refine lv_irem hx hb dL_isMovementSo_110 (by decide +kernel) ?_
                refine pz_topI (y := zI 0) (rem2 (by omega) (by omega) e3) ?_
                refine pz_ifne (tgt := 118) hx hb dL_isMovementSo_111 (by decide) (⟨by omega, by omega⟩) (fun hq7 => ?_) (fun hq7 => ?_)
                · omega
                · refine lv_iconst (v := zI (1)) hx hb dL_isMovementSo_114 rfl ?_
                  refine lv_goto (tgt := 119) hx hb dL_isMovementSo_115 (by decide) ?_
                  exact fin (ad, N, c20) c20 _ _ _ _ _ _ _ rfl (Or.inr rfl) ⟨rfl, hD20⟩ w dL_isMovementSo_119 (Nat.le_of_ble_eq_true rfl) (Nat.le_of_ble_eq_true rfl)
              · refine lv_aload_n hx hb dL_isMovementSo_80 rfl (lv_at hl 1 rfl) ?_
                refine lv_iload_n hx hb dL_isMovementSo_81 rfl (lv_at hl 2 rfl) ?_
                refine lv_iload_n hx hb dL_isMovementSo_82 rfl (lv_at hl 3 rfl) ?_
                refine pw_ci w (pw_runV (r := 0) (ci := 7) (As := [.int (zI (x : Int)), .int (zI (y : Int))]) (rest := []) w ⟨hx, hb, hml, hown, hts⟩ (c_X7_isBarred l D G ad N c17 hN hD17 hV (x := x) (y := y) hX hY) (cwV 2 hts gL_isMovementSo_X7_isBarred rfl rfl rfl (by decide +kernel) ⟨Nat.le_of_ble_eq_true rfl, Nat.le_of_ble_eq_true rfl⟩) (by omega) hD17.1 rfl rfl hl.1 rfl (lv_room (Nat.le_of_ble_eq_true rfl)) dL_isMovementSo_83 ⟨Nat.le_of_ble_eq_true rfl, Nat.le_of_ble_eq_true rfl⟩) (fun r_ c21 H locs hp w => ?_)
                have w : PW D G A s ad N c21 H locs := w
                obtain ⟨hv, hD21, -⟩ := hp
                subst hv
                refine pz_ifne (tgt := 118) hx hb dL_isMovementSo_86 (by decide) (bnd_if) (fun hq6 => ?_) (fun hq6 => ?_)
                · exact absurd (by rw [e6 (by omega)]; rfl) hq6
                · refine lv_aload_n hx hb dL_isMovementSo_89 rfl (lv_at hl 1 rfl) ?_
                  refine lv_iload_n hx hb dL_isMovementSo_90 rfl (lv_at hl 2 rfl) ?_
                  refine lv_iload_n hx hb dL_isMovementSo_91 rfl (lv_at hl 3 rfl) ?_
                  refine pw_ci w (pw_runV (r := 0) (ci := 7) (As := [.int (zI (x : Int)), .int (zI (y : Int))]) (rest := []) w ⟨hx, hb, hml, hown, hts⟩ (c_X7_cost l D G ad N c21 hN hD21 hV (x := x) (y := y) hX hY) (cwV 2 hts gL_isMovementSo_X7_cost rfl rfl rfl (by decide +kernel) ⟨Nat.le_of_ble_eq_true rfl, Nat.le_of_ble_eq_true rfl⟩) (by omega) hD21.1 rfl rfl hl.1 rfl (lv_room (Nat.le_of_ble_eq_true rfl)) dL_isMovementSo_92 ⟨Nat.le_of_ble_eq_true rfl, Nat.le_of_ble_eq_true rfl⟩) (fun r_ c22 H locs hp w => ?_)
                  have w : PW D G A s ad N c22 H locs := w
                  obtain ⟨hv, hD22, -⟩ := hp
                  subst hv
                  refine lv_aload_n hx hb dL_isMovementSo_95 rfl (lv_at hl 1 rfl) ?_
                  refine lv_iload_n hx hb dL_isMovementSo_96 rfl (lv_at hl 3 rfl) ?_
                  refine lv_iload_n hx hb dL_isMovementSo_97 rfl (lv_at hl 4 rfl) ?_
                  refine pw_ci w (pw_runV (r := 0) (ci := 7) (As := [.int (zI (y : Int)), .int (zI (z : Int))]) (rest := [.int (zI (mv x y))]) w ⟨hx, hb, hml, hown, hts⟩ (c_X7_cost l D G ad N c22 hN hD22 hV (x := y) (y := z) hY hZ) (cwV 2 hts gL_isMovementSo_X7_cost rfl rfl rfl (by decide +kernel) ⟨Nat.le_of_ble_eq_true rfl, Nat.le_of_ble_eq_true rfl⟩) (by omega) hD22.1 rfl rfl hl.1 rfl (lv_room (Nat.le_of_ble_eq_true rfl)) dL_isMovementSo_98 ⟨Nat.le_of_ble_eq_true rfl, Nat.le_of_ble_eq_true rfl⟩) (fun r_ c23 H locs hp w => ?_)
                  have w : PW D G A s ad N c23 H locs := w
                  obtain ⟨hv, hD23, -⟩ := hp
                  subst hv
                  refine pz_iadd hx hb dL_isMovementSo_101 ?_
                  refine lv_aload_n hx hb dL_isMovementSo_102 rfl (lv_at hl 1 rfl) ?_
                  refine lv_iload_n hx hb dL_isMovementSo_103 rfl (lv_at hl 2 rfl) ?_
                  refine lv_iload_n hx hb dL_isMovementSo_104 rfl (lv_at hl 4 rfl) ?_
                  refine pw_ci w (pw_runV (r := 0) (ci := 7) (As := [.int (zI (x : Int)), .int (zI (z : Int))]) (rest := [.int (zI ((mv x y) + (mv y z)))]) w ⟨hx, hb, hml, hown, hts⟩ (c_X7_cost l D G ad N c23 hN hD23 hV (x := x) (y := z) hX hZ) (cwV 2 hts gL_isMovementSo_X7_cost rfl rfl rfl (by decide +kernel) ⟨Nat.le_of_ble_eq_true rfl, Nat.le_of_ble_eq_true rfl⟩) (by omega) hD23.1 rfl rfl hl.1 rfl (lv_room (Nat.le_of_ble_eq_true rfl)) dL_isMovementSo_105 ⟨Nat.le_of_ble_eq_true rfl, Nat.le_of_ble_eq_true rfl⟩) (fun r_ c24 H locs hp w => ?_)
                  have w : PW D G A s ad N c24 H locs := w
                  obtain ⟨hv, hD24, -⟩ := hp
                  subst hv
                  refine pz_iadd hx hb dL_isMovementSo_108 ?_
                  refine lv_iconst (v := zI (2)) hx hb dL_isMovementSo_109 rfl ?_
                  refine lv_irem hx hb dL_isMovementSo_110 (by decide +kernel) ?_
                  refine pz_topI (y := zI 0) (rem2 (by omega) (by omega) e3) ?_
                  refine pz_ifne (tgt := 118) hx hb dL_isMovementSo_111 (by decide) (⟨by omega, by omega⟩) (fun hq7 => ?_) (fun hq7 => ?_)
                  · omega
                  · refine lv_iconst (v := zI (1)) hx hb dL_isMovementSo_114 rfl ?_
                    refine lv_goto (tgt := 119) hx hb dL_isMovementSo_115 (by decide) ?_
                    exact fin (ad, N, c24) c24 _ _ _ _ _ _ _ rfl (Or.inr rfl) ⟨rfl, hD24⟩ w dL_isMovementSo_119 (Nat.le_of_ble_eq_true rfl) (Nat.le_of_ble_eq_true rfl)
