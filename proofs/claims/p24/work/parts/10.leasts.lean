theorem hin_X1_firstLeastBeside_1 : ∀ w ∈ u_ws RX1 TX1 1, w ∈ wsX1_firstLeastBeside := by decide +kernel
theorem fl_X1_firstLeastBeside_9 : Cond.fieldLink RX1 9 "PipersDesk$Leasts" "costs" "[I" ∈ wsX1_firstLeastBeside := by decide +kernel
abbrev rm_X1_firstLeastBeside : Room := { frames := 0, cells := 0, slots := 0, locals := 0 }
set_option maxHeartbeats 4000000 in
set_option maxRecDepth 100000 in
/-- Leasts.firstLeastBeside -/
theorem c_X1_firstLeastBeside (l : Launch) (D : va_G) (G : Nat → ClassId) (ad : Nat → Nat) (N : Nat) (c : Nat → va_E) {r o : Nat} {g : Nat → Int} (hr : r < N) (hr1 : r + 1 < N) (ho : c r = .inr (1, [.ref (ad (r + 1))])) (ha : isA 0 G (c (r + 1)) 9 g) (hg : ∀ j, j < 9 → 0 ≤ g j ∧ g j ≤ 1000000) (ho9 : o < 9) : MC l yX1_firstLeastBeside wsX1_firstLeastBeside rm_X1_firstLeastBeside [.ref (ad r), .int (zI (o : Int))] D G ad N c (qI D G (fx ad N) (fun v c1 => v = zI (flb g o : Int) ∧ c1 = c)) 0 0 := by
  refine MCi.of (cc := cX1_firstLeastBeside) (maxL := 4) (by decide) rfl (Nat.le_of_ble_eq_true rfl) ?_
  intro p e s m args below meth kc A Q hx hb hts hown hml fin H locs w ls hl
  have hown : s.vm.findClass RX1 = some m.cls := hown
  have hl : lv_has ls 4 [(0, .ref (ad r)), (1, .int (zI (o : Int)))] := hl
  refine lv_iconst (v := zI (0)) hx hb dX1_firstLeastBeside_0 rfl ?_
  refine lv_istore_n (lv' := [(2, .int (zI 0)), (0, .ref (ad r)), (1, .int (zI (o : Int)))]) hx hb dX1_firstLeastBeside_1 rfl hl (by decide) rfl (fun ls hl => ?_)
  refine lv_iconst (v := zI (1)) hx hb dX1_firstLeastBeside_2 rfl ?_
  refine lv_istore_n (lv' := [(3, .int (zI 1)), (2, .int (zI 0)), (0, .ref (ad r)), (1, .int (zI (o : Int)))]) hx hb dX1_firstLeastBeside_3 rfl hl (by decide) rfl (fun ls hl => ?_)
  have lp : ∀ (n : Nat) (i : Nat) (H : Heap) (locs : List Loc) (ls : Array Slot), 1 ≤ i → i ≤ 9 → 9 < i + n → PW D G A s ad N c H locs → lv_has ls 4 [(0, .ref (ad r)), (1, .int (zI (o : Int))), (2, .int (zI (flbU g o i : Int))), (3, .int (zI (i : Int)))] → W p l e rm_X1_firstLeastBeside s m args below meth kc H locs 0 0 Q (F0 m 4 ls []) := by
    intro n
    induction n with
    | zero => intro i H locs ls h1 h9 hfu w hl; omega
    | succ n ih =>
      intro i H locs ls h1 h9 hfu w hl
      have hlt := (flbU_lt g o i).1
      refine lv_iload_n hx hb dX1_firstLeastBeside_4 rfl (lv_at hl 3 rfl) ?_
      refine lv_bipush (v := zI (9)) hx hb dX1_firstLeastBeside_5 (by decide +kernel) ?_
      refine pz_icmpge (tgt := 38) hx hb dX1_firstLeastBeside_7 (by decide) (⟨by omega, by omega⟩) (⟨by omega, by omega⟩) (fun hi => ?_) (fun hi => ?_)
      · have hi9 : i = 9 := by omega
        subst hi9
        refine lv_iload_n hx hb dX1_firstLeastBeside_38 rfl (lv_at hl 2 rfl) ?_
        exact fin (ad, N, c) c _ _ _ _ _ _ _ rfl ⟨rfl, rfl⟩ w dX1_firstLeastBeside_39 (Nat.le_refl _) (Nat.le_refl _)
      · refine lv_iload_n hx hb dX1_firstLeastBeside_10 rfl (lv_at hl 3 rfl) ?_
        refine lv_iload_n hx hb dX1_firstLeastBeside_11 rfl (lv_at hl 1 rfl) ?_
        refine pz_icmpeq (tgt := 32) hx hb dX1_firstLeastBeside_12 (by decide) (⟨by omega, by omega⟩) (⟨by omega, by omega⟩) (fun he => ?_) (fun he => ?_)
        · have hu : flbU g o (i + 1) = flbU g o i := by rw [flbU, if_neg (by omega)]
          rw [← hu] at hl
          refine pz_iinc (lv' := [(3, .int (zI ((i + 1 : Nat) : Int))), (0, .ref (ad r)), (1, .int (zI (o : Int))), (2, .int (zI (flbU g o (i + 1) : Int)))]) hx hb dX1_firstLeastBeside_32 hl (j := 3) rfl ((i + 1 : Nat) : Int) (by omega) (by decide) rfl (fun ls hl => ?_)
          refine lv_goto (tgt := 4) hx hb dX1_firstLeastBeside_35 (by decide) ?_
          exact ih (i + 1) H locs ls (by omega) (by omega) (by omega) w (lv_sub hl [1, 2, 3, 0] rfl)
        · have hb1 := hg i (by omega)
          have hb2 := hg (flbU g o i) (by omega)
          refine lv_aload_n hx hb dX1_firstLeastBeside_15 rfl (lv_at hl 0 rfl) ?_
          refine pw_get (r := r) (ci := 1) (C := RX1) (T := TX1) (Nf := 1) hx hb w hts hin_X1_firstLeastBeside_1 hown hr ho rfl 0 (by decide) (hts _ fl_X1_firstLeastBeside_9) (fun _ h9 => h9) rfl dX1_firstLeastBeside_16 ?_
          refine lv_iload_n hx hb dX1_firstLeastBeside_19 rfl (lv_at hl 3 rfl) ?_
          refine pw_iald (r := (r + 1)) (j := i) hx hb w hr1 ha (by omega) (by omega) (by decide) dX1_firstLeastBeside_20 ?_
          refine lv_aload_n hx hb dX1_firstLeastBeside_21 rfl (lv_at hl 0 rfl) ?_
          refine pw_get (r := r) (ci := 1) (C := RX1) (T := TX1) (Nf := 1) hx hb w hts hin_X1_firstLeastBeside_1 hown hr ho rfl 0 (by decide) (hts _ fl_X1_firstLeastBeside_9) (fun _ h9 => h9) rfl dX1_firstLeastBeside_22 ?_
          refine lv_iload_n hx hb dX1_firstLeastBeside_25 rfl (lv_at hl 2 rfl) ?_
          refine pw_iald (r := (r + 1)) (j := (flbU g o i)) hx hb w hr1 ha (by omega) (by omega) (by decide) dX1_firstLeastBeside_26 ?_
          refine pz_icmpge (tgt := 32) hx hb dX1_firstLeastBeside_27 (by decide) (⟨by omega, by omega⟩) (⟨by omega, by omega⟩) (fun hc => ?_) (fun hc => ?_)
          · have hu : flbU g o (i + 1) = flbU g o i := by rw [flbU, if_neg (by omega)]
            rw [← hu] at hl
            refine pz_iinc (lv' := [(3, .int (zI ((i + 1 : Nat) : Int))), (0, .ref (ad r)), (1, .int (zI (o : Int))), (2, .int (zI (flbU g o (i + 1) : Int)))]) hx hb dX1_firstLeastBeside_32 hl (j := 3) rfl ((i + 1 : Nat) : Int) (by omega) (by decide) rfl (fun ls hl => ?_)
            refine lv_goto (tgt := 4) hx hb dX1_firstLeastBeside_35 (by decide) ?_
            exact ih (i + 1) H locs ls (by omega) (by omega) (by omega) w (lv_sub hl [1, 2, 3, 0] rfl)
          · have hu : flbU g o (i + 1) = i := by rw [flbU, if_pos (by omega)]
            refine lv_iload_n hx hb dX1_firstLeastBeside_30 rfl (lv_at hl 3 rfl) ?_
            refine lv_istore_n (lv' := [(2, .int (zI (i : Int))), (0, .ref (ad r)), (1, .int (zI (o : Int))), (3, .int (zI (i : Int)))]) hx hb dX1_firstLeastBeside_31 rfl hl (by decide) rfl (fun ls hl => ?_)
            have hl : lv_has ls 4 [(2, .int (zI (flbU g o (i + 1) : Int))), (0, .ref (ad r)), (1, .int (zI (o : Int))), (3, .int (zI (i : Int)))] := by rw [hu]; exact hl
            refine pz_iinc (lv' := [(3, .int (zI ((i + 1 : Nat) : Int))), (2, .int (zI (flbU g o (i + 1) : Int))), (0, .ref (ad r)), (1, .int (zI (o : Int)))]) hx hb dX1_firstLeastBeside_32 hl (j := 3) rfl ((i + 1 : Nat) : Int) (by omega) (by decide) rfl (fun ls hl => ?_)
            refine lv_goto (tgt := 4) hx hb dX1_firstLeastBeside_35 (by decide) ?_
            exact ih (i + 1) H locs ls (by omega) (by omega) (by omega) w (lv_sub hl [2, 3, 1, 0] rfl)
  exact lp 9 1 H locs ls (by omega) (by omega) (by omega) w (by rw [flbU_one]; exact (lv_sub hl [2, 3, 1, 0] rfl))

abbrev rm_J7_fill_53178 : Room := { frames := 0, cells := 0, slots := 0, locals := 0 }
set_option maxHeartbeats 4000000 in
set_option maxRecDepth 100000 in
/-- Arrays.fill -/
theorem c_J7_fill_53178 (l : Launch) (D : va_G) (G : Nat → ClassId) (ad : Nat → Nat) (N : Nat) (c : Nat → va_E) {r n : Nat} {g : Nat → Int} {v : Int} (hr : r < N) (hn : n < 2147483648) (ha : isA 0 G (c r) n g) : MC l yJ7_fill_53178 wsJ7_fill_53178 rm_J7_fill_53178 [.ref (ad r), .int (zI v)] D G ad N c (qV D G (fx ad N) (fun c1 => isA 0 G (c1 r) n (fun _ => v) ∧ ∀ q, q ≠ r → c1 q = c q)) 0 0 := by
  refine MCv.of (cc := cJ7_fill_53178) (maxL := 4) (by decide) rfl (Nat.le_of_ble_eq_true rfl) ?_
  intro p e s m args below meth kc A Q hx hb hts hown hml hin2 fin H locs w ls hl
  have hown : s.vm.findClass RJ7 = some m.cls := hown
  have hl : lv_has ls 4 [(0, .ref (ad r)), (1, .int (zI v))] := hl
  refine lv_iconst (v := zI (0)) hx hb dJ7_fill_53178_0 rfl ?_
  refine lv_istore_n (lv' := [(2, .int (zI 0)), (0, .ref (ad r)), (1, .int (zI v))]) hx hb dJ7_fill_53178_1 rfl hl (by decide) rfl (fun ls hl => ?_)
  refine lv_aload_n hx hb dJ7_fill_53178_2 rfl (lv_at hl 1 rfl) ?_
  refine pw_len (r := r) hx hb w hr 0 rfl ha dJ7_fill_53178_3 ?_
  refine lv_istore_n (lv' := [(3, .int (zI (n : Int))), (2, .int (zI 0)), (0, .ref (ad r)), (1, .int (zI v))]) hx hb dJ7_fill_53178_4 rfl hl (by decide) rfl (fun ls hl => ?_)
  have lp : ∀ (f i : Nat) (gi : Nat → Int) (c1 : Nat → va_E) (H : Heap) (locs : List Loc) (ls : Array Slot), i ≤ n → isA 0 G (c1 r) n gi → (∀ j, j < i → gi j = v) → (∀ q, q ≠ r → c1 q = c q) → n < i + f → PW D G A s ad N c1 H locs → lv_has ls 4 [(0, .ref (ad r)), (1, .int (zI v)), (2, .int (zI (i : Int))), (3, .int (zI (n : Int)))] → W p l e rm_J7_fill_53178 s m args below meth kc H locs 0 0 Q (F0 m 5 ls []) := by
    intro f
    induction f with
    | zero => intro i gi c1 H locs ls h9 hA hG hF hfu w hl; omega
    | succ f ih =>
      intro i gi c1 H locs ls h9 hA hG hF hfu w hl
      refine lv_iload_n hx hb dJ7_fill_53178_5 rfl (lv_at hl 2 rfl) ?_
      refine lv_iload_n hx hb dJ7_fill_53178_6 rfl (lv_at hl 3 rfl) ?_
      refine pz_icmpge (tgt := 20) hx hb dJ7_fill_53178_7 (by decide) (⟨by omega, by omega⟩) (⟨by omega, by omega⟩) (fun hi => ?_) (fun hi => ?_)
      · exact fin (ad, N, c1) c1 _ _ _ _ _ _ rfl ⟨hA.to (fun j hj => hG j (by omega)), hF⟩ w dJ7_fill_53178_20 (Nat.le_refl _) (Nat.le_refl _)
      · refine lv_aload_n hx hb dJ7_fill_53178_10 rfl (lv_at hl 0 rfl) ?_
        refine lv_iload_n hx hb dJ7_fill_53178_11 rfl (lv_at hl 2 rfl) ?_
        refine lv_iload_n hx hb dJ7_fill_53178_12 rfl (lv_at hl 1 rfl) ?_
        refine pw_iast' (r := r) (j := i) hx hb w hr hA (by omega) (by omega) (by omega) dJ7_fill_53178_13 (fun H locs c1 hc1 fr1 w => ?_)
        refine pz_iinc (lv' := [(2, .int (zI ((i + 1 : Nat) : Int))), (0, .ref (ad r)), (1, .int (zI v)), (3, .int (zI (n : Int)))]) hx hb dJ7_fill_53178_14 hl (j := 2) rfl ((i + 1 : Nat) : Int) (by omega) (by decide) rfl (fun ls hl => ?_)
        refine lv_goto (tgt := 5) hx hb dJ7_fill_53178_17 (by decide) ?_
        exact ih (i + 1) (upI gi i v) c1 H locs ls (by omega) hc1 (fun j hj => by unfold upI; split <;> first | rfl | exact hG j (by omega)) (fun q hq => (fr1 q hq).trans (hF q hq)) (by omega) w (lv_sub hl [1, 2, 0, 3] rfl)
  exact lp (n + 1) 0 g c H locs ls (by omega) ha (fun j hj => by omega) (fun _ _ => rfl) (by omega) w (lv_sub hl [2, 3, 1, 0] rfl)

theorem hin_X1_startRow_1 : ∀ w ∈ u_ws RX1 TX1 1, w ∈ wsX1_startRow := by decide +kernel
theorem fl_X1_startRow_9 : Cond.fieldLink RX1 9 "PipersDesk$Leasts" "costs" "[I" ∈ wsX1_startRow := by decide +kernel
theorem wd_X1_startRow_k15 : Cond.constant RX1 15 (1000000) ∈ wsX1_startRow := by decide +kernel
abbrev rm_X1_startRow : Room := { frames := 1, cells := 0, slots := 0, locals := 30 }
set_option maxHeartbeats 4000000 in
set_option maxRecDepth 100000 in
/-- Leasts.startRow -/
theorem c_X1_startRow (l : Launch) (D : va_G) (G : Nat → ClassId) (ad : Nat → Nat) (N : Nat) (c : Nat → va_E) {r : Nat} {g : Nat → Int} (hr : r < N) (hr1 : r + 1 < N) (ho : c r = .inr (1, [.ref (ad (r + 1))])) (ha : isA 0 G (c (r + 1)) 9 g) : MC l yX1_startRow wsX1_startRow rm_X1_startRow [.ref (ad r)] D G ad N c (qV D G (fx ad N) (fun c1 => isA 0 G (c1 (r + 1)) 9 startF ∧ ∀ q, q ≠ r + 1 → c1 q = c q)) 0 0 := by
  refine MCv.of (cc := cX1_startRow) (maxL := 1) (by decide) rfl (Nat.le_of_ble_eq_true rfl) ?_
  intro p e s m args below meth kc A Q hx hb hts hown hml hin2 fin H locs w ls hl
  have hown : s.vm.findClass RX1 = some m.cls := hown
  have hl : lv_has ls 1 [(0, .ref (ad r))] := hl
  refine lv_aload_n hx hb dX1_startRow_0 rfl (lv_at hl 0 rfl) ?_
  refine pw_get (r := r) (ci := 1) (C := RX1) (T := TX1) (Nf := 1) hx hb w hts hin_X1_startRow_1 hown hr ho rfl 0 (by decide) (hts _ fl_X1_startRow_9) (fun _ h9 => h9) rfl dX1_startRow_1 ?_
  refine lv_ldc hx hb hown (hts _ wd_X1_startRow_k15) dX1_startRow_4 (pz_topI (y := zI (1000000)) (by decide +kernel) ?_)
  refine pw_cv w (pw_runS (As := [.ref (ad (r + 1)), .int (zI 1000000)]) (rest := []) w ⟨hx, hb, hml, hown, hts⟩ (c_J7_fill_53178 l D G ad N c (r := r + 1) (v := 1000000) hr1 (by decide) ha) (va_cwS 2 hts gX1_startRow_J7_fill_53178 rfl rfl rfl (by decide +kernel) ⟨Nat.le_of_ble_eq_true rfl, Nat.le_of_ble_eq_true rfl⟩) rfl hl.1 rfl (lv_room (Nat.le_of_ble_eq_true rfl)) dX1_startRow_6 ⟨Nat.le_of_ble_eq_true rfl, Nat.le_of_ble_eq_true rfl⟩) (fun c1 H locs hp w => ?_)
  have w : PW D G A s ad N c1 H locs := w
  obtain ⟨hA1, fr1⟩ := hp
  refine lv_aload_n hx hb dX1_startRow_9 rfl (lv_at hl 0 rfl) ?_
  refine pw_get (r := r) (ci := 1) (C := RX1) (T := TX1) (Nf := 1) hx hb w hts hin_X1_startRow_1 hown hr ((fr1 r (by omega)).trans ho) rfl 0 (by decide) (hts _ fl_X1_startRow_9) (fun _ h9 => h9) rfl dX1_startRow_10 ?_
  refine lv_iconst (v := zI (0)) hx hb dX1_startRow_13 rfl ?_
  refine lv_iconst (v := zI (0)) hx hb dX1_startRow_14 rfl ?_
  refine pw_iast' (r := (r + 1)) (j := 0) hx hb w hr1 hA1 (by omega) (by omega) (by decide) dX1_startRow_15 (fun H locs c2 hc2 fr2 w => ?_)
  exact fin (ad, N, c2) c2 _ _ _ _ _ _ rfl ⟨hc2.to (fun j hj => by unfold upI startF; split <;> rfl), fun q hq => (fr2 q hq).trans (fr1 q hq)⟩ w dX1_startRow_16 (Nat.le_refl _) (Nat.le_refl _)

theorem hin_X1_leastOfAll_1 : ∀ w ∈ u_ws RX1 TX1 1, w ∈ wsX1_leastOfAll := by decide +kernel
theorem fl_X1_leastOfAll_9 : Cond.fieldLink RX1 9 "PipersDesk$Leasts" "costs" "[I" ∈ wsX1_leastOfAll := by decide +kernel
abbrev rm_X1_leastOfAll : Room := { frames := 1, cells := 0, slots := 0, locals := 30 }
set_option maxHeartbeats 4000000 in
set_option maxRecDepth 100000 in
/-- Leasts.leastOfAll -/
theorem c_X1_leastOfAll (l : Launch) (D : va_G) (G : Nat → ClassId) (ad : Nat → Nat) (N : Nat) (c : Nat → va_E) {r : Nat} {g : Nat → Int} (hr : r < N) (hr1 : r + 1 < N) (ho : c r = .inr (1, [.ref (ad (r + 1))])) (ha : isA 0 G (c (r + 1)) 9 g) (hg : ∀ j, j < 9 → 0 ≤ g j ∧ g j ≤ 1000000) : MC l yX1_leastOfAll wsX1_leastOfAll rm_X1_leastOfAll [.ref (ad r)] D G ad N c (qI D G (fx ad N) (fun v c1 => v = zI (lessOf g) ∧ c1 = c)) 0 0 := by
  refine MCi.of (cc := cX1_leastOfAll) (maxL := 1) (by decide) rfl (Nat.le_of_ble_eq_true rfl) ?_
  intro p e s m args below meth kc A Q hx hb hts hown hml fin H locs w ls hl
  have hown : s.vm.findClass RX1 = some m.cls := hown
  have hl : lv_has ls 1 [(0, .ref (ad r))] := hl
  refine lv_aload_n hx hb dX1_leastOfAll_0 rfl (lv_at hl 0 rfl) ?_
  refine pw_get (r := r) (ci := 1) (C := RX1) (T := TX1) (Nf := 1) hx hb w hts hin_X1_leastOfAll_1 hown hr ho rfl 0 (by decide) (hts _ fl_X1_leastOfAll_9) (fun _ h9 => h9) rfl dX1_leastOfAll_1 ?_
  refine lv_aload_n hx hb dX1_leastOfAll_4 rfl (lv_at hl 0 rfl) ?_
  refine lv_iconst (v := zI (0)) hx hb dX1_leastOfAll_5 rfl ?_
  refine pw_ci w (pw_runV (r := r) (ci := 1) (As := [.int (zI 0)]) (rest := [.ref (ad (r + 1))]) w ⟨hx, hb, hml, hown, hts⟩ (c_X1_firstLeastBeside l D G ad N c (r := r) (o := 0) hr hr1 ho ha hg (by omega)) (cwV 1 hts gX1_leastOfAll_X1_firstLeastBeside rfl rfl rfl (by decide +kernel) ⟨Nat.le_of_ble_eq_true rfl, Nat.le_of_ble_eq_true rfl⟩) hr ho rfl rfl hl.1 rfl (lv_room (Nat.le_of_ble_eq_true rfl)) dX1_leastOfAll_6 ⟨Nat.le_of_ble_eq_true rfl, Nat.le_of_ble_eq_true rfl⟩) (fun r_ u H locs hp w => ?_)
  obtain ⟨hv, hu⟩ := hp
  subst hv
  have w : PW D G A s ad N c H locs := by rw [hu] at w; exact w
  clear hu
  have hlt := flb_lt g 0
  refine pw_iald (r := (r + 1)) (j := (flb g 0)) hx hb w hr1 ha (by omega) (by omega) (by decide) dX1_leastOfAll_9 ?_
  exact fin (ad, N, c) c _ _ _ _ _ _ _ rfl ⟨rfl, rfl⟩ w dX1_leastOfAll_10 (Nat.le_refl _) (Nat.le_refl _)

theorem hin_X1_growFrom_1 : ∀ w ∈ u_ws RX1 TX1 1, w ∈ wsX1_growFrom := by decide +kernel
theorem fl_X1_growFrom_9 : Cond.fieldLink RX1 9 "PipersDesk$Leasts" "costs" "[I" ∈ wsX1_growFrom := by decide +kernel
theorem wd_X1_growFrom_k15 : Cond.constant RX1 15 (1000000) ∈ wsX1_growFrom := by decide +kernel
theorem wd_X1_growFrom_minl : Cond.methodLink RX1 26 Lib.Math.min.name ∈ wsX1_growFrom := by decide +kernel
theorem wd_X1_growFrom_mins : Cond.static Lib.Math.min.name ∈ wsX1_growFrom := by decide +kernel
theorem wd_X1_growFrom_mini : Cond.initialized "java/lang/Math" ∈ wsX1_growFrom := by decide +kernel
theorem wd_X1_growFrom_minc : Cond.code Lib.Math.min.name Lib.Math.min.code 2 (some .int) ∈ wsX1_growFrom := by decide +kernel
abbrev rm_X1_growFrom : Room := { frames := 1, cells := 0, slots := 0, locals := 30 }
set_option maxHeartbeats 4000000 in
set_option maxRecDepth 100000 in
/-- Leasts.growFrom -/
theorem c_X1_growFrom (l : Launch) (D : va_G) (G : Nat → ClassId) (ad : Nat → Nat) (N : Nat) (c : Nat → va_E) {r q t : Nat} {g0 g v : Nat → Int} (hr : r < N) (hr1 : r + 1 < N) (hq : q < N) (hq1 : q + 1 < N) (ht : t < N) (ho : c r = .inr (1, [.ref (ad (r + 1))])) (ha : isA 0 G (c (r + 1)) 9 g0) (hoq : c q = .inr (1, [.ref (ad (q + 1))])) (haq : isA 0 G (c (q + 1)) 9 g) (hat : isA 0 G (c t) 9 v) (htr : t ≠ r + 1) (hg : ∀ j, j < 9 → 0 ≤ g j ∧ g j ≤ 1000000) (hv9 : ∀ j, j < 9 → 0 ≤ v j ∧ v j ≤ 1000000) : MC l yX1_growFrom wsX1_growFrom rm_X1_growFrom [.ref (ad r), .ref (ad q), .ref (ad t)] D G ad N c (qV D G (fx ad N) (fun c1 => isA 0 G (c1 (r + 1)) 9 (growF g v) ∧ ∀ q, q ≠ r + 1 → c1 q = c q)) 0 0 := by
  refine MCv.of (cc := cX1_growFrom) (maxL := 8) (by decide) rfl (Nat.le_of_ble_eq_true rfl) ?_
  intro p e s m args below meth kc A Q hx hb hts hown hml hin2 fin H locs w ls hl
  have hown : s.vm.findClass RX1 = some m.cls := hown
  have hl : lv_has ls 8 [(0, .ref (ad r)), (1, .ref (ad q)), (2, .ref (ad t))] := hl
  have hlt := flb_lt g 0
  have hlt2 := flb_lt g (flb g 0)
  refine lv_aload_n hx hb dX1_growFrom_0 rfl (lv_at hl 1 rfl) ?_
  refine lv_iconst (v := zI (0)) hx hb dX1_growFrom_1 rfl ?_
  refine pw_ci w (pw_runV (r := q) (ci := 1) (As := [.int (zI 0)]) (rest := []) w ⟨hx, hb, hml, hown, hts⟩ (c_X1_firstLeastBeside l D G ad N c (r := q) (o := 0) hq hq1 hoq haq hg (by omega)) (cwV 1 hts gX1_growFrom_X1_firstLeastBeside rfl rfl rfl (by decide +kernel) ⟨Nat.le_of_ble_eq_true rfl, Nat.le_of_ble_eq_true rfl⟩) hq hoq rfl rfl hl.1 rfl (lv_room (Nat.le_of_ble_eq_true rfl)) dX1_growFrom_2 ⟨Nat.le_of_ble_eq_true rfl, Nat.le_of_ble_eq_true rfl⟩) (fun r_ u H locs hp w => ?_)
  obtain ⟨hv, hu⟩ := hp
  subst hv
  have w : PW D G A s ad N c H locs := by rw [hu] at w; exact w
  clear hu
  refine lv_istore_n (lv' := [(3, .int (zI (flb g 0 : Int))), (0, .ref (ad r)), (1, .ref (ad q)), (2, .ref (ad t))]) hx hb dX1_growFrom_5 rfl hl (by decide) rfl (fun ls hl => ?_)
  refine lv_aload_n hx hb dX1_growFrom_6 rfl (lv_at hl 2 rfl) ?_
  refine pw_get (r := q) (ci := 1) (C := RX1) (T := TX1) (Nf := 1) hx hb w hts hin_X1_growFrom_1 hown hq hoq rfl 0 (by decide) (hts _ fl_X1_growFrom_9) (fun _ h9 => h9) rfl dX1_growFrom_7 ?_
  refine lv_iload_n hx hb dX1_growFrom_10 rfl (lv_at hl 0 rfl) ?_
  refine pw_iald (r := (q + 1)) (j := (flb g 0)) hx hb w hq1 haq (by omega) (by omega) (by decide) dX1_growFrom_11 ?_
  refine lv_istore (lv' := [(4, .int (zI (g (flb g 0)))), (3, .int (zI (flb g 0 : Int))), (0, .ref (ad r)), (1, .ref (ad q)), (2, .ref (ad t))]) hx hb dX1_growFrom_12 hl (by decide) rfl (fun ls hl => ?_)
  refine lv_aload_n hx hb dX1_growFrom_14 rfl (lv_at hl 3 rfl) ?_
  refine pw_get (r := q) (ci := 1) (C := RX1) (T := TX1) (Nf := 1) hx hb w hts hin_X1_growFrom_1 hown hq hoq rfl 0 (by decide) (hts _ fl_X1_growFrom_9) (fun _ h9 => h9) rfl dX1_growFrom_15 ?_
  refine lv_aload_n hx hb dX1_growFrom_18 rfl (lv_at hl 3 rfl) ?_
  refine lv_iload_n hx hb dX1_growFrom_19 rfl (lv_at hl 1 rfl) ?_
  refine pw_ci w (pw_runV (r := q) (ci := 1) (As := [.int (zI (flb g 0 : Int))]) (rest := [.ref (ad (q + 1))]) w ⟨hx, hb, hml, hown, hts⟩ (c_X1_firstLeastBeside l D G ad N c (r := q) (o := flb g 0) hq hq1 hoq haq hg (by omega)) (cwV 1 hts gX1_growFrom_X1_firstLeastBeside rfl rfl rfl (by decide +kernel) ⟨Nat.le_of_ble_eq_true rfl, Nat.le_of_ble_eq_true rfl⟩) hq hoq rfl rfl hl.1 rfl (lv_room (Nat.le_of_ble_eq_true rfl)) dX1_growFrom_20 ⟨Nat.le_of_ble_eq_true rfl, Nat.le_of_ble_eq_true rfl⟩) (fun r_ u H locs hp w => ?_)
  obtain ⟨hv, hu⟩ := hp
  subst hv
  have w : PW D G A s ad N c H locs := by rw [hu] at w; exact w
  clear hu
  refine pw_iald (r := (q + 1)) (j := (flb g (flb g 0))) hx hb w hq1 haq (by omega) (by omega) (by decide) dX1_growFrom_23 ?_
  refine lv_istore (lv' := [(5, .int (zI (g (flb g (flb g 0))))), (4, .int (zI (g (flb g 0)))), (3, .int (zI (flb g 0 : Int))), (0, .ref (ad r)), (1, .ref (ad q)), (2, .ref (ad t))]) hx hb dX1_growFrom_24 hl (by decide) rfl (fun ls hl => ?_)
  refine lv_iconst (v := zI (0)) hx hb dX1_growFrom_26 rfl ?_
  refine lv_istore (lv' := [(6, .int (zI 0)), (5, .int (zI (g (flb g (flb g 0))))), (4, .int (zI (g (flb g 0)))), (3, .int (zI (flb g 0 : Int))), (0, .ref (ad r)), (1, .ref (ad q)), (2, .ref (ad t))]) hx hb dX1_growFrom_27 hl (by decide) rfl (fun ls hl => ?_)
  have lp : ∀ (f i : Nat) (gi : Nat → Int) (c1 : Nat → va_E) (H : Heap) (locs : List Loc) (ls : Array Slot), i ≤ 9 → isA 0 G (c1 (r + 1)) 9 gi → (∀ j, j < i → gi j = growF g v j) → (∀ q, q ≠ r + 1 → c1 q = c q) → 9 < i + f → PW D G A s ad N c1 H locs → lv_has ls 8 [(0, .ref (ad r)), (1, .ref (ad q)), (2, .ref (ad t)), (3, .int (zI (flb g 0 : Int))), (4, .int (zI (g (flb g 0)))), (5, .int (zI (g (flb g (flb g 0))))), (6, .int (zI (i : Int)))] → W p l e rm_X1_growFrom s m args below meth kc H locs 0 0 Q (F0 m 29 ls []) := by
    intro f
    induction f with
    | zero => intro i gi c1 H locs ls h9 hA hG hF hfu w hl; omega
    | succ f ih =>
      intro i gi c1 H locs ls h9 hA hG hF hfu w hl
      refine lv_iload hx hb dX1_growFrom_29 (lv_at hl 6 rfl) ?_
      refine lv_bipush (v := zI (9)) hx hb dX1_growFrom_31 (by decide +kernel) ?_
      refine pz_icmpge (tgt := 76) hx hb dX1_growFrom_33 (by decide) (⟨by omega, by omega⟩) (⟨by omega, by omega⟩) (fun hi => ?_) (fun hi => ?_)
      · exact fin (ad, N, c1) c1 _ _ _ _ _ _ rfl ⟨hA.to (fun j hj => hG j (by omega)), hF⟩ w dX1_growFrom_76 (Nat.le_refl _) (Nat.le_refl _)
      · refine lv_iload hx hb dX1_growFrom_36 (lv_at hl 6 rfl) ?_
        refine lv_iload_n hx hb dX1_growFrom_38 rfl (lv_at hl 3 rfl) ?_
        refine pz_icmpne (tgt := 47) hx hb dX1_growFrom_39 (by decide) (⟨by omega, by omega⟩) (⟨by omega, by omega⟩) (fun he => ?_) (fun he => ?_)
        · refine lv_iload hx hb dX1_growFrom_47 (lv_at hl 4 rfl) ?_
          have hb1 := hg (flb g 0) (by omega)
          have hb2 := hg (flb g (flb g 0)) (by omega)
          have hb3 := hv9 i (by omega)
          refine lv_istore (lv' := [(7, .int (zI (g (flb g 0)))), (0, .ref (ad r)), (1, .ref (ad q)), (2, .ref (ad t)), (3, .int (zI (flb g 0 : Int))), (4, .int (zI (g (flb g 0)))), (5, .int (zI (g (flb g (flb g 0))))), (6, .int (zI (i : Int)))]) hx hb dX1_growFrom_49 hl (by decide) rfl (fun ls hl => ?_)
          refine lv_aload_n hx hb dX1_growFrom_51 rfl (lv_at hl 1 rfl) ?_
          refine pw_get (r := r) (ci := 1) (C := RX1) (T := TX1) (Nf := 1) hx hb w hts hin_X1_growFrom_1 hown hr ((hF r (by omega)).trans ho) rfl 0 (by decide) (hts _ fl_X1_growFrom_9) (fun _ h9 => h9) rfl dX1_growFrom_52 ?_
          refine lv_iload hx hb dX1_growFrom_55 (lv_at hl 7 rfl) ?_
          refine lv_ldc hx hb hown (hts _ wd_X1_growFrom_k15) dX1_growFrom_57 (pz_topI (y := zI (1000000)) (by decide +kernel) ?_)
          refine lv_iload hx hb dX1_growFrom_59 (lv_at hl 0 rfl) ?_
          refine lv_aload_n hx hb dX1_growFrom_61 rfl (lv_at hl 3 rfl) ?_
          refine lv_iload hx hb dX1_growFrom_62 (lv_at hl 7 rfl) ?_
          refine pw_iald (r := t) (j := i) hx hb w ht (isA.fr (hF t htr) hat) (by omega) (by omega) (by decide) dX1_growFrom_64 ?_
          refine pz_iadd hx hb dX1_growFrom_65 ?_
          refine pz_min hx hb (by rw [hml]; exact hl.1.symm) hown (hts _ wd_X1_growFrom_minl) (hts _ wd_X1_growFrom_mins) (hts _ wd_X1_growFrom_mini) (hts _ wd_X1_growFrom_minc) (Nat.le_of_ble_eq_true rfl) (Nat.le_of_ble_eq_true rfl) (Nat.le_of_ble_eq_true rfl) (Nat.le_of_ble_eq_true rfl) ⟨by omega, by omega⟩ ⟨by omega, by omega⟩ dX1_growFrom_66 ?_
          refine pz_top (b := growF g v i) (by unfold growF; rw [if_neg (by omega)]) ?_
          refine pw_iast' (r := (r + 1)) (j := i) hx hb w hr1 hA (by omega) (by omega) (by decide) dX1_growFrom_69 (fun H locs c1 hc1 fr1 w => ?_)
          refine pz_iinc (lv' := [(6, .int (zI ((i + 1 : Nat) : Int))), (7, .int (zI (g (flb g 0)))), (0, .ref (ad r)), (1, .ref (ad q)), (2, .ref (ad t)), (3, .int (zI (flb g 0 : Int))), (4, .int (zI (g (flb g 0)))), (5, .int (zI (g (flb g (flb g 0)))))]) hx hb dX1_growFrom_70 hl (j := 7) rfl ((i + 1 : Nat) : Int) (by omega) (by decide) rfl (fun ls hl => ?_)
          refine lv_goto (tgt := 29) hx hb dX1_growFrom_73 (by decide) ?_
          exact ih (i + 1) (upI gi i (growF g v i)) c1 H locs ls (by omega) hc1 (fun j hj => by unfold upI; split <;> first | (rename_i e9; rw [e9]; done) | exact hG j (by omega)) (fun q hq => (fr1 q hq).trans (hF q hq)) (by omega) w (lv_sub hl [2, 3, 4, 5, 6, 7, 0] rfl)
        · refine lv_iload hx hb dX1_growFrom_42 (lv_at hl 5 rfl) ?_
          refine lv_goto (tgt := 49) hx hb dX1_growFrom_44 (by decide) ?_
          have hb1 := hg (flb g 0) (by omega)
          have hb2 := hg (flb g (flb g 0)) (by omega)
          have hb3 := hv9 i (by omega)
          refine lv_istore (lv' := [(7, .int (zI (g (flb g (flb g 0))))), (0, .ref (ad r)), (1, .ref (ad q)), (2, .ref (ad t)), (3, .int (zI (flb g 0 : Int))), (4, .int (zI (g (flb g 0)))), (5, .int (zI (g (flb g (flb g 0))))), (6, .int (zI (i : Int)))]) hx hb dX1_growFrom_49 hl (by decide) rfl (fun ls hl => ?_)
          refine lv_aload_n hx hb dX1_growFrom_51 rfl (lv_at hl 1 rfl) ?_
          refine pw_get (r := r) (ci := 1) (C := RX1) (T := TX1) (Nf := 1) hx hb w hts hin_X1_growFrom_1 hown hr ((hF r (by omega)).trans ho) rfl 0 (by decide) (hts _ fl_X1_growFrom_9) (fun _ h9 => h9) rfl dX1_growFrom_52 ?_
          refine lv_iload hx hb dX1_growFrom_55 (lv_at hl 7 rfl) ?_
          refine lv_ldc hx hb hown (hts _ wd_X1_growFrom_k15) dX1_growFrom_57 (pz_topI (y := zI (1000000)) (by decide +kernel) ?_)
          refine lv_iload hx hb dX1_growFrom_59 (lv_at hl 0 rfl) ?_
          refine lv_aload_n hx hb dX1_growFrom_61 rfl (lv_at hl 3 rfl) ?_
          refine lv_iload hx hb dX1_growFrom_62 (lv_at hl 7 rfl) ?_
          refine pw_iald (r := t) (j := i) hx hb w ht (isA.fr (hF t htr) hat) (by omega) (by omega) (by decide) dX1_growFrom_64 ?_
          refine pz_iadd hx hb dX1_growFrom_65 ?_
          refine pz_min hx hb (by rw [hml]; exact hl.1.symm) hown (hts _ wd_X1_growFrom_minl) (hts _ wd_X1_growFrom_mins) (hts _ wd_X1_growFrom_mini) (hts _ wd_X1_growFrom_minc) (Nat.le_of_ble_eq_true rfl) (Nat.le_of_ble_eq_true rfl) (Nat.le_of_ble_eq_true rfl) (Nat.le_of_ble_eq_true rfl) ⟨by omega, by omega⟩ ⟨by omega, by omega⟩ dX1_growFrom_66 ?_
          refine pz_top (b := growF g v i) (by unfold growF; rw [if_pos (by omega)]) ?_
          refine pw_iast' (r := (r + 1)) (j := i) hx hb w hr1 hA (by omega) (by omega) (by decide) dX1_growFrom_69 (fun H locs c2 hc2 fr2 w => ?_)
          refine pz_iinc (lv' := [(6, .int (zI ((i + 1 : Nat) : Int))), (7, .int (zI (g (flb g (flb g 0))))), (0, .ref (ad r)), (1, .ref (ad q)), (2, .ref (ad t)), (3, .int (zI (flb g 0 : Int))), (4, .int (zI (g (flb g 0)))), (5, .int (zI (g (flb g (flb g 0)))))]) hx hb dX1_growFrom_70 hl (j := 7) rfl ((i + 1 : Nat) : Int) (by omega) (by decide) rfl (fun ls hl => ?_)
          refine lv_goto (tgt := 29) hx hb dX1_growFrom_73 (by decide) ?_
          exact ih (i + 1) (upI gi i (growF g v i)) c2 H locs ls (by omega) hc2 (fun j hj => by unfold upI; split <;> first | (rename_i e9; rw [e9]; done) | exact hG j (by omega)) (fun q hq => (fr2 q hq).trans (hF q hq)) (by omega) w (lv_sub hl [2, 3, 4, 5, 6, 7, 0] rfl)
  exact lp 10 0 g0 c H locs ls (by omega) ha (fun j hj => by omega) (fun _ _ => rfl) (by omega) w (lv_sub hl [4, 5, 6, 3, 2, 1, 0] rfl)
