def bc1 (x : Int32) : Int32 := x - ((x.toUInt32 >>> ((zI 1).toUInt32 &&& Int32.toUInt32 31)).toInt32 &&& zI 1431655765)
def bc2 (x : Int32) : Int32 := (x &&& zI 858993459) + ((x.toUInt32 >>> ((zI 2).toUInt32 &&& Int32.toUInt32 31)).toInt32 &&& zI 858993459)
def bc3 (x : Int32) : Int32 := (x + (x.toUInt32 >>> ((zI 4).toUInt32 &&& Int32.toUInt32 31)).toInt32) &&& zI 252645135
def bc4 (x : Int32) : Int32 := x + (x.toUInt32 >>> ((zI 8).toUInt32 &&& Int32.toUInt32 31)).toInt32
def bc5 (x : Int32) : Int32 := x + (x.toUInt32 >>> ((zI 16).toUInt32 &&& Int32.toUInt32 31)).toInt32
theorem bcN : ∀ a, a < 9 → ∀ b, b < 9 → (bc5 (bc4 (bc3 (bc2 (bc1 (zI (closedN a) ^^^ zI (closedN b)))))) &&& zI 63) = zI (mv a b) := by decide +kernel
theorem crN : ∀ a, a < 9 → ∀ b, b < 9 → ((zI (closedN a) &&& (zI (closedN b) ^^^ zI (-1))) = 0 ↔ (hbit a &&& (hbit b ^^^ 255)) = 0) := by decide +kernel

theorem wd_J6_bitCount_0f7a4_k265 : Cond.constant RJ6 265 (1431655765) ∈ wsJ6_bitCount_0f7a4 := by decide +kernel
theorem wd_J6_bitCount_0f7a4_k266 : Cond.constant RJ6 266 (858993459) ∈ wsJ6_bitCount_0f7a4 := by decide +kernel
theorem wd_J6_bitCount_0f7a4_k267 : Cond.constant RJ6 267 (252645135) ∈ wsJ6_bitCount_0f7a4 := by decide +kernel
abbrev rm_J6_bitCount_0f7a4 : Room := { frames := 0, cells := 0, slots := 0, locals := 0 }
set_option maxHeartbeats 4000000 in
set_option maxRecDepth 100000 in
/-- Integer.bitCount of two pitches' difference -/
theorem c_J6_bitCount_0f7a4 (l : Launch) (D : va_G) (G : Nat → ClassId) (ad : Nat → Nat) (N : Nat) (c : Nat → va_E) {a b : Nat} (ha : a < 9) (hb9 : b < 9) : MC l yJ6_bitCount_0f7a4 wsJ6_bitCount_0f7a4 rm_J6_bitCount_0f7a4 [.int (zI (closedN a) ^^^ zI (closedN b))] D G ad N c (qI D G (fx ad N) (fun v c1 => v = zI (mv a b) ∧ c1 = c)) 0 0 := by
  refine MCi.of (cc := cJ6_bitCount_0f7a4) (maxL := 1) (by decide) rfl (Nat.le_of_ble_eq_true rfl) ?_
  intro p e s m args below meth kc A Q hx hb hts hown hml fin H locs w ls hl
  have hown : s.vm.findClass RJ6 = some m.cls := hown
  have hl : lv_has ls 1 [(0, .int (zI (closedN a) ^^^ zI (closedN b)))] := hl
  refine lv_iload_n hx hb dJ6_bitCount_0f7a4_0 rfl (lv_at hl 0 rfl) ?_
  refine lv_iload_n hx hb dJ6_bitCount_0f7a4_1 rfl (lv_at hl 0 rfl) ?_
  refine lv_iconst (v := zI (1)) hx hb dJ6_bitCount_0f7a4_2 rfl ?_
  refine lv_iushr (v := ((zI (closedN a) ^^^ zI (closedN b)).toUInt32 >>> ((zI 1).toUInt32 &&& Int32.toUInt32 31)).toInt32) hx hb dJ6_bitCount_0f7a4_3 rfl ?_
  refine lv_ldcw hx hb hown (hts _ wd_J6_bitCount_0f7a4_k265) dJ6_bitCount_0f7a4_4 (pz_topI (y := zI (1431655765)) (by decide +kernel) ?_)
  refine lv_iand hx hb dJ6_bitCount_0f7a4_7 ?_
  refine lv_isub hx hb dJ6_bitCount_0f7a4_8 ?_
  refine pz_topI (y := (bc1 (zI (closedN a) ^^^ zI (closedN b)))) (rfl) ?_
  refine lv_istore_n (lv' := [(0, .int (bc1 (zI (closedN a) ^^^ zI (closedN b))))]) hx hb dJ6_bitCount_0f7a4_9 rfl hl (by decide) rfl (fun ls hl => ?_)
  refine lv_iload_n hx hb dJ6_bitCount_0f7a4_10 rfl (lv_at hl 0 rfl) ?_
  refine lv_ldcw hx hb hown (hts _ wd_J6_bitCount_0f7a4_k266) dJ6_bitCount_0f7a4_11 (pz_topI (y := zI (858993459)) (by decide +kernel) ?_)
  refine lv_iand hx hb dJ6_bitCount_0f7a4_14 ?_
  refine lv_iload_n hx hb dJ6_bitCount_0f7a4_15 rfl (lv_at hl 0 rfl) ?_
  refine lv_iconst (v := zI (2)) hx hb dJ6_bitCount_0f7a4_16 rfl ?_
  refine lv_iushr (v := ((bc1 (zI (closedN a) ^^^ zI (closedN b))).toUInt32 >>> ((zI 2).toUInt32 &&& Int32.toUInt32 31)).toInt32) hx hb dJ6_bitCount_0f7a4_17 rfl ?_
  refine lv_ldcw hx hb hown (hts _ wd_J6_bitCount_0f7a4_k266) dJ6_bitCount_0f7a4_18 (pz_topI (y := zI (858993459)) (by decide +kernel) ?_)
  refine lv_iand hx hb dJ6_bitCount_0f7a4_21 ?_
  refine lv_iadd hx hb dJ6_bitCount_0f7a4_22 ?_
  refine pz_topI (y := (bc2 (bc1 (zI (closedN a) ^^^ zI (closedN b))))) (rfl) ?_
  refine lv_istore_n (lv' := [(0, .int (bc2 (bc1 (zI (closedN a) ^^^ zI (closedN b)))))]) hx hb dJ6_bitCount_0f7a4_23 rfl hl (by decide) rfl (fun ls hl => ?_)
  refine lv_iload_n hx hb dJ6_bitCount_0f7a4_24 rfl (lv_at hl 0 rfl) ?_
  refine lv_iload_n hx hb dJ6_bitCount_0f7a4_25 rfl (lv_at hl 0 rfl) ?_
  refine lv_iconst (v := zI (4)) hx hb dJ6_bitCount_0f7a4_26 rfl ?_
  refine lv_iushr (v := ((bc2 (bc1 (zI (closedN a) ^^^ zI (closedN b)))).toUInt32 >>> ((zI 4).toUInt32 &&& Int32.toUInt32 31)).toInt32) hx hb dJ6_bitCount_0f7a4_27 rfl ?_
  refine lv_iadd hx hb dJ6_bitCount_0f7a4_28 ?_
  refine lv_ldcw hx hb hown (hts _ wd_J6_bitCount_0f7a4_k267) dJ6_bitCount_0f7a4_29 (pz_topI (y := zI (252645135)) (by decide +kernel) ?_)
  refine lv_iand hx hb dJ6_bitCount_0f7a4_32 ?_
  refine pz_topI (y := (bc3 (bc2 (bc1 (zI (closedN a) ^^^ zI (closedN b)))))) (rfl) ?_
  refine lv_istore_n (lv' := [(0, .int (bc3 (bc2 (bc1 (zI (closedN a) ^^^ zI (closedN b))))))]) hx hb dJ6_bitCount_0f7a4_33 rfl hl (by decide) rfl (fun ls hl => ?_)
  refine lv_iload_n hx hb dJ6_bitCount_0f7a4_34 rfl (lv_at hl 0 rfl) ?_
  refine lv_iload_n hx hb dJ6_bitCount_0f7a4_35 rfl (lv_at hl 0 rfl) ?_
  refine lv_bipush (v := zI (8)) hx hb dJ6_bitCount_0f7a4_36 (by decide +kernel) ?_
  refine lv_iushr (v := ((bc3 (bc2 (bc1 (zI (closedN a) ^^^ zI (closedN b))))).toUInt32 >>> ((zI 8).toUInt32 &&& Int32.toUInt32 31)).toInt32) hx hb dJ6_bitCount_0f7a4_38 rfl ?_
  refine lv_iadd hx hb dJ6_bitCount_0f7a4_39 ?_
  refine pz_topI (y := (bc4 (bc3 (bc2 (bc1 (zI (closedN a) ^^^ zI (closedN b))))))) (rfl) ?_
  refine lv_istore_n (lv' := [(0, .int (bc4 (bc3 (bc2 (bc1 (zI (closedN a) ^^^ zI (closedN b)))))))]) hx hb dJ6_bitCount_0f7a4_40 rfl hl (by decide) rfl (fun ls hl => ?_)
  refine lv_iload_n hx hb dJ6_bitCount_0f7a4_41 rfl (lv_at hl 0 rfl) ?_
  refine lv_iload_n hx hb dJ6_bitCount_0f7a4_42 rfl (lv_at hl 0 rfl) ?_
  refine lv_bipush (v := zI (16)) hx hb dJ6_bitCount_0f7a4_43 (by decide +kernel) ?_
  refine lv_iushr (v := ((bc4 (bc3 (bc2 (bc1 (zI (closedN a) ^^^ zI (closedN b)))))).toUInt32 >>> ((zI 16).toUInt32 &&& Int32.toUInt32 31)).toInt32) hx hb dJ6_bitCount_0f7a4_45 rfl ?_
  refine lv_iadd hx hb dJ6_bitCount_0f7a4_46 ?_
  refine pz_topI (y := (bc5 (bc4 (bc3 (bc2 (bc1 (zI (closedN a) ^^^ zI (closedN b)))))))) (rfl) ?_
  refine lv_istore_n (lv' := [(0, .int (bc5 (bc4 (bc3 (bc2 (bc1 (zI (closedN a) ^^^ zI (closedN b))))))))]) hx hb dJ6_bitCount_0f7a4_47 rfl hl (by decide) rfl (fun ls hl => ?_)
  refine lv_iload_n hx hb dJ6_bitCount_0f7a4_48 rfl (lv_at hl 0 rfl) ?_
  refine lv_bipush (v := zI (63)) hx hb dJ6_bitCount_0f7a4_49 (by decide +kernel) ?_
  refine lv_iand hx hb dJ6_bitCount_0f7a4_51 ?_
  refine pz_topI (y := zI (mv a b)) (bcN a ha b hb9) ?_
  exact fin (ad, N, c) c _ _ _ _ _ _ _ rfl ⟨rfl, rfl⟩ w dJ6_bitCount_0f7a4_52 (Nat.le_refl _) (Nat.le_refl _)

abbrev rm_X0_holesMoved : Room := { frames := 1, cells := 0, slots := 0, locals := 30 }
set_option maxHeartbeats 4000000 in
set_option maxRecDepth 100000 in
/-- Fingers.holesMoved -/
theorem c_X0_holesMoved (l : Launch) (D : va_G) (G : Nat → ClassId) (ad : Nat → Nat) (N : Nat) (c : Nat → va_E) {x y : Nat} (hx9 : x < 9) (hy9 : y < 9) : MC l yX0_holesMoved wsX0_holesMoved rm_X0_holesMoved [.int (zI (x : Int)), .int (zI (y : Int))] D G ad N c (qI D G (fx ad N) (fun v c1 => v = zI (mv x y) ∧ c1 = c)) 0 0 := by
  refine MCi.of (cc := cX0_holesMoved) (maxL := 2) (by decide) rfl (Nat.le_of_ble_eq_true rfl) ?_
  intro p e s m args below meth kc A Q hx hb hts hown hml fin H locs w ls hl
  have hown : s.vm.findClass RX0 = some m.cls := hown
  have hl : lv_has ls 2 [(0, .int (zI (x : Int))), (1, .int (zI (y : Int)))] := hl
  refine pw_closed hx hb w hown ⟨rfl, rfl⟩ dX0_holesMoved_0 (fun t ht => ?_)
  refine lv_iload_n hx hb dX0_holesMoved_3 rfl (lv_at hl 0 rfl) ?_
  refine ht _ _ _ _ x (by omega) (by omega) dX0_holesMoved_4 ?_
  refine pw_closed hx hb w hown ⟨rfl, rfl⟩ dX0_holesMoved_5 (fun u hu => ?_)
  refine lv_iload_n hx hb dX0_holesMoved_8 rfl (lv_at hl 1 rfl) ?_
  refine hu _ _ _ _ y (by omega) (by omega) dX0_holesMoved_9 ?_
  refine lv_ixor hx hb dX0_holesMoved_10 ?_
  refine pw_ci w (pw_runS (As := [.int ((zI (closedN x)) ^^^ (zI (closedN y)))]) (rest := []) w ⟨hx, hb, hml, hown, hts⟩ (c_J6_bitCount_0f7a4 l D G ad N c (a := x) (b := y) hx9 hy9) (va_cwS 1 hts gX0_holesMoved_J6_bitCount_0f7a4 rfl rfl rfl (by decide +kernel) ⟨Nat.le_of_ble_eq_true rfl, Nat.le_of_ble_eq_true rfl⟩) rfl hl.1 rfl (lv_room (Nat.le_of_ble_eq_true rfl)) dX0_holesMoved_11 ⟨Nat.le_of_ble_eq_true rfl, Nat.le_of_ble_eq_true rfl⟩) (fun r_ u H locs hp w => ?_)
  obtain ⟨hv, hu⟩ := hp
  subst hv
  have w : PW D G A s ad N c H locs := by rw [hu] at w; exact w
  clear hu
  exact fin (ad, N, c) c _ _ _ _ _ _ _ rfl ⟨rfl, rfl⟩ w dX0_holesMoved_14 (Nat.le_refl _) (Nat.le_refl _)

abbrev rm_X0_crosses : Room := { frames := 0, cells := 0, slots := 0, locals := 0 }
set_option maxHeartbeats 4000000 in
set_option maxRecDepth 100000 in
/-- Fingers.crosses -/
theorem c_X0_crosses (l : Launch) (D : va_G) (G : Nat → ClassId) (ad : Nat → Nat) (N : Nat) (c : Nat → va_E) {x y : Nat} (hx9 : x < 9) (hy9 : y < 9) : MC l yX0_crosses wsX0_crosses rm_X0_crosses [.int (zI (x : Int)), .int (zI (y : Int))] D G ad N c (qI D G (fx ad N) (fun v c1 => v = zI (if crs x y = true then 1 else 0) ∧ c1 = c)) 0 0 := by
  refine MCz.of (cc := cX0_crosses) (maxL := 4) (by decide) rfl (Nat.le_of_ble_eq_true rfl) ?_
  intro p e s m args below meth kc A Q hx hb hts hown hml fin H locs w ls hl
  have hown : s.vm.findClass RX0 = some m.cls := hown
  have hl : lv_has ls 4 [(0, .int (zI (x : Int))), (1, .int (zI (y : Int)))] := hl
  have e1 := crN x hx9 y hy9
  have e2 := crN y hy9 x hx9
  refine pw_closed hx hb w hown ⟨rfl, rfl⟩ dX0_crosses_0 (fun t ht => ?_)
  refine lv_iload_n hx hb dX0_crosses_3 rfl (lv_at hl 0 rfl) ?_
  refine ht _ _ _ _ x (by omega) (by omega) dX0_crosses_4 ?_
  refine pw_closed hx hb w hown ⟨rfl, rfl⟩ dX0_crosses_5 (fun u hu => ?_)
  refine lv_iload_n hx hb dX0_crosses_8 rfl (lv_at hl 1 rfl) ?_
  refine hu _ _ _ _ y (by omega) (by omega) dX0_crosses_9 ?_
  refine lv_iconst (v := zI (-1)) hx hb dX0_crosses_10 rfl ?_
  refine lv_ixor hx hb dX0_crosses_11 ?_
  refine lv_iand hx hb dX0_crosses_12 ?_
  refine lv_if_eq (tgt := 20) hx hb dX0_crosses_13 (by decide) (fun ha => ?_) (fun ha => ?_)
  · have n1 := e1.mp ha
    refine lv_iconst (v := zI (0)) hx hb dX0_crosses_20 rfl ?_
    refine lv_istore_n (lv' := [(2, .int (zI 0)), (0, .int (zI (x : Int))), (1, .int (zI (y : Int)))]) hx hb dX0_crosses_21 rfl hl (by decide) rfl (fun ls hl => ?_)
    refine pw_closed hx hb w hown ⟨rfl, rfl⟩ dX0_crosses_22 (fun t2 ht2 => ?_)
    refine lv_iload_n hx hb dX0_crosses_25 rfl (lv_at hl 2 rfl) ?_
    refine ht2 _ _ _ _ y (by omega) (by omega) dX0_crosses_26 ?_
    refine pw_closed hx hb w hown ⟨rfl, rfl⟩ dX0_crosses_27 (fun u2 hu2 => ?_)
    refine lv_iload_n hx hb dX0_crosses_30 rfl (lv_at hl 1 rfl) ?_
    refine hu2 _ _ _ _ x (by omega) (by omega) dX0_crosses_31 ?_
    refine lv_iconst (v := zI (-1)) hx hb dX0_crosses_32 rfl ?_
    refine lv_ixor hx hb dX0_crosses_33 ?_
    refine lv_iand hx hb dX0_crosses_34 ?_
    refine lv_if_eq (tgt := 42) hx hb dX0_crosses_35 (by decide) (fun hb2 => ?_) (fun hb2 => ?_)
    · have n2 := e2.mp hb2
      refine lv_iconst (v := zI (0)) hx hb dX0_crosses_42 rfl ?_
      refine lv_istore_n (lv' := [(3, .int (zI 0)), (2, .int (zI 0)), (0, .int (zI (x : Int))), (1, .int (zI (y : Int)))]) hx hb dX0_crosses_43 rfl hl (by decide) rfl (fun ls hl => ?_)
      refine lv_iload_n hx hb dX0_crosses_44 rfl (lv_at hl 1 rfl) ?_
      refine pz_ifeq (tgt := 56) hx hb dX0_crosses_45 (by decide) (⟨by omega, by omega⟩) (fun hz => ?_) (fun hz => ?_)
      · refine lv_iconst (v := zI (0)) hx hb dX0_crosses_56 rfl ?_
        have hcr : crs x y = false := by
          unfold crs
          simp only [bne_iff_ne, ne_eq, Bool.and_eq_true, Bool.and_eq_false_iff, bne_eq_false_iff_eq]
          omega
        exact fin (ad, N, c) c _ _ _ _ _ _ _ rfl (Or.inl rfl) ⟨by rw [hcr]; rfl, rfl⟩ w dX0_crosses_57 (Nat.le_refl _) (Nat.le_refl _)
      · omega
    · have n2 : ¬ (hbit y &&& (hbit x ^^^ 255)) = 0 := fun q => hb2 (e2.mpr q)
      refine lv_iconst (v := zI (1)) hx hb dX0_crosses_38 rfl ?_
      refine lv_goto (tgt := 43) hx hb dX0_crosses_39 (by decide) ?_
      refine lv_istore_n (lv' := [(3, .int (zI 1)), (2, .int (zI 0)), (0, .int (zI (x : Int))), (1, .int (zI (y : Int)))]) hx hb dX0_crosses_43 rfl hl (by decide) rfl (fun ls hl => ?_)
      refine lv_iload_n hx hb dX0_crosses_44 rfl (lv_at hl 1 rfl) ?_
      refine pz_ifeq (tgt := 56) hx hb dX0_crosses_45 (by decide) (⟨by omega, by omega⟩) (fun hz => ?_) (fun hz => ?_)
      · refine lv_iconst (v := zI (0)) hx hb dX0_crosses_56 rfl ?_
        have hcr : crs x y = false := by
          unfold crs
          simp only [bne_iff_ne, ne_eq, Bool.and_eq_true, Bool.and_eq_false_iff, bne_eq_false_iff_eq]
          omega
        exact fin (ad, N, c) c _ _ _ _ _ _ _ rfl (Or.inl rfl) ⟨by rw [hcr]; rfl, rfl⟩ w dX0_crosses_57 (Nat.le_refl _) (Nat.le_refl _)
      · omega
  · have n1 : ¬ (hbit x &&& (hbit y ^^^ 255)) = 0 := fun q => ha (e1.mpr q)
    refine lv_iconst (v := zI (1)) hx hb dX0_crosses_16 rfl ?_
    refine lv_goto (tgt := 21) hx hb dX0_crosses_17 (by decide) ?_
    refine lv_istore_n (lv' := [(2, .int (zI 1)), (0, .int (zI (x : Int))), (1, .int (zI (y : Int)))]) hx hb dX0_crosses_21 rfl hl (by decide) rfl (fun ls hl => ?_)
    refine pw_closed hx hb w hown ⟨rfl, rfl⟩ dX0_crosses_22 (fun t2 ht2 => ?_)
    refine lv_iload_n hx hb dX0_crosses_25 rfl (lv_at hl 2 rfl) ?_
    refine ht2 _ _ _ _ y (by omega) (by omega) dX0_crosses_26 ?_
    refine pw_closed hx hb w hown ⟨rfl, rfl⟩ dX0_crosses_27 (fun u2 hu2 => ?_)
    refine lv_iload_n hx hb dX0_crosses_30 rfl (lv_at hl 1 rfl) ?_
    refine hu2 _ _ _ _ x (by omega) (by omega) dX0_crosses_31 ?_
    refine lv_iconst (v := zI (-1)) hx hb dX0_crosses_32 rfl ?_
    refine lv_ixor hx hb dX0_crosses_33 ?_
    refine lv_iand hx hb dX0_crosses_34 ?_
    refine lv_if_eq (tgt := 42) hx hb dX0_crosses_35 (by decide) (fun hb2 => ?_) (fun hb2 => ?_)
    · have n2 := e2.mp hb2
      refine lv_iconst (v := zI (0)) hx hb dX0_crosses_42 rfl ?_
      refine lv_istore_n (lv' := [(3, .int (zI 0)), (2, .int (zI 1)), (0, .int (zI (x : Int))), (1, .int (zI (y : Int)))]) hx hb dX0_crosses_43 rfl hl (by decide) rfl (fun ls hl => ?_)
      refine lv_iload_n hx hb dX0_crosses_44 rfl (lv_at hl 1 rfl) ?_
      refine pz_ifeq (tgt := 56) hx hb dX0_crosses_45 (by decide) (⟨by omega, by omega⟩) (fun hz => ?_) (fun hz => ?_)
      · omega
      · refine lv_iload_n hx hb dX0_crosses_48 rfl (lv_at hl 0 rfl) ?_
        refine pz_ifeq (tgt := 56) hx hb dX0_crosses_49 (by decide) (⟨by omega, by omega⟩) (fun hz => ?_) (fun hz => ?_)
        · refine lv_iconst (v := zI (0)) hx hb dX0_crosses_56 rfl ?_
          have hcr : crs x y = false := by
            unfold crs
            simp only [bne_iff_ne, ne_eq, Bool.and_eq_true, Bool.and_eq_false_iff, bne_eq_false_iff_eq]
            omega
          exact fin (ad, N, c) c _ _ _ _ _ _ _ rfl (Or.inl rfl) ⟨by rw [hcr]; rfl, rfl⟩ w dX0_crosses_57 (Nat.le_refl _) (Nat.le_refl _)
        · omega
    · have n2 : ¬ (hbit y &&& (hbit x ^^^ 255)) = 0 := fun q => hb2 (e2.mpr q)
      refine lv_iconst (v := zI (1)) hx hb dX0_crosses_38 rfl ?_
      refine lv_goto (tgt := 43) hx hb dX0_crosses_39 (by decide) ?_
      refine lv_istore_n (lv' := [(3, .int (zI 1)), (2, .int (zI 1)), (0, .int (zI (x : Int))), (1, .int (zI (y : Int)))]) hx hb dX0_crosses_43 rfl hl (by decide) rfl (fun ls hl => ?_)
      refine lv_iload_n hx hb dX0_crosses_44 rfl (lv_at hl 1 rfl) ?_
      refine pz_ifeq (tgt := 56) hx hb dX0_crosses_45 (by decide) (⟨by omega, by omega⟩) (fun hz => ?_) (fun hz => ?_)
      · omega
      · refine lv_iload_n hx hb dX0_crosses_48 rfl (lv_at hl 0 rfl) ?_
        refine pz_ifeq (tgt := 56) hx hb dX0_crosses_49 (by decide) (⟨by omega, by omega⟩) (fun hz => ?_) (fun hz => ?_)
        · omega
        · refine lv_iconst (v := zI (1)) hx hb dX0_crosses_52 rfl ?_
          refine lv_goto (tgt := 57) hx hb dX0_crosses_53 (by decide) ?_
          have hcr : crs x y = true := by
            unfold crs
            simp only [bne_iff_ne, ne_eq, Bool.and_eq_true, Bool.and_eq_false_iff, bne_eq_false_iff_eq]
            omega
          exact fin (ad, N, c) c _ _ _ _ _ _ _ rfl (Or.inr rfl) ⟨by rw [hcr]; rfl, rfl⟩ w dX0_crosses_57 (Nat.le_refl _) (Nat.le_refl _)

/-- the Fingers object's rows, with a limit -/
def Fing (G : Nat → ClassId) (ad : Nat → Nat) (c : Nat → va_E) (lim : Int) : Prop := c 1 = .inr (0, [.ref (ad 2)]) ∧ (∃ f : Nat → Option Nat, c 2 = rfs 2 G 9 f ∧ ∀ i, i < 9 → f i = some (ad (3 + i))) ∧ ∀ i, i < 9 → isA 0 G (c (3 + i)) 9 (stp lim i)
theorem Fing.fr {G : Nat → ClassId} {ad : Nat → Nat} {c c1 : Nat → va_E} {lim : Int} (h : Fing G ad c lim) (hf : ∀ q, 1 ≤ q → q < 12 → c1 q = c q) : Fing G ad c1 lim := by
  obtain ⟨h1, ⟨f, h2, h3⟩, h4⟩ := h
  exact ⟨(hf 1 (by omega) (by omega)).trans h1, ⟨f, (hf 2 (by omega) (by omega)).trans h2, h3⟩, fun i hi => isA.fr (hf (3 + i) (by omega) (by omega)) (h4 i hi)⟩

theorem hin_X0_limitTo_0 : ∀ w ∈ u_ws RX0 TX0 1, w ∈ wsX0_limitTo := by decide +kernel
theorem fl_X0_limitTo_11 : Cond.fieldLink RX0 11 "PipersDesk$Fingers" "stepCosts" "[[I" ∈ wsX0_limitTo := by decide +kernel
theorem wd_X0_limitTo_k37 : Cond.constant RX0 37 (1000000) ∈ wsX0_limitTo := by decide +kernel
abbrev rm_X0_limitTo : Room := { frames := 2, cells := 0, slots := 0, locals := 60 }
set_option maxHeartbeats 4000000 in
set_option maxRecDepth 100000 in
/-- Fingers.limitTo -/
theorem c_X0_limitTo (l : Launch) (D : va_G) (G : Nat → ClassId) (ad : Nat → Nat) (N : Nat) (c : Nat → va_E) {lim : Int} {fo : Nat → Option Nat} (hN : 12 ≤ N) (hlim : 0 ≤ lim ∧ lim ≤ 8) (h1 : c 1 = .inr (0, [.ref (ad 2)])) (h2 : c 2 = rfs 2 G 9 fo) (hfo : ∀ i, i < 9 → fo i = some (ad (3 + i))) (h3 : ∀ i, i < 9 → ∃ g, isA 0 G (c (3 + i)) 9 g) : MC l yX0_limitTo wsX0_limitTo rm_X0_limitTo [.ref (ad 1), .int (zI lim)] D G ad N c (qI D G (fx ad N) (fun v c1 => v = zI (brdAll lim 9) ∧ (∀ i, i < 9 → isA 0 G (c1 (3 + i)) 9 (stp lim i)) ∧ ∀ q, (q < 3 ∨ 12 ≤ q) → c1 q = c q)) 0 0 := by
  refine MCi.of (cc := cX0_limitTo) (maxL := 7) (by decide) rfl (Nat.le_of_ble_eq_true rfl) ?_
  intro p e s m args below meth kc A Q hx hb hts hown hml fin H locs w ls hl
  have hown : s.vm.findClass RX0 = some m.cls := hown
  have hl : lv_has ls 7 [(0, .ref (ad 1)), (1, .int (zI lim))] := hl
  refine lv_iconst (v := zI (0)) hx hb dX0_limitTo_0 rfl ?_
  refine lv_istore_n (lv' := [(2, .int (zI 0)), (0, .ref (ad 1)), (1, .int (zI lim))]) hx hb dX0_limitTo_1 rfl hl (by decide) rfl (fun ls hl => ?_)
  refine lv_iconst (v := zI (0)) hx hb dX0_limitTo_2 rfl ?_
  refine lv_istore_n (lv' := [(3, .int (zI 0)), (2, .int (zI 0)), (0, .ref (ad 1)), (1, .int (zI lim))]) hx hb dX0_limitTo_3 rfl hl (by decide) rfl (fun ls hl => ?_)
  have lp : ∀ (f : Nat) (i : Nat) (c1 : Nat → va_E) (H : Heap) (locs : List Loc) (ls : Array Slot), i ≤ 9 → (∀ i', i' < i → isA 0 G (c1 (3 + i')) 9 (stp lim i')) → (∀ i', i' < 9 → ∃ g, isA 0 G (c1 (3 + i')) 9 g) → (∀ q, (q < 3 ∨ 12 ≤ q) → c1 q = c q) → 9 < i + f → PW D G A s ad N c1 H locs → lv_has ls 7 [(0, .ref (ad 1)), (1, .int (zI lim)), (2, .int (zI (brdAll lim i))), (3, .int (zI (i : Int)))] → W p l e rm_X0_limitTo s m args below meth kc H locs 0 0 Q (F0 m 4 ls []) := by
    intro f
    induction f with
    | zero => intro i c1 H locs ls h9 H1 H2 HF hfu w hl; omega
    | succ f ih =>
      intro i c1 H locs ls h9 H1 H2 HF hfu w hl
      refine lv_iload_n hx hb dX0_limitTo_4 rfl (lv_at hl 3 rfl) ?_
      refine lv_bipush (v := zI (9)) hx hb dX0_limitTo_5 (by decide +kernel) ?_
      refine pz_icmpge (tgt := 97) hx hb dX0_limitTo_7 (by decide) (⟨by omega, by omega⟩) (⟨by omega, by omega⟩) (fun hi => ?_) (fun hi => ?_)
      · have i9 : i = 9 := by omega
        subst i9
        refine lv_iload_n hx hb dX0_limitTo_97 rfl (lv_at hl 2 rfl) ?_
        exact fin (ad, N, c1) c1 _ _ _ _ _ _ _ rfl ⟨rfl, H1, HF⟩ w dX0_limitTo_98 (Nat.le_refl _) (Nat.le_refl _)
      · refine lv_iconst (v := zI (0)) hx hb dX0_limitTo_10 rfl ?_
        refine lv_istore (lv' := [(4, .int (zI 0)), (0, .ref (ad 1)), (1, .int (zI lim)), (2, .int (zI (brdAll lim i))), (3, .int (zI (i : Int)))]) hx hb dX0_limitTo_11 hl (by decide) rfl (fun ls hl => ?_)
        obtain ⟨g0, hg0⟩ := H2 i (by omega)
        have lq : ∀ (f2 : Nat) (j : Nat) (gi : Nat → Int) (c2 : Nat → va_E) (H : Heap) (locs : List Loc) (ls : Array Slot), j ≤ 9 → isA 0 G (c2 (3 + i)) 9 gi → (∀ j', j' < j → gi j' = stp lim i j') → (∀ q, q ≠ 3 + i → c2 q = c1 q) → 9 < j + f2 → PW D G A s ad N c2 H locs → lv_has ls 7 [(0, .ref (ad 1)), (1, .int (zI lim)), (2, .int (zI (brdAll lim i + brdRow lim i j))), (3, .int (zI (i : Int))), (4, .int (zI (j : Int)))] → W p l e rm_X0_limitTo s m args below meth kc H locs 0 0 Q (F0 m 13 ls []) := by
          intro f2
          induction f2 with
          | zero => intro j gi c2 H locs ls h9j hA hG hF hfu w hl; omega
          | succ f2 ih2 =>
            intro j gi c2 H locs ls h9j hA hG hF hfu w hl
            refine lv_iload hx hb dX0_limitTo_13 (lv_at hl 4 rfl) ?_
            refine lv_bipush (v := zI (9)) hx hb dX0_limitTo_15 (by decide +kernel) ?_
            refine pz_icmpge (tgt := 91) hx hb dX0_limitTo_17 (by decide) (⟨by omega, by omega⟩) (⟨by omega, by omega⟩) (fun hj => ?_) (fun hj => ?_)
            · have j9 : j = 9 := by omega
              subst j9
              have hl : lv_has ls 7 [(0, .ref (ad 1)), (1, .int (zI lim)), (2, .int (zI (brdAll lim (i + 1)))), (3, .int (zI (i : Int))), (4, .int (zI ((9 : Nat) : Int)))] := hl
              refine pz_iinc (lv' := [(3, .int (zI ((i + 1 : Nat) : Int))), (0, .ref (ad 1)), (1, .int (zI lim)), (2, .int (zI (brdAll lim (i + 1)))), (4, .int (zI ((9 : Nat) : Int)))]) hx hb dX0_limitTo_91 hl (j := 3) rfl ((i + 1 : Nat) : Int) (by omega) (by decide) rfl (fun ls hl => ?_)
              refine lv_goto (tgt := 4) hx hb dX0_limitTo_94 (by decide) ?_
              exact ih (i + 1) c2 H locs ls (by omega) (fun i' hi' => by
                rcases Nat.lt_or_ge i' i with h | h
                · exact isA.fr (hF _ (by omega)) (H1 i' h)
                · have e : i' = i := by omega
                  subst e
                  exact hA.to (fun j' hj' => hG j' (by omega))) (fun i' hi' => by
                by_cases h : i' = i
                · subst h
                  exact ⟨gi, hA⟩
                · obtain ⟨g, hg⟩ := H2 i' hi'
                  exact ⟨g, isA.fr (hF _ (by omega)) hg⟩) (fun q hq => (hF q (by omega)).trans (HF q hq)) (by omega) w (lv_sub hl [1, 2, 3, 0] rfl)
            · have hmv := mv_bd (a := i) (b := j) (by omega) (by omega)
              have hb1 := brdAll_bd lim i
              have hb2 := brdRow_bd lim i j
              refine lv_iload_n hx hb dX0_limitTo_20 rfl (lv_at hl 3 rfl) ?_
              refine lv_iload hx hb dX0_limitTo_21 (lv_at hl 4 rfl) ?_
              refine pw_ci w (pw_runS (As := [.int (zI (i : Int)), .int (zI (j : Int))]) (rest := []) w ⟨hx, hb, hml, hown, hts⟩ (c_X0_holesMoved l D G ad N c2 (x := i) (y := j) (by omega) (by omega)) (va_cwS 2 hts gX0_limitTo_X0_holesMoved rfl rfl rfl (by decide +kernel) ⟨Nat.le_of_ble_eq_true rfl, Nat.le_of_ble_eq_true rfl⟩) rfl hl.1 rfl (lv_room (Nat.le_of_ble_eq_true rfl)) dX0_limitTo_23 ⟨Nat.le_of_ble_eq_true rfl, Nat.le_of_ble_eq_true rfl⟩) (fun r_ u H locs hp w => ?_)
              obtain ⟨hv, hu⟩ := hp
              subst hv
              have w : PW D G A s ad N c2 H locs := by rw [hu] at w; exact w
              clear hu
              refine lv_istore (lv' := [(5, .int (zI (mv i j))), (0, .ref (ad 1)), (1, .int (zI lim)), (2, .int (zI (brdAll lim i + brdRow lim i j))), (3, .int (zI (i : Int))), (4, .int (zI (j : Int)))]) hx hb dX0_limitTo_26 hl (by decide) rfl (fun ls hl => ?_)
              refine lv_iload_n hx hb dX0_limitTo_28 rfl (lv_at hl 4 rfl) ?_
              refine lv_iload hx hb dX0_limitTo_29 (lv_at hl 5 rfl) ?_
              refine pw_ci w (pw_runS (As := [.int (zI (i : Int)), .int (zI (j : Int))]) (rest := []) w ⟨hx, hb, hml, hown, hts⟩ (c_X0_crosses l D G ad N c2 (x := i) (y := j) (by omega) (by omega)) (va_cwS 2 hts gX0_limitTo_X0_crosses rfl rfl rfl (by decide +kernel) ⟨Nat.le_of_ble_eq_true rfl, Nat.le_of_ble_eq_true rfl⟩) rfl hl.1 rfl (lv_room (Nat.le_of_ble_eq_true rfl)) dX0_limitTo_31 ⟨Nat.le_of_ble_eq_true rfl, Nat.le_of_ble_eq_true rfl⟩) (fun r_ u H locs hp w => ?_)
              obtain ⟨hv, hu⟩ := hp
              subst hv
              have w : PW D G A s ad N c2 H locs := by rw [hu] at w; exact w
              clear hu
              have tl : ∀ (sp : Int) (ls : Array Slot), sp = (if brd lim i j = true then 1 else 0) → lv_has ls 7 [(0, .ref (ad 1)), (1, .int (zI lim)), (2, .int (zI (brdAll lim i + brdRow lim i j))), (3, .int (zI (i : Int))), (4, .int (zI (j : Int))), (5, .int (zI (mv i j))), (6, .int (zI sp))] → W p l e rm_X0_limitTo s m args below meth kc H locs 0 0 Q (F0 m 76 ls [.int (zI (stp lim i j)), .int (zI (j : Int)), .ref (ad (3 + i))]) := by
                intro sp ls hsp hl
                refine pw_iast' (r := (3 + i)) (j := j) hx hb w (by omega) hA (by omega) (by omega) (by decide) dX0_limitTo_76 (fun H locs c1 hc1 fr1 w => ?_)
                refine lv_iload hx hb dX0_limitTo_77 (lv_at hl 6 rfl) ?_
                refine pz_ifeq (tgt := 85) hx hb dX0_limitTo_79 (by decide) ((by subst hsp; split <;> exact ⟨by decide, by decide⟩)) (fun hz => ?_) (fun hz => ?_)
                · have hbr : ¬ brd lim i j = true := by
                    intro h
                    rw [if_pos h] at hsp
                    omega
                  refine pz_iinc (lv' := [(4, .int (zI ((j + 1 : Nat) : Int))), (0, .ref (ad 1)), (1, .int (zI lim)), (2, .int (zI (brdAll lim i + brdRow lim i j))), (3, .int (zI (i : Int))), (5, .int (zI (mv i j))), (6, .int (zI sp))]) hx hb dX0_limitTo_85 hl (j := 4) rfl ((j + 1 : Nat) : Int) (by omega) (by decide) rfl (fun ls hl => ?_)
                  refine lv_goto (tgt := 13) hx hb dX0_limitTo_88 (by decide) ?_
                  rw [show (brdAll lim i + brdRow lim i j) = (brdAll lim i + brdRow lim i (j + 1)) from by rw [brdRow, if_neg hbr]; omega] at hl
                  exact ih2 (j + 1) (upI gi j (stp lim i j)) c1 H locs ls (by omega) hc1 (fun j' hj' => by unfold upI; split <;> first | (rename_i e9; rw [e9]; done) | exact hG j' (by omega)) (fun q hq => (fr1 q hq).trans (hF q hq)) (by omega) w (lv_sub hl [1, 2, 3, 4, 0] rfl)
                · have hbr : brd lim i j = true := by
                    by_cases h : brd lim i j = true
                    · exact h
                    · rw [if_neg h] at hsp; omega
                  refine pz_iinc (lv' := [(2, .int (zI (brdAll lim i + brdRow lim i (j + 1)))), (0, .ref (ad 1)), (1, .int (zI lim)), (3, .int (zI (i : Int))), (4, .int (zI (j : Int))), (5, .int (zI (mv i j))), (6, .int (zI sp))]) hx hb dX0_limitTo_82 hl (j := 2) rfl (brdAll lim i + brdRow lim i (j + 1)) (by rw [brdRow, if_pos hbr]; omega) (by decide) rfl (fun ls hl => ?_)
                  refine pz_iinc (lv' := [(4, .int (zI ((j + 1 : Nat) : Int))), (2, .int (zI (brdAll lim i + brdRow lim i (j + 1)))), (0, .ref (ad 1)), (1, .int (zI lim)), (3, .int (zI (i : Int))), (5, .int (zI (mv i j))), (6, .int (zI sp))]) hx hb dX0_limitTo_85 hl (j := 4) rfl ((j + 1 : Nat) : Int) (by omega) (by decide) rfl (fun ls hl => ?_)
                  refine lv_goto (tgt := 13) hx hb dX0_limitTo_88 (by decide) ?_
                  exact ih2 (j + 1) (upI gi j (stp lim i j)) c1 H locs ls (by omega) hc1 (fun j' hj' => by unfold upI; split <;> first | (rename_i e9; rw [e9]; done) | exact hG j' (by omega)) (fun q hq => (fr1 q hq).trans (hF q hq)) (by omega) w (lv_sub hl [2, 3, 1, 4, 0] rfl)
              have jn : ∀ (sp : Int) (ls : Array Slot), sp = (if brd lim i j = true then 1 else 0) → lv_has ls 7 [(0, .ref (ad 1)), (1, .int (zI lim)), (2, .int (zI (brdAll lim i + brdRow lim i j))), (3, .int (zI (i : Int))), (4, .int (zI (j : Int))), (5, .int (zI (mv i j))), (6, .int (zI sp))] → W p l e rm_X0_limitTo s m args below meth kc H locs 0 0 Q (F0 m 50 ls []) := by
                intro sp ls hsp hl
                refine lv_aload_n hx hb dX0_limitTo_50 rfl (lv_at hl 0 rfl) ?_
                refine pw_get (r := 1) (ci := 0) (C := RX0) (T := TX0) (Nf := 1) hx hb w hts hin_X0_limitTo_0 hown (by omega) ((hF 1 (by omega)).trans ((HF 1 (by omega)).trans h1)) rfl 0 (by decide) (hts _ fl_X0_limitTo_11) (fun _ h9 => h9) rfl dX0_limitTo_51 ?_
                refine lv_iload_n hx hb dX0_limitTo_54 rfl (lv_at hl 3 rfl) ?_
                refine pw_aaldR (r := 2) (j := i) hx hb w (by omega) ((hF 2 (by omega)).trans ((HF 2 (by omega)).trans h2)) rfl rfl (by omega) (by omega) (by decide) (3 + i) (hfo i (by omega)) dX0_limitTo_55 ?_
                refine lv_iload hx hb dX0_limitTo_56 (lv_at hl 4 rfl) ?_
                refine lv_iload hx hb dX0_limitTo_58 (lv_at hl 6 rfl) ?_
                refine pz_ifne (tgt := 69) hx hb dX0_limitTo_60 (by decide) ((by subst hsp; split <;> exact ⟨by decide, by decide⟩)) (fun hz => ?_) (fun hz => ?_)
                · have hbr : brd lim i j = true := by
                    by_cases h : brd lim i j = true
                    · exact h
                    · rw [if_neg h] at hsp; omega
                  refine lv_ldc hx hb hown (hts _ wd_X0_limitTo_k37) dX0_limitTo_69 (pz_topI (y := zI (1000000)) (by decide +kernel) ?_)
                  refine lv_goto (tgt := 76) hx hb dX0_limitTo_71 (by decide) ?_
                  rw [show (1000000 : Int) = stp lim i j from by unfold stp; rw [if_pos (by first | exact Or.inl (by omega) | exact Or.inr hbr)]]
                  exact tl sp ls hsp (lv_sub hl [0, 1, 2, 3, 4, 5, 6] rfl)
                · have hbr : ¬ brd lim i j = true := by
                    intro h
                    rw [if_pos h] at hsp
                    omega
                  refine lv_iload_n hx hb dX0_limitTo_63 rfl (lv_at hl 3 rfl) ?_
                  refine lv_iload hx hb dX0_limitTo_64 (lv_at hl 4 rfl) ?_
                  refine pz_icmpne (tgt := 74) hx hb dX0_limitTo_66 (by decide) (⟨by omega, by omega⟩) (⟨by omega, by omega⟩) (fun hij => ?_) (fun hij => ?_)
                  · refine lv_iload hx hb dX0_limitTo_74 (lv_at hl 5 rfl) ?_
                    rw [show mv i j = stp lim i j from by unfold stp; rw [if_neg (fun h => h.elim (fun h => by omega) (fun h => hbr h))]]
                    exact tl sp ls hsp (lv_sub hl [0, 1, 2, 3, 4, 5, 6] rfl)
                  · refine lv_ldc hx hb hown (hts _ wd_X0_limitTo_k37) dX0_limitTo_69 (pz_topI (y := zI (1000000)) (by decide +kernel) ?_)
                    refine lv_goto (tgt := 76) hx hb dX0_limitTo_71 (by decide) ?_
                    rw [show (1000000 : Int) = stp lim i j from by unfold stp; rw [if_pos (by first | exact Or.inl (by omega) | exact Or.inr hbr)]]
                    exact tl sp ls hsp (lv_sub hl [0, 1, 2, 3, 4, 5, 6] rfl)
              refine pz_ifeq (tgt := 47) hx hb dX0_limitTo_34 (by decide) ((by split <;> exact ⟨by decide, by decide⟩)) (fun hc => ?_) (fun hc => ?_)
              · have hcr : ¬ crs i j = true := by
                  intro h
                  rw [if_pos h] at hc
                  omega
                refine lv_iconst (v := zI (0)) hx hb dX0_limitTo_47 rfl ?_
                refine lv_istore (lv' := [(6, .int (zI 0)), (5, .int (zI (mv i j))), (0, .ref (ad 1)), (1, .int (zI lim)), (2, .int (zI (brdAll lim i + brdRow lim i j))), (3, .int (zI (i : Int))), (4, .int (zI (j : Int)))]) hx hb dX0_limitTo_48 hl (by decide) rfl (fun ls hl => ?_)
                exact jn 0 ls (by rw [if_neg (by unfold brd; rw [Bool.and_eq_true]; exact fun h => hcr h.1)]) (lv_sub hl [2, 3, 4, 5, 6, 1, 0] rfl)
              · have hcr : crs i j = true := by
                  by_cases h : crs i j = true
                  · exact h
                  · rw [if_neg h] at hc; omega
                refine lv_iload hx hb dX0_limitTo_37 (lv_at hl 0 rfl) ?_
                refine lv_iload_n hx hb dX0_limitTo_39 rfl (lv_at hl 2 rfl) ?_
                refine pz_icmple (tgt := 47) hx hb dX0_limitTo_40 (by decide) (⟨by omega, by omega⟩) (⟨by omega, by omega⟩) (fun hle => ?_) (fun hle => ?_)
                · refine lv_iconst (v := zI (0)) hx hb dX0_limitTo_47 rfl ?_
                  refine lv_istore (lv' := [(6, .int (zI 0)), (5, .int (zI (mv i j))), (0, .ref (ad 1)), (1, .int (zI lim)), (2, .int (zI (brdAll lim i + brdRow lim i j))), (3, .int (zI (i : Int))), (4, .int (zI (j : Int)))]) hx hb dX0_limitTo_48 hl (by decide) rfl (fun ls hl => ?_)
                  exact jn 0 ls (by rw [if_neg (by unfold brd; rw [Bool.and_eq_true, decide_eq_true_eq]; exact fun h => by omega)]) (lv_sub hl [2, 3, 4, 5, 6, 1, 0] rfl)
                · refine lv_iconst (v := zI (1)) hx hb dX0_limitTo_43 rfl ?_
                  refine lv_goto (tgt := 48) hx hb dX0_limitTo_44 (by decide) ?_
                  refine lv_istore (lv' := [(6, .int (zI 1)), (5, .int (zI (mv i j))), (0, .ref (ad 1)), (1, .int (zI lim)), (2, .int (zI (brdAll lim i + brdRow lim i j))), (3, .int (zI (i : Int))), (4, .int (zI (j : Int)))]) hx hb dX0_limitTo_48 hl (by decide) rfl (fun ls hl => ?_)
                  exact jn 1 ls (by rw [if_pos (by unfold brd; rw [Bool.and_eq_true, decide_eq_true_eq]; exact ⟨hcr, by omega⟩)]) (lv_sub hl [2, 3, 4, 5, 6, 1, 0] rfl)
        exact lq 10 0 g0 c1 H locs ls (by omega) hg0 (fun j' hj' => by omega) (fun _ _ => rfl) (by omega) w (by rw [show (brdAll lim i + brdRow lim i 0) = brdAll lim i from by simp [brdRow]]; exact (lv_sub hl [1, 2, 3, 4, 0] rfl))
  exact lp 10 0 c H locs ls (by omega) (fun i' hi' => by omega) h3 (fun _ _ => rfl) (by omega) w (by rw [show brdAll lim 0 = 0 from rfl]; exact (lv_sub hl [2, 3, 1, 0] rfl))

theorem hin_X0_stepCost_0 : ∀ w ∈ u_ws RX0 TX0 1, w ∈ wsX0_stepCost := by decide +kernel
theorem fl_X0_stepCost_11 : Cond.fieldLink RX0 11 "PipersDesk$Fingers" "stepCosts" "[[I" ∈ wsX0_stepCost := by decide +kernel
abbrev rm_X0_stepCost : Room := { frames := 0, cells := 0, slots := 0, locals := 0 }
set_option maxHeartbeats 4000000 in
set_option maxRecDepth 100000 in
/-- Fingers.stepCost -/
theorem c_X0_stepCost (l : Launch) (D : va_G) (G : Nat → ClassId) (ad : Nat → Nat) (N : Nat) (c : Nat → va_E) {lim : Int} (hN : 12 ≤ N) (hF : Fing G ad c lim) {x y : Nat} (hx9 : x < 9) (hy9 : y < 9) : MC l yX0_stepCost wsX0_stepCost rm_X0_stepCost [.ref (ad 1), .int (zI (x : Int)), .int (zI (y : Int))] D G ad N c (qI D G (fx ad N) (fun v c1 => v = zI (stp lim x y) ∧ c1 = c)) 0 0 := by
  refine MCi.of (cc := cX0_stepCost) (maxL := 3) (by decide) rfl (Nat.le_of_ble_eq_true rfl) ?_
  intro p e s m args below meth kc A Q hx hb hts hown hml fin H locs w ls hl
  have hown : s.vm.findClass RX0 = some m.cls := hown
  have hl : lv_has ls 3 [(0, .ref (ad 1)), (1, .int (zI (x : Int))), (2, .int (zI (y : Int)))] := hl
  obtain ⟨h1, ⟨fo, h2, hfo⟩, h3⟩ := hF
  refine lv_aload_n hx hb dX0_stepCost_0 rfl (lv_at hl 0 rfl) ?_
  refine pw_get (r := 1) (ci := 0) (C := RX0) (T := TX0) (Nf := 1) hx hb w hts hin_X0_stepCost_0 hown (by omega) h1 rfl 0 (by decide) (hts _ fl_X0_stepCost_11) (fun _ h9 => h9) rfl dX0_stepCost_1 ?_
  refine lv_iload_n hx hb dX0_stepCost_4 rfl (lv_at hl 1 rfl) ?_
  refine pw_aaldR (r := 2) (j := x) hx hb w (by omega) h2 rfl rfl (by omega) (by omega) (by decide) (3 + x) (hfo x (by omega)) dX0_stepCost_5 ?_
  refine lv_iload_n hx hb dX0_stepCost_6 rfl (lv_at hl 2 rfl) ?_
  refine pw_iald (r := (3 + x)) (j := y) hx hb w (by omega) (h3 x hx9) (by omega) (by omega) (by decide) dX0_stepCost_7 ?_
  exact fin (ad, N, c) c _ _ _ _ _ _ _ rfl ⟨rfl, rfl⟩ w dX0_stepCost_8 (Nat.le_refl _) (Nat.le_refl _)

theorem hin_X0_bars_0 : ∀ w ∈ u_ws RX0 TX0 1, w ∈ wsX0_bars := by decide +kernel
theorem fl_X0_bars_11 : Cond.fieldLink RX0 11 "PipersDesk$Fingers" "stepCosts" "[[I" ∈ wsX0_bars := by decide +kernel
theorem wd_X0_bars_k37 : Cond.constant RX0 37 (1000000) ∈ wsX0_bars := by decide +kernel
abbrev rm_X0_bars : Room := { frames := 0, cells := 0, slots := 0, locals := 0 }
set_option maxHeartbeats 4000000 in
set_option maxRecDepth 100000 in
/-- Fingers.bars -/
theorem c_X0_bars (l : Launch) (D : va_G) (G : Nat → ClassId) (ad : Nat → Nat) (N : Nat) (c : Nat → va_E) {lim : Int} (hN : 12 ≤ N) (hF : Fing G ad c lim) {x y : Nat} (hx9 : x < 9) (hy9 : y < 9) : MC l yX0_bars wsX0_bars rm_X0_bars [.ref (ad 1), .int (zI (x : Int)), .int (zI (y : Int))] D G ad N c (qI D G (fx ad N) (fun v c1 => v = zI (if brd lim x y = true then 1 else 0) ∧ c1 = c)) 0 0 := by
  refine MCz.of (cc := cX0_bars) (maxL := 3) (by decide) rfl (Nat.le_of_ble_eq_true rfl) ?_
  intro p e s m args below meth kc A Q hx hb hts hown hml fin H locs w ls hl
  have hown : s.vm.findClass RX0 = some m.cls := hown
  have hl : lv_has ls 3 [(0, .ref (ad 1)), (1, .int (zI (x : Int))), (2, .int (zI (y : Int)))] := hl
  obtain ⟨h1, ⟨fo, h2, hfo⟩, h3⟩ := hF
  have hs := stp_bd (lim := lim) hx9 hy9
  have hm := mv_bd hx9 hy9
  refine lv_iload_n hx hb dX0_bars_0 rfl (lv_at hl 1 rfl) ?_
  refine lv_iload_n hx hb dX0_bars_1 rfl (lv_at hl 2 rfl) ?_
  refine pz_icmpeq (tgt := 22) hx hb dX0_bars_2 (by decide) (⟨by omega, by omega⟩) (⟨by omega, by omega⟩) (fun hxy => ?_) (fun hxy => ?_)
  · refine lv_iconst (v := zI (0)) hx hb dX0_bars_22 rfl ?_
    have hbr : ¬ brd lim x y = true := by
      intro h
      have e : x = y := by omega
      subst e
      unfold brd at h
      rw [crs_same x hx9] at h
      cases h
    exact fin (ad, N, c) c _ _ _ _ _ _ _ rfl (Or.inl rfl) ⟨by rw [if_neg hbr], rfl⟩ w dX0_bars_23 (Nat.le_refl _) (Nat.le_refl _)
  · refine lv_aload_n hx hb dX0_bars_5 rfl (lv_at hl 0 rfl) ?_
    refine pw_get (r := 1) (ci := 0) (C := RX0) (T := TX0) (Nf := 1) hx hb w hts hin_X0_bars_0 hown (by omega) h1 rfl 0 (by decide) (hts _ fl_X0_bars_11) (fun _ h9 => h9) rfl dX0_bars_6 ?_
    refine lv_iload_n hx hb dX0_bars_9 rfl (lv_at hl 1 rfl) ?_
    refine pw_aaldR (r := 2) (j := x) hx hb w (by omega) h2 rfl rfl (by omega) (by omega) (by decide) (3 + x) (hfo x (by omega)) dX0_bars_10 ?_
    refine lv_iload_n hx hb dX0_bars_11 rfl (lv_at hl 2 rfl) ?_
    refine pw_iald (r := (3 + x)) (j := y) hx hb w (by omega) (h3 x hx9) (by omega) (by omega) (by decide) dX0_bars_12 ?_
    refine lv_ldc hx hb hown (hts _ wd_X0_bars_k37) dX0_bars_13 (pz_topI (y := zI (1000000)) (by decide +kernel) ?_)
    refine pz_icmpne (tgt := 22) hx hb dX0_bars_15 (by decide) (⟨by omega, by omega⟩) (⟨by omega, by omega⟩) (fun hst => ?_) (fun hst => ?_)
    · refine lv_iconst (v := zI (0)) hx hb dX0_bars_22 rfl ?_
      have hbr : ¬ brd lim x y = true := by
        intro h
        exact hst (by unfold stp; rw [if_pos (Or.inr h)])
      exact fin (ad, N, c) c _ _ _ _ _ _ _ rfl (Or.inl rfl) ⟨by rw [if_neg hbr], rfl⟩ w dX0_bars_23 (Nat.le_refl _) (Nat.le_refl _)
    · refine lv_iconst (v := zI (1)) hx hb dX0_bars_18 rfl ?_
      refine lv_goto (tgt := 23) hx hb dX0_bars_19 (by decide) ?_
      have hbr : brd lim x y = true := by
        by_cases h : brd lim x y = true
        · exact h
        · have e9 : stp lim x y = mv x y := by unfold stp; rw [if_neg (fun q => q.elim (fun q => by omega) h)]
          omega
      exact fin (ad, N, c) c _ _ _ _ _ _ _ rfl (Or.inr rfl) ⟨by rw [if_pos hbr], rfl⟩ w dX0_bars_23 (Nat.le_refl _) (Nat.le_refl _)
