/-! OURS: one action: what is told and what is left depend on the numbers alone -/
theorem act_ok (l : Launch) (hsT : l.stackTraces = false) {P : PT} (hV : SVt P) (v : Int32) : ∃ (told : Int) (P1 : PT), ActR P told P1 ∧ ∀ (D : va_G) (G : Nat → ClassId) (ad : Nat → Nat) (N : Nat) (c : Nat → va_E), N = 120 + 2 * P.2.1 → DKt G ad c P → MC l yL_act wsL_act rm_L_act [.ref (ad 0), .int v] D G ad N c (qI D G wI (hP G ad told P1)) 2 6 := by
  have b24_9 := lwF_bd (v >>> (zI 24 &&& 31)) (n := 9) (by decide) (by decide)
  have b5_3 := lwF_bd (v >>> (zI 5 &&& 31)) (n := 3) (by decide) (by decide)
  have b4_6 := lwF_bd (v >>> (zI 4 &&& 31)) (n := 6) (by decide) (by decide)
  have b4_3 := lwF_bd (v >>> (zI 4 &&& 31)) (n := 3) (by decide) (by decide)
  have b7_11 := lwF_bd (v >>> (zI 7 &&& 31)) (n := 11) (by decide) (by decide)
  have b7_9 := lwF_bd (v >>> (zI 7 &&& 31)) (n := 9) (by decide) (by decide)
  have b7_7 := lwF_bd (v >>> (zI 7 &&& 31)) (n := 7) (by decide) (by decide)
  have b7_13 := lwF_bd (v >>> (zI 7 &&& 31)) (n := 13) (by decide) (by decide)
  have b11_11 := lwF_bd (v >>> (zI 11 &&& 31)) (n := 11) (by decide) (by decide)
  have b11_5 := lwF_bd (v >>> (zI 11 &&& 31)) (n := 5) (by decide) (by decide)
  have b11_35 := lwF_bd (v >>> (zI 11 &&& 31)) (n := 35) (by decide) (by decide)
  have b11_7 := lwF_bd (v >>> (zI 11 &&& 31)) (n := 7) (by decide) (by decide)
  have b16 := lwF_bd v (n := 16) (by decide) (by decide)
  by_cases ho : lwF (v >>> (zI 24 &&& 31)) 9 = 0
  · by_cases hk : lwF v 16 = 0
    · by_cases h0 : lwF (v >>> (zI 5 &&& 31)) 3 = 0
      · obtain ⟨told, P1, hR, hM⟩ := h_setLimit l hsT hV (z := ((lwF (v >>> (zI 7 &&& 31)) 11) - 1)) ⟨by omega, by omega⟩
        exact ⟨told, P1, hR, fun D G ad N c hN hD => act_o_0a l D G ad N c ho hk h0 (hM D G ad N c hN hD)⟩
      · obtain ⟨told, P1, hR, hM⟩ := h_removeNote l hsT hV (zt := ((lwF (v >>> (zI 4 &&& 31)) 6) - 1)) ⟨by omega, by omega⟩
        exact ⟨told, P1, hR, fun D G ad N c hN hD => act_o_0b l D G ad N c ho hk h0 (hM D G ad N c hN hD)⟩
    · by_cases hk1 : lwF v 16 ≤ 4
      · obtain ⟨told, P1, hR, hM⟩ := h_grace l hsT hV (z := ((lwF (v >>> (zI 7 &&& 31)) 13) - 1)) ⟨by omega, by omega⟩
        exact ⟨told, P1, hR, fun D G ad N c hN hD => act_o_1 l D G ad N c ho (by omega) (hM D G ad N c hN hD)⟩
      · by_cases hk2 : lwF v 16 ≤ 6
        · obtain ⟨told, P1, hR, hM⟩ := h_enter l hsT hV
          exact ⟨told, P1, hR, fun D G ad N c hN hD => act_o_5 l D G ad N c ho (by omega) (hM D G ad N c hN hD)⟩
        · by_cases hk : lwF v 16 = 7
          · by_cases h7 : ((v >>> (zI 15 &&& 31)) &&& zI 1) = zI 1
            · obtain ⟨told, P1, hR, hM⟩ := h_setWish l hsT hV (zt := ((lwF (v >>> (zI 4 &&& 31)) 6) - 1)) (zi := ((lwF (v >>> (zI 11 &&& 31)) 11) - 1)) ⟨by omega, by omega⟩ ⟨by omega, by omega⟩ (xw := 1) (by decide)
              exact ⟨told, P1, hR, fun D G ad N c hN hD => act_o_7w l D G ad N c ho hk h7 (hM D G ad N c hN hD)⟩
            · obtain ⟨told, P1, hR, hM⟩ := h_setWish l hsT hV (zt := ((lwF (v >>> (zI 4 &&& 31)) 6) - 1)) (zi := ((lwF (v >>> (zI 11 &&& 31)) 11) - 1)) ⟨by omega, by omega⟩ ⟨by omega, by omega⟩ (xw := 0) (by decide)
              exact ⟨told, P1, hR, fun D G ad N c hN hD => act_o_7n l D G ad N c ho hk h7 (hM D G ad N c hN hD)⟩
          · obtain ⟨told, P1, hR, hM⟩ := h_addNote l hsT hV (zt := ((lwF (v >>> (zI 4 &&& 31)) 6) - 1)) (zx := ((lwF (v >>> (zI 7 &&& 31)) 11) - 1)) (zm := (lwF (v >>> (zI 11 &&& 31)) 35)) ⟨by omega, by omega⟩ ⟨by omega, by omega⟩ ⟨by omega, by omega⟩
            exact ⟨told, P1, hR, fun D G ad N c hN hD => act_o_8 l D G ad N c ho (by omega) (hM D G ad N c hN hD)⟩
  · by_cases hk : lwF v 16 = 0
    · by_cases h0 : lwF (v >>> (zI 5 &&& 31)) 3 = 0
      · obtain ⟨told, P1, hR, hM⟩ := h_setLimit l hsT hV (z := (2 + (lwF (v >>> (zI 7 &&& 31)) 7))) ⟨by omega, by omega⟩
        exact ⟨told, P1, hR, fun D G ad N c hN hD => act_e_0a l D G ad N c ho hk h0 (hM D G ad N c hN hD)⟩
      · obtain ⟨told, P1, hR, hM⟩ := h_removeNote l hsT hV (zt := (lwF (v >>> (zI 4 &&& 31)) 3)) ⟨by omega, by omega⟩
        exact ⟨told, P1, hR, fun D G ad N c hN hD => act_e_0b l D G ad N c ho hk h0 (hM D G ad N c hN hD)⟩
    · by_cases hk1 : lwF v 16 ≤ 4
      · obtain ⟨told, P1, hR, hM⟩ := h_grace l hsT hV (z := (lwF (v >>> (zI 7 &&& 31)) 11)) ⟨by omega, by omega⟩
        exact ⟨told, P1, hR, fun D G ad N c hN hD => act_e_1 l D G ad N c ho (by omega) (hM D G ad N c hN hD)⟩
      · by_cases hk2 : lwF v 16 ≤ 6
        · obtain ⟨told, P1, hR, hM⟩ := h_enter l hsT hV
          exact ⟨told, P1, hR, fun D G ad N c hN hD => act_e_5 l D G ad N c ho (by omega) (hM D G ad N c hN hD)⟩
        · by_cases hk : lwF v 16 = 7
          · by_cases h7 : ((v >>> (zI 15 &&& 31)) &&& zI 1) = zI 1
            · obtain ⟨told, P1, hR, hM⟩ := h_setWish l hsT hV (zt := (lwF (v >>> (zI 4 &&& 31)) 3)) (zi := ((lwF (v >>> (zI 11 &&& 31)) 5) - 0)) ⟨by omega, by omega⟩ ⟨by omega, by omega⟩ (xw := 1) (by decide)
              exact ⟨told, P1, hR, fun D G ad N c hN hD => act_e_7w l D G ad N c ho hk h7 (hM D G ad N c hN hD)⟩
            · obtain ⟨told, P1, hR, hM⟩ := h_setWish l hsT hV (zt := (lwF (v >>> (zI 4 &&& 31)) 3)) (zi := ((lwF (v >>> (zI 11 &&& 31)) 5) - 0)) ⟨by omega, by omega⟩ ⟨by omega, by omega⟩ (xw := 0) (by decide)
              exact ⟨told, P1, hR, fun D G ad N c hN hD => act_e_7n l D G ad N c ho hk h7 (hM D G ad N c hN hD)⟩
          · obtain ⟨told, P1, hR, hM⟩ := h_addNote l hsT hV (zt := (lwF (v >>> (zI 4 &&& 31)) 3)) (zx := (lwF (v >>> (zI 7 &&& 31)) 9)) (zm := (1 + (lwF (v >>> (zI 11 &&& 31)) 7))) ⟨by omega, by omega⟩ ⟨by omega, by omega⟩ ⟨by omega, by omega⟩
            exact ⟨told, P1, hR, fun D G ad N c hN hD => act_e_8 l D G ad N c ho (by omega) (hM D G ad N c hN hD)⟩
