section LC2
variable {p : Program} {l : Launch} {e : Env} {s : State} {m : MethodId} {args : Array Value} {below : List Frame} {meth : Method} {k : Code} {H : Heap} {locs : List Loc} {cells slots : Nat} {Q : State → Prop} {ls : Array Slot} {D : va_G} {G : Nat → ClassId} {A : Nat → Prop} {ad : Nat → Nat} {N : Nat} {c : Nat → va_E} {b L ri : Nat} {xs : Nat → Int32}
variable {th lim : Int} {no dn : Nat} {gn : Nat → Nat} {gg : Nat → Nat → Nat} {dg nn : Nat → Nat} {pt ln : Nat → Nat → Nat} {wi : Nat → Nat → Int}
set_option maxHeartbeats 1000000 in
set_option maxRecDepth 100000 in
theorem law_c_setWish (C : LX p l s m args k A b L xs) (hnx : NXT p l e s m args below meth k Q D G A b ri) (w : PW D G A s ad N c H locs) (hW : LWs G ad N c th lim no dn gn gg dg nn pt ln wi) (hl : lv_has ls 8 (lawLs ad b ri)) (hcs : cells ≤ 300 + 10 * ri) (hss : slots ≤ 9000 + 40 * ri) (hi5 : 5 * ri + 5 ≤ L) (hL : L ≤ 2560) {t : Nat} (ht : t < 4) {i : Nat} {xw : Int} (hi : i + 1 < nn t) (hxw : xw = 0 ∨ xw = 1)  {zw : Int} (hbzw : bnd zw) (hw0 : zw = 0 → xw = 0) (hw1 : ¬ zw = 0 → xw = 1) (hx1 : xs (5 * ri + 1) = zI (t : Int)) (hx2 : xs (5 * ri + 2) = zI (i : Int)) (hx3 : xs (5 * ri + 3) = zI zw) : W p l e room_1 s m args below meth k H locs cells slots Q (F0 m 691 ls []) := by
  obtain ⟨hx, hb, hts, hown, hml, hX, hbl, hbA, hsT⟩ := id C
  obtain ⟨hNe, hD, hM, hV, ⟨v0, hO⟩, hB⟩ := hW
  have hN : 139 + 2 * no ≤ N := by omega
  obtain ⟨hlim, hOV, hdn4, hdgv, hUV⟩ := id hV
  refine lv_aload_n hx hb dL_law_691 rfl (lv_at hl 1 rfl) ?_
  refine lw_arg (j := 1) (z := (t : Int)) 698 rfl C w (lv_at hl 0 rfl) (lv_at hl 5 rfl) hi5 hL (by decide) hx1 dL_law_692 dL_law_693 dL_law_695 dL_law_696 dL_law_697 ?_
  refine lw_arg (j := 2) (z := (i : Int)) 704 rfl C w (lv_at hl 0 rfl) (lv_at hl 5 rfl) hi5 hL (by decide) hx2 dL_law_698 dL_law_699 dL_law_701 dL_law_702 dL_law_703 ?_
  refine lw_arg (j := 3) (z := zw) 710 rfl C w (lv_at hl 0 rfl) (lv_at hl 5 rfl) hi5 hL (by decide) hx3 dL_law_704 dL_law_705 dL_law_707 dL_law_708 dL_law_709 ?_
  refine lw_ne (q1 := 713) (q2 := 717) (q3 := 718) C hbzw hw0 hw1 dL_law_710 rfl rfl rfl dL_law_713 dL_law_714 dL_law_717 ?_
  refine lv_aload_n hx hb dL_law_718 rfl (lv_at hl 3 rfl) ?_
  refine pw_ci w (pw_runSW (As := [.ref (ad 0), .int (zI (t : Int)), .int (zI (i : Int)), .int (zI xw), .ref (ad 137)]) (rest := []) w ⟨hx, hb, hml, hown, hts⟩ (c_L_setWish l D G ad N c hN hD hV (t := t) ht (i := i) (xw := xw) hi hxw hO) (vx_cwSW 5 hts gL_law_L_setWish rfl rfl rfl (by decide +kernel) ⟨Nat.le_of_ble_eq_true rfl, Nat.le_of_ble_eq_true rfl⟩) rfl hl.1 rfl (lv_room (Nat.le_of_ble_eq_true rfl)) dL_law_719 ⟨by show cells + 1 ≤ 821725; omega, by show slots + 6 ≤ 6630930; omega⟩) (fun r_ c1 H locs hp w => ?_)
  have w : PW D G A s ad N c1 H locs := w
  obtain ⟨hv1, hO1, hD1, fr1⟩ := hp
  subst hv1
  have hM1 := hM.out (ad1 := ad) (c1 := c1) (fun _ _ => rfl) (fun q h1 h2 => fr1 q (by omega))
  have hB1 : ∃ v, dbA G (c1 138) v := hB.imp (fun v h => dbA.fr (fr1 138 (by omega)) h)
  refine lv_istore (lv' := [(6, .int (zI 0)), (0, .ref b), (1, .ref (ad 0)), (2, .ref (ad 120)), (3, .ref (ad 137)), (4, .ref (ad 138)), (5, .int (zI ((5 * ri : Nat) : Int)))]) hx hb dL_law_722 hl (by decide) rfl (fun ls hl => ?_)
  refine lv_aload_n hx hb dL_law_724 rfl (lv_at hl 3 rfl) ?_
  refine lw_arg (j := 1) (z := (t : Int)) 731 rfl C w (lv_at hl 1 rfl) (lv_at hl 6 rfl) hi5 hL (by decide) hx1 dL_law_725 dL_law_726 dL_law_728 dL_law_729 dL_law_730 ?_
  refine lw_arg (j := 2) (z := (i : Int)) 737 rfl C w (lv_at hl 1 rfl) (lv_at hl 6 rfl) hi5 hL (by decide) hx2 dL_law_731 dL_law_732 dL_law_734 dL_law_735 dL_law_736 ?_
  refine lw_arg (j := 3) (z := zw) 743 rfl C w (lv_at hl 1 rfl) (lv_at hl 6 rfl) hi5 hL (by decide) hx3 dL_law_737 dL_law_738 dL_law_740 dL_law_741 dL_law_742 ?_
  refine lw_ne (q1 := 746) (q2 := 750) (q3 := 751) C hbzw hw0 hw1 dL_law_743 rfl rfl rfl dL_law_746 dL_law_747 dL_law_750 ?_
  refine pw_ci w (pw_runV (r := 120) (ci := 8) (As := [.int (zI (t : Int)), .int (zI (i : Int)), .int (zI xw)]) (rest := []) w ⟨hx, hb, hml, hown, hts⟩ (c_X8_setWish_ok l D G ad N c1 (by omega) hM1 hV ht hi hxw) (cwV 3 hts gL_law_X8_setWish rfl rfl rfl (by decide +kernel) ⟨Nat.le_of_ble_eq_true rfl, Nat.le_of_ble_eq_true rfl⟩) (by omega) hM1.1.choose_spec rfl rfl hl.1 rfl (lv_room (Nat.le_of_ble_eq_true rfl)) dL_law_751 ⟨by show cells + 1 + 0 ≤ 821725; omega, by show slots + 6 + 0 ≤ 6630930; omega⟩) (fun r2 c2 H locs hp w => ?_)
  have w : PW D G A s ad N c2 H locs := w
  obtain ⟨hv2, hM2, fr2⟩ := hp
  subst hv2
  refine lv_istore (lv' := [(7, .int (zI (wi t i))), (6, .int (zI 0)), (0, .ref b), (1, .ref (ad 0)), (2, .ref (ad 120)), (3, .ref (ad 137)), (4, .ref (ad 138)), (5, .int (zI ((5 * ri : Nat) : Int)))]) hx hb dL_law_754 hl (by decide) rfl (fun ls hl => ?_)
  have hD2 := hD1.fr (fun q hq => fr2 q (by omega))
  exact lw_tailZ (q1 := 767) (q2 := 791) (q3 := 772) (q4 := 780) (q5 := 784) (q6 := 785) C hnx w hNe hD2 hM2 (hV.wish ht hxw) ⟨_, lnA.fr (fr2 137 (by omega)) hO1, fun _ => rfl⟩ (hB1.imp (fun v h => dbA.fr (fr2 138 (by omega)) h)) ((hUV t ht).2.2 _ hi) ⟨by decide, by decide⟩ (by omega) (by omega) (by omega) (lv_at hl 4 rfl) (lv_at hl 5 rfl) (lv_at hl 1 rfl) (lv_at hl 0 rfl) (lv_sub hl [2, 3, 4, 5, 6, 7] rfl) dL_law_756 dL_law_757 dL_law_760 dL_law_762 rfl dL_law_767 dL_law_769 (by decide) rfl dL_law_772 dL_law_773 dL_law_774 dL_law_775 dL_law_777 rfl rfl rfl dL_law_780 dL_law_781 dL_law_784 dL_law_785 dL_law_786 dL_law_791 (by decide)

set_option maxHeartbeats 1000000 in
set_option maxRecDepth 100000 in
theorem law_x_setWish1 (C : LX p l s m args k A b L xs) (hnx : NXT p l e s m args below meth k Q D G A b ri) (w : PW D G A s ad N c H locs) (hW : LWs G ad N c th lim no dn gn gg dg nn pt ln wi) (hl : lv_has ls 8 (lawLs ad b ri)) (hcs : cells ≤ 300 + 10 * ri) (hss : slots ≤ 9000 + 40 * ri) (hi5 : 5 * ri + 5 ≤ L) (hL : L ≤ 2560) {zt : Int} (hbzt : bnd zt) (hbad : ¬ (0 ≤ zt ∧ zt ≤ 3)) {zi xw : Int}  {zw : Int} (hbzw : bnd zw) (hw0 : zw = 0 → xw = 0) (hw1 : ¬ zw = 0 → xw = 1) (hx1 : xs (5 * ri + 1) = zI zt) (hx2 : xs (5 * ri + 2) = zI zi) (hx3 : xs (5 * ri + 3) = zI zw) : W p l e room_1 s m args below meth k H locs cells slots Q (F0 m 691 ls []) := by
  obtain ⟨hx, hb, hts, hown, hml, hX, hbl, hbA, hsT⟩ := id C
  obtain ⟨hNe, hD, hM, hV, ⟨v0, hO⟩, hB⟩ := hW
  have hN : 139 + 2 * no ≤ N := by omega
  obtain ⟨hlim, hOV, hdn4, hdgv, hUV⟩ := id hV
  refine lv_aload_n hx hb dL_law_691 rfl (lv_at hl 1 rfl) ?_
  refine lw_arg (j := 1) (z := zt) 698 rfl C w (lv_at hl 0 rfl) (lv_at hl 5 rfl) hi5 hL (by decide) hx1 dL_law_692 dL_law_693 dL_law_695 dL_law_696 dL_law_697 ?_
  refine lw_arg (j := 2) (z := zi) 704 rfl C w (lv_at hl 0 rfl) (lv_at hl 5 rfl) hi5 hL (by decide) hx2 dL_law_698 dL_law_699 dL_law_701 dL_law_702 dL_law_703 ?_
  refine lw_arg (j := 3) (z := zw) 710 rfl C w (lv_at hl 0 rfl) (lv_at hl 5 rfl) hi5 hL (by decide) hx3 dL_law_704 dL_law_705 dL_law_707 dL_law_708 dL_law_709 ?_
  refine lw_ne (q1 := 713) (q2 := 717) (q3 := 718) C hbzw hw0 hw1 dL_law_710 rfl rfl rfl dL_law_713 dL_law_714 dL_law_717 ?_
  refine lv_aload_n hx hb dL_law_718 rfl (lv_at hl 3 rfl) ?_
  refine pw_ci w (pw_runSW (As := [.ref (ad 0), .int (zI zt), .int (zI zi), .int (zI xw), .ref (ad 137)]) (rest := []) w ⟨hx, hb, hml, hown, hts⟩ (x_L_setWish1 l hsT D G ad N c hN hD hV (zt := zt) hbzt hbad (zi := zi) (xw := xw)) (vx_cwSW 5 hts gL_law_L_setWish rfl rfl rfl (by decide +kernel) ⟨Nat.le_of_ble_eq_true rfl, Nat.le_of_ble_eq_true rfl⟩) rfl hl.1 rfl (lv_room (Nat.le_of_ble_eq_true rfl)) dL_law_719 ⟨by show cells + 1 ≤ 821725; omega, by show slots + 6 ≤ 6630930; omega⟩) (fun r_ c1 H locs hp w => ?_)
  have w : PW D G A s ad N c1 H locs := w
  obtain ⟨hv1, hD1, fr1⟩ := hp
  subst hv1
  have hM1 := hM.out (ad1 := ad) (c1 := c1) (fun _ _ => rfl) (fun q h1 h2 => fr1 q (by omega))
  have hB1 : ∃ v, dbA G (c1 138) v := hB.imp (fun v h => dbA.fr (fr1 138 (by omega)) h)
  have hO1 := lnA.fr (fr1 137 (by omega)) hO
  refine lv_istore (lv' := [(6, .int (zI 1)), (0, .ref b), (1, .ref (ad 0)), (2, .ref (ad 120)), (3, .ref (ad 137)), (4, .ref (ad 138)), (5, .int (zI ((5 * ri : Nat) : Int)))]) hx hb dL_law_722 hl (by decide) rfl (fun ls hl => ?_)
  refine lv_aload_n hx hb dL_law_724 rfl (lv_at hl 3 rfl) ?_
  refine lw_arg (j := 1) (z := zt) 731 rfl C w (lv_at hl 1 rfl) (lv_at hl 6 rfl) hi5 hL (by decide) hx1 dL_law_725 dL_law_726 dL_law_728 dL_law_729 dL_law_730 ?_
  refine lw_arg (j := 2) (z := zi) 737 rfl C w (lv_at hl 1 rfl) (lv_at hl 6 rfl) hi5 hL (by decide) hx2 dL_law_731 dL_law_732 dL_law_734 dL_law_735 dL_law_736 ?_
  refine lw_arg (j := 3) (z := zw) 743 rfl C w (lv_at hl 1 rfl) (lv_at hl 6 rfl) hi5 hL (by decide) hx3 dL_law_737 dL_law_738 dL_law_740 dL_law_741 dL_law_742 ?_
  refine lw_ne (q1 := 746) (q2 := 750) (q3 := 751) C hbzw hw0 hw1 dL_law_743 rfl rfl rfl dL_law_746 dL_law_747 dL_law_750 ?_
  refine pw_ci w (pw_runV (r := 120) (ci := 8) (As := [.int (zI zt), .int (zI zi), .int (zI xw)]) (rest := []) w ⟨hx, hb, hml, hown, hts⟩ (c_X8_setWish_bad1 l D G ad N c1 (by omega) hM1 hV hbzt hbad) (cwV 3 hts gL_law_X8_setWish rfl rfl rfl (by decide +kernel) ⟨Nat.le_of_ble_eq_true rfl, Nat.le_of_ble_eq_true rfl⟩) (by omega) hM1.1.choose_spec rfl rfl hl.1 rfl (lv_room (Nat.le_of_ble_eq_true rfl)) dL_law_751 ⟨by show cells + 1 + 0 ≤ 821725; omega, by show slots + 6 + 0 ≤ 6630930; omega⟩) (fun r2 c2 H locs hp w => ?_)
  have w : PW D G A s ad N c2 H locs := w
  obtain ⟨hv2, hM2, fr2⟩ := hp
  subst hv2
  refine lv_istore (lv' := [(7, .int (zI 0)), (6, .int (zI 1)), (0, .ref b), (1, .ref (ad 0)), (2, .ref (ad 120)), (3, .ref (ad 137)), (4, .ref (ad 138)), (5, .int (zI ((5 * ri : Nat) : Int)))]) hx hb dL_law_754 hl (by decide) rfl (fun ls hl => ?_)
  have hD2 := hD1.fr (fun q hq => fr2 q (by omega))
  exact lw_tailZ (q1 := 767) (q2 := 791) (q3 := 772) (q4 := 780) (q5 := 784) (q6 := 785) C hnx w hNe hD2 hM2 hV ⟨_, lnA.fr (fr2 137 (by omega)) hO1, fun h => absurd h (by decide)⟩ (hB1.imp (fun v h => dbA.fr (fr2 138 (by omega)) h)) (Or.inl rfl) ⟨by decide, by decide⟩ (by omega) (by omega) (by omega) (lv_at hl 4 rfl) (lv_at hl 5 rfl) (lv_at hl 1 rfl) (lv_at hl 0 rfl) (lv_sub hl [2, 3, 4, 5, 6, 7] rfl) dL_law_756 dL_law_757 dL_law_760 dL_law_762 rfl dL_law_767 dL_law_769 (by decide) rfl dL_law_772 dL_law_773 dL_law_774 dL_law_775 dL_law_777 rfl rfl rfl dL_law_780 dL_law_781 dL_law_784 dL_law_785 dL_law_786 dL_law_791 (by decide)

set_option maxHeartbeats 1000000 in
set_option maxRecDepth 100000 in
theorem law_x_setWish2 (C : LX p l s m args k A b L xs) (hnx : NXT p l e s m args below meth k Q D G A b ri) (w : PW D G A s ad N c H locs) (hW : LWs G ad N c th lim no dn gn gg dg nn pt ln wi) (hl : lv_has ls 8 (lawLs ad b ri)) (hcs : cells ≤ 300 + 10 * ri) (hss : slots ≤ 9000 + 40 * ri) (hi5 : 5 * ri + 5 ≤ L) (hL : L ≤ 2560) {t : Nat} (ht : t < 4) {zi : Int} (hbzi : bnd zi) (hbad : ¬ (0 ≤ zi ∧ zi ≤ (nn t : Int) - 2)) {xw : Int}  {zw : Int} (hbzw : bnd zw) (hw0 : zw = 0 → xw = 0) (hw1 : ¬ zw = 0 → xw = 1) (hx1 : xs (5 * ri + 1) = zI (t : Int)) (hx2 : xs (5 * ri + 2) = zI zi) (hx3 : xs (5 * ri + 3) = zI zw) : W p l e room_1 s m args below meth k H locs cells slots Q (F0 m 691 ls []) := by
  obtain ⟨hx, hb, hts, hown, hml, hX, hbl, hbA, hsT⟩ := id C
  obtain ⟨hNe, hD, hM, hV, ⟨v0, hO⟩, hB⟩ := hW
  have hN : 139 + 2 * no ≤ N := by omega
  obtain ⟨hlim, hOV, hdn4, hdgv, hUV⟩ := id hV
  refine lv_aload_n hx hb dL_law_691 rfl (lv_at hl 1 rfl) ?_
  refine lw_arg (j := 1) (z := (t : Int)) 698 rfl C w (lv_at hl 0 rfl) (lv_at hl 5 rfl) hi5 hL (by decide) hx1 dL_law_692 dL_law_693 dL_law_695 dL_law_696 dL_law_697 ?_
  refine lw_arg (j := 2) (z := zi) 704 rfl C w (lv_at hl 0 rfl) (lv_at hl 5 rfl) hi5 hL (by decide) hx2 dL_law_698 dL_law_699 dL_law_701 dL_law_702 dL_law_703 ?_
  refine lw_arg (j := 3) (z := zw) 710 rfl C w (lv_at hl 0 rfl) (lv_at hl 5 rfl) hi5 hL (by decide) hx3 dL_law_704 dL_law_705 dL_law_707 dL_law_708 dL_law_709 ?_
  refine lw_ne (q1 := 713) (q2 := 717) (q3 := 718) C hbzw hw0 hw1 dL_law_710 rfl rfl rfl dL_law_713 dL_law_714 dL_law_717 ?_
  refine lv_aload_n hx hb dL_law_718 rfl (lv_at hl 3 rfl) ?_
  refine pw_ci w (pw_runSW (As := [.ref (ad 0), .int (zI (t : Int)), .int (zI zi), .int (zI xw), .ref (ad 137)]) (rest := []) w ⟨hx, hb, hml, hown, hts⟩ (x_L_setWish2 l hsT D G ad N c hN hD hV (t := t) ht (zi := zi) hbzi hbad (xw := xw)) (vx_cwSW 5 hts gL_law_L_setWish rfl rfl rfl (by decide +kernel) ⟨Nat.le_of_ble_eq_true rfl, Nat.le_of_ble_eq_true rfl⟩) rfl hl.1 rfl (lv_room (Nat.le_of_ble_eq_true rfl)) dL_law_719 ⟨by show cells + 1 ≤ 821725; omega, by show slots + 6 ≤ 6630930; omega⟩) (fun r_ c1 H locs hp w => ?_)
  have w : PW D G A s ad N c1 H locs := w
  obtain ⟨hv1, hD1, fr1⟩ := hp
  subst hv1
  have hM1 := hM.out (ad1 := ad) (c1 := c1) (fun _ _ => rfl) (fun q h1 h2 => fr1 q (by omega))
  have hB1 : ∃ v, dbA G (c1 138) v := hB.imp (fun v h => dbA.fr (fr1 138 (by omega)) h)
  have hO1 := lnA.fr (fr1 137 (by omega)) hO
  refine lv_istore (lv' := [(6, .int (zI 2)), (0, .ref b), (1, .ref (ad 0)), (2, .ref (ad 120)), (3, .ref (ad 137)), (4, .ref (ad 138)), (5, .int (zI ((5 * ri : Nat) : Int)))]) hx hb dL_law_722 hl (by decide) rfl (fun ls hl => ?_)
  refine lv_aload_n hx hb dL_law_724 rfl (lv_at hl 3 rfl) ?_
  refine lw_arg (j := 1) (z := (t : Int)) 731 rfl C w (lv_at hl 1 rfl) (lv_at hl 6 rfl) hi5 hL (by decide) hx1 dL_law_725 dL_law_726 dL_law_728 dL_law_729 dL_law_730 ?_
  refine lw_arg (j := 2) (z := zi) 737 rfl C w (lv_at hl 1 rfl) (lv_at hl 6 rfl) hi5 hL (by decide) hx2 dL_law_731 dL_law_732 dL_law_734 dL_law_735 dL_law_736 ?_
  refine lw_arg (j := 3) (z := zw) 743 rfl C w (lv_at hl 1 rfl) (lv_at hl 6 rfl) hi5 hL (by decide) hx3 dL_law_737 dL_law_738 dL_law_740 dL_law_741 dL_law_742 ?_
  refine lw_ne (q1 := 746) (q2 := 750) (q3 := 751) C hbzw hw0 hw1 dL_law_743 rfl rfl rfl dL_law_746 dL_law_747 dL_law_750 ?_
  refine pw_ci w (pw_runV (r := 120) (ci := 8) (As := [.int (zI (t : Int)), .int (zI zi), .int (zI xw)]) (rest := []) w ⟨hx, hb, hml, hown, hts⟩ (c_X8_setWish_bad2 l D G ad N c1 (by omega) hM1 hV ht hbzi hbad) (cwV 3 hts gL_law_X8_setWish rfl rfl rfl (by decide +kernel) ⟨Nat.le_of_ble_eq_true rfl, Nat.le_of_ble_eq_true rfl⟩) (by omega) hM1.1.choose_spec rfl rfl hl.1 rfl (lv_room (Nat.le_of_ble_eq_true rfl)) dL_law_751 ⟨by show cells + 1 + 0 ≤ 821725; omega, by show slots + 6 + 0 ≤ 6630930; omega⟩) (fun r2 c2 H locs hp w => ?_)
  have w : PW D G A s ad N c2 H locs := w
  obtain ⟨hv2, hM2, fr2⟩ := hp
  subst hv2
  refine lv_istore (lv' := [(7, .int (zI 0)), (6, .int (zI 2)), (0, .ref b), (1, .ref (ad 0)), (2, .ref (ad 120)), (3, .ref (ad 137)), (4, .ref (ad 138)), (5, .int (zI ((5 * ri : Nat) : Int)))]) hx hb dL_law_754 hl (by decide) rfl (fun ls hl => ?_)
  have hD2 := hD1.fr (fun q hq => fr2 q (by omega))
  exact lw_tailZ (q1 := 767) (q2 := 791) (q3 := 772) (q4 := 780) (q5 := 784) (q6 := 785) C hnx w hNe hD2 hM2 hV ⟨_, lnA.fr (fr2 137 (by omega)) hO1, fun h => absurd h (by decide)⟩ (hB1.imp (fun v h => dbA.fr (fr2 138 (by omega)) h)) (Or.inl rfl) ⟨by decide, by decide⟩ (by omega) (by omega) (by omega) (lv_at hl 4 rfl) (lv_at hl 5 rfl) (lv_at hl 1 rfl) (lv_at hl 0 rfl) (lv_sub hl [2, 3, 4, 5, 6, 7] rfl) dL_law_756 dL_law_757 dL_law_760 dL_law_762 rfl dL_law_767 dL_law_769 (by decide) rfl dL_law_772 dL_law_773 dL_law_774 dL_law_775 dL_law_777 rfl rfl rfl dL_law_780 dL_law_781 dL_law_784 dL_law_785 dL_law_786 dL_law_791 (by decide)

set_option maxHeartbeats 1000000 in
set_option maxRecDepth 100000 in
theorem law_c_notes (C : LX p l s m args k A b L xs) (hnx : NXT p l e s m args below meth k Q D G A b ri) (w : PW D G A s ad N c H locs) (hW : LWs G ad N c th lim no dn gn gg dg nn pt ln wi) (hl : lv_has ls 8 (lawLs ad b ri)) (hcs : cells ≤ 300 + 10 * ri) (hss : slots ≤ 9000 + 40 * ri) (hi5 : 5 * ri + 5 ≤ L) (hL : L ≤ 2560) {t : Nat} (ht : t < 4)  (hx1 : xs (5 * ri + 1) = zI (t : Int)) : W p l e room_1 s m args below meth k H locs cells slots Q (F0 m 794 ls []) := by
  obtain ⟨hx, hb, hts, hown, hml, hX, hbl, hbA, hsT⟩ := id C
  obtain ⟨hNe, hD, hM, hV, ⟨v0, hO⟩, hB⟩ := hW
  have hN : 139 + 2 * no ≤ N := by omega
  obtain ⟨hlim, hOV, hdn4, hdgv, hUV⟩ := id hV
  refine lv_aload_n hx hb dL_law_794 rfl (lv_at hl 1 rfl) ?_
  refine lw_arg (j := 1) (z := (t : Int)) 801 rfl C w (lv_at hl 0 rfl) (lv_at hl 5 rfl) hi5 hL (by decide) hx1 dL_law_795 dL_law_796 dL_law_798 dL_law_799 dL_law_800 ?_
  refine lv_aload_n hx hb dL_law_801 rfl (lv_at hl 3 rfl) ?_
  refine pw_ci w (pw_runSW (As := [.ref (ad 0), .int (zI (t : Int)), .ref (ad 137)]) (rest := []) w ⟨hx, hb, hml, hown, hts⟩ (c_L_notes l D G ad N c hN hD hV (t := t) ht hO) (vx_cwSW 3 hts gL_law_L_notes rfl rfl rfl (by decide +kernel) ⟨Nat.le_of_ble_eq_true rfl, Nat.le_of_ble_eq_true rfl⟩) rfl hl.1 rfl (lv_room (Nat.le_of_ble_eq_true rfl)) dL_law_802 ⟨by show cells + 1 ≤ 821725; omega, by show slots + 6 ≤ 6630930; omega⟩) (fun r_ c1 H locs hp w => ?_)
  have w : PW D G A s ad N c1 H locs := w
  obtain ⟨hv1, hO1, hD1, fr1⟩ := hp
  subst hv1
  have hM1 := hM.out (ad1 := ad) (c1 := c1) (fun _ _ => rfl) (fun q h1 h2 => fr1 q (by omega))
  have hB1 : ∃ v, dbA G (c1 138) v := hB.imp (fun v h => dbA.fr (fr1 138 (by omega)) h)
  refine lv_istore (lv' := [(6, .int (zI 0)), (0, .ref b), (1, .ref (ad 0)), (2, .ref (ad 120)), (3, .ref (ad 137)), (4, .ref (ad 138)), (5, .int (zI ((5 * ri : Nat) : Int)))]) hx hb dL_law_805 hl (by decide) rfl (fun ls hl => ?_)
  refine lv_aload_n hx hb dL_law_807 rfl (lv_at hl 3 rfl) ?_
  refine lw_arg (j := 1) (z := (t : Int)) 814 rfl C w (lv_at hl 1 rfl) (lv_at hl 6 rfl) hi5 hL (by decide) hx1 dL_law_808 dL_law_809 dL_law_811 dL_law_812 dL_law_813 ?_
  refine pw_ci w (pw_runV (r := 120) (ci := 8) (As := [.int (zI (t : Int))]) (rest := []) w ⟨hx, hb, hml, hown, hts⟩ (c_X8_notes_ok l D G ad N c1 (by omega) hM1 hV ht) (cwV 1 hts gL_law_X8_notes rfl rfl rfl (by decide +kernel) ⟨Nat.le_of_ble_eq_true rfl, Nat.le_of_ble_eq_true rfl⟩) (by omega) hM1.1.choose_spec rfl rfl hl.1 rfl (lv_room (Nat.le_of_ble_eq_true rfl)) dL_law_814 ⟨by show cells + 1 + 0 ≤ 821725; omega, by show slots + 6 + 0 ≤ 6630930; omega⟩) (fun r2 c2 H locs hp w => ?_)
  have w : PW D G A s ad N c2 H locs := w
  obtain ⟨hv2, hM2, fr2⟩ := hp
  subst hv2
  refine lv_istore (lv' := [(7, .int (zI (nn t : Int))), (6, .int (zI 0)), (0, .ref b), (1, .ref (ad 0)), (2, .ref (ad 120)), (3, .ref (ad 137)), (4, .ref (ad 138)), (5, .int (zI ((5 * ri : Nat) : Int)))]) hx hb dL_law_817 hl (by decide) rfl (fun ls hl => ?_)
  have hD2 := hD1.fr (fun q hq => fr2 q (by omega))
  exact lw_tailI (q1 := 830) (q2 := 847) (q3 := 835) C hnx w hNe hD2 hM2 hV ⟨_, lnA.fr (fr2 137 (by omega)) hO1, fun _ => rfl⟩ (hB1.imp (fun v h => dbA.fr (fr2 138 (by omega)) h)) ⟨by decide, by decide⟩ (by omega) (by omega) (by omega) (lv_at hl 4 rfl) (lv_at hl 5 rfl) (lv_at hl 1 rfl) (lv_at hl 0 rfl) (lv_sub hl [2, 3, 4, 5, 6, 7] rfl) dL_law_819 dL_law_820 dL_law_823 dL_law_825 rfl dL_law_830 dL_law_832 (by decide) rfl dL_law_835 dL_law_836 dL_law_837 dL_law_838 dL_law_840 dL_law_841 dL_law_842 dL_law_847 (by decide)

set_option maxHeartbeats 1000000 in
set_option maxRecDepth 100000 in
theorem law_x_notes (C : LX p l s m args k A b L xs) (hnx : NXT p l e s m args below meth k Q D G A b ri) (w : PW D G A s ad N c H locs) (hW : LWs G ad N c th lim no dn gn gg dg nn pt ln wi) (hl : lv_has ls 8 (lawLs ad b ri)) (hcs : cells ≤ 300 + 10 * ri) (hss : slots ≤ 9000 + 40 * ri) (hi5 : 5 * ri + 5 ≤ L) (hL : L ≤ 2560) {zt : Int} (hbzt : bnd zt) (hbad : ¬ (0 ≤ zt ∧ zt ≤ 3))  (hx1 : xs (5 * ri + 1) = zI zt) : W p l e room_1 s m args below meth k H locs cells slots Q (F0 m 794 ls []) := by
  obtain ⟨hx, hb, hts, hown, hml, hX, hbl, hbA, hsT⟩ := id C
  obtain ⟨hNe, hD, hM, hV, ⟨v0, hO⟩, hB⟩ := hW
  have hN : 139 + 2 * no ≤ N := by omega
  obtain ⟨hlim, hOV, hdn4, hdgv, hUV⟩ := id hV
  refine lv_aload_n hx hb dL_law_794 rfl (lv_at hl 1 rfl) ?_
  refine lw_arg (j := 1) (z := zt) 801 rfl C w (lv_at hl 0 rfl) (lv_at hl 5 rfl) hi5 hL (by decide) hx1 dL_law_795 dL_law_796 dL_law_798 dL_law_799 dL_law_800 ?_
  refine lv_aload_n hx hb dL_law_801 rfl (lv_at hl 3 rfl) ?_
  refine pw_ci w (pw_runSW (As := [.ref (ad 0), .int (zI zt), .ref (ad 137)]) (rest := []) w ⟨hx, hb, hml, hown, hts⟩ (x_L_notes l hsT D G ad N c hN hD hV (zt := zt) hbzt hbad) (vx_cwSW 3 hts gL_law_L_notes rfl rfl rfl (by decide +kernel) ⟨Nat.le_of_ble_eq_true rfl, Nat.le_of_ble_eq_true rfl⟩) rfl hl.1 rfl (lv_room (Nat.le_of_ble_eq_true rfl)) dL_law_802 ⟨by show cells + 1 ≤ 821725; omega, by show slots + 6 ≤ 6630930; omega⟩) (fun r_ c1 H locs hp w => ?_)
  have w : PW D G A s ad N c1 H locs := w
  obtain ⟨hv1, hD1, fr1⟩ := hp
  subst hv1
  have hM1 := hM.out (ad1 := ad) (c1 := c1) (fun _ _ => rfl) (fun q h1 h2 => fr1 q (by omega))
  have hB1 : ∃ v, dbA G (c1 138) v := hB.imp (fun v h => dbA.fr (fr1 138 (by omega)) h)
  have hO1 := lnA.fr (fr1 137 (by omega)) hO
  refine lv_istore (lv' := [(6, .int (zI 1)), (0, .ref b), (1, .ref (ad 0)), (2, .ref (ad 120)), (3, .ref (ad 137)), (4, .ref (ad 138)), (5, .int (zI ((5 * ri : Nat) : Int)))]) hx hb dL_law_805 hl (by decide) rfl (fun ls hl => ?_)
  refine lv_aload_n hx hb dL_law_807 rfl (lv_at hl 3 rfl) ?_
  refine lw_arg (j := 1) (z := zt) 814 rfl C w (lv_at hl 1 rfl) (lv_at hl 6 rfl) hi5 hL (by decide) hx1 dL_law_808 dL_law_809 dL_law_811 dL_law_812 dL_law_813 ?_
  refine pw_ci w (pw_runV (r := 120) (ci := 8) (As := [.int (zI zt)]) (rest := []) w ⟨hx, hb, hml, hown, hts⟩ (c_X8_notes_bad l D G ad N c1 (by omega) hM1 hV (zx := zt) hbzt hbad) (cwV 1 hts gL_law_X8_notes rfl rfl rfl (by decide +kernel) ⟨Nat.le_of_ble_eq_true rfl, Nat.le_of_ble_eq_true rfl⟩) (by omega) hM1.1.choose_spec rfl rfl hl.1 rfl (lv_room (Nat.le_of_ble_eq_true rfl)) dL_law_814 ⟨by show cells + 1 + 0 ≤ 821725; omega, by show slots + 6 + 0 ≤ 6630930; omega⟩) (fun r2 c2 H locs hp w => ?_)
  have w : PW D G A s ad N c2 H locs := w
  obtain ⟨hv2, hM2, fr2⟩ := hp
  subst hv2
  refine lv_istore (lv' := [(7, .int (zI 0)), (6, .int (zI 1)), (0, .ref b), (1, .ref (ad 0)), (2, .ref (ad 120)), (3, .ref (ad 137)), (4, .ref (ad 138)), (5, .int (zI ((5 * ri : Nat) : Int)))]) hx hb dL_law_817 hl (by decide) rfl (fun ls hl => ?_)
  have hD2 := hD1.fr (fun q hq => fr2 q (by omega))
  exact lw_tailI (q1 := 830) (q2 := 847) (q3 := 835) C hnx w hNe hD2 hM2 hV ⟨_, lnA.fr (fr2 137 (by omega)) hO1, fun h => absurd h (by decide)⟩ (hB1.imp (fun v h => dbA.fr (fr2 138 (by omega)) h)) ⟨by decide, by decide⟩ (by omega) (by omega) (by omega) (lv_at hl 4 rfl) (lv_at hl 5 rfl) (lv_at hl 1 rfl) (lv_at hl 0 rfl) (lv_sub hl [2, 3, 4, 5, 6, 7] rfl) dL_law_819 dL_law_820 dL_law_823 dL_law_825 rfl dL_law_830 dL_law_832 (by decide) rfl dL_law_835 dL_law_836 dL_law_837 dL_law_838 dL_law_840 dL_law_841 dL_law_842 dL_law_847 (by decide)

set_option maxHeartbeats 1000000 in
set_option maxRecDepth 100000 in
theorem law_c_time (C : LX p l s m args k A b L xs) (hnx : NXT p l e s m args below meth k Q D G A b ri) (w : PW D G A s ad N c H locs) (hW : LWs G ad N c th lim no dn gn gg dg nn pt ln wi) (hl : lv_has ls 8 (lawLs ad b ri)) (hcs : cells ≤ 300 + 10 * ri) (hss : slots ≤ 9000 + 40 * ri) (hi5 : 5 * ri + 5 ≤ L) (hL : L ≤ 2560) {t i : Nat} (ht : t < 4) (hi : i < nn t) (hi2 : i + 1 < nn t) (hlt : (lessOf (Rr (cwT lim no gn gg nn pt ln wi t) (nn t - 1) 0)) < 1000000)  (hx1 : xs (5 * ri + 1) = zI (t : Int)) (hx2 : xs (5 * ri + 2) = zI (i : Int)) : W p l e room_1 s m args below meth k H locs cells slots Q (F0 m 850 ls []) := by
  obtain ⟨hx, hb, hts, hown, hml, hX, hbl, hbA, hsT⟩ := id C
  obtain ⟨hNe, hD, hM, hV, ⟨v0, hO⟩, hB⟩ := hW
  have hN : 139 + 2 * no ≤ N := by omega
  obtain ⟨hlim, hOV, hdn4, hdgv, hUV⟩ := id hV
  have hW9 : 0 < (TV lim no gn gg (nn t) (pt t) (ln t) (wi t)).2.1 := (T_pos hOV hUV ht).mpr (by rw [← T_least hOV hUV ht]; exact hlt)
  have hWn : ¬ (TV lim no gn gg (nn t) (pt t) (ln t) (wi t)).2.1 = 0 := by omega
  refine lv_aload_n hx hb dL_law_850 rfl (lv_at hl 1 rfl) ?_
  refine lw_arg (j := 1) (z := (t : Int)) 857 rfl C w (lv_at hl 0 rfl) (lv_at hl 5 rfl) hi5 hL (by decide) hx1 dL_law_851 dL_law_852 dL_law_854 dL_law_855 dL_law_856 ?_
  refine lw_arg (j := 2) (z := (i : Int)) 863 rfl C w (lv_at hl 0 rfl) (lv_at hl 5 rfl) hi5 hL (by decide) hx2 dL_law_857 dL_law_858 dL_law_860 dL_law_861 dL_law_862 ?_
  refine lv_aload_n hx hb dL_law_863 rfl (lv_at hl 3 rfl) ?_
  refine pw_ci w (pw_runSW (As := [.ref (ad 0), .int (zI (t : Int)), .int (zI (i : Int)), .ref (ad 137)]) (rest := []) w ⟨hx, hb, hml, hown, hts⟩ (c_L_time l D G ad N c hN hD hV (t := t) (i := i) ht hi hi2 hlt hO) (vx_cwSW 4 hts gL_law_L_time rfl rfl rfl (by decide +kernel) ⟨Nat.le_of_ble_eq_true rfl, Nat.le_of_ble_eq_true rfl⟩) rfl hl.1 rfl (lv_room (Nat.le_of_ble_eq_true rfl)) dL_law_864 ⟨by show cells + 1 ≤ 821725; omega, by show slots + 6 ≤ 6630930; omega⟩) (fun r_ c1 H locs hp w => ?_)
  have w : PW D G A s ad N c1 H locs := w
  obtain ⟨hv1, hO1, hD1, fr1⟩ := hp
  subst hv1
  have hM1 := hM.out (ad1 := ad) (c1 := c1) (fun _ _ => rfl) (fun q h1 h2 => fr1 q (by omega))
  have hB1 : ∃ v, dbA G (c1 138) v := hB.imp (fun v h => dbA.fr (fr1 138 (by omega)) h)
  refine lv_istore (lv' := [(6, .int (zI 0)), (0, .ref b), (1, .ref (ad 0)), (2, .ref (ad 120)), (3, .ref (ad 137)), (4, .ref (ad 138)), (5, .int (zI ((5 * ri : Nat) : Int)))]) hx hb dL_law_867 hl (by decide) rfl (fun ls hl => ?_)
  refine lv_aload_n hx hb dL_law_869 rfl (lv_at hl 3 rfl) ?_
  refine lw_arg (j := 1) (z := (t : Int)) 876 rfl C w (lv_at hl 1 rfl) (lv_at hl 6 rfl) hi5 hL (by decide) hx1 dL_law_870 dL_law_871 dL_law_873 dL_law_874 dL_law_875 ?_
  refine lw_arg (j := 2) (z := (i : Int)) 882 rfl C w (lv_at hl 1 rfl) (lv_at hl 6 rfl) hi5 hL (by decide) hx2 dL_law_876 dL_law_877 dL_law_879 dL_law_880 dL_law_881 ?_
  refine pw_ci w (pw_runV (r := 120) (ci := 8) (As := [.int (zI (t : Int)), .int (zI (i : Int))]) (rest := []) w ⟨hx, hb, hml, hown, hts⟩ (c_X8_time_ok l D G ad N c1 (by omega) hM1 hV ht hi2 hWn (ch := chT lim no gn gg nn pt ln wi t) rfl (fun j hj => T_chosen hOV hUV ht (by omega) hW9)) (cwV 2 hts gL_law_X8_time rfl rfl rfl (by decide +kernel) ⟨Nat.le_of_ble_eq_true rfl, Nat.le_of_ble_eq_true rfl⟩) (by omega) hM1.1.choose_spec rfl rfl hl.1 rfl (lv_room (Nat.le_of_ble_eq_true rfl)) dL_law_882 ⟨by show cells + 1 + 0 ≤ 821725; omega, by show slots + 6 + 0 ≤ 6630930; omega⟩) (fun r2 c2 H locs hp w => ?_)
  have w : PW D G A s ad N c2 H locs := w
  obtain ⟨hv2, hM2, fr2⟩ := hp
  subst hv2
  refine lv_istore (lv' := [(7, .int (zI (((ln t i : Nat) : Int) - (if chT lim no gn gg nn pt ln wi t (i + 1) = 0 then 0 else ((gn (chT lim no gn gg nn pt ln wi t (i + 1) - 1) : Nat) : Int))))), (6, .int (zI 0)), (0, .ref b), (1, .ref (ad 0)), (2, .ref (ad 120)), (3, .ref (ad 137)), (4, .ref (ad 138)), (5, .int (zI ((5 * ri : Nat) : Int)))]) hx hb dL_law_885 hl (by decide) rfl (fun ls hl => ?_)
  have hD2 := hD1.fr (fun q hq => fr2 q (by omega))
  exact lw_tailI (q1 := 898) (q2 := 915) (q3 := 903) C hnx w hNe hD2 hM2 hV ⟨_, lnA.fr (fr2 137 (by omega)) hO1, fun _ => (congrArg (fun z => (zI z).toInt64) (by rw [T_gra (T_chosen hOV hUV ht hi2 hW9).2.1]; split <;> simp))⟩ (hB1.imp (fun v h => dbA.fr (fr2 138 (by omega)) h)) ⟨by decide, by decide⟩ (by omega) (by omega) (by omega) (lv_at hl 4 rfl) (lv_at hl 5 rfl) (lv_at hl 1 rfl) (lv_at hl 0 rfl) (lv_sub hl [2, 3, 4, 5, 6, 7] rfl) dL_law_887 dL_law_888 dL_law_891 dL_law_893 rfl dL_law_898 dL_law_900 (by decide) rfl dL_law_903 dL_law_904 dL_law_905 dL_law_906 dL_law_908 dL_law_909 dL_law_910 dL_law_915 (by decide)

set_option maxHeartbeats 1000000 in
set_option maxRecDepth 100000 in
theorem law_c_time_last (C : LX p l s m args k A b L xs) (hnx : NXT p l e s m args below meth k Q D G A b ri) (w : PW D G A s ad N c H locs) (hW : LWs G ad N c th lim no dn gn gg dg nn pt ln wi) (hl : lv_has ls 8 (lawLs ad b ri)) (hcs : cells ≤ 300 + 10 * ri) (hss : slots ≤ 9000 + 40 * ri) (hi5 : 5 * ri + 5 ≤ L) (hL : L ≤ 2560) {t i : Nat} (ht : t < 4) (hi : i < nn t) (hi2 : i + 1 = nn t) (hlt : (lessOf (Rr (cwT lim no gn gg nn pt ln wi t) (nn t - 1) 0)) < 1000000)  (hx1 : xs (5 * ri + 1) = zI (t : Int)) (hx2 : xs (5 * ri + 2) = zI (i : Int)) : W p l e room_1 s m args below meth k H locs cells slots Q (F0 m 850 ls []) := by
  obtain ⟨hx, hb, hts, hown, hml, hX, hbl, hbA, hsT⟩ := id C
  obtain ⟨hNe, hD, hM, hV, ⟨v0, hO⟩, hB⟩ := hW
  have hN : 139 + 2 * no ≤ N := by omega
  obtain ⟨hlim, hOV, hdn4, hdgv, hUV⟩ := id hV
  have hW9 : 0 < (TV lim no gn gg (nn t) (pt t) (ln t) (wi t)).2.1 := (T_pos hOV hUV ht).mpr (by rw [← T_least hOV hUV ht]; exact hlt)
  have hWn : ¬ (TV lim no gn gg (nn t) (pt t) (ln t) (wi t)).2.1 = 0 := by omega
  refine lv_aload_n hx hb dL_law_850 rfl (lv_at hl 1 rfl) ?_
  refine lw_arg (j := 1) (z := (t : Int)) 857 rfl C w (lv_at hl 0 rfl) (lv_at hl 5 rfl) hi5 hL (by decide) hx1 dL_law_851 dL_law_852 dL_law_854 dL_law_855 dL_law_856 ?_
  refine lw_arg (j := 2) (z := (i : Int)) 863 rfl C w (lv_at hl 0 rfl) (lv_at hl 5 rfl) hi5 hL (by decide) hx2 dL_law_857 dL_law_858 dL_law_860 dL_law_861 dL_law_862 ?_
  refine lv_aload_n hx hb dL_law_863 rfl (lv_at hl 3 rfl) ?_
  refine pw_ci w (pw_runSW (As := [.ref (ad 0), .int (zI (t : Int)), .int (zI (i : Int)), .ref (ad 137)]) (rest := []) w ⟨hx, hb, hml, hown, hts⟩ (c_L_time_last l D G ad N c hN hD hV (t := t) (i := i) ht hi hi2 hlt hO) (vx_cwSW 4 hts gL_law_L_time rfl rfl rfl (by decide +kernel) ⟨Nat.le_of_ble_eq_true rfl, Nat.le_of_ble_eq_true rfl⟩) rfl hl.1 rfl (lv_room (Nat.le_of_ble_eq_true rfl)) dL_law_864 ⟨by show cells + 1 ≤ 821725; omega, by show slots + 6 ≤ 6630930; omega⟩) (fun r_ c1 H locs hp w => ?_)
  have w : PW D G A s ad N c1 H locs := w
  obtain ⟨hv1, hO1, hD1, fr1⟩ := hp
  subst hv1
  have hM1 := hM.out (ad1 := ad) (c1 := c1) (fun _ _ => rfl) (fun q h1 h2 => fr1 q (by omega))
  have hB1 : ∃ v, dbA G (c1 138) v := hB.imp (fun v h => dbA.fr (fr1 138 (by omega)) h)
  refine lv_istore (lv' := [(6, .int (zI 0)), (0, .ref b), (1, .ref (ad 0)), (2, .ref (ad 120)), (3, .ref (ad 137)), (4, .ref (ad 138)), (5, .int (zI ((5 * ri : Nat) : Int)))]) hx hb dL_law_867 hl (by decide) rfl (fun ls hl => ?_)
  refine lv_aload_n hx hb dL_law_869 rfl (lv_at hl 3 rfl) ?_
  refine lw_arg (j := 1) (z := (t : Int)) 876 rfl C w (lv_at hl 1 rfl) (lv_at hl 6 rfl) hi5 hL (by decide) hx1 dL_law_870 dL_law_871 dL_law_873 dL_law_874 dL_law_875 ?_
  refine lw_arg (j := 2) (z := (i : Int)) 882 rfl C w (lv_at hl 1 rfl) (lv_at hl 6 rfl) hi5 hL (by decide) hx2 dL_law_876 dL_law_877 dL_law_879 dL_law_880 dL_law_881 ?_
  refine pw_ci w (pw_runV (r := 120) (ci := 8) (As := [.int (zI (t : Int)), .int (zI (i : Int))]) (rest := []) w ⟨hx, hb, hml, hown, hts⟩ (c_X8_time_last l D G ad N c1 (by omega) hM1 hV ht hi2 hWn) (cwV 2 hts gL_law_X8_time rfl rfl rfl (by decide +kernel) ⟨Nat.le_of_ble_eq_true rfl, Nat.le_of_ble_eq_true rfl⟩) (by omega) hM1.1.choose_spec rfl rfl hl.1 rfl (lv_room (Nat.le_of_ble_eq_true rfl)) dL_law_882 ⟨by show cells + 1 + 0 ≤ 821725; omega, by show slots + 6 + 0 ≤ 6630930; omega⟩) (fun r2 c2 H locs hp w => ?_)
  have w : PW D G A s ad N c2 H locs := w
  obtain ⟨hv2, hM2, fr2⟩ := hp
  subst hv2
  refine lv_istore (lv' := [(7, .int (zI (ln t i : Int))), (6, .int (zI 0)), (0, .ref b), (1, .ref (ad 0)), (2, .ref (ad 120)), (3, .ref (ad 137)), (4, .ref (ad 138)), (5, .int (zI ((5 * ri : Nat) : Int)))]) hx hb dL_law_885 hl (by decide) rfl (fun ls hl => ?_)
  have hD2 := hD1.fr (fun q hq => fr2 q (by omega))
  exact lw_tailI (q1 := 898) (q2 := 915) (q3 := 903) C hnx w hNe hD2 hM2 hV ⟨_, lnA.fr (fr2 137 (by omega)) hO1, fun _ => rfl⟩ (hB1.imp (fun v h => dbA.fr (fr2 138 (by omega)) h)) ⟨by decide, by decide⟩ (by omega) (by omega) (by omega) (lv_at hl 4 rfl) (lv_at hl 5 rfl) (lv_at hl 1 rfl) (lv_at hl 0 rfl) (lv_sub hl [2, 3, 4, 5, 6, 7] rfl) dL_law_887 dL_law_888 dL_law_891 dL_law_893 rfl dL_law_898 dL_law_900 (by decide) rfl dL_law_903 dL_law_904 dL_law_905 dL_law_906 dL_law_908 dL_law_909 dL_law_910 dL_law_915 (by decide)

set_option maxHeartbeats 1000000 in
set_option maxRecDepth 100000 in
theorem law_x_time1 (C : LX p l s m args k A b L xs) (hnx : NXT p l e s m args below meth k Q D G A b ri) (w : PW D G A s ad N c H locs) (hW : LWs G ad N c th lim no dn gn gg dg nn pt ln wi) (hl : lv_has ls 8 (lawLs ad b ri)) (hcs : cells ≤ 300 + 10 * ri) (hss : slots ≤ 9000 + 40 * ri) (hi5 : 5 * ri + 5 ≤ L) (hL : L ≤ 2560) {zt : Int} (hbzt : bnd zt) (hbad : ¬ (0 ≤ zt ∧ zt ≤ 3)) {zi : Int}  (hx1 : xs (5 * ri + 1) = zI zt) (hx2 : xs (5 * ri + 2) = zI zi) : W p l e room_1 s m args below meth k H locs cells slots Q (F0 m 850 ls []) := by
  obtain ⟨hx, hb, hts, hown, hml, hX, hbl, hbA, hsT⟩ := id C
  obtain ⟨hNe, hD, hM, hV, ⟨v0, hO⟩, hB⟩ := hW
  have hN : 139 + 2 * no ≤ N := by omega
  obtain ⟨hlim, hOV, hdn4, hdgv, hUV⟩ := id hV
  refine lv_aload_n hx hb dL_law_850 rfl (lv_at hl 1 rfl) ?_
  refine lw_arg (j := 1) (z := zt) 857 rfl C w (lv_at hl 0 rfl) (lv_at hl 5 rfl) hi5 hL (by decide) hx1 dL_law_851 dL_law_852 dL_law_854 dL_law_855 dL_law_856 ?_
  refine lw_arg (j := 2) (z := zi) 863 rfl C w (lv_at hl 0 rfl) (lv_at hl 5 rfl) hi5 hL (by decide) hx2 dL_law_857 dL_law_858 dL_law_860 dL_law_861 dL_law_862 ?_
  refine lv_aload_n hx hb dL_law_863 rfl (lv_at hl 3 rfl) ?_
  refine pw_ci w (pw_runSW (As := [.ref (ad 0), .int (zI zt), .int (zI zi), .ref (ad 137)]) (rest := []) w ⟨hx, hb, hml, hown, hts⟩ (x_L_time1 l hsT D G ad N c hN hD hV (zt := zt) hbzt hbad (zi := zi)) (vx_cwSW 4 hts gL_law_L_time rfl rfl rfl (by decide +kernel) ⟨Nat.le_of_ble_eq_true rfl, Nat.le_of_ble_eq_true rfl⟩) rfl hl.1 rfl (lv_room (Nat.le_of_ble_eq_true rfl)) dL_law_864 ⟨by show cells + 1 ≤ 821725; omega, by show slots + 6 ≤ 6630930; omega⟩) (fun r_ c1 H locs hp w => ?_)
  have w : PW D G A s ad N c1 H locs := w
  obtain ⟨hv1, hD1, fr1⟩ := hp
  subst hv1
  have hM1 := hM.out (ad1 := ad) (c1 := c1) (fun _ _ => rfl) (fun q h1 h2 => fr1 q (by omega))
  have hB1 : ∃ v, dbA G (c1 138) v := hB.imp (fun v h => dbA.fr (fr1 138 (by omega)) h)
  have hO1 := lnA.fr (fr1 137 (by omega)) hO
  refine lv_istore (lv' := [(6, .int (zI 1)), (0, .ref b), (1, .ref (ad 0)), (2, .ref (ad 120)), (3, .ref (ad 137)), (4, .ref (ad 138)), (5, .int (zI ((5 * ri : Nat) : Int)))]) hx hb dL_law_867 hl (by decide) rfl (fun ls hl => ?_)
  refine lv_aload_n hx hb dL_law_869 rfl (lv_at hl 3 rfl) ?_
  refine lw_arg (j := 1) (z := zt) 876 rfl C w (lv_at hl 1 rfl) (lv_at hl 6 rfl) hi5 hL (by decide) hx1 dL_law_870 dL_law_871 dL_law_873 dL_law_874 dL_law_875 ?_
  refine lw_arg (j := 2) (z := zi) 882 rfl C w (lv_at hl 1 rfl) (lv_at hl 6 rfl) hi5 hL (by decide) hx2 dL_law_876 dL_law_877 dL_law_879 dL_law_880 dL_law_881 ?_
  refine pw_ci w (pw_runV (r := 120) (ci := 8) (As := [.int (zI zt), .int (zI zi)]) (rest := []) w ⟨hx, hb, hml, hown, hts⟩ (c_X8_time_bad1 l D G ad N c1 (by omega) hM1 hV hbzt hbad) (cwV 2 hts gL_law_X8_time rfl rfl rfl (by decide +kernel) ⟨Nat.le_of_ble_eq_true rfl, Nat.le_of_ble_eq_true rfl⟩) (by omega) hM1.1.choose_spec rfl rfl hl.1 rfl (lv_room (Nat.le_of_ble_eq_true rfl)) dL_law_882 ⟨by show cells + 1 + 0 ≤ 821725; omega, by show slots + 6 + 0 ≤ 6630930; omega⟩) (fun r2 c2 H locs hp w => ?_)
  have w : PW D G A s ad N c2 H locs := w
  obtain ⟨hv2, hM2, fr2⟩ := hp
  subst hv2
  refine lv_istore (lv' := [(7, .int (zI 0)), (6, .int (zI 1)), (0, .ref b), (1, .ref (ad 0)), (2, .ref (ad 120)), (3, .ref (ad 137)), (4, .ref (ad 138)), (5, .int (zI ((5 * ri : Nat) : Int)))]) hx hb dL_law_885 hl (by decide) rfl (fun ls hl => ?_)
  have hD2 := hD1.fr (fun q hq => fr2 q (by omega))
  exact lw_tailI (q1 := 898) (q2 := 915) (q3 := 903) C hnx w hNe hD2 hM2 hV ⟨_, lnA.fr (fr2 137 (by omega)) hO1, fun h => absurd h (by decide)⟩ (hB1.imp (fun v h => dbA.fr (fr2 138 (by omega)) h)) ⟨by decide, by decide⟩ (by omega) (by omega) (by omega) (lv_at hl 4 rfl) (lv_at hl 5 rfl) (lv_at hl 1 rfl) (lv_at hl 0 rfl) (lv_sub hl [2, 3, 4, 5, 6, 7] rfl) dL_law_887 dL_law_888 dL_law_891 dL_law_893 rfl dL_law_898 dL_law_900 (by decide) rfl dL_law_903 dL_law_904 dL_law_905 dL_law_906 dL_law_908 dL_law_909 dL_law_910 dL_law_915 (by decide)

set_option maxHeartbeats 1000000 in
set_option maxRecDepth 100000 in
theorem law_x_time2 (C : LX p l s m args k A b L xs) (hnx : NXT p l e s m args below meth k Q D G A b ri) (w : PW D G A s ad N c H locs) (hW : LWs G ad N c th lim no dn gn gg dg nn pt ln wi) (hl : lv_has ls 8 (lawLs ad b ri)) (hcs : cells ≤ 300 + 10 * ri) (hss : slots ≤ 9000 + 40 * ri) (hi5 : 5 * ri + 5 ≤ L) (hL : L ≤ 2560) {t : Nat} (ht : t < 4) {zi : Int} (hbzi : bnd zi) (hbad : ¬ (0 ≤ zi ∧ zi ≤ (nn t : Int) - 1))  (hx1 : xs (5 * ri + 1) = zI (t : Int)) (hx2 : xs (5 * ri + 2) = zI zi) : W p l e room_1 s m args below meth k H locs cells slots Q (F0 m 850 ls []) := by
  obtain ⟨hx, hb, hts, hown, hml, hX, hbl, hbA, hsT⟩ := id C
  obtain ⟨hNe, hD, hM, hV, ⟨v0, hO⟩, hB⟩ := hW
  have hN : 139 + 2 * no ≤ N := by omega
  obtain ⟨hlim, hOV, hdn4, hdgv, hUV⟩ := id hV
  refine lv_aload_n hx hb dL_law_850 rfl (lv_at hl 1 rfl) ?_
  refine lw_arg (j := 1) (z := (t : Int)) 857 rfl C w (lv_at hl 0 rfl) (lv_at hl 5 rfl) hi5 hL (by decide) hx1 dL_law_851 dL_law_852 dL_law_854 dL_law_855 dL_law_856 ?_
  refine lw_arg (j := 2) (z := zi) 863 rfl C w (lv_at hl 0 rfl) (lv_at hl 5 rfl) hi5 hL (by decide) hx2 dL_law_857 dL_law_858 dL_law_860 dL_law_861 dL_law_862 ?_
  refine lv_aload_n hx hb dL_law_863 rfl (lv_at hl 3 rfl) ?_
  refine pw_ci w (pw_runSW (As := [.ref (ad 0), .int (zI (t : Int)), .int (zI zi), .ref (ad 137)]) (rest := []) w ⟨hx, hb, hml, hown, hts⟩ (x_L_time2 l hsT D G ad N c hN hD hV (t := t) ht (zi := zi) hbzi hbad) (vx_cwSW 4 hts gL_law_L_time rfl rfl rfl (by decide +kernel) ⟨Nat.le_of_ble_eq_true rfl, Nat.le_of_ble_eq_true rfl⟩) rfl hl.1 rfl (lv_room (Nat.le_of_ble_eq_true rfl)) dL_law_864 ⟨by show cells + 1 ≤ 821725; omega, by show slots + 6 ≤ 6630930; omega⟩) (fun r_ c1 H locs hp w => ?_)
  have w : PW D G A s ad N c1 H locs := w
  obtain ⟨hv1, hD1, fr1⟩ := hp
  subst hv1
  have hM1 := hM.out (ad1 := ad) (c1 := c1) (fun _ _ => rfl) (fun q h1 h2 => fr1 q (by omega))
  have hB1 : ∃ v, dbA G (c1 138) v := hB.imp (fun v h => dbA.fr (fr1 138 (by omega)) h)
  have hO1 := lnA.fr (fr1 137 (by omega)) hO
  refine lv_istore (lv' := [(6, .int (zI 2)), (0, .ref b), (1, .ref (ad 0)), (2, .ref (ad 120)), (3, .ref (ad 137)), (4, .ref (ad 138)), (5, .int (zI ((5 * ri : Nat) : Int)))]) hx hb dL_law_867 hl (by decide) rfl (fun ls hl => ?_)
  refine lv_aload_n hx hb dL_law_869 rfl (lv_at hl 3 rfl) ?_
  refine lw_arg (j := 1) (z := (t : Int)) 876 rfl C w (lv_at hl 1 rfl) (lv_at hl 6 rfl) hi5 hL (by decide) hx1 dL_law_870 dL_law_871 dL_law_873 dL_law_874 dL_law_875 ?_
  refine lw_arg (j := 2) (z := zi) 882 rfl C w (lv_at hl 1 rfl) (lv_at hl 6 rfl) hi5 hL (by decide) hx2 dL_law_876 dL_law_877 dL_law_879 dL_law_880 dL_law_881 ?_
  refine pw_ci w (pw_runV (r := 120) (ci := 8) (As := [.int (zI (t : Int)), .int (zI zi)]) (rest := []) w ⟨hx, hb, hml, hown, hts⟩ (c_X8_time_bad2 l D G ad N c1 (by omega) hM1 hV ht hbzi hbad) (cwV 2 hts gL_law_X8_time rfl rfl rfl (by decide +kernel) ⟨Nat.le_of_ble_eq_true rfl, Nat.le_of_ble_eq_true rfl⟩) (by omega) hM1.1.choose_spec rfl rfl hl.1 rfl (lv_room (Nat.le_of_ble_eq_true rfl)) dL_law_882 ⟨by show cells + 1 + 0 ≤ 821725; omega, by show slots + 6 + 0 ≤ 6630930; omega⟩) (fun r2 c2 H locs hp w => ?_)
  have w : PW D G A s ad N c2 H locs := w
  obtain ⟨hv2, hM2, fr2⟩ := hp
  subst hv2
  refine lv_istore (lv' := [(7, .int (zI 0)), (6, .int (zI 2)), (0, .ref b), (1, .ref (ad 0)), (2, .ref (ad 120)), (3, .ref (ad 137)), (4, .ref (ad 138)), (5, .int (zI ((5 * ri : Nat) : Int)))]) hx hb dL_law_885 hl (by decide) rfl (fun ls hl => ?_)
  have hD2 := hD1.fr (fun q hq => fr2 q (by omega))
  exact lw_tailI (q1 := 898) (q2 := 915) (q3 := 903) C hnx w hNe hD2 hM2 hV ⟨_, lnA.fr (fr2 137 (by omega)) hO1, fun h => absurd h (by decide)⟩ (hB1.imp (fun v h => dbA.fr (fr2 138 (by omega)) h)) ⟨by decide, by decide⟩ (by omega) (by omega) (by omega) (lv_at hl 4 rfl) (lv_at hl 5 rfl) (lv_at hl 1 rfl) (lv_at hl 0 rfl) (lv_sub hl [2, 3, 4, 5, 6, 7] rfl) dL_law_887 dL_law_888 dL_law_891 dL_law_893 rfl dL_law_898 dL_law_900 (by decide) rfl dL_law_903 dL_law_904 dL_law_905 dL_law_906 dL_law_908 dL_law_909 dL_law_910 dL_law_915 (by decide)

set_option maxHeartbeats 1000000 in
set_option maxRecDepth 100000 in
theorem law_x_time3 (C : LX p l s m args k A b L xs) (hnx : NXT p l e s m args below meth k Q D G A b ri) (w : PW D G A s ad N c H locs) (hW : LWs G ad N c th lim no dn gn gg dg nn pt ln wi) (hl : lv_has ls 8 (lawLs ad b ri)) (hcs : cells ≤ 300 + 10 * ri) (hss : slots ≤ 9000 + 40 * ri) (hi5 : 5 * ri + 5 ≤ L) (hL : L ≤ 2560) {t i : Nat} (ht : t < 4) (hi : i < nn t) (hlt : ¬ (lessOf (Rr (cwT lim no gn gg nn pt ln wi t) (nn t - 1) 0)) < 1000000)  (hx1 : xs (5 * ri + 1) = zI (t : Int)) (hx2 : xs (5 * ri + 2) = zI (i : Int)) : W p l e room_1 s m args below meth k H locs cells slots Q (F0 m 850 ls []) := by
  obtain ⟨hx, hb, hts, hown, hml, hX, hbl, hbA, hsT⟩ := id C
  obtain ⟨hNe, hD, hM, hV, ⟨v0, hO⟩, hB⟩ := hW
  have hN : 139 + 2 * no ≤ N := by omega
  obtain ⟨hlim, hOV, hdn4, hdgv, hUV⟩ := id hV
  have hWn : (TV lim no gn gg (nn t) (pt t) (ln t) (wi t)).2.1 = 0 := by
    have h1 := (TV_bd (lim := lim) hOV (hUV t ht)).2.2.1
    have h2 := mt (T_pos (lim := lim) (wi := wi) hOV hUV ht).mp (by rw [← T_least hOV hUV ht]; exact hlt)
    omega
  refine lv_aload_n hx hb dL_law_850 rfl (lv_at hl 1 rfl) ?_
  refine lw_arg (j := 1) (z := (t : Int)) 857 rfl C w (lv_at hl 0 rfl) (lv_at hl 5 rfl) hi5 hL (by decide) hx1 dL_law_851 dL_law_852 dL_law_854 dL_law_855 dL_law_856 ?_
  refine lw_arg (j := 2) (z := (i : Int)) 863 rfl C w (lv_at hl 0 rfl) (lv_at hl 5 rfl) hi5 hL (by decide) hx2 dL_law_857 dL_law_858 dL_law_860 dL_law_861 dL_law_862 ?_
  refine lv_aload_n hx hb dL_law_863 rfl (lv_at hl 3 rfl) ?_
  refine pw_ci w (pw_runSW (As := [.ref (ad 0), .int (zI (t : Int)), .int (zI (i : Int)), .ref (ad 137)]) (rest := []) w ⟨hx, hb, hml, hown, hts⟩ (x_L_time3 l hsT D G ad N c hN hD hV (t := t) (i := i) ht hi hlt) (vx_cwSW 4 hts gL_law_L_time rfl rfl rfl (by decide +kernel) ⟨Nat.le_of_ble_eq_true rfl, Nat.le_of_ble_eq_true rfl⟩) rfl hl.1 rfl (lv_room (Nat.le_of_ble_eq_true rfl)) dL_law_864 ⟨by show cells + 1 ≤ 821725; omega, by show slots + 6 ≤ 6630930; omega⟩) (fun r_ c1 H locs hp w => ?_)
  have w : PW D G A s ad N c1 H locs := w
  obtain ⟨hv1, hD1, fr1⟩ := hp
  subst hv1
  have hM1 := hM.out (ad1 := ad) (c1 := c1) (fun _ _ => rfl) (fun q h1 h2 => fr1 q (by omega))
  have hB1 : ∃ v, dbA G (c1 138) v := hB.imp (fun v h => dbA.fr (fr1 138 (by omega)) h)
  have hO1 := lnA.fr (fr1 137 (by omega)) hO
  refine lv_istore (lv' := [(6, .int (zI 3)), (0, .ref b), (1, .ref (ad 0)), (2, .ref (ad 120)), (3, .ref (ad 137)), (4, .ref (ad 138)), (5, .int (zI ((5 * ri : Nat) : Int)))]) hx hb dL_law_867 hl (by decide) rfl (fun ls hl => ?_)
  refine lv_aload_n hx hb dL_law_869 rfl (lv_at hl 3 rfl) ?_
  refine lw_arg (j := 1) (z := (t : Int)) 876 rfl C w (lv_at hl 1 rfl) (lv_at hl 6 rfl) hi5 hL (by decide) hx1 dL_law_870 dL_law_871 dL_law_873 dL_law_874 dL_law_875 ?_
  refine lw_arg (j := 2) (z := (i : Int)) 882 rfl C w (lv_at hl 1 rfl) (lv_at hl 6 rfl) hi5 hL (by decide) hx2 dL_law_876 dL_law_877 dL_law_879 dL_law_880 dL_law_881 ?_
  refine pw_ci w (pw_runV (r := 120) (ci := 8) (As := [.int (zI (t : Int)), .int (zI (i : Int))]) (rest := []) w ⟨hx, hb, hml, hown, hts⟩ (c_X8_time_bad3 l D G ad N c1 (by omega) hM1 hV ht hi hWn) (cwV 2 hts gL_law_X8_time rfl rfl rfl (by decide +kernel) ⟨Nat.le_of_ble_eq_true rfl, Nat.le_of_ble_eq_true rfl⟩) (by omega) hM1.1.choose_spec rfl rfl hl.1 rfl (lv_room (Nat.le_of_ble_eq_true rfl)) dL_law_882 ⟨by show cells + 1 + 0 ≤ 821725; omega, by show slots + 6 + 0 ≤ 6630930; omega⟩) (fun r2 c2 H locs hp w => ?_)
  have w : PW D G A s ad N c2 H locs := w
  obtain ⟨hv2, hM2, fr2⟩ := hp
  subst hv2
  refine lv_istore (lv' := [(7, .int (zI 0)), (6, .int (zI 3)), (0, .ref b), (1, .ref (ad 0)), (2, .ref (ad 120)), (3, .ref (ad 137)), (4, .ref (ad 138)), (5, .int (zI ((5 * ri : Nat) : Int)))]) hx hb dL_law_885 hl (by decide) rfl (fun ls hl => ?_)
  have hD2 := hD1.fr (fun q hq => fr2 q (by omega))
  exact lw_tailI (q1 := 898) (q2 := 915) (q3 := 903) C hnx w hNe hD2 hM2 hV ⟨_, lnA.fr (fr2 137 (by omega)) hO1, fun h => absurd h (by decide)⟩ (hB1.imp (fun v h => dbA.fr (fr2 138 (by omega)) h)) ⟨by decide, by decide⟩ (by omega) (by omega) (by omega) (lv_at hl 4 rfl) (lv_at hl 5 rfl) (lv_at hl 1 rfl) (lv_at hl 0 rfl) (lv_sub hl [2, 3, 4, 5, 6, 7] rfl) dL_law_887 dL_law_888 dL_law_891 dL_law_893 rfl dL_law_898 dL_law_900 (by decide) rfl dL_law_903 dL_law_904 dL_law_905 dL_law_906 dL_law_908 dL_law_909 dL_law_910 dL_law_915 (by decide)

end LC2
