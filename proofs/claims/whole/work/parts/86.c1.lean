section LC1
variable {p : Program} {l : Launch} {e : Env} {s : State} {m : MethodId} {args : Array Value} {below : List Frame} {meth : Method} {k : Code} {H : Heap} {locs : List Loc} {cells slots : Nat} {Q : State → Prop} {ls : Array Slot} {D : va_G} {G : Nat → ClassId} {A : Nat → Prop} {ad : Nat → Nat} {N : Nat} {c : Nat → va_E} {b L ri : Nat} {xs : Nat → Int32}
variable {th lim : Int} {no dn : Nat} {gn : Nat → Nat} {gg : Nat → Nat → Nat} {dg nn : Nat → Nat} {pt ln : Nat → Nat → Nat} {wi : Nat → Nat → Int}
set_option maxHeartbeats 1000000 in
set_option maxRecDepth 100000 in
theorem law_c_fits (C : LX p l s m args k A b L xs) (hnx : NXT p l e s m args below meth k Q D G A b ri) (w : PW D G A s ad N c H locs) (hW : LWs G ad N c th lim no dn gn gg dg nn pt ln wi) (hl : lv_has ls 8 (lawLs ad b ri)) (hcs : cells ≤ 300 + 10 * ri) (hss : slots ≤ 9000 + 40 * ri) (hi5 : 5 * ri + 5 ≤ L) (hL : L ≤ 2560) {o x mm y : Nat} (ho : o < no) (hx9 : x < 9) (hmm : 1 ≤ mm ∧ mm ≤ 32) (hy9 : y < 9)  (hx1 : xs (5 * ri + 1) = zI (o : Int)) (hx2 : xs (5 * ri + 2) = zI (x : Int)) (hx3 : xs (5 * ri + 3) = zI (mm : Int)) (hx4 : xs (5 * ri + 4) = zI (y : Int)) : W p l e room_1 s m args below meth k H locs cells slots Q (F0 m 456 ls []) := by
  obtain ⟨hx, hb, hts, hown, hml, hX, hbl, hbA, hsT⟩ := id C
  obtain ⟨hNe, hD, hM, hV, ⟨v0, hO⟩, hB⟩ := hW
  have hN : 139 + 2 * no ≤ N := by omega
  obtain ⟨hlim, hOV, hdn4, hdgv, hUV⟩ := id hV
  refine lv_aload_n hx hb dL_law_456 rfl (lv_at hl 1 rfl) ?_
  refine lw_arg (j := 1) (z := (o : Int)) 463 rfl C w (lv_at hl 0 rfl) (lv_at hl 5 rfl) hi5 hL (by decide) hx1 dL_law_457 dL_law_458 dL_law_460 dL_law_461 dL_law_462 ?_
  refine lw_arg (j := 2) (z := (x : Int)) 469 rfl C w (lv_at hl 0 rfl) (lv_at hl 5 rfl) hi5 hL (by decide) hx2 dL_law_463 dL_law_464 dL_law_466 dL_law_467 dL_law_468 ?_
  refine lw_arg (j := 3) (z := (mm : Int)) 475 rfl C w (lv_at hl 0 rfl) (lv_at hl 5 rfl) hi5 hL (by decide) hx3 dL_law_469 dL_law_470 dL_law_472 dL_law_473 dL_law_474 ?_
  refine lw_arg (j := 4) (z := (y : Int)) 481 rfl C w (lv_at hl 0 rfl) (lv_at hl 5 rfl) hi5 hL (by decide) hx4 dL_law_475 dL_law_476 dL_law_478 dL_law_479 dL_law_480 ?_
  refine lv_aload_n hx hb dL_law_481 rfl (lv_at hl 3 rfl) ?_
  refine pw_ci w (pw_runSW (As := [.ref (ad 0), .int (zI (o : Int)), .int (zI (x : Int)), .int (zI (mm : Int)), .int (zI (y : Int)), .ref (ad 137)]) (rest := []) w ⟨hx, hb, hml, hown, hts⟩ (c_L_fits l D G ad N c hN hD hV (o := o) (x := x) (mm := mm) (y := y) ho hx9 hmm hy9 hO) (vx_cwSW 6 hts gL_law_L_fits rfl rfl rfl (by decide +kernel) ⟨Nat.le_of_ble_eq_true rfl, Nat.le_of_ble_eq_true rfl⟩) rfl hl.1 rfl (lv_room (Nat.le_of_ble_eq_true rfl)) dL_law_482 ⟨by show cells + 1 ≤ 821725; omega, by show slots + 6 ≤ 6630930; omega⟩) (fun r_ c1 H locs hp w => ?_)
  have w : PW D G A s ad N c1 H locs := w
  obtain ⟨hv1, hO1, hD1, fr1⟩ := hp
  subst hv1
  have hM1 := hM.out (ad1 := ad) (c1 := c1) (fun _ _ => rfl) (fun q h1 h2 => fr1 q (by omega))
  have hB1 : ∃ v, dbA G (c1 138) v := hB.imp (fun v h => dbA.fr (fr1 138 (by omega)) h)
  refine lv_istore (lv' := [(6, .int (zI 0)), (0, .ref b), (1, .ref (ad 0)), (2, .ref (ad 120)), (3, .ref (ad 137)), (4, .ref (ad 138)), (5, .int (zI ((5 * ri : Nat) : Int)))]) hx hb dL_law_485 hl (by decide) rfl (fun ls hl => ?_)
  refine lv_aload_n hx hb dL_law_487 rfl (lv_at hl 3 rfl) ?_
  refine lw_arg (j := 1) (z := (((o + 1 : Nat) : Int) - 1)) 494 rfl C w (lv_at hl 1 rfl) (lv_at hl 6 rfl) hi5 hL (by decide) (hx1.trans (congrArg zI (by omega))) dL_law_488 dL_law_489 dL_law_491 dL_law_492 dL_law_493 ?_
  refine lw_arg (j := 2) (z := (x : Int)) 500 rfl C w (lv_at hl 1 rfl) (lv_at hl 6 rfl) hi5 hL (by decide) hx2 dL_law_494 dL_law_495 dL_law_497 dL_law_498 dL_law_499 ?_
  refine lw_arg (j := 3) (z := (mm : Int)) 506 rfl C w (lv_at hl 1 rfl) (lv_at hl 6 rfl) hi5 hL (by decide) hx3 dL_law_500 dL_law_501 dL_law_503 dL_law_504 dL_law_505 ?_
  refine lw_arg (j := 4) (z := (y : Int)) 512 rfl C w (lv_at hl 1 rfl) (lv_at hl 6 rfl) hi5 hL (by decide) hx4 dL_law_506 dL_law_507 dL_law_509 dL_law_510 dL_law_511 ?_
  refine pw_ci w (pw_runV (r := 120) (ci := 8) (As := [.int (zI (((o + 1 : Nat) : Int) - 1)), .int (zI (x : Int)), .int (zI (mm : Int)), .int (zI (y : Int))]) (rest := []) w ⟨hx, hb, hml, hown, hts⟩ (c_X8_fits_ok l D G ad N c1 (by omega) hM1 hV (o := o + 1) ⟨by omega, by omega⟩ hx9 hmm hy9) (cwV 4 hts gL_law_X8_fits rfl rfl rfl (by decide +kernel) ⟨Nat.le_of_ble_eq_true rfl, Nat.le_of_ble_eq_true rfl⟩) (by omega) hM1.1.choose_spec rfl rfl hl.1 rfl (lv_room (Nat.le_of_ble_eq_true rfl)) dL_law_512 ⟨by show cells + 1 + 0 ≤ 821725; omega, by show slots + 6 + 0 ≤ 6630930; omega⟩) (fun r2 c2 H locs hp w => ?_)
  have w : PW D G A s ad N c2 H locs := w
  obtain ⟨hv2, hM2, fr2⟩ := hp
  subst hv2
  refine lv_istore (lv' := [(7, .int (zI (if bw lim gn gg x mm y (o + 1) < 1000000 then 1 else 0))), (6, .int (zI 0)), (0, .ref b), (1, .ref (ad 0)), (2, .ref (ad 120)), (3, .ref (ad 137)), (4, .ref (ad 138)), (5, .int (zI ((5 * ri : Nat) : Int)))]) hx hb dL_law_515 hl (by decide) rfl (fun ls hl => ?_)
  have hD2 := hD1.fr (fun q hq => fr2 q (by omega))
  exact lw_tailZ (q1 := 528) (q2 := 552) (q3 := 533) (q4 := 541) (q5 := 545) (q6 := 546) C hnx w hNe hD2 hM2 hV ⟨_, lnA.fr (fr2 137 (by omega)) hO1, fun _ => (congrArg (fun z => (zI z).toInt64) (T_fits hOV hx9 hy9 ho))⟩ (hB1.imp (fun v h => dbA.fr (fr2 138 (by omega)) h)) (by split <;> first | exact Or.inr rfl | exact Or.inl rfl) ⟨by decide, by decide⟩ (by omega) (by omega) (by omega) (lv_at hl 4 rfl) (lv_at hl 5 rfl) (lv_at hl 1 rfl) (lv_at hl 0 rfl) (lv_sub hl [2, 3, 4, 5, 6, 7] rfl) dL_law_517 dL_law_518 dL_law_521 dL_law_523 rfl dL_law_528 dL_law_530 (by decide) rfl dL_law_533 dL_law_534 dL_law_535 dL_law_536 dL_law_538 rfl rfl rfl dL_law_541 dL_law_542 dL_law_545 dL_law_546 dL_law_547 dL_law_552 (by decide)

set_option maxHeartbeats 1000000 in
set_option maxRecDepth 100000 in
theorem law_x_fits1 (C : LX p l s m args k A b L xs) (hnx : NXT p l e s m args below meth k Q D G A b ri) (w : PW D G A s ad N c H locs) (hW : LWs G ad N c th lim no dn gn gg dg nn pt ln wi) (hl : lv_has ls 8 (lawLs ad b ri)) (hcs : cells ≤ 300 + 10 * ri) (hss : slots ≤ 9000 + 40 * ri) (hi5 : 5 * ri + 5 ≤ L) (hL : L ≤ 2560) {zx zm zy : Int} {zo : Int} (hbzo : bnd zo) (hbad : ¬ (0 ≤ zo ∧ zo ≤ (no : Int) - 1)) (hbzx : bnd zx) (hbzm : bnd zm) (hbzy : bnd zy) (hx1 : xs (5 * ri + 1) = zI zo) (hx2 : xs (5 * ri + 2) = zI zx) (hx3 : xs (5 * ri + 3) = zI zm) (hx4 : xs (5 * ri + 4) = zI zy) : W p l e room_1 s m args below meth k H locs cells slots Q (F0 m 456 ls []) := by
  obtain ⟨hx, hb, hts, hown, hml, hX, hbl, hbA, hsT⟩ := id C
  obtain ⟨hNe, hD, hM, hV, ⟨v0, hO⟩, hB⟩ := hW
  have hN : 139 + 2 * no ≤ N := by omega
  obtain ⟨hlim, hOV, hdn4, hdgv, hUV⟩ := id hV
  refine lv_aload_n hx hb dL_law_456 rfl (lv_at hl 1 rfl) ?_
  refine lw_arg (j := 1) (z := zo) 463 rfl C w (lv_at hl 0 rfl) (lv_at hl 5 rfl) hi5 hL (by decide) hx1 dL_law_457 dL_law_458 dL_law_460 dL_law_461 dL_law_462 ?_
  refine lw_arg (j := 2) (z := zx) 469 rfl C w (lv_at hl 0 rfl) (lv_at hl 5 rfl) hi5 hL (by decide) hx2 dL_law_463 dL_law_464 dL_law_466 dL_law_467 dL_law_468 ?_
  refine lw_arg (j := 3) (z := zm) 475 rfl C w (lv_at hl 0 rfl) (lv_at hl 5 rfl) hi5 hL (by decide) hx3 dL_law_469 dL_law_470 dL_law_472 dL_law_473 dL_law_474 ?_
  refine lw_arg (j := 4) (z := zy) 481 rfl C w (lv_at hl 0 rfl) (lv_at hl 5 rfl) hi5 hL (by decide) hx4 dL_law_475 dL_law_476 dL_law_478 dL_law_479 dL_law_480 ?_
  refine lv_aload_n hx hb dL_law_481 rfl (lv_at hl 3 rfl) ?_
  refine pw_ci w (pw_runSW (As := [.ref (ad 0), .int (zI zo), .int (zI zx), .int (zI zm), .int (zI zy), .ref (ad 137)]) (rest := []) w ⟨hx, hb, hml, hown, hts⟩ (x_L_fits1 l hsT D G ad N c hN hD hV (zx := zx) (zm := zm) (zy := zy) (zo := zo) hbzo hbad) (vx_cwSW 6 hts gL_law_L_fits rfl rfl rfl (by decide +kernel) ⟨Nat.le_of_ble_eq_true rfl, Nat.le_of_ble_eq_true rfl⟩) rfl hl.1 rfl (lv_room (Nat.le_of_ble_eq_true rfl)) dL_law_482 ⟨by show cells + 1 ≤ 821725; omega, by show slots + 6 ≤ 6630930; omega⟩) (fun r_ c1 H locs hp w => ?_)
  have w : PW D G A s ad N c1 H locs := w
  obtain ⟨hv1, hD1, fr1⟩ := hp
  subst hv1
  have hM1 := hM.out (ad1 := ad) (c1 := c1) (fun _ _ => rfl) (fun q h1 h2 => fr1 q (by omega))
  have hB1 : ∃ v, dbA G (c1 138) v := hB.imp (fun v h => dbA.fr (fr1 138 (by omega)) h)
  have hO1 := lnA.fr (fr1 137 (by omega)) hO
  refine lv_istore (lv' := [(6, .int (zI 1)), (0, .ref b), (1, .ref (ad 0)), (2, .ref (ad 120)), (3, .ref (ad 137)), (4, .ref (ad 138)), (5, .int (zI ((5 * ri : Nat) : Int)))]) hx hb dL_law_485 hl (by decide) rfl (fun ls hl => ?_)
  refine lv_aload_n hx hb dL_law_487 rfl (lv_at hl 3 rfl) ?_
  refine lw_arg (j := 1) (z := zo) 494 rfl C w (lv_at hl 1 rfl) (lv_at hl 6 rfl) hi5 hL (by decide) hx1 dL_law_488 dL_law_489 dL_law_491 dL_law_492 dL_law_493 ?_
  refine lw_arg (j := 2) (z := zx) 500 rfl C w (lv_at hl 1 rfl) (lv_at hl 6 rfl) hi5 hL (by decide) hx2 dL_law_494 dL_law_495 dL_law_497 dL_law_498 dL_law_499 ?_
  refine lw_arg (j := 3) (z := zm) 506 rfl C w (lv_at hl 1 rfl) (lv_at hl 6 rfl) hi5 hL (by decide) hx3 dL_law_500 dL_law_501 dL_law_503 dL_law_504 dL_law_505 ?_
  refine lw_arg (j := 4) (z := zy) 512 rfl C w (lv_at hl 1 rfl) (lv_at hl 6 rfl) hi5 hL (by decide) hx4 dL_law_506 dL_law_507 dL_law_509 dL_law_510 dL_law_511 ?_
  refine pw_ci w (pw_runV (r := 120) (ci := 8) (As := [.int (zI zo), .int (zI zx), .int (zI zm), .int (zI zy)]) (rest := []) w ⟨hx, hb, hml, hown, hts⟩ (c_X8_fits_bad1 l D G ad N c1 (by omega) hM1 hV hbzo hbzx hbzm hbzy hbad) (cwV 4 hts gL_law_X8_fits rfl rfl rfl (by decide +kernel) ⟨Nat.le_of_ble_eq_true rfl, Nat.le_of_ble_eq_true rfl⟩) (by omega) hM1.1.choose_spec rfl rfl hl.1 rfl (lv_room (Nat.le_of_ble_eq_true rfl)) dL_law_512 ⟨by show cells + 1 + 0 ≤ 821725; omega, by show slots + 6 + 0 ≤ 6630930; omega⟩) (fun r2 c2 H locs hp w => ?_)
  have w : PW D G A s ad N c2 H locs := w
  obtain ⟨hv2, hM2, fr2⟩ := hp
  subst hv2
  refine lv_istore (lv' := [(7, .int (zI 0)), (6, .int (zI 1)), (0, .ref b), (1, .ref (ad 0)), (2, .ref (ad 120)), (3, .ref (ad 137)), (4, .ref (ad 138)), (5, .int (zI ((5 * ri : Nat) : Int)))]) hx hb dL_law_515 hl (by decide) rfl (fun ls hl => ?_)
  have hD2 := hD1.fr (fun q hq => fr2 q (by omega))
  exact lw_tailZ (q1 := 528) (q2 := 552) (q3 := 533) (q4 := 541) (q5 := 545) (q6 := 546) C hnx w hNe hD2 hM2 hV ⟨_, lnA.fr (fr2 137 (by omega)) hO1, fun h => absurd h (by decide)⟩ (hB1.imp (fun v h => dbA.fr (fr2 138 (by omega)) h)) (Or.inl rfl) ⟨by decide, by decide⟩ (by omega) (by omega) (by omega) (lv_at hl 4 rfl) (lv_at hl 5 rfl) (lv_at hl 1 rfl) (lv_at hl 0 rfl) (lv_sub hl [2, 3, 4, 5, 6, 7] rfl) dL_law_517 dL_law_518 dL_law_521 dL_law_523 rfl dL_law_528 dL_law_530 (by decide) rfl dL_law_533 dL_law_534 dL_law_535 dL_law_536 dL_law_538 rfl rfl rfl dL_law_541 dL_law_542 dL_law_545 dL_law_546 dL_law_547 dL_law_552 (by decide)

set_option maxHeartbeats 1000000 in
set_option maxRecDepth 100000 in
theorem law_x_fits2 (C : LX p l s m args k A b L xs) (hnx : NXT p l e s m args below meth k Q D G A b ri) (w : PW D G A s ad N c H locs) (hW : LWs G ad N c th lim no dn gn gg dg nn pt ln wi) (hl : lv_has ls 8 (lawLs ad b ri)) (hcs : cells ≤ 300 + 10 * ri) (hss : slots ≤ 9000 + 40 * ri) (hi5 : 5 * ri + 5 ≤ L) (hL : L ≤ 2560) {zo zx zm zy : Int} (hbzo : bnd zo) (hbzx : bnd zx) (hbzm : bnd zm) (hbzy : bnd zy) (hok : 0 ≤ zo ∧ zo ≤ (no : Int) - 1) (hbad : ¬ ((0 ≤ zx ∧ zx ≤ 8) ∧ (1 ≤ zm ∧ zm ≤ 32) ∧ 0 ≤ zy ∧ zy ≤ 8))  (hx1 : xs (5 * ri + 1) = zI zo) (hx2 : xs (5 * ri + 2) = zI zx) (hx3 : xs (5 * ri + 3) = zI zm) (hx4 : xs (5 * ri + 4) = zI zy) : W p l e room_1 s m args below meth k H locs cells slots Q (F0 m 456 ls []) := by
  obtain ⟨hx, hb, hts, hown, hml, hX, hbl, hbA, hsT⟩ := id C
  obtain ⟨hNe, hD, hM, hV, ⟨v0, hO⟩, hB⟩ := hW
  have hN : 139 + 2 * no ≤ N := by omega
  obtain ⟨hlim, hOV, hdn4, hdgv, hUV⟩ := id hV
  refine lv_aload_n hx hb dL_law_456 rfl (lv_at hl 1 rfl) ?_
  refine lw_arg (j := 1) (z := zo) 463 rfl C w (lv_at hl 0 rfl) (lv_at hl 5 rfl) hi5 hL (by decide) hx1 dL_law_457 dL_law_458 dL_law_460 dL_law_461 dL_law_462 ?_
  refine lw_arg (j := 2) (z := zx) 469 rfl C w (lv_at hl 0 rfl) (lv_at hl 5 rfl) hi5 hL (by decide) hx2 dL_law_463 dL_law_464 dL_law_466 dL_law_467 dL_law_468 ?_
  refine lw_arg (j := 3) (z := zm) 475 rfl C w (lv_at hl 0 rfl) (lv_at hl 5 rfl) hi5 hL (by decide) hx3 dL_law_469 dL_law_470 dL_law_472 dL_law_473 dL_law_474 ?_
  refine lw_arg (j := 4) (z := zy) 481 rfl C w (lv_at hl 0 rfl) (lv_at hl 5 rfl) hi5 hL (by decide) hx4 dL_law_475 dL_law_476 dL_law_478 dL_law_479 dL_law_480 ?_
  refine lv_aload_n hx hb dL_law_481 rfl (lv_at hl 3 rfl) ?_
  refine pw_ci w (pw_runSW (As := [.ref (ad 0), .int (zI zo), .int (zI zx), .int (zI zm), .int (zI zy), .ref (ad 137)]) (rest := []) w ⟨hx, hb, hml, hown, hts⟩ (x_L_fits2 l hsT D G ad N c hN hD hV (zo := zo) (zx := zx) (zm := zm) (zy := zy) hbzo hbzx hbzm hbzy hok hbad) (vx_cwSW 6 hts gL_law_L_fits rfl rfl rfl (by decide +kernel) ⟨Nat.le_of_ble_eq_true rfl, Nat.le_of_ble_eq_true rfl⟩) rfl hl.1 rfl (lv_room (Nat.le_of_ble_eq_true rfl)) dL_law_482 ⟨by show cells + 1 ≤ 821725; omega, by show slots + 6 ≤ 6630930; omega⟩) (fun r_ c1 H locs hp w => ?_)
  have w : PW D G A s ad N c1 H locs := w
  obtain ⟨hv1, hD1, fr1⟩ := hp
  subst hv1
  have hM1 := hM.out (ad1 := ad) (c1 := c1) (fun _ _ => rfl) (fun q h1 h2 => fr1 q (by omega))
  have hB1 : ∃ v, dbA G (c1 138) v := hB.imp (fun v h => dbA.fr (fr1 138 (by omega)) h)
  have hO1 := lnA.fr (fr1 137 (by omega)) hO
  refine lv_istore (lv' := [(6, .int (zI 2)), (0, .ref b), (1, .ref (ad 0)), (2, .ref (ad 120)), (3, .ref (ad 137)), (4, .ref (ad 138)), (5, .int (zI ((5 * ri : Nat) : Int)))]) hx hb dL_law_485 hl (by decide) rfl (fun ls hl => ?_)
  refine lv_aload_n hx hb dL_law_487 rfl (lv_at hl 3 rfl) ?_
  refine lw_arg (j := 1) (z := zo) 494 rfl C w (lv_at hl 1 rfl) (lv_at hl 6 rfl) hi5 hL (by decide) hx1 dL_law_488 dL_law_489 dL_law_491 dL_law_492 dL_law_493 ?_
  refine lw_arg (j := 2) (z := zx) 500 rfl C w (lv_at hl 1 rfl) (lv_at hl 6 rfl) hi5 hL (by decide) hx2 dL_law_494 dL_law_495 dL_law_497 dL_law_498 dL_law_499 ?_
  refine lw_arg (j := 3) (z := zm) 506 rfl C w (lv_at hl 1 rfl) (lv_at hl 6 rfl) hi5 hL (by decide) hx3 dL_law_500 dL_law_501 dL_law_503 dL_law_504 dL_law_505 ?_
  refine lw_arg (j := 4) (z := zy) 512 rfl C w (lv_at hl 1 rfl) (lv_at hl 6 rfl) hi5 hL (by decide) hx4 dL_law_506 dL_law_507 dL_law_509 dL_law_510 dL_law_511 ?_
  refine pw_ci w (pw_runV (r := 120) (ci := 8) (As := [.int (zI zo), .int (zI zx), .int (zI zm), .int (zI zy)]) (rest := []) w ⟨hx, hb, hml, hown, hts⟩ (c_X8_fits_bad2 l D G ad N c1 (by omega) hM1 hV hbzo hbzx hbzm hbzy hok hbad) (cwV 4 hts gL_law_X8_fits rfl rfl rfl (by decide +kernel) ⟨Nat.le_of_ble_eq_true rfl, Nat.le_of_ble_eq_true rfl⟩) (by omega) hM1.1.choose_spec rfl rfl hl.1 rfl (lv_room (Nat.le_of_ble_eq_true rfl)) dL_law_512 ⟨by show cells + 1 + 0 ≤ 821725; omega, by show slots + 6 + 0 ≤ 6630930; omega⟩) (fun r2 c2 H locs hp w => ?_)
  have w : PW D G A s ad N c2 H locs := w
  obtain ⟨hv2, hM2, fr2⟩ := hp
  subst hv2
  refine lv_istore (lv' := [(7, .int (zI 0)), (6, .int (zI 2)), (0, .ref b), (1, .ref (ad 0)), (2, .ref (ad 120)), (3, .ref (ad 137)), (4, .ref (ad 138)), (5, .int (zI ((5 * ri : Nat) : Int)))]) hx hb dL_law_515 hl (by decide) rfl (fun ls hl => ?_)
  have hD2 := hD1.fr (fun q hq => fr2 q (by omega))
  exact lw_tailZ (q1 := 528) (q2 := 552) (q3 := 533) (q4 := 541) (q5 := 545) (q6 := 546) C hnx w hNe hD2 hM2 hV ⟨_, lnA.fr (fr2 137 (by omega)) hO1, fun h => absurd h (by decide)⟩ (hB1.imp (fun v h => dbA.fr (fr2 138 (by omega)) h)) (Or.inl rfl) ⟨by decide, by decide⟩ (by omega) (by omega) (by omega) (lv_at hl 4 rfl) (lv_at hl 5 rfl) (lv_at hl 1 rfl) (lv_at hl 0 rfl) (lv_sub hl [2, 3, 4, 5, 6, 7] rfl) dL_law_517 dL_law_518 dL_law_521 dL_law_523 rfl dL_law_528 dL_law_530 (by decide) rfl dL_law_533 dL_law_534 dL_law_535 dL_law_536 dL_law_538 rfl rfl rfl dL_law_541 dL_law_542 dL_law_545 dL_law_546 dL_law_547 dL_law_552 (by decide)

set_option maxHeartbeats 1000000 in
set_option maxRecDepth 100000 in
theorem law_c_addNote (C : LX p l s m args k A b L xs) (hnx : NXT p l e s m args below meth k Q D G A b ri) (w : PW D G A s ad N c H locs) (hW : LWs G ad N c th lim no dn gn gg dg nn pt ln wi) (hl : lv_has ls 8 (lawLs ad b ri)) (hcs : cells ≤ 300 + 10 * ri) (hss : slots ≤ 9000 + 40 * ri) (hi5 : 5 * ri + 5 ≤ L) (hL : L ≤ 2560) {t x mm : Nat} (ht : t < 4) (hx9 : x < 9) (hmm : 1 ≤ mm ∧ mm ≤ 32) (hn10 : nn t < 10)  (hx1 : xs (5 * ri + 1) = zI (t : Int)) (hx2 : xs (5 * ri + 2) = zI (x : Int)) (hx3 : xs (5 * ri + 3) = zI (mm : Int)) : W p l e room_1 s m args below meth k H locs cells slots Q (F0 m 555 ls []) := by
  obtain ⟨hx, hb, hts, hown, hml, hX, hbl, hbA, hsT⟩ := id C
  obtain ⟨hNe, hD, hM, hV, ⟨v0, hO⟩, hB⟩ := hW
  have hN : 139 + 2 * no ≤ N := by omega
  obtain ⟨hlim, hOV, hdn4, hdgv, hUV⟩ := id hV
  refine lv_aload_n hx hb dL_law_555 rfl (lv_at hl 1 rfl) ?_
  refine lw_arg (j := 1) (z := (t : Int)) 562 rfl C w (lv_at hl 0 rfl) (lv_at hl 5 rfl) hi5 hL (by decide) hx1 dL_law_556 dL_law_557 dL_law_559 dL_law_560 dL_law_561 ?_
  refine lw_arg (j := 2) (z := (x : Int)) 568 rfl C w (lv_at hl 0 rfl) (lv_at hl 5 rfl) hi5 hL (by decide) hx2 dL_law_562 dL_law_563 dL_law_565 dL_law_566 dL_law_567 ?_
  refine lw_arg (j := 3) (z := (mm : Int)) 574 rfl C w (lv_at hl 0 rfl) (lv_at hl 5 rfl) hi5 hL (by decide) hx3 dL_law_568 dL_law_569 dL_law_571 dL_law_572 dL_law_573 ?_
  refine lv_aload_n hx hb dL_law_574 rfl (lv_at hl 3 rfl) ?_
  refine pw_ci w (pw_runSW (As := [.ref (ad 0), .int (zI (t : Int)), .int (zI (x : Int)), .int (zI (mm : Int)), .ref (ad 137)]) (rest := []) w ⟨hx, hb, hml, hown, hts⟩ (c_L_addNote l D G ad N c hN hD hV (t := t) (x := x) (mm := mm) ht hx9 hmm hn10 hO) (vx_cwSW 5 hts gL_law_L_addNote rfl rfl rfl (by decide +kernel) ⟨Nat.le_of_ble_eq_true rfl, Nat.le_of_ble_eq_true rfl⟩) rfl hl.1 rfl (lv_room (Nat.le_of_ble_eq_true rfl)) dL_law_575 ⟨by show cells + 1 ≤ 821725; omega, by show slots + 6 ≤ 6630930; omega⟩) (fun r_ c1 H locs hp w => ?_)
  have w : PW D G A s ad N c1 H locs := w
  obtain ⟨hv1, hO1, hD1, fr1⟩ := hp
  subst hv1
  have hM1 := hM.out (ad1 := ad) (c1 := c1) (fun _ _ => rfl) (fun q h1 h2 => fr1 q (by omega))
  have hB1 : ∃ v, dbA G (c1 138) v := hB.imp (fun v h => dbA.fr (fr1 138 (by omega)) h)
  refine lv_istore (lv' := [(6, .int (zI 0)), (0, .ref b), (1, .ref (ad 0)), (2, .ref (ad 120)), (3, .ref (ad 137)), (4, .ref (ad 138)), (5, .int (zI ((5 * ri : Nat) : Int)))]) hx hb dL_law_578 hl (by decide) rfl (fun ls hl => ?_)
  refine lv_aload_n hx hb dL_law_580 rfl (lv_at hl 3 rfl) ?_
  refine lw_arg (j := 1) (z := (t : Int)) 587 rfl C w (lv_at hl 1 rfl) (lv_at hl 6 rfl) hi5 hL (by decide) hx1 dL_law_581 dL_law_582 dL_law_584 dL_law_585 dL_law_586 ?_
  refine lw_arg (j := 2) (z := (x : Int)) 593 rfl C w (lv_at hl 1 rfl) (lv_at hl 6 rfl) hi5 hL (by decide) hx2 dL_law_587 dL_law_588 dL_law_590 dL_law_591 dL_law_592 ?_
  refine lw_arg (j := 3) (z := (mm : Int)) 599 rfl C w (lv_at hl 1 rfl) (lv_at hl 6 rfl) hi5 hL (by decide) hx3 dL_law_593 dL_law_594 dL_law_596 dL_law_597 dL_law_598 ?_
  refine pw_ci w (pw_runV (r := 120) (ci := 8) (As := [.int (zI (t : Int)), .int (zI (x : Int)), .int (zI (mm : Int))]) (rest := []) w ⟨hx, hb, hml, hown, hts⟩ (c_X8_addNote_ok l D G ad N c1 (by omega) hM1 hV ht hx9 hmm hn10) (cwV 3 hts gL_law_X8_addNote rfl rfl rfl (by decide +kernel) ⟨Nat.le_of_ble_eq_true rfl, Nat.le_of_ble_eq_true rfl⟩) (by omega) hM1.1.choose_spec rfl rfl hl.1 rfl (lv_room (Nat.le_of_ble_eq_true rfl)) dL_law_599 ⟨by show cells + 1 + 0 ≤ 821725; omega, by show slots + 6 + 0 ≤ 6630930; omega⟩) (fun r2 c2 H locs hp w => ?_)
  have w : PW D G A s ad N c2 H locs := w
  obtain ⟨hv2, hM2, fr2⟩ := hp
  subst hv2
  refine lv_istore (lv' := [(7, .int (zI ((nn t + 1 : Nat) : Int))), (6, .int (zI 0)), (0, .ref b), (1, .ref (ad 0)), (2, .ref (ad 120)), (3, .ref (ad 137)), (4, .ref (ad 138)), (5, .int (zI ((5 * ri : Nat) : Int)))]) hx hb dL_law_602 hl (by decide) rfl (fun ls hl => ?_)
  have hD2 := hD1.fr (fun q hq => fr2 q (by omega))
  exact lw_tailI (q1 := 615) (q2 := 632) (q3 := 620) C hnx w hNe hD2 hM2 (hV.add ht hx9 hmm hn10) ⟨_, lnA.fr (fr2 137 (by omega)) hO1, fun _ => rfl⟩ (hB1.imp (fun v h => dbA.fr (fr2 138 (by omega)) h)) ⟨by decide, by decide⟩ (by omega) (by omega) (by omega) (lv_at hl 4 rfl) (lv_at hl 5 rfl) (lv_at hl 1 rfl) (lv_at hl 0 rfl) (lv_sub hl [2, 3, 4, 5, 6, 7] rfl) dL_law_604 dL_law_605 dL_law_608 dL_law_610 rfl dL_law_615 dL_law_617 (by decide) rfl dL_law_620 dL_law_621 dL_law_622 dL_law_623 dL_law_625 dL_law_626 dL_law_627 dL_law_632 (by decide)

set_option maxHeartbeats 1000000 in
set_option maxRecDepth 100000 in
theorem law_x_addNote1 (C : LX p l s m args k A b L xs) (hnx : NXT p l e s m args below meth k Q D G A b ri) (w : PW D G A s ad N c H locs) (hW : LWs G ad N c th lim no dn gn gg dg nn pt ln wi) (hl : lv_has ls 8 (lawLs ad b ri)) (hcs : cells ≤ 300 + 10 * ri) (hss : slots ≤ 9000 + 40 * ri) (hi5 : 5 * ri + 5 ≤ L) (hL : L ≤ 2560) {zt zx zm : Int} (hbzt : bnd zt) (hbzx : bnd zx) (hbzm : bnd zm) (hbad : ¬ ((0 ≤ zt ∧ zt ≤ 3) ∧ (0 ≤ zx ∧ zx ≤ 8) ∧ 1 ≤ zm ∧ zm ≤ 32))  (hx1 : xs (5 * ri + 1) = zI zt) (hx2 : xs (5 * ri + 2) = zI zx) (hx3 : xs (5 * ri + 3) = zI zm) : W p l e room_1 s m args below meth k H locs cells slots Q (F0 m 555 ls []) := by
  obtain ⟨hx, hb, hts, hown, hml, hX, hbl, hbA, hsT⟩ := id C
  obtain ⟨hNe, hD, hM, hV, ⟨v0, hO⟩, hB⟩ := hW
  have hN : 139 + 2 * no ≤ N := by omega
  obtain ⟨hlim, hOV, hdn4, hdgv, hUV⟩ := id hV
  refine lv_aload_n hx hb dL_law_555 rfl (lv_at hl 1 rfl) ?_
  refine lw_arg (j := 1) (z := zt) 562 rfl C w (lv_at hl 0 rfl) (lv_at hl 5 rfl) hi5 hL (by decide) hx1 dL_law_556 dL_law_557 dL_law_559 dL_law_560 dL_law_561 ?_
  refine lw_arg (j := 2) (z := zx) 568 rfl C w (lv_at hl 0 rfl) (lv_at hl 5 rfl) hi5 hL (by decide) hx2 dL_law_562 dL_law_563 dL_law_565 dL_law_566 dL_law_567 ?_
  refine lw_arg (j := 3) (z := zm) 574 rfl C w (lv_at hl 0 rfl) (lv_at hl 5 rfl) hi5 hL (by decide) hx3 dL_law_568 dL_law_569 dL_law_571 dL_law_572 dL_law_573 ?_
  refine lv_aload_n hx hb dL_law_574 rfl (lv_at hl 3 rfl) ?_
  refine pw_ci w (pw_runSW (As := [.ref (ad 0), .int (zI zt), .int (zI zx), .int (zI zm), .ref (ad 137)]) (rest := []) w ⟨hx, hb, hml, hown, hts⟩ (x_L_addNote1 l hsT D G ad N c hN hD hV (zt := zt) (zx := zx) (zm := zm) hbzt hbzx hbzm hbad) (vx_cwSW 5 hts gL_law_L_addNote rfl rfl rfl (by decide +kernel) ⟨Nat.le_of_ble_eq_true rfl, Nat.le_of_ble_eq_true rfl⟩) rfl hl.1 rfl (lv_room (Nat.le_of_ble_eq_true rfl)) dL_law_575 ⟨by show cells + 1 ≤ 821725; omega, by show slots + 6 ≤ 6630930; omega⟩) (fun r_ c1 H locs hp w => ?_)
  have w : PW D G A s ad N c1 H locs := w
  obtain ⟨hv1, hD1, fr1⟩ := hp
  subst hv1
  have hM1 := hM.out (ad1 := ad) (c1 := c1) (fun _ _ => rfl) (fun q h1 h2 => fr1 q (by omega))
  have hB1 : ∃ v, dbA G (c1 138) v := hB.imp (fun v h => dbA.fr (fr1 138 (by omega)) h)
  have hO1 := lnA.fr (fr1 137 (by omega)) hO
  refine lv_istore (lv' := [(6, .int (zI 1)), (0, .ref b), (1, .ref (ad 0)), (2, .ref (ad 120)), (3, .ref (ad 137)), (4, .ref (ad 138)), (5, .int (zI ((5 * ri : Nat) : Int)))]) hx hb dL_law_578 hl (by decide) rfl (fun ls hl => ?_)
  refine lv_aload_n hx hb dL_law_580 rfl (lv_at hl 3 rfl) ?_
  refine lw_arg (j := 1) (z := zt) 587 rfl C w (lv_at hl 1 rfl) (lv_at hl 6 rfl) hi5 hL (by decide) hx1 dL_law_581 dL_law_582 dL_law_584 dL_law_585 dL_law_586 ?_
  refine lw_arg (j := 2) (z := zx) 593 rfl C w (lv_at hl 1 rfl) (lv_at hl 6 rfl) hi5 hL (by decide) hx2 dL_law_587 dL_law_588 dL_law_590 dL_law_591 dL_law_592 ?_
  refine lw_arg (j := 3) (z := zm) 599 rfl C w (lv_at hl 1 rfl) (lv_at hl 6 rfl) hi5 hL (by decide) hx3 dL_law_593 dL_law_594 dL_law_596 dL_law_597 dL_law_598 ?_
  refine pw_ci w (pw_runV (r := 120) (ci := 8) (As := [.int (zI zt), .int (zI zx), .int (zI zm)]) (rest := []) w ⟨hx, hb, hml, hown, hts⟩ (c_X8_addNote_bad1 l D G ad N c1 (by omega) hM1 hV hbzt hbzx hbzm hbad) (cwV 3 hts gL_law_X8_addNote rfl rfl rfl (by decide +kernel) ⟨Nat.le_of_ble_eq_true rfl, Nat.le_of_ble_eq_true rfl⟩) (by omega) hM1.1.choose_spec rfl rfl hl.1 rfl (lv_room (Nat.le_of_ble_eq_true rfl)) dL_law_599 ⟨by show cells + 1 + 0 ≤ 821725; omega, by show slots + 6 + 0 ≤ 6630930; omega⟩) (fun r2 c2 H locs hp w => ?_)
  have w : PW D G A s ad N c2 H locs := w
  obtain ⟨hv2, hM2, fr2⟩ := hp
  subst hv2
  refine lv_istore (lv' := [(7, .int (zI 0)), (6, .int (zI 1)), (0, .ref b), (1, .ref (ad 0)), (2, .ref (ad 120)), (3, .ref (ad 137)), (4, .ref (ad 138)), (5, .int (zI ((5 * ri : Nat) : Int)))]) hx hb dL_law_602 hl (by decide) rfl (fun ls hl => ?_)
  have hD2 := hD1.fr (fun q hq => fr2 q (by omega))
  exact lw_tailI (q1 := 615) (q2 := 632) (q3 := 620) C hnx w hNe hD2 hM2 hV ⟨_, lnA.fr (fr2 137 (by omega)) hO1, fun h => absurd h (by decide)⟩ (hB1.imp (fun v h => dbA.fr (fr2 138 (by omega)) h)) ⟨by decide, by decide⟩ (by omega) (by omega) (by omega) (lv_at hl 4 rfl) (lv_at hl 5 rfl) (lv_at hl 1 rfl) (lv_at hl 0 rfl) (lv_sub hl [2, 3, 4, 5, 6, 7] rfl) dL_law_604 dL_law_605 dL_law_608 dL_law_610 rfl dL_law_615 dL_law_617 (by decide) rfl dL_law_620 dL_law_621 dL_law_622 dL_law_623 dL_law_625 dL_law_626 dL_law_627 dL_law_632 (by decide)

set_option maxHeartbeats 1000000 in
set_option maxRecDepth 100000 in
theorem law_x_addNote2 (C : LX p l s m args k A b L xs) (hnx : NXT p l e s m args below meth k Q D G A b ri) (w : PW D G A s ad N c H locs) (hW : LWs G ad N c th lim no dn gn gg dg nn pt ln wi) (hl : lv_has ls 8 (lawLs ad b ri)) (hcs : cells ≤ 300 + 10 * ri) (hss : slots ≤ 9000 + 40 * ri) (hi5 : 5 * ri + 5 ≤ L) (hL : L ≤ 2560) {t x mm : Nat} (ht : t < 4) (hx9 : x < 9) (hmm : 1 ≤ mm ∧ mm ≤ 32) (hfull : nn t = 10)  (hx1 : xs (5 * ri + 1) = zI (t : Int)) (hx2 : xs (5 * ri + 2) = zI (x : Int)) (hx3 : xs (5 * ri + 3) = zI (mm : Int)) : W p l e room_1 s m args below meth k H locs cells slots Q (F0 m 555 ls []) := by
  obtain ⟨hx, hb, hts, hown, hml, hX, hbl, hbA, hsT⟩ := id C
  obtain ⟨hNe, hD, hM, hV, ⟨v0, hO⟩, hB⟩ := hW
  have hN : 139 + 2 * no ≤ N := by omega
  obtain ⟨hlim, hOV, hdn4, hdgv, hUV⟩ := id hV
  refine lv_aload_n hx hb dL_law_555 rfl (lv_at hl 1 rfl) ?_
  refine lw_arg (j := 1) (z := (t : Int)) 562 rfl C w (lv_at hl 0 rfl) (lv_at hl 5 rfl) hi5 hL (by decide) hx1 dL_law_556 dL_law_557 dL_law_559 dL_law_560 dL_law_561 ?_
  refine lw_arg (j := 2) (z := (x : Int)) 568 rfl C w (lv_at hl 0 rfl) (lv_at hl 5 rfl) hi5 hL (by decide) hx2 dL_law_562 dL_law_563 dL_law_565 dL_law_566 dL_law_567 ?_
  refine lw_arg (j := 3) (z := (mm : Int)) 574 rfl C w (lv_at hl 0 rfl) (lv_at hl 5 rfl) hi5 hL (by decide) hx3 dL_law_568 dL_law_569 dL_law_571 dL_law_572 dL_law_573 ?_
  refine lv_aload_n hx hb dL_law_574 rfl (lv_at hl 3 rfl) ?_
  refine pw_ci w (pw_runSW (As := [.ref (ad 0), .int (zI (t : Int)), .int (zI (x : Int)), .int (zI (mm : Int)), .ref (ad 137)]) (rest := []) w ⟨hx, hb, hml, hown, hts⟩ (x_L_addNote2 l hsT D G ad N c hN hD hV (t := t) (x := x) (mm := mm) ht hx9 hmm hfull) (vx_cwSW 5 hts gL_law_L_addNote rfl rfl rfl (by decide +kernel) ⟨Nat.le_of_ble_eq_true rfl, Nat.le_of_ble_eq_true rfl⟩) rfl hl.1 rfl (lv_room (Nat.le_of_ble_eq_true rfl)) dL_law_575 ⟨by show cells + 1 ≤ 821725; omega, by show slots + 6 ≤ 6630930; omega⟩) (fun r_ c1 H locs hp w => ?_)
  have w : PW D G A s ad N c1 H locs := w
  obtain ⟨hv1, hD1, fr1⟩ := hp
  subst hv1
  have hM1 := hM.out (ad1 := ad) (c1 := c1) (fun _ _ => rfl) (fun q h1 h2 => fr1 q (by omega))
  have hB1 : ∃ v, dbA G (c1 138) v := hB.imp (fun v h => dbA.fr (fr1 138 (by omega)) h)
  have hO1 := lnA.fr (fr1 137 (by omega)) hO
  refine lv_istore (lv' := [(6, .int (zI 2)), (0, .ref b), (1, .ref (ad 0)), (2, .ref (ad 120)), (3, .ref (ad 137)), (4, .ref (ad 138)), (5, .int (zI ((5 * ri : Nat) : Int)))]) hx hb dL_law_578 hl (by decide) rfl (fun ls hl => ?_)
  refine lv_aload_n hx hb dL_law_580 rfl (lv_at hl 3 rfl) ?_
  refine lw_arg (j := 1) (z := (t : Int)) 587 rfl C w (lv_at hl 1 rfl) (lv_at hl 6 rfl) hi5 hL (by decide) hx1 dL_law_581 dL_law_582 dL_law_584 dL_law_585 dL_law_586 ?_
  refine lw_arg (j := 2) (z := (x : Int)) 593 rfl C w (lv_at hl 1 rfl) (lv_at hl 6 rfl) hi5 hL (by decide) hx2 dL_law_587 dL_law_588 dL_law_590 dL_law_591 dL_law_592 ?_
  refine lw_arg (j := 3) (z := (mm : Int)) 599 rfl C w (lv_at hl 1 rfl) (lv_at hl 6 rfl) hi5 hL (by decide) hx3 dL_law_593 dL_law_594 dL_law_596 dL_law_597 dL_law_598 ?_
  refine pw_ci w (pw_runV (r := 120) (ci := 8) (As := [.int (zI (t : Int)), .int (zI (x : Int)), .int (zI (mm : Int))]) (rest := []) w ⟨hx, hb, hml, hown, hts⟩ (c_X8_addNote_bad2 l D G ad N c1 (by omega) hM1 hV ht hx9 hmm hfull) (cwV 3 hts gL_law_X8_addNote rfl rfl rfl (by decide +kernel) ⟨Nat.le_of_ble_eq_true rfl, Nat.le_of_ble_eq_true rfl⟩) (by omega) hM1.1.choose_spec rfl rfl hl.1 rfl (lv_room (Nat.le_of_ble_eq_true rfl)) dL_law_599 ⟨by show cells + 1 + 0 ≤ 821725; omega, by show slots + 6 + 0 ≤ 6630930; omega⟩) (fun r2 c2 H locs hp w => ?_)
  have w : PW D G A s ad N c2 H locs := w
  obtain ⟨hv2, hM2, fr2⟩ := hp
  subst hv2
  refine lv_istore (lv' := [(7, .int (zI 0)), (6, .int (zI 2)), (0, .ref b), (1, .ref (ad 0)), (2, .ref (ad 120)), (3, .ref (ad 137)), (4, .ref (ad 138)), (5, .int (zI ((5 * ri : Nat) : Int)))]) hx hb dL_law_602 hl (by decide) rfl (fun ls hl => ?_)
  have hD2 := hD1.fr (fun q hq => fr2 q (by omega))
  exact lw_tailI (q1 := 615) (q2 := 632) (q3 := 620) C hnx w hNe hD2 hM2 hV ⟨_, lnA.fr (fr2 137 (by omega)) hO1, fun h => absurd h (by decide)⟩ (hB1.imp (fun v h => dbA.fr (fr2 138 (by omega)) h)) ⟨by decide, by decide⟩ (by omega) (by omega) (by omega) (lv_at hl 4 rfl) (lv_at hl 5 rfl) (lv_at hl 1 rfl) (lv_at hl 0 rfl) (lv_sub hl [2, 3, 4, 5, 6, 7] rfl) dL_law_604 dL_law_605 dL_law_608 dL_law_610 rfl dL_law_615 dL_law_617 (by decide) rfl dL_law_620 dL_law_621 dL_law_622 dL_law_623 dL_law_625 dL_law_626 dL_law_627 dL_law_632 (by decide)

set_option maxHeartbeats 1000000 in
set_option maxRecDepth 100000 in
theorem law_c_removeNote (C : LX p l s m args k A b L xs) (hnx : NXT p l e s m args below meth k Q D G A b ri) (w : PW D G A s ad N c H locs) (hW : LWs G ad N c th lim no dn gn gg dg nn pt ln wi) (hl : lv_has ls 8 (lawLs ad b ri)) (hcs : cells ≤ 300 + 10 * ri) (hss : slots ≤ 9000 + 40 * ri) (hi5 : 5 * ri + 5 ≤ L) (hL : L ≤ 2560) {t : Nat} (ht : t < 4) (hn0 : 0 < nn t)  (hx1 : xs (5 * ri + 1) = zI (t : Int)) : W p l e room_1 s m args below meth k H locs cells slots Q (F0 m 635 ls []) := by
  obtain ⟨hx, hb, hts, hown, hml, hX, hbl, hbA, hsT⟩ := id C
  obtain ⟨hNe, hD, hM, hV, ⟨v0, hO⟩, hB⟩ := hW
  have hN : 139 + 2 * no ≤ N := by omega
  obtain ⟨hlim, hOV, hdn4, hdgv, hUV⟩ := id hV
  refine lv_aload_n hx hb dL_law_635 rfl (lv_at hl 1 rfl) ?_
  refine lw_arg (j := 1) (z := (t : Int)) 642 rfl C w (lv_at hl 0 rfl) (lv_at hl 5 rfl) hi5 hL (by decide) hx1 dL_law_636 dL_law_637 dL_law_639 dL_law_640 dL_law_641 ?_
  refine lv_aload_n hx hb dL_law_642 rfl (lv_at hl 3 rfl) ?_
  refine pw_ci w (pw_runSW (As := [.ref (ad 0), .int (zI (t : Int)), .ref (ad 137)]) (rest := []) w ⟨hx, hb, hml, hown, hts⟩ (c_L_removeNote l D G ad N c hN hD hV (t := t) ht hn0 hO) (vx_cwSW 3 hts gL_law_L_removeNote rfl rfl rfl (by decide +kernel) ⟨Nat.le_of_ble_eq_true rfl, Nat.le_of_ble_eq_true rfl⟩) rfl hl.1 rfl (lv_room (Nat.le_of_ble_eq_true rfl)) dL_law_643 ⟨by show cells + 1 ≤ 821725; omega, by show slots + 6 ≤ 6630930; omega⟩) (fun r_ c1 H locs hp w => ?_)
  have w : PW D G A s ad N c1 H locs := w
  obtain ⟨hv1, hO1, hD1, fr1⟩ := hp
  subst hv1
  have hM1 := hM.out (ad1 := ad) (c1 := c1) (fun _ _ => rfl) (fun q h1 h2 => fr1 q (by omega))
  have hB1 : ∃ v, dbA G (c1 138) v := hB.imp (fun v h => dbA.fr (fr1 138 (by omega)) h)
  refine lv_istore (lv' := [(6, .int (zI 0)), (0, .ref b), (1, .ref (ad 0)), (2, .ref (ad 120)), (3, .ref (ad 137)), (4, .ref (ad 138)), (5, .int (zI ((5 * ri : Nat) : Int)))]) hx hb dL_law_646 hl (by decide) rfl (fun ls hl => ?_)
  refine lv_aload_n hx hb dL_law_648 rfl (lv_at hl 3 rfl) ?_
  refine lw_arg (j := 1) (z := (t : Int)) 655 rfl C w (lv_at hl 1 rfl) (lv_at hl 6 rfl) hi5 hL (by decide) hx1 dL_law_649 dL_law_650 dL_law_652 dL_law_653 dL_law_654 ?_
  refine pw_ci w (pw_runV (r := 120) (ci := 8) (As := [.int (zI (t : Int))]) (rest := []) w ⟨hx, hb, hml, hown, hts⟩ (c_X8_removeNote_ok l D G ad N c1 (by omega) hM1 hV ht hn0) (cwV 1 hts gL_law_X8_removeNote rfl rfl rfl (by decide +kernel) ⟨Nat.le_of_ble_eq_true rfl, Nat.le_of_ble_eq_true rfl⟩) (by omega) hM1.1.choose_spec rfl rfl hl.1 rfl (lv_room (Nat.le_of_ble_eq_true rfl)) dL_law_655 ⟨by show cells + 1 + 0 ≤ 821725; omega, by show slots + 6 + 0 ≤ 6630930; omega⟩) (fun r2 c2 H locs hp w => ?_)
  have w : PW D G A s ad N c2 H locs := w
  obtain ⟨hv2, hM2, fr2⟩ := hp
  subst hv2
  refine lv_istore (lv' := [(7, .int (zI (pt t (nn t - 1) : Int))), (6, .int (zI 0)), (0, .ref b), (1, .ref (ad 0)), (2, .ref (ad 120)), (3, .ref (ad 137)), (4, .ref (ad 138)), (5, .int (zI ((5 * ri : Nat) : Int)))]) hx hb dL_law_658 hl (by decide) rfl (fun ls hl => ?_)
  have hD2 := hD1.fr (fun q hq => fr2 q (by omega))
  exact lw_tailI (q1 := 671) (q2 := 688) (q3 := 676) C hnx w hNe hD2 hM2 (hV.rem ht) ⟨_, lnA.fr (fr2 137 (by omega)) hO1, fun _ => rfl⟩ (hB1.imp (fun v h => dbA.fr (fr2 138 (by omega)) h)) ⟨by decide, by decide⟩ (by omega) (by omega) (by omega) (lv_at hl 4 rfl) (lv_at hl 5 rfl) (lv_at hl 1 rfl) (lv_at hl 0 rfl) (lv_sub hl [2, 3, 4, 5, 6, 7] rfl) dL_law_660 dL_law_661 dL_law_664 dL_law_666 rfl dL_law_671 dL_law_673 (by decide) rfl dL_law_676 dL_law_677 dL_law_678 dL_law_679 dL_law_681 dL_law_682 dL_law_683 dL_law_688 (by decide)

set_option maxHeartbeats 1000000 in
set_option maxRecDepth 100000 in
theorem law_x_removeNote1 (C : LX p l s m args k A b L xs) (hnx : NXT p l e s m args below meth k Q D G A b ri) (w : PW D G A s ad N c H locs) (hW : LWs G ad N c th lim no dn gn gg dg nn pt ln wi) (hl : lv_has ls 8 (lawLs ad b ri)) (hcs : cells ≤ 300 + 10 * ri) (hss : slots ≤ 9000 + 40 * ri) (hi5 : 5 * ri + 5 ≤ L) (hL : L ≤ 2560) {zt : Int} (hbzt : bnd zt) (hbad : ¬ (0 ≤ zt ∧ zt ≤ 3))  (hx1 : xs (5 * ri + 1) = zI zt) : W p l e room_1 s m args below meth k H locs cells slots Q (F0 m 635 ls []) := by
  obtain ⟨hx, hb, hts, hown, hml, hX, hbl, hbA, hsT⟩ := id C
  obtain ⟨hNe, hD, hM, hV, ⟨v0, hO⟩, hB⟩ := hW
  have hN : 139 + 2 * no ≤ N := by omega
  obtain ⟨hlim, hOV, hdn4, hdgv, hUV⟩ := id hV
  refine lv_aload_n hx hb dL_law_635 rfl (lv_at hl 1 rfl) ?_
  refine lw_arg (j := 1) (z := zt) 642 rfl C w (lv_at hl 0 rfl) (lv_at hl 5 rfl) hi5 hL (by decide) hx1 dL_law_636 dL_law_637 dL_law_639 dL_law_640 dL_law_641 ?_
  refine lv_aload_n hx hb dL_law_642 rfl (lv_at hl 3 rfl) ?_
  refine pw_ci w (pw_runSW (As := [.ref (ad 0), .int (zI zt), .ref (ad 137)]) (rest := []) w ⟨hx, hb, hml, hown, hts⟩ (x_L_removeNote1 l hsT D G ad N c hN hD hV (zt := zt) hbzt hbad) (vx_cwSW 3 hts gL_law_L_removeNote rfl rfl rfl (by decide +kernel) ⟨Nat.le_of_ble_eq_true rfl, Nat.le_of_ble_eq_true rfl⟩) rfl hl.1 rfl (lv_room (Nat.le_of_ble_eq_true rfl)) dL_law_643 ⟨by show cells + 1 ≤ 821725; omega, by show slots + 6 ≤ 6630930; omega⟩) (fun r_ c1 H locs hp w => ?_)
  have w : PW D G A s ad N c1 H locs := w
  obtain ⟨hv1, hD1, fr1⟩ := hp
  subst hv1
  have hM1 := hM.out (ad1 := ad) (c1 := c1) (fun _ _ => rfl) (fun q h1 h2 => fr1 q (by omega))
  have hB1 : ∃ v, dbA G (c1 138) v := hB.imp (fun v h => dbA.fr (fr1 138 (by omega)) h)
  have hO1 := lnA.fr (fr1 137 (by omega)) hO
  refine lv_istore (lv' := [(6, .int (zI 1)), (0, .ref b), (1, .ref (ad 0)), (2, .ref (ad 120)), (3, .ref (ad 137)), (4, .ref (ad 138)), (5, .int (zI ((5 * ri : Nat) : Int)))]) hx hb dL_law_646 hl (by decide) rfl (fun ls hl => ?_)
  refine lv_aload_n hx hb dL_law_648 rfl (lv_at hl 3 rfl) ?_
  refine lw_arg (j := 1) (z := zt) 655 rfl C w (lv_at hl 1 rfl) (lv_at hl 6 rfl) hi5 hL (by decide) hx1 dL_law_649 dL_law_650 dL_law_652 dL_law_653 dL_law_654 ?_
  refine pw_ci w (pw_runV (r := 120) (ci := 8) (As := [.int (zI zt)]) (rest := []) w ⟨hx, hb, hml, hown, hts⟩ (c_X8_removeNote_bad1 l D G ad N c1 (by omega) hM1 hV hbzt hbad) (cwV 1 hts gL_law_X8_removeNote rfl rfl rfl (by decide +kernel) ⟨Nat.le_of_ble_eq_true rfl, Nat.le_of_ble_eq_true rfl⟩) (by omega) hM1.1.choose_spec rfl rfl hl.1 rfl (lv_room (Nat.le_of_ble_eq_true rfl)) dL_law_655 ⟨by show cells + 1 + 0 ≤ 821725; omega, by show slots + 6 + 0 ≤ 6630930; omega⟩) (fun r2 c2 H locs hp w => ?_)
  have w : PW D G A s ad N c2 H locs := w
  obtain ⟨hv2, hM2, fr2⟩ := hp
  subst hv2
  refine lv_istore (lv' := [(7, .int (zI 0)), (6, .int (zI 1)), (0, .ref b), (1, .ref (ad 0)), (2, .ref (ad 120)), (3, .ref (ad 137)), (4, .ref (ad 138)), (5, .int (zI ((5 * ri : Nat) : Int)))]) hx hb dL_law_658 hl (by decide) rfl (fun ls hl => ?_)
  have hD2 := hD1.fr (fun q hq => fr2 q (by omega))
  exact lw_tailI (q1 := 671) (q2 := 688) (q3 := 676) C hnx w hNe hD2 hM2 hV ⟨_, lnA.fr (fr2 137 (by omega)) hO1, fun h => absurd h (by decide)⟩ (hB1.imp (fun v h => dbA.fr (fr2 138 (by omega)) h)) ⟨by decide, by decide⟩ (by omega) (by omega) (by omega) (lv_at hl 4 rfl) (lv_at hl 5 rfl) (lv_at hl 1 rfl) (lv_at hl 0 rfl) (lv_sub hl [2, 3, 4, 5, 6, 7] rfl) dL_law_660 dL_law_661 dL_law_664 dL_law_666 rfl dL_law_671 dL_law_673 (by decide) rfl dL_law_676 dL_law_677 dL_law_678 dL_law_679 dL_law_681 dL_law_682 dL_law_683 dL_law_688 (by decide)

set_option maxHeartbeats 1000000 in
set_option maxRecDepth 100000 in
theorem law_x_removeNote2 (C : LX p l s m args k A b L xs) (hnx : NXT p l e s m args below meth k Q D G A b ri) (w : PW D G A s ad N c H locs) (hW : LWs G ad N c th lim no dn gn gg dg nn pt ln wi) (hl : lv_has ls 8 (lawLs ad b ri)) (hcs : cells ≤ 300 + 10 * ri) (hss : slots ≤ 9000 + 40 * ri) (hi5 : 5 * ri + 5 ≤ L) (hL : L ≤ 2560) {t : Nat} (ht : t < 4) (hn0 : nn t = 0)  (hx1 : xs (5 * ri + 1) = zI (t : Int)) : W p l e room_1 s m args below meth k H locs cells slots Q (F0 m 635 ls []) := by
  obtain ⟨hx, hb, hts, hown, hml, hX, hbl, hbA, hsT⟩ := id C
  obtain ⟨hNe, hD, hM, hV, ⟨v0, hO⟩, hB⟩ := hW
  have hN : 139 + 2 * no ≤ N := by omega
  obtain ⟨hlim, hOV, hdn4, hdgv, hUV⟩ := id hV
  refine lv_aload_n hx hb dL_law_635 rfl (lv_at hl 1 rfl) ?_
  refine lw_arg (j := 1) (z := (t : Int)) 642 rfl C w (lv_at hl 0 rfl) (lv_at hl 5 rfl) hi5 hL (by decide) hx1 dL_law_636 dL_law_637 dL_law_639 dL_law_640 dL_law_641 ?_
  refine lv_aload_n hx hb dL_law_642 rfl (lv_at hl 3 rfl) ?_
  refine pw_ci w (pw_runSW (As := [.ref (ad 0), .int (zI (t : Int)), .ref (ad 137)]) (rest := []) w ⟨hx, hb, hml, hown, hts⟩ (x_L_removeNote2 l hsT D G ad N c hN hD hV (t := t) ht hn0) (vx_cwSW 3 hts gL_law_L_removeNote rfl rfl rfl (by decide +kernel) ⟨Nat.le_of_ble_eq_true rfl, Nat.le_of_ble_eq_true rfl⟩) rfl hl.1 rfl (lv_room (Nat.le_of_ble_eq_true rfl)) dL_law_643 ⟨by show cells + 1 ≤ 821725; omega, by show slots + 6 ≤ 6630930; omega⟩) (fun r_ c1 H locs hp w => ?_)
  have w : PW D G A s ad N c1 H locs := w
  obtain ⟨hv1, hD1, fr1⟩ := hp
  subst hv1
  have hM1 := hM.out (ad1 := ad) (c1 := c1) (fun _ _ => rfl) (fun q h1 h2 => fr1 q (by omega))
  have hB1 : ∃ v, dbA G (c1 138) v := hB.imp (fun v h => dbA.fr (fr1 138 (by omega)) h)
  have hO1 := lnA.fr (fr1 137 (by omega)) hO
  refine lv_istore (lv' := [(6, .int (zI 2)), (0, .ref b), (1, .ref (ad 0)), (2, .ref (ad 120)), (3, .ref (ad 137)), (4, .ref (ad 138)), (5, .int (zI ((5 * ri : Nat) : Int)))]) hx hb dL_law_646 hl (by decide) rfl (fun ls hl => ?_)
  refine lv_aload_n hx hb dL_law_648 rfl (lv_at hl 3 rfl) ?_
  refine lw_arg (j := 1) (z := (t : Int)) 655 rfl C w (lv_at hl 1 rfl) (lv_at hl 6 rfl) hi5 hL (by decide) hx1 dL_law_649 dL_law_650 dL_law_652 dL_law_653 dL_law_654 ?_
  refine pw_ci w (pw_runV (r := 120) (ci := 8) (As := [.int (zI (t : Int))]) (rest := []) w ⟨hx, hb, hml, hown, hts⟩ (c_X8_removeNote_bad2 l D G ad N c1 (by omega) hM1 hV ht hn0) (cwV 1 hts gL_law_X8_removeNote rfl rfl rfl (by decide +kernel) ⟨Nat.le_of_ble_eq_true rfl, Nat.le_of_ble_eq_true rfl⟩) (by omega) hM1.1.choose_spec rfl rfl hl.1 rfl (lv_room (Nat.le_of_ble_eq_true rfl)) dL_law_655 ⟨by show cells + 1 + 0 ≤ 821725; omega, by show slots + 6 + 0 ≤ 6630930; omega⟩) (fun r2 c2 H locs hp w => ?_)
  have w : PW D G A s ad N c2 H locs := w
  obtain ⟨hv2, hM2, fr2⟩ := hp
  subst hv2
  refine lv_istore (lv' := [(7, .int (zI 0)), (6, .int (zI 2)), (0, .ref b), (1, .ref (ad 0)), (2, .ref (ad 120)), (3, .ref (ad 137)), (4, .ref (ad 138)), (5, .int (zI ((5 * ri : Nat) : Int)))]) hx hb dL_law_658 hl (by decide) rfl (fun ls hl => ?_)
  have hD2 := hD1.fr (fun q hq => fr2 q (by omega))
  exact lw_tailI (q1 := 671) (q2 := 688) (q3 := 676) C hnx w hNe hD2 hM2 hV ⟨_, lnA.fr (fr2 137 (by omega)) hO1, fun h => absurd h (by decide)⟩ (hB1.imp (fun v h => dbA.fr (fr2 138 (by omega)) h)) ⟨by decide, by decide⟩ (by omega) (by omega) (by omega) (lv_at hl 4 rfl) (lv_at hl 5 rfl) (lv_at hl 1 rfl) (lv_at hl 0 rfl) (lv_sub hl [2, 3, 4, 5, 6, 7] rfl) dL_law_660 dL_law_661 dL_law_664 dL_law_666 rfl dL_law_671 dL_law_673 (by decide) rfl dL_law_676 dL_law_677 dL_law_678 dL_law_679 dL_law_681 dL_law_682 dL_law_683 dL_law_688 (by decide)

end LC1
