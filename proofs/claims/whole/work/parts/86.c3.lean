section LC3
variable {p : Program} {l : Launch} {e : Env} {s : State} {m : MethodId} {args : Array Value} {below : List Frame} {meth : Method} {k : Code} {H : Heap} {locs : List Loc} {cells slots : Nat} {Q : State → Prop} {ls : Array Slot} {D : va_G} {G : Nat → ClassId} {A : Nat → Prop} {ad : Nat → Nat} {N : Nat} {c : Nat → va_E} {b L ri : Nat} {xs : Nat → Int32}
variable {th lim : Int} {no dn : Nat} {gn : Nat → Nat} {gg : Nat → Nat → Nat} {dg nn : Nat → Nat} {pt ln : Nat → Nat → Nat} {wi : Nat → Nat → Int}
set_option maxHeartbeats 1000000 in
set_option maxRecDepth 100000 in
theorem law_c_fitting (C : LX p l s m args k A b L xs) (hnx : NXT p l e s m args below meth k Q D G A b ri) (w : PW D G A s ad N c H locs) (hW : LWs G ad N c th lim no dn gn gg dg nn pt ln wi) (hl : lv_has ls 8 (lawLs ad b ri)) (hcs : cells ≤ 300 + 10 * ri) (hss : slots ≤ 9000 + 40 * ri) (hi5 : 5 * ri + 5 ≤ L) (hL : L ≤ 2560) {t i : Nat} (ht : t < 4) (hi : i + 1 < nn t)  (hx1 : xs (5 * ri + 1) = zI (t : Int)) (hx2 : xs (5 * ri + 2) = zI (i : Int)) : W p l e room_1 s m args below meth k H locs cells slots Q (F0 m 918 ls []) := by
  obtain ⟨hx, hb, hts, hown, hml, hX, hbl, hbA, hsT⟩ := id C
  obtain ⟨hNe, hD, hM, hV, ⟨v0, hO⟩, hB⟩ := hW
  have hN : 139 + 2 * no ≤ N := by omega
  obtain ⟨hlim, hOV, hdn4, hdgv, hUV⟩ := id hV
  refine lv_aload_n hx hb dL_law_918 rfl (lv_at hl 1 rfl) ?_
  refine lw_arg (j := 1) (z := (t : Int)) 925 rfl C w (lv_at hl 0 rfl) (lv_at hl 5 rfl) hi5 hL (by decide) hx1 dL_law_919 dL_law_920 dL_law_922 dL_law_923 dL_law_924 ?_
  refine lw_arg (j := 2) (z := (i : Int)) 931 rfl C w (lv_at hl 0 rfl) (lv_at hl 5 rfl) hi5 hL (by decide) hx2 dL_law_925 dL_law_926 dL_law_928 dL_law_929 dL_law_930 ?_
  refine lv_aload_n hx hb dL_law_931 rfl (lv_at hl 3 rfl) ?_
  refine pw_ci w (pw_runSW (As := [.ref (ad 0), .int (zI (t : Int)), .int (zI (i : Int)), .ref (ad 137)]) (rest := []) w ⟨hx, hb, hml, hown, hts⟩ (c_L_fitting l D G ad N c hN hD hV (t := t) (i := i) ht hi hO) (vx_cwSW 4 hts gL_law_L_fitting rfl rfl rfl (by decide +kernel) ⟨Nat.le_of_ble_eq_true rfl, Nat.le_of_ble_eq_true rfl⟩) rfl hl.1 rfl (lv_room (Nat.le_of_ble_eq_true rfl)) dL_law_932 ⟨by show cells + 1 ≤ 821725; omega, by show slots + 6 ≤ 6630930; omega⟩) (fun r_ c1 H locs hp w => ?_)
  have w : PW D G A s ad N c1 H locs := w
  obtain ⟨hv1, hO1, hD1, fr1⟩ := hp
  subst hv1
  have hM1 := hM.out (ad1 := ad) (c1 := c1) (fun _ _ => rfl) (fun q h1 h2 => fr1 q (by omega))
  have hB1 : ∃ v, dbA G (c1 138) v := hB.imp (fun v h => dbA.fr (fr1 138 (by omega)) h)
  refine lv_istore (lv' := [(6, .int (zI 0)), (0, .ref b), (1, .ref (ad 0)), (2, .ref (ad 120)), (3, .ref (ad 137)), (4, .ref (ad 138)), (5, .int (zI ((5 * ri : Nat) : Int)))]) hx hb dL_law_935 hl (by decide) rfl (fun ls hl => ?_)
  refine lv_aload_n hx hb dL_law_937 rfl (lv_at hl 3 rfl) ?_
  refine lw_arg (j := 1) (z := (t : Int)) 944 rfl C w (lv_at hl 1 rfl) (lv_at hl 6 rfl) hi5 hL (by decide) hx1 dL_law_938 dL_law_939 dL_law_941 dL_law_942 dL_law_943 ?_
  refine lw_arg (j := 2) (z := (i : Int)) 950 rfl C w (lv_at hl 1 rfl) (lv_at hl 6 rfl) hi5 hL (by decide) hx2 dL_law_944 dL_law_945 dL_law_947 dL_law_948 dL_law_949 ?_
  refine pw_ci w (pw_runV (r := 120) (ci := 8) (As := [.int (zI (t : Int)), .int (zI (i : Int))]) (rest := []) w ⟨hx, hb, hml, hown, hts⟩ (c_X8_fitting_ok l D G ad N c1 (by omega) hM1 hV ht hi) (cwV 2 hts gL_law_X8_fitting rfl rfl rfl (by decide +kernel) ⟨Nat.le_of_ble_eq_true rfl, Nat.le_of_ble_eq_true rfl⟩) (by omega) hM1.1.choose_spec rfl rfl hl.1 rfl (lv_room (Nat.le_of_ble_eq_true rfl)) dL_law_950 ⟨by show cells + 1 + 0 ≤ 821725; omega, by show slots + 6 + 0 ≤ 6630930; omega⟩) (fun r2 c2 H locs hp w => ?_)
  have w : PW D G A s ad N c2 H locs := w
  obtain ⟨hv2, hM2, fr2⟩ := hp
  subst hv2
  refine lv_istore (lv' := [(7, .int (zI (sumU (fun o => if (atc lim gn gg (pt t) (ln t) (rwT (nn t) (wi t)) i (o + 1)) < 1000000 then 1 else 0) no))), (6, .int (zI 0)), (0, .ref b), (1, .ref (ad 0)), (2, .ref (ad 120)), (3, .ref (ad 137)), (4, .ref (ad 138)), (5, .int (zI ((5 * ri : Nat) : Int)))]) hx hb dL_law_953 hl (by decide) rfl (fun ls hl => ?_)
  have hD2 := hD1.fr (fun q hq => fr2 q (by omega))
  exact lw_tailI (q1 := 966) (q2 := 983) (q3 := 971) C hnx w hNe hD2 hM2 hV ⟨_, lnA.fr (fr2 137 (by omega)) hO1, fun _ => (congrArg (fun z => (zI z).toInt64) (T_fit hOV hUV ht hi))⟩ (hB1.imp (fun v h => dbA.fr (fr2 138 (by omega)) h)) ⟨by decide, by decide⟩ (by omega) (by omega) (by omega) (lv_at hl 4 rfl) (lv_at hl 5 rfl) (lv_at hl 1 rfl) (lv_at hl 0 rfl) (lv_sub hl [2, 3, 4, 5, 6, 7] rfl) dL_law_955 dL_law_956 dL_law_959 dL_law_961 rfl dL_law_966 dL_law_968 (by decide) rfl dL_law_971 dL_law_972 dL_law_973 dL_law_974 dL_law_976 dL_law_977 dL_law_978 dL_law_983 (by decide)

set_option maxHeartbeats 1000000 in
set_option maxRecDepth 100000 in
theorem law_x_fitting1 (C : LX p l s m args k A b L xs) (hnx : NXT p l e s m args below meth k Q D G A b ri) (w : PW D G A s ad N c H locs) (hW : LWs G ad N c th lim no dn gn gg dg nn pt ln wi) (hl : lv_has ls 8 (lawLs ad b ri)) (hcs : cells ≤ 300 + 10 * ri) (hss : slots ≤ 9000 + 40 * ri) (hi5 : 5 * ri + 5 ≤ L) (hL : L ≤ 2560) {zt : Int} (hbzt : bnd zt) (hbad : ¬ (0 ≤ zt ∧ zt ≤ 3)) {zi : Int}  (hx1 : xs (5 * ri + 1) = zI zt) (hx2 : xs (5 * ri + 2) = zI zi) : W p l e room_1 s m args below meth k H locs cells slots Q (F0 m 918 ls []) := by
  obtain ⟨hx, hb, hts, hown, hml, hX, hbl, hbA, hsT⟩ := id C
  obtain ⟨hNe, hD, hM, hV, ⟨v0, hO⟩, hB⟩ := hW
  have hN : 139 + 2 * no ≤ N := by omega
  obtain ⟨hlim, hOV, hdn4, hdgv, hUV⟩ := id hV
  refine lv_aload_n hx hb dL_law_918 rfl (lv_at hl 1 rfl) ?_
  refine lw_arg (j := 1) (z := zt) 925 rfl C w (lv_at hl 0 rfl) (lv_at hl 5 rfl) hi5 hL (by decide) hx1 dL_law_919 dL_law_920 dL_law_922 dL_law_923 dL_law_924 ?_
  refine lw_arg (j := 2) (z := zi) 931 rfl C w (lv_at hl 0 rfl) (lv_at hl 5 rfl) hi5 hL (by decide) hx2 dL_law_925 dL_law_926 dL_law_928 dL_law_929 dL_law_930 ?_
  refine lv_aload_n hx hb dL_law_931 rfl (lv_at hl 3 rfl) ?_
  refine pw_ci w (pw_runSW (As := [.ref (ad 0), .int (zI zt), .int (zI zi), .ref (ad 137)]) (rest := []) w ⟨hx, hb, hml, hown, hts⟩ (x_L_fitting1 l hsT D G ad N c hN hD hV (zt := zt) hbzt hbad (zi := zi)) (vx_cwSW 4 hts gL_law_L_fitting rfl rfl rfl (by decide +kernel) ⟨Nat.le_of_ble_eq_true rfl, Nat.le_of_ble_eq_true rfl⟩) rfl hl.1 rfl (lv_room (Nat.le_of_ble_eq_true rfl)) dL_law_932 ⟨by show cells + 1 ≤ 821725; omega, by show slots + 6 ≤ 6630930; omega⟩) (fun r_ c1 H locs hp w => ?_)
  have w : PW D G A s ad N c1 H locs := w
  obtain ⟨hv1, hD1, fr1⟩ := hp
  subst hv1
  have hM1 := hM.out (ad1 := ad) (c1 := c1) (fun _ _ => rfl) (fun q h1 h2 => fr1 q (by omega))
  have hB1 : ∃ v, dbA G (c1 138) v := hB.imp (fun v h => dbA.fr (fr1 138 (by omega)) h)
  have hO1 := lnA.fr (fr1 137 (by omega)) hO
  refine lv_istore (lv' := [(6, .int (zI 1)), (0, .ref b), (1, .ref (ad 0)), (2, .ref (ad 120)), (3, .ref (ad 137)), (4, .ref (ad 138)), (5, .int (zI ((5 * ri : Nat) : Int)))]) hx hb dL_law_935 hl (by decide) rfl (fun ls hl => ?_)
  refine lv_aload_n hx hb dL_law_937 rfl (lv_at hl 3 rfl) ?_
  refine lw_arg (j := 1) (z := zt) 944 rfl C w (lv_at hl 1 rfl) (lv_at hl 6 rfl) hi5 hL (by decide) hx1 dL_law_938 dL_law_939 dL_law_941 dL_law_942 dL_law_943 ?_
  refine lw_arg (j := 2) (z := zi) 950 rfl C w (lv_at hl 1 rfl) (lv_at hl 6 rfl) hi5 hL (by decide) hx2 dL_law_944 dL_law_945 dL_law_947 dL_law_948 dL_law_949 ?_
  refine pw_ci w (pw_runV (r := 120) (ci := 8) (As := [.int (zI zt), .int (zI zi)]) (rest := []) w ⟨hx, hb, hml, hown, hts⟩ (c_X8_fitting_bad1 l D G ad N c1 (by omega) hM1 hV hbzt hbad) (cwV 2 hts gL_law_X8_fitting rfl rfl rfl (by decide +kernel) ⟨Nat.le_of_ble_eq_true rfl, Nat.le_of_ble_eq_true rfl⟩) (by omega) hM1.1.choose_spec rfl rfl hl.1 rfl (lv_room (Nat.le_of_ble_eq_true rfl)) dL_law_950 ⟨by show cells + 1 + 0 ≤ 821725; omega, by show slots + 6 + 0 ≤ 6630930; omega⟩) (fun r2 c2 H locs hp w => ?_)
  have w : PW D G A s ad N c2 H locs := w
  obtain ⟨hv2, hM2, fr2⟩ := hp
  subst hv2
  refine lv_istore (lv' := [(7, .int (zI 0)), (6, .int (zI 1)), (0, .ref b), (1, .ref (ad 0)), (2, .ref (ad 120)), (3, .ref (ad 137)), (4, .ref (ad 138)), (5, .int (zI ((5 * ri : Nat) : Int)))]) hx hb dL_law_953 hl (by decide) rfl (fun ls hl => ?_)
  have hD2 := hD1.fr (fun q hq => fr2 q (by omega))
  exact lw_tailI (q1 := 966) (q2 := 983) (q3 := 971) C hnx w hNe hD2 hM2 hV ⟨_, lnA.fr (fr2 137 (by omega)) hO1, fun h => absurd h (by decide)⟩ (hB1.imp (fun v h => dbA.fr (fr2 138 (by omega)) h)) ⟨by decide, by decide⟩ (by omega) (by omega) (by omega) (lv_at hl 4 rfl) (lv_at hl 5 rfl) (lv_at hl 1 rfl) (lv_at hl 0 rfl) (lv_sub hl [2, 3, 4, 5, 6, 7] rfl) dL_law_955 dL_law_956 dL_law_959 dL_law_961 rfl dL_law_966 dL_law_968 (by decide) rfl dL_law_971 dL_law_972 dL_law_973 dL_law_974 dL_law_976 dL_law_977 dL_law_978 dL_law_983 (by decide)

set_option maxHeartbeats 1000000 in
set_option maxRecDepth 100000 in
theorem law_x_fitting2 (C : LX p l s m args k A b L xs) (hnx : NXT p l e s m args below meth k Q D G A b ri) (w : PW D G A s ad N c H locs) (hW : LWs G ad N c th lim no dn gn gg dg nn pt ln wi) (hl : lv_has ls 8 (lawLs ad b ri)) (hcs : cells ≤ 300 + 10 * ri) (hss : slots ≤ 9000 + 40 * ri) (hi5 : 5 * ri + 5 ≤ L) (hL : L ≤ 2560) {t : Nat} (ht : t < 4) {zi : Int} (hbzi : bnd zi) (hbad : ¬ (0 ≤ zi ∧ zi ≤ (nn t : Int) - 2))  (hx1 : xs (5 * ri + 1) = zI (t : Int)) (hx2 : xs (5 * ri + 2) = zI zi) : W p l e room_1 s m args below meth k H locs cells slots Q (F0 m 918 ls []) := by
  obtain ⟨hx, hb, hts, hown, hml, hX, hbl, hbA, hsT⟩ := id C
  obtain ⟨hNe, hD, hM, hV, ⟨v0, hO⟩, hB⟩ := hW
  have hN : 139 + 2 * no ≤ N := by omega
  obtain ⟨hlim, hOV, hdn4, hdgv, hUV⟩ := id hV
  refine lv_aload_n hx hb dL_law_918 rfl (lv_at hl 1 rfl) ?_
  refine lw_arg (j := 1) (z := (t : Int)) 925 rfl C w (lv_at hl 0 rfl) (lv_at hl 5 rfl) hi5 hL (by decide) hx1 dL_law_919 dL_law_920 dL_law_922 dL_law_923 dL_law_924 ?_
  refine lw_arg (j := 2) (z := zi) 931 rfl C w (lv_at hl 0 rfl) (lv_at hl 5 rfl) hi5 hL (by decide) hx2 dL_law_925 dL_law_926 dL_law_928 dL_law_929 dL_law_930 ?_
  refine lv_aload_n hx hb dL_law_931 rfl (lv_at hl 3 rfl) ?_
  refine pw_ci w (pw_runSW (As := [.ref (ad 0), .int (zI (t : Int)), .int (zI zi), .ref (ad 137)]) (rest := []) w ⟨hx, hb, hml, hown, hts⟩ (x_L_fitting2 l hsT D G ad N c hN hD hV (t := t) ht (zi := zi) hbzi hbad) (vx_cwSW 4 hts gL_law_L_fitting rfl rfl rfl (by decide +kernel) ⟨Nat.le_of_ble_eq_true rfl, Nat.le_of_ble_eq_true rfl⟩) rfl hl.1 rfl (lv_room (Nat.le_of_ble_eq_true rfl)) dL_law_932 ⟨by show cells + 1 ≤ 821725; omega, by show slots + 6 ≤ 6630930; omega⟩) (fun r_ c1 H locs hp w => ?_)
  have w : PW D G A s ad N c1 H locs := w
  obtain ⟨hv1, hD1, fr1⟩ := hp
  subst hv1
  have hM1 := hM.out (ad1 := ad) (c1 := c1) (fun _ _ => rfl) (fun q h1 h2 => fr1 q (by omega))
  have hB1 : ∃ v, dbA G (c1 138) v := hB.imp (fun v h => dbA.fr (fr1 138 (by omega)) h)
  have hO1 := lnA.fr (fr1 137 (by omega)) hO
  refine lv_istore (lv' := [(6, .int (zI 2)), (0, .ref b), (1, .ref (ad 0)), (2, .ref (ad 120)), (3, .ref (ad 137)), (4, .ref (ad 138)), (5, .int (zI ((5 * ri : Nat) : Int)))]) hx hb dL_law_935 hl (by decide) rfl (fun ls hl => ?_)
  refine lv_aload_n hx hb dL_law_937 rfl (lv_at hl 3 rfl) ?_
  refine lw_arg (j := 1) (z := (t : Int)) 944 rfl C w (lv_at hl 1 rfl) (lv_at hl 6 rfl) hi5 hL (by decide) hx1 dL_law_938 dL_law_939 dL_law_941 dL_law_942 dL_law_943 ?_
  refine lw_arg (j := 2) (z := zi) 950 rfl C w (lv_at hl 1 rfl) (lv_at hl 6 rfl) hi5 hL (by decide) hx2 dL_law_944 dL_law_945 dL_law_947 dL_law_948 dL_law_949 ?_
  refine pw_ci w (pw_runV (r := 120) (ci := 8) (As := [.int (zI (t : Int)), .int (zI zi)]) (rest := []) w ⟨hx, hb, hml, hown, hts⟩ (c_X8_fitting_bad2 l D G ad N c1 (by omega) hM1 hV ht hbzi hbad) (cwV 2 hts gL_law_X8_fitting rfl rfl rfl (by decide +kernel) ⟨Nat.le_of_ble_eq_true rfl, Nat.le_of_ble_eq_true rfl⟩) (by omega) hM1.1.choose_spec rfl rfl hl.1 rfl (lv_room (Nat.le_of_ble_eq_true rfl)) dL_law_950 ⟨by show cells + 1 + 0 ≤ 821725; omega, by show slots + 6 + 0 ≤ 6630930; omega⟩) (fun r2 c2 H locs hp w => ?_)
  have w : PW D G A s ad N c2 H locs := w
  obtain ⟨hv2, hM2, fr2⟩ := hp
  subst hv2
  refine lv_istore (lv' := [(7, .int (zI 0)), (6, .int (zI 2)), (0, .ref b), (1, .ref (ad 0)), (2, .ref (ad 120)), (3, .ref (ad 137)), (4, .ref (ad 138)), (5, .int (zI ((5 * ri : Nat) : Int)))]) hx hb dL_law_953 hl (by decide) rfl (fun ls hl => ?_)
  have hD2 := hD1.fr (fun q hq => fr2 q (by omega))
  exact lw_tailI (q1 := 966) (q2 := 983) (q3 := 971) C hnx w hNe hD2 hM2 hV ⟨_, lnA.fr (fr2 137 (by omega)) hO1, fun h => absurd h (by decide)⟩ (hB1.imp (fun v h => dbA.fr (fr2 138 (by omega)) h)) ⟨by decide, by decide⟩ (by omega) (by omega) (by omega) (lv_at hl 4 rfl) (lv_at hl 5 rfl) (lv_at hl 1 rfl) (lv_at hl 0 rfl) (lv_sub hl [2, 3, 4, 5, 6, 7] rfl) dL_law_955 dL_law_956 dL_law_959 dL_law_961 rfl dL_law_966 dL_law_968 (by decide) rfl dL_law_971 dL_law_972 dL_law_973 dL_law_974 dL_law_976 dL_law_977 dL_law_978 dL_law_983 (by decide)

set_option maxHeartbeats 1000000 in
set_option maxRecDepth 100000 in
theorem law_c_choices (C : LX p l s m args k A b L xs) (hnx : NXT p l e s m args below meth k Q D G A b ri) (w : PW D G A s ad N c H locs) (hW : LWs G ad N c th lim no dn gn gg dg nn pt ln wi) (hl : lv_has ls 8 (lawLs ad b ri)) (hcs : cells ≤ 300 + 10 * ri) (hss : slots ≤ 9000 + 40 * ri) (hi5 : 5 * ri + 5 ≤ L) (hL : L ≤ 2560) {t : Nat} (ht : t < 4)  (hx1 : xs (5 * ri + 1) = zI (t : Int)) : W p l e room_1 s m args below meth k H locs cells slots Q (F0 m 986 ls []) := by
  obtain ⟨hx, hb, hts, hown, hml, hX, hbl, hbA, hsT⟩ := id C
  obtain ⟨hNe, hD, hM, hV, ⟨v0, hO⟩, hB⟩ := hW
  have hN : 139 + 2 * no ≤ N := by omega
  obtain ⟨hlim, hOV, hdn4, hdgv, hUV⟩ := id hV
  refine lv_aload_n hx hb dL_law_986 rfl (lv_at hl 1 rfl) ?_
  refine lw_arg (j := 1) (z := (t : Int)) 993 rfl C w (lv_at hl 0 rfl) (lv_at hl 5 rfl) hi5 hL (by decide) hx1 dL_law_987 dL_law_988 dL_law_990 dL_law_991 dL_law_992 ?_
  refine lv_aload_n hx hb dL_law_993 rfl (lv_at hl 3 rfl) ?_
  refine pw_ci w (pw_runSW (As := [.ref (ad 0), .int (zI (t : Int)), .ref (ad 137)]) (rest := []) w ⟨hx, hb, hml, hown, hts⟩ (c_L_choices l D G ad N c hN hD hV (t := t) ht hO) (vx_cwSW 3 hts gL_law_L_choices rfl rfl rfl (by decide +kernel) ⟨Nat.le_of_ble_eq_true rfl, Nat.le_of_ble_eq_true rfl⟩) rfl hl.1 rfl (lv_room (Nat.le_of_ble_eq_true rfl)) dL_law_994 ⟨by show cells + 1 ≤ 821725; omega, by show slots + 6 ≤ 6630930; omega⟩) (fun r_ c1 H locs hp w => ?_)
  have w : PW D G A s ad N c1 H locs := w
  obtain ⟨hv1, hO1, hD1, fr1⟩ := hp
  subst hv1
  have hM1 := hM.out (ad1 := ad) (c1 := c1) (fun _ _ => rfl) (fun q h1 h2 => fr1 q (by omega))
  have hB1 : ∃ v, dbA G (c1 138) v := hB.imp (fun v h => dbA.fr (fr1 138 (by omega)) h)
  refine lv_istore (lv' := [(6, .int (zI 0)), (0, .ref b), (1, .ref (ad 0)), (2, .ref (ad 120)), (3, .ref (ad 137)), (4, .ref (ad 138)), (5, .int (zI ((5 * ri : Nat) : Int)))]) hx hb dL_law_997 hl (by decide) rfl (fun ls hl => ?_)
  refine lv_aload_n hx hb dL_law_999 rfl (lv_at hl 3 rfl) ?_
  refine lw_arg (j := 1) (z := (t : Int)) 1006 rfl C w (lv_at hl 1 rfl) (lv_at hl 6 rfl) hi5 hL (by decide) hx1 dL_law_1000 dL_law_1001 dL_law_1003 dL_law_1004 dL_law_1005 ?_
  refine pw_ci w (pw_runV (r := 120) (ci := 8) (As := [.int (zI (t : Int))]) (rest := []) w ⟨hx, hb, hml, hown, hts⟩ (c_X8_choices_ok l D G ad N c1 (by omega) hM1 hV ht) (cwV 1 hts gL_law_X8_choices rfl rfl rfl (by decide +kernel) ⟨Nat.le_of_ble_eq_true rfl, Nat.le_of_ble_eq_true rfl⟩) (by omega) hM1.1.choose_spec rfl rfl hl.1 rfl (lv_room (Nat.le_of_ble_eq_true rfl)) dL_law_1006 ⟨by show cells + 1 + 0 ≤ 821725; omega, by show slots + 6 + 0 ≤ 6630930; omega⟩) (fun r2 c2 H locs hp w => ?_)
  have w : PW D G A s ad N c2 H locs := w
  obtain ⟨hv2, hM2, fr2⟩ := hp
  subst hv2
  refine lv_istore (lv' := [(7, .int (zI ((TV lim no gn gg (nn t) (pt t) (ln t) (wi t)).2.1))), (6, .int (zI 0)), (0, .ref b), (1, .ref (ad 0)), (2, .ref (ad 120)), (3, .ref (ad 137)), (4, .ref (ad 138)), (5, .int (zI ((5 * ri : Nat) : Int)))]) hx hb dL_law_1009 hl (by decide) rfl (fun ls hl => ?_)
  have hD2 := hD1.fr (fun q hq => fr2 q (by omega))
  exact lw_tailI (q1 := 1022) (q2 := 1039) (q3 := 1027) C hnx w hNe hD2 hM2 hV ⟨_, lnA.fr (fr2 137 (by omega)) hO1, fun _ => (congrArg (fun z => (zI z).toInt64) (T_count hOV hUV ht))⟩ (hB1.imp (fun v h => dbA.fr (fr2 138 (by omega)) h)) ⟨by decide, by decide⟩ (by omega) (by omega) (by omega) (lv_at hl 4 rfl) (lv_at hl 5 rfl) (lv_at hl 1 rfl) (lv_at hl 0 rfl) (lv_sub hl [2, 3, 4, 5, 6, 7] rfl) dL_law_1011 dL_law_1012 dL_law_1015 dL_law_1017 rfl dL_law_1022 dL_law_1024 (by decide) rfl dL_law_1027 dL_law_1028 dL_law_1029 dL_law_1030 dL_law_1032 dL_law_1033 dL_law_1034 dL_law_1039 (by decide)

set_option maxHeartbeats 1000000 in
set_option maxRecDepth 100000 in
theorem law_x_choices (C : LX p l s m args k A b L xs) (hnx : NXT p l e s m args below meth k Q D G A b ri) (w : PW D G A s ad N c H locs) (hW : LWs G ad N c th lim no dn gn gg dg nn pt ln wi) (hl : lv_has ls 8 (lawLs ad b ri)) (hcs : cells ≤ 300 + 10 * ri) (hss : slots ≤ 9000 + 40 * ri) (hi5 : 5 * ri + 5 ≤ L) (hL : L ≤ 2560) {zt : Int} (hbzt : bnd zt) (hbad : ¬ (0 ≤ zt ∧ zt ≤ 3))  (hx1 : xs (5 * ri + 1) = zI zt) : W p l e room_1 s m args below meth k H locs cells slots Q (F0 m 986 ls []) := by
  obtain ⟨hx, hb, hts, hown, hml, hX, hbl, hbA, hsT⟩ := id C
  obtain ⟨hNe, hD, hM, hV, ⟨v0, hO⟩, hB⟩ := hW
  have hN : 139 + 2 * no ≤ N := by omega
  obtain ⟨hlim, hOV, hdn4, hdgv, hUV⟩ := id hV
  refine lv_aload_n hx hb dL_law_986 rfl (lv_at hl 1 rfl) ?_
  refine lw_arg (j := 1) (z := zt) 993 rfl C w (lv_at hl 0 rfl) (lv_at hl 5 rfl) hi5 hL (by decide) hx1 dL_law_987 dL_law_988 dL_law_990 dL_law_991 dL_law_992 ?_
  refine lv_aload_n hx hb dL_law_993 rfl (lv_at hl 3 rfl) ?_
  refine pw_ci w (pw_runSW (As := [.ref (ad 0), .int (zI zt), .ref (ad 137)]) (rest := []) w ⟨hx, hb, hml, hown, hts⟩ (x_L_choices l hsT D G ad N c hN hD hV (zt := zt) hbzt hbad) (vx_cwSW 3 hts gL_law_L_choices rfl rfl rfl (by decide +kernel) ⟨Nat.le_of_ble_eq_true rfl, Nat.le_of_ble_eq_true rfl⟩) rfl hl.1 rfl (lv_room (Nat.le_of_ble_eq_true rfl)) dL_law_994 ⟨by show cells + 1 ≤ 821725; omega, by show slots + 6 ≤ 6630930; omega⟩) (fun r_ c1 H locs hp w => ?_)
  have w : PW D G A s ad N c1 H locs := w
  obtain ⟨hv1, hD1, fr1⟩ := hp
  subst hv1
  have hM1 := hM.out (ad1 := ad) (c1 := c1) (fun _ _ => rfl) (fun q h1 h2 => fr1 q (by omega))
  have hB1 : ∃ v, dbA G (c1 138) v := hB.imp (fun v h => dbA.fr (fr1 138 (by omega)) h)
  have hO1 := lnA.fr (fr1 137 (by omega)) hO
  refine lv_istore (lv' := [(6, .int (zI 1)), (0, .ref b), (1, .ref (ad 0)), (2, .ref (ad 120)), (3, .ref (ad 137)), (4, .ref (ad 138)), (5, .int (zI ((5 * ri : Nat) : Int)))]) hx hb dL_law_997 hl (by decide) rfl (fun ls hl => ?_)
  refine lv_aload_n hx hb dL_law_999 rfl (lv_at hl 3 rfl) ?_
  refine lw_arg (j := 1) (z := zt) 1006 rfl C w (lv_at hl 1 rfl) (lv_at hl 6 rfl) hi5 hL (by decide) hx1 dL_law_1000 dL_law_1001 dL_law_1003 dL_law_1004 dL_law_1005 ?_
  refine pw_ci w (pw_runV (r := 120) (ci := 8) (As := [.int (zI zt)]) (rest := []) w ⟨hx, hb, hml, hown, hts⟩ (c_X8_choices_bad l D G ad N c1 (by omega) hM1 hV hbzt hbad) (cwV 1 hts gL_law_X8_choices rfl rfl rfl (by decide +kernel) ⟨Nat.le_of_ble_eq_true rfl, Nat.le_of_ble_eq_true rfl⟩) (by omega) hM1.1.choose_spec rfl rfl hl.1 rfl (lv_room (Nat.le_of_ble_eq_true rfl)) dL_law_1006 ⟨by show cells + 1 + 0 ≤ 821725; omega, by show slots + 6 + 0 ≤ 6630930; omega⟩) (fun r2 c2 H locs hp w => ?_)
  have w : PW D G A s ad N c2 H locs := w
  obtain ⟨hv2, hM2, fr2⟩ := hp
  subst hv2
  refine lv_istore (lv' := [(7, .int (zI 0)), (6, .int (zI 1)), (0, .ref b), (1, .ref (ad 0)), (2, .ref (ad 120)), (3, .ref (ad 137)), (4, .ref (ad 138)), (5, .int (zI ((5 * ri : Nat) : Int)))]) hx hb dL_law_1009 hl (by decide) rfl (fun ls hl => ?_)
  have hD2 := hD1.fr (fun q hq => fr2 q (by omega))
  exact lw_tailI (q1 := 1022) (q2 := 1039) (q3 := 1027) C hnx w hNe hD2 hM2 hV ⟨_, lnA.fr (fr2 137 (by omega)) hO1, fun h => absurd h (by decide)⟩ (hB1.imp (fun v h => dbA.fr (fr2 138 (by omega)) h)) ⟨by decide, by decide⟩ (by omega) (by omega) (by omega) (lv_at hl 4 rfl) (lv_at hl 5 rfl) (lv_at hl 1 rfl) (lv_at hl 0 rfl) (lv_sub hl [2, 3, 4, 5, 6, 7] rfl) dL_law_1011 dL_law_1012 dL_law_1015 dL_law_1017 rfl dL_law_1022 dL_law_1024 (by decide) rfl dL_law_1027 dL_law_1028 dL_law_1029 dL_law_1030 dL_law_1032 dL_law_1033 dL_law_1034 dL_law_1039 (by decide)

set_option maxHeartbeats 1000000 in
set_option maxRecDepth 100000 in
theorem law_c_least (C : LX p l s m args k A b L xs) (hnx : NXT p l e s m args below meth k Q D G A b ri) (w : PW D G A s ad N c H locs) (hW : LWs G ad N c th lim no dn gn gg dg nn pt ln wi) (hl : lv_has ls 8 (lawLs ad b ri)) (hcs : cells ≤ 300 + 10 * ri) (hss : slots ≤ 9000 + 40 * ri) (hi5 : 5 * ri + 5 ≤ L) (hL : L ≤ 2560) {t : Nat} (ht : t < 4) (hlt : (lessOf (Rr (cwT lim no gn gg nn pt ln wi t) (nn t - 1) 0)) < 1000000)  (hx1 : xs (5 * ri + 1) = zI (t : Int)) : W p l e room_1 s m args below meth k H locs cells slots Q (F0 m 1042 ls []) := by
  obtain ⟨hx, hb, hts, hown, hml, hX, hbl, hbA, hsT⟩ := id C
  obtain ⟨hNe, hD, hM, hV, ⟨v0, hO⟩, hB⟩ := hW
  have hN : 139 + 2 * no ≤ N := by omega
  obtain ⟨hlim, hOV, hdn4, hdgv, hUV⟩ := id hV
  have hW9 : 0 < (TV lim no gn gg (nn t) (pt t) (ln t) (wi t)).2.1 := (T_pos hOV hUV ht).mpr (by rw [← T_least hOV hUV ht]; exact hlt)
  have hWn : ¬ (TV lim no gn gg (nn t) (pt t) (ln t) (wi t)).2.1 = 0 := by omega
  refine lv_aload_n hx hb dL_law_1042 rfl (lv_at hl 1 rfl) ?_
  refine lw_arg (j := 1) (z := (t : Int)) 1049 rfl C w (lv_at hl 0 rfl) (lv_at hl 5 rfl) hi5 hL (by decide) hx1 dL_law_1043 dL_law_1044 dL_law_1046 dL_law_1047 dL_law_1048 ?_
  refine lv_aload_n hx hb dL_law_1049 rfl (lv_at hl 3 rfl) ?_
  refine pw_ci w (pw_runSW (As := [.ref (ad 0), .int (zI (t : Int)), .ref (ad 137)]) (rest := []) w ⟨hx, hb, hml, hown, hts⟩ (c_L_least l D G ad N c hN hD hV (t := t) ht hlt hO) (vx_cwSW 3 hts gL_law_L_least rfl rfl rfl (by decide +kernel) ⟨Nat.le_of_ble_eq_true rfl, Nat.le_of_ble_eq_true rfl⟩) rfl hl.1 rfl (lv_room (Nat.le_of_ble_eq_true rfl)) dL_law_1050 ⟨by show cells + 1 ≤ 821725; omega, by show slots + 6 ≤ 6630930; omega⟩) (fun r_ c1 H locs hp w => ?_)
  have w : PW D G A s ad N c1 H locs := w
  obtain ⟨hv1, hO1, hD1, fr1⟩ := hp
  subst hv1
  have hM1 := hM.out (ad1 := ad) (c1 := c1) (fun _ _ => rfl) (fun q h1 h2 => fr1 q (by omega))
  have hB1 : ∃ v, dbA G (c1 138) v := hB.imp (fun v h => dbA.fr (fr1 138 (by omega)) h)
  refine lv_istore (lv' := [(6, .int (zI 0)), (0, .ref b), (1, .ref (ad 0)), (2, .ref (ad 120)), (3, .ref (ad 137)), (4, .ref (ad 138)), (5, .int (zI ((5 * ri : Nat) : Int)))]) hx hb dL_law_1053 hl (by decide) rfl (fun ls hl => ?_)
  refine lv_aload_n hx hb dL_law_1055 rfl (lv_at hl 3 rfl) ?_
  refine lw_arg (j := 1) (z := (t : Int)) 1062 rfl C w (lv_at hl 1 rfl) (lv_at hl 6 rfl) hi5 hL (by decide) hx1 dL_law_1056 dL_law_1057 dL_law_1059 dL_law_1060 dL_law_1061 ?_
  refine pw_ci w (pw_runV (r := 120) (ci := 8) (As := [.int (zI (t : Int))]) (rest := []) w ⟨hx, hb, hml, hown, hts⟩ (c_X8_least_ok l D G ad N c1 (by omega) hM1 hV ht hWn) (cwV 1 hts gL_law_X8_least rfl rfl rfl (by decide +kernel) ⟨Nat.le_of_ble_eq_true rfl, Nat.le_of_ble_eq_true rfl⟩) (by omega) hM1.1.choose_spec rfl rfl hl.1 rfl (lv_room (Nat.le_of_ble_eq_true rfl)) dL_law_1062 ⟨by show cells + 1 + 0 ≤ 821725; omega, by show slots + 6 + 0 ≤ 6630930; omega⟩) (fun r2 c2 H locs hp w => ?_)
  have w : PW D G A s ad N c2 H locs := w
  obtain ⟨hv2, hM2, fr2⟩ := hp
  subst hv2
  refine lv_istore (lv' := [(7, .int (zI ((TV lim no gn gg (nn t) (pt t) (ln t) (wi t)).1))), (6, .int (zI 0)), (0, .ref b), (1, .ref (ad 0)), (2, .ref (ad 120)), (3, .ref (ad 137)), (4, .ref (ad 138)), (5, .int (zI ((5 * ri : Nat) : Int)))]) hx hb dL_law_1065 hl (by decide) rfl (fun ls hl => ?_)
  have hD2 := hD1.fr (fun q hq => fr2 q (by omega))
  exact lw_tailI (q1 := 1078) (q2 := 1095) (q3 := 1083) C hnx w hNe hD2 hM2 hV ⟨_, lnA.fr (fr2 137 (by omega)) hO1, fun _ => (congrArg (fun z => (zI z).toInt64) (T_least hOV hUV ht))⟩ (hB1.imp (fun v h => dbA.fr (fr2 138 (by omega)) h)) ⟨by decide, by decide⟩ (by omega) (by omega) (by omega) (lv_at hl 4 rfl) (lv_at hl 5 rfl) (lv_at hl 1 rfl) (lv_at hl 0 rfl) (lv_sub hl [2, 3, 4, 5, 6, 7] rfl) dL_law_1067 dL_law_1068 dL_law_1071 dL_law_1073 rfl dL_law_1078 dL_law_1080 (by decide) rfl dL_law_1083 dL_law_1084 dL_law_1085 dL_law_1086 dL_law_1088 dL_law_1089 dL_law_1090 dL_law_1095 (by decide)

set_option maxHeartbeats 1000000 in
set_option maxRecDepth 100000 in
theorem law_x_least1 (C : LX p l s m args k A b L xs) (hnx : NXT p l e s m args below meth k Q D G A b ri) (w : PW D G A s ad N c H locs) (hW : LWs G ad N c th lim no dn gn gg dg nn pt ln wi) (hl : lv_has ls 8 (lawLs ad b ri)) (hcs : cells ≤ 300 + 10 * ri) (hss : slots ≤ 9000 + 40 * ri) (hi5 : 5 * ri + 5 ≤ L) (hL : L ≤ 2560) {zt : Int} (hbzt : bnd zt) (hbad : ¬ (0 ≤ zt ∧ zt ≤ 3))  (hx1 : xs (5 * ri + 1) = zI zt) : W p l e room_1 s m args below meth k H locs cells slots Q (F0 m 1042 ls []) := by
  obtain ⟨hx, hb, hts, hown, hml, hX, hbl, hbA, hsT⟩ := id C
  obtain ⟨hNe, hD, hM, hV, ⟨v0, hO⟩, hB⟩ := hW
  have hN : 139 + 2 * no ≤ N := by omega
  obtain ⟨hlim, hOV, hdn4, hdgv, hUV⟩ := id hV
  refine lv_aload_n hx hb dL_law_1042 rfl (lv_at hl 1 rfl) ?_
  refine lw_arg (j := 1) (z := zt) 1049 rfl C w (lv_at hl 0 rfl) (lv_at hl 5 rfl) hi5 hL (by decide) hx1 dL_law_1043 dL_law_1044 dL_law_1046 dL_law_1047 dL_law_1048 ?_
  refine lv_aload_n hx hb dL_law_1049 rfl (lv_at hl 3 rfl) ?_
  refine pw_ci w (pw_runSW (As := [.ref (ad 0), .int (zI zt), .ref (ad 137)]) (rest := []) w ⟨hx, hb, hml, hown, hts⟩ (x_L_least1 l hsT D G ad N c hN hD hV (zt := zt) hbzt hbad) (vx_cwSW 3 hts gL_law_L_least rfl rfl rfl (by decide +kernel) ⟨Nat.le_of_ble_eq_true rfl, Nat.le_of_ble_eq_true rfl⟩) rfl hl.1 rfl (lv_room (Nat.le_of_ble_eq_true rfl)) dL_law_1050 ⟨by show cells + 1 ≤ 821725; omega, by show slots + 6 ≤ 6630930; omega⟩) (fun r_ c1 H locs hp w => ?_)
  have w : PW D G A s ad N c1 H locs := w
  obtain ⟨hv1, hD1, fr1⟩ := hp
  subst hv1
  have hM1 := hM.out (ad1 := ad) (c1 := c1) (fun _ _ => rfl) (fun q h1 h2 => fr1 q (by omega))
  have hB1 : ∃ v, dbA G (c1 138) v := hB.imp (fun v h => dbA.fr (fr1 138 (by omega)) h)
  have hO1 := lnA.fr (fr1 137 (by omega)) hO
  refine lv_istore (lv' := [(6, .int (zI 1)), (0, .ref b), (1, .ref (ad 0)), (2, .ref (ad 120)), (3, .ref (ad 137)), (4, .ref (ad 138)), (5, .int (zI ((5 * ri : Nat) : Int)))]) hx hb dL_law_1053 hl (by decide) rfl (fun ls hl => ?_)
  refine lv_aload_n hx hb dL_law_1055 rfl (lv_at hl 3 rfl) ?_
  refine lw_arg (j := 1) (z := zt) 1062 rfl C w (lv_at hl 1 rfl) (lv_at hl 6 rfl) hi5 hL (by decide) hx1 dL_law_1056 dL_law_1057 dL_law_1059 dL_law_1060 dL_law_1061 ?_
  refine pw_ci w (pw_runV (r := 120) (ci := 8) (As := [.int (zI zt)]) (rest := []) w ⟨hx, hb, hml, hown, hts⟩ (c_X8_least_bad1 l D G ad N c1 (by omega) hM1 hV hbzt hbad) (cwV 1 hts gL_law_X8_least rfl rfl rfl (by decide +kernel) ⟨Nat.le_of_ble_eq_true rfl, Nat.le_of_ble_eq_true rfl⟩) (by omega) hM1.1.choose_spec rfl rfl hl.1 rfl (lv_room (Nat.le_of_ble_eq_true rfl)) dL_law_1062 ⟨by show cells + 1 + 0 ≤ 821725; omega, by show slots + 6 + 0 ≤ 6630930; omega⟩) (fun r2 c2 H locs hp w => ?_)
  have w : PW D G A s ad N c2 H locs := w
  obtain ⟨hv2, hM2, fr2⟩ := hp
  subst hv2
  refine lv_istore (lv' := [(7, .int (zI 0)), (6, .int (zI 1)), (0, .ref b), (1, .ref (ad 0)), (2, .ref (ad 120)), (3, .ref (ad 137)), (4, .ref (ad 138)), (5, .int (zI ((5 * ri : Nat) : Int)))]) hx hb dL_law_1065 hl (by decide) rfl (fun ls hl => ?_)
  have hD2 := hD1.fr (fun q hq => fr2 q (by omega))
  exact lw_tailI (q1 := 1078) (q2 := 1095) (q3 := 1083) C hnx w hNe hD2 hM2 hV ⟨_, lnA.fr (fr2 137 (by omega)) hO1, fun h => absurd h (by decide)⟩ (hB1.imp (fun v h => dbA.fr (fr2 138 (by omega)) h)) ⟨by decide, by decide⟩ (by omega) (by omega) (by omega) (lv_at hl 4 rfl) (lv_at hl 5 rfl) (lv_at hl 1 rfl) (lv_at hl 0 rfl) (lv_sub hl [2, 3, 4, 5, 6, 7] rfl) dL_law_1067 dL_law_1068 dL_law_1071 dL_law_1073 rfl dL_law_1078 dL_law_1080 (by decide) rfl dL_law_1083 dL_law_1084 dL_law_1085 dL_law_1086 dL_law_1088 dL_law_1089 dL_law_1090 dL_law_1095 (by decide)

set_option maxHeartbeats 1000000 in
set_option maxRecDepth 100000 in
theorem law_x_least2 (C : LX p l s m args k A b L xs) (hnx : NXT p l e s m args below meth k Q D G A b ri) (w : PW D G A s ad N c H locs) (hW : LWs G ad N c th lim no dn gn gg dg nn pt ln wi) (hl : lv_has ls 8 (lawLs ad b ri)) (hcs : cells ≤ 300 + 10 * ri) (hss : slots ≤ 9000 + 40 * ri) (hi5 : 5 * ri + 5 ≤ L) (hL : L ≤ 2560) {t : Nat} (ht : t < 4) (hlt : ¬ (lessOf (Rr (cwT lim no gn gg nn pt ln wi t) (nn t - 1) 0)) < 1000000)  (hx1 : xs (5 * ri + 1) = zI (t : Int)) : W p l e room_1 s m args below meth k H locs cells slots Q (F0 m 1042 ls []) := by
  obtain ⟨hx, hb, hts, hown, hml, hX, hbl, hbA, hsT⟩ := id C
  obtain ⟨hNe, hD, hM, hV, ⟨v0, hO⟩, hB⟩ := hW
  have hN : 139 + 2 * no ≤ N := by omega
  obtain ⟨hlim, hOV, hdn4, hdgv, hUV⟩ := id hV
  have hWn : (TV lim no gn gg (nn t) (pt t) (ln t) (wi t)).2.1 = 0 := by
    have h1 := (TV_bd (lim := lim) hOV (hUV t ht)).2.2.1
    have h2 := mt (T_pos (lim := lim) (wi := wi) hOV hUV ht).mp (by rw [← T_least hOV hUV ht]; exact hlt)
    omega
  refine lv_aload_n hx hb dL_law_1042 rfl (lv_at hl 1 rfl) ?_
  refine lw_arg (j := 1) (z := (t : Int)) 1049 rfl C w (lv_at hl 0 rfl) (lv_at hl 5 rfl) hi5 hL (by decide) hx1 dL_law_1043 dL_law_1044 dL_law_1046 dL_law_1047 dL_law_1048 ?_
  refine lv_aload_n hx hb dL_law_1049 rfl (lv_at hl 3 rfl) ?_
  refine pw_ci w (pw_runSW (As := [.ref (ad 0), .int (zI (t : Int)), .ref (ad 137)]) (rest := []) w ⟨hx, hb, hml, hown, hts⟩ (x_L_least2 l hsT D G ad N c hN hD hV (t := t) ht hlt) (vx_cwSW 3 hts gL_law_L_least rfl rfl rfl (by decide +kernel) ⟨Nat.le_of_ble_eq_true rfl, Nat.le_of_ble_eq_true rfl⟩) rfl hl.1 rfl (lv_room (Nat.le_of_ble_eq_true rfl)) dL_law_1050 ⟨by show cells + 1 ≤ 821725; omega, by show slots + 6 ≤ 6630930; omega⟩) (fun r_ c1 H locs hp w => ?_)
  have w : PW D G A s ad N c1 H locs := w
  obtain ⟨hv1, hD1, fr1⟩ := hp
  subst hv1
  have hM1 := hM.out (ad1 := ad) (c1 := c1) (fun _ _ => rfl) (fun q h1 h2 => fr1 q (by omega))
  have hB1 : ∃ v, dbA G (c1 138) v := hB.imp (fun v h => dbA.fr (fr1 138 (by omega)) h)
  have hO1 := lnA.fr (fr1 137 (by omega)) hO
  refine lv_istore (lv' := [(6, .int (zI 2)), (0, .ref b), (1, .ref (ad 0)), (2, .ref (ad 120)), (3, .ref (ad 137)), (4, .ref (ad 138)), (5, .int (zI ((5 * ri : Nat) : Int)))]) hx hb dL_law_1053 hl (by decide) rfl (fun ls hl => ?_)
  refine lv_aload_n hx hb dL_law_1055 rfl (lv_at hl 3 rfl) ?_
  refine lw_arg (j := 1) (z := (t : Int)) 1062 rfl C w (lv_at hl 1 rfl) (lv_at hl 6 rfl) hi5 hL (by decide) hx1 dL_law_1056 dL_law_1057 dL_law_1059 dL_law_1060 dL_law_1061 ?_
  refine pw_ci w (pw_runV (r := 120) (ci := 8) (As := [.int (zI (t : Int))]) (rest := []) w ⟨hx, hb, hml, hown, hts⟩ (c_X8_least_bad2 l D G ad N c1 (by omega) hM1 hV ht hWn) (cwV 1 hts gL_law_X8_least rfl rfl rfl (by decide +kernel) ⟨Nat.le_of_ble_eq_true rfl, Nat.le_of_ble_eq_true rfl⟩) (by omega) hM1.1.choose_spec rfl rfl hl.1 rfl (lv_room (Nat.le_of_ble_eq_true rfl)) dL_law_1062 ⟨by show cells + 1 + 0 ≤ 821725; omega, by show slots + 6 + 0 ≤ 6630930; omega⟩) (fun r2 c2 H locs hp w => ?_)
  have w : PW D G A s ad N c2 H locs := w
  obtain ⟨hv2, hM2, fr2⟩ := hp
  subst hv2
  refine lv_istore (lv' := [(7, .int (zI 0)), (6, .int (zI 2)), (0, .ref b), (1, .ref (ad 0)), (2, .ref (ad 120)), (3, .ref (ad 137)), (4, .ref (ad 138)), (5, .int (zI ((5 * ri : Nat) : Int)))]) hx hb dL_law_1065 hl (by decide) rfl (fun ls hl => ?_)
  have hD2 := hD1.fr (fun q hq => fr2 q (by omega))
  exact lw_tailI (q1 := 1078) (q2 := 1095) (q3 := 1083) C hnx w hNe hD2 hM2 hV ⟨_, lnA.fr (fr2 137 (by omega)) hO1, fun h => absurd h (by decide)⟩ (hB1.imp (fun v h => dbA.fr (fr2 138 (by omega)) h)) ⟨by decide, by decide⟩ (by omega) (by omega) (by omega) (lv_at hl 4 rfl) (lv_at hl 5 rfl) (lv_at hl 1 rfl) (lv_at hl 0 rfl) (lv_sub hl [2, 3, 4, 5, 6, 7] rfl) dL_law_1067 dL_law_1068 dL_law_1071 dL_law_1073 rfl dL_law_1078 dL_law_1080 (by decide) rfl dL_law_1083 dL_law_1084 dL_law_1085 dL_law_1086 dL_law_1088 dL_law_1089 dL_law_1090 dL_law_1095 (by decide)

set_option maxHeartbeats 1000000 in
set_option maxRecDepth 100000 in
theorem law_c_chosen (C : LX p l s m args k A b L xs) (hnx : NXT p l e s m args below meth k Q D G A b ri) (w : PW D G A s ad N c H locs) (hW : LWs G ad N c th lim no dn gn gg dg nn pt ln wi) (hl : lv_has ls 8 (lawLs ad b ri)) (hcs : cells ≤ 300 + 10 * ri) (hss : slots ≤ 9000 + 40 * ri) (hi5 : 5 * ri + 5 ≤ L) (hL : L ≤ 2560) {t i : Nat} (ht : t < 4) (hi : i + 1 < nn t) (hlt : (lessOf (Rr (cwT lim no gn gg nn pt ln wi t) (nn t - 1) 0)) < 1000000)  (hx1 : xs (5 * ri + 1) = zI (t : Int)) (hx2 : xs (5 * ri + 2) = zI (i : Int)) : W p l e room_1 s m args below meth k H locs cells slots Q (F0 m 1098 ls []) := by
  obtain ⟨hx, hb, hts, hown, hml, hX, hbl, hbA, hsT⟩ := id C
  obtain ⟨hNe, hD, hM, hV, ⟨v0, hO⟩, hB⟩ := hW
  have hN : 139 + 2 * no ≤ N := by omega
  obtain ⟨hlim, hOV, hdn4, hdgv, hUV⟩ := id hV
  have hW9 : 0 < (TV lim no gn gg (nn t) (pt t) (ln t) (wi t)).2.1 := (T_pos hOV hUV ht).mpr (by rw [← T_least hOV hUV ht]; exact hlt)
  have hWn : ¬ (TV lim no gn gg (nn t) (pt t) (ln t) (wi t)).2.1 = 0 := by omega
  refine lv_aload_n hx hb dL_law_1098 rfl (lv_at hl 1 rfl) ?_
  refine lw_arg (j := 1) (z := (t : Int)) 1105 rfl C w (lv_at hl 0 rfl) (lv_at hl 5 rfl) hi5 hL (by decide) hx1 dL_law_1099 dL_law_1100 dL_law_1102 dL_law_1103 dL_law_1104 ?_
  refine lw_arg (j := 2) (z := (i : Int)) 1111 rfl C w (lv_at hl 0 rfl) (lv_at hl 5 rfl) hi5 hL (by decide) hx2 dL_law_1105 dL_law_1106 dL_law_1108 dL_law_1109 dL_law_1110 ?_
  refine lv_aload_n hx hb dL_law_1111 rfl (lv_at hl 3 rfl) ?_
  refine pw_ci w (pw_runSW (As := [.ref (ad 0), .int (zI (t : Int)), .int (zI (i : Int)), .ref (ad 137)]) (rest := []) w ⟨hx, hb, hml, hown, hts⟩ (c_L_chosen l D G ad N c hN hD hV (t := t) (i := i) ht hi hlt hO) (vx_cwSW 4 hts gL_law_L_chosen rfl rfl rfl (by decide +kernel) ⟨Nat.le_of_ble_eq_true rfl, Nat.le_of_ble_eq_true rfl⟩) rfl hl.1 rfl (lv_room (Nat.le_of_ble_eq_true rfl)) dL_law_1112 ⟨by show cells + 1 ≤ 821725; omega, by show slots + 6 ≤ 6630930; omega⟩) (fun r_ c1 H locs hp w => ?_)
  have w : PW D G A s ad N c1 H locs := w
  obtain ⟨hv1, hO1, hD1, fr1⟩ := hp
  subst hv1
  have hM1 := hM.out (ad1 := ad) (c1 := c1) (fun _ _ => rfl) (fun q h1 h2 => fr1 q (by omega))
  have hB1 : ∃ v, dbA G (c1 138) v := hB.imp (fun v h => dbA.fr (fr1 138 (by omega)) h)
  refine lv_istore (lv' := [(6, .int (zI 0)), (0, .ref b), (1, .ref (ad 0)), (2, .ref (ad 120)), (3, .ref (ad 137)), (4, .ref (ad 138)), (5, .int (zI ((5 * ri : Nat) : Int)))]) hx hb dL_law_1115 hl (by decide) rfl (fun ls hl => ?_)
  refine lv_aload_n hx hb dL_law_1117 rfl (lv_at hl 3 rfl) ?_
  refine lw_arg (j := 1) (z := (t : Int)) 1124 rfl C w (lv_at hl 1 rfl) (lv_at hl 6 rfl) hi5 hL (by decide) hx1 dL_law_1118 dL_law_1119 dL_law_1121 dL_law_1122 dL_law_1123 ?_
  refine lw_arg (j := 2) (z := (i : Int)) 1130 rfl C w (lv_at hl 1 rfl) (lv_at hl 6 rfl) hi5 hL (by decide) hx2 dL_law_1124 dL_law_1125 dL_law_1127 dL_law_1128 dL_law_1129 ?_
  refine pw_ci w (pw_runV (r := 120) (ci := 8) (As := [.int (zI (t : Int)), .int (zI (i : Int))]) (rest := []) w ⟨hx, hb, hml, hown, hts⟩ (c_X8_chosen_ok l D G ad N c1 (by omega) hM1 hV ht hi hWn (ch := chT lim no gn gg nn pt ln wi t) rfl (fun j hj => T_chosen hOV hUV ht (by omega) hW9)) (cwV 2 hts gL_law_X8_chosen rfl rfl rfl (by decide +kernel) ⟨Nat.le_of_ble_eq_true rfl, Nat.le_of_ble_eq_true rfl⟩) (by omega) hM1.1.choose_spec rfl rfl hl.1 rfl (lv_room (Nat.le_of_ble_eq_true rfl)) dL_law_1130 ⟨by show cells + 1 + 0 ≤ 821725; omega, by show slots + 6 + 0 ≤ 6630930; omega⟩) (fun r2 c2 H locs hp w => ?_)
  have w : PW D G A s ad N c2 H locs := w
  obtain ⟨hv2, hM2, fr2⟩ := hp
  subst hv2
  refine lv_istore (lv' := [(7, .int (zI (((chT lim no gn gg nn pt ln wi t (i + 1) : Nat) : Int) - 1))), (6, .int (zI 0)), (0, .ref b), (1, .ref (ad 0)), (2, .ref (ad 120)), (3, .ref (ad 137)), (4, .ref (ad 138)), (5, .int (zI ((5 * ri : Nat) : Int)))]) hx hb dL_law_1133 hl (by decide) rfl (fun ls hl => ?_)
  have hD2 := hD1.fr (fun q hq => fr2 q (by omega))
  exact lw_tailI (q1 := 1146) (q2 := 1163) (q3 := 1151) C hnx w hNe hD2 hM2 hV ⟨_, lnA.fr (fr2 137 (by omega)) hO1, fun _ => rfl⟩ (hB1.imp (fun v h => dbA.fr (fr2 138 (by omega)) h)) ⟨by decide, by decide⟩ (by omega) (by omega) (by omega) (lv_at hl 4 rfl) (lv_at hl 5 rfl) (lv_at hl 1 rfl) (lv_at hl 0 rfl) (lv_sub hl [2, 3, 4, 5, 6, 7] rfl) dL_law_1135 dL_law_1136 dL_law_1139 dL_law_1141 rfl dL_law_1146 dL_law_1148 (by decide) rfl dL_law_1151 dL_law_1152 dL_law_1153 dL_law_1154 dL_law_1156 dL_law_1157 dL_law_1158 dL_law_1163 (by decide)

set_option maxHeartbeats 1000000 in
set_option maxRecDepth 100000 in
theorem law_x_chosen1 (C : LX p l s m args k A b L xs) (hnx : NXT p l e s m args below meth k Q D G A b ri) (w : PW D G A s ad N c H locs) (hW : LWs G ad N c th lim no dn gn gg dg nn pt ln wi) (hl : lv_has ls 8 (lawLs ad b ri)) (hcs : cells ≤ 300 + 10 * ri) (hss : slots ≤ 9000 + 40 * ri) (hi5 : 5 * ri + 5 ≤ L) (hL : L ≤ 2560) {zt : Int} (hbzt : bnd zt) (hbad : ¬ (0 ≤ zt ∧ zt ≤ 3)) {zi : Int}  (hx1 : xs (5 * ri + 1) = zI zt) (hx2 : xs (5 * ri + 2) = zI zi) : W p l e room_1 s m args below meth k H locs cells slots Q (F0 m 1098 ls []) := by
  obtain ⟨hx, hb, hts, hown, hml, hX, hbl, hbA, hsT⟩ := id C
  obtain ⟨hNe, hD, hM, hV, ⟨v0, hO⟩, hB⟩ := hW
  have hN : 139 + 2 * no ≤ N := by omega
  obtain ⟨hlim, hOV, hdn4, hdgv, hUV⟩ := id hV
  refine lv_aload_n hx hb dL_law_1098 rfl (lv_at hl 1 rfl) ?_
  refine lw_arg (j := 1) (z := zt) 1105 rfl C w (lv_at hl 0 rfl) (lv_at hl 5 rfl) hi5 hL (by decide) hx1 dL_law_1099 dL_law_1100 dL_law_1102 dL_law_1103 dL_law_1104 ?_
  refine lw_arg (j := 2) (z := zi) 1111 rfl C w (lv_at hl 0 rfl) (lv_at hl 5 rfl) hi5 hL (by decide) hx2 dL_law_1105 dL_law_1106 dL_law_1108 dL_law_1109 dL_law_1110 ?_
  refine lv_aload_n hx hb dL_law_1111 rfl (lv_at hl 3 rfl) ?_
  refine pw_ci w (pw_runSW (As := [.ref (ad 0), .int (zI zt), .int (zI zi), .ref (ad 137)]) (rest := []) w ⟨hx, hb, hml, hown, hts⟩ (x_L_chosen1 l hsT D G ad N c hN hD hV (zt := zt) hbzt hbad (zi := zi)) (vx_cwSW 4 hts gL_law_L_chosen rfl rfl rfl (by decide +kernel) ⟨Nat.le_of_ble_eq_true rfl, Nat.le_of_ble_eq_true rfl⟩) rfl hl.1 rfl (lv_room (Nat.le_of_ble_eq_true rfl)) dL_law_1112 ⟨by show cells + 1 ≤ 821725; omega, by show slots + 6 ≤ 6630930; omega⟩) (fun r_ c1 H locs hp w => ?_)
  have w : PW D G A s ad N c1 H locs := w
  obtain ⟨hv1, hD1, fr1⟩ := hp
  subst hv1
  have hM1 := hM.out (ad1 := ad) (c1 := c1) (fun _ _ => rfl) (fun q h1 h2 => fr1 q (by omega))
  have hB1 : ∃ v, dbA G (c1 138) v := hB.imp (fun v h => dbA.fr (fr1 138 (by omega)) h)
  have hO1 := lnA.fr (fr1 137 (by omega)) hO
  refine lv_istore (lv' := [(6, .int (zI 1)), (0, .ref b), (1, .ref (ad 0)), (2, .ref (ad 120)), (3, .ref (ad 137)), (4, .ref (ad 138)), (5, .int (zI ((5 * ri : Nat) : Int)))]) hx hb dL_law_1115 hl (by decide) rfl (fun ls hl => ?_)
  refine lv_aload_n hx hb dL_law_1117 rfl (lv_at hl 3 rfl) ?_
  refine lw_arg (j := 1) (z := zt) 1124 rfl C w (lv_at hl 1 rfl) (lv_at hl 6 rfl) hi5 hL (by decide) hx1 dL_law_1118 dL_law_1119 dL_law_1121 dL_law_1122 dL_law_1123 ?_
  refine lw_arg (j := 2) (z := zi) 1130 rfl C w (lv_at hl 1 rfl) (lv_at hl 6 rfl) hi5 hL (by decide) hx2 dL_law_1124 dL_law_1125 dL_law_1127 dL_law_1128 dL_law_1129 ?_
  refine pw_ci w (pw_runV (r := 120) (ci := 8) (As := [.int (zI zt), .int (zI zi)]) (rest := []) w ⟨hx, hb, hml, hown, hts⟩ (c_X8_chosen_bad1 l D G ad N c1 (by omega) hM1 hV hbzt hbad) (cwV 2 hts gL_law_X8_chosen rfl rfl rfl (by decide +kernel) ⟨Nat.le_of_ble_eq_true rfl, Nat.le_of_ble_eq_true rfl⟩) (by omega) hM1.1.choose_spec rfl rfl hl.1 rfl (lv_room (Nat.le_of_ble_eq_true rfl)) dL_law_1130 ⟨by show cells + 1 + 0 ≤ 821725; omega, by show slots + 6 + 0 ≤ 6630930; omega⟩) (fun r2 c2 H locs hp w => ?_)
  have w : PW D G A s ad N c2 H locs := w
  obtain ⟨hv2, hM2, fr2⟩ := hp
  subst hv2
  refine lv_istore (lv' := [(7, .int (zI 0)), (6, .int (zI 1)), (0, .ref b), (1, .ref (ad 0)), (2, .ref (ad 120)), (3, .ref (ad 137)), (4, .ref (ad 138)), (5, .int (zI ((5 * ri : Nat) : Int)))]) hx hb dL_law_1133 hl (by decide) rfl (fun ls hl => ?_)
  have hD2 := hD1.fr (fun q hq => fr2 q (by omega))
  exact lw_tailI (q1 := 1146) (q2 := 1163) (q3 := 1151) C hnx w hNe hD2 hM2 hV ⟨_, lnA.fr (fr2 137 (by omega)) hO1, fun h => absurd h (by decide)⟩ (hB1.imp (fun v h => dbA.fr (fr2 138 (by omega)) h)) ⟨by decide, by decide⟩ (by omega) (by omega) (by omega) (lv_at hl 4 rfl) (lv_at hl 5 rfl) (lv_at hl 1 rfl) (lv_at hl 0 rfl) (lv_sub hl [2, 3, 4, 5, 6, 7] rfl) dL_law_1135 dL_law_1136 dL_law_1139 dL_law_1141 rfl dL_law_1146 dL_law_1148 (by decide) rfl dL_law_1151 dL_law_1152 dL_law_1153 dL_law_1154 dL_law_1156 dL_law_1157 dL_law_1158 dL_law_1163 (by decide)

set_option maxHeartbeats 1000000 in
set_option maxRecDepth 100000 in
theorem law_x_chosen2 (C : LX p l s m args k A b L xs) (hnx : NXT p l e s m args below meth k Q D G A b ri) (w : PW D G A s ad N c H locs) (hW : LWs G ad N c th lim no dn gn gg dg nn pt ln wi) (hl : lv_has ls 8 (lawLs ad b ri)) (hcs : cells ≤ 300 + 10 * ri) (hss : slots ≤ 9000 + 40 * ri) (hi5 : 5 * ri + 5 ≤ L) (hL : L ≤ 2560) {t : Nat} (ht : t < 4) {zi : Int} (hbzi : bnd zi) (hbad : ¬ (0 ≤ zi ∧ zi ≤ (nn t : Int) - 2))  (hx1 : xs (5 * ri + 1) = zI (t : Int)) (hx2 : xs (5 * ri + 2) = zI zi) : W p l e room_1 s m args below meth k H locs cells slots Q (F0 m 1098 ls []) := by
  obtain ⟨hx, hb, hts, hown, hml, hX, hbl, hbA, hsT⟩ := id C
  obtain ⟨hNe, hD, hM, hV, ⟨v0, hO⟩, hB⟩ := hW
  have hN : 139 + 2 * no ≤ N := by omega
  obtain ⟨hlim, hOV, hdn4, hdgv, hUV⟩ := id hV
  refine lv_aload_n hx hb dL_law_1098 rfl (lv_at hl 1 rfl) ?_
  refine lw_arg (j := 1) (z := (t : Int)) 1105 rfl C w (lv_at hl 0 rfl) (lv_at hl 5 rfl) hi5 hL (by decide) hx1 dL_law_1099 dL_law_1100 dL_law_1102 dL_law_1103 dL_law_1104 ?_
  refine lw_arg (j := 2) (z := zi) 1111 rfl C w (lv_at hl 0 rfl) (lv_at hl 5 rfl) hi5 hL (by decide) hx2 dL_law_1105 dL_law_1106 dL_law_1108 dL_law_1109 dL_law_1110 ?_
  refine lv_aload_n hx hb dL_law_1111 rfl (lv_at hl 3 rfl) ?_
  refine pw_ci w (pw_runSW (As := [.ref (ad 0), .int (zI (t : Int)), .int (zI zi), .ref (ad 137)]) (rest := []) w ⟨hx, hb, hml, hown, hts⟩ (x_L_chosen2 l hsT D G ad N c hN hD hV (t := t) ht (zi := zi) hbzi hbad) (vx_cwSW 4 hts gL_law_L_chosen rfl rfl rfl (by decide +kernel) ⟨Nat.le_of_ble_eq_true rfl, Nat.le_of_ble_eq_true rfl⟩) rfl hl.1 rfl (lv_room (Nat.le_of_ble_eq_true rfl)) dL_law_1112 ⟨by show cells + 1 ≤ 821725; omega, by show slots + 6 ≤ 6630930; omega⟩) (fun r_ c1 H locs hp w => ?_)
  have w : PW D G A s ad N c1 H locs := w
  obtain ⟨hv1, hD1, fr1⟩ := hp
  subst hv1
  have hM1 := hM.out (ad1 := ad) (c1 := c1) (fun _ _ => rfl) (fun q h1 h2 => fr1 q (by omega))
  have hB1 : ∃ v, dbA G (c1 138) v := hB.imp (fun v h => dbA.fr (fr1 138 (by omega)) h)
  have hO1 := lnA.fr (fr1 137 (by omega)) hO
  refine lv_istore (lv' := [(6, .int (zI 2)), (0, .ref b), (1, .ref (ad 0)), (2, .ref (ad 120)), (3, .ref (ad 137)), (4, .ref (ad 138)), (5, .int (zI ((5 * ri : Nat) : Int)))]) hx hb dL_law_1115 hl (by decide) rfl (fun ls hl => ?_)
  refine lv_aload_n hx hb dL_law_1117 rfl (lv_at hl 3 rfl) ?_
  refine lw_arg (j := 1) (z := (t : Int)) 1124 rfl C w (lv_at hl 1 rfl) (lv_at hl 6 rfl) hi5 hL (by decide) hx1 dL_law_1118 dL_law_1119 dL_law_1121 dL_law_1122 dL_law_1123 ?_
  refine lw_arg (j := 2) (z := zi) 1130 rfl C w (lv_at hl 1 rfl) (lv_at hl 6 rfl) hi5 hL (by decide) hx2 dL_law_1124 dL_law_1125 dL_law_1127 dL_law_1128 dL_law_1129 ?_
  refine pw_ci w (pw_runV (r := 120) (ci := 8) (As := [.int (zI (t : Int)), .int (zI zi)]) (rest := []) w ⟨hx, hb, hml, hown, hts⟩ (c_X8_chosen_bad2 l D G ad N c1 (by omega) hM1 hV ht hbzi hbad) (cwV 2 hts gL_law_X8_chosen rfl rfl rfl (by decide +kernel) ⟨Nat.le_of_ble_eq_true rfl, Nat.le_of_ble_eq_true rfl⟩) (by omega) hM1.1.choose_spec rfl rfl hl.1 rfl (lv_room (Nat.le_of_ble_eq_true rfl)) dL_law_1130 ⟨by show cells + 1 + 0 ≤ 821725; omega, by show slots + 6 + 0 ≤ 6630930; omega⟩) (fun r2 c2 H locs hp w => ?_)
  have w : PW D G A s ad N c2 H locs := w
  obtain ⟨hv2, hM2, fr2⟩ := hp
  subst hv2
  refine lv_istore (lv' := [(7, .int (zI 0)), (6, .int (zI 2)), (0, .ref b), (1, .ref (ad 0)), (2, .ref (ad 120)), (3, .ref (ad 137)), (4, .ref (ad 138)), (5, .int (zI ((5 * ri : Nat) : Int)))]) hx hb dL_law_1133 hl (by decide) rfl (fun ls hl => ?_)
  have hD2 := hD1.fr (fun q hq => fr2 q (by omega))
  exact lw_tailI (q1 := 1146) (q2 := 1163) (q3 := 1151) C hnx w hNe hD2 hM2 hV ⟨_, lnA.fr (fr2 137 (by omega)) hO1, fun h => absurd h (by decide)⟩ (hB1.imp (fun v h => dbA.fr (fr2 138 (by omega)) h)) ⟨by decide, by decide⟩ (by omega) (by omega) (by omega) (lv_at hl 4 rfl) (lv_at hl 5 rfl) (lv_at hl 1 rfl) (lv_at hl 0 rfl) (lv_sub hl [2, 3, 4, 5, 6, 7] rfl) dL_law_1135 dL_law_1136 dL_law_1139 dL_law_1141 rfl dL_law_1146 dL_law_1148 (by decide) rfl dL_law_1151 dL_law_1152 dL_law_1153 dL_law_1154 dL_law_1156 dL_law_1157 dL_law_1158 dL_law_1163 (by decide)

set_option maxHeartbeats 1000000 in
set_option maxRecDepth 100000 in
theorem law_x_chosen3 (C : LX p l s m args k A b L xs) (hnx : NXT p l e s m args below meth k Q D G A b ri) (w : PW D G A s ad N c H locs) (hW : LWs G ad N c th lim no dn gn gg dg nn pt ln wi) (hl : lv_has ls 8 (lawLs ad b ri)) (hcs : cells ≤ 300 + 10 * ri) (hss : slots ≤ 9000 + 40 * ri) (hi5 : 5 * ri + 5 ≤ L) (hL : L ≤ 2560) {t i : Nat} (ht : t < 4) (hi : i + 1 < nn t) (hlt : ¬ (lessOf (Rr (cwT lim no gn gg nn pt ln wi t) (nn t - 1) 0)) < 1000000)  (hx1 : xs (5 * ri + 1) = zI (t : Int)) (hx2 : xs (5 * ri + 2) = zI (i : Int)) : W p l e room_1 s m args below meth k H locs cells slots Q (F0 m 1098 ls []) := by
  obtain ⟨hx, hb, hts, hown, hml, hX, hbl, hbA, hsT⟩ := id C
  obtain ⟨hNe, hD, hM, hV, ⟨v0, hO⟩, hB⟩ := hW
  have hN : 139 + 2 * no ≤ N := by omega
  obtain ⟨hlim, hOV, hdn4, hdgv, hUV⟩ := id hV
  have hWn : (TV lim no gn gg (nn t) (pt t) (ln t) (wi t)).2.1 = 0 := by
    have h1 := (TV_bd (lim := lim) hOV (hUV t ht)).2.2.1
    have h2 := mt (T_pos (lim := lim) (wi := wi) hOV hUV ht).mp (by rw [← T_least hOV hUV ht]; exact hlt)
    omega
  refine lv_aload_n hx hb dL_law_1098 rfl (lv_at hl 1 rfl) ?_
  refine lw_arg (j := 1) (z := (t : Int)) 1105 rfl C w (lv_at hl 0 rfl) (lv_at hl 5 rfl) hi5 hL (by decide) hx1 dL_law_1099 dL_law_1100 dL_law_1102 dL_law_1103 dL_law_1104 ?_
  refine lw_arg (j := 2) (z := (i : Int)) 1111 rfl C w (lv_at hl 0 rfl) (lv_at hl 5 rfl) hi5 hL (by decide) hx2 dL_law_1105 dL_law_1106 dL_law_1108 dL_law_1109 dL_law_1110 ?_
  refine lv_aload_n hx hb dL_law_1111 rfl (lv_at hl 3 rfl) ?_
  refine pw_ci w (pw_runSW (As := [.ref (ad 0), .int (zI (t : Int)), .int (zI (i : Int)), .ref (ad 137)]) (rest := []) w ⟨hx, hb, hml, hown, hts⟩ (x_L_chosen3 l hsT D G ad N c hN hD hV (t := t) (i := i) ht hi hlt) (vx_cwSW 4 hts gL_law_L_chosen rfl rfl rfl (by decide +kernel) ⟨Nat.le_of_ble_eq_true rfl, Nat.le_of_ble_eq_true rfl⟩) rfl hl.1 rfl (lv_room (Nat.le_of_ble_eq_true rfl)) dL_law_1112 ⟨by show cells + 1 ≤ 821725; omega, by show slots + 6 ≤ 6630930; omega⟩) (fun r_ c1 H locs hp w => ?_)
  have w : PW D G A s ad N c1 H locs := w
  obtain ⟨hv1, hD1, fr1⟩ := hp
  subst hv1
  have hM1 := hM.out (ad1 := ad) (c1 := c1) (fun _ _ => rfl) (fun q h1 h2 => fr1 q (by omega))
  have hB1 : ∃ v, dbA G (c1 138) v := hB.imp (fun v h => dbA.fr (fr1 138 (by omega)) h)
  have hO1 := lnA.fr (fr1 137 (by omega)) hO
  refine lv_istore (lv' := [(6, .int (zI 3)), (0, .ref b), (1, .ref (ad 0)), (2, .ref (ad 120)), (3, .ref (ad 137)), (4, .ref (ad 138)), (5, .int (zI ((5 * ri : Nat) : Int)))]) hx hb dL_law_1115 hl (by decide) rfl (fun ls hl => ?_)
  refine lv_aload_n hx hb dL_law_1117 rfl (lv_at hl 3 rfl) ?_
  refine lw_arg (j := 1) (z := (t : Int)) 1124 rfl C w (lv_at hl 1 rfl) (lv_at hl 6 rfl) hi5 hL (by decide) hx1 dL_law_1118 dL_law_1119 dL_law_1121 dL_law_1122 dL_law_1123 ?_
  refine lw_arg (j := 2) (z := (i : Int)) 1130 rfl C w (lv_at hl 1 rfl) (lv_at hl 6 rfl) hi5 hL (by decide) hx2 dL_law_1124 dL_law_1125 dL_law_1127 dL_law_1128 dL_law_1129 ?_
  refine pw_ci w (pw_runV (r := 120) (ci := 8) (As := [.int (zI (t : Int)), .int (zI (i : Int))]) (rest := []) w ⟨hx, hb, hml, hown, hts⟩ (c_X8_chosen_bad3 l D G ad N c1 (by omega) hM1 hV ht hi hWn) (cwV 2 hts gL_law_X8_chosen rfl rfl rfl (by decide +kernel) ⟨Nat.le_of_ble_eq_true rfl, Nat.le_of_ble_eq_true rfl⟩) (by omega) hM1.1.choose_spec rfl rfl hl.1 rfl (lv_room (Nat.le_of_ble_eq_true rfl)) dL_law_1130 ⟨by show cells + 1 + 0 ≤ 821725; omega, by show slots + 6 + 0 ≤ 6630930; omega⟩) (fun r2 c2 H locs hp w => ?_)
  have w : PW D G A s ad N c2 H locs := w
  obtain ⟨hv2, hM2, fr2⟩ := hp
  subst hv2
  refine lv_istore (lv' := [(7, .int (zI 0)), (6, .int (zI 3)), (0, .ref b), (1, .ref (ad 0)), (2, .ref (ad 120)), (3, .ref (ad 137)), (4, .ref (ad 138)), (5, .int (zI ((5 * ri : Nat) : Int)))]) hx hb dL_law_1133 hl (by decide) rfl (fun ls hl => ?_)
  have hD2 := hD1.fr (fun q hq => fr2 q (by omega))
  exact lw_tailI (q1 := 1146) (q2 := 1163) (q3 := 1151) C hnx w hNe hD2 hM2 hV ⟨_, lnA.fr (fr2 137 (by omega)) hO1, fun h => absurd h (by decide)⟩ (hB1.imp (fun v h => dbA.fr (fr2 138 (by omega)) h)) ⟨by decide, by decide⟩ (by omega) (by omega) (by omega) (lv_at hl 4 rfl) (lv_at hl 5 rfl) (lv_at hl 1 rfl) (lv_at hl 0 rfl) (lv_sub hl [2, 3, 4, 5, 6, 7] rfl) dL_law_1135 dL_law_1136 dL_law_1139 dL_law_1141 rfl dL_law_1146 dL_law_1148 (by decide) rfl dL_law_1151 dL_law_1152 dL_law_1153 dL_law_1154 dL_law_1156 dL_law_1157 dL_law_1158 dL_law_1163 (by decide)

end LC3
