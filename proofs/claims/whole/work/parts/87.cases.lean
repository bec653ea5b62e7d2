section LCW
variable {p : Program} {l : Launch} {e : Env} {s : State} {m : MethodId} {args : Array Value} {below : List Frame} {meth : Method} {k : Code} {H : Heap} {locs : List Loc} {cells slots : Nat} {Q : State → Prop} {ls : Array Slot} {D : va_G} {G : Nat → ClassId} {A : Nat → Prop} {ad : Nat → Nat} {N : Nat} {c : Nat → va_E} {b L ri : Nat} {xs : Nat → Int32}
variable {th lim : Int} {no dn : Nat} {gn : Nat → Nat} {gg : Nat → Nat → Nat} {dg nn : Nat → Nat} {pt ln : Nat → Nat → Nat} {wi : Nat → Nat → Int}
set_option maxHeartbeats 1000000 in
set_option maxRecDepth 100000 in
theorem law_ornaments (C : LX p l s m args k A b L xs) (hnx : NXT p l e s m args below meth k Q D G A b ri) (w : PW D G A s ad N c H locs) (hW : LWs G ad N c th lim no dn gn gg dg nn pt ln wi) (hl : lv_has ls 8 (lawLs ad b ri)) (hcs : cells ≤ 300 + 10 * ri) (hss : slots ≤ 9000 + 40 * ri) (hi5 : 5 * ri + 5 ≤ L) (hL : L ≤ 2560) : W p l e room_1 s m args below meth k H locs cells slots Q (F0 m 443 ls []) := by
  obtain ⟨hx, hb, hts, hown, hml, hX, hbl, hbA, hsT⟩ := id C
  obtain ⟨hNe, hD, hM, hV, ⟨v0, hO⟩, hB⟩ := hW
  have hN : 139 + 2 * no ≤ N := by omega
  obtain ⟨hlim, hOV, hdn4, hdgv, hUV⟩ := id hV
  have hno8 := hOV.1
  refine lv_aload_n hx hb dL_law_443 rfl (lv_at hl 1 rfl) ?_
  refine pw_ci w (pw_runV (r := 0) (ci := 7) (As := []) (rest := []) w ⟨hx, hb, hml, hown, hts⟩ (c_X7_ornaments l D G ad N c hN hD hV) (cwV 0 hts gL_law_X7_ornaments rfl rfl rfl (by decide +kernel) ⟨Nat.le_of_ble_eq_true rfl, Nat.le_of_ble_eq_true rfl⟩) (by omega) hD.1 rfl rfl hl.1 rfl (lv_room (Nat.le_of_ble_eq_true rfl)) dL_law_444 ⟨by show cells + 0 ≤ 821725; omega, by show slots + 0 ≤ 6630930; omega⟩) (fun r_ c1 H locs hp w => ?_)
  have w : PW D G A s ad N c1 H locs := w
  obtain ⟨hv1, hD1, fr1⟩ := hp
  subst hv1
  have hM1 := hM.out (ad1 := ad) (c1 := c1) (fun _ _ => rfl) (fun q h1 h2 => fr1 q (by omega))
  refine lv_aload_n hx hb dL_law_447 rfl (lv_at hl 2 rfl) ?_
  refine pw_ci w (pw_runV (r := 120) (ci := 8) (As := []) (rest := [.int (zI (no : Int))]) w ⟨hx, hb, hml, hown, hts⟩ (c_X8_ornaments l D G ad N c1 (by omega) hM1 hV) (cwV 0 hts gL_law_X8_ornaments rfl rfl rfl (by decide +kernel) ⟨Nat.le_of_ble_eq_true rfl, Nat.le_of_ble_eq_true rfl⟩) (by omega) hM1.1.choose_spec rfl rfl hl.1 rfl (lv_room (Nat.le_of_ble_eq_true rfl)) dL_law_448 ⟨by show cells + 0 + 0 ≤ 821725; omega, by show slots + 0 + 0 ≤ 6630930; omega⟩) (fun r2 c2 H locs hp w => ?_)
  have w : PW D G A s ad N c2 H locs := w
  obtain ⟨hv2, hM2, fr2⟩ := hp
  subst hv2
  refine pz_icmpeq (tgt := 1413) hx hb dL_law_451 (by decide) (⟨by omega, by omega⟩) (⟨by omega, by omega⟩) (fun _ => ?_) (fun h => absurd rfl h)
  exact hnx ad N c2 0 lim no dn gn gg dg nn pt ln wi H locs _ _ ls ⟨hNe, hD1.fr (fun q hq => fr2 q (by omega)), hM2, hV, ⟨_, lnA.fr (fr2 137 (by omega)) (lnA.fr (fr1 137 (by omega)) hO)⟩, hB.imp (fun v h => dbA.fr (fr2 138 (by omega)) (dbA.fr (fr1 138 (by omega)) h))⟩ w (by omega) (by omega) hl

set_option maxHeartbeats 1000000 in
set_option maxRecDepth 100000 in
theorem law_sets (C : LX p l s m args k A b L xs) (hnx : NXT p l e s m args below meth k Q D G A b ri) (w : PW D G A s ad N c H locs) (hW : LWs G ad N c th lim no dn gn gg dg nn pt ln wi) (hl : lv_has ls 8 (lawLs ad b ri)) (hcs : cells ≤ 300 + 10 * ri) (hss : slots ≤ 9000 + 40 * ri) (hi5 : 5 * ri + 5 ≤ L) (hL : L ≤ 2560) : W p l e room_1 s m args below meth k H locs cells slots Q (F0 m 1400 ls []) := by
  obtain ⟨hx, hb, hts, hown, hml, hX, hbl, hbA, hsT⟩ := id C
  obtain ⟨hNe, hD, hM, hV, ⟨v0, hO⟩, hB⟩ := hW
  have hN : 139 + 2 * no ≤ N := by omega
  obtain ⟨hlim, hOV, hdn4, hdgv, hUV⟩ := id hV
  have hno8 := hOV.1
  obtain ⟨-, -, -, -, -, -, -, bo, hb0⟩ := hM.2.2.2.2.2
  obtain ⟨hSV, hpos, hnn⟩ := S_set (lim := lim) (pt := pt) (ln := ln) (wi := wi) hOV hUV bo
  have hge := hSV.1.1
  have hge2 := hSV.1.2
  refine lv_aload_n hx hb dL_law_1400 rfl (lv_at hl 1 rfl) ?_
  refine pw_ci w (pw_runV (r := 0) (ci := 7) (As := []) (rest := []) w ⟨hx, hb, hml, hown, hts⟩ (c_X7_sets l D G ad N c hN hD hV hSV) (cwV 0 hts gL_law_X7_sets rfl rfl rfl (by decide +kernel) ⟨Nat.le_of_ble_eq_true rfl, Nat.le_of_ble_eq_true rfl⟩) (by omega) hD.1 rfl rfl hl.1 rfl (lv_room (Nat.le_of_ble_eq_true rfl)) dL_law_1401 ⟨by show cells + 0 ≤ 821725; omega, by show slots + 0 ≤ 6630930; omega⟩) (fun r_ c1 H locs hp w => ?_)
  have w : PW D G A s ad N c1 H locs := w
  obtain ⟨hv1, hD1, fr1⟩ := hp
  subst hv1
  have hM1 := hM.out (ad1 := ad) (c1 := c1) (fun _ _ => rfl) (fun q h1 h2 => fr1 q (by omega))
  have hb1 := isA.fr (fr1 136 (by omega)) hb0
  refine lv_aload_n hx hb dL_law_1404 rfl (lv_at hl 2 rfl) ?_
  refine pw_ci w (pw_runV (r := 120) (ci := 8) (As := []) (rest := [.int (zI (goF lim no gn gg nn pt ln wi bo 256).1)]) w ⟨hx, hb, hml, hown, hts⟩ (c_X8_sets l D G ad N c1 (by omega) hM1 hV hb1) (cwV 0 hts gL_law_X8_sets rfl rfl rfl (by decide +kernel) ⟨Nat.le_of_ble_eq_true rfl, Nat.le_of_ble_eq_true rfl⟩) (by omega) hM1.1.choose_spec rfl rfl hl.1 rfl (lv_room (Nat.le_of_ble_eq_true rfl)) dL_law_1405 ⟨by show cells + 0 + 0 ≤ 821725; omega, by show slots + 0 + 0 ≤ 6630930; omega⟩) (fun r2 c2 H locs hp w => ?_)
  have w : PW D G A s ad N c2 H locs := w
  obtain ⟨hv2, hM2, fr2⟩ := hp
  subst hv2
  refine pz_icmpeq (tgt := 1413) hx hb dL_law_1408 (by decide) (⟨by omega, by omega⟩) (⟨by omega, by omega⟩) (fun _ => ?_) (fun h => absurd rfl h)
  exact hnx ad N c2 0 lim no dn gn gg dg nn pt ln wi H locs _ _ ls ⟨hNe, hD1.fr (fun q hq => fr2 q (by omega)), hM2, hV, ⟨_, lnA.fr (fr2 137 (by omega)) (lnA.fr (fr1 137 (by omega)) hO)⟩, hB.imp (fun v h => dbA.fr (fr2 138 (by omega)) (dbA.fr (fr1 138 (by omega)) h))⟩ w (by omega) (by omega) hl

set_option maxHeartbeats 1000000 in
set_option maxRecDepth 100000 in
theorem law_cost (C : LX p l s m args k A b L xs) (hnx : NXT p l e s m args below meth k Q D G A b ri) (w : PW D G A s ad N c H locs) (hW : LWs G ad N c th lim no dn gn gg dg nn pt ln wi) (hl : lv_has ls 8 (lawLs ad b ri)) (hcs : cells ≤ 300 + 10 * ri) (hss : slots ≤ 9000 + 40 * ri) (hi5 : 5 * ri + 5 ≤ L) (hL : L ≤ 2560) : W p l e room_1 s m args below meth k H locs cells slots Q (F0 m 144 ls []) := by
  obtain ⟨za, hba, hxa⟩ := zI_of (xs (5 * ri + 1))
  obtain ⟨zb, hbb, hxb⟩ := zI_of (xs (5 * ri + 2))
  have hba1 := hba.1
  have hba2 := hba.2
  have hbb1 := hbb.1
  have hbb2 := hbb.2
  by_cases h : (0 ≤ za ∧ za ≤ 8) ∧ 0 ≤ zb ∧ zb ≤ 8
  · exact law_c_cost C hnx w hW hl hcs hss hi5 hL (x := za.toNat) (y := zb.toNat) (by omega) (by omega) (hxa.trans (congrArg zI (by omega))) (hxb.trans (congrArg zI (by omega)))
  · exact law_x_cost C hnx w hW hl hcs hss hi5 hL hba hbb h hxa hxb

set_option maxHeartbeats 1000000 in
set_option maxRecDepth 100000 in
theorem law_isBarred (C : LX p l s m args k A b L xs) (hnx : NXT p l e s m args below meth k Q D G A b ri) (w : PW D G A s ad N c H locs) (hW : LWs G ad N c th lim no dn gn gg dg nn pt ln wi) (hl : lv_has ls 8 (lawLs ad b ri)) (hcs : cells ≤ 300 + 10 * ri) (hss : slots ≤ 9000 + 40 * ri) (hi5 : 5 * ri + 5 ≤ L) (hL : L ≤ 2560) : W p l e room_1 s m args below meth k H locs cells slots Q (F0 m 212 ls []) := by
  obtain ⟨za, hba, hxa⟩ := zI_of (xs (5 * ri + 1))
  obtain ⟨zb, hbb, hxb⟩ := zI_of (xs (5 * ri + 2))
  have hba1 := hba.1
  have hba2 := hba.2
  have hbb1 := hbb.1
  have hbb2 := hbb.2
  by_cases h : (0 ≤ za ∧ za ≤ 8) ∧ 0 ≤ zb ∧ zb ≤ 8
  · exact law_c_isBarred C hnx w hW hl hcs hss hi5 hL (x := za.toNat) (y := zb.toNat) (by omega) (by omega) (hxa.trans (congrArg zI (by omega))) (hxb.trans (congrArg zI (by omega)))
  · exact law_x_isBarred C hnx w hW hl hcs hss hi5 hL hba hbb h hxa hxb

set_option maxHeartbeats 1000000 in
set_option maxRecDepth 100000 in
theorem law_setLimit (C : LX p l s m args k A b L xs) (hnx : NXT p l e s m args below meth k Q D G A b ri) (w : PW D G A s ad N c H locs) (hW : LWs G ad N c th lim no dn gn gg dg nn pt ln wi) (hl : lv_has ls 8 (lawLs ad b ri)) (hcs : cells ≤ 300 + 10 * ri) (hss : slots ≤ 9000 + 40 * ri) (hi5 : 5 * ri + 5 ≤ L) (hL : L ≤ 2560) : W p l e room_1 s m args below meth k H locs cells slots Q (F0 m 287 ls []) := by
  obtain ⟨za, hba, hxa⟩ := zI_of (xs (5 * ri + 1))
  have hba1 := hba.1
  have hba2 := hba.2
  by_cases h : 0 ≤ za ∧ za ≤ 8
  · exact law_c_setLimit C hnx w hW hl hcs hss hi5 hL hba h hxa
  · exact law_x_setLimit C hnx w hW hl hcs hss hi5 hL hba h hxa

set_option maxHeartbeats 1000000 in
set_option maxRecDepth 100000 in
theorem law_grace (C : LX p l s m args k A b L xs) (hnx : NXT p l e s m args below meth k Q D G A b ri) (w : PW D G A s ad N c H locs) (hW : LWs G ad N c th lim no dn gn gg dg nn pt ln wi) (hl : lv_has ls 8 (lawLs ad b ri)) (hcs : cells ≤ 300 + 10 * ri) (hss : slots ≤ 9000 + 40 * ri) (hi5 : 5 * ri + 5 ≤ L) (hL : L ≤ 2560) : W p l e room_1 s m args below meth k H locs cells slots Q (F0 m 343 ls []) := by
  obtain ⟨hlim, hOV, hdn4, hdgv, hUV⟩ := id hW.2.2.2.1
  obtain ⟨za, hba, hxa⟩ := zI_of (xs (5 * ri + 1))
  have hba1 := hba.1
  have hba2 := hba.2
  by_cases h : 0 ≤ za ∧ za ≤ 10
  · by_cases hd : dn = 4
    · exact law_x_grace2 C hnx w hW hl hcs hss hi5 hL (g := za.toNat) (by omega) hd (hxa.trans (congrArg zI (by omega)))
    · exact law_c_grace C hnx w hW hl hcs hss hi5 hL (g := za.toNat) (by omega) (by omega) (hxa.trans (congrArg zI (by omega)))
  · exact law_x_grace1 C hnx w hW hl hcs hss hi5 hL hba h hxa

set_option maxHeartbeats 1000000 in
set_option maxRecDepth 100000 in
theorem law_enter (C : LX p l s m args k A b L xs) (hnx : NXT p l e s m args below meth k Q D G A b ri) (w : PW D G A s ad N c H locs) (hW : LWs G ad N c th lim no dn gn gg dg nn pt ln wi) (hl : lv_has ls 8 (lawLs ad b ri)) (hcs : cells ≤ 300 + 10 * ri) (hss : slots ≤ 9000 + 40 * ri) (hi5 : 5 * ri + 5 ≤ L) (hL : L ≤ 2560) : W p l e room_1 s m args below meth k H locs cells slots Q (F0 m 399 ls []) := by
  obtain ⟨hlim, hOV, hdn4, hdgv, hUV⟩ := id hW.2.2.2.1
  have hno8 := hOV.1
  by_cases hd : dn = 0
  · exact law_x_enter1 C hnx w hW hl hcs hss hi5 hL hd
  · by_cases ho : no = 8
    · exact law_x_enter2 C hnx w hW hl hcs hss hi5 hL (by omega) ho
    · exact law_c_enter C hnx w hW hl hcs hss hi5 hL (by omega) (by omega)

set_option maxHeartbeats 1000000 in
set_option maxRecDepth 100000 in
theorem law_fits (C : LX p l s m args k A b L xs) (hnx : NXT p l e s m args below meth k Q D G A b ri) (w : PW D G A s ad N c H locs) (hW : LWs G ad N c th lim no dn gn gg dg nn pt ln wi) (hl : lv_has ls 8 (lawLs ad b ri)) (hcs : cells ≤ 300 + 10 * ri) (hss : slots ≤ 9000 + 40 * ri) (hi5 : 5 * ri + 5 ≤ L) (hL : L ≤ 2560) : W p l e room_1 s m args below meth k H locs cells slots Q (F0 m 456 ls []) := by
  obtain ⟨hlim, hOV, hdn4, hdgv, hUV⟩ := id hW.2.2.2.1
  obtain ⟨za, hba, hxa⟩ := zI_of (xs (5 * ri + 1))
  obtain ⟨zb, hbb, hxb⟩ := zI_of (xs (5 * ri + 2))
  obtain ⟨zc, hbc, hxc⟩ := zI_of (xs (5 * ri + 3))
  obtain ⟨zd, hbd, hxd⟩ := zI_of (xs (5 * ri + 4))
  have hba1 := hba.1
  have hba2 := hba.2
  have hbb1 := hbb.1
  have hbb2 := hbb.2
  have hbc1 := hbc.1
  have hbc2 := hbc.2
  have hbd1 := hbd.1
  have hbd2 := hbd.2
  by_cases ho : 0 ≤ za ∧ za ≤ (no : Int) - 1
  · by_cases h : (0 ≤ zb ∧ zb ≤ 8) ∧ (1 ≤ zc ∧ zc ≤ 32) ∧ 0 ≤ zd ∧ zd ≤ 8
    · exact law_c_fits C hnx w hW hl hcs hss hi5 hL (o := za.toNat) (x := zb.toNat) (mm := zc.toNat) (y := zd.toNat) (by omega) (by omega) ⟨by omega, by omega⟩ (by omega) (hxa.trans (congrArg zI (by omega))) (hxb.trans (congrArg zI (by omega))) (hxc.trans (congrArg zI (by omega))) (hxd.trans (congrArg zI (by omega)))
    · exact law_x_fits2 C hnx w hW hl hcs hss hi5 hL hba hbb hbc hbd ho h hxa hxb hxc hxd
  · exact law_x_fits1 C hnx w hW hl hcs hss hi5 hL hba ho hbb hbc hbd hxa hxb hxc hxd

set_option maxHeartbeats 1000000 in
set_option maxRecDepth 100000 in
theorem law_addNote (C : LX p l s m args k A b L xs) (hnx : NXT p l e s m args below meth k Q D G A b ri) (w : PW D G A s ad N c H locs) (hW : LWs G ad N c th lim no dn gn gg dg nn pt ln wi) (hl : lv_has ls 8 (lawLs ad b ri)) (hcs : cells ≤ 300 + 10 * ri) (hss : slots ≤ 9000 + 40 * ri) (hi5 : 5 * ri + 5 ≤ L) (hL : L ≤ 2560) : W p l e room_1 s m args below meth k H locs cells slots Q (F0 m 555 ls []) := by
  obtain ⟨hlim, hOV, hdn4, hdgv, hUV⟩ := id hW.2.2.2.1
  obtain ⟨za, hba, hxa⟩ := zI_of (xs (5 * ri + 1))
  obtain ⟨zb, hbb, hxb⟩ := zI_of (xs (5 * ri + 2))
  obtain ⟨zc, hbc, hxc⟩ := zI_of (xs (5 * ri + 3))
  have hba1 := hba.1
  have hba2 := hba.2
  have hbb1 := hbb.1
  have hbb2 := hbb.2
  have hbc1 := hbc.1
  have hbc2 := hbc.2
  by_cases h : (0 ≤ za ∧ za ≤ 3) ∧ (0 ≤ zb ∧ zb ≤ 8) ∧ 1 ≤ zc ∧ zc ≤ 32
  · have hnt := (hUV za.toNat (by omega)).1
    by_cases hn : nn za.toNat = 10
    · exact law_x_addNote2 C hnx w hW hl hcs hss hi5 hL (t := za.toNat) (x := zb.toNat) (mm := zc.toNat) (by omega) (by omega) ⟨by omega, by omega⟩ hn (hxa.trans (congrArg zI (by omega))) (hxb.trans (congrArg zI (by omega))) (hxc.trans (congrArg zI (by omega)))
    · exact law_c_addNote C hnx w hW hl hcs hss hi5 hL (t := za.toNat) (x := zb.toNat) (mm := zc.toNat) (by omega) (by omega) ⟨by omega, by omega⟩ (by omega) (hxa.trans (congrArg zI (by omega))) (hxb.trans (congrArg zI (by omega))) (hxc.trans (congrArg zI (by omega)))
  · exact law_x_addNote1 C hnx w hW hl hcs hss hi5 hL hba hbb hbc h hxa hxb hxc

set_option maxHeartbeats 1000000 in
set_option maxRecDepth 100000 in
theorem law_removeNote (C : LX p l s m args k A b L xs) (hnx : NXT p l e s m args below meth k Q D G A b ri) (w : PW D G A s ad N c H locs) (hW : LWs G ad N c th lim no dn gn gg dg nn pt ln wi) (hl : lv_has ls 8 (lawLs ad b ri)) (hcs : cells ≤ 300 + 10 * ri) (hss : slots ≤ 9000 + 40 * ri) (hi5 : 5 * ri + 5 ≤ L) (hL : L ≤ 2560) : W p l e room_1 s m args below meth k H locs cells slots Q (F0 m 635 ls []) := by
  obtain ⟨hlim, hOV, hdn4, hdgv, hUV⟩ := id hW.2.2.2.1
  obtain ⟨za, hba, hxa⟩ := zI_of (xs (5 * ri + 1))
  have hba1 := hba.1
  have hba2 := hba.2
  by_cases ht : 0 ≤ za ∧ za ≤ 3
  · have ht4 : za.toNat < 4 := by omega
    have hxt : xs (5 * ri + 1) = zI ((za.toNat : Nat) : Int) := hxa.trans (congrArg zI (by omega))
    have hnt := (hUV za.toNat ht4).1
    by_cases hn : nn za.toNat = 0
    · exact law_x_removeNote2 C hnx w hW hl hcs hss hi5 hL ht4 hn hxt
    · exact law_c_removeNote C hnx w hW hl hcs hss hi5 hL ht4 (by omega) hxt
  · exact law_x_removeNote1 C hnx w hW hl hcs hss hi5 hL hba ht hxa

set_option maxHeartbeats 1000000 in
set_option maxRecDepth 100000 in
theorem law_setWish (C : LX p l s m args k A b L xs) (hnx : NXT p l e s m args below meth k Q D G A b ri) (w : PW D G A s ad N c H locs) (hW : LWs G ad N c th lim no dn gn gg dg nn pt ln wi) (hl : lv_has ls 8 (lawLs ad b ri)) (hcs : cells ≤ 300 + 10 * ri) (hss : slots ≤ 9000 + 40 * ri) (hi5 : 5 * ri + 5 ≤ L) (hL : L ≤ 2560) : W p l e room_1 s m args below meth k H locs cells slots Q (F0 m 691 ls []) := by
  obtain ⟨hlim, hOV, hdn4, hdgv, hUV⟩ := id hW.2.2.2.1
  obtain ⟨za, hba, hxa⟩ := zI_of (xs (5 * ri + 1))
  obtain ⟨zb, hbb, hxb⟩ := zI_of (xs (5 * ri + 2))
  obtain ⟨zc, hbc, hxc⟩ := zI_of (xs (5 * ri + 3))
  have hba1 := hba.1
  have hba2 := hba.2
  have hbb1 := hbb.1
  have hbb2 := hbb.2
  have hbc1 := hbc.1
  have hbc2 := hbc.2
  obtain ⟨xw, hw0, hw1, hxw⟩ : ∃ xw : Int, (zc = 0 → xw = 0) ∧ (¬ zc = 0 → xw = 1) ∧ (xw = 0 ∨ xw = 1) := by
    by_cases h : zc = 0
    · exact ⟨0, fun _ => rfl, fun q => absurd h q, Or.inl rfl⟩
    · exact ⟨1, fun q => absurd q h, fun _ => rfl, Or.inr rfl⟩
  by_cases ht : 0 ≤ za ∧ za ≤ 3
  · have ht4 : za.toNat < 4 := by omega
    have hxt : xs (5 * ri + 1) = zI ((za.toNat : Nat) : Int) := hxa.trans (congrArg zI (by omega))
    have hnt := (hUV za.toNat ht4).1
    by_cases hg : 0 ≤ zb ∧ zb ≤ (nn za.toNat : Int) - 2
    · have hxg : xs (5 * ri + 2) = zI ((zb.toNat : Nat) : Int) := hxb.trans (congrArg zI (by omega))
      exact law_c_setWish C hnx w hW hl hcs hss hi5 hL ht4 (i := zb.toNat) (by omega) hxw (zw := zc) hbc hw0 hw1 hxt hxg hxc
    · exact law_x_setWish2 C hnx w hW hl hcs hss hi5 hL ht4 hbb hg (xw := xw) (zw := zc) hbc hw0 hw1 hxt hxb hxc
  · exact law_x_setWish1 C hnx w hW hl hcs hss hi5 hL hba ht (xw := xw) (zw := zc) hbc hw0 hw1 hxa hxb hxc

set_option maxHeartbeats 1000000 in
set_option maxRecDepth 100000 in
theorem law_notes (C : LX p l s m args k A b L xs) (hnx : NXT p l e s m args below meth k Q D G A b ri) (w : PW D G A s ad N c H locs) (hW : LWs G ad N c th lim no dn gn gg dg nn pt ln wi) (hl : lv_has ls 8 (lawLs ad b ri)) (hcs : cells ≤ 300 + 10 * ri) (hss : slots ≤ 9000 + 40 * ri) (hi5 : 5 * ri + 5 ≤ L) (hL : L ≤ 2560) : W p l e room_1 s m args below meth k H locs cells slots Q (F0 m 794 ls []) := by
  obtain ⟨hlim, hOV, hdn4, hdgv, hUV⟩ := id hW.2.2.2.1
  obtain ⟨za, hba, hxa⟩ := zI_of (xs (5 * ri + 1))
  have hba1 := hba.1
  have hba2 := hba.2
  by_cases ht : 0 ≤ za ∧ za ≤ 3
  · have ht4 : za.toNat < 4 := by omega
    have hxt : xs (5 * ri + 1) = zI ((za.toNat : Nat) : Int) := hxa.trans (congrArg zI (by omega))
    have hnt := (hUV za.toNat ht4).1
    exact law_c_notes C hnx w hW hl hcs hss hi5 hL ht4 hxt
  · exact law_x_notes C hnx w hW hl hcs hss hi5 hL hba ht hxa

set_option maxHeartbeats 1000000 in
set_option maxRecDepth 100000 in
theorem law_time (C : LX p l s m args k A b L xs) (hnx : NXT p l e s m args below meth k Q D G A b ri) (w : PW D G A s ad N c H locs) (hW : LWs G ad N c th lim no dn gn gg dg nn pt ln wi) (hl : lv_has ls 8 (lawLs ad b ri)) (hcs : cells ≤ 300 + 10 * ri) (hss : slots ≤ 9000 + 40 * ri) (hi5 : 5 * ri + 5 ≤ L) (hL : L ≤ 2560) : W p l e room_1 s m args below meth k H locs cells slots Q (F0 m 850 ls []) := by
  obtain ⟨hlim, hOV, hdn4, hdgv, hUV⟩ := id hW.2.2.2.1
  obtain ⟨za, hba, hxa⟩ := zI_of (xs (5 * ri + 1))
  obtain ⟨zb, hbb, hxb⟩ := zI_of (xs (5 * ri + 2))
  have hba1 := hba.1
  have hba2 := hba.2
  have hbb1 := hbb.1
  have hbb2 := hbb.2
  by_cases ht : 0 ≤ za ∧ za ≤ 3
  · have ht4 : za.toNat < 4 := by omega
    have hxt : xs (5 * ri + 1) = zI ((za.toNat : Nat) : Int) := hxa.trans (congrArg zI (by omega))
    have hnt := (hUV za.toNat ht4).1
    by_cases hg : 0 ≤ zb ∧ zb ≤ (nn za.toNat : Int) - 1
    · have hxg : xs (5 * ri + 2) = zI ((zb.toNat : Nat) : Int) := hxb.trans (congrArg zI (by omega))
      by_cases hlt : (lessOf (Rr (cwT lim no gn gg nn pt ln wi za.toNat) (nn za.toNat - 1) 0)) < 1000000
      · by_cases hi2 : zb.toNat + 1 = nn za.toNat
        · exact law_c_time_last C hnx w hW hl hcs hss hi5 hL ht4 (i := zb.toNat) (by omega) hi2 hlt hxt hxg
        · exact law_c_time C hnx w hW hl hcs hss hi5 hL ht4 (i := zb.toNat) (by omega) (by omega) hlt hxt hxg
      · exact law_x_time3 C hnx w hW hl hcs hss hi5 hL ht4 (i := zb.toNat) (by omega) hlt hxt hxg
    · exact law_x_time2 C hnx w hW hl hcs hss hi5 hL ht4 hbb hg hxt hxb
  · exact law_x_time1 C hnx w hW hl hcs hss hi5 hL hba ht hxa hxb

set_option maxHeartbeats 1000000 in
set_option maxRecDepth 100000 in
theorem law_fitting (C : LX p l s m args k A b L xs) (hnx : NXT p l e s m args below meth k Q D G A b ri) (w : PW D G A s ad N c H locs) (hW : LWs G ad N c th lim no dn gn gg dg nn pt ln wi) (hl : lv_has ls 8 (lawLs ad b ri)) (hcs : cells ≤ 300 + 10 * ri) (hss : slots ≤ 9000 + 40 * ri) (hi5 : 5 * ri + 5 ≤ L) (hL : L ≤ 2560) : W p l e room_1 s m args below meth k H locs cells slots Q (F0 m 918 ls []) := by
  obtain ⟨hlim, hOV, hdn4, hdgv, hUV⟩ := id hW.2.2.2.1
  obtain ⟨za, hba, hxa⟩ := zI_of (xs (5 * ri + 1))
  obtain ⟨zb, hbb, hxb⟩ := zI_of (xs (5 * ri + 2))
  have hba1 := hba.1
  have hba2 := hba.2
  have hbb1 := hbb.1
  have hbb2 := hbb.2
  by_cases ht : 0 ≤ za ∧ za ≤ 3
  · have ht4 : za.toNat < 4 := by omega
    have hxt : xs (5 * ri + 1) = zI ((za.toNat : Nat) : Int) := hxa.trans (congrArg zI (by omega))
    have hnt := (hUV za.toNat ht4).1
    by_cases hg : 0 ≤ zb ∧ zb ≤ (nn za.toNat : Int) - 2
    · have hxg : xs (5 * ri + 2) = zI ((zb.toNat : Nat) : Int) := hxb.trans (congrArg zI (by omega))
      exact law_c_fitting C hnx w hW hl hcs hss hi5 hL ht4 (i := zb.toNat) (by omega) hxt hxg
    · exact law_x_fitting2 C hnx w hW hl hcs hss hi5 hL ht4 hbb hg hxt hxb
  · exact law_x_fitting1 C hnx w hW hl hcs hss hi5 hL hba ht hxa hxb

set_option maxHeartbeats 1000000 in
set_option maxRecDepth 100000 in
theorem law_choices (C : LX p l s m args k A b L xs) (hnx : NXT p l e s m args below meth k Q D G A b ri) (w : PW D G A s ad N c H locs) (hW : LWs G ad N c th lim no dn gn gg dg nn pt ln wi) (hl : lv_has ls 8 (lawLs ad b ri)) (hcs : cells ≤ 300 + 10 * ri) (hss : slots ≤ 9000 + 40 * ri) (hi5 : 5 * ri + 5 ≤ L) (hL : L ≤ 2560) : W p l e room_1 s m args below meth k H locs cells slots Q (F0 m 986 ls []) := by
  obtain ⟨hlim, hOV, hdn4, hdgv, hUV⟩ := id hW.2.2.2.1
  obtain ⟨za, hba, hxa⟩ := zI_of (xs (5 * ri + 1))
  have hba1 := hba.1
  have hba2 := hba.2
  by_cases ht : 0 ≤ za ∧ za ≤ 3
  · have ht4 : za.toNat < 4 := by omega
    have hxt : xs (5 * ri + 1) = zI ((za.toNat : Nat) : Int) := hxa.trans (congrArg zI (by omega))
    have hnt := (hUV za.toNat ht4).1
    exact law_c_choices C hnx w hW hl hcs hss hi5 hL ht4 hxt
  · exact law_x_choices C hnx w hW hl hcs hss hi5 hL hba ht hxa

set_option maxHeartbeats 1000000 in
set_option maxRecDepth 100000 in
theorem law_least (C : LX p l s m args k A b L xs) (hnx : NXT p l e s m args below meth k Q D G A b ri) (w : PW D G A s ad N c H locs) (hW : LWs G ad N c th lim no dn gn gg dg nn pt ln wi) (hl : lv_has ls 8 (lawLs ad b ri)) (hcs : cells ≤ 300 + 10 * ri) (hss : slots ≤ 9000 + 40 * ri) (hi5 : 5 * ri + 5 ≤ L) (hL : L ≤ 2560) : W p l e room_1 s m args below meth k H locs cells slots Q (F0 m 1042 ls []) := by
  obtain ⟨hlim, hOV, hdn4, hdgv, hUV⟩ := id hW.2.2.2.1
  obtain ⟨za, hba, hxa⟩ := zI_of (xs (5 * ri + 1))
  have hba1 := hba.1
  have hba2 := hba.2
  by_cases ht : 0 ≤ za ∧ za ≤ 3
  · have ht4 : za.toNat < 4 := by omega
    have hxt : xs (5 * ri + 1) = zI ((za.toNat : Nat) : Int) := hxa.trans (congrArg zI (by omega))
    have hnt := (hUV za.toNat ht4).1
    by_cases hlt : (lessOf (Rr (cwT lim no gn gg nn pt ln wi za.toNat) (nn za.toNat - 1) 0)) < 1000000
    · exact law_c_least C hnx w hW hl hcs hss hi5 hL ht4 hlt hxt
    · exact law_x_least2 C hnx w hW hl hcs hss hi5 hL ht4 hlt hxt
  · exact law_x_least1 C hnx w hW hl hcs hss hi5 hL hba ht hxa

set_option maxHeartbeats 1000000 in
set_option maxRecDepth 100000 in
theorem law_mostOrnaments (C : LX p l s m args k A b L xs) (hnx : NXT p l e s m args below meth k Q D G A b ri) (w : PW D G A s ad N c H locs) (hW : LWs G ad N c th lim no dn gn gg dg nn pt ln wi) (hl : lv_has ls 8 (lawLs ad b ri)) (hcs : cells ≤ 300 + 10 * ri) (hss : slots ≤ 9000 + 40 * ri) (hi5 : 5 * ri + 5 ≤ L) (hL : L ≤ 2560) : W p l e room_1 s m args below meth k H locs cells slots Q (F0 m 1166 ls []) := by
  obtain ⟨hlim, hOV, hdn4, hdgv, hUV⟩ := id hW.2.2.2.1
  obtain ⟨za, hba, hxa⟩ := zI_of (xs (5 * ri + 1))
  have hba1 := hba.1
  have hba2 := hba.2
  by_cases ht : 0 ≤ za ∧ za ≤ 3
  · have ht4 : za.toNat < 4 := by omega
    have hxt : xs (5 * ri + 1) = zI ((za.toNat : Nat) : Int) := hxa.trans (congrArg zI (by omega))
    have hnt := (hUV za.toNat ht4).1
    by_cases hlt : (lessOf (Rr (cwT lim no gn gg nn pt ln wi za.toNat) (nn za.toNat - 1) 0)) < 1000000
    · exact law_c_mostOrnaments C hnx w hW hl hcs hss hi5 hL ht4 hlt hxt
    · exact law_x_mostOrnaments2 C hnx w hW hl hcs hss hi5 hL ht4 hlt hxt
  · exact law_x_mostOrnaments1 C hnx w hW hl hcs hss hi5 hL hba ht hxa

set_option maxHeartbeats 1000000 in
set_option maxRecDepth 100000 in
theorem law_average (C : LX p l s m args k A b L xs) (hnx : NXT p l e s m args below meth k Q D G A b ri) (w : PW D G A s ad N c H locs) (hW : LWs G ad N c th lim no dn gn gg dg nn pt ln wi) (hl : lv_has ls 8 (lawLs ad b ri)) (hcs : cells ≤ 300 + 10 * ri) (hss : slots ≤ 9000 + 40 * ri) (hi5 : 5 * ri + 5 ≤ L) (hL : L ≤ 2560) : W p l e room_1 s m args below meth k H locs cells slots Q (F0 m 1222 ls []) := by
  obtain ⟨hlim, hOV, hdn4, hdgv, hUV⟩ := id hW.2.2.2.1
  obtain ⟨za, hba, hxa⟩ := zI_of (xs (5 * ri + 1))
  have hba1 := hba.1
  have hba2 := hba.2
  by_cases ht : 0 ≤ za ∧ za ≤ 3
  · have ht4 : za.toNat < 4 := by omega
    have hxt : xs (5 * ri + 1) = zI ((za.toNat : Nat) : Int) := hxa.trans (congrArg zI (by omega))
    have hnt := (hUV za.toNat ht4).1
    by_cases hlt : (lessOf (Rr (cwT lim no gn gg nn pt ln wi za.toNat) (nn za.toNat - 1) 0)) < 1000000
    · exact law_c_average C hnx w hW hl hcs hss hi5 hL ht4 hlt hxt
    · exact law_x_average2 C hnx w hW hl hcs hss hi5 hL ht4 hlt hxt
  · exact law_x_average1 C hnx w hW hl hcs hss hi5 hL hba ht hxa

set_option maxHeartbeats 1000000 in
set_option maxRecDepth 100000 in
theorem law_chosen (C : LX p l s m args k A b L xs) (hnx : NXT p l e s m args below meth k Q D G A b ri) (w : PW D G A s ad N c H locs) (hW : LWs G ad N c th lim no dn gn gg dg nn pt ln wi) (hl : lv_has ls 8 (lawLs ad b ri)) (hcs : cells ≤ 300 + 10 * ri) (hss : slots ≤ 9000 + 40 * ri) (hi5 : 5 * ri + 5 ≤ L) (hL : L ≤ 2560) : W p l e room_1 s m args below meth k H locs cells slots Q (F0 m 1098 ls []) := by
  obtain ⟨hlim, hOV, hdn4, hdgv, hUV⟩ := id hW.2.2.2.1
  obtain ⟨za, hba, hxa⟩ := zI_of (xs (5 * ri + 1))
  obtain ⟨zb, hbb, hxb⟩ := zI_of (xs (5 * ri + 2))
  have hba1 := hba.1
  have hba2 := hba.2
  have hbb1 := hbb.1
  have hbb2 := hbb.2
  by_cases ht : 0 ≤ za ∧ za ≤ 3
  · have ht4 : za.toNat < 4 := by omega
    have hxt : xs (5 * ri + 1) = zI ((za.toNat : Nat) : Int) := hxa.trans (congrArg zI (by omega))
    have hnt := (hUV za.toNat ht4).1
    by_cases hg : 0 ≤ zb ∧ zb ≤ (nn za.toNat : Int) - 2
    · have hxg : xs (5 * ri + 2) = zI ((zb.toNat : Nat) : Int) := hxb.trans (congrArg zI (by omega))
      by_cases hlt : (lessOf (Rr (cwT lim no gn gg nn pt ln wi za.toNat) (nn za.toNat - 1) 0)) < 1000000
      · exact law_c_chosen C hnx w hW hl hcs hss hi5 hL ht4 (i := zb.toNat) (by omega) hlt hxt hxg
      · exact law_x_chosen3 C hnx w hW hl hcs hss hi5 hL ht4 (i := zb.toNat) (by omega) hlt hxt hxg
    · exact law_x_chosen2 C hnx w hW hl hcs hss hi5 hL ht4 hbb hg hxt hxb
  · exact law_x_chosen1 C hnx w hW hl hcs hss hi5 hL hba ht hxa hxb

set_option maxHeartbeats 1000000 in
set_option maxRecDepth 100000 in
theorem law_leastSet (C : LX p l s m args k A b L xs) (hnx : NXT p l e s m args below meth k Q D G A b ri) (w : PW D G A s ad N c H locs) (hW : LWs G ad N c th lim no dn gn gg dg nn pt ln wi) (hl : lv_has ls 8 (lawLs ad b ri)) (hcs : cells ≤ 300 + 10 * ri) (hss : slots ≤ 9000 + 40 * ri) (hi5 : 5 * ri + 5 ≤ L) (hL : L ≤ 2560) : W p l e room_1 s m args below meth k H locs cells slots Q (F0 m 1300 ls []) := by
  obtain ⟨-, -, -, -, -, -, -, bo, hb0⟩ := hW.2.2.1.2.2.2.2.2
  by_cases hn : (goF lim no gn gg nn pt ln wi bo 256).1 = 0
  · exact law_x_leastSet C hnx w hW hl hcs hss hi5 hL hb0 hn
  · exact law_c_leastSet C hnx w hW hl hcs hss hi5 hL hb0 hn

set_option maxHeartbeats 1000000 in
set_option maxRecDepth 100000 in
theorem law_tuneAt (C : LX p l s m args k A b L xs) (hnx : NXT p l e s m args below meth k Q D G A b ri) (w : PW D G A s ad N c H locs) (hW : LWs G ad N c th lim no dn gn gg dg nn pt ln wi) (hl : lv_has ls 8 (lawLs ad b ri)) (hcs : cells ≤ 300 + 10 * ri) (hss : slots ≤ 9000 + 40 * ri) (hi5 : 5 * ri + 5 ≤ L) (hL : L ≤ 2560) : W p l e room_1 s m args below meth k H locs cells slots Q (F0 m 1344 ls []) := by
  obtain ⟨-, -, -, -, -, -, -, bo, hb0⟩ := hW.2.2.1.2.2.2.2.2
  obtain ⟨za, hba, hxa⟩ := zI_of (xs (5 * ri + 1))
  have hba1 := hba.1
  have hba2 := hba.2
  by_cases hn : (goF lim no gn gg nn pt ln wi bo 256).1 = 0
  · exact law_x_tuneAt1 C hnx w hW hl hcs hss hi5 hL hb0 hn hba hxa
  · by_cases hi : 0 ≤ za ∧ za ≤ (tC nn 4 : Int) - 1
    · exact law_c_tuneAt C hnx w hW hl hcs hss hi5 hL hb0 hn (i := za.toNat) (by omega) (hxa.trans (congrArg zI (by omega)))
    · exact law_x_tuneAt2 C hnx w hW hl hcs hss hi5 hL hb0 hn hba hi hxa

end LCW
