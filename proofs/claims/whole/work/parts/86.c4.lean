section LC4
variable {p : Program} {l : Launch} {e : Env} {s : State} {m : MethodId} {args : Array Value} {below : List Frame} {meth : Method} {k : Code} {H : Heap} {locs : List Loc} {cells slots : Nat} {Q : State → Prop} {ls : Array Slot} {D : va_G} {G : Nat → ClassId} {A : Nat → Prop} {ad : Nat → Nat} {N : Nat} {c : Nat → va_E} {b L ri : Nat} {xs : Nat → Int32}
variable {th lim : Int} {no dn : Nat} {gn : Nat → Nat} {gg : Nat → Nat → Nat} {dg nn : Nat → Nat} {pt ln : Nat → Nat → Nat} {wi : Nat → Nat → Int}
set_option maxHeartbeats 1000000 in
set_option maxRecDepth 100000 in
theorem law_c_mostOrnaments (C : LX p l s m args k A b L xs) (hnx : NXT p l e s m args below meth k Q D G A b ri) (w : PW D G A s ad N c H locs) (hW : LWs G ad N c th lim no dn gn gg dg nn pt ln wi) (hl : lv_has ls 8 (lawLs ad b ri)) (hcs : cells ≤ 300 + 10 * ri) (hss : slots ≤ 9000 + 40 * ri) (hi5 : 5 * ri + 5 ≤ L) (hL : L ≤ 2560) {t : Nat} (ht : t < 4) (hlt : (lessOf (Rr (cwT lim no gn gg nn pt ln wi t) (nn t - 1) 0)) < 1000000)  (hx1 : xs (5 * ri + 1) = zI (t : Int)) : W p l e room_1 s m args below meth k H locs cells slots Q (F0 m 1166 ls []) := by
  obtain ⟨hx, hb, hts, hown, hml, hX, hbl, hbA, hsT⟩ := id C
  obtain ⟨hNe, hD, hM, hV, ⟨v0, hO⟩, hB⟩ := hW
  have hN : 139 + 2 * no ≤ N := by omega
  obtain ⟨hlim, hOV, hdn4, hdgv, hUV⟩ := id hV
  have hW9 : 0 < (TV lim no gn gg (nn t) (pt t) (ln t) (wi t)).2.1 := (T_pos hOV hUV ht).mpr (by rw [← T_least hOV hUV ht]; exact hlt)
  have hWn : ¬ (TV lim no gn gg (nn t) (pt t) (ln t) (wi t)).2.1 = 0 := by omega
  refine lv_aload_n hx hb dL_law_1166 rfl (lv_at hl 1 rfl) ?_
  refine lw_arg (j := 1) (z := (t : Int)) 1173 rfl C w (lv_at hl 0 rfl) (lv_at hl 5 rfl) hi5 hL (by decide) hx1 dL_law_1167 dL_law_1168 dL_law_1170 dL_law_1171 dL_law_1172 ?_
  refine lv_aload_n hx hb dL_law_1173 rfl (lv_at hl 3 rfl) ?_
  refine pw_ci w (pw_runSW (As := [.ref (ad 0), .int (zI (t : Int)), .ref (ad 137)]) (rest := []) w ⟨hx, hb, hml, hown, hts⟩ (c_L_mostOrnaments l D G ad N c hN hD hV (t := t) ht hlt hO) (vx_cwSW 3 hts gL_law_L_mostOrnaments rfl rfl rfl (by decide +kernel) ⟨Nat.le_of_ble_eq_true rfl, Nat.le_of_ble_eq_true rfl⟩) rfl hl.1 rfl (lv_room (Nat.le_of_ble_eq_true rfl)) dL_law_1174 ⟨by show cells + 1 ≤ 821725; omega, by show slots + 6 ≤ 6630930; omega⟩) (fun r_ c1 H locs hp w => ?_)
  have w : PW D G A s ad N c1 H locs := w
  obtain ⟨hv1, hO1, hD1, fr1⟩ := hp
  subst hv1
  have hM1 := hM.out (ad1 := ad) (c1 := c1) (fun _ _ => rfl) (fun q h1 h2 => fr1 q (by omega))
  have hB1 : ∃ v, dbA G (c1 138) v := hB.imp (fun v h => dbA.fr (fr1 138 (by omega)) h)
  refine lv_istore (lv' := [(6, .int (zI 0)), (0, .ref b), (1, .ref (ad 0)), (2, .ref (ad 120)), (3, .ref (ad 137)), (4, .ref (ad 138)), (5, .int (zI ((5 * ri : Nat) : Int)))]) hx hb dL_law_1177 hl (by decide) rfl (fun ls hl => ?_)
  refine lv_aload_n hx hb dL_law_1179 rfl (lv_at hl 3 rfl) ?_
  refine lw_arg (j := 1) (z := (t : Int)) 1186 rfl C w (lv_at hl 1 rfl) (lv_at hl 6 rfl) hi5 hL (by decide) hx1 dL_law_1180 dL_law_1181 dL_law_1183 dL_law_1184 dL_law_1185 ?_
  refine pw_ci w (pw_runV (r := 120) (ci := 8) (As := [.int (zI (t : Int))]) (rest := []) w ⟨hx, hb, hml, hown, hts⟩ (c_X8_mostOrnaments_ok l D G ad N c1 (by omega) hM1 hV ht hWn) (cwV 1 hts gL_law_X8_mostOrnaments rfl rfl rfl (by decide +kernel) ⟨Nat.le_of_ble_eq_true rfl, Nat.le_of_ble_eq_true rfl⟩) (by omega) hM1.1.choose_spec rfl rfl hl.1 rfl (lv_room (Nat.le_of_ble_eq_true rfl)) dL_law_1186 ⟨by show cells + 1 + 0 ≤ 821725; omega, by show slots + 6 + 0 ≤ 6630930; omega⟩) (fun r2 c2 H locs hp w => ?_)
  have w : PW D G A s ad N c2 H locs := w
  obtain ⟨hv2, hM2, fr2⟩ := hp
  subst hv2
  refine lv_istore (lv' := [(7, .int (zI ((TV lim no gn gg (nn t) (pt t) (ln t) (wi t)).2.2))), (6, .int (zI 0)), (0, .ref b), (1, .ref (ad 0)), (2, .ref (ad 120)), (3, .ref (ad 137)), (4, .ref (ad 138)), (5, .int (zI ((5 * ri : Nat) : Int)))]) hx hb dL_law_1189 hl (by decide) rfl (fun ls hl => ?_)
  have hD2 := hD1.fr (fun q hq => fr2 q (by omega))
  exact lw_tailI (q1 := 1202) (q2 := 1219) (q3 := 1207) C hnx w hNe hD2 hM2 hV ⟨_, lnA.fr (fr2 137 (by omega)) hO1, fun _ => (congrArg (fun z => (zI z).toInt64) (T_most hOV hUV ht hW9))⟩ (hB1.imp (fun v h => dbA.fr (fr2 138 (by omega)) h)) ⟨by decide, by decide⟩ (by omega) (by omega) (by omega) (lv_at hl 4 rfl) (lv_at hl 5 rfl) (lv_at hl 1 rfl) (lv_at hl 0 rfl) (lv_sub hl [2, 3, 4, 5, 6, 7] rfl) dL_law_1191 dL_law_1192 dL_law_1195 dL_law_1197 rfl dL_law_1202 dL_law_1204 (by decide) rfl dL_law_1207 dL_law_1208 dL_law_1209 dL_law_1210 dL_law_1212 dL_law_1213 dL_law_1214 dL_law_1219 (by decide)

set_option maxHeartbeats 1000000 in
set_option maxRecDepth 100000 in
theorem law_x_mostOrnaments1 (C : LX p l s m args k A b L xs) (hnx : NXT p l e s m args below meth k Q D G A b ri) (w : PW D G A s ad N c H locs) (hW : LWs G ad N c th lim no dn gn gg dg nn pt ln wi) (hl : lv_has ls 8 (lawLs ad b ri)) (hcs : cells ≤ 300 + 10 * ri) (hss : slots ≤ 9000 + 40 * ri) (hi5 : 5 * ri + 5 ≤ L) (hL : L ≤ 2560) {zt : Int} (hbzt : bnd zt) (hbad : ¬ (0 ≤ zt ∧ zt ≤ 3))  (hx1 : xs (5 * ri + 1) = zI zt) : W p l e room_1 s m args below meth k H locs cells slots Q (F0 m 1166 ls []) := by
  obtain ⟨hx, hb, hts, hown, hml, hX, hbl, hbA, hsT⟩ := id C
  obtain ⟨hNe, hD, hM, hV, ⟨v0, hO⟩, hB⟩ := hW
  have hN : 139 + 2 * no ≤ N := by omega
  obtain ⟨hlim, hOV, hdn4, hdgv, hUV⟩ := id hV
  refine lv_aload_n hx hb dL_law_1166 rfl (lv_at hl 1 rfl) ?_
  refine lw_arg (j := 1) (z := zt) 1173 rfl C w (lv_at hl 0 rfl) (lv_at hl 5 rfl) hi5 hL (by decide) hx1 dL_law_1167 dL_law_1168 dL_law_1170 dL_law_1171 dL_law_1172 ?_
  refine lv_aload_n hx hb dL_law_1173 rfl (lv_at hl 3 rfl) ?_
  refine pw_ci w (pw_runSW (As := [.ref (ad 0), .int (zI zt), .ref (ad 137)]) (rest := []) w ⟨hx, hb, hml, hown, hts⟩ (x_L_mostOrnaments1 l hsT D G ad N c hN hD hV (zt := zt) hbzt hbad) (vx_cwSW 3 hts gL_law_L_mostOrnaments rfl rfl rfl (by decide +kernel) ⟨Nat.le_of_ble_eq_true rfl, Nat.le_of_ble_eq_true rfl⟩) rfl hl.1 rfl (lv_room (Nat.le_of_ble_eq_true rfl)) dL_law_1174 ⟨by show cells + 1 ≤ 821725; omega, by show slots + 6 ≤ 6630930; omega⟩) (fun r_ c1 H locs hp w => ?_)
  have w : PW D G A s ad N c1 H locs := w
  obtain ⟨hv1, hD1, fr1⟩ := hp
  subst hv1
  have hM1 := hM.out (ad1 := ad) (c1 := c1) (fun _ _ => rfl) (fun q h1 h2 => fr1 q (by omega))
  have hB1 : ∃ v, dbA G (c1 138) v := hB.imp (fun v h => dbA.fr (fr1 138 (by omega)) h)
  have hO1 := lnA.fr (fr1 137 (by omega)) hO
  refine lv_istore (lv' := [(6, .int (zI 1)), (0, .ref b), (1, .ref (ad 0)), (2, .ref (ad 120)), (3, .ref (ad 137)), (4, .ref (ad 138)), (5, .int (zI ((5 * ri : Nat) : Int)))]) hx hb dL_law_1177 hl (by decide) rfl (fun ls hl => ?_)
  refine lv_aload_n hx hb dL_law_1179 rfl (lv_at hl 3 rfl) ?_
  refine lw_arg (j := 1) (z := zt) 1186 rfl C w (lv_at hl 1 rfl) (lv_at hl 6 rfl) hi5 hL (by decide) hx1 dL_law_1180 dL_law_1181 dL_law_1183 dL_law_1184 dL_law_1185 ?_
  refine pw_ci w (pw_runV (r := 120) (ci := 8) (As := [.int (zI zt)]) (rest := []) w ⟨hx, hb, hml, hown, hts⟩ (c_X8_mostOrnaments_bad1 l D G ad N c1 (by omega) hM1 hV hbzt hbad) (cwV 1 hts gL_law_X8_mostOrnaments rfl rfl rfl (by decide +kernel) ⟨Nat.le_of_ble_eq_true rfl, Nat.le_of_ble_eq_true rfl⟩) (by omega) hM1.1.choose_spec rfl rfl hl.1 rfl (lv_room (Nat.le_of_ble_eq_true rfl)) dL_law_1186 ⟨by show cells + 1 + 0 ≤ 821725; omega, by show slots + 6 + 0 ≤ 6630930; omega⟩) (fun r2 c2 H locs hp w => ?_)
  have w : PW D G A s ad N c2 H locs := w
  obtain ⟨hv2, hM2, fr2⟩ := hp
  subst hv2
  refine lv_istore (lv' := [(7, .int (zI 0)), (6, .int (zI 1)), (0, .ref b), (1, .ref (ad 0)), (2, .ref (ad 120)), (3, .ref (ad 137)), (4, .ref (ad 138)), (5, .int (zI ((5 * ri : Nat) : Int)))]) hx hb dL_law_1189 hl (by decide) rfl (fun ls hl => ?_)
  have hD2 := hD1.fr (fun q hq => fr2 q (by omega))
  exact lw_tailI (q1 := 1202) (q2 := 1219) (q3 := 1207) C hnx w hNe hD2 hM2 hV ⟨_, lnA.fr (fr2 137 (by omega)) hO1, fun h => absurd h (by decide)⟩ (hB1.imp (fun v h => dbA.fr (fr2 138 (by omega)) h)) ⟨by decide, by decide⟩ (by omega) (by omega) (by omega) (lv_at hl 4 rfl) (lv_at hl 5 rfl) (lv_at hl 1 rfl) (lv_at hl 0 rfl) (lv_sub hl [2, 3, 4, 5, 6, 7] rfl) dL_law_1191 dL_law_1192 dL_law_1195 dL_law_1197 rfl dL_law_1202 dL_law_1204 (by decide) rfl dL_law_1207 dL_law_1208 dL_law_1209 dL_law_1210 dL_law_1212 dL_law_1213 dL_law_1214 dL_law_1219 (by decide)

set_option maxHeartbeats 1000000 in
set_option maxRecDepth 100000 in
theorem law_x_mostOrnaments2 (C : LX p l s m args k A b L xs) (hnx : NXT p l e s m args below meth k Q D G A b ri) (w : PW D G A s ad N c H locs) (hW : LWs G ad N c th lim no dn gn gg dg nn pt ln wi) (hl : lv_has ls 8 (lawLs ad b ri)) (hcs : cells ≤ 300 + 10 * ri) (hss : slots ≤ 9000 + 40 * ri) (hi5 : 5 * ri + 5 ≤ L) (hL : L ≤ 2560) {t : Nat} (ht : t < 4) (hlt : ¬ (lessOf (Rr (cwT lim no gn gg nn pt ln wi t) (nn t - 1) 0)) < 1000000)  (hx1 : xs (5 * ri + 1) = zI (t : Int)) : W p l e room_1 s m args below meth k H locs cells slots Q (F0 m 1166 ls []) := by
  obtain ⟨hx, hb, hts, hown, hml, hX, hbl, hbA, hsT⟩ := id C
  obtain ⟨hNe, hD, hM, hV, ⟨v0, hO⟩, hB⟩ := hW
  have hN : 139 + 2 * no ≤ N := by omega
  obtain ⟨hlim, hOV, hdn4, hdgv, hUV⟩ := id hV
  have hWn : (TV lim no gn gg (nn t) (pt t) (ln t) (wi t)).2.1 = 0 := by
    have h1 := (TV_bd (lim := lim) hOV (hUV t ht)).2.2.1
    have h2 := mt (T_pos (lim := lim) (wi := wi) hOV hUV ht).mp (by rw [← T_least hOV hUV ht]; exact hlt)
    omega
  refine lv_aload_n hx hb dL_law_1166 rfl (lv_at hl 1 rfl) ?_
  refine lw_arg (j := 1) (z := (t : Int)) 1173 rfl C w (lv_at hl 0 rfl) (lv_at hl 5 rfl) hi5 hL (by decide) hx1 dL_law_1167 dL_law_1168 dL_law_1170 dL_law_1171 dL_law_1172 ?_
  refine lv_aload_n hx hb dL_law_1173 rfl (lv_at hl 3 rfl) ?_
  refine pw_ci w (pw_runSW (As := [.ref (ad 0), .int (zI (t : Int)), .ref (ad 137)]) (rest := []) w ⟨hx, hb, hml, hown, hts⟩ (x_L_mostOrnaments2 l hsT D G ad N c hN hD hV (t := t) ht hlt) (vx_cwSW 3 hts gL_law_L_mostOrnaments rfl rfl rfl (by decide +kernel) ⟨Nat.le_of_ble_eq_true rfl, Nat.le_of_ble_eq_true rfl⟩) rfl hl.1 rfl (lv_room (Nat.le_of_ble_eq_true rfl)) dL_law_1174 ⟨by show cells + 1 ≤ 821725; omega, by show slots + 6 ≤ 6630930; omega⟩) (fun r_ c1 H locs hp w => ?_)
  have w : PW D G A s ad N c1 H locs := w
  obtain ⟨hv1, hD1, fr1⟩ := hp
  subst hv1
  have hM1 := hM.out (ad1 := ad) (c1 := c1) (fun _ _ => rfl) (fun q h1 h2 => fr1 q (by omega))
  have hB1 : ∃ v, dbA G (c1 138) v := hB.imp (fun v h => dbA.fr (fr1 138 (by omega)) h)
  have hO1 := lnA.fr (fr1 137 (by omega)) hO
  refine lv_istore (lv' := [(6, .int (zI 2)), (0, .ref b), (1, .ref (ad 0)), (2, .ref (ad 120)), (3, .ref (ad 137)), (4, .ref (ad 138)), (5, .int (zI ((5 * ri : Nat) : Int)))]) hx hb dL_law_1177 hl (by decide) rfl (fun ls hl => ?_)
  refine lv_aload_n hx hb dL_law_1179 rfl (lv_at hl 3 rfl) ?_
  refine lw_arg (j := 1) (z := (t : Int)) 1186 rfl C w (lv_at hl 1 rfl) (lv_at hl 6 rfl) hi5 hL (by decide) hx1 dL_law_1180 dL_law_1181 dL_law_1183 dL_law_1184 dL_law_1185 ?_
  refine pw_ci w (pw_runV (r := 120) (ci := 8) (As := [.int (zI (t : Int))]) (rest := []) w ⟨hx, hb, hml, hown, hts⟩ (c_X8_mostOrnaments_bad2 l D G ad N c1 (by omega) hM1 hV ht hWn) (cwV 1 hts gL_law_X8_mostOrnaments rfl rfl rfl (by decide +kernel) ⟨Nat.le_of_ble_eq_true rfl, Nat.le_of_ble_eq_true rfl⟩) (by omega) hM1.1.choose_spec rfl rfl hl.1 rfl (lv_room (Nat.le_of_ble_eq_true rfl)) dL_law_1186 ⟨by show cells + 1 + 0 ≤ 821725; omega, by show slots + 6 + 0 ≤ 6630930; omega⟩) (fun r2 c2 H locs hp w => ?_)
  have w : PW D G A s ad N c2 H locs := w
  obtain ⟨hv2, hM2, fr2⟩ := hp
  subst hv2
  refine lv_istore (lv' := [(7, .int (zI 0)), (6, .int (zI 2)), (0, .ref b), (1, .ref (ad 0)), (2, .ref (ad 120)), (3, .ref (ad 137)), (4, .ref (ad 138)), (5, .int (zI ((5 * ri : Nat) : Int)))]) hx hb dL_law_1189 hl (by decide) rfl (fun ls hl => ?_)
  have hD2 := hD1.fr (fun q hq => fr2 q (by omega))
  exact lw_tailI (q1 := 1202) (q2 := 1219) (q3 := 1207) C hnx w hNe hD2 hM2 hV ⟨_, lnA.fr (fr2 137 (by omega)) hO1, fun h => absurd h (by decide)⟩ (hB1.imp (fun v h => dbA.fr (fr2 138 (by omega)) h)) ⟨by decide, by decide⟩ (by omega) (by omega) (by omega) (lv_at hl 4 rfl) (lv_at hl 5 rfl) (lv_at hl 1 rfl) (lv_at hl 0 rfl) (lv_sub hl [2, 3, 4, 5, 6, 7] rfl) dL_law_1191 dL_law_1192 dL_law_1195 dL_law_1197 rfl dL_law_1202 dL_law_1204 (by decide) rfl dL_law_1207 dL_law_1208 dL_law_1209 dL_law_1210 dL_law_1212 dL_law_1213 dL_law_1214 dL_law_1219 (by decide)

set_option maxHeartbeats 1000000 in
set_option maxRecDepth 100000 in
theorem law_c_average (C : LX p l s m args k A b L xs) (hnx : NXT p l e s m args below meth k Q D G A b ri) (w : PW D G A s ad N c H locs) (hW : LWs G ad N c th lim no dn gn gg dg nn pt ln wi) (hl : lv_has ls 8 (lawLs ad b ri)) (hcs : cells ≤ 300 + 10 * ri) (hss : slots ≤ 9000 + 40 * ri) (hi5 : 5 * ri + 5 ≤ L) (hL : L ≤ 2560) {t : Nat} (ht : t < 4) (hlt : (lessOf (Rr (cwT lim no gn gg nn pt ln wi t) (nn t - 1) 0)) < 1000000)  (hx1 : xs (5 * ri + 1) = zI (t : Int)) : W p l e room_1 s m args below meth k H locs cells slots Q (F0 m 1222 ls []) := by
  obtain ⟨hx, hb, hts, hown, hml, hX, hbl, hbA, hsT⟩ := id C
  obtain ⟨hNe, hD, hM, hV, ⟨v0, hO⟩, hB⟩ := hW
  have hN : 139 + 2 * no ≤ N := by omega
  obtain ⟨hlim, hOV, hdn4, hdgv, hUV⟩ := id hV
  have hW9 : 0 < (TV lim no gn gg (nn t) (pt t) (ln t) (wi t)).2.1 := (T_pos hOV hUV ht).mpr (by rw [← T_least hOV hUV ht]; exact hlt)
  have hWn : ¬ (TV lim no gn gg (nn t) (pt t) (ln t) (wi t)).2.1 = 0 := by omega
  have hok := T_okF (lim := lim) hOV hUV ht hW9
  have hav : 2 ≤ nn t → vf_n32 (FP.fdiv (FP.i2f (zI (lessOf (Rr (cwT lim no gn gg nn pt ln wi t) (nn t - 1) 0)))) (FP.i2f (zI ((nn t : Int) - 1)))) := fun h => by rw [T_least hOV hUV ht]; exact T_av hOV hUV ht hW9 h
  have hne := hok.2.1
  rw [← T_least hOV hUV ht] at hne
  refine lv_aload_n hx hb dL_law_1222 rfl (lv_at hl 1 rfl) ?_
  refine lw_arg (j := 1) (z := (t : Int)) 1229 rfl C w (lv_at hl 0 rfl) (lv_at hl 5 rfl) hi5 hL (by decide) hx1 dL_law_1223 dL_law_1224 dL_law_1226 dL_law_1227 dL_law_1228 ?_
  refine lv_aload hx hb dL_law_1229 (lv_at hl 4 rfl) ?_
  refine pw_ci w (pw_runSW (As := [.ref (ad 0), .int (zI (t : Int)), .ref (ad 138)]) (rest := []) w ⟨hx, hb, hml, hown, hts⟩ (c_L_average l D G ad N c hN hD hV (t := t) ht hlt hav hne hB.choose_spec) (vx_cwSW 3 hts gL_law_L_average rfl rfl rfl (by decide +kernel) ⟨Nat.le_of_ble_eq_true rfl, Nat.le_of_ble_eq_true rfl⟩) rfl hl.1 rfl (lv_room (Nat.le_of_ble_eq_true rfl)) dL_law_1231 ⟨by show cells + 1 ≤ 821725; omega, by show slots + 6 ≤ 6630930; omega⟩) (fun r_ c1 H locs hp w => ?_)
  have w : PW D G A s ad N c1 H locs := w
  obtain ⟨hv1, hO1, hD1, fr1⟩ := hp
  subst hv1
  have hM1 := hM.out (ad1 := ad) (c1 := c1) (fun _ _ => rfl) (fun q h1 h2 => fr1 q (by omega))
  have hO9 := lnA.fr (fr1 137 (by omega)) hO
  refine lv_istore (lv' := [(6, .int (zI 0)), (0, .ref b), (1, .ref (ad 0)), (2, .ref (ad 120)), (3, .ref (ad 137)), (4, .ref (ad 138)), (5, .int (zI ((5 * ri : Nat) : Int)))]) hx hb dL_law_1234 hl (by decide) rfl (fun ls hl => ?_)
  refine lv_aload_n hx hb dL_law_1236 rfl (lv_at hl 3 rfl) ?_
  refine lw_arg (j := 1) (z := (t : Int)) 1243 rfl C w (lv_at hl 1 rfl) (lv_at hl 6 rfl) hi5 hL (by decide) hx1 dL_law_1237 dL_law_1238 dL_law_1240 dL_law_1241 dL_law_1242 ?_
  refine pw_cf w (pw_runV (r := 120) (ci := 8) (As := [.int (zI (t : Int))]) (rest := []) w ⟨hx, hb, hml, hown, hts⟩ (c_X8_average_ok l D G ad N c1 (by omega) hM1 hV ht hWn) (cwV 1 hts gL_law_X8_average rfl rfl rfl (by decide +kernel) ⟨Nat.le_of_ble_eq_true rfl, Nat.le_of_ble_eq_true rfl⟩) (by omega) hM1.1.choose_spec rfl rfl hl.1 rfl (lv_room (Nat.le_of_ble_eq_true rfl)) dL_law_1243 ⟨by show cells + 1 + 0 ≤ 821725; omega, by show slots + 6 + 0 ≤ 6630930; omega⟩) (fun r2 c2 H locs hp w => ?_)
  have w : PW D G A s ad N c2 H locs := w
  obtain ⟨hv2, hM2, fr2⟩ := hp
  subst hv2
  refine lv_fstore (lv' := [(7, .float (if nn t < 2 then FP.fconst0 else FP.fdiv (FP.i2f (zI (TV lim no gn gg (nn t) (pt t) (ln t) (wi t)).1)) (FP.i2f (zI ((nn t : Int) - 1))))), (6, .int (zI 0)), (0, .ref b), (1, .ref (ad 0)), (2, .ref (ad 120)), (3, .ref (ad 137)), (4, .ref (ad 138)), (5, .int (zI ((5 * ri : Nat) : Int)))]) hx hb dL_law_1246 hl (by decide) rfl (fun ls hl => ?_)
  have hD2 := hD1.fr (fun q hq => fr2 q (by omega))
  exact lw_tailF C hnx w hNe hD2 hM2 hV ⟨_, lnA.fr (fr2 137 (by omega)) hO9⟩ ⟨_, dbA.fr (fr2 138 (by omega)) hO1, fun _ => by rw [T_least hOV hUV ht]⟩ hok ⟨by decide, by decide⟩ (by omega) (by omega) (by omega) (lv_at hl 4 rfl) (lv_at hl 6 rfl) (lv_at hl 1 rfl) (lv_at hl 0 rfl) (lv_sub hl [2, 3, 4, 5, 6, 7] rfl)

set_option maxHeartbeats 1000000 in
set_option maxRecDepth 100000 in
theorem law_x_average1 (C : LX p l s m args k A b L xs) (hnx : NXT p l e s m args below meth k Q D G A b ri) (w : PW D G A s ad N c H locs) (hW : LWs G ad N c th lim no dn gn gg dg nn pt ln wi) (hl : lv_has ls 8 (lawLs ad b ri)) (hcs : cells ≤ 300 + 10 * ri) (hss : slots ≤ 9000 + 40 * ri) (hi5 : 5 * ri + 5 ≤ L) (hL : L ≤ 2560) {zt : Int} (hbzt : bnd zt) (hbad : ¬ (0 ≤ zt ∧ zt ≤ 3))  (hx1 : xs (5 * ri + 1) = zI zt) : W p l e room_1 s m args below meth k H locs cells slots Q (F0 m 1222 ls []) := by
  obtain ⟨hx, hb, hts, hown, hml, hX, hbl, hbA, hsT⟩ := id C
  obtain ⟨hNe, hD, hM, hV, ⟨v0, hO⟩, hB⟩ := hW
  have hN : 139 + 2 * no ≤ N := by omega
  obtain ⟨hlim, hOV, hdn4, hdgv, hUV⟩ := id hV
  refine lv_aload_n hx hb dL_law_1222 rfl (lv_at hl 1 rfl) ?_
  refine lw_arg (j := 1) (z := zt) 1229 rfl C w (lv_at hl 0 rfl) (lv_at hl 5 rfl) hi5 hL (by decide) hx1 dL_law_1223 dL_law_1224 dL_law_1226 dL_law_1227 dL_law_1228 ?_
  refine lv_aload hx hb dL_law_1229 (lv_at hl 4 rfl) ?_
  refine pw_ci w (pw_runSW (As := [.ref (ad 0), .int (zI zt), .ref (ad 138)]) (rest := []) w ⟨hx, hb, hml, hown, hts⟩ (x_L_average1 l hsT D G ad N c hN hD hV (zt := zt) hbzt hbad) (vx_cwSW 3 hts gL_law_L_average rfl rfl rfl (by decide +kernel) ⟨Nat.le_of_ble_eq_true rfl, Nat.le_of_ble_eq_true rfl⟩) rfl hl.1 rfl (lv_room (Nat.le_of_ble_eq_true rfl)) dL_law_1231 ⟨by show cells + 1 ≤ 821725; omega, by show slots + 6 ≤ 6630930; omega⟩) (fun r_ c1 H locs hp w => ?_)
  have w : PW D G A s ad N c1 H locs := w
  obtain ⟨hv1, hD1, fr1⟩ := hp
  subst hv1
  have hM1 := hM.out (ad1 := ad) (c1 := c1) (fun _ _ => rfl) (fun q h1 h2 => fr1 q (by omega))
  have hB1 : ∃ v, dbA G (c1 138) v := hB.imp (fun v h => dbA.fr (fr1 138 (by omega)) h)
  have hO1 := lnA.fr (fr1 137 (by omega)) hO
  refine lv_istore (lv' := [(6, .int (zI 1)), (0, .ref b), (1, .ref (ad 0)), (2, .ref (ad 120)), (3, .ref (ad 137)), (4, .ref (ad 138)), (5, .int (zI ((5 * ri : Nat) : Int)))]) hx hb dL_law_1234 hl (by decide) rfl (fun ls hl => ?_)
  refine lv_aload_n hx hb dL_law_1236 rfl (lv_at hl 3 rfl) ?_
  refine lw_arg (j := 1) (z := zt) 1243 rfl C w (lv_at hl 1 rfl) (lv_at hl 6 rfl) hi5 hL (by decide) hx1 dL_law_1237 dL_law_1238 dL_law_1240 dL_law_1241 dL_law_1242 ?_
  refine pw_cf w (pw_runV (r := 120) (ci := 8) (As := [.int (zI zt)]) (rest := []) w ⟨hx, hb, hml, hown, hts⟩ (c_X8_average_bad1 l D G ad N c1 (by omega) hM1 hV hbzt hbad) (cwV 1 hts gL_law_X8_average rfl rfl rfl (by decide +kernel) ⟨Nat.le_of_ble_eq_true rfl, Nat.le_of_ble_eq_true rfl⟩) (by omega) hM1.1.choose_spec rfl rfl hl.1 rfl (lv_room (Nat.le_of_ble_eq_true rfl)) dL_law_1243 ⟨by show cells + 1 + 0 ≤ 821725; omega, by show slots + 6 + 0 ≤ 6630930; omega⟩) (fun r2 c2 H locs hp w => ?_)
  have w : PW D G A s ad N c2 H locs := w
  obtain ⟨hv2, hM2, fr2⟩ := hp
  subst hv2
  refine lv_fstore (lv' := [(7, .float FP.fconst0), (6, .int (zI 1)), (0, .ref b), (1, .ref (ad 0)), (2, .ref (ad 120)), (3, .ref (ad 137)), (4, .ref (ad 138)), (5, .int (zI ((5 * ri : Nat) : Int)))]) hx hb dL_law_1246 hl (by decide) rfl (fun ls hl => ?_)
  have hD2 := hD1.fr (fun q hq => fr2 q (by omega))
  exact lw_tailF C hnx w hNe hD2 hM2 hV ⟨_, lnA.fr (fr2 137 (by omega)) hO1⟩ (hB1.imp (fun v h => ⟨dbA.fr (fr2 138 (by omega)) h, fun h => absurd h (by decide)⟩)) okF_0 ⟨by decide, by decide⟩ (by omega) (by omega) (by omega) (lv_at hl 4 rfl) (lv_at hl 6 rfl) (lv_at hl 1 rfl) (lv_at hl 0 rfl) (lv_sub hl [2, 3, 4, 5, 6, 7] rfl)

set_option maxHeartbeats 1000000 in
set_option maxRecDepth 100000 in
theorem law_x_average2 (C : LX p l s m args k A b L xs) (hnx : NXT p l e s m args below meth k Q D G A b ri) (w : PW D G A s ad N c H locs) (hW : LWs G ad N c th lim no dn gn gg dg nn pt ln wi) (hl : lv_has ls 8 (lawLs ad b ri)) (hcs : cells ≤ 300 + 10 * ri) (hss : slots ≤ 9000 + 40 * ri) (hi5 : 5 * ri + 5 ≤ L) (hL : L ≤ 2560) {t : Nat} (ht : t < 4) (hlt : ¬ (lessOf (Rr (cwT lim no gn gg nn pt ln wi t) (nn t - 1) 0)) < 1000000)  (hx1 : xs (5 * ri + 1) = zI (t : Int)) : W p l e room_1 s m args below meth k H locs cells slots Q (F0 m 1222 ls []) := by
  obtain ⟨hx, hb, hts, hown, hml, hX, hbl, hbA, hsT⟩ := id C
  obtain ⟨hNe, hD, hM, hV, ⟨v0, hO⟩, hB⟩ := hW
  have hN : 139 + 2 * no ≤ N := by omega
  obtain ⟨hlim, hOV, hdn4, hdgv, hUV⟩ := id hV
  have hWn : (TV lim no gn gg (nn t) (pt t) (ln t) (wi t)).2.1 = 0 := by
    have h1 := (TV_bd (lim := lim) hOV (hUV t ht)).2.2.1
    have h2 := mt (T_pos (lim := lim) (wi := wi) hOV hUV ht).mp (by rw [← T_least hOV hUV ht]; exact hlt)
    omega
  refine lv_aload_n hx hb dL_law_1222 rfl (lv_at hl 1 rfl) ?_
  refine lw_arg (j := 1) (z := (t : Int)) 1229 rfl C w (lv_at hl 0 rfl) (lv_at hl 5 rfl) hi5 hL (by decide) hx1 dL_law_1223 dL_law_1224 dL_law_1226 dL_law_1227 dL_law_1228 ?_
  refine lv_aload hx hb dL_law_1229 (lv_at hl 4 rfl) ?_
  refine pw_ci w (pw_runSW (As := [.ref (ad 0), .int (zI (t : Int)), .ref (ad 138)]) (rest := []) w ⟨hx, hb, hml, hown, hts⟩ (x_L_average2 l hsT D G ad N c hN hD hV (t := t) ht hlt) (vx_cwSW 3 hts gL_law_L_average rfl rfl rfl (by decide +kernel) ⟨Nat.le_of_ble_eq_true rfl, Nat.le_of_ble_eq_true rfl⟩) rfl hl.1 rfl (lv_room (Nat.le_of_ble_eq_true rfl)) dL_law_1231 ⟨by show cells + 1 ≤ 821725; omega, by show slots + 6 ≤ 6630930; omega⟩) (fun r_ c1 H locs hp w => ?_)
  have w : PW D G A s ad N c1 H locs := w
  obtain ⟨hv1, hD1, fr1⟩ := hp
  subst hv1
  have hM1 := hM.out (ad1 := ad) (c1 := c1) (fun _ _ => rfl) (fun q h1 h2 => fr1 q (by omega))
  have hB1 : ∃ v, dbA G (c1 138) v := hB.imp (fun v h => dbA.fr (fr1 138 (by omega)) h)
  have hO1 := lnA.fr (fr1 137 (by omega)) hO
  refine lv_istore (lv' := [(6, .int (zI 2)), (0, .ref b), (1, .ref (ad 0)), (2, .ref (ad 120)), (3, .ref (ad 137)), (4, .ref (ad 138)), (5, .int (zI ((5 * ri : Nat) : Int)))]) hx hb dL_law_1234 hl (by decide) rfl (fun ls hl => ?_)
  refine lv_aload_n hx hb dL_law_1236 rfl (lv_at hl 3 rfl) ?_
  refine lw_arg (j := 1) (z := (t : Int)) 1243 rfl C w (lv_at hl 1 rfl) (lv_at hl 6 rfl) hi5 hL (by decide) hx1 dL_law_1237 dL_law_1238 dL_law_1240 dL_law_1241 dL_law_1242 ?_
  refine pw_cf w (pw_runV (r := 120) (ci := 8) (As := [.int (zI (t : Int))]) (rest := []) w ⟨hx, hb, hml, hown, hts⟩ (c_X8_average_bad2 l D G ad N c1 (by omega) hM1 hV ht hWn) (cwV 1 hts gL_law_X8_average rfl rfl rfl (by decide +kernel) ⟨Nat.le_of_ble_eq_true rfl, Nat.le_of_ble_eq_true rfl⟩) (by omega) hM1.1.choose_spec rfl rfl hl.1 rfl (lv_room (Nat.le_of_ble_eq_true rfl)) dL_law_1243 ⟨by show cells + 1 + 0 ≤ 821725; omega, by show slots + 6 + 0 ≤ 6630930; omega⟩) (fun r2 c2 H locs hp w => ?_)
  have w : PW D G A s ad N c2 H locs := w
  obtain ⟨hv2, hM2, fr2⟩ := hp
  subst hv2
  refine lv_fstore (lv' := [(7, .float FP.fconst0), (6, .int (zI 2)), (0, .ref b), (1, .ref (ad 0)), (2, .ref (ad 120)), (3, .ref (ad 137)), (4, .ref (ad 138)), (5, .int (zI ((5 * ri : Nat) : Int)))]) hx hb dL_law_1246 hl (by decide) rfl (fun ls hl => ?_)
  have hD2 := hD1.fr (fun q hq => fr2 q (by omega))
  exact lw_tailF C hnx w hNe hD2 hM2 hV ⟨_, lnA.fr (fr2 137 (by omega)) hO1⟩ (hB1.imp (fun v h => ⟨dbA.fr (fr2 138 (by omega)) h, fun h => absurd h (by decide)⟩)) okF_0 ⟨by decide, by decide⟩ (by omega) (by omega) (by omega) (lv_at hl 4 rfl) (lv_at hl 6 rfl) (lv_at hl 1 rfl) (lv_at hl 0 rfl) (lv_sub hl [2, 3, 4, 5, 6, 7] rfl)

set_option maxHeartbeats 1000000 in
set_option maxRecDepth 100000 in
theorem law_c_leastSet (C : LX p l s m args k A b L xs) (hnx : NXT p l e s m args below meth k Q D G A b ri) (w : PW D G A s ad N c H locs) (hW : LWs G ad N c th lim no dn gn gg dg nn pt ln wi) (hl : lv_has ls 8 (lawLs ad b ri)) (hcs : cells ≤ 300 + 10 * ri) (hss : slots ≤ 9000 + 40 * ri) (hi5 : 5 * ri + 5 ≤ L) (hL : L ≤ 2560) {bo : Nat → Int} (hb0 : isA 0 G (c 136) 4 bo) (hn : ¬ (goF lim no gn gg nn pt ln wi bo 256).1 = 0)   : W p l e room_1 s m args below meth k H locs cells slots Q (F0 m 1300 ls []) := by
  obtain ⟨hx, hb, hts, hown, hml, hX, hbl, hbA, hsT⟩ := id C
  obtain ⟨hNe, hD, hM, hV, ⟨v0, hO⟩, hB⟩ := hW
  have hN : 139 + 2 * no ≤ N := by omega
  obtain ⟨hlim, hOV, hdn4, hdgv, hUV⟩ := id hV
  obtain ⟨hSV, hpos, hnn⟩ := S_set (lim := lim) (pt := pt) (ln := ln) (wi := wi) hOV hUV bo
  have hle := goF_le (lim := lim) (pt := pt) (ln := ln) (wi := wi) hOV hUV bo
  have hge := hSV.1.1
  refine lv_aload_n hx hb dL_law_1300 rfl (lv_at hl 1 rfl) ?_
  refine lv_aload_n hx hb dL_law_1301 rfl (lv_at hl 3 rfl) ?_
  refine pw_ci w (pw_runSW (As := [.ref (ad 0), .ref (ad 137)]) (rest := []) w ⟨hx, hb, hml, hown, hts⟩ (c_L_leastSet l D G ad N c hN hD hV hSV hn hO) (vx_cwSW 2 hts gL_law_L_leastSet rfl rfl rfl (by decide +kernel) ⟨Nat.le_of_ble_eq_true rfl, Nat.le_of_ble_eq_true rfl⟩) rfl hl.1 rfl (lv_room (Nat.le_of_ble_eq_true rfl)) dL_law_1302 ⟨by show cells + 1 ≤ 821725; omega, by show slots + 6 ≤ 6630930; omega⟩) (fun r_ c1 H locs hp w => ?_)
  have w : PW D G A s ad N c1 H locs := w
  obtain ⟨hv1, hO1, hD1, fr1⟩ := hp
  subst hv1
  have hM1 := hM.out (ad1 := ad) (c1 := c1) (fun _ _ => rfl) (fun q h1 h2 => fr1 q (by omega))
  have hB1 : ∃ v, dbA G (c1 138) v := hB.imp (fun v h => dbA.fr (fr1 138 (by omega)) h)
  refine lv_istore (lv' := [(6, .int (zI 0)), (0, .ref b), (1, .ref (ad 0)), (2, .ref (ad 120)), (3, .ref (ad 137)), (4, .ref (ad 138)), (5, .int (zI ((5 * ri : Nat) : Int)))]) hx hb dL_law_1305 hl (by decide) rfl (fun ls hl => ?_)
  refine lv_aload_n hx hb dL_law_1307 rfl (lv_at hl 3 rfl) ?_
  have hb1 := isA.fr (fr1 136 (by omega)) hb0
  refine pw_ci w (pw_runV (r := 120) (ci := 8) (As := []) (rest := []) w ⟨hx, hb, hml, hown, hts⟩ (c_X8_leastSet_ok l D G ad N c1 (by omega) hM1 hV hb1 (by omega)) (cwV 0 hts gL_law_X8_leastSet rfl rfl rfl (by decide +kernel) ⟨Nat.le_of_ble_eq_true rfl, Nat.le_of_ble_eq_true rfl⟩) (by omega) hM1.1.choose_spec rfl rfl hl.1 rfl (lv_room (Nat.le_of_ble_eq_true rfl)) dL_law_1308 ⟨by show cells + 1 + 0 ≤ 821725; omega, by show slots + 6 + 0 ≤ 6630930; omega⟩) (fun r2 c2 H locs hp w => ?_)
  have w : PW D G A s ad N c2 H locs := w
  obtain ⟨hv2, hM2, fr2⟩ := hp
  subst hv2
  refine lv_istore (lv' := [(7, .int (zI ((goF lim no gn gg nn pt ln wi bo 256).2.1))), (6, .int (zI 0)), (0, .ref b), (1, .ref (ad 0)), (2, .ref (ad 120)), (3, .ref (ad 137)), (4, .ref (ad 138)), (5, .int (zI ((5 * ri : Nat) : Int)))]) hx hb dL_law_1311 hl (by decide) rfl (fun ls hl => ?_)
  have hD2 := hD1.fr (fun q hq => fr2 q (by omega))
  exact lw_tailI (q1 := 1324) (q2 := 1341) (q3 := 1329) C hnx w hNe hD2 hM2 hV ⟨_, lnA.fr (fr2 137 (by omega)) hO1, fun _ => rfl⟩ (hB1.imp (fun v h => dbA.fr (fr2 138 (by omega)) h)) ⟨by decide, by decide⟩ (by omega) (by omega) (by omega) (lv_at hl 4 rfl) (lv_at hl 5 rfl) (lv_at hl 1 rfl) (lv_at hl 0 rfl) (lv_sub hl [2, 3, 4, 5, 6, 7] rfl) dL_law_1313 dL_law_1314 dL_law_1317 dL_law_1319 rfl dL_law_1324 dL_law_1326 (by decide) rfl dL_law_1329 dL_law_1330 dL_law_1331 dL_law_1332 dL_law_1334 dL_law_1335 dL_law_1336 dL_law_1341 (by decide)

set_option maxHeartbeats 1000000 in
set_option maxRecDepth 100000 in
theorem law_x_leastSet (C : LX p l s m args k A b L xs) (hnx : NXT p l e s m args below meth k Q D G A b ri) (w : PW D G A s ad N c H locs) (hW : LWs G ad N c th lim no dn gn gg dg nn pt ln wi) (hl : lv_has ls 8 (lawLs ad b ri)) (hcs : cells ≤ 300 + 10 * ri) (hss : slots ≤ 9000 + 40 * ri) (hi5 : 5 * ri + 5 ≤ L) (hL : L ≤ 2560) {bo : Nat → Int} (hb0 : isA 0 G (c 136) 4 bo) (hn : (goF lim no gn gg nn pt ln wi bo 256).1 = 0)   : W p l e room_1 s m args below meth k H locs cells slots Q (F0 m 1300 ls []) := by
  obtain ⟨hx, hb, hts, hown, hml, hX, hbl, hbA, hsT⟩ := id C
  obtain ⟨hNe, hD, hM, hV, ⟨v0, hO⟩, hB⟩ := hW
  have hN : 139 + 2 * no ≤ N := by omega
  obtain ⟨hlim, hOV, hdn4, hdgv, hUV⟩ := id hV
  obtain ⟨hSV, hpos, hnn⟩ := S_set (lim := lim) (pt := pt) (ln := ln) (wi := wi) hOV hUV bo
  have hle := goF_le (lim := lim) (pt := pt) (ln := ln) (wi := wi) hOV hUV bo
  have hge := hSV.1.1
  refine lv_aload_n hx hb dL_law_1300 rfl (lv_at hl 1 rfl) ?_
  refine lv_aload_n hx hb dL_law_1301 rfl (lv_at hl 3 rfl) ?_
  refine pw_ci w (pw_runSW (As := [.ref (ad 0), .ref (ad 137)]) (rest := []) w ⟨hx, hb, hml, hown, hts⟩ (x_L_leastSet l hsT D G ad N c hN hD hV hSV hn) (vx_cwSW 2 hts gL_law_L_leastSet rfl rfl rfl (by decide +kernel) ⟨Nat.le_of_ble_eq_true rfl, Nat.le_of_ble_eq_true rfl⟩) rfl hl.1 rfl (lv_room (Nat.le_of_ble_eq_true rfl)) dL_law_1302 ⟨by show cells + 1 ≤ 821725; omega, by show slots + 6 ≤ 6630930; omega⟩) (fun r_ c1 H locs hp w => ?_)
  have w : PW D G A s ad N c1 H locs := w
  obtain ⟨hv1, hD1, fr1⟩ := hp
  subst hv1
  have hM1 := hM.out (ad1 := ad) (c1 := c1) (fun _ _ => rfl) (fun q h1 h2 => fr1 q (by omega))
  have hB1 : ∃ v, dbA G (c1 138) v := hB.imp (fun v h => dbA.fr (fr1 138 (by omega)) h)
  have hO1 := lnA.fr (fr1 137 (by omega)) hO
  refine lv_istore (lv' := [(6, .int (zI 1)), (0, .ref b), (1, .ref (ad 0)), (2, .ref (ad 120)), (3, .ref (ad 137)), (4, .ref (ad 138)), (5, .int (zI ((5 * ri : Nat) : Int)))]) hx hb dL_law_1305 hl (by decide) rfl (fun ls hl => ?_)
  refine lv_aload_n hx hb dL_law_1307 rfl (lv_at hl 3 rfl) ?_
  have hb1 := isA.fr (fr1 136 (by omega)) hb0
  refine pw_ci w (pw_runV (r := 120) (ci := 8) (As := []) (rest := []) w ⟨hx, hb, hml, hown, hts⟩ (c_X8_leastSet_bad l D G ad N c1 (by omega) hM1 hV hb1 (by omega)) (cwV 0 hts gL_law_X8_leastSet rfl rfl rfl (by decide +kernel) ⟨Nat.le_of_ble_eq_true rfl, Nat.le_of_ble_eq_true rfl⟩) (by omega) hM1.1.choose_spec rfl rfl hl.1 rfl (lv_room (Nat.le_of_ble_eq_true rfl)) dL_law_1308 ⟨by show cells + 1 + 0 ≤ 821725; omega, by show slots + 6 + 0 ≤ 6630930; omega⟩) (fun r2 c2 H locs hp w => ?_)
  have w : PW D G A s ad N c2 H locs := w
  obtain ⟨hv2, hM2, fr2⟩ := hp
  subst hv2
  refine lv_istore (lv' := [(7, .int (zI 0)), (6, .int (zI 1)), (0, .ref b), (1, .ref (ad 0)), (2, .ref (ad 120)), (3, .ref (ad 137)), (4, .ref (ad 138)), (5, .int (zI ((5 * ri : Nat) : Int)))]) hx hb dL_law_1311 hl (by decide) rfl (fun ls hl => ?_)
  have hD2 := hD1.fr (fun q hq => fr2 q (by omega))
  exact lw_tailI (q1 := 1324) (q2 := 1341) (q3 := 1329) C hnx w hNe hD2 hM2 hV ⟨_, lnA.fr (fr2 137 (by omega)) hO1, fun h => absurd h (by decide)⟩ (hB1.imp (fun v h => dbA.fr (fr2 138 (by omega)) h)) ⟨by decide, by decide⟩ (by omega) (by omega) (by omega) (lv_at hl 4 rfl) (lv_at hl 5 rfl) (lv_at hl 1 rfl) (lv_at hl 0 rfl) (lv_sub hl [2, 3, 4, 5, 6, 7] rfl) dL_law_1313 dL_law_1314 dL_law_1317 dL_law_1319 rfl dL_law_1324 dL_law_1326 (by decide) rfl dL_law_1329 dL_law_1330 dL_law_1331 dL_law_1332 dL_law_1334 dL_law_1335 dL_law_1336 dL_law_1341 (by decide)

set_option maxHeartbeats 1000000 in
set_option maxRecDepth 100000 in
theorem law_c_tuneAt (C : LX p l s m args k A b L xs) (hnx : NXT p l e s m args below meth k Q D G A b ri) (w : PW D G A s ad N c H locs) (hW : LWs G ad N c th lim no dn gn gg dg nn pt ln wi) (hl : lv_has ls 8 (lawLs ad b ri)) (hcs : cells ≤ 300 + 10 * ri) (hss : slots ≤ 9000 + 40 * ri) (hi5 : 5 * ri + 5 ≤ L) (hL : L ≤ 2560) {bo : Nat → Int} (hb0 : isA 0 G (c 136) 4 bo) (hn : ¬ (goF lim no gn gg nn pt ln wi bo 256).1 = 0) {i : Nat} (hi : i < tC nn 4)  (hx1 : xs (5 * ri + 1) = zI (i : Int)) : W p l e room_1 s m args below meth k H locs cells slots Q (F0 m 1344 ls []) := by
  obtain ⟨hx, hb, hts, hown, hml, hX, hbl, hbA, hsT⟩ := id C
  obtain ⟨hNe, hD, hM, hV, ⟨v0, hO⟩, hB⟩ := hW
  have hN : 139 + 2 * no ≤ N := by omega
  obtain ⟨hlim, hOV, hdn4, hdgv, hUV⟩ := id hV
  obtain ⟨hSV, hpos, hnn⟩ := S_set (lim := lim) (pt := pt) (ln := ln) (wi := wi) hOV hUV bo
  have hle := goF_le (lim := lim) (pt := pt) (ln := ln) (wi := wi) hOV hUV bo
  have hge := hSV.1.1
  refine lv_aload_n hx hb dL_law_1344 rfl (lv_at hl 1 rfl) ?_
  refine lw_arg (j := 1) (z := (i : Int)) 1351 rfl C w (lv_at hl 0 rfl) (lv_at hl 5 rfl) hi5 hL (by decide) hx1 dL_law_1345 dL_law_1346 dL_law_1348 dL_law_1349 dL_law_1350 ?_
  refine lv_aload_n hx hb dL_law_1351 rfl (lv_at hl 3 rfl) ?_
  refine pw_ci w (pw_runSW (As := [.ref (ad 0), .int (zI (i : Int)), .ref (ad 137)]) (rest := []) w ⟨hx, hb, hml, hown, hts⟩ (c_L_tuneAt l D G ad N c hN hD hV hSV hn (i := i) hi hO) (vx_cwSW 3 hts gL_law_L_tuneAt rfl rfl rfl (by decide +kernel) ⟨Nat.le_of_ble_eq_true rfl, Nat.le_of_ble_eq_true rfl⟩) rfl hl.1 rfl (lv_room (Nat.le_of_ble_eq_true rfl)) dL_law_1352 ⟨by show cells + 1 ≤ 821725; omega, by show slots + 6 ≤ 6630930; omega⟩) (fun r_ c1 H locs hp w => ?_)
  have w : PW D G A s ad N c1 H locs := w
  obtain ⟨hv1, hO1, hD1, fr1⟩ := hp
  subst hv1
  have hM1 := hM.out (ad1 := ad) (c1 := c1) (fun _ _ => rfl) (fun q h1 h2 => fr1 q (by omega))
  have hB1 : ∃ v, dbA G (c1 138) v := hB.imp (fun v h => dbA.fr (fr1 138 (by omega)) h)
  refine lv_istore (lv' := [(6, .int (zI 0)), (0, .ref b), (1, .ref (ad 0)), (2, .ref (ad 120)), (3, .ref (ad 137)), (4, .ref (ad 138)), (5, .int (zI ((5 * ri : Nat) : Int)))]) hx hb dL_law_1355 hl (by decide) rfl (fun ls hl => ?_)
  refine lv_aload_n hx hb dL_law_1357 rfl (lv_at hl 3 rfl) ?_
  have hb1 := isA.fr (fr1 136 (by omega)) hb0
  refine lw_arg (j := 1) (z := (i : Int)) 1364 rfl C w (lv_at hl 1 rfl) (lv_at hl 6 rfl) hi5 hL (by decide) hx1 dL_law_1358 dL_law_1359 dL_law_1361 dL_law_1362 dL_law_1363 ?_
  refine pw_ci w (pw_runV (r := 120) (ci := 8) (As := [.int (zI (i : Int))]) (rest := []) w ⟨hx, hb, hml, hown, hts⟩ (c_X8_tuneAt_ok l D G ad N c1 (by omega) hM1 hV hb1 (by omega) hi) (cwV 1 hts gL_law_X8_tuneAt rfl rfl rfl (by decide +kernel) ⟨Nat.le_of_ble_eq_true rfl, Nat.le_of_ble_eq_true rfl⟩) (by omega) hM1.1.choose_spec rfl rfl hl.1 rfl (lv_room (Nat.le_of_ble_eq_true rfl)) dL_law_1364 ⟨by show cells + 1 + 0 ≤ 821725; omega, by show slots + 6 + 0 ≤ 6630930; omega⟩) (fun r2 c2 H locs hp w => ?_)
  have w : PW D G A s ad N c2 H locs := w
  obtain ⟨hv2, hM2, fr2⟩ := hp
  subst hv2
  refine lv_istore (lv' := [(7, .int (zI ((goF lim no gn gg nn pt ln wi bo 256).2.2 i))), (6, .int (zI 0)), (0, .ref b), (1, .ref (ad 0)), (2, .ref (ad 120)), (3, .ref (ad 137)), (4, .ref (ad 138)), (5, .int (zI ((5 * ri : Nat) : Int)))]) hx hb dL_law_1367 hl (by decide) rfl (fun ls hl => ?_)
  have hD2 := hD1.fr (fun q hq => fr2 q (by omega))
  exact lw_tailI (q1 := 1380) (q2 := 1397) (q3 := 1385) C hnx w hNe hD2 hM2 hV ⟨_, lnA.fr (fr2 137 (by omega)) hO1, fun _ => (congrArg (fun z => (zI z).toInt64) (Int.toNat_of_nonneg (hnn (by omega) _ hi)))⟩ (hB1.imp (fun v h => dbA.fr (fr2 138 (by omega)) h)) ⟨by decide, by decide⟩ (by omega) (by omega) (by omega) (lv_at hl 4 rfl) (lv_at hl 5 rfl) (lv_at hl 1 rfl) (lv_at hl 0 rfl) (lv_sub hl [2, 3, 4, 5, 6, 7] rfl) dL_law_1369 dL_law_1370 dL_law_1373 dL_law_1375 rfl dL_law_1380 dL_law_1382 (by decide) rfl dL_law_1385 dL_law_1386 dL_law_1387 dL_law_1388 dL_law_1390 dL_law_1391 dL_law_1392 dL_law_1397 (by decide)

set_option maxHeartbeats 1000000 in
set_option maxRecDepth 100000 in
theorem law_x_tuneAt1 (C : LX p l s m args k A b L xs) (hnx : NXT p l e s m args below meth k Q D G A b ri) (w : PW D G A s ad N c H locs) (hW : LWs G ad N c th lim no dn gn gg dg nn pt ln wi) (hl : lv_has ls 8 (lawLs ad b ri)) (hcs : cells ≤ 300 + 10 * ri) (hss : slots ≤ 9000 + 40 * ri) (hi5 : 5 * ri + 5 ≤ L) (hL : L ≤ 2560) {bo : Nat → Int} (hb0 : isA 0 G (c 136) 4 bo) (hn : (goF lim no gn gg nn pt ln wi bo 256).1 = 0) {z : Int} (hbz : bnd z) (hx1 : xs (5 * ri + 1) = zI z) : W p l e room_1 s m args below meth k H locs cells slots Q (F0 m 1344 ls []) := by
  obtain ⟨hx, hb, hts, hown, hml, hX, hbl, hbA, hsT⟩ := id C
  obtain ⟨hNe, hD, hM, hV, ⟨v0, hO⟩, hB⟩ := hW
  have hN : 139 + 2 * no ≤ N := by omega
  obtain ⟨hlim, hOV, hdn4, hdgv, hUV⟩ := id hV
  obtain ⟨hSV, hpos, hnn⟩ := S_set (lim := lim) (pt := pt) (ln := ln) (wi := wi) hOV hUV bo
  have hle := goF_le (lim := lim) (pt := pt) (ln := ln) (wi := wi) hOV hUV bo
  have hge := hSV.1.1
  refine lv_aload_n hx hb dL_law_1344 rfl (lv_at hl 1 rfl) ?_
  refine lw_arg (j := 1) (z := z) 1351 rfl C w (lv_at hl 0 rfl) (lv_at hl 5 rfl) hi5 hL (by decide) hx1 dL_law_1345 dL_law_1346 dL_law_1348 dL_law_1349 dL_law_1350 ?_
  refine lv_aload_n hx hb dL_law_1351 rfl (lv_at hl 3 rfl) ?_
  refine pw_ci w (pw_runSW (As := [.ref (ad 0), .int (zI z), .ref (ad 137)]) (rest := []) w ⟨hx, hb, hml, hown, hts⟩ (x_L_tuneAt1 l hsT D G ad N c hN hD hV hSV hn (z := z)) (vx_cwSW 3 hts gL_law_L_tuneAt rfl rfl rfl (by decide +kernel) ⟨Nat.le_of_ble_eq_true rfl, Nat.le_of_ble_eq_true rfl⟩) rfl hl.1 rfl (lv_room (Nat.le_of_ble_eq_true rfl)) dL_law_1352 ⟨by show cells + 1 ≤ 821725; omega, by show slots + 6 ≤ 6630930; omega⟩) (fun r_ c1 H locs hp w => ?_)
  have w : PW D G A s ad N c1 H locs := w
  obtain ⟨hv1, hD1, fr1⟩ := hp
  subst hv1
  have hM1 := hM.out (ad1 := ad) (c1 := c1) (fun _ _ => rfl) (fun q h1 h2 => fr1 q (by omega))
  have hB1 : ∃ v, dbA G (c1 138) v := hB.imp (fun v h => dbA.fr (fr1 138 (by omega)) h)
  have hO1 := lnA.fr (fr1 137 (by omega)) hO
  refine lv_istore (lv' := [(6, .int (zI 1)), (0, .ref b), (1, .ref (ad 0)), (2, .ref (ad 120)), (3, .ref (ad 137)), (4, .ref (ad 138)), (5, .int (zI ((5 * ri : Nat) : Int)))]) hx hb dL_law_1355 hl (by decide) rfl (fun ls hl => ?_)
  refine lv_aload_n hx hb dL_law_1357 rfl (lv_at hl 3 rfl) ?_
  have hb1 := isA.fr (fr1 136 (by omega)) hb0
  refine lw_arg (j := 1) (z := z) 1364 rfl C w (lv_at hl 1 rfl) (lv_at hl 6 rfl) hi5 hL (by decide) hx1 dL_law_1358 dL_law_1359 dL_law_1361 dL_law_1362 dL_law_1363 ?_
  refine pw_ci w (pw_runV (r := 120) (ci := 8) (As := [.int (zI z)]) (rest := []) w ⟨hx, hb, hml, hown, hts⟩ (c_X8_tuneAt_bad1 l D G ad N c1 (by omega) hM1 hV hb1 (zi := z) hbz (by omega)) (cwV 1 hts gL_law_X8_tuneAt rfl rfl rfl (by decide +kernel) ⟨Nat.le_of_ble_eq_true rfl, Nat.le_of_ble_eq_true rfl⟩) (by omega) hM1.1.choose_spec rfl rfl hl.1 rfl (lv_room (Nat.le_of_ble_eq_true rfl)) dL_law_1364 ⟨by show cells + 1 + 0 ≤ 821725; omega, by show slots + 6 + 0 ≤ 6630930; omega⟩) (fun r2 c2 H locs hp w => ?_)
  have w : PW D G A s ad N c2 H locs := w
  obtain ⟨hv2, hM2, fr2⟩ := hp
  subst hv2
  refine lv_istore (lv' := [(7, .int (zI 0)), (6, .int (zI 1)), (0, .ref b), (1, .ref (ad 0)), (2, .ref (ad 120)), (3, .ref (ad 137)), (4, .ref (ad 138)), (5, .int (zI ((5 * ri : Nat) : Int)))]) hx hb dL_law_1367 hl (by decide) rfl (fun ls hl => ?_)
  have hD2 := hD1.fr (fun q hq => fr2 q (by omega))
  exact lw_tailI (q1 := 1380) (q2 := 1397) (q3 := 1385) C hnx w hNe hD2 hM2 hV ⟨_, lnA.fr (fr2 137 (by omega)) hO1, fun h => absurd h (by decide)⟩ (hB1.imp (fun v h => dbA.fr (fr2 138 (by omega)) h)) ⟨by decide, by decide⟩ (by omega) (by omega) (by omega) (lv_at hl 4 rfl) (lv_at hl 5 rfl) (lv_at hl 1 rfl) (lv_at hl 0 rfl) (lv_sub hl [2, 3, 4, 5, 6, 7] rfl) dL_law_1369 dL_law_1370 dL_law_1373 dL_law_1375 rfl dL_law_1380 dL_law_1382 (by decide) rfl dL_law_1385 dL_law_1386 dL_law_1387 dL_law_1388 dL_law_1390 dL_law_1391 dL_law_1392 dL_law_1397 (by decide)

set_option maxHeartbeats 1000000 in
set_option maxRecDepth 100000 in
theorem law_x_tuneAt2 (C : LX p l s m args k A b L xs) (hnx : NXT p l e s m args below meth k Q D G A b ri) (w : PW D G A s ad N c H locs) (hW : LWs G ad N c th lim no dn gn gg dg nn pt ln wi) (hl : lv_has ls 8 (lawLs ad b ri)) (hcs : cells ≤ 300 + 10 * ri) (hss : slots ≤ 9000 + 40 * ri) (hi5 : 5 * ri + 5 ≤ L) (hL : L ≤ 2560) {bo : Nat → Int} (hb0 : isA 0 G (c 136) 4 bo) (hn : ¬ (goF lim no gn gg nn pt ln wi bo 256).1 = 0) {z : Int} (hbz : bnd z) (hbad : ¬ (0 ≤ z ∧ z ≤ (tC nn 4 : Int) - 1))  (hx1 : xs (5 * ri + 1) = zI z) : W p l e room_1 s m args below meth k H locs cells slots Q (F0 m 1344 ls []) := by
  obtain ⟨hx, hb, hts, hown, hml, hX, hbl, hbA, hsT⟩ := id C
  obtain ⟨hNe, hD, hM, hV, ⟨v0, hO⟩, hB⟩ := hW
  have hN : 139 + 2 * no ≤ N := by omega
  obtain ⟨hlim, hOV, hdn4, hdgv, hUV⟩ := id hV
  obtain ⟨hSV, hpos, hnn⟩ := S_set (lim := lim) (pt := pt) (ln := ln) (wi := wi) hOV hUV bo
  have hle := goF_le (lim := lim) (pt := pt) (ln := ln) (wi := wi) hOV hUV bo
  have hge := hSV.1.1
  refine lv_aload_n hx hb dL_law_1344 rfl (lv_at hl 1 rfl) ?_
  refine lw_arg (j := 1) (z := z) 1351 rfl C w (lv_at hl 0 rfl) (lv_at hl 5 rfl) hi5 hL (by decide) hx1 dL_law_1345 dL_law_1346 dL_law_1348 dL_law_1349 dL_law_1350 ?_
  refine lv_aload_n hx hb dL_law_1351 rfl (lv_at hl 3 rfl) ?_
  refine pw_ci w (pw_runSW (As := [.ref (ad 0), .int (zI z), .ref (ad 137)]) (rest := []) w ⟨hx, hb, hml, hown, hts⟩ (x_L_tuneAt2 l hsT D G ad N c hN hD hV hSV hn (z := z) hbz hbad) (vx_cwSW 3 hts gL_law_L_tuneAt rfl rfl rfl (by decide +kernel) ⟨Nat.le_of_ble_eq_true rfl, Nat.le_of_ble_eq_true rfl⟩) rfl hl.1 rfl (lv_room (Nat.le_of_ble_eq_true rfl)) dL_law_1352 ⟨by show cells + 1 ≤ 821725; omega, by show slots + 6 ≤ 6630930; omega⟩) (fun r_ c1 H locs hp w => ?_)
  have w : PW D G A s ad N c1 H locs := w
  obtain ⟨hv1, hD1, fr1⟩ := hp
  subst hv1
  have hM1 := hM.out (ad1 := ad) (c1 := c1) (fun _ _ => rfl) (fun q h1 h2 => fr1 q (by omega))
  have hB1 : ∃ v, dbA G (c1 138) v := hB.imp (fun v h => dbA.fr (fr1 138 (by omega)) h)
  have hO1 := lnA.fr (fr1 137 (by omega)) hO
  refine lv_istore (lv' := [(6, .int (zI 2)), (0, .ref b), (1, .ref (ad 0)), (2, .ref (ad 120)), (3, .ref (ad 137)), (4, .ref (ad 138)), (5, .int (zI ((5 * ri : Nat) : Int)))]) hx hb dL_law_1355 hl (by decide) rfl (fun ls hl => ?_)
  refine lv_aload_n hx hb dL_law_1357 rfl (lv_at hl 3 rfl) ?_
  have hb1 := isA.fr (fr1 136 (by omega)) hb0
  refine lw_arg (j := 1) (z := z) 1364 rfl C w (lv_at hl 1 rfl) (lv_at hl 6 rfl) hi5 hL (by decide) hx1 dL_law_1358 dL_law_1359 dL_law_1361 dL_law_1362 dL_law_1363 ?_
  refine pw_ci w (pw_runV (r := 120) (ci := 8) (As := [.int (zI z)]) (rest := []) w ⟨hx, hb, hml, hown, hts⟩ (c_X8_tuneAt_bad2 l D G ad N c1 (by omega) hM1 hV hb1 (zi := z) hbz (by omega) hbad) (cwV 1 hts gL_law_X8_tuneAt rfl rfl rfl (by decide +kernel) ⟨Nat.le_of_ble_eq_true rfl, Nat.le_of_ble_eq_true rfl⟩) (by omega) hM1.1.choose_spec rfl rfl hl.1 rfl (lv_room (Nat.le_of_ble_eq_true rfl)) dL_law_1364 ⟨by show cells + 1 + 0 ≤ 821725; omega, by show slots + 6 + 0 ≤ 6630930; omega⟩) (fun r2 c2 H locs hp w => ?_)
  have w : PW D G A s ad N c2 H locs := w
  obtain ⟨hv2, hM2, fr2⟩ := hp
  subst hv2
  refine lv_istore (lv' := [(7, .int (zI 0)), (6, .int (zI 2)), (0, .ref b), (1, .ref (ad 0)), (2, .ref (ad 120)), (3, .ref (ad 137)), (4, .ref (ad 138)), (5, .int (zI ((5 * ri : Nat) : Int)))]) hx hb dL_law_1367 hl (by decide) rfl (fun ls hl => ?_)
  have hD2 := hD1.fr (fun q hq => fr2 q (by omega))
  exact lw_tailI (q1 := 1380) (q2 := 1397) (q3 := 1385) C hnx w hNe hD2 hM2 hV ⟨_, lnA.fr (fr2 137 (by omega)) hO1, fun h => absurd h (by decide)⟩ (hB1.imp (fun v h => dbA.fr (fr2 138 (by omega)) h)) ⟨by decide, by decide⟩ (by omega) (by omega) (by omega) (lv_at hl 4 rfl) (lv_at hl 5 rfl) (lv_at hl 1 rfl) (lv_at hl 0 rfl) (lv_sub hl [2, 3, 4, 5, 6, 7] rfl) dL_law_1369 dL_law_1370 dL_law_1373 dL_law_1375 rfl dL_law_1380 dL_law_1382 (by decide) rfl dL_law_1385 dL_law_1386 dL_law_1387 dL_law_1388 dL_law_1390 dL_law_1391 dL_law_1392 dL_law_1397 (by decide)

end LC4
