section LC0
variable {p : Program} {l : Launch} {e : Env} {s : State} {m : MethodId} {args : Array Value} {below : List Frame} {meth : Method} {k : Code} {H : Heap} {locs : List Loc} {cells slots : Nat} {Q : State → Prop} {ls : Array Slot} {D : va_G} {G : Nat → ClassId} {A : Nat → Prop} {ad : Nat → Nat} {N : Nat} {c : Nat → va_E} {b L ri : Nat} {xs : Nat → Int32}
variable {th lim : Int} {no dn : Nat} {gn : Nat → Nat} {gg : Nat → Nat → Nat} {dg nn : Nat → Nat} {pt ln : Nat → Nat → Nat} {wi : Nat → Nat → Int}
set_option maxHeartbeats 1000000 in
set_option maxRecDepth 100000 in
theorem law_c_cost (C : LX p l s m args k A b L xs) (hnx : NXT p l e s m args below meth k Q D G A b ri) (w : PW D G A s ad N c H locs) (hW : LWs G ad N c th lim no dn gn gg dg nn pt ln wi) (hl : lv_has ls 8 (lawLs ad b ri)) (hcs : cells ≤ 300 + 10 * ri) (hss : slots ≤ 9000 + 40 * ri) (hi5 : 5 * ri + 5 ≤ L) (hL : L ≤ 2560) {x y : Nat} (hx9 : x < 9) (hy9 : y < 9)  (hx1 : xs (5 * ri + 1) = zI (x : Int)) (hx2 : xs (5 * ri + 2) = zI (y : Int)) : W p l e room_1 s m args below meth k H locs cells slots Q (F0 m 144 ls []) := by
  obtain ⟨hx, hb, hts, hown, hml, hX, hbl, hbA, hsT⟩ := id C
  obtain ⟨hNe, hD, hM, hV, ⟨v0, hO⟩, hB⟩ := hW
  have hN : 139 + 2 * no ≤ N := by omega
  obtain ⟨hlim, hOV, hdn4, hdgv, hUV⟩ := id hV
  refine lv_aload_n hx hb dL_law_144 rfl (lv_at hl 1 rfl) ?_
  refine lw_arg (j := 1) (z := (x : Int)) 151 rfl C w (lv_at hl 0 rfl) (lv_at hl 5 rfl) hi5 hL (by decide) hx1 dL_law_145 dL_law_146 dL_law_148 dL_law_149 dL_law_150 ?_
  refine lw_arg (j := 2) (z := (y : Int)) 157 rfl C w (lv_at hl 0 rfl) (lv_at hl 5 rfl) hi5 hL (by decide) hx2 dL_law_151 dL_law_152 dL_law_154 dL_law_155 dL_law_156 ?_
  refine lv_aload_n hx hb dL_law_157 rfl (lv_at hl 3 rfl) ?_
  refine pw_ci w (pw_runSW (As := [.ref (ad 0), .int (zI (x : Int)), .int (zI (y : Int)), .ref (ad 137)]) (rest := []) w ⟨hx, hb, hml, hown, hts⟩ (c_L_cost l D G ad N c hN hD hV (x := x) (y := y) hx9 hy9 hO) (vx_cwSW 4 hts gL_law_L_cost rfl rfl rfl (by decide +kernel) ⟨Nat.le_of_ble_eq_true rfl, Nat.le_of_ble_eq_true rfl⟩) rfl hl.1 rfl (lv_room (Nat.le_of_ble_eq_true rfl)) dL_law_158 ⟨by show cells + 1 ≤ 821725; omega, by show slots + 6 ≤ 6630930; omega⟩) (fun r_ c1 H locs hp w => ?_)
  have w : PW D G A s ad N c1 H locs := w
  obtain ⟨hv1, hO1, hD1, fr1⟩ := hp
  subst hv1
  have hM1 := hM.out (ad1 := ad) (c1 := c1) (fun _ _ => rfl) (fun q h1 h2 => fr1 q (by omega))
  have hB1 : ∃ v, dbA G (c1 138) v := hB.imp (fun v h => dbA.fr (fr1 138 (by omega)) h)
  refine lv_istore (lv' := [(6, .int (zI 0)), (0, .ref b), (1, .ref (ad 0)), (2, .ref (ad 120)), (3, .ref (ad 137)), (4, .ref (ad 138)), (5, .int (zI ((5 * ri : Nat) : Int)))]) hx hb dL_law_161 hl (by decide) rfl (fun ls hl => ?_)
  refine lv_aload_n hx hb dL_law_163 rfl (lv_at hl 3 rfl) ?_
  refine lw_arg (j := 1) (z := (x : Int)) 170 rfl C w (lv_at hl 1 rfl) (lv_at hl 6 rfl) hi5 hL (by decide) hx1 dL_law_164 dL_law_165 dL_law_167 dL_law_168 dL_law_169 ?_
  refine lw_arg (j := 2) (z := (y : Int)) 176 rfl C w (lv_at hl 1 rfl) (lv_at hl 6 rfl) hi5 hL (by decide) hx2 dL_law_170 dL_law_171 dL_law_173 dL_law_174 dL_law_175 ?_
  refine pw_ci w (pw_runV (r := 120) (ci := 8) (As := [.int (zI (x : Int)), .int (zI (y : Int))]) (rest := []) w ⟨hx, hb, hml, hown, hts⟩ (c_X8_cost_ok l D G ad N c1 (by omega) hM1 hV hx9 hy9) (cwV 2 hts gL_law_X8_cost rfl rfl rfl (by decide +kernel) ⟨Nat.le_of_ble_eq_true rfl, Nat.le_of_ble_eq_true rfl⟩) (by omega) hM1.1.choose_spec rfl rfl hl.1 rfl (lv_room (Nat.le_of_ble_eq_true rfl)) dL_law_176 ⟨by show cells + 1 + 0 ≤ 821725; omega, by show slots + 6 + 0 ≤ 6630930; omega⟩) (fun r2 c2 H locs hp w => ?_)
  have w : PW D G A s ad N c2 H locs := w
  obtain ⟨hv2, hM2, fr2⟩ := hp
  subst hv2
  refine lv_istore (lv' := [(7, .int (zI (mv x y))), (6, .int (zI 0)), (0, .ref b), (1, .ref (ad 0)), (2, .ref (ad 120)), (3, .ref (ad 137)), (4, .ref (ad 138)), (5, .int (zI ((5 * ri : Nat) : Int)))]) hx hb dL_law_179 hl (by decide) rfl (fun ls hl => ?_)
  have hD2 := hD1.fr (fun q hq => fr2 q (by omega))
  exact lw_tailI (q1 := 192) (q2 := 209) (q3 := 197) C hnx w hNe hD2 hM2 hV ⟨_, lnA.fr (fr2 137 (by omega)) hO1, fun _ => rfl⟩ (hB1.imp (fun v h => dbA.fr (fr2 138 (by omega)) h)) ⟨by decide, by decide⟩ (by omega) (by omega) (by omega) (lv_at hl 4 rfl) (lv_at hl 5 rfl) (lv_at hl 1 rfl) (lv_at hl 0 rfl) (lv_sub hl [2, 3, 4, 5, 6, 7] rfl) dL_law_181 dL_law_182 dL_law_185 dL_law_187 rfl dL_law_192 dL_law_194 (by decide) rfl dL_law_197 dL_law_198 dL_law_199 dL_law_200 dL_law_202 dL_law_203 dL_law_204 dL_law_209 (by decide)

set_option maxHeartbeats 1000000 in
set_option maxRecDepth 100000 in
theorem law_x_cost (C : LX p l s m args k A b L xs) (hnx : NXT p l e s m args below meth k Q D G A b ri) (w : PW D G A s ad N c H locs) (hW : LWs G ad N c th lim no dn gn gg dg nn pt ln wi) (hl : lv_has ls 8 (lawLs ad b ri)) (hcs : cells ≤ 300 + 10 * ri) (hss : slots ≤ 9000 + 40 * ri) (hi5 : 5 * ri + 5 ≤ L) (hL : L ≤ 2560) {zx zy : Int} (hbzx : bnd zx) (hbzy : bnd zy) (hbad : ¬ ((0 ≤ zx ∧ zx ≤ 8) ∧ 0 ≤ zy ∧ zy ≤ 8))  (hx1 : xs (5 * ri + 1) = zI zx) (hx2 : xs (5 * ri + 2) = zI zy) : W p l e room_1 s m args below meth k H locs cells slots Q (F0 m 144 ls []) := by
  obtain ⟨hx, hb, hts, hown, hml, hX, hbl, hbA, hsT⟩ := id C
  obtain ⟨hNe, hD, hM, hV, ⟨v0, hO⟩, hB⟩ := hW
  have hN : 139 + 2 * no ≤ N := by omega
  obtain ⟨hlim, hOV, hdn4, hdgv, hUV⟩ := id hV
  refine lv_aload_n hx hb dL_law_144 rfl (lv_at hl 1 rfl) ?_
  refine lw_arg (j := 1) (z := zx) 151 rfl C w (lv_at hl 0 rfl) (lv_at hl 5 rfl) hi5 hL (by decide) hx1 dL_law_145 dL_law_146 dL_law_148 dL_law_149 dL_law_150 ?_
  refine lw_arg (j := 2) (z := zy) 157 rfl C w (lv_at hl 0 rfl) (lv_at hl 5 rfl) hi5 hL (by decide) hx2 dL_law_151 dL_law_152 dL_law_154 dL_law_155 dL_law_156 ?_
  refine lv_aload_n hx hb dL_law_157 rfl (lv_at hl 3 rfl) ?_
  refine pw_ci w (pw_runSW (As := [.ref (ad 0), .int (zI zx), .int (zI zy), .ref (ad 137)]) (rest := []) w ⟨hx, hb, hml, hown, hts⟩ (x_L_cost l hsT D G ad N c hN hD hV (zx := zx) (zy := zy) hbzx hbzy hbad) (vx_cwSW 4 hts gL_law_L_cost rfl rfl rfl (by decide +kernel) ⟨Nat.le_of_ble_eq_true rfl, Nat.le_of_ble_eq_true rfl⟩) rfl hl.1 rfl (lv_room (Nat.le_of_ble_eq_true rfl)) dL_law_158 ⟨by show cells + 1 ≤ 821725; omega, by show slots + 6 ≤ 6630930; omega⟩) (fun r_ c1 H locs hp w => ?_)
  have w : PW D G A s ad N c1 H locs := w
  obtain ⟨hv1, hD1, fr1⟩ := hp
  subst hv1
  have hM1 := hM.out (ad1 := ad) (c1 := c1) (fun _ _ => rfl) (fun q h1 h2 => fr1 q (by omega))
  have hB1 : ∃ v, dbA G (c1 138) v := hB.imp (fun v h => dbA.fr (fr1 138 (by omega)) h)
  have hO1 := lnA.fr (fr1 137 (by omega)) hO
  refine lv_istore (lv' := [(6, .int (zI 1)), (0, .ref b), (1, .ref (ad 0)), (2, .ref (ad 120)), (3, .ref (ad 137)), (4, .ref (ad 138)), (5, .int (zI ((5 * ri : Nat) : Int)))]) hx hb dL_law_161 hl (by decide) rfl (fun ls hl => ?_)
  refine lv_aload_n hx hb dL_law_163 rfl (lv_at hl 3 rfl) ?_
  refine lw_arg (j := 1) (z := zx) 170 rfl C w (lv_at hl 1 rfl) (lv_at hl 6 rfl) hi5 hL (by decide) hx1 dL_law_164 dL_law_165 dL_law_167 dL_law_168 dL_law_169 ?_
  refine lw_arg (j := 2) (z := zy) 176 rfl C w (lv_at hl 1 rfl) (lv_at hl 6 rfl) hi5 hL (by decide) hx2 dL_law_170 dL_law_171 dL_law_173 dL_law_174 dL_law_175 ?_
  refine pw_ci w (pw_runV (r := 120) (ci := 8) (As := [.int (zI zx), .int (zI zy)]) (rest := []) w ⟨hx, hb, hml, hown, hts⟩ (c_X8_cost_bad l D G ad N c1 (by omega) hM1 hV hbzx hbzy hbad) (cwV 2 hts gL_law_X8_cost rfl rfl rfl (by decide +kernel) ⟨Nat.le_of_ble_eq_true rfl, Nat.le_of_ble_eq_true rfl⟩) (by omega) hM1.1.choose_spec rfl rfl hl.1 rfl (lv_room (Nat.le_of_ble_eq_true rfl)) dL_law_176 ⟨by show cells + 1 + 0 ≤ 821725; omega, by show slots + 6 + 0 ≤ 6630930; omega⟩) (fun r2 c2 H locs hp w => ?_)
  have w : PW D G A s ad N c2 H locs := w
  obtain ⟨hv2, hM2, fr2⟩ := hp
  subst hv2
  refine lv_istore (lv' := [(7, .int (zI 0)), (6, .int (zI 1)), (0, .ref b), (1, .ref (ad 0)), (2, .ref (ad 120)), (3, .ref (ad 137)), (4, .ref (ad 138)), (5, .int (zI ((5 * ri : Nat) : Int)))]) hx hb dL_law_179 hl (by decide) rfl (fun ls hl => ?_)
  have hD2 := hD1.fr (fun q hq => fr2 q (by omega))
  exact lw_tailI (q1 := 192) (q2 := 209) (q3 := 197) C hnx w hNe hD2 hM2 hV ⟨_, lnA.fr (fr2 137 (by omega)) hO1, fun h => absurd h (by decide)⟩ (hB1.imp (fun v h => dbA.fr (fr2 138 (by omega)) h)) ⟨by decide, by decide⟩ (by omega) (by omega) (by omega) (lv_at hl 4 rfl) (lv_at hl 5 rfl) (lv_at hl 1 rfl) (lv_at hl 0 rfl) (lv_sub hl [2, 3, 4, 5, 6, 7] rfl) dL_law_181 dL_law_182 dL_law_185 dL_law_187 rfl dL_law_192 dL_law_194 (by decide) rfl dL_law_197 dL_law_198 dL_law_199 dL_law_200 dL_law_202 dL_law_203 dL_law_204 dL_law_209 (by decide)

set_option maxHeartbeats 1000000 in
set_option maxRecDepth 100000 in
theorem law_c_isBarred (C : LX p l s m args k A b L xs) (hnx : NXT p l e s m args below meth k Q D G A b ri) (w : PW D G A s ad N c H locs) (hW : LWs G ad N c th lim no dn gn gg dg nn pt ln wi) (hl : lv_has ls 8 (lawLs ad b ri)) (hcs : cells ≤ 300 + 10 * ri) (hss : slots ≤ 9000 + 40 * ri) (hi5 : 5 * ri + 5 ≤ L) (hL : L ≤ 2560) {x y : Nat} (hx9 : x < 9) (hy9 : y < 9)  (hx1 : xs (5 * ri + 1) = zI (x : Int)) (hx2 : xs (5 * ri + 2) = zI (y : Int)) : W p l e room_1 s m args below meth k H locs cells slots Q (F0 m 212 ls []) := by
  obtain ⟨hx, hb, hts, hown, hml, hX, hbl, hbA, hsT⟩ := id C
  obtain ⟨hNe, hD, hM, hV, ⟨v0, hO⟩, hB⟩ := hW
  have hN : 139 + 2 * no ≤ N := by omega
  obtain ⟨hlim, hOV, hdn4, hdgv, hUV⟩ := id hV
  refine lv_aload_n hx hb dL_law_212 rfl (lv_at hl 1 rfl) ?_
  refine lw_arg (j := 1) (z := (x : Int)) 219 rfl C w (lv_at hl 0 rfl) (lv_at hl 5 rfl) hi5 hL (by decide) hx1 dL_law_213 dL_law_214 dL_law_216 dL_law_217 dL_law_218 ?_
  refine lw_arg (j := 2) (z := (y : Int)) 225 rfl C w (lv_at hl 0 rfl) (lv_at hl 5 rfl) hi5 hL (by decide) hx2 dL_law_219 dL_law_220 dL_law_222 dL_law_223 dL_law_224 ?_
  refine lv_aload_n hx hb dL_law_225 rfl (lv_at hl 3 rfl) ?_
  refine pw_ci w (pw_runSW (As := [.ref (ad 0), .int (zI (x : Int)), .int (zI (y : Int)), .ref (ad 137)]) (rest := []) w ⟨hx, hb, hml, hown, hts⟩ (c_L_isBarred l D G ad N c hN hD hV (x := x) (y := y) hx9 hy9 hO) (vx_cwSW 4 hts gL_law_L_isBarred rfl rfl rfl (by decide +kernel) ⟨Nat.le_of_ble_eq_true rfl, Nat.le_of_ble_eq_true rfl⟩) rfl hl.1 rfl (lv_room (Nat.le_of_ble_eq_true rfl)) dL_law_226 ⟨by show cells + 1 ≤ 821725; omega, by show slots + 6 ≤ 6630930; omega⟩) (fun r_ c1 H locs hp w => ?_)
  have w : PW D G A s ad N c1 H locs := w
  obtain ⟨hv1, hO1, hD1, fr1⟩ := hp
  subst hv1
  have hM1 := hM.out (ad1 := ad) (c1 := c1) (fun _ _ => rfl) (fun q h1 h2 => fr1 q (by omega))
  have hB1 : ∃ v, dbA G (c1 138) v := hB.imp (fun v h => dbA.fr (fr1 138 (by omega)) h)
  refine lv_istore (lv' := [(6, .int (zI 0)), (0, .ref b), (1, .ref (ad 0)), (2, .ref (ad 120)), (3, .ref (ad 137)), (4, .ref (ad 138)), (5, .int (zI ((5 * ri : Nat) : Int)))]) hx hb dL_law_229 hl (by decide) rfl (fun ls hl => ?_)
  refine lv_aload_n hx hb dL_law_231 rfl (lv_at hl 3 rfl) ?_
  refine lw_arg (j := 1) (z := (x : Int)) 238 rfl C w (lv_at hl 1 rfl) (lv_at hl 6 rfl) hi5 hL (by decide) hx1 dL_law_232 dL_law_233 dL_law_235 dL_law_236 dL_law_237 ?_
  refine lw_arg (j := 2) (z := (y : Int)) 244 rfl C w (lv_at hl 1 rfl) (lv_at hl 6 rfl) hi5 hL (by decide) hx2 dL_law_238 dL_law_239 dL_law_241 dL_law_242 dL_law_243 ?_
  refine pw_ci w (pw_runV (r := 120) (ci := 8) (As := [.int (zI (x : Int)), .int (zI (y : Int))]) (rest := []) w ⟨hx, hb, hml, hown, hts⟩ (c_X8_isBarred_ok l D G ad N c1 (by omega) hM1 hV hx9 hy9) (cwV 2 hts gL_law_X8_isBarred rfl rfl rfl (by decide +kernel) ⟨Nat.le_of_ble_eq_true rfl, Nat.le_of_ble_eq_true rfl⟩) (by omega) hM1.1.choose_spec rfl rfl hl.1 rfl (lv_room (Nat.le_of_ble_eq_true rfl)) dL_law_244 ⟨by show cells + 1 + 0 ≤ 821725; omega, by show slots + 6 + 0 ≤ 6630930; omega⟩) (fun r2 c2 H locs hp w => ?_)
  have w : PW D G A s ad N c2 H locs := w
  obtain ⟨hv2, hM2, fr2⟩ := hp
  subst hv2
  refine lv_istore (lv' := [(7, .int (zI (if brd lim x y = true then 1 else 0))), (6, .int (zI 0)), (0, .ref b), (1, .ref (ad 0)), (2, .ref (ad 120)), (3, .ref (ad 137)), (4, .ref (ad 138)), (5, .int (zI ((5 * ri : Nat) : Int)))]) hx hb dL_law_247 hl (by decide) rfl (fun ls hl => ?_)
  have hD2 := hD1.fr (fun q hq => fr2 q (by omega))
  exact lw_tailZ (q1 := 260) (q2 := 284) (q3 := 265) (q4 := 273) (q5 := 277) (q6 := 278) C hnx w hNe hD2 hM2 hV ⟨_, lnA.fr (fr2 137 (by omega)) hO1, fun _ => rfl⟩ (hB1.imp (fun v h => dbA.fr (fr2 138 (by omega)) h)) (by split <;> first | exact Or.inr rfl | exact Or.inl rfl) ⟨by decide, by decide⟩ (by omega) (by omega) (by omega) (lv_at hl 4 rfl) (lv_at hl 5 rfl) (lv_at hl 1 rfl) (lv_at hl 0 rfl) (lv_sub hl [2, 3, 4, 5, 6, 7] rfl) dL_law_249 dL_law_250 dL_law_253 dL_law_255 rfl dL_law_260 dL_law_262 (by decide) rfl dL_law_265 dL_law_266 dL_law_267 dL_law_268 dL_law_270 rfl rfl rfl dL_law_273 dL_law_274 dL_law_277 dL_law_278 dL_law_279 dL_law_284 (by decide)

set_option maxHeartbeats 1000000 in
set_option maxRecDepth 100000 in
theorem law_x_isBarred (C : LX p l s m args k A b L xs) (hnx : NXT p l e s m args below meth k Q D G A b ri) (w : PW D G A s ad N c H locs) (hW : LWs G ad N c th lim no dn gn gg dg nn pt ln wi) (hl : lv_has ls 8 (lawLs ad b ri)) (hcs : cells ≤ 300 + 10 * ri) (hss : slots ≤ 9000 + 40 * ri) (hi5 : 5 * ri + 5 ≤ L) (hL : L ≤ 2560) {zx zy : Int} (hbzx : bnd zx) (hbzy : bnd zy) (hbad : ¬ ((0 ≤ zx ∧ zx ≤ 8) ∧ 0 ≤ zy ∧ zy ≤ 8))  (hx1 : xs (5 * ri + 1) = zI zx) (hx2 : xs (5 * ri + 2) = zI zy) : W p l e room_1 s m args below meth k H locs cells slots Q (F0 m 212 ls []) := by
  obtain ⟨hx, hb, hts, hown, hml, hX, hbl, hbA, hsT⟩ := id C
  obtain ⟨hNe, hD, hM, hV, ⟨v0, hO⟩, hB⟩ := hW
  have hN : 139 + 2 * no ≤ N := by omega
  obtain ⟨hlim, hOV, hdn4, hdgv, hUV⟩ := id hV
  refine lv_aload_n hx hb dL_law_212 rfl (lv_at hl 1 rfl) ?_
  refine lw_arg (j := 1) (z := zx) 219 rfl C w (lv_at hl 0 rfl) (lv_at hl 5 rfl) hi5 hL (by decide) hx1 dL_law_213 dL_law_214 dL_law_216 dL_law_217 dL_law_218 ?_
  refine lw_arg (j := 2) (z := zy) 225 rfl C w (lv_at hl 0 rfl) (lv_at hl 5 rfl) hi5 hL (by decide) hx2 dL_law_219 dL_law_220 dL_law_222 dL_law_223 dL_law_224 ?_
  refine lv_aload_n hx hb dL_law_225 rfl (lv_at hl 3 rfl) ?_
  refine pw_ci w (pw_runSW (As := [.ref (ad 0), .int (zI zx), .int (zI zy), .ref (ad 137)]) (rest := []) w ⟨hx, hb, hml, hown, hts⟩ (x_L_isBarred l hsT D G ad N c hN hD hV (zx := zx) (zy := zy) hbzx hbzy hbad) (vx_cwSW 4 hts gL_law_L_isBarred rfl rfl rfl (by decide +kernel) ⟨Nat.le_of_ble_eq_true rfl, Nat.le_of_ble_eq_true rfl⟩) rfl hl.1 rfl (lv_room (Nat.le_of_ble_eq_true rfl)) dL_law_226 ⟨by show cells + 1 ≤ 821725; omega, by show slots + 6 ≤ 6630930; omega⟩) (fun r_ c1 H locs hp w => ?_)
  have w : PW D G A s ad N c1 H locs := w
  obtain ⟨hv1, hD1, fr1⟩ := hp
  subst hv1
  have hM1 := hM.out (ad1 := ad) (c1 := c1) (fun _ _ => rfl) (fun q h1 h2 => fr1 q (by omega))
  have hB1 : ∃ v, dbA G (c1 138) v := hB.imp (fun v h => dbA.fr (fr1 138 (by omega)) h)
  have hO1 := lnA.fr (fr1 137 (by omega)) hO
  refine lv_istore (lv' := [(6, .int (zI 1)), (0, .ref b), (1, .ref (ad 0)), (2, .ref (ad 120)), (3, .ref (ad 137)), (4, .ref (ad 138)), (5, .int (zI ((5 * ri : Nat) : Int)))]) hx hb dL_law_229 hl (by decide) rfl (fun ls hl => ?_)
  refine lv_aload_n hx hb dL_law_231 rfl (lv_at hl 3 rfl) ?_
  refine lw_arg (j := 1) (z := zx) 238 rfl C w (lv_at hl 1 rfl) (lv_at hl 6 rfl) hi5 hL (by decide) hx1 dL_law_232 dL_law_233 dL_law_235 dL_law_236 dL_law_237 ?_
  refine lw_arg (j := 2) (z := zy) 244 rfl C w (lv_at hl 1 rfl) (lv_at hl 6 rfl) hi5 hL (by decide) hx2 dL_law_238 dL_law_239 dL_law_241 dL_law_242 dL_law_243 ?_
  refine pw_ci w (pw_runV (r := 120) (ci := 8) (As := [.int (zI zx), .int (zI zy)]) (rest := []) w ⟨hx, hb, hml, hown, hts⟩ (c_X8_isBarred_bad l D G ad N c1 (by omega) hM1 hV hbzx hbzy hbad) (cwV 2 hts gL_law_X8_isBarred rfl rfl rfl (by decide +kernel) ⟨Nat.le_of_ble_eq_true rfl, Nat.le_of_ble_eq_true rfl⟩) (by omega) hM1.1.choose_spec rfl rfl hl.1 rfl (lv_room (Nat.le_of_ble_eq_true rfl)) dL_law_244 ⟨by show cells + 1 + 0 ≤ 821725; omega, by show slots + 6 + 0 ≤ 6630930; omega⟩) (fun r2 c2 H locs hp w => ?_)
  have w : PW D G A s ad N c2 H locs := w
  obtain ⟨hv2, hM2, fr2⟩ := hp
  subst hv2
  refine lv_istore (lv' := [(7, .int (zI 0)), (6, .int (zI 1)), (0, .ref b), (1, .ref (ad 0)), (2, .ref (ad 120)), (3, .ref (ad 137)), (4, .ref (ad 138)), (5, .int (zI ((5 * ri : Nat) : Int)))]) hx hb dL_law_247 hl (by decide) rfl (fun ls hl => ?_)
  have hD2 := hD1.fr (fun q hq => fr2 q (by omega))
  exact lw_tailZ (q1 := 260) (q2 := 284) (q3 := 265) (q4 := 273) (q5 := 277) (q6 := 278) C hnx w hNe hD2 hM2 hV ⟨_, lnA.fr (fr2 137 (by omega)) hO1, fun h => absurd h (by decide)⟩ (hB1.imp (fun v h => dbA.fr (fr2 138 (by omega)) h)) (Or.inl rfl) ⟨by decide, by decide⟩ (by omega) (by omega) (by omega) (lv_at hl 4 rfl) (lv_at hl 5 rfl) (lv_at hl 1 rfl) (lv_at hl 0 rfl) (lv_sub hl [2, 3, 4, 5, 6, 7] rfl) dL_law_249 dL_law_250 dL_law_253 dL_law_255 rfl dL_law_260 dL_law_262 (by decide) rfl dL_law_265 dL_law_266 dL_law_267 dL_law_268 dL_law_270 rfl rfl rfl dL_law_273 dL_law_274 dL_law_277 dL_law_278 dL_law_279 dL_law_284 (by decide)

set_option maxHeartbeats 1000000 in
set_option maxRecDepth 100000 in
theorem law_c_setLimit (C : LX p l s m args k A b L xs) (hnx : NXT p l e s m args below meth k Q D G A b ri) (w : PW D G A s ad N c H locs) (hW : LWs G ad N c th lim no dn gn gg dg nn pt ln wi) (hl : lv_has ls 8 (lawLs ad b ri)) (hcs : cells ≤ 300 + 10 * ri) (hss : slots ≤ 9000 + 40 * ri) (hi5 : 5 * ri + 5 ≤ L) (hL : L ≤ 2560) {z : Int} (hbz : bnd z) (hok : 0 ≤ z ∧ z ≤ 8)  (hx1 : xs (5 * ri + 1) = zI z) : W p l e room_1 s m args below meth k H locs cells slots Q (F0 m 287 ls []) := by
  obtain ⟨hx, hb, hts, hown, hml, hX, hbl, hbA, hsT⟩ := id C
  obtain ⟨hNe, hD, hM, hV, ⟨v0, hO⟩, hB⟩ := hW
  have hN : 139 + 2 * no ≤ N := by omega
  obtain ⟨hlim, hOV, hdn4, hdgv, hUV⟩ := id hV
  refine lv_aload_n hx hb dL_law_287 rfl (lv_at hl 1 rfl) ?_
  refine lw_arg (j := 1) (z := z) 294 rfl C w (lv_at hl 0 rfl) (lv_at hl 5 rfl) hi5 hL (by decide) hx1 dL_law_288 dL_law_289 dL_law_291 dL_law_292 dL_law_293 ?_
  refine lv_aload_n hx hb dL_law_294 rfl (lv_at hl 3 rfl) ?_
  refine pw_ci w (pw_runSW (As := [.ref (ad 0), .int (zI z), .ref (ad 137)]) (rest := []) w ⟨hx, hb, hml, hown, hts⟩ (c_L_setLimit l D G ad N c hN hD hV (z := z) hbz hok hO) (vx_cwSW 3 hts gL_law_L_setLimit rfl rfl rfl (by decide +kernel) ⟨Nat.le_of_ble_eq_true rfl, Nat.le_of_ble_eq_true rfl⟩) rfl hl.1 rfl (lv_room (Nat.le_of_ble_eq_true rfl)) dL_law_295 ⟨by show cells + 1 ≤ 821725; omega, by show slots + 6 ≤ 6630930; omega⟩) (fun r_ c1 H locs hp w => ?_)
  have w : PW D G A s ad N c1 H locs := w
  obtain ⟨hv1, hO1, hD1, fr1⟩ := hp
  subst hv1
  have hM1 := hM.out (ad1 := ad) (c1 := c1) (fun _ _ => rfl) (fun q h1 h2 => fr1 q (by omega))
  have hB1 : ∃ v, dbA G (c1 138) v := hB.imp (fun v h => dbA.fr (fr1 138 (by omega)) h)
  refine lv_istore (lv' := [(6, .int (zI 0)), (0, .ref b), (1, .ref (ad 0)), (2, .ref (ad 120)), (3, .ref (ad 137)), (4, .ref (ad 138)), (5, .int (zI ((5 * ri : Nat) : Int)))]) hx hb dL_law_298 hl (by decide) rfl (fun ls hl => ?_)
  refine lv_aload_n hx hb dL_law_300 rfl (lv_at hl 3 rfl) ?_
  refine lw_arg (j := 1) (z := z) 307 rfl C w (lv_at hl 1 rfl) (lv_at hl 6 rfl) hi5 hL (by decide) hx1 dL_law_301 dL_law_302 dL_law_304 dL_law_305 dL_law_306 ?_
  refine pw_ci w (pw_runV (r := 120) (ci := 8) (As := [.int (zI z)]) (rest := []) w ⟨hx, hb, hml, hown, hts⟩ (c_X8_setLimit_ok l D G ad N c1 (by omega) hM1 hV (zx := z) hbz hok) (cwV 1 hts gL_law_X8_setLimit rfl rfl rfl (by decide +kernel) ⟨Nat.le_of_ble_eq_true rfl, Nat.le_of_ble_eq_true rfl⟩) (by omega) hM1.1.choose_spec rfl rfl hl.1 rfl (lv_room (Nat.le_of_ble_eq_true rfl)) dL_law_307 ⟨by show cells + 1 + 0 ≤ 821725; omega, by show slots + 6 + 0 ≤ 6630930; omega⟩) (fun r2 c2 H locs hp w => ?_)
  have w : PW D G A s ad N c2 H locs := w
  obtain ⟨hv2, hM2, fr2⟩ := hp
  subst hv2
  refine lv_istore (lv' := [(7, .int (zI (brdAll z 9))), (6, .int (zI 0)), (0, .ref b), (1, .ref (ad 0)), (2, .ref (ad 120)), (3, .ref (ad 137)), (4, .ref (ad 138)), (5, .int (zI ((5 * ri : Nat) : Int)))]) hx hb dL_law_310 hl (by decide) rfl (fun ls hl => ?_)
  have hD2 := hD1.fr (fun q hq => fr2 q (by omega))
  exact lw_tailI (q1 := 323) (q2 := 340) (q3 := 328) C hnx w hNe hD2 hM2 (hV.lims hok) ⟨_, lnA.fr (fr2 137 (by omega)) hO1, fun _ => rfl⟩ (hB1.imp (fun v h => dbA.fr (fr2 138 (by omega)) h)) ⟨by decide, by decide⟩ (by omega) (by omega) (by omega) (lv_at hl 4 rfl) (lv_at hl 5 rfl) (lv_at hl 1 rfl) (lv_at hl 0 rfl) (lv_sub hl [2, 3, 4, 5, 6, 7] rfl) dL_law_312 dL_law_313 dL_law_316 dL_law_318 rfl dL_law_323 dL_law_325 (by decide) rfl dL_law_328 dL_law_329 dL_law_330 dL_law_331 dL_law_333 dL_law_334 dL_law_335 dL_law_340 (by decide)

set_option maxHeartbeats 1000000 in
set_option maxRecDepth 100000 in
theorem law_x_setLimit (C : LX p l s m args k A b L xs) (hnx : NXT p l e s m args below meth k Q D G A b ri) (w : PW D G A s ad N c H locs) (hW : LWs G ad N c th lim no dn gn gg dg nn pt ln wi) (hl : lv_has ls 8 (lawLs ad b ri)) (hcs : cells ≤ 300 + 10 * ri) (hss : slots ≤ 9000 + 40 * ri) (hi5 : 5 * ri + 5 ≤ L) (hL : L ≤ 2560) {z : Int} (hbz : bnd z) (hbad : ¬ (0 ≤ z ∧ z ≤ 8))  (hx1 : xs (5 * ri + 1) = zI z) : W p l e room_1 s m args below meth k H locs cells slots Q (F0 m 287 ls []) := by
  obtain ⟨hx, hb, hts, hown, hml, hX, hbl, hbA, hsT⟩ := id C
  obtain ⟨hNe, hD, hM, hV, ⟨v0, hO⟩, hB⟩ := hW
  have hN : 139 + 2 * no ≤ N := by omega
  obtain ⟨hlim, hOV, hdn4, hdgv, hUV⟩ := id hV
  refine lv_aload_n hx hb dL_law_287 rfl (lv_at hl 1 rfl) ?_
  refine lw_arg (j := 1) (z := z) 294 rfl C w (lv_at hl 0 rfl) (lv_at hl 5 rfl) hi5 hL (by decide) hx1 dL_law_288 dL_law_289 dL_law_291 dL_law_292 dL_law_293 ?_
  refine lv_aload_n hx hb dL_law_294 rfl (lv_at hl 3 rfl) ?_
  refine pw_ci w (pw_runSW (As := [.ref (ad 0), .int (zI z), .ref (ad 137)]) (rest := []) w ⟨hx, hb, hml, hown, hts⟩ (x_L_setLimit l hsT D G ad N c hN hD hV (z := z) hbz hbad) (vx_cwSW 3 hts gL_law_L_setLimit rfl rfl rfl (by decide +kernel) ⟨Nat.le_of_ble_eq_true rfl, Nat.le_of_ble_eq_true rfl⟩) rfl hl.1 rfl (lv_room (Nat.le_of_ble_eq_true rfl)) dL_law_295 ⟨by show cells + 1 ≤ 821725; omega, by show slots + 6 ≤ 6630930; omega⟩) (fun r_ c1 H locs hp w => ?_)
  have w : PW D G A s ad N c1 H locs := w
  obtain ⟨hv1, hD1, fr1⟩ := hp
  subst hv1
  have hM1 := hM.out (ad1 := ad) (c1 := c1) (fun _ _ => rfl) (fun q h1 h2 => fr1 q (by omega))
  have hB1 : ∃ v, dbA G (c1 138) v := hB.imp (fun v h => dbA.fr (fr1 138 (by omega)) h)
  have hO1 := lnA.fr (fr1 137 (by omega)) hO
  refine lv_istore (lv' := [(6, .int (zI 1)), (0, .ref b), (1, .ref (ad 0)), (2, .ref (ad 120)), (3, .ref (ad 137)), (4, .ref (ad 138)), (5, .int (zI ((5 * ri : Nat) : Int)))]) hx hb dL_law_298 hl (by decide) rfl (fun ls hl => ?_)
  refine lv_aload_n hx hb dL_law_300 rfl (lv_at hl 3 rfl) ?_
  refine lw_arg (j := 1) (z := z) 307 rfl C w (lv_at hl 1 rfl) (lv_at hl 6 rfl) hi5 hL (by decide) hx1 dL_law_301 dL_law_302 dL_law_304 dL_law_305 dL_law_306 ?_
  refine pw_ci w (pw_runV (r := 120) (ci := 8) (As := [.int (zI z)]) (rest := []) w ⟨hx, hb, hml, hown, hts⟩ (c_X8_setLimit_bad l D G ad N c1 (by omega) hM1 hV (zx := z) hbz hbad) (cwV 1 hts gL_law_X8_setLimit rfl rfl rfl (by decide +kernel) ⟨Nat.le_of_ble_eq_true rfl, Nat.le_of_ble_eq_true rfl⟩) (by omega) hM1.1.choose_spec rfl rfl hl.1 rfl (lv_room (Nat.le_of_ble_eq_true rfl)) dL_law_307 ⟨by show cells + 1 + 0 ≤ 821725; omega, by show slots + 6 + 0 ≤ 6630930; omega⟩) (fun r2 c2 H locs hp w => ?_)
  have w : PW D G A s ad N c2 H locs := w
  obtain ⟨hv2, hM2, fr2⟩ := hp
  subst hv2
  refine lv_istore (lv' := [(7, .int (zI 0)), (6, .int (zI 1)), (0, .ref b), (1, .ref (ad 0)), (2, .ref (ad 120)), (3, .ref (ad 137)), (4, .ref (ad 138)), (5, .int (zI ((5 * ri : Nat) : Int)))]) hx hb dL_law_310 hl (by decide) rfl (fun ls hl => ?_)
  have hD2 := hD1.fr (fun q hq => fr2 q (by omega))
  exact lw_tailI (q1 := 323) (q2 := 340) (q3 := 328) C hnx w hNe hD2 hM2 hV ⟨_, lnA.fr (fr2 137 (by omega)) hO1, fun h => absurd h (by decide)⟩ (hB1.imp (fun v h => dbA.fr (fr2 138 (by omega)) h)) ⟨by decide, by decide⟩ (by omega) (by omega) (by omega) (lv_at hl 4 rfl) (lv_at hl 5 rfl) (lv_at hl 1 rfl) (lv_at hl 0 rfl) (lv_sub hl [2, 3, 4, 5, 6, 7] rfl) dL_law_312 dL_law_313 dL_law_316 dL_law_318 rfl dL_law_323 dL_law_325 (by decide) rfl dL_law_328 dL_law_329 dL_law_330 dL_law_331 dL_law_333 dL_law_334 dL_law_335 dL_law_340 (by decide)

set_option maxHeartbeats 1000000 in
set_option maxRecDepth 100000 in
theorem law_c_grace (C : LX p l s m args k A b L xs) (hnx : NXT p l e s m args below meth k Q D G A b ri) (w : PW D G A s ad N c H locs) (hW : LWs G ad N c th lim no dn gn gg dg nn pt ln wi) (hl : lv_has ls 8 (lawLs ad b ri)) (hcs : cells ≤ 300 + 10 * ri) (hss : slots ≤ 9000 + 40 * ri) (hi5 : 5 * ri + 5 ≤ L) (hL : L ≤ 2560) {g : Nat} (hg : g ≤ 10) (hd : dn < 4)  (hx1 : xs (5 * ri + 1) = zI (g : Int)) : W p l e room_1 s m args below meth k H locs cells slots Q (F0 m 343 ls []) := by
  obtain ⟨hx, hb, hts, hown, hml, hX, hbl, hbA, hsT⟩ := id C
  obtain ⟨hNe, hD, hM, hV, ⟨v0, hO⟩, hB⟩ := hW
  have hN : 139 + 2 * no ≤ N := by omega
  obtain ⟨hlim, hOV, hdn4, hdgv, hUV⟩ := id hV
  refine lv_aload_n hx hb dL_law_343 rfl (lv_at hl 1 rfl) ?_
  refine lw_arg (j := 1) (z := (g : Int)) 350 rfl C w (lv_at hl 0 rfl) (lv_at hl 5 rfl) hi5 hL (by decide) hx1 dL_law_344 dL_law_345 dL_law_347 dL_law_348 dL_law_349 ?_
  refine lv_aload_n hx hb dL_law_350 rfl (lv_at hl 3 rfl) ?_
  refine pw_ci w (pw_runSW (As := [.ref (ad 0), .int (zI (g : Int)), .ref (ad 137)]) (rest := []) w ⟨hx, hb, hml, hown, hts⟩ (c_L_grace l D G ad N c hN hD hV (g := g) hg hd hO) (vx_cwSW 3 hts gL_law_L_grace rfl rfl rfl (by decide +kernel) ⟨Nat.le_of_ble_eq_true rfl, Nat.le_of_ble_eq_true rfl⟩) rfl hl.1 rfl (lv_room (Nat.le_of_ble_eq_true rfl)) dL_law_351 ⟨by show cells + 1 ≤ 821725; omega, by show slots + 6 ≤ 6630930; omega⟩) (fun r_ c1 H locs hp w => ?_)
  have w : PW D G A s ad N c1 H locs := w
  obtain ⟨hv1, hO1, hD1, fr1⟩ := hp
  subst hv1
  have hM1 := hM.out (ad1 := ad) (c1 := c1) (fun _ _ => rfl) (fun q h1 h2 => fr1 q (by omega))
  have hB1 : ∃ v, dbA G (c1 138) v := hB.imp (fun v h => dbA.fr (fr1 138 (by omega)) h)
  refine lv_istore (lv' := [(6, .int (zI 0)), (0, .ref b), (1, .ref (ad 0)), (2, .ref (ad 120)), (3, .ref (ad 137)), (4, .ref (ad 138)), (5, .int (zI ((5 * ri : Nat) : Int)))]) hx hb dL_law_354 hl (by decide) rfl (fun ls hl => ?_)
  refine lv_aload_n hx hb dL_law_356 rfl (lv_at hl 3 rfl) ?_
  refine lw_arg (j := 1) (z := (g : Int)) 363 rfl C w (lv_at hl 1 rfl) (lv_at hl 6 rfl) hi5 hL (by decide) hx1 dL_law_357 dL_law_358 dL_law_360 dL_law_361 dL_law_362 ?_
  refine pw_ci w (pw_runV (r := 120) (ci := 8) (As := [.int (zI (g : Int))]) (rest := []) w ⟨hx, hb, hml, hown, hts⟩ (c_X8_grace_ok l D G ad N c1 (by omega) hM1 hV hg hd) (cwV 1 hts gL_law_X8_grace rfl rfl rfl (by decide +kernel) ⟨Nat.le_of_ble_eq_true rfl, Nat.le_of_ble_eq_true rfl⟩) (by omega) hM1.1.choose_spec rfl rfl hl.1 rfl (lv_room (Nat.le_of_ble_eq_true rfl)) dL_law_363 ⟨by show cells + 1 + 0 ≤ 821725; omega, by show slots + 6 + 0 ≤ 6630930; omega⟩) (fun r2 c2 H locs hp w => ?_)
  have w : PW D G A s ad N c2 H locs := w
  obtain ⟨hv2, hM2, fr2⟩ := hp
  subst hv2
  refine lv_istore (lv' := [(7, .int (zI ((dn + 1 : Nat) : Int))), (6, .int (zI 0)), (0, .ref b), (1, .ref (ad 0)), (2, .ref (ad 120)), (3, .ref (ad 137)), (4, .ref (ad 138)), (5, .int (zI ((5 * ri : Nat) : Int)))]) hx hb dL_law_366 hl (by decide) rfl (fun ls hl => ?_)
  have hD2 := hD1.fr (fun q hq => fr2 q (by omega))
  exact lw_tailI (q1 := 379) (q2 := 396) (q3 := 384) C hnx w hNe hD2 hM2 (hV.grace hd hg) ⟨_, lnA.fr (fr2 137 (by omega)) hO1, fun _ => rfl⟩ (hB1.imp (fun v h => dbA.fr (fr2 138 (by omega)) h)) ⟨by decide, by decide⟩ (by omega) (by omega) (by omega) (lv_at hl 4 rfl) (lv_at hl 5 rfl) (lv_at hl 1 rfl) (lv_at hl 0 rfl) (lv_sub hl [2, 3, 4, 5, 6, 7] rfl) dL_law_368 dL_law_369 dL_law_372 dL_law_374 rfl dL_law_379 dL_law_381 (by decide) rfl dL_law_384 dL_law_385 dL_law_386 dL_law_387 dL_law_389 dL_law_390 dL_law_391 dL_law_396 (by decide)

set_option maxHeartbeats 1000000 in
set_option maxRecDepth 100000 in
theorem law_x_grace1 (C : LX p l s m args k A b L xs) (hnx : NXT p l e s m args below meth k Q D G A b ri) (w : PW D G A s ad N c H locs) (hW : LWs G ad N c th lim no dn gn gg dg nn pt ln wi) (hl : lv_has ls 8 (lawLs ad b ri)) (hcs : cells ≤ 300 + 10 * ri) (hss : slots ≤ 9000 + 40 * ri) (hi5 : 5 * ri + 5 ≤ L) (hL : L ≤ 2560) {z : Int} (hbz : bnd z) (hbad : ¬ (0 ≤ z ∧ z ≤ 10))  (hx1 : xs (5 * ri + 1) = zI z) : W p l e room_1 s m args below meth k H locs cells slots Q (F0 m 343 ls []) := by
  obtain ⟨hx, hb, hts, hown, hml, hX, hbl, hbA, hsT⟩ := id C
  obtain ⟨hNe, hD, hM, hV, ⟨v0, hO⟩, hB⟩ := hW
  have hN : 139 + 2 * no ≤ N := by omega
  obtain ⟨hlim, hOV, hdn4, hdgv, hUV⟩ := id hV
  refine lv_aload_n hx hb dL_law_343 rfl (lv_at hl 1 rfl) ?_
  refine lw_arg (j := 1) (z := z) 350 rfl C w (lv_at hl 0 rfl) (lv_at hl 5 rfl) hi5 hL (by decide) hx1 dL_law_344 dL_law_345 dL_law_347 dL_law_348 dL_law_349 ?_
  refine lv_aload_n hx hb dL_law_350 rfl (lv_at hl 3 rfl) ?_
  refine pw_ci w (pw_runSW (As := [.ref (ad 0), .int (zI z), .ref (ad 137)]) (rest := []) w ⟨hx, hb, hml, hown, hts⟩ (x_L_grace1 l hsT D G ad N c hN hD hV (z := z) hbz hbad) (vx_cwSW 3 hts gL_law_L_grace rfl rfl rfl (by decide +kernel) ⟨Nat.le_of_ble_eq_true rfl, Nat.le_of_ble_eq_true rfl⟩) rfl hl.1 rfl (lv_room (Nat.le_of_ble_eq_true rfl)) dL_law_351 ⟨by show cells + 1 ≤ 821725; omega, by show slots + 6 ≤ 6630930; omega⟩) (fun r_ c1 H locs hp w => ?_)
  have w : PW D G A s ad N c1 H locs := w
  obtain ⟨hv1, hD1, fr1⟩ := hp
  subst hv1
  have hM1 := hM.out (ad1 := ad) (c1 := c1) (fun _ _ => rfl) (fun q h1 h2 => fr1 q (by omega))
  have hB1 : ∃ v, dbA G (c1 138) v := hB.imp (fun v h => dbA.fr (fr1 138 (by omega)) h)
  have hO1 := lnA.fr (fr1 137 (by omega)) hO
  refine lv_istore (lv' := [(6, .int (zI 1)), (0, .ref b), (1, .ref (ad 0)), (2, .ref (ad 120)), (3, .ref (ad 137)), (4, .ref (ad 138)), (5, .int (zI ((5 * ri : Nat) : Int)))]) hx hb dL_law_354 hl (by decide) rfl (fun ls hl => ?_)
  refine lv_aload_n hx hb dL_law_356 rfl (lv_at hl 3 rfl) ?_
  refine lw_arg (j := 1) (z := z) 363 rfl C w (lv_at hl 1 rfl) (lv_at hl 6 rfl) hi5 hL (by decide) hx1 dL_law_357 dL_law_358 dL_law_360 dL_law_361 dL_law_362 ?_
  refine pw_ci w (pw_runV (r := 120) (ci := 8) (As := [.int (zI z)]) (rest := []) w ⟨hx, hb, hml, hown, hts⟩ (c_X8_grace_bad1 l D G ad N c1 (by omega) hM1 hV (zx := z) hbz hbad) (cwV 1 hts gL_law_X8_grace rfl rfl rfl (by decide +kernel) ⟨Nat.le_of_ble_eq_true rfl, Nat.le_of_ble_eq_true rfl⟩) (by omega) hM1.1.choose_spec rfl rfl hl.1 rfl (lv_room (Nat.le_of_ble_eq_true rfl)) dL_law_363 ⟨by show cells + 1 + 0 ≤ 821725; omega, by show slots + 6 + 0 ≤ 6630930; omega⟩) (fun r2 c2 H locs hp w => ?_)
  have w : PW D G A s ad N c2 H locs := w
  obtain ⟨hv2, hM2, fr2⟩ := hp
  subst hv2
  refine lv_istore (lv' := [(7, .int (zI 0)), (6, .int (zI 1)), (0, .ref b), (1, .ref (ad 0)), (2, .ref (ad 120)), (3, .ref (ad 137)), (4, .ref (ad 138)), (5, .int (zI ((5 * ri : Nat) : Int)))]) hx hb dL_law_366 hl (by decide) rfl (fun ls hl => ?_)
  have hD2 := hD1.fr (fun q hq => fr2 q (by omega))
  exact lw_tailI (q1 := 379) (q2 := 396) (q3 := 384) C hnx w hNe hD2 hM2 hV ⟨_, lnA.fr (fr2 137 (by omega)) hO1, fun h => absurd h (by decide)⟩ (hB1.imp (fun v h => dbA.fr (fr2 138 (by omega)) h)) ⟨by decide, by decide⟩ (by omega) (by omega) (by omega) (lv_at hl 4 rfl) (lv_at hl 5 rfl) (lv_at hl 1 rfl) (lv_at hl 0 rfl) (lv_sub hl [2, 3, 4, 5, 6, 7] rfl) dL_law_368 dL_law_369 dL_law_372 dL_law_374 rfl dL_law_379 dL_law_381 (by decide) rfl dL_law_384 dL_law_385 dL_law_386 dL_law_387 dL_law_389 dL_law_390 dL_law_391 dL_law_396 (by decide)

set_option maxHeartbeats 1000000 in
set_option maxRecDepth 100000 in
theorem law_x_grace2 (C : LX p l s m args k A b L xs) (hnx : NXT p l e s m args below meth k Q D G A b ri) (w : PW D G A s ad N c H locs) (hW : LWs G ad N c th lim no dn gn gg dg nn pt ln wi) (hl : lv_has ls 8 (lawLs ad b ri)) (hcs : cells ≤ 300 + 10 * ri) (hss : slots ≤ 9000 + 40 * ri) (hi5 : 5 * ri + 5 ≤ L) (hL : L ≤ 2560) {g : Nat} (hg : g ≤ 10) (hd : dn = 4)  (hx1 : xs (5 * ri + 1) = zI (g : Int)) : W p l e room_1 s m args below meth k H locs cells slots Q (F0 m 343 ls []) := by
  obtain ⟨hx, hb, hts, hown, hml, hX, hbl, hbA, hsT⟩ := id C
  obtain ⟨hNe, hD, hM, hV, ⟨v0, hO⟩, hB⟩ := hW
  have hN : 139 + 2 * no ≤ N := by omega
  obtain ⟨hlim, hOV, hdn4, hdgv, hUV⟩ := id hV
  refine lv_aload_n hx hb dL_law_343 rfl (lv_at hl 1 rfl) ?_
  refine lw_arg (j := 1) (z := (g : Int)) 350 rfl C w (lv_at hl 0 rfl) (lv_at hl 5 rfl) hi5 hL (by decide) hx1 dL_law_344 dL_law_345 dL_law_347 dL_law_348 dL_law_349 ?_
  refine lv_aload_n hx hb dL_law_350 rfl (lv_at hl 3 rfl) ?_
  refine pw_ci w (pw_runSW (As := [.ref (ad 0), .int (zI (g : Int)), .ref (ad 137)]) (rest := []) w ⟨hx, hb, hml, hown, hts⟩ (x_L_grace2 l hsT D G ad N c hN hD hV (g := g) hg hd) (vx_cwSW 3 hts gL_law_L_grace rfl rfl rfl (by decide +kernel) ⟨Nat.le_of_ble_eq_true rfl, Nat.le_of_ble_eq_true rfl⟩) rfl hl.1 rfl (lv_room (Nat.le_of_ble_eq_true rfl)) dL_law_351 ⟨by show cells + 1 ≤ 821725; omega, by show slots + 6 ≤ 6630930; omega⟩) (fun r_ c1 H locs hp w => ?_)
  have w : PW D G A s ad N c1 H locs := w
  obtain ⟨hv1, hD1, fr1⟩ := hp
  subst hv1
  have hM1 := hM.out (ad1 := ad) (c1 := c1) (fun _ _ => rfl) (fun q h1 h2 => fr1 q (by omega))
  have hB1 : ∃ v, dbA G (c1 138) v := hB.imp (fun v h => dbA.fr (fr1 138 (by omega)) h)
  have hO1 := lnA.fr (fr1 137 (by omega)) hO
  refine lv_istore (lv' := [(6, .int (zI 2)), (0, .ref b), (1, .ref (ad 0)), (2, .ref (ad 120)), (3, .ref (ad 137)), (4, .ref (ad 138)), (5, .int (zI ((5 * ri : Nat) : Int)))]) hx hb dL_law_354 hl (by decide) rfl (fun ls hl => ?_)
  refine lv_aload_n hx hb dL_law_356 rfl (lv_at hl 3 rfl) ?_
  refine lw_arg (j := 1) (z := (g : Int)) 363 rfl C w (lv_at hl 1 rfl) (lv_at hl 6 rfl) hi5 hL (by decide) hx1 dL_law_357 dL_law_358 dL_law_360 dL_law_361 dL_law_362 ?_
  refine pw_ci w (pw_runV (r := 120) (ci := 8) (As := [.int (zI (g : Int))]) (rest := []) w ⟨hx, hb, hml, hown, hts⟩ (c_X8_grace_bad2 l D G ad N c1 (by omega) hM1 hV hg hd) (cwV 1 hts gL_law_X8_grace rfl rfl rfl (by decide +kernel) ⟨Nat.le_of_ble_eq_true rfl, Nat.le_of_ble_eq_true rfl⟩) (by omega) hM1.1.choose_spec rfl rfl hl.1 rfl (lv_room (Nat.le_of_ble_eq_true rfl)) dL_law_363 ⟨by show cells + 1 + 0 ≤ 821725; omega, by show slots + 6 + 0 ≤ 6630930; omega⟩) (fun r2 c2 H locs hp w => ?_)
  have w : PW D G A s ad N c2 H locs := w
  obtain ⟨hv2, hM2, fr2⟩ := hp
  subst hv2
  refine lv_istore (lv' := [(7, .int (zI 0)), (6, .int (zI 2)), (0, .ref b), (1, .ref (ad 0)), (2, .ref (ad 120)), (3, .ref (ad 137)), (4, .ref (ad 138)), (5, .int (zI ((5 * ri : Nat) : Int)))]) hx hb dL_law_366 hl (by decide) rfl (fun ls hl => ?_)
  have hD2 := hD1.fr (fun q hq => fr2 q (by omega))
  exact lw_tailI (q1 := 379) (q2 := 396) (q3 := 384) C hnx w hNe hD2 hM2 hV ⟨_, lnA.fr (fr2 137 (by omega)) hO1, fun h => absurd h (by decide)⟩ (hB1.imp (fun v h => dbA.fr (fr2 138 (by omega)) h)) ⟨by decide, by decide⟩ (by omega) (by omega) (by omega) (lv_at hl 4 rfl) (lv_at hl 5 rfl) (lv_at hl 1 rfl) (lv_at hl 0 rfl) (lv_sub hl [2, 3, 4, 5, 6, 7] rfl) dL_law_368 dL_law_369 dL_law_372 dL_law_374 rfl dL_law_379 dL_law_381 (by decide) rfl dL_law_384 dL_law_385 dL_law_386 dL_law_387 dL_law_389 dL_law_390 dL_law_391 dL_law_396 (by decide)

set_option maxHeartbeats 1000000 in
set_option maxRecDepth 100000 in
theorem law_c_enter (C : LX p l s m args k A b L xs) (hnx : NXT p l e s m args below meth k Q D G A b ri) (w : PW D G A s ad N c H locs) (hW : LWs G ad N c th lim no dn gn gg dg nn pt ln wi) (hl : lv_has ls 8 (lawLs ad b ri)) (hcs : cells ≤ 300 + 10 * ri) (hss : slots ≤ 9000 + 40 * ri) (hi5 : 5 * ri + 5 ≤ L) (hL : L ≤ 2560) (hd1 : 1 ≤ dn) (ho7 : no < 8)   : W p l e room_1 s m args below meth k H locs cells slots Q (F0 m 399 ls []) := by
  obtain ⟨hx, hb, hts, hown, hml, hX, hbl, hbA, hsT⟩ := id C
  obtain ⟨hNe, hD, hM, hV, ⟨v0, hO⟩, hB⟩ := hW
  have hN : 139 + 2 * no ≤ N := by omega
  obtain ⟨hlim, hOV, hdn4, hdgv, hUV⟩ := id hV
  refine lv_aload_n hx hb dL_law_399 rfl (lv_at hl 1 rfl) ?_
  refine lv_aload_n hx hb dL_law_400 rfl (lv_at hl 3 rfl) ?_
  refine pw_ci w (pw_runSW (As := [.ref (ad 0), .ref (ad 137)]) (rest := []) w ⟨hx, hb, hml, hown, hts⟩ (c_L_enter l D G ad N c hNe hD hV hd1 ho7 hO) (vx_cwSW 2 hts gL_law_L_enter rfl rfl rfl (by decide +kernel) ⟨Nat.le_of_ble_eq_true rfl, Nat.le_of_ble_eq_true rfl⟩) rfl hl.1 rfl (lv_room (Nat.le_of_ble_eq_true rfl)) dL_law_401 ⟨by show cells + 2 ≤ 821725; omega, by show slots + 6 ≤ 6630930; omega⟩) (fun r_ u1 H locs hp w => ?_)
  obtain ⟨ad1, c1⟩ := u1
  obtain ⟨hv1, ha, hO1, hD1, fr1⟩ := hp
  subst hv1
  have w : PW D G A s ad1 (N + 1 + 1) c1 H locs := w
  have ha : ∀ r, r < N → ad1 r = ad r := ha
  have hD1 : DK G ad1 c1 lim (no + 1) 0 (fun k => if k = no then dn else gn k) (fun k => if k = no then dg else gg k) dg nn pt ln wi := hD1
  have hO1 : lnA G (c1 137) (zI (no : Int)).toInt64 := hO1
  have fr1 : ∀ q, (120 ≤ q ∧ q < 139 ∧ q ≠ 137) → c1 q = c q := fr1
  have hl : lv_has ls 8 (lawLs ad1 b ri) := by
    rw [show lawLs ad1 b ri = lawLs ad b ri from by unfold lawLs; rw [ha 0 (by omega), ha 120 (by omega), ha 137 (by omega), ha 138 (by omega)]]
    exact hl
  have hM1 := hM.out (ad1 := ad1) (c1 := c1) (fun r hr => ha r (by omega)) (fun q h1 h2 => fr1 q (by omega))
  have hB1 : ∃ v, dbA G (c1 138) v := hB.imp (fun v h => dbA.fr (fr1 138 (by omega)) h)
  refine lv_istore (lv' := [(6, .int (zI 0)), (0, .ref b), (1, .ref (ad1 0)), (2, .ref (ad1 120)), (3, .ref (ad1 137)), (4, .ref (ad1 138)), (5, .int (zI ((5 * ri : Nat) : Int)))]) hx hb dL_law_404 hl (by decide) rfl (fun ls hl => ?_)
  refine lv_aload_n hx hb dL_law_406 rfl (lv_at hl 3 rfl) ?_
  refine pw_ci w (pw_runV (r := 120) (ci := 8) (As := []) (rest := []) w ⟨hx, hb, hml, hown, hts⟩ (c_X8_enter_ok l D G ad1 (N + 1 + 1) c1 (by omega) hM1 hV hd1 ho7) (cwV 0 hts gL_law_X8_enter rfl rfl rfl (by decide +kernel) ⟨Nat.le_of_ble_eq_true rfl, Nat.le_of_ble_eq_true rfl⟩) (by omega) hM1.1.choose_spec rfl rfl hl.1 rfl (lv_room (Nat.le_of_ble_eq_true rfl)) dL_law_407 ⟨by show cells + 2 + 0 ≤ 821725; omega, by show slots + 6 + 0 ≤ 6630930; omega⟩) (fun r2 c2 H locs hp w => ?_)
  have w : PW D G A s ad1 (N + 1 + 1) c2 H locs := w
  obtain ⟨hv2, hM2, fr2⟩ := hp
  subst hv2
  refine lv_istore (lv' := [(7, .int (zI (no : Int))), (6, .int (zI 0)), (0, .ref b), (1, .ref (ad1 0)), (2, .ref (ad1 120)), (3, .ref (ad1 137)), (4, .ref (ad1 138)), (5, .int (zI ((5 * ri : Nat) : Int)))]) hx hb dL_law_410 hl (by decide) rfl (fun ls hl => ?_)
  have hD2 := hD1.fr (fun q hq => fr2 q (by omega))
  exact lw_tailI (q1 := 423) (q2 := 440) (q3 := 428) C hnx w (by omega) hD2 hM2 (hV.enter hd1 ho7) ⟨_, lnA.fr (fr2 137 (by omega)) hO1, fun _ => rfl⟩ (hB1.imp (fun v h => dbA.fr (fr2 138 (by omega)) h)) ⟨by decide, by decide⟩ (by omega) (by omega) (by omega) (lv_at hl 4 rfl) (lv_at hl 5 rfl) (lv_at hl 1 rfl) (lv_at hl 0 rfl) (lv_sub hl [2, 3, 4, 5, 6, 7] rfl) dL_law_412 dL_law_413 dL_law_416 dL_law_418 rfl dL_law_423 dL_law_425 (by decide) rfl dL_law_428 dL_law_429 dL_law_430 dL_law_431 dL_law_433 dL_law_434 dL_law_435 dL_law_440 (by decide)

set_option maxHeartbeats 1000000 in
set_option maxRecDepth 100000 in
theorem law_x_enter1 (C : LX p l s m args k A b L xs) (hnx : NXT p l e s m args below meth k Q D G A b ri) (w : PW D G A s ad N c H locs) (hW : LWs G ad N c th lim no dn gn gg dg nn pt ln wi) (hl : lv_has ls 8 (lawLs ad b ri)) (hcs : cells ≤ 300 + 10 * ri) (hss : slots ≤ 9000 + 40 * ri) (hi5 : 5 * ri + 5 ≤ L) (hL : L ≤ 2560) (hbad : dn = 0)   : W p l e room_1 s m args below meth k H locs cells slots Q (F0 m 399 ls []) := by
  obtain ⟨hx, hb, hts, hown, hml, hX, hbl, hbA, hsT⟩ := id C
  obtain ⟨hNe, hD, hM, hV, ⟨v0, hO⟩, hB⟩ := hW
  have hN : 139 + 2 * no ≤ N := by omega
  obtain ⟨hlim, hOV, hdn4, hdgv, hUV⟩ := id hV
  refine lv_aload_n hx hb dL_law_399 rfl (lv_at hl 1 rfl) ?_
  refine lv_aload_n hx hb dL_law_400 rfl (lv_at hl 3 rfl) ?_
  refine pw_ci w (pw_runSW (As := [.ref (ad 0), .ref (ad 137)]) (rest := []) w ⟨hx, hb, hml, hown, hts⟩ (x_L_enter1 l hsT D G ad N c hN hD hV hbad) (vx_cwSW 2 hts gL_law_L_enter rfl rfl rfl (by decide +kernel) ⟨Nat.le_of_ble_eq_true rfl, Nat.le_of_ble_eq_true rfl⟩) rfl hl.1 rfl (lv_room (Nat.le_of_ble_eq_true rfl)) dL_law_401 ⟨by show cells + 2 ≤ 821725; omega, by show slots + 6 ≤ 6630930; omega⟩) (fun r_ c1 H locs hp w => ?_)
  have w : PW D G A s ad N c1 H locs := w
  obtain ⟨hv1, hD1, fr1⟩ := hp
  subst hv1
  have hM1 := hM.out (ad1 := ad) (c1 := c1) (fun _ _ => rfl) (fun q h1 h2 => fr1 q (by omega))
  have hB1 : ∃ v, dbA G (c1 138) v := hB.imp (fun v h => dbA.fr (fr1 138 (by omega)) h)
  have hO1 := lnA.fr (fr1 137 (by omega)) hO
  refine lv_istore (lv' := [(6, .int (zI 1)), (0, .ref b), (1, .ref (ad 0)), (2, .ref (ad 120)), (3, .ref (ad 137)), (4, .ref (ad 138)), (5, .int (zI ((5 * ri : Nat) : Int)))]) hx hb dL_law_404 hl (by decide) rfl (fun ls hl => ?_)
  refine lv_aload_n hx hb dL_law_406 rfl (lv_at hl 3 rfl) ?_
  refine pw_ci w (pw_runV (r := 120) (ci := 8) (As := []) (rest := []) w ⟨hx, hb, hml, hown, hts⟩ (c_X8_enter_bad l D G ad N c1 (by omega) hM1 hV (Or.inl hbad)) (cwV 0 hts gL_law_X8_enter rfl rfl rfl (by decide +kernel) ⟨Nat.le_of_ble_eq_true rfl, Nat.le_of_ble_eq_true rfl⟩) (by omega) hM1.1.choose_spec rfl rfl hl.1 rfl (lv_room (Nat.le_of_ble_eq_true rfl)) dL_law_407 ⟨by show cells + 2 + 0 ≤ 821725; omega, by show slots + 6 + 0 ≤ 6630930; omega⟩) (fun r2 c2 H locs hp w => ?_)
  have w : PW D G A s ad N c2 H locs := w
  obtain ⟨hv2, hM2, fr2⟩ := hp
  subst hv2
  refine lv_istore (lv' := [(7, .int (zI 0)), (6, .int (zI 1)), (0, .ref b), (1, .ref (ad 0)), (2, .ref (ad 120)), (3, .ref (ad 137)), (4, .ref (ad 138)), (5, .int (zI ((5 * ri : Nat) : Int)))]) hx hb dL_law_410 hl (by decide) rfl (fun ls hl => ?_)
  have hD2 := hD1.fr (fun q hq => fr2 q (by omega))
  exact lw_tailI (q1 := 423) (q2 := 440) (q3 := 428) C hnx w hNe hD2 hM2 hV ⟨_, lnA.fr (fr2 137 (by omega)) hO1, fun h => absurd h (by decide)⟩ (hB1.imp (fun v h => dbA.fr (fr2 138 (by omega)) h)) ⟨by decide, by decide⟩ (by omega) (by omega) (by omega) (lv_at hl 4 rfl) (lv_at hl 5 rfl) (lv_at hl 1 rfl) (lv_at hl 0 rfl) (lv_sub hl [2, 3, 4, 5, 6, 7] rfl) dL_law_412 dL_law_413 dL_law_416 dL_law_418 rfl dL_law_423 dL_law_425 (by decide) rfl dL_law_428 dL_law_429 dL_law_430 dL_law_431 dL_law_433 dL_law_434 dL_law_435 dL_law_440 (by decide)

set_option maxHeartbeats 1000000 in
set_option maxRecDepth 100000 in
theorem law_x_enter2 (C : LX p l s m args k A b L xs) (hnx : NXT p l e s m args below meth k Q D G A b ri) (w : PW D G A s ad N c H locs) (hW : LWs G ad N c th lim no dn gn gg dg nn pt ln wi) (hl : lv_has ls 8 (lawLs ad b ri)) (hcs : cells ≤ 300 + 10 * ri) (hss : slots ≤ 9000 + 40 * ri) (hi5 : 5 * ri + 5 ≤ L) (hL : L ≤ 2560) (hd1 : 1 ≤ dn) (hbad : no = 8)   : W p l e room_1 s m args below meth k H locs cells slots Q (F0 m 399 ls []) := by
  obtain ⟨hx, hb, hts, hown, hml, hX, hbl, hbA, hsT⟩ := id C
  obtain ⟨hNe, hD, hM, hV, ⟨v0, hO⟩, hB⟩ := hW
  have hN : 139 + 2 * no ≤ N := by omega
  obtain ⟨hlim, hOV, hdn4, hdgv, hUV⟩ := id hV
  refine lv_aload_n hx hb dL_law_399 rfl (lv_at hl 1 rfl) ?_
  refine lv_aload_n hx hb dL_law_400 rfl (lv_at hl 3 rfl) ?_
  refine pw_ci w (pw_runSW (As := [.ref (ad 0), .ref (ad 137)]) (rest := []) w ⟨hx, hb, hml, hown, hts⟩ (x_L_enter2 l hsT D G ad N c hN hD hV hd1 hbad) (vx_cwSW 2 hts gL_law_L_enter rfl rfl rfl (by decide +kernel) ⟨Nat.le_of_ble_eq_true rfl, Nat.le_of_ble_eq_true rfl⟩) rfl hl.1 rfl (lv_room (Nat.le_of_ble_eq_true rfl)) dL_law_401 ⟨by show cells + 2 ≤ 821725; omega, by show slots + 6 ≤ 6630930; omega⟩) (fun r_ c1 H locs hp w => ?_)
  have w : PW D G A s ad N c1 H locs := w
  obtain ⟨hv1, hD1, fr1⟩ := hp
  subst hv1
  have hM1 := hM.out (ad1 := ad) (c1 := c1) (fun _ _ => rfl) (fun q h1 h2 => fr1 q (by omega))
  have hB1 : ∃ v, dbA G (c1 138) v := hB.imp (fun v h => dbA.fr (fr1 138 (by omega)) h)
  have hO1 := lnA.fr (fr1 137 (by omega)) hO
  refine lv_istore (lv' := [(6, .int (zI 1)), (0, .ref b), (1, .ref (ad 0)), (2, .ref (ad 120)), (3, .ref (ad 137)), (4, .ref (ad 138)), (5, .int (zI ((5 * ri : Nat) : Int)))]) hx hb dL_law_404 hl (by decide) rfl (fun ls hl => ?_)
  refine lv_aload_n hx hb dL_law_406 rfl (lv_at hl 3 rfl) ?_
  refine pw_ci w (pw_runV (r := 120) (ci := 8) (As := []) (rest := []) w ⟨hx, hb, hml, hown, hts⟩ (c_X8_enter_bad l D G ad N c1 (by omega) hM1 hV (Or.inr hbad)) (cwV 0 hts gL_law_X8_enter rfl rfl rfl (by decide +kernel) ⟨Nat.le_of_ble_eq_true rfl, Nat.le_of_ble_eq_true rfl⟩) (by omega) hM1.1.choose_spec rfl rfl hl.1 rfl (lv_room (Nat.le_of_ble_eq_true rfl)) dL_law_407 ⟨by show cells + 2 + 0 ≤ 821725; omega, by show slots + 6 + 0 ≤ 6630930; omega⟩) (fun r2 c2 H locs hp w => ?_)
  have w : PW D G A s ad N c2 H locs := w
  obtain ⟨hv2, hM2, fr2⟩ := hp
  subst hv2
  refine lv_istore (lv' := [(7, .int (zI 0)), (6, .int (zI 1)), (0, .ref b), (1, .ref (ad 0)), (2, .ref (ad 120)), (3, .ref (ad 137)), (4, .ref (ad 138)), (5, .int (zI ((5 * ri : Nat) : Int)))]) hx hb dL_law_410 hl (by decide) rfl (fun ls hl => ?_)
  have hD2 := hD1.fr (fun q hq => fr2 q (by omega))
  exact lw_tailI (q1 := 423) (q2 := 440) (q3 := 428) C hnx w hNe hD2 hM2 hV ⟨_, lnA.fr (fr2 137 (by omega)) hO1, fun h => absurd h (by decide)⟩ (hB1.imp (fun v h => dbA.fr (fr2 138 (by omega)) h)) ⟨by decide, by decide⟩ (by omega) (by omega) (by omega) (lv_at hl 4 rfl) (lv_at hl 5 rfl) (lv_at hl 1 rfl) (lv_at hl 0 rfl) (lv_sub hl [2, 3, 4, 5, 6, 7] rfl) dL_law_412 dL_law_413 dL_law_416 dL_law_418 rfl dL_law_423 dL_law_425 (by decide) rfl dL_law_428 dL_law_429 dL_law_430 dL_law_431 dL_law_433 dL_law_434 dL_law_435 dL_law_440 (by decide)

end LC0
