/-- what the options cost at the gaps of a tune; between two tunes -/
def cwT (lim : Int) (no : Nat) (gn : Nat → Nat) (gg : Nat → Nat → Nat) (nn : Nat → Nat) (pt ln : Nat → Nat → Nat) (wi : Nat → Nat → Int) : Nat → Nat → Nat → Int := fun t i o => if t < 4 ∧ i + 1 < nn t then gapC lim no gn gg (pt t i) (ln t i) (pt t (i + 1)) (wi t i) o else 0
def jwT (lim : Int) (no : Nat) (gn : Nat → Nat) (gg : Nat → Nat → Nat) (nn : Nat → Nat) (pt ln : Nat → Nat → Nat) : Nat → Nat → Nat → Int := fun a b o => if a < 4 ∧ b < 4 ∧ 0 < nn a ∧ 0 < nn b then gapC lim no gn gg (pt a (nn a - 1)) (ln a (nn a - 1)) (pt b 0) 0 o else 0
theorem cwT_bd {lim : Int} {no : Nat} {gn : Nat → Nat} {gg : Nat → Nat → Nat} {nn : Nat → Nat} {pt ln : Nat → Nat → Nat} {wi : Nat → Nat → Int} (hOV : OV no gn gg) (hU : TusV nn pt ln wi) (t i o : Nat) : 0 ≤ cwT lim no gn gg nn pt ln wi t i o ∧ cwT lim no gn gg nn pt ln wi t i o ≤ 1000000 := by
  unfold cwT
  split
  · rename_i h
    have h1 := (hU t h.1).2.1 i (by omega)
    have h2 := (hU t h.1).2.1 (i + 1) h.2
    have := gapC_bd (lim := lim) (m := ln t i) (wish := wi t i) hOV.g h1.1 h2.1 o
    omega
  · omega
theorem jwT_bd {lim : Int} {no : Nat} {gn : Nat → Nat} {gg : Nat → Nat → Nat} {nn : Nat → Nat} {pt ln : Nat → Nat → Nat} {wi : Nat → Nat → Int} (hOV : OV no gn gg) (hU : TusV nn pt ln wi) (a b o : Nat) : 0 ≤ jwT lim no gn gg nn pt ln a b o ∧ jwT lim no gn gg nn pt ln a b o ≤ 1000000 := by
  unfold jwT
  split
  · rename_i h
    have h1 := (hU a h.1).2.1 (nn a - 1) (by omega)
    have h2 := (hU b h.2.1).2.1 0 h.2.2.2
    have := gapC_bd (lim := lim) (m := ln a (nn a - 1)) (wish := 0) hOV.g h1.1 h2.1 o
    omega
  · omega
theorem less_bd {g : Nat → Int} (h : ∀ j, j < 9 → 0 ≤ g j ∧ g j ≤ 1000000) : 0 ≤ lessOf g ∧ lessOf g ≤ 1000000 := h _ (flb_lt g 0)

abbrev rm_X7_cost : Room := { frames := 7, cells := 0, slots := 0, locals := 210 }
set_option maxHeartbeats 4000000 in
set_option maxRecDepth 100000 in
theorem c_X7_cost (l : Launch) (D : va_G) (G : Nat → ClassId) (ad : Nat → Nat) (N : Nat) (c : Nat → va_E) {lim : Int} {no dn : Nat} {gn : Nat → Nat} {gg : Nat → Nat → Nat} {dg nn : Nat → Nat} {pt ln : Nat → Nat → Nat} {wi : Nat → Nat → Int} (hN : 120 + 2 * no ≤ N) (hD : DK G ad c lim no dn gn gg dg nn pt ln wi) (hV : SV lim no dn gn gg dg nn pt ln wi) {x y : Nat} (hx9 : x < 9) (hy9 : y < 9) : MC l yX7_cost wsX7_cost rm_X7_cost [.ref (ad 0), .int (zI (x : Int)), .int (zI (y : Int))] D G ad N c (qI D G (fx ad N) (fun v c1 => v = zI (mv x y) ∧ DK G ad c1 lim no dn gn gg dg nn pt ln wi ∧ ∀ q, (120 ≤ q ∧ q < 120) → c1 q = c q)) 0 0 := by
  refine MCi.of (cc := cX7_cost) (maxL := 3) (by decide) rfl (Nat.le_of_ble_eq_true rfl) ?_
  intro p e s m args below meth kc A Q hx hb hts hown hml fin H locs w ls hl
  have hown : s.vm.findClass RX7 = some m.cls := hown
  have hl : lv_has ls 3 [(0, .ref (ad 0)), (1, .int (zI (x : Int))), (2, .int (zI (y : Int)))] := hl
  obtain ⟨h0, hF, hB, hU, hTR, hTC, ⟨mz, lc, od, bt, hSS⟩, hJ⟩ := id hD
  obtain ⟨⟨ft, h15, hft⟩, hUo⟩ := id hU
  obtain ⟨hlim, hOV, hdn4, hdg, hUV⟩ := id hV
  have hlb : bnd lim := ⟨by omega, by omega⟩
  have hno8 := hOV.1
  have hBV : BookV no dn gn gg dg := ⟨hOV.1, hOV.2, hdn4, hdg⟩
  refine lv_iload_n hx hb dX7_cost_0 rfl (lv_at hl 1 rfl) ?_
  refine pw_cv w (pw_runS (As := [.int (zI (x : Int))]) (rest := []) w ⟨hx, hb, hml, hown, hts⟩ (c_X7_checkPitch l D G ad N c (z := (x : Int)) ⟨by omega, by omega⟩ (by omega)) (va_cwS 1 hts gX7_cost_X7_checkPitch rfl rfl rfl (by decide +kernel) ⟨Nat.le_of_ble_eq_true rfl, Nat.le_of_ble_eq_true rfl⟩) rfl hl.1 rfl (lv_room (Nat.le_of_ble_eq_true rfl)) dX7_cost_1 ⟨Nat.le_of_ble_eq_true rfl, Nat.le_of_ble_eq_true rfl⟩) (fun u H locs hp w => ?_)
  have hu := hp
  have w : PW D G A s ad N c H locs := by rw [hu] at w; exact w
  clear hu
  refine lv_iload_n hx hb dX7_cost_4 rfl (lv_at hl 2 rfl) ?_
  refine pw_cv w (pw_runS (As := [.int (zI (y : Int))]) (rest := []) w ⟨hx, hb, hml, hown, hts⟩ (c_X7_checkPitch l D G ad N c (z := (y : Int)) ⟨by omega, by omega⟩ (by omega)) (va_cwS 1 hts gX7_cost_X7_checkPitch rfl rfl rfl (by decide +kernel) ⟨Nat.le_of_ble_eq_true rfl, Nat.le_of_ble_eq_true rfl⟩) rfl hl.1 rfl (lv_room (Nat.le_of_ble_eq_true rfl)) dX7_cost_5 ⟨Nat.le_of_ble_eq_true rfl, Nat.le_of_ble_eq_true rfl⟩) (fun u H locs hp w => ?_)
  have hu := hp
  have w : PW D G A s ad N c H locs := by rw [hu] at w; exact w
  clear hu
  refine lv_iload_n hx hb dX7_cost_8 rfl (lv_at hl 1 rfl) ?_
  refine lv_iload_n hx hb dX7_cost_9 rfl (lv_at hl 2 rfl) ?_
  refine pw_ci w (pw_runS (As := [.int (zI (x : Int)), .int (zI (y : Int))]) (rest := []) w ⟨hx, hb, hml, hown, hts⟩ (c_X0_holesMoved l D G ad N c hx9 hy9) (va_cwS 2 hts gX7_cost_X0_holesMoved rfl rfl rfl (by decide +kernel) ⟨Nat.le_of_ble_eq_true rfl, Nat.le_of_ble_eq_true rfl⟩) rfl hl.1 rfl (lv_room (Nat.le_of_ble_eq_true rfl)) dX7_cost_10 ⟨Nat.le_of_ble_eq_true rfl, Nat.le_of_ble_eq_true rfl⟩) (fun r_ u H locs hp w => ?_)
  obtain ⟨hv, hu⟩ := hp
  subst hv
  have w : PW D G A s ad N c H locs := by rw [hu] at w; exact w
  clear hu
  exact fin (ad, N, c) c _ _ _ _ _ _ _ rfl ⟨rfl, hD, (fun _ _ => rfl)⟩ w dX7_cost_13 (Nat.le_refl _) (Nat.le_refl _)

abbrev rx_X7_cost : Room := { frames := 7, cells := 1, slots := 6, locals := 210 }
set_option maxHeartbeats 4000000 in
set_option maxRecDepth 100000 in
theorem x_X7_cost (l : Launch) (hsT : l.stackTraces = false) (D : va_G) (G : Nat → ClassId) (ad : Nat → Nat) (N : Nat) (c : Nat → va_E) {lim : Int} {no dn : Nat} {gn : Nat → Nat} {gg : Nat → Nat → Nat} {dg nn : Nat → Nat} {pt ln : Nat → Nat → Nat} {wi : Nat → Nat → Int} (hN : 120 + 2 * no ≤ N) (hD : DK G ad c lim no dn gn gg dg nn pt ln wi) (hV : SV lim no dn gn gg dg nn pt ln wi) {zx zy : Int} (hbzx : bnd zx) (hbzy : bnd zy) (hbad : ¬ ((0 ≤ zx ∧ zx ≤ 8) ∧ 0 ≤ zy ∧ zy ≤ 8)) : MX l yX7_cost wsX7_cost rx_X7_cost [.ref (ad 0), .int (zI zx), .int (zI zy)] D G ad N c xIA (fx ad N) (fun c1 => DK G ad c1 lim no dn gn gg dg nn pt ln wi ∧ ∀ q, (120 ≤ q ∧ q < 120) → c1 q = c q) 1 6 := by
  refine MX.of (cc := cX7_cost) (maxL := 3) (ret := (some .int)) (by decide) rfl (Nat.le_of_ble_eq_true rfl) ?_
  intro p e s m below meth kc A hx hb hr hts hown hml hlk hno w ls hl
  have hown : s.vm.findClass RX7 = some m.cls := hown
  have hl : lv_has ls 3 [(0, .ref (ad 0)), (1, .int (zI zx)), (2, .int (zI zy))] := hl
  obtain ⟨h0, hF, hB, hU, hTR, hTC, ⟨mz, lc, od, bt, hSS⟩, hJ⟩ := id hD
  obtain ⟨⟨ft, h15, hft⟩, hUo⟩ := id hU
  obtain ⟨hlim, hOV, hdn4, hdg, hUV⟩ := id hV
  have hlb : bnd lim := ⟨by omega, by omega⟩
  have hno8 := hOV.1
  have hBV : BookV no dn gn gg dg := ⟨hOV.1, hOV.2, hdn4, hdg⟩
  have hbzx1 := hbzx.1
  have hbzx2 := hbzx.2
  have hbzy1 := hbzy.1
  have hbzy2 := hbzy.2
  refine lv_iload_n hx hb dX7_cost_0 rfl (lv_at hl 1 rfl) ?_
  by_cases hc : 0 ≤ zx ∧ zx ≤ 8
  · refine pw_cv w (pw_runS (As := [.int (zI zx)]) (rest := []) w ⟨hx, hb, hml, hown, hts⟩ (c_X7_checkPitch l D G ad N c (z := zx) ⟨by omega, by omega⟩ (by omega)) (va_cwS 1 hts gX7_cost_X7_checkPitch rfl rfl rfl (by decide +kernel) ⟨Nat.le_of_ble_eq_true rfl, Nat.le_of_ble_eq_true rfl⟩) rfl hl.1 rfl (lv_room (Nat.le_of_ble_eq_true rfl)) dX7_cost_1 ⟨Nat.le_of_ble_eq_true rfl, Nat.le_of_ble_eq_true rfl⟩) (fun u H locs hp w => ?_)
    have hu := hp
    have w : PW D G A s ad N c H locs := by rw [hu] at w; exact w
    clear hu
    refine lv_iload_n hx hb dX7_cost_4 rfl (lv_at hl 2 rfl) ?_
    exact pw_cx w (pw_runSX (As := [.int (zI zy)]) (rest := []) w ⟨hx, hb, hml, hown, hts⟩ (x_X7_checkPitch l hsT D G ad N c (z := zy) ⟨by omega, by omega⟩ (by omega)) (va_cwS 1 hts gX7_cost_X7_checkPitch rfl rfl rfl (by decide +kernel) ⟨Nat.le_of_ble_eq_true rfl, Nat.le_of_ble_eq_true rfl⟩) rfl hl.1 rfl (lv_room (Nat.le_of_ble_eq_true rfl)) dX7_cost_5 ⟨Nat.le_of_ble_eq_true rfl, Nat.le_of_ble_eq_true rfl⟩) (fun u ce q9 H locs hp w hce hcv hcl => pw_out hno hlk w u rfl ⟨by rw [show u = c from hp]; exact hD, fun q hq => by rw [show u = c from hp]⟩ hce hcv hcl (Nat.le_of_ble_eq_true rfl) (Nat.le_of_ble_eq_true rfl))
  · exact pw_cx w (pw_runSX (As := [.int (zI zx)]) (rest := []) w ⟨hx, hb, hml, hown, hts⟩ (x_X7_checkPitch l hsT D G ad N c (z := zx) ⟨by omega, by omega⟩ (by omega)) (va_cwS 1 hts gX7_cost_X7_checkPitch rfl rfl rfl (by decide +kernel) ⟨Nat.le_of_ble_eq_true rfl, Nat.le_of_ble_eq_true rfl⟩) rfl hl.1 rfl (lv_room (Nat.le_of_ble_eq_true rfl)) dX7_cost_1 ⟨Nat.le_of_ble_eq_true rfl, Nat.le_of_ble_eq_true rfl⟩) (fun u ce q9 H locs hp w hce hcv hcl => pw_out hno hlk w u rfl ⟨by rw [show u = c from hp]; exact hD, fun q hq => by rw [show u = c from hp]⟩ hce hcv hcl (Nat.le_of_ble_eq_true rfl) (Nat.le_of_ble_eq_true rfl))

theorem hin_X7_isBarred_7 : ∀ w ∈ u_ws RX7 TX7 5, w ∈ wsX7_isBarred := by decide +kernel
theorem fl_X7_isBarred_12 : Cond.fieldLink RX7 12 "PipersDesk" "fingers" "LPipersDesk$Fingers;" ∈ wsX7_isBarred := by decide +kernel
abbrev rm_X7_isBarred : Room := { frames := 7, cells := 0, slots := 0, locals := 210 }
set_option maxHeartbeats 4000000 in
set_option maxRecDepth 100000 in
theorem c_X7_isBarred (l : Launch) (D : va_G) (G : Nat → ClassId) (ad : Nat → Nat) (N : Nat) (c : Nat → va_E) {lim : Int} {no dn : Nat} {gn : Nat → Nat} {gg : Nat → Nat → Nat} {dg nn : Nat → Nat} {pt ln : Nat → Nat → Nat} {wi : Nat → Nat → Int} (hN : 120 + 2 * no ≤ N) (hD : DK G ad c lim no dn gn gg dg nn pt ln wi) (hV : SV lim no dn gn gg dg nn pt ln wi) {x y : Nat} (hx9 : x < 9) (hy9 : y < 9) : MC l yX7_isBarred wsX7_isBarred rm_X7_isBarred [.ref (ad 0), .int (zI (x : Int)), .int (zI (y : Int))] D G ad N c (qI D G (fx ad N) (fun v c1 => v = zI (if brd lim x y = true then 1 else 0) ∧ DK G ad c1 lim no dn gn gg dg nn pt ln wi ∧ ∀ q, (120 ≤ q ∧ q < 120) → c1 q = c q)) 0 0 := by
  refine MCz.of (cc := cX7_isBarred) (maxL := 3) (by decide) rfl (Nat.le_of_ble_eq_true rfl) ?_
  intro p e s m args below meth kc A Q hx hb hts hown hml fin H locs w ls hl
  have hown : s.vm.findClass RX7 = some m.cls := hown
  have hl : lv_has ls 3 [(0, .ref (ad 0)), (1, .int (zI (x : Int))), (2, .int (zI (y : Int)))] := hl
  obtain ⟨h0, hF, hB, hU, hTR, hTC, ⟨mz, lc, od, bt, hSS⟩, hJ⟩ := id hD
  obtain ⟨⟨ft, h15, hft⟩, hUo⟩ := id hU
  obtain ⟨hlim, hOV, hdn4, hdg, hUV⟩ := id hV
  have hlb : bnd lim := ⟨by omega, by omega⟩
  have hno8 := hOV.1
  have hBV : BookV no dn gn gg dg := ⟨hOV.1, hOV.2, hdn4, hdg⟩
  refine lv_iload_n hx hb dX7_isBarred_0 rfl (lv_at hl 1 rfl) ?_
  refine pw_cv w (pw_runS (As := [.int (zI (x : Int))]) (rest := []) w ⟨hx, hb, hml, hown, hts⟩ (c_X7_checkPitch l D G ad N c (z := (x : Int)) ⟨by omega, by omega⟩ (by omega)) (va_cwS 1 hts gX7_isBarred_X7_checkPitch rfl rfl rfl (by decide +kernel) ⟨Nat.le_of_ble_eq_true rfl, Nat.le_of_ble_eq_true rfl⟩) rfl hl.1 rfl (lv_room (Nat.le_of_ble_eq_true rfl)) dX7_isBarred_1 ⟨Nat.le_of_ble_eq_true rfl, Nat.le_of_ble_eq_true rfl⟩) (fun u H locs hp w => ?_)
  have hu := hp
  have w : PW D G A s ad N c H locs := by rw [hu] at w; exact w
  clear hu
  refine lv_iload_n hx hb dX7_isBarred_4 rfl (lv_at hl 2 rfl) ?_
  refine pw_cv w (pw_runS (As := [.int (zI (y : Int))]) (rest := []) w ⟨hx, hb, hml, hown, hts⟩ (c_X7_checkPitch l D G ad N c (z := (y : Int)) ⟨by omega, by omega⟩ (by omega)) (va_cwS 1 hts gX7_isBarred_X7_checkPitch rfl rfl rfl (by decide +kernel) ⟨Nat.le_of_ble_eq_true rfl, Nat.le_of_ble_eq_true rfl⟩) rfl hl.1 rfl (lv_room (Nat.le_of_ble_eq_true rfl)) dX7_isBarred_5 ⟨Nat.le_of_ble_eq_true rfl, Nat.le_of_ble_eq_true rfl⟩) (fun u H locs hp w => ?_)
  have hu := hp
  have w : PW D G A s ad N c H locs := by rw [hu] at w; exact w
  clear hu
  refine lv_aload_n hx hb dX7_isBarred_8 rfl (lv_at hl 0 rfl) ?_
  refine pw_get (r := 0) (ci := 7) (C := RX7) (T := TX7) (Nf := 5) hx hb w hts hin_X7_isBarred_7 hown (by omega) h0 rfl 0 (by decide) (hts _ fl_X7_isBarred_12) (fun _ h9 => h9) rfl dX7_isBarred_9 ?_
  refine lv_iload_n hx hb dX7_isBarred_12 rfl (lv_at hl 1 rfl) ?_
  refine lv_iload_n hx hb dX7_isBarred_13 rfl (lv_at hl 2 rfl) ?_
  refine pw_ci w (pw_runV (r := 1) (ci := 0) (As := [.int (zI (x : Int)), .int (zI (y : Int))]) (rest := []) w ⟨hx, hb, hml, hown, hts⟩ (c_X0_bars l D G ad N c (by omega) hF hx9 hy9) (cwV 2 hts gX7_isBarred_X0_bars rfl rfl rfl (by decide +kernel) ⟨Nat.le_of_ble_eq_true rfl, Nat.le_of_ble_eq_true rfl⟩) (by omega) hF.1 rfl rfl hl.1 rfl (lv_room (Nat.le_of_ble_eq_true rfl)) dX7_isBarred_14 ⟨Nat.le_of_ble_eq_true rfl, Nat.le_of_ble_eq_true rfl⟩) (fun r_ u H locs hp w => ?_)
  obtain ⟨hv, hu⟩ := hp
  subst hv
  have w : PW D G A s ad N c H locs := by rw [hu] at w; exact w
  clear hu
  exact fin (ad, N, c) c _ _ _ _ _ _ _ rfl (by split <;> first | exact Or.inr rfl | exact Or.inl rfl) ⟨rfl, hD, (fun _ _ => rfl)⟩ w dX7_isBarred_17 (Nat.le_refl _) (Nat.le_refl _)

abbrev rx_X7_isBarred : Room := { frames := 7, cells := 1, slots := 6, locals := 210 }
set_option maxHeartbeats 4000000 in
set_option maxRecDepth 100000 in
theorem x_X7_isBarred (l : Launch) (hsT : l.stackTraces = false) (D : va_G) (G : Nat → ClassId) (ad : Nat → Nat) (N : Nat) (c : Nat → va_E) {lim : Int} {no dn : Nat} {gn : Nat → Nat} {gg : Nat → Nat → Nat} {dg nn : Nat → Nat} {pt ln : Nat → Nat → Nat} {wi : Nat → Nat → Int} (hN : 120 + 2 * no ≤ N) (hD : DK G ad c lim no dn gn gg dg nn pt ln wi) (hV : SV lim no dn gn gg dg nn pt ln wi) {zx zy : Int} (hbzx : bnd zx) (hbzy : bnd zy) (hbad : ¬ ((0 ≤ zx ∧ zx ≤ 8) ∧ 0 ≤ zy ∧ zy ≤ 8)) : MX l yX7_isBarred wsX7_isBarred rx_X7_isBarred [.ref (ad 0), .int (zI zx), .int (zI zy)] D G ad N c xIA (fx ad N) (fun c1 => DK G ad c1 lim no dn gn gg dg nn pt ln wi ∧ ∀ q, (120 ≤ q ∧ q < 120) → c1 q = c q) 1 6 := by
  refine MX.of (cc := cX7_isBarred) (maxL := 3) (ret := (some .boolean)) (by decide) rfl (Nat.le_of_ble_eq_true rfl) ?_
  intro p e s m below meth kc A hx hb hr hts hown hml hlk hno w ls hl
  have hown : s.vm.findClass RX7 = some m.cls := hown
  have hl : lv_has ls 3 [(0, .ref (ad 0)), (1, .int (zI zx)), (2, .int (zI zy))] := hl
  obtain ⟨h0, hF, hB, hU, hTR, hTC, ⟨mz, lc, od, bt, hSS⟩, hJ⟩ := id hD
  obtain ⟨⟨ft, h15, hft⟩, hUo⟩ := id hU
  obtain ⟨hlim, hOV, hdn4, hdg, hUV⟩ := id hV
  have hlb : bnd lim := ⟨by omega, by omega⟩
  have hno8 := hOV.1
  have hBV : BookV no dn gn gg dg := ⟨hOV.1, hOV.2, hdn4, hdg⟩
  have hbzx1 := hbzx.1
  have hbzx2 := hbzx.2
  have hbzy1 := hbzy.1
  have hbzy2 := hbzy.2
  refine lv_iload_n hx hb dX7_isBarred_0 rfl (lv_at hl 1 rfl) ?_
  by_cases hc : 0 ≤ zx ∧ zx ≤ 8
  · refine pw_cv w (pw_runS (As := [.int (zI zx)]) (rest := []) w ⟨hx, hb, hml, hown, hts⟩ (c_X7_checkPitch l D G ad N c (z := zx) ⟨by omega, by omega⟩ (by omega)) (va_cwS 1 hts gX7_isBarred_X7_checkPitch rfl rfl rfl (by decide +kernel) ⟨Nat.le_of_ble_eq_true rfl, Nat.le_of_ble_eq_true rfl⟩) rfl hl.1 rfl (lv_room (Nat.le_of_ble_eq_true rfl)) dX7_isBarred_1 ⟨Nat.le_of_ble_eq_true rfl, Nat.le_of_ble_eq_true rfl⟩) (fun u H locs hp w => ?_)
    have hu := hp
    have w : PW D G A s ad N c H locs := by rw [hu] at w; exact w
    clear hu
    refine lv_iload_n hx hb dX7_isBarred_4 rfl (lv_at hl 2 rfl) ?_
    exact pw_cx w (pw_runSX (As := [.int (zI zy)]) (rest := []) w ⟨hx, hb, hml, hown, hts⟩ (x_X7_checkPitch l hsT D G ad N c (z := zy) ⟨by omega, by omega⟩ (by omega)) (va_cwS 1 hts gX7_isBarred_X7_checkPitch rfl rfl rfl (by decide +kernel) ⟨Nat.le_of_ble_eq_true rfl, Nat.le_of_ble_eq_true rfl⟩) rfl hl.1 rfl (lv_room (Nat.le_of_ble_eq_true rfl)) dX7_isBarred_5 ⟨Nat.le_of_ble_eq_true rfl, Nat.le_of_ble_eq_true rfl⟩) (fun u ce q9 H locs hp w hce hcv hcl => pw_out hno hlk w u rfl ⟨by rw [show u = c from hp]; exact hD, fun q hq => by rw [show u = c from hp]⟩ hce hcv hcl (Nat.le_of_ble_eq_true rfl) (Nat.le_of_ble_eq_true rfl))
  · exact pw_cx w (pw_runSX (As := [.int (zI zx)]) (rest := []) w ⟨hx, hb, hml, hown, hts⟩ (x_X7_checkPitch l hsT D G ad N c (z := zx) ⟨by omega, by omega⟩ (by omega)) (va_cwS 1 hts gX7_isBarred_X7_checkPitch rfl rfl rfl (by decide +kernel) ⟨Nat.le_of_ble_eq_true rfl, Nat.le_of_ble_eq_true rfl⟩) rfl hl.1 rfl (lv_room (Nat.le_of_ble_eq_true rfl)) dX7_isBarred_1 ⟨Nat.le_of_ble_eq_true rfl, Nat.le_of_ble_eq_true rfl⟩) (fun u ce q9 H locs hp w hce hcv hcl => pw_out hno hlk w u rfl ⟨by rw [show u = c from hp]; exact hD, fun q hq => by rw [show u = c from hp]⟩ hce hcv hcl (Nat.le_of_ble_eq_true rfl) (Nat.le_of_ble_eq_true rfl))

theorem hin_X7_setLimit_7 : ∀ w ∈ u_ws RX7 TX7 5, w ∈ wsX7_setLimit := by decide +kernel
theorem fl_X7_setLimit_12 : Cond.fieldLink RX7 12 "PipersDesk" "fingers" "LPipersDesk$Fingers;" ∈ wsX7_setLimit := by decide +kernel
abbrev rm_X7_setLimit : Room := { frames := 7, cells := 0, slots := 0, locals := 210 }
set_option maxHeartbeats 4000000 in
set_option maxRecDepth 100000 in
theorem c_X7_setLimit (l : Launch) (D : va_G) (G : Nat → ClassId) (ad : Nat → Nat) (N : Nat) (c : Nat → va_E) {lim : Int} {no dn : Nat} {gn : Nat → Nat} {gg : Nat → Nat → Nat} {dg nn : Nat → Nat} {pt ln : Nat → Nat → Nat} {wi : Nat → Nat → Int} (hN : 120 + 2 * no ≤ N) (hD : DK G ad c lim no dn gn gg dg nn pt ln wi) (hV : SV lim no dn gn gg dg nn pt ln wi) {z : Int} (hbz : bnd z) (hok : 0 ≤ z ∧ z ≤ 8) : MC l yX7_setLimit wsX7_setLimit rm_X7_setLimit [.ref (ad 0), .int (zI z)] D G ad N c (qI D G (fx ad N) (fun v c1 => v = zI (brdAll z 9) ∧ DK G ad c1 z no dn gn gg dg nn pt ln wi ∧ ∀ q, (120 ≤ q ∧ q < 120) → c1 q = c q)) 0 0 := by
  refine MCi.of (cc := cX7_setLimit) (maxL := 2) (by decide) rfl (Nat.le_of_ble_eq_true rfl) ?_
  intro p e s m args below meth kc A Q hx hb hts hown hml fin H locs w ls hl
  have hown : s.vm.findClass RX7 = some m.cls := hown
  have hl : lv_has ls 2 [(0, .ref (ad 0)), (1, .int (zI z))] := hl
  obtain ⟨h0, hF, hB, hU, hTR, hTC, ⟨mz, lc, od, bt, hSS⟩, hJ⟩ := id hD
  obtain ⟨⟨ft, h15, hft⟩, hUo⟩ := id hU
  obtain ⟨hlim, hOV, hdn4, hdg, hUV⟩ := id hV
  have hlb : bnd lim := ⟨by omega, by omega⟩
  have hno8 := hOV.1
  have hBV : BookV no dn gn gg dg := ⟨hOV.1, hOV.2, hdn4, hdg⟩
  have hbz1 := hbz.1
  have hbz2 := hbz.2
  refine lv_iload_n hx hb dX7_setLimit_0 rfl (lv_at hl 1 rfl) ?_
  refine pz_iflt (tgt := 10) hx hb dX7_setLimit_1 (by decide) (⟨by omega, by omega⟩) (fun h1 => ?_) (fun h1 => ?_)
  · omega
  · refine lv_iload_n hx hb dX7_setLimit_4 rfl (lv_at hl 1 rfl) ?_
    refine lv_bipush (v := zI (8)) hx hb dX7_setLimit_5 (by decide +kernel) ?_
    refine pz_icmple (tgt := 20) hx hb dX7_setLimit_7 (by decide) (⟨by omega, by omega⟩) (⟨by omega, by omega⟩) (fun h2 => ?_) (fun h2 => ?_)
    · refine lv_aload_n hx hb dX7_setLimit_20 rfl (lv_at hl 0 rfl) ?_
      refine pw_get (r := 0) (ci := 7) (C := RX7) (T := TX7) (Nf := 5) hx hb w hts hin_X7_setLimit_7 hown (by omega) h0 rfl 0 (by decide) (hts _ fl_X7_setLimit_12) (fun _ h9 => h9) rfl dX7_setLimit_21 ?_
      refine lv_iload_n hx hb dX7_setLimit_24 rfl (lv_at hl 1 rfl) ?_
      obtain ⟨fo9, k2, k3⟩ := hF.2.1
      refine pw_ci w (pw_runV (r := 1) (ci := 0) (As := [.int (zI z)]) (rest := []) w ⟨hx, hb, hml, hown, hts⟩ (c_X0_limitTo l D G ad N c (lim := z) (by omega) hok hF.1 k2 k3 (fun i hi => ⟨_, hF.2.2 i hi⟩)) (cwV 1 hts gX7_setLimit_X0_limitTo rfl rfl rfl (by decide +kernel) ⟨Nat.le_of_ble_eq_true rfl, Nat.le_of_ble_eq_true rfl⟩) (by omega) hF.1 rfl rfl hl.1 rfl (lv_room (Nat.le_of_ble_eq_true rfl)) dX7_setLimit_25 ⟨Nat.le_of_ble_eq_true rfl, Nat.le_of_ble_eq_true rfl⟩) (fun r_ c3 H locs hp w => ?_)
      have w : PW D G A s ad N c3 H locs := w
      obtain ⟨hv3, hst3, fr3⟩ := hp
      subst hv3
      have hD3 := hD.lims hst3 fr3
      have hf3 : ∀ q, (120 ≤ q ∧ q < 120) → c3 q = c q := fun q hq => (fr3 q (by omega)).trans ((fun _ _ => rfl) q hq)
      exact fin (ad, N, c3) c3 _ _ _ _ _ _ _ rfl ⟨rfl, hD3, hf3⟩ w dX7_setLimit_28 (Nat.le_refl _) (Nat.le_refl _)
    · omega

theorem wd_X7_setLimit_ck56 : Cond.classLink RX7 56 "java/lang/IllegalArgumentException" ∈ wsX7_setLimit := by decide +kernel
theorem wd_X7_setLimit_ini56 : Cond.initialized "java/lang/IllegalArgumentException" ∈ wsX7_setLimit := by decide +kernel
theorem ats_X7_setLimit_IA : ∀ w ∈ (vx_atS RX7 60 "java/lang/IllegalArgumentException" ["java/lang/RuntimeException", "java/lang/Exception"]).filter goodWord, w ∈ wsX7_setLimit := fun w h => List.mem_cons_of_mem _ (List.mem_append_right _ h)
abbrev rx_X7_setLimit : Room := { frames := 7, cells := 1, slots := 6, locals := 210 }
set_option maxHeartbeats 4000000 in
set_option maxRecDepth 100000 in
theorem x_X7_setLimit (l : Launch) (hsT : l.stackTraces = false) (D : va_G) (G : Nat → ClassId) (ad : Nat → Nat) (N : Nat) (c : Nat → va_E) {lim : Int} {no dn : Nat} {gn : Nat → Nat} {gg : Nat → Nat → Nat} {dg nn : Nat → Nat} {pt ln : Nat → Nat → Nat} {wi : Nat → Nat → Int} (hN : 120 + 2 * no ≤ N) (hD : DK G ad c lim no dn gn gg dg nn pt ln wi) (hV : SV lim no dn gn gg dg nn pt ln wi) {z : Int} (hbz : bnd z) (hbad : ¬ (0 ≤ z ∧ z ≤ 8)) : MX l yX7_setLimit wsX7_setLimit rx_X7_setLimit [.ref (ad 0), .int (zI z)] D G ad N c xIA (fx ad N) (fun c1 => DK G ad c1 lim no dn gn gg dg nn pt ln wi ∧ ∀ q, (120 ≤ q ∧ q < 120) → c1 q = c q) 1 6 := by
  refine MX.of (cc := cX7_setLimit) (maxL := 2) (ret := (some .int)) (by decide) rfl (Nat.le_of_ble_eq_true rfl) ?_
  intro p e s m below meth kc A hx hb hr hts hown hml hlk hno w ls hl
  have hown : s.vm.findClass RX7 = some m.cls := hown
  have hl : lv_has ls 2 [(0, .ref (ad 0)), (1, .int (zI z))] := hl
  obtain ⟨h0, hF, hB, hU, hTR, hTC, ⟨mz, lc, od, bt, hSS⟩, hJ⟩ := id hD
  obtain ⟨⟨ft, h15, hft⟩, hUo⟩ := id hU
  obtain ⟨hlim, hOV, hdn4, hdg, hUV⟩ := id hV
  have hlb : bnd lim := ⟨by omega, by omega⟩
  have hno8 := hOV.1
  have hBV : BookV no dn gn gg dg := ⟨hOV.1, hOV.2, hdn4, hdg⟩
  have hbz1 := hbz.1
  have hbz2 := hbz.2
  refine lv_iload_n hx hb dX7_setLimit_0 rfl (lv_at hl 1 rfl) ?_
  refine pz_iflt (tgt := 10) hx hb dX7_setLimit_1 (by decide) (⟨by omega, by omega⟩) (fun h1 => ?_) (fun h1 => ?_)
  · exact pw_throw (E0 := xIA) (text := "limit out of range") (own := RX7) (names := ["java/lang/RuntimeException", "java/lang/Exception"]) (ik := 56) (is := 58) (ic := 60) (x := (ad, N, c)) hx hb hsT hno hlk w c rfl ⟨hD, fun _ _ => rfl⟩ hown rfl (by decide +kernel) (by decide +kernel) (hts _ wd_X7_setLimit_ck56) (hts _ wd_X7_setLimit_ini56) (by decide) (fun w h => hts _ (ats_X7_setLimit_IA w h)) og_IA (by decide) oa_IA (hl.1.trans hml.symm) dX7_setLimit_10 dX7_setLimit_13 dX7_setLimit_14 dX7_setLimit_16 dX7_setLimit_19 (Nat.le_of_ble_eq_true rfl) (Nat.le_of_ble_eq_true rfl) (Nat.le_of_ble_eq_true rfl) (Nat.le_of_ble_eq_true rfl) (Nat.le_of_ble_eq_true rfl) (Nat.le_of_ble_eq_true rfl)
  · refine lv_iload_n hx hb dX7_setLimit_4 rfl (lv_at hl 1 rfl) ?_
    refine lv_bipush (v := zI (8)) hx hb dX7_setLimit_5 (by decide +kernel) ?_
    refine pz_icmple (tgt := 20) hx hb dX7_setLimit_7 (by decide) (⟨by omega, by omega⟩) (⟨by omega, by omega⟩) (fun h2 => ?_) (fun h2 => ?_)
    · omega
    · exact pw_throw (E0 := xIA) (text := "limit out of range") (own := RX7) (names := ["java/lang/RuntimeException", "java/lang/Exception"]) (ik := 56) (is := 58) (ic := 60) (x := (ad, N, c)) hx hb hsT hno hlk w c rfl ⟨hD, fun _ _ => rfl⟩ hown rfl (by decide +kernel) (by decide +kernel) (hts _ wd_X7_setLimit_ck56) (hts _ wd_X7_setLimit_ini56) (by decide) (fun w h => hts _ (ats_X7_setLimit_IA w h)) og_IA (by decide) oa_IA (hl.1.trans hml.symm) dX7_setLimit_10 dX7_setLimit_13 dX7_setLimit_14 dX7_setLimit_16 dX7_setLimit_19 (Nat.le_of_ble_eq_true rfl) (Nat.le_of_ble_eq_true rfl) (Nat.le_of_ble_eq_true rfl) (Nat.le_of_ble_eq_true rfl) (Nat.le_of_ble_eq_true rfl) (Nat.le_of_ble_eq_true rfl)

theorem hin_X7_grace_7 : ∀ w ∈ u_ws RX7 TX7 5, w ∈ wsX7_grace := by decide +kernel
theorem fl_X7_grace_19 : Cond.fieldLink RX7 19 "PipersDesk" "book" "LPipersDesk$OrnamentBook;" ∈ wsX7_grace := by decide +kernel
abbrev rm_X7_grace : Room := { frames := 7, cells := 0, slots := 0, locals := 210 }
set_option maxHeartbeats 4000000 in
set_option maxRecDepth 100000 in
theorem c_X7_grace (l : Launch) (D : va_G) (G : Nat → ClassId) (ad : Nat → Nat) (N : Nat) (c : Nat → va_E) {lim : Int} {no dn : Nat} {gn : Nat → Nat} {gg : Nat → Nat → Nat} {dg nn : Nat → Nat} {pt ln : Nat → Nat → Nat} {wi : Nat → Nat → Int} (hN : 120 + 2 * no ≤ N) (hD : DK G ad c lim no dn gn gg dg nn pt ln wi) (hV : SV lim no dn gn gg dg nn pt ln wi) {g : Nat} (hg : g ≤ 10) (hd : dn < 4) : MC l yX7_grace wsX7_grace rm_X7_grace [.ref (ad 0), .int (zI (g : Int))] D G ad N c (qI D G (fx ad N) (fun v c1 => v = zI ((dn + 1 : Nat) : Int) ∧ DK G ad c1 lim no (dn + 1) gn gg (fun j => if j = dn then g else dg j) nn pt ln wi ∧ ∀ q, (120 ≤ q ∧ q < 120) → c1 q = c q)) 0 0 := by
  refine MCi.of (cc := cX7_grace) (maxL := 2) (by decide) rfl (Nat.le_of_ble_eq_true rfl) ?_
  intro p e s m args below meth kc A Q hx hb hts hown hml fin H locs w ls hl
  have hown : s.vm.findClass RX7 = some m.cls := hown
  have hl : lv_has ls 2 [(0, .ref (ad 0)), (1, .int (zI (g : Int)))] := hl
  obtain ⟨h0, hF, hB, hU, hTR, hTC, ⟨mz, lc, od, bt, hSS⟩, hJ⟩ := id hD
  obtain ⟨⟨ft, h15, hft⟩, hUo⟩ := id hU
  obtain ⟨hlim, hOV, hdn4, hdg, hUV⟩ := id hV
  have hlb : bnd lim := ⟨by omega, by omega⟩
  have hno8 := hOV.1
  have hBV : BookV no dn gn gg dg := ⟨hOV.1, hOV.2, hdn4, hdg⟩
  refine lv_iload_n hx hb dX7_grace_0 rfl (lv_at hl 1 rfl) ?_
  refine pz_iflt (tgt := 10) hx hb dX7_grace_1 (by decide) (⟨by omega, by omega⟩) (fun h1 => ?_) (fun h1 => ?_)
  · omega
  · refine lv_iload_n hx hb dX7_grace_4 rfl (lv_at hl 1 rfl) ?_
    refine lv_bipush (v := zI (10)) hx hb dX7_grace_5 (by decide +kernel) ?_
    refine pz_icmple (tgt := 20) hx hb dX7_grace_7 (by decide) (⟨by omega, by omega⟩) (⟨by omega, by omega⟩) (fun h2 => ?_) (fun h2 => ?_)
    · refine lv_aload_n hx hb dX7_grace_20 rfl (lv_at hl 0 rfl) ?_
      refine pw_get (r := 0) (ci := 7) (C := RX7) (T := TX7) (Nf := 5) hx hb w hts hin_X7_grace_7 hown (by omega) h0 rfl 1 (by decide) (hts _ fl_X7_grace_19) (fun _ h9 => h9) rfl dX7_grace_21 ?_
      refine pw_ci w (pw_runV (r := 12) (ci := 3) (As := []) (rest := []) w ⟨hx, hb, hml, hown, hts⟩ (c_X3_isDraftFull l D G ad N c hN hB hBV) (cwV 0 hts gX7_grace_X3_isDraftFull rfl rfl rfl (by decide +kernel) ⟨Nat.le_of_ble_eq_true rfl, Nat.le_of_ble_eq_true rfl⟩) (by omega) hB.1 rfl rfl hl.1 rfl (lv_room (Nat.le_of_ble_eq_true rfl)) dX7_grace_24 ⟨Nat.le_of_ble_eq_true rfl, Nat.le_of_ble_eq_true rfl⟩) (fun r_ u H locs hp w => ?_)
      obtain ⟨hv, hu⟩ := hp
      subst hv
      have w : PW D G A s ad N c H locs := by rw [hu] at w; exact w
      clear hu
      refine pz_top (b := 0) (if_neg (by omega)) ?_
      refine pz_ifeq (tgt := 40) hx hb dX7_grace_27 (by decide) (⟨by omega, by omega⟩) (fun h3 => ?_) (fun h3 => ?_)
      · refine lv_aload_n hx hb dX7_grace_40 rfl (lv_at hl 0 rfl) ?_
        refine pw_get (r := 0) (ci := 7) (C := RX7) (T := TX7) (Nf := 5) hx hb w hts hin_X7_grace_7 hown (by omega) h0 rfl 1 (by decide) (hts _ fl_X7_grace_19) (fun _ h9 => h9) rfl dX7_grace_41 ?_
        refine lv_iload_n hx hb dX7_grace_44 rfl (lv_at hl 1 rfl) ?_
        refine pw_ci w (pw_runV (r := 12) (ci := 3) (As := [.int (zI (g : Int))]) (rest := []) w ⟨hx, hb, hml, hown, hts⟩ (c_X3_addToDraft l D G ad N c hN hB hBV hd hg) (cwV 1 hts gX7_grace_X3_addToDraft rfl rfl rfl (by decide +kernel) ⟨Nat.le_of_ble_eq_true rfl, Nat.le_of_ble_eq_true rfl⟩) (by omega) hB.1 rfl rfl hl.1 rfl (lv_room (Nat.le_of_ble_eq_true rfl)) dX7_grace_45 ⟨Nat.le_of_ble_eq_true rfl, Nat.le_of_ble_eq_true rfl⟩) (fun r_ c4 H locs hp w => ?_)
        have w : PW D G A s ad N c4 H locs := w
        obtain ⟨hv4, hB4, fr4⟩ := hp
        subst hv4
        have hD4 := hD.book hB4 fr4
        have hf4 : ∀ q, (120 ≤ q ∧ q < 120) → c4 q = c q := fun q hq => (fr4 q (by omega)).trans ((fun _ _ => rfl) q hq)
        exact fin (ad, N, c4) c4 _ _ _ _ _ _ _ rfl ⟨rfl, hD4, hf4⟩ w dX7_grace_48 (Nat.le_refl _) (Nat.le_refl _)
      · omega
    · omega

theorem wd_X7_grace_ck56 : Cond.classLink RX7 56 "java/lang/IllegalArgumentException" ∈ wsX7_grace := by decide +kernel
theorem wd_X7_grace_ini56 : Cond.initialized "java/lang/IllegalArgumentException" ∈ wsX7_grace := by decide +kernel
theorem ats_X7_grace_IA : ∀ w ∈ (vx_atS RX7 60 "java/lang/IllegalArgumentException" ["java/lang/RuntimeException", "java/lang/Exception"]).filter goodWord, w ∈ wsX7_grace := fun w h => List.mem_cons_of_mem _ (List.mem_append_left _ (List.mem_append_right _ h))
abbrev rx_X7_grace : Room := { frames := 7, cells := 1, slots := 6, locals := 210 }
set_option maxHeartbeats 4000000 in
set_option maxRecDepth 100000 in
theorem x_X7_grace1 (l : Launch) (hsT : l.stackTraces = false) (D : va_G) (G : Nat → ClassId) (ad : Nat → Nat) (N : Nat) (c : Nat → va_E) {lim : Int} {no dn : Nat} {gn : Nat → Nat} {gg : Nat → Nat → Nat} {dg nn : Nat → Nat} {pt ln : Nat → Nat → Nat} {wi : Nat → Nat → Int} (hN : 120 + 2 * no ≤ N) (hD : DK G ad c lim no dn gn gg dg nn pt ln wi) (hV : SV lim no dn gn gg dg nn pt ln wi) {z : Int} (hbz : bnd z) (hbad : ¬ (0 ≤ z ∧ z ≤ 10)) : MX l yX7_grace wsX7_grace rx_X7_grace [.ref (ad 0), .int (zI z)] D G ad N c xIA (fx ad N) (fun c1 => DK G ad c1 lim no dn gn gg dg nn pt ln wi ∧ ∀ q, (120 ≤ q ∧ q < 120) → c1 q = c q) 1 6 := by
  refine MX.of (cc := cX7_grace) (maxL := 2) (ret := (some .int)) (by decide) rfl (Nat.le_of_ble_eq_true rfl) ?_
  intro p e s m below meth kc A hx hb hr hts hown hml hlk hno w ls hl
  have hown : s.vm.findClass RX7 = some m.cls := hown
  have hl : lv_has ls 2 [(0, .ref (ad 0)), (1, .int (zI z))] := hl
  obtain ⟨h0, hF, hB, hU, hTR, hTC, ⟨mz, lc, od, bt, hSS⟩, hJ⟩ := id hD
  obtain ⟨⟨ft, h15, hft⟩, hUo⟩ := id hU
  obtain ⟨hlim, hOV, hdn4, hdg, hUV⟩ := id hV
  have hlb : bnd lim := ⟨by omega, by omega⟩
  have hno8 := hOV.1
  have hBV : BookV no dn gn gg dg := ⟨hOV.1, hOV.2, hdn4, hdg⟩
  have hbz1 := hbz.1
  have hbz2 := hbz.2
  refine lv_iload_n hx hb dX7_grace_0 rfl (lv_at hl 1 rfl) ?_
  refine pz_iflt (tgt := 10) hx hb dX7_grace_1 (by decide) (⟨by omega, by omega⟩) (fun h1 => ?_) (fun h1 => ?_)
  · exact pw_throw (E0 := xIA) (text := "grace note out of range") (own := RX7) (names := ["java/lang/RuntimeException", "java/lang/Exception"]) (ik := 56) (is := 67) (ic := 60) (x := (ad, N, c)) hx hb hsT hno hlk w c rfl ⟨hD, fun _ _ => rfl⟩ hown rfl (by decide +kernel) (by decide +kernel) (hts _ wd_X7_grace_ck56) (hts _ wd_X7_grace_ini56) (by decide) (fun w h => hts _ (ats_X7_grace_IA w h)) og_IA (by decide) oa_IA (hl.1.trans hml.symm) dX7_grace_10 dX7_grace_13 dX7_grace_14 dX7_grace_16 dX7_grace_19 (Nat.le_of_ble_eq_true rfl) (Nat.le_of_ble_eq_true rfl) (Nat.le_of_ble_eq_true rfl) (Nat.le_of_ble_eq_true rfl) (Nat.le_of_ble_eq_true rfl) (Nat.le_of_ble_eq_true rfl)
  · refine lv_iload_n hx hb dX7_grace_4 rfl (lv_at hl 1 rfl) ?_
    refine lv_bipush (v := zI (10)) hx hb dX7_grace_5 (by decide +kernel) ?_
    refine pz_icmple (tgt := 20) hx hb dX7_grace_7 (by decide) (⟨by omega, by omega⟩) (⟨by omega, by omega⟩) (fun h2 => ?_) (fun h2 => ?_)
    · omega
    · exact pw_throw (E0 := xIA) (text := "grace note out of range") (own := RX7) (names := ["java/lang/RuntimeException", "java/lang/Exception"]) (ik := 56) (is := 67) (ic := 60) (x := (ad, N, c)) hx hb hsT hno hlk w c rfl ⟨hD, fun _ _ => rfl⟩ hown rfl (by decide +kernel) (by decide +kernel) (hts _ wd_X7_grace_ck56) (hts _ wd_X7_grace_ini56) (by decide) (fun w h => hts _ (ats_X7_grace_IA w h)) og_IA (by decide) oa_IA (hl.1.trans hml.symm) dX7_grace_10 dX7_grace_13 dX7_grace_14 dX7_grace_16 dX7_grace_19 (Nat.le_of_ble_eq_true rfl) (Nat.le_of_ble_eq_true rfl) (Nat.le_of_ble_eq_true rfl) (Nat.le_of_ble_eq_true rfl) (Nat.le_of_ble_eq_true rfl) (Nat.le_of_ble_eq_true rfl)

theorem wd_X7_grace_ck73 : Cond.classLink RX7 73 "java/lang/IllegalStateException" ∈ wsX7_grace := by decide +kernel
theorem wd_X7_grace_ini73 : Cond.initialized "java/lang/IllegalStateException" ∈ wsX7_grace := by decide +kernel
theorem ats_X7_grace_IS : ∀ w ∈ (vx_atS RX7 77 "java/lang/IllegalStateException" ["java/lang/RuntimeException", "java/lang/Exception"]).filter goodWord, w ∈ wsX7_grace := fun w h => List.mem_cons_of_mem _ (List.mem_append_right _ h)
set_option maxHeartbeats 4000000 in
set_option maxRecDepth 100000 in
theorem x_X7_grace2 (l : Launch) (hsT : l.stackTraces = false) (D : va_G) (G : Nat → ClassId) (ad : Nat → Nat) (N : Nat) (c : Nat → va_E) {lim : Int} {no dn : Nat} {gn : Nat → Nat} {gg : Nat → Nat → Nat} {dg nn : Nat → Nat} {pt ln : Nat → Nat → Nat} {wi : Nat → Nat → Int} (hN : 120 + 2 * no ≤ N) (hD : DK G ad c lim no dn gn gg dg nn pt ln wi) (hV : SV lim no dn gn gg dg nn pt ln wi) {g : Nat} (hg : g ≤ 10) (hd : dn = 4) : MX l yX7_grace wsX7_grace rx_X7_grace [.ref (ad 0), .int (zI (g : Int))] D G ad N c xIS (fx ad N) (fun c1 => DK G ad c1 lim no dn gn gg dg nn pt ln wi ∧ ∀ q, (120 ≤ q ∧ q < 120) → c1 q = c q) 1 6 := by
  refine MX.of (cc := cX7_grace) (maxL := 2) (ret := (some .int)) (by decide) rfl (Nat.le_of_ble_eq_true rfl) ?_
  intro p e s m below meth kc A hx hb hr hts hown hml hlk hno w ls hl
  have hown : s.vm.findClass RX7 = some m.cls := hown
  have hl : lv_has ls 2 [(0, .ref (ad 0)), (1, .int (zI (g : Int)))] := hl
  obtain ⟨h0, hF, hB, hU, hTR, hTC, ⟨mz, lc, od, bt, hSS⟩, hJ⟩ := id hD
  obtain ⟨⟨ft, h15, hft⟩, hUo⟩ := id hU
  obtain ⟨hlim, hOV, hdn4, hdg, hUV⟩ := id hV
  have hlb : bnd lim := ⟨by omega, by omega⟩
  have hno8 := hOV.1
  have hBV : BookV no dn gn gg dg := ⟨hOV.1, hOV.2, hdn4, hdg⟩
  refine lv_iload_n hx hb dX7_grace_0 rfl (lv_at hl 1 rfl) ?_
  refine pz_iflt (tgt := 10) hx hb dX7_grace_1 (by decide) (⟨by omega, by omega⟩) (fun h1 => ?_) (fun h1 => ?_)
  · omega
  · refine lv_iload_n hx hb dX7_grace_4 rfl (lv_at hl 1 rfl) ?_
    refine lv_bipush (v := zI (10)) hx hb dX7_grace_5 (by decide +kernel) ?_
    refine pz_icmple (tgt := 20) hx hb dX7_grace_7 (by decide) (⟨by omega, by omega⟩) (⟨by omega, by omega⟩) (fun h2 => ?_) (fun h2 => ?_)
    · refine lv_aload_n hx hb dX7_grace_20 rfl (lv_at hl 0 rfl) ?_
      refine pw_get (r := 0) (ci := 7) (C := RX7) (T := TX7) (Nf := 5) hx hb w hts hin_X7_grace_7 hown (by omega) h0 rfl 1 (by decide) (hts _ fl_X7_grace_19) (fun _ h9 => h9) rfl dX7_grace_21 ?_
      refine pw_ci w (pw_runV (r := 12) (ci := 3) (As := []) (rest := []) w ⟨hx, hb, hml, hown, hts⟩ (c_X3_isDraftFull l D G ad N c hN hB hBV) (cwV 0 hts gX7_grace_X3_isDraftFull rfl rfl rfl (by decide +kernel) ⟨Nat.le_of_ble_eq_true rfl, Nat.le_of_ble_eq_true rfl⟩) (by omega) hB.1 rfl rfl hl.1 rfl (lv_room (Nat.le_of_ble_eq_true rfl)) dX7_grace_24 ⟨Nat.le_of_ble_eq_true rfl, Nat.le_of_ble_eq_true rfl⟩) (fun r_ u H locs hp w => ?_)
      obtain ⟨hv, hu⟩ := hp
      subst hv
      have w : PW D G A s ad N c H locs := by rw [hu] at w; exact w
      clear hu
      refine pz_top (b := 1) (if_pos (by omega)) ?_
      refine pz_ifeq (tgt := 40) hx hb dX7_grace_27 (by decide) (⟨by omega, by omega⟩) (fun h3 => ?_) (fun h3 => ?_)
      · omega
      · exact pw_throw (E0 := xIS) (text := "the draft is full") (own := RX7) (names := ["java/lang/RuntimeException", "java/lang/Exception"]) (ik := 73) (is := 75) (ic := 77) (x := (ad, N, c)) hx hb hsT hno hlk w c rfl ⟨hD, fun _ _ => rfl⟩ hown rfl (by decide +kernel) (by decide +kernel) (hts _ wd_X7_grace_ck73) (hts _ wd_X7_grace_ini73) (by decide) (fun w h => hts _ (ats_X7_grace_IS w h)) og_IS (by decide) oa_IS (hl.1.trans hml.symm) dX7_grace_30 dX7_grace_33 dX7_grace_34 dX7_grace_36 dX7_grace_39 (Nat.le_of_ble_eq_true rfl) (Nat.le_of_ble_eq_true rfl) (Nat.le_of_ble_eq_true rfl) (Nat.le_of_ble_eq_true rfl) (Nat.le_of_ble_eq_true rfl) (Nat.le_of_ble_eq_true rfl)
    · omega

theorem hin_X7_ornaments_7 : ∀ w ∈ u_ws RX7 TX7 5, w ∈ wsX7_ornaments := by decide +kernel
theorem fl_X7_ornaments_19 : Cond.fieldLink RX7 19 "PipersDesk" "book" "LPipersDesk$OrnamentBook;" ∈ wsX7_ornaments := by decide +kernel
abbrev rm_X7_ornaments : Room := { frames := 7, cells := 0, slots := 0, locals := 210 }
set_option maxHeartbeats 4000000 in
set_option maxRecDepth 100000 in
theorem c_X7_ornaments (l : Launch) (D : va_G) (G : Nat → ClassId) (ad : Nat → Nat) (N : Nat) (c : Nat → va_E) {lim : Int} {no dn : Nat} {gn : Nat → Nat} {gg : Nat → Nat → Nat} {dg nn : Nat → Nat} {pt ln : Nat → Nat → Nat} {wi : Nat → Nat → Int} (hN : 120 + 2 * no ≤ N) (hD : DK G ad c lim no dn gn gg dg nn pt ln wi) (hV : SV lim no dn gn gg dg nn pt ln wi)  : MC l yX7_ornaments wsX7_ornaments rm_X7_ornaments [.ref (ad 0)] D G ad N c (qI D G (fx ad N) (fun v c1 => v = zI (no : Int) ∧ DK G ad c1 lim no dn gn gg dg nn pt ln wi ∧ ∀ q, (120 ≤ q ∧ q < 120) → c1 q = c q)) 0 0 := by
  refine MCi.of (cc := cX7_ornaments) (maxL := 1) (by decide) rfl (Nat.le_of_ble_eq_true rfl) ?_
  intro p e s m args below meth kc A Q hx hb hts hown hml fin H locs w ls hl
  have hown : s.vm.findClass RX7 = some m.cls := hown
  have hl : lv_has ls 1 [(0, .ref (ad 0))] := hl
  obtain ⟨h0, hF, hB, hU, hTR, hTC, ⟨mz, lc, od, bt, hSS⟩, hJ⟩ := id hD
  obtain ⟨⟨ft, h15, hft⟩, hUo⟩ := id hU
  obtain ⟨hlim, hOV, hdn4, hdg, hUV⟩ := id hV
  have hlb : bnd lim := ⟨by omega, by omega⟩
  have hno8 := hOV.1
  have hBV : BookV no dn gn gg dg := ⟨hOV.1, hOV.2, hdn4, hdg⟩
  refine lv_aload_n hx hb dX7_ornaments_0 rfl (lv_at hl 0 rfl) ?_
  refine pw_get (r := 0) (ci := 7) (C := RX7) (T := TX7) (Nf := 5) hx hb w hts hin_X7_ornaments_7 hown (by omega) h0 rfl 1 (by decide) (hts _ fl_X7_ornaments_19) (fun _ h9 => h9) rfl dX7_ornaments_1 ?_
  refine pw_ci w (pw_runV (r := 12) (ci := 3) (As := []) (rest := []) w ⟨hx, hb, hml, hown, hts⟩ (c_X3_size l D G ad N c hN hB hBV) (cwV 0 hts gX7_ornaments_X3_size rfl rfl rfl (by decide +kernel) ⟨Nat.le_of_ble_eq_true rfl, Nat.le_of_ble_eq_true rfl⟩) (by omega) hB.1 rfl rfl hl.1 rfl (lv_room (Nat.le_of_ble_eq_true rfl)) dX7_ornaments_4 ⟨Nat.le_of_ble_eq_true rfl, Nat.le_of_ble_eq_true rfl⟩) (fun r_ u H locs hp w => ?_)
  obtain ⟨hv, hu⟩ := hp
  subst hv
  have w : PW D G A s ad N c H locs := by rw [hu] at w; exact w
  clear hu
  exact fin (ad, N, c) c _ _ _ _ _ _ _ rfl ⟨rfl, hD, (fun _ _ => rfl)⟩ w dX7_ornaments_7 (Nat.le_refl _) (Nat.le_refl _)

theorem hin_X7_addNote_7 : ∀ w ∈ u_ws RX7 TX7 5, w ∈ wsX7_addNote := by decide +kernel
theorem fl_X7_addNote_25 : Cond.fieldLink RX7 25 "PipersDesk" "tunes" "[LPipersDesk$Tune;" ∈ wsX7_addNote := by decide +kernel
abbrev rm_X7_addNote : Room := { frames := 7, cells := 0, slots := 0, locals := 210 }
set_option maxHeartbeats 4000000 in
set_option maxRecDepth 100000 in
theorem c_X7_addNote (l : Launch) (D : va_G) (G : Nat → ClassId) (ad : Nat → Nat) (N : Nat) (c : Nat → va_E) {lim : Int} {no dn : Nat} {gn : Nat → Nat} {gg : Nat → Nat → Nat} {dg nn : Nat → Nat} {pt ln : Nat → Nat → Nat} {wi : Nat → Nat → Int} (hN : 120 + 2 * no ≤ N) (hD : DK G ad c lim no dn gn gg dg nn pt ln wi) (hV : SV lim no dn gn gg dg nn pt ln wi) {t x mm : Nat} (ht : t < 4) (hx9 : x < 9) (hmm : 1 ≤ mm ∧ mm ≤ 32) (hn10 : nn t < 10) : MC l yX7_addNote wsX7_addNote rm_X7_addNote [.ref (ad 0), .int (zI (t : Int)), .int (zI (x : Int)), .int (zI (mm : Int))] D G ad N c (qI D G (fx ad N) (fun v c1 => v = zI ((nn t + 1 : Nat) : Int) ∧ DK G ad c1 lim no dn gn gg dg (upT nn t (nn t + 1)) (upT pt t (fun i => if i = nn t then x else pt t i)) (upT ln t (fun i => if i = nn t then mm else ln t i)) (upT wi t (fun i => if i + 1 = nn t then 0 else wi t i)) ∧ ∀ q, (120 ≤ q ∧ q < 120) → c1 q = c q)) 0 0 := by
  refine MCi.of (cc := cX7_addNote) (maxL := 4) (by decide) rfl (Nat.le_of_ble_eq_true rfl) ?_
  intro p e s m args below meth kc A Q hx hb hts hown hml fin H locs w ls hl
  have hown : s.vm.findClass RX7 = some m.cls := hown
  have hl : lv_has ls 4 [(0, .ref (ad 0)), (1, .int (zI (t : Int))), (2, .int (zI (x : Int))), (3, .int (zI (mm : Int)))] := hl
  obtain ⟨h0, hF, hB, hU, hTR, hTC, ⟨mz, lc, od, bt, hSS⟩, hJ⟩ := id hD
  obtain ⟨⟨ft, h15, hft⟩, hUo⟩ := id hU
  obtain ⟨hlim, hOV, hdn4, hdg, hUV⟩ := id hV
  have hlb : bnd lim := ⟨by omega, by omega⟩
  have hno8 := hOV.1
  have hBV : BookV no dn gn gg dg := ⟨hOV.1, hOV.2, hdn4, hdg⟩
  have hnt := (hUV t ht).1
  refine lv_iload_n hx hb dX7_addNote_0 rfl (lv_at hl 1 rfl) ?_
  refine pw_cv w (pw_runS (As := [.int (zI (t : Int))]) (rest := []) w ⟨hx, hb, hml, hown, hts⟩ (c_X7_checkTune l D G ad N c (z := (t : Int)) ⟨by omega, by omega⟩ (by omega)) (va_cwS 1 hts gX7_addNote_X7_checkTune rfl rfl rfl (by decide +kernel) ⟨Nat.le_of_ble_eq_true rfl, Nat.le_of_ble_eq_true rfl⟩) rfl hl.1 rfl (lv_room (Nat.le_of_ble_eq_true rfl)) dX7_addNote_1 ⟨Nat.le_of_ble_eq_true rfl, Nat.le_of_ble_eq_true rfl⟩) (fun u H locs hp w => ?_)
  have hu := hp
  have w : PW D G A s ad N c H locs := by rw [hu] at w; exact w
  clear hu
  refine lv_iload_n hx hb dX7_addNote_4 rfl (lv_at hl 2 rfl) ?_
  refine pw_cv w (pw_runS (As := [.int (zI (x : Int))]) (rest := []) w ⟨hx, hb, hml, hown, hts⟩ (c_X7_checkPitch l D G ad N c (z := (x : Int)) ⟨by omega, by omega⟩ (by omega)) (va_cwS 1 hts gX7_addNote_X7_checkPitch rfl rfl rfl (by decide +kernel) ⟨Nat.le_of_ble_eq_true rfl, Nat.le_of_ble_eq_true rfl⟩) rfl hl.1 rfl (lv_room (Nat.le_of_ble_eq_true rfl)) dX7_addNote_5 ⟨Nat.le_of_ble_eq_true rfl, Nat.le_of_ble_eq_true rfl⟩) (fun u H locs hp w => ?_)
  have hu := hp
  have w : PW D G A s ad N c H locs := by rw [hu] at w; exact w
  clear hu
  refine lv_iload_n hx hb dX7_addNote_8 rfl (lv_at hl 3 rfl) ?_
  refine pw_cv w (pw_runS (As := [.int (zI (mm : Int))]) (rest := []) w ⟨hx, hb, hml, hown, hts⟩ (c_X7_checkLength l D G ad N c (z := (mm : Int)) ⟨by omega, by omega⟩ (by omega)) (va_cwS 1 hts gX7_addNote_X7_checkLength rfl rfl rfl (by decide +kernel) ⟨Nat.le_of_ble_eq_true rfl, Nat.le_of_ble_eq_true rfl⟩) rfl hl.1 rfl (lv_room (Nat.le_of_ble_eq_true rfl)) dX7_addNote_9 ⟨Nat.le_of_ble_eq_true rfl, Nat.le_of_ble_eq_true rfl⟩) (fun u H locs hp w => ?_)
  have hu := hp
  have w : PW D G A s ad N c H locs := by rw [hu] at w; exact w
  clear hu
  refine lv_aload_n hx hb dX7_addNote_12 rfl (lv_at hl 0 rfl) ?_
  refine pw_get (r := 0) (ci := 7) (C := RX7) (T := TX7) (Nf := 5) hx hb w hts hin_X7_addNote_7 hown (by omega) h0 rfl 2 (by decide) (hts _ fl_X7_addNote_25) (fun _ h9 => h9) rfl dX7_addNote_13 ?_
  refine lv_iload_n hx hb dX7_addNote_16 rfl (lv_at hl 1 rfl) ?_
  refine pw_aaldR (r := 15) (j := t) hx hb w (by omega) h15 rfl rfl (by omega) (by omega) (by decide) (16 + 14 * t) (hft t (by omega)) dX7_addNote_17 ?_
  refine pw_ci w (pw_runV (r := (16 + 14 * t)) (ci := 5) (As := []) (rest := []) w ⟨hx, hb, hml, hown, hts⟩ (c_X5_size l D G ad N c (T := 16 + 14 * t) (n := nn t) ⟨by omega, by omega⟩ (by omega) (hUo t ht) (hUV t ht)) (cwV 0 hts gX7_addNote_X5_size rfl rfl rfl (by decide +kernel) ⟨Nat.le_of_ble_eq_true rfl, Nat.le_of_ble_eq_true rfl⟩) (by omega) (hUo t (by omega)).1 rfl rfl hl.1 rfl (lv_room (Nat.le_of_ble_eq_true rfl)) dX7_addNote_18 ⟨Nat.le_of_ble_eq_true rfl, Nat.le_of_ble_eq_true rfl⟩) (fun r_ u H locs hp w => ?_)
  obtain ⟨hv, hu⟩ := hp
  subst hv
  have w : PW D G A s ad N c H locs := by rw [hu] at w; exact w
  clear hu
  refine lv_bipush (v := zI (10)) hx hb dX7_addNote_21 (by decide +kernel) ?_
  refine pz_icmplt (tgt := 36) hx hb dX7_addNote_23 (by decide) (⟨by omega, by omega⟩) (⟨by omega, by omega⟩) (fun h1 => ?_) (fun h1 => ?_)
  · refine lv_aload_n hx hb dX7_addNote_36 rfl (lv_at hl 0 rfl) ?_
    refine pw_get (r := 0) (ci := 7) (C := RX7) (T := TX7) (Nf := 5) hx hb w hts hin_X7_addNote_7 hown (by omega) h0 rfl 2 (by decide) (hts _ fl_X7_addNote_25) (fun _ h9 => h9) rfl dX7_addNote_37 ?_
    refine lv_iload_n hx hb dX7_addNote_40 rfl (lv_at hl 1 rfl) ?_
    refine pw_aaldR (r := 15) (j := t) hx hb w (by omega) h15 rfl rfl (by omega) (by omega) (by decide) (16 + 14 * t) (hft t (by omega)) dX7_addNote_41 ?_
    refine lv_iload_n hx hb dX7_addNote_42 rfl (lv_at hl 2 rfl) ?_
    refine lv_iload_n hx hb dX7_addNote_43 rfl (lv_at hl 3 rfl) ?_
    refine pw_ci w (pw_runV (r := (16 + 14 * t)) (ci := 5) (As := [.int (zI (x : Int)), .int (zI (mm : Int))]) (rest := []) w ⟨hx, hb, hml, hown, hts⟩ (c_X5_append l D G ad N c (T := 16 + 14 * t) (n := nn t) ⟨by omega, by omega⟩ (by omega) (hUo t ht) (hUV t ht) (x := x) (mm := mm) hn10) (cwV 2 hts gX7_addNote_X5_append rfl rfl rfl (by decide +kernel) ⟨Nat.le_of_ble_eq_true rfl, Nat.le_of_ble_eq_true rfl⟩) (by omega) (hUo t (by omega)).1 rfl rfl hl.1 rfl (lv_room (Nat.le_of_ble_eq_true rfl)) dX7_addNote_44 ⟨Nat.le_of_ble_eq_true rfl, Nat.le_of_ble_eq_true rfl⟩) (fun r_ c2 H locs hp w => ?_)
    have w : PW D G A s ad N c2 H locs := w
    obtain ⟨hv2, hO2, fr2⟩ := hp
    subst hv2
    have hD2 := hD.tun ht hO2 fr2
    have hf2 : ∀ q, (120 ≤ q ∧ q < 120) → c2 q = c q := fun q hq => (fr2 q (by omega)).trans ((fun _ _ => rfl) q hq)
    exact fin (ad, N, c2) c2 _ _ _ _ _ _ _ rfl ⟨rfl, hD2, hf2⟩ w dX7_addNote_47 (Nat.le_refl _) (Nat.le_refl _)
  · omega

abbrev rx_X7_addNote : Room := { frames := 7, cells := 1, slots := 6, locals := 210 }
set_option maxHeartbeats 4000000 in
set_option maxRecDepth 100000 in
theorem x_X7_addNote1 (l : Launch) (hsT : l.stackTraces = false) (D : va_G) (G : Nat → ClassId) (ad : Nat → Nat) (N : Nat) (c : Nat → va_E) {lim : Int} {no dn : Nat} {gn : Nat → Nat} {gg : Nat → Nat → Nat} {dg nn : Nat → Nat} {pt ln : Nat → Nat → Nat} {wi : Nat → Nat → Int} (hN : 120 + 2 * no ≤ N) (hD : DK G ad c lim no dn gn gg dg nn pt ln wi) (hV : SV lim no dn gn gg dg nn pt ln wi) {zt zx zm : Int} (hbzt : bnd zt) (hbzx : bnd zx) (hbzm : bnd zm) (hbad : ¬ ((0 ≤ zt ∧ zt ≤ 3) ∧ (0 ≤ zx ∧ zx ≤ 8) ∧ 1 ≤ zm ∧ zm ≤ 32)) : MX l yX7_addNote wsX7_addNote rx_X7_addNote [.ref (ad 0), .int (zI zt), .int (zI zx), .int (zI zm)] D G ad N c xIA (fx ad N) (fun c1 => DK G ad c1 lim no dn gn gg dg nn pt ln wi ∧ ∀ q, (120 ≤ q ∧ q < 120) → c1 q = c q) 1 6 := by
  refine MX.of (cc := cX7_addNote) (maxL := 4) (ret := (some .int)) (by decide) rfl (Nat.le_of_ble_eq_true rfl) ?_
  intro p e s m below meth kc A hx hb hr hts hown hml hlk hno w ls hl
  have hown : s.vm.findClass RX7 = some m.cls := hown
  have hl : lv_has ls 4 [(0, .ref (ad 0)), (1, .int (zI zt)), (2, .int (zI zx)), (3, .int (zI zm))] := hl
  obtain ⟨h0, hF, hB, hU, hTR, hTC, ⟨mz, lc, od, bt, hSS⟩, hJ⟩ := id hD
  obtain ⟨⟨ft, h15, hft⟩, hUo⟩ := id hU
  obtain ⟨hlim, hOV, hdn4, hdg, hUV⟩ := id hV
  have hlb : bnd lim := ⟨by omega, by omega⟩
  have hno8 := hOV.1
  have hBV : BookV no dn gn gg dg := ⟨hOV.1, hOV.2, hdn4, hdg⟩
  have hbzt1 := hbzt.1
  have hbzt2 := hbzt.2
  have hbzx1 := hbzx.1
  have hbzx2 := hbzx.2
  have hbzm1 := hbzm.1
  have hbzm2 := hbzm.2
  refine lv_iload_n hx hb dX7_addNote_0 rfl (lv_at hl 1 rfl) ?_
  by_cases hct : 0 ≤ zt ∧ zt ≤ 3
  · refine pw_cv w (pw_runS (As := [.int (zI zt)]) (rest := []) w ⟨hx, hb, hml, hown, hts⟩ (c_X7_checkTune l D G ad N c (z := zt) ⟨by omega, by omega⟩ (by omega)) (va_cwS 1 hts gX7_addNote_X7_checkTune rfl rfl rfl (by decide +kernel) ⟨Nat.le_of_ble_eq_true rfl, Nat.le_of_ble_eq_true rfl⟩) rfl hl.1 rfl (lv_room (Nat.le_of_ble_eq_true rfl)) dX7_addNote_1 ⟨Nat.le_of_ble_eq_true rfl, Nat.le_of_ble_eq_true rfl⟩) (fun u H locs hp w => ?_)
    have hu := hp
    have w : PW D G A s ad N c H locs := by rw [hu] at w; exact w
    clear hu
    refine lv_iload_n hx hb dX7_addNote_4 rfl (lv_at hl 2 rfl) ?_
    by_cases hcx : 0 ≤ zx ∧ zx ≤ 8
    · refine pw_cv w (pw_runS (As := [.int (zI zx)]) (rest := []) w ⟨hx, hb, hml, hown, hts⟩ (c_X7_checkPitch l D G ad N c (z := zx) ⟨by omega, by omega⟩ (by omega)) (va_cwS 1 hts gX7_addNote_X7_checkPitch rfl rfl rfl (by decide +kernel) ⟨Nat.le_of_ble_eq_true rfl, Nat.le_of_ble_eq_true rfl⟩) rfl hl.1 rfl (lv_room (Nat.le_of_ble_eq_true rfl)) dX7_addNote_5 ⟨Nat.le_of_ble_eq_true rfl, Nat.le_of_ble_eq_true rfl⟩) (fun u H locs hp w => ?_)
      have hu := hp
      have w : PW D G A s ad N c H locs := by rw [hu] at w; exact w
      clear hu
      refine lv_iload_n hx hb dX7_addNote_8 rfl (lv_at hl 3 rfl) ?_
      exact pw_cx w (pw_runSX (As := [.int (zI zm)]) (rest := []) w ⟨hx, hb, hml, hown, hts⟩ (x_X7_checkLength l hsT D G ad N c (z := zm) ⟨by omega, by omega⟩ (by omega)) (va_cwS 1 hts gX7_addNote_X7_checkLength rfl rfl rfl (by decide +kernel) ⟨Nat.le_of_ble_eq_true rfl, Nat.le_of_ble_eq_true rfl⟩) rfl hl.1 rfl (lv_room (Nat.le_of_ble_eq_true rfl)) dX7_addNote_9 ⟨Nat.le_of_ble_eq_true rfl, Nat.le_of_ble_eq_true rfl⟩) (fun u ce q9 H locs hp w hce hcv hcl => pw_out hno hlk w u rfl ⟨by rw [show u = c from hp]; exact hD, fun q hq => by rw [show u = c from hp]⟩ hce hcv hcl (Nat.le_of_ble_eq_true rfl) (Nat.le_of_ble_eq_true rfl))
    · exact pw_cx w (pw_runSX (As := [.int (zI zx)]) (rest := []) w ⟨hx, hb, hml, hown, hts⟩ (x_X7_checkPitch l hsT D G ad N c (z := zx) ⟨by omega, by omega⟩ (by omega)) (va_cwS 1 hts gX7_addNote_X7_checkPitch rfl rfl rfl (by decide +kernel) ⟨Nat.le_of_ble_eq_true rfl, Nat.le_of_ble_eq_true rfl⟩) rfl hl.1 rfl (lv_room (Nat.le_of_ble_eq_true rfl)) dX7_addNote_5 ⟨Nat.le_of_ble_eq_true rfl, Nat.le_of_ble_eq_true rfl⟩) (fun u ce q9 H locs hp w hce hcv hcl => pw_out hno hlk w u rfl ⟨by rw [show u = c from hp]; exact hD, fun q hq => by rw [show u = c from hp]⟩ hce hcv hcl (Nat.le_of_ble_eq_true rfl) (Nat.le_of_ble_eq_true rfl))
  · exact pw_cx w (pw_runSX (As := [.int (zI zt)]) (rest := []) w ⟨hx, hb, hml, hown, hts⟩ (x_X7_checkTune l hsT D G ad N c (z := zt) ⟨by omega, by omega⟩ (by omega)) (va_cwS 1 hts gX7_addNote_X7_checkTune rfl rfl rfl (by decide +kernel) ⟨Nat.le_of_ble_eq_true rfl, Nat.le_of_ble_eq_true rfl⟩) rfl hl.1 rfl (lv_room (Nat.le_of_ble_eq_true rfl)) dX7_addNote_1 ⟨Nat.le_of_ble_eq_true rfl, Nat.le_of_ble_eq_true rfl⟩) (fun u ce q9 H locs hp w hce hcv hcl => pw_out hno hlk w u rfl ⟨by rw [show u = c from hp]; exact hD, fun q hq => by rw [show u = c from hp]⟩ hce hcv hcl (Nat.le_of_ble_eq_true rfl) (Nat.le_of_ble_eq_true rfl))

theorem wd_X7_addNote_ck73 : Cond.classLink RX7 73 "java/lang/IllegalStateException" ∈ wsX7_addNote := by decide +kernel
theorem wd_X7_addNote_ini73 : Cond.initialized "java/lang/IllegalStateException" ∈ wsX7_addNote := by decide +kernel
theorem ats_X7_addNote_IS : ∀ w ∈ (vx_atS RX7 77 "java/lang/IllegalStateException" ["java/lang/RuntimeException", "java/lang/Exception"]).filter goodWord, w ∈ wsX7_addNote := fun w h => List.mem_cons_of_mem _ (List.mem_append_left _ (List.mem_append_right _ h))
set_option maxHeartbeats 4000000 in
set_option maxRecDepth 100000 in
theorem x_X7_addNote2 (l : Launch) (hsT : l.stackTraces = false) (D : va_G) (G : Nat → ClassId) (ad : Nat → Nat) (N : Nat) (c : Nat → va_E) {lim : Int} {no dn : Nat} {gn : Nat → Nat} {gg : Nat → Nat → Nat} {dg nn : Nat → Nat} {pt ln : Nat → Nat → Nat} {wi : Nat → Nat → Int} (hN : 120 + 2 * no ≤ N) (hD : DK G ad c lim no dn gn gg dg nn pt ln wi) (hV : SV lim no dn gn gg dg nn pt ln wi) {t x mm : Nat} (ht : t < 4) (hx9 : x < 9) (hmm : 1 ≤ mm ∧ mm ≤ 32) (hfull : nn t = 10) : MX l yX7_addNote wsX7_addNote rx_X7_addNote [.ref (ad 0), .int (zI (t : Int)), .int (zI (x : Int)), .int (zI (mm : Int))] D G ad N c xIS (fx ad N) (fun c1 => DK G ad c1 lim no dn gn gg dg nn pt ln wi ∧ ∀ q, (120 ≤ q ∧ q < 120) → c1 q = c q) 1 6 := by
  refine MX.of (cc := cX7_addNote) (maxL := 4) (ret := (some .int)) (by decide) rfl (Nat.le_of_ble_eq_true rfl) ?_
  intro p e s m below meth kc A hx hb hr hts hown hml hlk hno w ls hl
  have hown : s.vm.findClass RX7 = some m.cls := hown
  have hl : lv_has ls 4 [(0, .ref (ad 0)), (1, .int (zI (t : Int))), (2, .int (zI (x : Int))), (3, .int (zI (mm : Int)))] := hl
  obtain ⟨h0, hF, hB, hU, hTR, hTC, ⟨mz, lc, od, bt, hSS⟩, hJ⟩ := id hD
  obtain ⟨⟨ft, h15, hft⟩, hUo⟩ := id hU
  obtain ⟨hlim, hOV, hdn4, hdg, hUV⟩ := id hV
  have hlb : bnd lim := ⟨by omega, by omega⟩
  have hno8 := hOV.1
  have hBV : BookV no dn gn gg dg := ⟨hOV.1, hOV.2, hdn4, hdg⟩
  have hnt := (hUV t ht).1
  refine lv_iload_n hx hb dX7_addNote_0 rfl (lv_at hl 1 rfl) ?_
  refine pw_cv w (pw_runS (As := [.int (zI (t : Int))]) (rest := []) w ⟨hx, hb, hml, hown, hts⟩ (c_X7_checkTune l D G ad N c (z := (t : Int)) ⟨by omega, by omega⟩ (by omega)) (va_cwS 1 hts gX7_addNote_X7_checkTune rfl rfl rfl (by decide +kernel) ⟨Nat.le_of_ble_eq_true rfl, Nat.le_of_ble_eq_true rfl⟩) rfl hl.1 rfl (lv_room (Nat.le_of_ble_eq_true rfl)) dX7_addNote_1 ⟨Nat.le_of_ble_eq_true rfl, Nat.le_of_ble_eq_true rfl⟩) (fun u H locs hp w => ?_)
  have hu := hp
  have w : PW D G A s ad N c H locs := by rw [hu] at w; exact w
  clear hu
  refine lv_iload_n hx hb dX7_addNote_4 rfl (lv_at hl 2 rfl) ?_
  refine pw_cv w (pw_runS (As := [.int (zI (x : Int))]) (rest := []) w ⟨hx, hb, hml, hown, hts⟩ (c_X7_checkPitch l D G ad N c (z := (x : Int)) ⟨by omega, by omega⟩ (by omega)) (va_cwS 1 hts gX7_addNote_X7_checkPitch rfl rfl rfl (by decide +kernel) ⟨Nat.le_of_ble_eq_true rfl, Nat.le_of_ble_eq_true rfl⟩) rfl hl.1 rfl (lv_room (Nat.le_of_ble_eq_true rfl)) dX7_addNote_5 ⟨Nat.le_of_ble_eq_true rfl, Nat.le_of_ble_eq_true rfl⟩) (fun u H locs hp w => ?_)
  have hu := hp
  have w : PW D G A s ad N c H locs := by rw [hu] at w; exact w
  clear hu
  refine lv_iload_n hx hb dX7_addNote_8 rfl (lv_at hl 3 rfl) ?_
  refine pw_cv w (pw_runS (As := [.int (zI (mm : Int))]) (rest := []) w ⟨hx, hb, hml, hown, hts⟩ (c_X7_checkLength l D G ad N c (z := (mm : Int)) ⟨by omega, by omega⟩ (by omega)) (va_cwS 1 hts gX7_addNote_X7_checkLength rfl rfl rfl (by decide +kernel) ⟨Nat.le_of_ble_eq_true rfl, Nat.le_of_ble_eq_true rfl⟩) rfl hl.1 rfl (lv_room (Nat.le_of_ble_eq_true rfl)) dX7_addNote_9 ⟨Nat.le_of_ble_eq_true rfl, Nat.le_of_ble_eq_true rfl⟩) (fun u H locs hp w => ?_)
  have hu := hp
  have w : PW D G A s ad N c H locs := by rw [hu] at w; exact w
  clear hu
  refine lv_aload_n hx hb dX7_addNote_12 rfl (lv_at hl 0 rfl) ?_
  refine pw_get (r := 0) (ci := 7) (C := RX7) (T := TX7) (Nf := 5) hx hb w hts hin_X7_addNote_7 hown (by omega) h0 rfl 2 (by decide) (hts _ fl_X7_addNote_25) (fun _ h9 => h9) rfl dX7_addNote_13 ?_
  refine lv_iload_n hx hb dX7_addNote_16 rfl (lv_at hl 1 rfl) ?_
  refine pw_aaldR (r := 15) (j := t) hx hb w (by omega) h15 rfl rfl (by omega) (by omega) (by decide) (16 + 14 * t) (hft t (by omega)) dX7_addNote_17 ?_
  refine pw_ci w (pw_runV (r := (16 + 14 * t)) (ci := 5) (As := []) (rest := []) w ⟨hx, hb, hml, hown, hts⟩ (c_X5_size l D G ad N c (T := 16 + 14 * t) (n := nn t) ⟨by omega, by omega⟩ (by omega) (hUo t ht) (hUV t ht)) (cwV 0 hts gX7_addNote_X5_size rfl rfl rfl (by decide +kernel) ⟨Nat.le_of_ble_eq_true rfl, Nat.le_of_ble_eq_true rfl⟩) (by omega) (hUo t (by omega)).1 rfl rfl hl.1 rfl (lv_room (Nat.le_of_ble_eq_true rfl)) dX7_addNote_18 ⟨Nat.le_of_ble_eq_true rfl, Nat.le_of_ble_eq_true rfl⟩) (fun r_ u H locs hp w => ?_)
  obtain ⟨hv, hu⟩ := hp
  subst hv
  have w : PW D G A s ad N c H locs := by rw [hu] at w; exact w
  clear hu
  refine lv_bipush (v := zI (10)) hx hb dX7_addNote_21 (by decide +kernel) ?_
  refine pz_icmplt (tgt := 36) hx hb dX7_addNote_23 (by decide) (⟨by omega, by omega⟩) (⟨by omega, by omega⟩) (fun h1 => ?_) (fun h1 => ?_)
  · omega
  · exact pw_throw (E0 := xIS) (text := "the tune is full") (own := RX7) (names := ["java/lang/RuntimeException", "java/lang/Exception"]) (ik := 73) (is := 113) (ic := 77) (x := (ad, N, c)) hx hb hsT hno hlk w c rfl ⟨hD, fun _ _ => rfl⟩ hown rfl (by decide +kernel) (by decide +kernel) (hts _ wd_X7_addNote_ck73) (hts _ wd_X7_addNote_ini73) (by decide) (fun w h => hts _ (ats_X7_addNote_IS w h)) og_IS (by decide) oa_IS (hl.1.trans hml.symm) dX7_addNote_26 dX7_addNote_29 dX7_addNote_30 dX7_addNote_32 dX7_addNote_35 (Nat.le_of_ble_eq_true rfl) (Nat.le_of_ble_eq_true rfl) (Nat.le_of_ble_eq_true rfl) (Nat.le_of_ble_eq_true rfl) (Nat.le_of_ble_eq_true rfl) (Nat.le_of_ble_eq_true rfl)

theorem upT_self {α : Type} (f : Nat → α) (t : Nat) : upT f t (f t) = f := by
  funext u
  unfold upT
  split
  · rename_i h
    rw [h]
  · rfl

theorem hin_X7_removeNote_7 : ∀ w ∈ u_ws RX7 TX7 5, w ∈ wsX7_removeNote := by decide +kernel
theorem fl_X7_removeNote_25 : Cond.fieldLink RX7 25 "PipersDesk" "tunes" "[LPipersDesk$Tune;" ∈ wsX7_removeNote := by decide +kernel
abbrev rm_X7_removeNote : Room := { frames := 7, cells := 0, slots := 0, locals := 210 }
set_option maxHeartbeats 4000000 in
set_option maxRecDepth 100000 in
theorem c_X7_removeNote (l : Launch) (D : va_G) (G : Nat → ClassId) (ad : Nat → Nat) (N : Nat) (c : Nat → va_E) {lim : Int} {no dn : Nat} {gn : Nat → Nat} {gg : Nat → Nat → Nat} {dg nn : Nat → Nat} {pt ln : Nat → Nat → Nat} {wi : Nat → Nat → Int} (hN : 120 + 2 * no ≤ N) (hD : DK G ad c lim no dn gn gg dg nn pt ln wi) (hV : SV lim no dn gn gg dg nn pt ln wi) {t : Nat} (ht : t < 4) (hn0 : 0 < nn t) : MC l yX7_removeNote wsX7_removeNote rm_X7_removeNote [.ref (ad 0), .int (zI (t : Int))] D G ad N c (qI D G (fx ad N) (fun v c1 => v = zI (pt t (nn t - 1) : Int) ∧ DK G ad c1 lim no dn gn gg dg (upT nn t (nn t - 1)) pt ln wi ∧ ∀ q, (120 ≤ q ∧ q < 120) → c1 q = c q)) 0 0 := by
  refine MCi.of (cc := cX7_removeNote) (maxL := 2) (by decide) rfl (Nat.le_of_ble_eq_true rfl) ?_
  intro p e s m args below meth kc A Q hx hb hts hown hml fin H locs w ls hl
  have hown : s.vm.findClass RX7 = some m.cls := hown
  have hl : lv_has ls 2 [(0, .ref (ad 0)), (1, .int (zI (t : Int)))] := hl
  obtain ⟨h0, hF, hB, hU, hTR, hTC, ⟨mz, lc, od, bt, hSS⟩, hJ⟩ := id hD
  obtain ⟨⟨ft, h15, hft⟩, hUo⟩ := id hU
  obtain ⟨hlim, hOV, hdn4, hdg, hUV⟩ := id hV
  have hlb : bnd lim := ⟨by omega, by omega⟩
  have hno8 := hOV.1
  have hBV : BookV no dn gn gg dg := ⟨hOV.1, hOV.2, hdn4, hdg⟩
  have hnt := (hUV t ht).1
  refine lv_iload_n hx hb dX7_removeNote_0 rfl (lv_at hl 1 rfl) ?_
  refine pw_cv w (pw_runS (As := [.int (zI (t : Int))]) (rest := []) w ⟨hx, hb, hml, hown, hts⟩ (c_X7_checkTune l D G ad N c (z := (t : Int)) ⟨by omega, by omega⟩ (by omega)) (va_cwS 1 hts gX7_removeNote_X7_checkTune rfl rfl rfl (by decide +kernel) ⟨Nat.le_of_ble_eq_true rfl, Nat.le_of_ble_eq_true rfl⟩) rfl hl.1 rfl (lv_room (Nat.le_of_ble_eq_true rfl)) dX7_removeNote_1 ⟨Nat.le_of_ble_eq_true rfl, Nat.le_of_ble_eq_true rfl⟩) (fun u H locs hp w => ?_)
  have hu := hp
  have w : PW D G A s ad N c H locs := by rw [hu] at w; exact w
  clear hu
  refine lv_aload_n hx hb dX7_removeNote_4 rfl (lv_at hl 0 rfl) ?_
  refine pw_get (r := 0) (ci := 7) (C := RX7) (T := TX7) (Nf := 5) hx hb w hts hin_X7_removeNote_7 hown (by omega) h0 rfl 2 (by decide) (hts _ fl_X7_removeNote_25) (fun _ h9 => h9) rfl dX7_removeNote_5 ?_
  refine lv_iload_n hx hb dX7_removeNote_8 rfl (lv_at hl 1 rfl) ?_
  refine pw_aaldR (r := 15) (j := t) hx hb w (by omega) h15 rfl rfl (by omega) (by omega) (by decide) (16 + 14 * t) (hft t (by omega)) dX7_removeNote_9 ?_
  refine pw_ci w (pw_runV (r := (16 + 14 * t)) (ci := 5) (As := []) (rest := []) w ⟨hx, hb, hml, hown, hts⟩ (c_X5_size l D G ad N c (T := 16 + 14 * t) (n := nn t) ⟨by omega, by omega⟩ (by omega) (hUo t ht) (hUV t ht)) (cwV 0 hts gX7_removeNote_X5_size rfl rfl rfl (by decide +kernel) ⟨Nat.le_of_ble_eq_true rfl, Nat.le_of_ble_eq_true rfl⟩) (by omega) (hUo t (by omega)).1 rfl rfl hl.1 rfl (lv_room (Nat.le_of_ble_eq_true rfl)) dX7_removeNote_10 ⟨Nat.le_of_ble_eq_true rfl, Nat.le_of_ble_eq_true rfl⟩) (fun r_ u H locs hp w => ?_)
  obtain ⟨hv, hu⟩ := hp
  subst hv
  have w : PW D G A s ad N c H locs := by rw [hu] at w; exact w
  clear hu
  refine pz_ifne (tgt := 26) hx hb dX7_removeNote_13 (by decide) (⟨by omega, by omega⟩) (fun h1 => ?_) (fun h1 => ?_)
  · refine lv_aload_n hx hb dX7_removeNote_26 rfl (lv_at hl 0 rfl) ?_
    refine pw_get (r := 0) (ci := 7) (C := RX7) (T := TX7) (Nf := 5) hx hb w hts hin_X7_removeNote_7 hown (by omega) h0 rfl 2 (by decide) (hts _ fl_X7_removeNote_25) (fun _ h9 => h9) rfl dX7_removeNote_27 ?_
    refine lv_iload_n hx hb dX7_removeNote_30 rfl (lv_at hl 1 rfl) ?_
    refine pw_aaldR (r := 15) (j := t) hx hb w (by omega) h15 rfl rfl (by omega) (by omega) (by decide) (16 + 14 * t) (hft t (by omega)) dX7_removeNote_31 ?_
    refine pw_ci w (pw_runV (r := (16 + 14 * t)) (ci := 5) (As := []) (rest := []) w ⟨hx, hb, hml, hown, hts⟩ (c_X5_dropLast l D G ad N c (T := 16 + 14 * t) (n := nn t) ⟨by omega, by omega⟩ (by omega) (hUo t ht) (hUV t ht) hn0) (cwV 0 hts gX7_removeNote_X5_dropLast rfl rfl rfl (by decide +kernel) ⟨Nat.le_of_ble_eq_true rfl, Nat.le_of_ble_eq_true rfl⟩) (by omega) (hUo t (by omega)).1 rfl rfl hl.1 rfl (lv_room (Nat.le_of_ble_eq_true rfl)) dX7_removeNote_32 ⟨Nat.le_of_ble_eq_true rfl, Nat.le_of_ble_eq_true rfl⟩) (fun r_ c2 H locs hp w => ?_)
    have w : PW D G A s ad N c2 H locs := w
    obtain ⟨hv2, hO2, fr2⟩ := hp
    subst hv2
    have hD2 := hD.tun ht hO2 fr2
    rw [upT_self, upT_self, upT_self] at hD2
    have hf2 : ∀ q, (120 ≤ q ∧ q < 120) → c2 q = c q := fun q hq => fr2 q (by omega)
    exact fin (ad, N, c2) c2 _ _ _ _ _ _ _ rfl ⟨rfl, hD2, hf2⟩ w dX7_removeNote_35 (Nat.le_refl _) (Nat.le_refl _)
  · omega

abbrev rx_X7_removeNote : Room := { frames := 7, cells := 1, slots := 6, locals := 210 }
set_option maxHeartbeats 4000000 in
set_option maxRecDepth 100000 in
theorem x_X7_removeNote1 (l : Launch) (hsT : l.stackTraces = false) (D : va_G) (G : Nat → ClassId) (ad : Nat → Nat) (N : Nat) (c : Nat → va_E) {lim : Int} {no dn : Nat} {gn : Nat → Nat} {gg : Nat → Nat → Nat} {dg nn : Nat → Nat} {pt ln : Nat → Nat → Nat} {wi : Nat → Nat → Int} (hN : 120 + 2 * no ≤ N) (hD : DK G ad c lim no dn gn gg dg nn pt ln wi) (hV : SV lim no dn gn gg dg nn pt ln wi) {zt : Int} (hbzt : bnd zt) (hbad : ¬ (0 ≤ zt ∧ zt ≤ 3)) : MX l yX7_removeNote wsX7_removeNote rx_X7_removeNote [.ref (ad 0), .int (zI zt)] D G ad N c xIA (fx ad N) (fun c1 => DK G ad c1 lim no dn gn gg dg nn pt ln wi ∧ ∀ q, (120 ≤ q ∧ q < 120) → c1 q = c q) 1 6 := by
  refine MX.of (cc := cX7_removeNote) (maxL := 2) (ret := (some .int)) (by decide) rfl (Nat.le_of_ble_eq_true rfl) ?_
  intro p e s m below meth kc A hx hb hr hts hown hml hlk hno w ls hl
  have hown : s.vm.findClass RX7 = some m.cls := hown
  have hl : lv_has ls 2 [(0, .ref (ad 0)), (1, .int (zI zt))] := hl
  obtain ⟨h0, hF, hB, hU, hTR, hTC, ⟨mz, lc, od, bt, hSS⟩, hJ⟩ := id hD
  obtain ⟨⟨ft, h15, hft⟩, hUo⟩ := id hU
  obtain ⟨hlim, hOV, hdn4, hdg, hUV⟩ := id hV
  have hlb : bnd lim := ⟨by omega, by omega⟩
  have hno8 := hOV.1
  have hBV : BookV no dn gn gg dg := ⟨hOV.1, hOV.2, hdn4, hdg⟩
  have hbzt1 := hbzt.1
  have hbzt2 := hbzt.2
  refine lv_iload_n hx hb dX7_removeNote_0 rfl (lv_at hl 1 rfl) ?_
  exact pw_cx w (pw_runSX (As := [.int (zI zt)]) (rest := []) w ⟨hx, hb, hml, hown, hts⟩ (x_X7_checkTune l hsT D G ad N c (z := zt) ⟨by omega, by omega⟩ (by omega)) (va_cwS 1 hts gX7_removeNote_X7_checkTune rfl rfl rfl (by decide +kernel) ⟨Nat.le_of_ble_eq_true rfl, Nat.le_of_ble_eq_true rfl⟩) rfl hl.1 rfl (lv_room (Nat.le_of_ble_eq_true rfl)) dX7_removeNote_1 ⟨Nat.le_of_ble_eq_true rfl, Nat.le_of_ble_eq_true rfl⟩) (fun u ce q9 H locs hp w hce hcv hcl => pw_out hno hlk w u rfl ⟨by rw [show u = c from hp]; exact hD, fun q hq => by rw [show u = c from hp]⟩ hce hcv hcl (Nat.le_of_ble_eq_true rfl) (Nat.le_of_ble_eq_true rfl))

theorem hin_X7_setWish_7 : ∀ w ∈ u_ws RX7 TX7 5, w ∈ wsX7_setWish := by decide +kernel
theorem fl_X7_setWish_25 : Cond.fieldLink RX7 25 "PipersDesk" "tunes" "[LPipersDesk$Tune;" ∈ wsX7_setWish := by decide +kernel
abbrev rm_X7_setWish : Room := { frames := 7, cells := 0, slots := 0, locals := 210 }
set_option maxHeartbeats 4000000 in
set_option maxRecDepth 100000 in
theorem c_X7_setWish (l : Launch) (D : va_G) (G : Nat → ClassId) (ad : Nat → Nat) (N : Nat) (c : Nat → va_E) {lim : Int} {no dn : Nat} {gn : Nat → Nat} {gg : Nat → Nat → Nat} {dg nn : Nat → Nat} {pt ln : Nat → Nat → Nat} {wi : Nat → Nat → Int} (hN : 120 + 2 * no ≤ N) (hD : DK G ad c lim no dn gn gg dg nn pt ln wi) (hV : SV lim no dn gn gg dg nn pt ln wi) {t : Nat} (ht : t < 4) {i : Nat} {xw : Int} (hi : i + 1 < nn t) (hxw : xw = 0 ∨ xw = 1) : MC l yX7_setWish wsX7_setWish rm_X7_setWish [.ref (ad 0), .int (zI (t : Int)), .int (zI (i : Int)), .int (zI xw)] D G ad N c (qI D G (fx ad N) (fun v c1 => v = zI (wi t i) ∧ DK G ad c1 lim no dn gn gg dg nn pt ln (upT wi t (fun j => if j = i then xw else wi t j)) ∧ ∀ q, (120 ≤ q ∧ q < 120) → c1 q = c q)) 0 0 := by
  refine MCz.of (cc := cX7_setWish) (maxL := 4) (by decide) rfl (Nat.le_of_ble_eq_true rfl) ?_
  intro p e s m args below meth kc A Q hx hb hts hown hml fin H locs w ls hl
  have hown : s.vm.findClass RX7 = some m.cls := hown
  have hl : lv_has ls 4 [(0, .ref (ad 0)), (1, .int (zI (t : Int))), (2, .int (zI (i : Int))), (3, .int (zI xw))] := hl
  obtain ⟨h0, hF, hB, hU, hTR, hTC, ⟨mz, lc, od, bt, hSS⟩, hJ⟩ := id hD
  obtain ⟨⟨ft, h15, hft⟩, hUo⟩ := id hU
  obtain ⟨hlim, hOV, hdn4, hdg, hUV⟩ := id hV
  have hlb : bnd lim := ⟨by omega, by omega⟩
  have hno8 := hOV.1
  have hBV : BookV no dn gn gg dg := ⟨hOV.1, hOV.2, hdn4, hdg⟩
  have hnt := (hUV t ht).1
  refine lv_iload_n hx hb dX7_setWish_0 rfl (lv_at hl 1 rfl) ?_
  refine pw_cv w (pw_runS (As := [.int (zI (t : Int))]) (rest := []) w ⟨hx, hb, hml, hown, hts⟩ (c_X7_checkTune l D G ad N c (z := (t : Int)) ⟨by omega, by omega⟩ (by omega)) (va_cwS 1 hts gX7_setWish_X7_checkTune rfl rfl rfl (by decide +kernel) ⟨Nat.le_of_ble_eq_true rfl, Nat.le_of_ble_eq_true rfl⟩) rfl hl.1 rfl (lv_room (Nat.le_of_ble_eq_true rfl)) dX7_setWish_1 ⟨Nat.le_of_ble_eq_true rfl, Nat.le_of_ble_eq_true rfl⟩) (fun u H locs hp w => ?_)
  have hu := hp
  have w : PW D G A s ad N c H locs := by rw [hu] at w; exact w
  clear hu
  refine lv_aload_n hx hb dX7_setWish_4 rfl (lv_at hl 0 rfl) ?_
  refine lv_iload_n hx hb dX7_setWish_5 rfl (lv_at hl 1 rfl) ?_
  refine lv_iload_n hx hb dX7_setWish_6 rfl (lv_at hl 2 rfl) ?_
  refine pw_cv w (pw_runV (r := 0) (ci := 7) (As := [.int (zI (t : Int)), .int (zI (i : Int))]) (rest := []) w ⟨hx, hb, hml, hown, hts⟩ (c_X7_checkGap l D G ad N c (t := t) (z := (i : Int)) hN hD hV ht ⟨by omega, by omega⟩ (by omega)) (cwV 2 hts gX7_setWish_X7_checkGap rfl rfl rfl (by decide +kernel) ⟨Nat.le_of_ble_eq_true rfl, Nat.le_of_ble_eq_true rfl⟩) (by omega) h0 rfl rfl hl.1 rfl (lv_room (Nat.le_of_ble_eq_true rfl)) dX7_setWish_7 ⟨Nat.le_of_ble_eq_true rfl, Nat.le_of_ble_eq_true rfl⟩) (fun u H locs hp w => ?_)
  have hu := hp
  have w : PW D G A s ad N c H locs := by rw [hu] at w; exact w
  clear hu
  refine lv_aload_n hx hb dX7_setWish_10 rfl (lv_at hl 0 rfl) ?_
  refine pw_get (r := 0) (ci := 7) (C := RX7) (T := TX7) (Nf := 5) hx hb w hts hin_X7_setWish_7 hown (by omega) h0 rfl 2 (by decide) (hts _ fl_X7_setWish_25) (fun _ h9 => h9) rfl dX7_setWish_11 ?_
  refine lv_iload_n hx hb dX7_setWish_14 rfl (lv_at hl 1 rfl) ?_
  refine pw_aaldR (r := 15) (j := t) hx hb w (by omega) h15 rfl rfl (by omega) (by omega) (by decide) (16 + 14 * t) (hft t (by omega)) dX7_setWish_15 ?_
  refine lv_iload_n hx hb dX7_setWish_16 rfl (lv_at hl 2 rfl) ?_
  refine lv_iload_n hx hb dX7_setWish_17 rfl (lv_at hl 3 rfl) ?_
  have hwi := (hUV t ht).2.2 i hi
  refine pw_ci w (pw_runV (r := (16 + 14 * t)) (ci := 5) (As := [.int (zI (i : Int)), .int (zI xw)]) (rest := []) w ⟨hx, hb, hml, hown, hts⟩ (c_X5_replaceWish l D G ad N c (T := 16 + 14 * t) (n := nn t) ⟨by omega, by omega⟩ (by omega) (hUo t ht) (hUV t ht) (i := i) (x := xw) hi hxw) (cwV 2 hts gX7_setWish_X5_replaceWish rfl rfl rfl (by decide +kernel) ⟨Nat.le_of_ble_eq_true rfl, Nat.le_of_ble_eq_true rfl⟩) (by omega) (hUo t (by omega)).1 rfl rfl hl.1 rfl (lv_room (Nat.le_of_ble_eq_true rfl)) dX7_setWish_18 ⟨Nat.le_of_ble_eq_true rfl, Nat.le_of_ble_eq_true rfl⟩) (fun r_ c1 H locs hp w => ?_)
  have w : PW D G A s ad N c1 H locs := w
  obtain ⟨hv1, hO1, fr1⟩ := hp
  subst hv1
  have hD1 := hD.tun ht hO1 fr1
  rw [upT_self, upT_self, upT_self] at hD1
  have hf1 : ∀ q, (120 ≤ q ∧ q < 120) → c1 q = c q := fun q hq => fr1 q (by omega)
  exact fin (ad, N, c1) c1 _ _ _ _ _ _ _ rfl (hwi.elim (fun h => Or.inl (by rw [h])) (fun h => Or.inr (by rw [h]))) ⟨rfl, hD1, hf1⟩ w dX7_setWish_21 (Nat.le_refl _) (Nat.le_refl _)

abbrev rx_X7_setWish : Room := { frames := 7, cells := 1, slots := 6, locals := 210 }
set_option maxHeartbeats 4000000 in
set_option maxRecDepth 100000 in
theorem x_X7_setWish1 (l : Launch) (hsT : l.stackTraces = false) (D : va_G) (G : Nat → ClassId) (ad : Nat → Nat) (N : Nat) (c : Nat → va_E) {lim : Int} {no dn : Nat} {gn : Nat → Nat} {gg : Nat → Nat → Nat} {dg nn : Nat → Nat} {pt ln : Nat → Nat → Nat} {wi : Nat → Nat → Int} (hN : 120 + 2 * no ≤ N) (hD : DK G ad c lim no dn gn gg dg nn pt ln wi) (hV : SV lim no dn gn gg dg nn pt ln wi) {zt : Int} (hbzt : bnd zt) (hbad : ¬ (0 ≤ zt ∧ zt ≤ 3)) {zi xw : Int} : MX l yX7_setWish wsX7_setWish rx_X7_setWish [.ref (ad 0), .int (zI zt), .int (zI zi), .int (zI xw)] D G ad N c xIA (fx ad N) (fun c1 => DK G ad c1 lim no dn gn gg dg nn pt ln wi ∧ ∀ q, (120 ≤ q ∧ q < 120) → c1 q = c q) 1 6 := by
  refine MX.of (cc := cX7_setWish) (maxL := 4) (ret := (some .boolean)) (by decide) rfl (Nat.le_of_ble_eq_true rfl) ?_
  intro p e s m below meth kc A hx hb hr hts hown hml hlk hno w ls hl
  have hown : s.vm.findClass RX7 = some m.cls := hown
  have hl : lv_has ls 4 [(0, .ref (ad 0)), (1, .int (zI zt)), (2, .int (zI zi)), (3, .int (zI xw))] := hl
  obtain ⟨h0, hF, hB, hU, hTR, hTC, ⟨mz, lc, od, bt, hSS⟩, hJ⟩ := id hD
  obtain ⟨⟨ft, h15, hft⟩, hUo⟩ := id hU
  obtain ⟨hlim, hOV, hdn4, hdg, hUV⟩ := id hV
  have hlb : bnd lim := ⟨by omega, by omega⟩
  have hno8 := hOV.1
  have hBV : BookV no dn gn gg dg := ⟨hOV.1, hOV.2, hdn4, hdg⟩
  have hbzt1 := hbzt.1
  have hbzt2 := hbzt.2
  refine lv_iload_n hx hb dX7_setWish_0 rfl (lv_at hl 1 rfl) ?_
  exact pw_cx w (pw_runSX (As := [.int (zI zt)]) (rest := []) w ⟨hx, hb, hml, hown, hts⟩ (x_X7_checkTune l hsT D G ad N c (z := zt) ⟨by omega, by omega⟩ (by omega)) (va_cwS 1 hts gX7_setWish_X7_checkTune rfl rfl rfl (by decide +kernel) ⟨Nat.le_of_ble_eq_true rfl, Nat.le_of_ble_eq_true rfl⟩) rfl hl.1 rfl (lv_room (Nat.le_of_ble_eq_true rfl)) dX7_setWish_1 ⟨Nat.le_of_ble_eq_true rfl, Nat.le_of_ble_eq_true rfl⟩) (fun u ce q9 H locs hp w hce hcv hcl => pw_out hno hlk w u rfl ⟨by rw [show u = c from hp]; exact hD, fun q hq => by rw [show u = c from hp]⟩ hce hcv hcl (Nat.le_of_ble_eq_true rfl) (Nat.le_of_ble_eq_true rfl))

set_option maxHeartbeats 4000000 in
set_option maxRecDepth 100000 in
theorem x_X7_setWish2 (l : Launch) (hsT : l.stackTraces = false) (D : va_G) (G : Nat → ClassId) (ad : Nat → Nat) (N : Nat) (c : Nat → va_E) {lim : Int} {no dn : Nat} {gn : Nat → Nat} {gg : Nat → Nat → Nat} {dg nn : Nat → Nat} {pt ln : Nat → Nat → Nat} {wi : Nat → Nat → Int} (hN : 120 + 2 * no ≤ N) (hD : DK G ad c lim no dn gn gg dg nn pt ln wi) (hV : SV lim no dn gn gg dg nn pt ln wi) {t : Nat} (ht : t < 4) {zi : Int} (hbzi : bnd zi) (hbad : ¬ (0 ≤ zi ∧ zi ≤ (nn t : Int) - 2)) {xw : Int} : MX l yX7_setWish wsX7_setWish rx_X7_setWish [.ref (ad 0), .int (zI (t : Int)), .int (zI zi), .int (zI xw)] D G ad N c xIO (fx ad N) (fun c1 => DK G ad c1 lim no dn gn gg dg nn pt ln wi ∧ ∀ q, (120 ≤ q ∧ q < 120) → c1 q = c q) 1 6 := by
  refine MX.of (cc := cX7_setWish) (maxL := 4) (ret := (some .boolean)) (by decide) rfl (Nat.le_of_ble_eq_true rfl) ?_
  intro p e s m below meth kc A hx hb hr hts hown hml hlk hno w ls hl
  have hown : s.vm.findClass RX7 = some m.cls := hown
  have hl : lv_has ls 4 [(0, .ref (ad 0)), (1, .int (zI (t : Int))), (2, .int (zI zi)), (3, .int (zI xw))] := hl
  obtain ⟨h0, hF, hB, hU, hTR, hTC, ⟨mz, lc, od, bt, hSS⟩, hJ⟩ := id hD
  obtain ⟨⟨ft, h15, hft⟩, hUo⟩ := id hU
  obtain ⟨hlim, hOV, hdn4, hdg, hUV⟩ := id hV
  have hlb : bnd lim := ⟨by omega, by omega⟩
  have hno8 := hOV.1
  have hBV : BookV no dn gn gg dg := ⟨hOV.1, hOV.2, hdn4, hdg⟩
  have hnt := (hUV t ht).1
  have hbzi1 := hbzi.1
  have hbzi2 := hbzi.2
  refine lv_iload_n hx hb dX7_setWish_0 rfl (lv_at hl 1 rfl) ?_
  refine pw_cv w (pw_runS (As := [.int (zI (t : Int))]) (rest := []) w ⟨hx, hb, hml, hown, hts⟩ (c_X7_checkTune l D G ad N c (z := (t : Int)) ⟨by omega, by omega⟩ (by omega)) (va_cwS 1 hts gX7_setWish_X7_checkTune rfl rfl rfl (by decide +kernel) ⟨Nat.le_of_ble_eq_true rfl, Nat.le_of_ble_eq_true rfl⟩) rfl hl.1 rfl (lv_room (Nat.le_of_ble_eq_true rfl)) dX7_setWish_1 ⟨Nat.le_of_ble_eq_true rfl, Nat.le_of_ble_eq_true rfl⟩) (fun u H locs hp w => ?_)
  have hu := hp
  have w : PW D G A s ad N c H locs := by rw [hu] at w; exact w
  clear hu
  refine lv_aload_n hx hb dX7_setWish_4 rfl (lv_at hl 0 rfl) ?_
  refine lv_iload_n hx hb dX7_setWish_5 rfl (lv_at hl 1 rfl) ?_
  refine lv_iload_n hx hb dX7_setWish_6 rfl (lv_at hl 2 rfl) ?_
  exact pw_cx w (pw_runVX (r := 0) (ci := 7) (As := [.int (zI (t : Int)), .int (zI zi)]) (rest := []) w ⟨hx, hb, hml, hown, hts⟩ (x_X7_checkGap l hsT D G ad N c (t := t) (z := zi) hN hD hV ht ⟨by omega, by omega⟩ (by omega)) (cwV 2 hts gX7_setWish_X7_checkGap rfl rfl rfl (by decide +kernel) ⟨Nat.le_of_ble_eq_true rfl, Nat.le_of_ble_eq_true rfl⟩) (by omega) h0 rfl rfl hl.1 rfl (lv_room (Nat.le_of_ble_eq_true rfl)) dX7_setWish_7 ⟨Nat.le_of_ble_eq_true rfl, Nat.le_of_ble_eq_true rfl⟩) (fun u ce q9 H locs hp w hce hcv hcl => pw_out hno hlk w u rfl ⟨by rw [show u = c from hp]; exact hD, fun q hq => by rw [show u = c from hp]⟩ hce hcv hcl (Nat.le_of_ble_eq_true rfl) (Nat.le_of_ble_eq_true rfl))

theorem hin_X7_notes_7 : ∀ w ∈ u_ws RX7 TX7 5, w ∈ wsX7_notes := by decide +kernel
theorem fl_X7_notes_25 : Cond.fieldLink RX7 25 "PipersDesk" "tunes" "[LPipersDesk$Tune;" ∈ wsX7_notes := by decide +kernel
abbrev rm_X7_notes : Room := { frames := 7, cells := 0, slots := 0, locals := 210 }
set_option maxHeartbeats 4000000 in
set_option maxRecDepth 100000 in
theorem c_X7_notes (l : Launch) (D : va_G) (G : Nat → ClassId) (ad : Nat → Nat) (N : Nat) (c : Nat → va_E) {lim : Int} {no dn : Nat} {gn : Nat → Nat} {gg : Nat → Nat → Nat} {dg nn : Nat → Nat} {pt ln : Nat → Nat → Nat} {wi : Nat → Nat → Int} (hN : 120 + 2 * no ≤ N) (hD : DK G ad c lim no dn gn gg dg nn pt ln wi) (hV : SV lim no dn gn gg dg nn pt ln wi) {t : Nat} (ht : t < 4) : MC l yX7_notes wsX7_notes rm_X7_notes [.ref (ad 0), .int (zI (t : Int))] D G ad N c (qI D G (fx ad N) (fun v c1 => v = zI (nn t : Int) ∧ DK G ad c1 lim no dn gn gg dg nn pt ln wi ∧ ∀ q, (120 ≤ q ∧ q < 120) → c1 q = c q)) 0 0 := by
  refine MCi.of (cc := cX7_notes) (maxL := 2) (by decide) rfl (Nat.le_of_ble_eq_true rfl) ?_
  intro p e s m args below meth kc A Q hx hb hts hown hml fin H locs w ls hl
  have hown : s.vm.findClass RX7 = some m.cls := hown
  have hl : lv_has ls 2 [(0, .ref (ad 0)), (1, .int (zI (t : Int)))] := hl
  obtain ⟨h0, hF, hB, hU, hTR, hTC, ⟨mz, lc, od, bt, hSS⟩, hJ⟩ := id hD
  obtain ⟨⟨ft, h15, hft⟩, hUo⟩ := id hU
  obtain ⟨hlim, hOV, hdn4, hdg, hUV⟩ := id hV
  have hlb : bnd lim := ⟨by omega, by omega⟩
  have hno8 := hOV.1
  have hBV : BookV no dn gn gg dg := ⟨hOV.1, hOV.2, hdn4, hdg⟩
  have hnt := (hUV t ht).1
  refine lv_iload_n hx hb dX7_notes_0 rfl (lv_at hl 1 rfl) ?_
  refine pw_cv w (pw_runS (As := [.int (zI (t : Int))]) (rest := []) w ⟨hx, hb, hml, hown, hts⟩ (c_X7_checkTune l D G ad N c (z := (t : Int)) ⟨by omega, by omega⟩ (by omega)) (va_cwS 1 hts gX7_notes_X7_checkTune rfl rfl rfl (by decide +kernel) ⟨Nat.le_of_ble_eq_true rfl, Nat.le_of_ble_eq_true rfl⟩) rfl hl.1 rfl (lv_room (Nat.le_of_ble_eq_true rfl)) dX7_notes_1 ⟨Nat.le_of_ble_eq_true rfl, Nat.le_of_ble_eq_true rfl⟩) (fun u H locs hp w => ?_)
  have hu := hp
  have w : PW D G A s ad N c H locs := by rw [hu] at w; exact w
  clear hu
  refine lv_aload_n hx hb dX7_notes_4 rfl (lv_at hl 0 rfl) ?_
  refine pw_get (r := 0) (ci := 7) (C := RX7) (T := TX7) (Nf := 5) hx hb w hts hin_X7_notes_7 hown (by omega) h0 rfl 2 (by decide) (hts _ fl_X7_notes_25) (fun _ h9 => h9) rfl dX7_notes_5 ?_
  refine lv_iload_n hx hb dX7_notes_8 rfl (lv_at hl 1 rfl) ?_
  refine pw_aaldR (r := 15) (j := t) hx hb w (by omega) h15 rfl rfl (by omega) (by omega) (by decide) (16 + 14 * t) (hft t (by omega)) dX7_notes_9 ?_
  refine pw_ci w (pw_runV (r := (16 + 14 * t)) (ci := 5) (As := []) (rest := []) w ⟨hx, hb, hml, hown, hts⟩ (c_X5_size l D G ad N c (T := 16 + 14 * t) (n := nn t) ⟨by omega, by omega⟩ (by omega) (hUo t ht) (hUV t ht)) (cwV 0 hts gX7_notes_X5_size rfl rfl rfl (by decide +kernel) ⟨Nat.le_of_ble_eq_true rfl, Nat.le_of_ble_eq_true rfl⟩) (by omega) (hUo t (by omega)).1 rfl rfl hl.1 rfl (lv_room (Nat.le_of_ble_eq_true rfl)) dX7_notes_10 ⟨Nat.le_of_ble_eq_true rfl, Nat.le_of_ble_eq_true rfl⟩) (fun r_ u H locs hp w => ?_)
  obtain ⟨hv, hu⟩ := hp
  subst hv
  have w : PW D G A s ad N c H locs := by rw [hu] at w; exact w
  clear hu
  exact fin (ad, N, c) c _ _ _ _ _ _ _ rfl ⟨rfl, hD, (fun _ _ => rfl)⟩ w dX7_notes_13 (Nat.le_refl _) (Nat.le_refl _)

abbrev rx_X7_notes : Room := { frames := 7, cells := 1, slots := 6, locals := 210 }
set_option maxHeartbeats 4000000 in
set_option maxRecDepth 100000 in
theorem x_X7_notes (l : Launch) (hsT : l.stackTraces = false) (D : va_G) (G : Nat → ClassId) (ad : Nat → Nat) (N : Nat) (c : Nat → va_E) {lim : Int} {no dn : Nat} {gn : Nat → Nat} {gg : Nat → Nat → Nat} {dg nn : Nat → Nat} {pt ln : Nat → Nat → Nat} {wi : Nat → Nat → Int} (hN : 120 + 2 * no ≤ N) (hD : DK G ad c lim no dn gn gg dg nn pt ln wi) (hV : SV lim no dn gn gg dg nn pt ln wi) {zt : Int} (hbzt : bnd zt) (hbad : ¬ (0 ≤ zt ∧ zt ≤ 3)) : MX l yX7_notes wsX7_notes rx_X7_notes [.ref (ad 0), .int (zI zt)] D G ad N c xIA (fx ad N) (fun c1 => DK G ad c1 lim no dn gn gg dg nn pt ln wi ∧ ∀ q, (120 ≤ q ∧ q < 120) → c1 q = c q) 1 6 := by
  refine MX.of (cc := cX7_notes) (maxL := 2) (ret := (some .int)) (by decide) rfl (Nat.le_of_ble_eq_true rfl) ?_
  intro p e s m below meth kc A hx hb hr hts hown hml hlk hno w ls hl
  have hown : s.vm.findClass RX7 = some m.cls := hown
  have hl : lv_has ls 2 [(0, .ref (ad 0)), (1, .int (zI zt))] := hl
  obtain ⟨h0, hF, hB, hU, hTR, hTC, ⟨mz, lc, od, bt, hSS⟩, hJ⟩ := id hD
  obtain ⟨⟨ft, h15, hft⟩, hUo⟩ := id hU
  obtain ⟨hlim, hOV, hdn4, hdg, hUV⟩ := id hV
  have hlb : bnd lim := ⟨by omega, by omega⟩
  have hno8 := hOV.1
  have hBV : BookV no dn gn gg dg := ⟨hOV.1, hOV.2, hdn4, hdg⟩
  have hbzt1 := hbzt.1
  have hbzt2 := hbzt.2
  refine lv_iload_n hx hb dX7_notes_0 rfl (lv_at hl 1 rfl) ?_
  exact pw_cx w (pw_runSX (As := [.int (zI zt)]) (rest := []) w ⟨hx, hb, hml, hown, hts⟩ (x_X7_checkTune l hsT D G ad N c (z := zt) ⟨by omega, by omega⟩ (by omega)) (va_cwS 1 hts gX7_notes_X7_checkTune rfl rfl rfl (by decide +kernel) ⟨Nat.le_of_ble_eq_true rfl, Nat.le_of_ble_eq_true rfl⟩) rfl hl.1 rfl (lv_room (Nat.le_of_ble_eq_true rfl)) dX7_notes_1 ⟨Nat.le_of_ble_eq_true rfl, Nat.le_of_ble_eq_true rfl⟩) (fun u ce q9 H locs hp w hce hcv hcl => pw_out hno hlk w u rfl ⟨by rw [show u = c from hp]; exact hD, fun q hq => by rw [show u = c from hp]⟩ hce hcv hcl (Nat.le_of_ble_eq_true rfl) (Nat.le_of_ble_eq_true rfl))
