/-- the model between two calls -/
def MS (G : Nat → ClassId) (ad : Nat → Nat) (c : Nat → va_E) (th lim : Int) (no dn : Nat) (gn : Nat → Nat) (gg : Nat → Nat → Nat) (dg nn : Nat → Nat) (pt ln : Nat → Nat → Nat) (wi : Nat → Nat → Int) : Prop :=
  (∃ row : Int, c 120 = .inr (8, moV ad th lim (no : Int) (dn : Int) row)) ∧ isA 0 G (c 121) 9 closedN ∧ MoB G c no gn gg ∧ isA 0 G (c 124) 4 (fun j => (dg j : Int)) ∧ MoT G c nn pt ln wi ∧ MoR G c
/-- the numbers of a state are as they may be -/
def SV (lim : Int) (no dn : Nat) (gn : Nat → Nat) (gg : Nat → Nat → Nat) (dg nn : Nat → Nat) (pt ln : Nat → Nat → Nat) (wi : Nat → Nat → Int) : Prop := (0 ≤ lim ∧ lim ≤ 8) ∧ OV no gn gg ∧ dn ≤ 4 ∧ (∀ j, j < dn → dg j ≤ 10) ∧ TusV nn pt ln wi
theorem MoR.fr {G : Nat → ClassId} {c c1 : Nat → va_E} (h : MoR G c) (hf : ∀ q, 129 ≤ q → q < 137 → c1 q = c q) : MoR G c1 := by
  obtain ⟨⟨g1, h1⟩, ⟨g2, h2⟩, ⟨g3, h3⟩, ⟨g4, h4⟩, ⟨g5, h5⟩, ⟨g6, h6⟩, ⟨g7, h7⟩, g8, h8⟩ := h
  exact ⟨⟨g1, isA.fr (hf _ (by omega) (by omega)) h1⟩, ⟨g2, isA.fr (hf _ (by omega) (by omega)) h2⟩, ⟨g3, isA.fr (hf _ (by omega) (by omega)) h3⟩, ⟨g4, isA.fr (hf _ (by omega) (by omega)) h4⟩, ⟨g5, isA.fr (hf _ (by omega) (by omega)) h5⟩, ⟨g6, isA.fr (hf _ (by omega) (by omega)) h6⟩, ⟨g7, isA.fr (hf _ (by omega) (by omega)) h7⟩, g8, isA.fr (hf _ (by omega) (by omega)) h8⟩
theorem MS.to {G : Nat → ClassId} {ad : Nat → Nat} {c c1 : Nat → va_E} {th th1 lim lim1 row1 : Int} {no dn : Nat} {gn : Nat → Nat} {gg : Nat → Nat → Nat} {dg nn : Nat → Nat} {pt ln : Nat → Nat → Nat} {wi : Nat → Nat → Int} (h : MS G ad c th lim no dn gn gg dg nn pt ln wi) (h1 : c1 120 = .inr (8, moV ad th1 lim1 (no : Int) (dn : Int) row1)) (hf : ∀ q, q ≠ 120 → c1 q = c q) : MS G ad c1 th1 lim1 no dn gn gg dg nn pt ln wi := by
  obtain ⟨-, h2, h3, h4, h5, h6⟩ := h
  exact ⟨⟨row1, h1⟩, isA.fr (hf _ (by omega)) h2, h3.fr (hf _ (by omega)) (hf _ (by omega)), isA.fr (hf _ (by omega)) h4, h5.fr (fun q _ _ => hf q (by omega)), h6.fr (fun q _ _ => hf q (by omega))⟩
theorem MS.laid {G : Nat → ClassId} {ad : Nat → Nat} {c c1 : Nat → va_E} {th lim : Int} {no dn : Nat} {gn : Nat → Nat} {gg : Nat → Nat → Nat} {dg nn : Nat → Nat} {pt ln : Nat → Nat → Nat} {wi : Nat → Nat → Int} {n : Nat} {p l : Nat → Nat} {w : Nat → Int} (h : MS G ad c th lim no dn gn gg dg nn pt ln wi) (hL : Laid G ad c1 th lim no (dn : Int) gn gg n p l w) (hf : ∀ q, (q < 120 ∨ (121 ≤ q ∧ q < 129) ∨ 135 ≤ q) → c1 q = c q) : MS G ad c1 th lim no dn gn gg dg nn pt ln wi := by
  obtain ⟨-, h2, h3, h4, h5, h6⟩ := h
  exact ⟨⟨_, hL.1⟩, isA.fr (hf _ (by omega)) h2, h3.fr (hf _ (by omega)) (hf _ (by omega)), isA.fr (hf _ (by omega)) h4, h5.fr (fun q _ _ => hf q (by omega)), hL.R h6 (hf _ (by omega)) (hf _ (by omega))⟩

abbrev rm_X8_cost : Room := { frames := 2, cells := 0, slots := 0, locals := 60 }
set_option maxHeartbeats 4000000 in
set_option maxRecDepth 100000 in
/-- X8_cost_ok -/
theorem c_X8_cost_ok (l : Launch) (D : va_G) (G : Nat → ClassId) (ad : Nat → Nat) (N : Nat) (c : Nat → va_E) {th lim : Int} {no dn : Nat} {gn : Nat → Nat} {gg : Nat → Nat → Nat} {dg nn : Nat → Nat} {pt ln : Nat → Nat → Nat} {wi : Nat → Nat → Int} (hN : 139 ≤ N) (hS : MS G ad c th lim no dn gn gg dg nn pt ln wi) (hV : SV lim no dn gn gg dg nn pt ln wi) {x y : Nat} (hx9 : x < 9) (hy9 : y < 9) : MC l yX8_cost wsX8_cost rm_X8_cost [.ref (ad 120), .int (zI (x : Int)), .int (zI (y : Int))] D G ad N c (qI D G (fx ad N) (fun v c1 => v = zI (mv x y) ∧ MS G ad c1 0 lim no dn gn gg dg nn pt ln wi ∧ ∀ q, (q < 120 ∨ 137 ≤ q) → c1 q = c q)) 0 0 := by
  refine MCi.of (cc := cX8_cost) (maxL := 3) (by decide) rfl (Nat.le_of_ble_eq_true rfl) ?_
  intro p e s m args below meth kc A Q hx hb hts hown hml fin H locs w ls hl
  have hown : s.vm.findClass RX8 = some m.cls := hown
  have hl : lv_has ls 3 [(0, .ref (ad 120)), (1, .int (zI (x : Int))), (2, .int (zI (y : Int)))] := hl
  obtain ⟨⟨row, hm⟩, hh, hB, hDr, hMT, hMR⟩ := id hS
  obtain ⟨hlim, hOV, hdn4, hdg, hUV⟩ := id hV
  have hlb : bnd lim := ⟨by omega, by omega⟩
  have hno8 := hOV.1
  refine lv_aload_n hx hb dX8_cost_0 rfl (lv_at hl 0 rfl) ?_
  refine lv_iload_n hx hb dX8_cost_1 rfl (lv_at hl 1 rfl) ?_
  refine pw_ci w (pw_runS (As := [.int (zI (x : Int))]) (rest := [.ref (ad 120)]) w ⟨hx, hb, hml, hown, hts⟩ (c_X8_isPitch l D G ad N c (v := (x : Int)) ⟨by omega, by omega⟩) (va_cwS 1 hts gX8_cost_X8_isPitch rfl rfl rfl (by decide +kernel) ⟨Nat.le_of_ble_eq_true rfl, Nat.le_of_ble_eq_true rfl⟩) rfl hl.1 rfl (lv_room (Nat.le_of_ble_eq_true rfl)) dX8_cost_2 ⟨Nat.le_of_ble_eq_true rfl, Nat.le_of_ble_eq_true rfl⟩) (fun r_ u H locs hp w => ?_)
  obtain ⟨hv, hu⟩ := hp
  subst hv
  have w : PW D G A s ad N c H locs := by rw [hu] at w; exact w
  clear hu
  refine pz_top (b := 1) (if_pos (by omega)) ?_
  refine pz_ifeq (tgt := 19) hx hb dX8_cost_5 (by decide) (⟨by omega, by omega⟩) (fun h1 => ?_) (fun h1 => ?_)
  · omega
  · refine lv_iload_n hx hb dX8_cost_8 rfl (lv_at hl 2 rfl) ?_
    refine pw_ci w (pw_runS (As := [.int (zI (y : Int))]) (rest := [.ref (ad 120)]) w ⟨hx, hb, hml, hown, hts⟩ (c_X8_isPitch l D G ad N c (v := (y : Int)) ⟨by omega, by omega⟩) (va_cwS 1 hts gX8_cost_X8_isPitch rfl rfl rfl (by decide +kernel) ⟨Nat.le_of_ble_eq_true rfl, Nat.le_of_ble_eq_true rfl⟩) rfl hl.1 rfl (lv_room (Nat.le_of_ble_eq_true rfl)) dX8_cost_9 ⟨Nat.le_of_ble_eq_true rfl, Nat.le_of_ble_eq_true rfl⟩) (fun r_ u H locs hp w => ?_)
    obtain ⟨hv, hu⟩ := hp
    subst hv
    have w : PW D G A s ad N c H locs := by rw [hu] at w; exact w
    clear hu
    refine pz_top (b := 1) (if_pos (by omega)) ?_
    refine pz_ifeq (tgt := 19) hx hb dX8_cost_12 (by decide) (⟨by omega, by omega⟩) (fun h2 => ?_) (fun h2 => ?_)
    · omega
    · refine lv_iconst (v := zI (0)) hx hb dX8_cost_15 rfl ?_
      refine lv_goto (tgt := 20) hx hb dX8_cost_16 (by decide) ?_
      refine pw_ci w (pw_runV (r := 120) (ci := 8) (As := [.int (zI 0)]) (rest := []) w ⟨hx, hb, hml, hown, hts⟩ (c_X8_goesWell l D G ad N c (pl := 0) hN hm ⟨by decide, by decide⟩) (cwV 1 hts gX8_cost_X8_goesWell rfl rfl rfl (by decide +kernel) ⟨Nat.le_of_ble_eq_true rfl, Nat.le_of_ble_eq_true rfl⟩) (by omega) hm rfl rfl hl.1 rfl (lv_room (Nat.le_of_ble_eq_true rfl)) dX8_cost_20 ⟨Nat.le_of_ble_eq_true rfl, Nat.le_of_ble_eq_true rfl⟩) (fun r_ c3 H locs hp w => ?_)
      have w : PW D G A s ad N c3 H locs := w
      obtain ⟨hv3, hm3, fr3⟩ := hp
      subst hv3
      refine pz_top (b := 1) (if_pos (by omega)) ?_
      have hS3 := hS.to hm3 fr3
      have hm := hm3
      obtain ⟨-, hh, hB, hDr, hMT, hMR⟩ := id hS3
      refine pz_ifeq (tgt := 35) hx hb dX8_cost_23 (by decide) (⟨by omega, by omega⟩) (fun h4 => ?_) (fun h4 => ?_)
      · omega
      · refine lv_aload_n hx hb dX8_cost_26 rfl (lv_at hl 0 rfl) ?_
        refine lv_iload_n hx hb dX8_cost_27 rfl (lv_at hl 1 rfl) ?_
        refine lv_iload_n hx hb dX8_cost_28 rfl (lv_at hl 2 rfl) ?_
        refine pw_ci w (pw_runV (r := 120) (ci := 8) (As := [.int (zI (x : Int)), .int (zI (y : Int))]) (rest := []) w ⟨hx, hb, hml, hown, hts⟩ (c_X8_costOf l D G ad N c3 (x := x) (y := y) hN hm hh hx9 hy9) (cwV 2 hts gX8_cost_X8_costOf rfl rfl rfl (by decide +kernel) ⟨Nat.le_of_ble_eq_true rfl, Nat.le_of_ble_eq_true rfl⟩) (by omega) hm rfl rfl hl.1 rfl (lv_room (Nat.le_of_ble_eq_true rfl)) dX8_cost_29 ⟨Nat.le_of_ble_eq_true rfl, Nat.le_of_ble_eq_true rfl⟩) (fun r_ u H locs hp w => ?_)
        obtain ⟨hv, hu⟩ := hp
        subst hv
        have w : PW D G A s ad N c3 H locs := by rw [hu] at w; exact w
        clear hu
        refine lv_goto (tgt := 36) hx hb dX8_cost_32 (by decide) ?_
        exact fin (ad, N, c3) c3 _ _ _ _ _ _ _ rfl ⟨rfl, hS3, fun q hq => ((fr3 q (by omega)).trans rfl)⟩ w dX8_cost_36 (Nat.le_refl _) (Nat.le_refl _)

set_option maxHeartbeats 4000000 in
set_option maxRecDepth 100000 in
/-- X8_cost_bad -/
theorem c_X8_cost_bad (l : Launch) (D : va_G) (G : Nat → ClassId) (ad : Nat → Nat) (N : Nat) (c : Nat → va_E) {th lim : Int} {no dn : Nat} {gn : Nat → Nat} {gg : Nat → Nat → Nat} {dg nn : Nat → Nat} {pt ln : Nat → Nat → Nat} {wi : Nat → Nat → Int} (hN : 139 ≤ N) (hS : MS G ad c th lim no dn gn gg dg nn pt ln wi) (hV : SV lim no dn gn gg dg nn pt ln wi) {zx zy : Int} (hbzx : bnd zx) (hbzy : bnd zy) (hbad : ¬ ((0 ≤ zx ∧ zx ≤ 8) ∧ 0 ≤ zy ∧ zy ≤ 8)) : MC l yX8_cost wsX8_cost rm_X8_cost [.ref (ad 120), .int (zI zx), .int (zI zy)] D G ad N c (qI D G (fx ad N) (fun v c1 => v = zI 0 ∧ MS G ad c1 1 lim no dn gn gg dg nn pt ln wi ∧ ∀ q, (q < 120 ∨ 137 ≤ q) → c1 q = c q)) 0 0 := by
  refine MCi.of (cc := cX8_cost) (maxL := 3) (by decide) rfl (Nat.le_of_ble_eq_true rfl) ?_
  intro p e s m args below meth kc A Q hx hb hts hown hml fin H locs w ls hl
  have hown : s.vm.findClass RX8 = some m.cls := hown
  have hl : lv_has ls 3 [(0, .ref (ad 120)), (1, .int (zI zx)), (2, .int (zI zy))] := hl
  obtain ⟨⟨row, hm⟩, hh, hB, hDr, hMT, hMR⟩ := id hS
  obtain ⟨hlim, hOV, hdn4, hdg, hUV⟩ := id hV
  have hlb : bnd lim := ⟨by omega, by omega⟩
  have hno8 := hOV.1
  have hbzx1 := hbzx.1
  have hbzx2 := hbzx.2
  have hbzy1 := hbzy.1
  have hbzy2 := hbzy.2
  refine lv_aload_n hx hb dX8_cost_0 rfl (lv_at hl 0 rfl) ?_
  refine lv_iload_n hx hb dX8_cost_1 rfl (lv_at hl 1 rfl) ?_
  refine pw_ci w (pw_runS (As := [.int (zI zx)]) (rest := [.ref (ad 120)]) w ⟨hx, hb, hml, hown, hts⟩ (c_X8_isPitch l D G ad N c (v := zx) ⟨by omega, by omega⟩) (va_cwS 1 hts gX8_cost_X8_isPitch rfl rfl rfl (by decide +kernel) ⟨Nat.le_of_ble_eq_true rfl, Nat.le_of_ble_eq_true rfl⟩) rfl hl.1 rfl (lv_room (Nat.le_of_ble_eq_true rfl)) dX8_cost_2 ⟨Nat.le_of_ble_eq_true rfl, Nat.le_of_ble_eq_true rfl⟩) (fun r_ u H locs hp w => ?_)
  obtain ⟨hv, hu⟩ := hp
  subst hv
  have w : PW D G A s ad N c H locs := by rw [hu] at w; exact w
  clear hu
  by_cases h1 : 0 ≤ zx ∧ zx ≤ 8
  · refine pz_top (b := 1) (if_pos h1) ?_
    refine pz_ifeq (tgt := 19) hx hb dX8_cost_5 (by decide) (⟨by omega, by omega⟩) (fun h1 => ?_) (fun h1 => ?_)
    · omega
    · refine lv_iload_n hx hb dX8_cost_8 rfl (lv_at hl 2 rfl) ?_
      refine pw_ci w (pw_runS (As := [.int (zI zy)]) (rest := [.ref (ad 120)]) w ⟨hx, hb, hml, hown, hts⟩ (c_X8_isPitch l D G ad N c (v := zy) ⟨by omega, by omega⟩) (va_cwS 1 hts gX8_cost_X8_isPitch rfl rfl rfl (by decide +kernel) ⟨Nat.le_of_ble_eq_true rfl, Nat.le_of_ble_eq_true rfl⟩) rfl hl.1 rfl (lv_room (Nat.le_of_ble_eq_true rfl)) dX8_cost_9 ⟨Nat.le_of_ble_eq_true rfl, Nat.le_of_ble_eq_true rfl⟩) (fun r_ u H locs hp w => ?_)
      obtain ⟨hv, hu⟩ := hp
      subst hv
      have w : PW D G A s ad N c H locs := by rw [hu] at w; exact w
      clear hu
      refine pz_top (b := 0) (if_neg (by omega)) ?_
      refine pz_ifeq (tgt := 19) hx hb dX8_cost_12 (by decide) (⟨by omega, by omega⟩) (fun h2 => ?_) (fun h2 => ?_)
      · refine lv_iconst (v := zI (1)) hx hb dX8_cost_19 rfl ?_
        refine pw_ci w (pw_runV (r := 120) (ci := 8) (As := [.int (zI 1)]) (rest := []) w ⟨hx, hb, hml, hown, hts⟩ (c_X8_goesWell l D G ad N c (pl := 1) hN hm ⟨by decide, by decide⟩) (cwV 1 hts gX8_cost_X8_goesWell rfl rfl rfl (by decide +kernel) ⟨Nat.le_of_ble_eq_true rfl, Nat.le_of_ble_eq_true rfl⟩) (by omega) hm rfl rfl hl.1 rfl (lv_room (Nat.le_of_ble_eq_true rfl)) dX8_cost_20 ⟨Nat.le_of_ble_eq_true rfl, Nat.le_of_ble_eq_true rfl⟩) (fun r_ c3 H locs hp w => ?_)
        have w : PW D G A s ad N c3 H locs := w
        obtain ⟨hv3, hm3, fr3⟩ := hp
        subst hv3
        refine pz_top (b := 0) (if_neg (by omega)) ?_
        have hS3 := hS.to hm3 fr3
        have hm := hm3
        obtain ⟨-, hh, hB, hDr, hMT, hMR⟩ := id hS3
        refine pz_ifeq (tgt := 35) hx hb dX8_cost_23 (by decide) (⟨by omega, by omega⟩) (fun h4 => ?_) (fun h4 => ?_)
        · refine lv_iconst (v := zI (0)) hx hb dX8_cost_35 rfl ?_
          exact fin (ad, N, c3) c3 _ _ _ _ _ _ _ rfl ⟨rfl, hS3, fun q hq => ((fr3 q (by omega)).trans rfl)⟩ w dX8_cost_36 (Nat.le_refl _) (Nat.le_refl _)
        · omega
      · omega
  · refine pz_top (b := 0) (if_neg h1) ?_
    refine pz_ifeq (tgt := 19) hx hb dX8_cost_5 (by decide) (⟨by omega, by omega⟩) (fun h5 => ?_) (fun h5 => ?_)
    · refine lv_iconst (v := zI (1)) hx hb dX8_cost_19 rfl ?_
      refine pw_ci w (pw_runV (r := 120) (ci := 8) (As := [.int (zI 1)]) (rest := []) w ⟨hx, hb, hml, hown, hts⟩ (c_X8_goesWell l D G ad N c (pl := 1) hN hm ⟨by decide, by decide⟩) (cwV 1 hts gX8_cost_X8_goesWell rfl rfl rfl (by decide +kernel) ⟨Nat.le_of_ble_eq_true rfl, Nat.le_of_ble_eq_true rfl⟩) (by omega) hm rfl rfl hl.1 rfl (lv_room (Nat.le_of_ble_eq_true rfl)) dX8_cost_20 ⟨Nat.le_of_ble_eq_true rfl, Nat.le_of_ble_eq_true rfl⟩) (fun r_ c6 H locs hp w => ?_)
      have w : PW D G A s ad N c6 H locs := w
      obtain ⟨hv6, hm6, fr6⟩ := hp
      subst hv6
      refine pz_top (b := 0) (if_neg (by omega)) ?_
      have hS6 := hS.to hm6 fr6
      have hm := hm6
      obtain ⟨-, hh, hB, hDr, hMT, hMR⟩ := id hS6
      refine pz_ifeq (tgt := 35) hx hb dX8_cost_23 (by decide) (⟨by omega, by omega⟩) (fun h7 => ?_) (fun h7 => ?_)
      · refine lv_iconst (v := zI (0)) hx hb dX8_cost_35 rfl ?_
        exact fin (ad, N, c6) c6 _ _ _ _ _ _ _ rfl ⟨rfl, hS6, fun q hq => ((fr6 q (by omega)).trans rfl)⟩ w dX8_cost_36 (Nat.le_refl _) (Nat.le_refl _)
      · omega
    · omega

abbrev rm_X8_isBarred : Room := { frames := 2, cells := 0, slots := 0, locals := 60 }
set_option maxHeartbeats 4000000 in
set_option maxRecDepth 100000 in
/-- X8_isBarred_ok -/
theorem c_X8_isBarred_ok (l : Launch) (D : va_G) (G : Nat → ClassId) (ad : Nat → Nat) (N : Nat) (c : Nat → va_E) {th lim : Int} {no dn : Nat} {gn : Nat → Nat} {gg : Nat → Nat → Nat} {dg nn : Nat → Nat} {pt ln : Nat → Nat → Nat} {wi : Nat → Nat → Int} (hN : 139 ≤ N) (hS : MS G ad c th lim no dn gn gg dg nn pt ln wi) (hV : SV lim no dn gn gg dg nn pt ln wi) {x y : Nat} (hx9 : x < 9) (hy9 : y < 9) : MC l yX8_isBarred wsX8_isBarred rm_X8_isBarred [.ref (ad 120), .int (zI (x : Int)), .int (zI (y : Int))] D G ad N c (qI D G (fx ad N) (fun v c1 => v = zI (if brd lim x y = true then 1 else 0) ∧ MS G ad c1 0 lim no dn gn gg dg nn pt ln wi ∧ ∀ q, (q < 120 ∨ 137 ≤ q) → c1 q = c q)) 0 0 := by
  refine MCz.of (cc := cX8_isBarred) (maxL := 3) (by decide) rfl (Nat.le_of_ble_eq_true rfl) ?_
  intro p e s m args below meth kc A Q hx hb hts hown hml fin H locs w ls hl
  have hown : s.vm.findClass RX8 = some m.cls := hown
  have hl : lv_has ls 3 [(0, .ref (ad 120)), (1, .int (zI (x : Int))), (2, .int (zI (y : Int)))] := hl
  obtain ⟨⟨row, hm⟩, hh, hB, hDr, hMT, hMR⟩ := id hS
  obtain ⟨hlim, hOV, hdn4, hdg, hUV⟩ := id hV
  have hlb : bnd lim := ⟨by omega, by omega⟩
  have hno8 := hOV.1
  refine lv_aload_n hx hb dX8_isBarred_0 rfl (lv_at hl 0 rfl) ?_
  refine lv_iload_n hx hb dX8_isBarred_1 rfl (lv_at hl 1 rfl) ?_
  refine pw_ci w (pw_runS (As := [.int (zI (x : Int))]) (rest := [.ref (ad 120)]) w ⟨hx, hb, hml, hown, hts⟩ (c_X8_isPitch l D G ad N c (v := (x : Int)) ⟨by omega, by omega⟩) (va_cwS 1 hts gX8_isBarred_X8_isPitch rfl rfl rfl (by decide +kernel) ⟨Nat.le_of_ble_eq_true rfl, Nat.le_of_ble_eq_true rfl⟩) rfl hl.1 rfl (lv_room (Nat.le_of_ble_eq_true rfl)) dX8_isBarred_2 ⟨Nat.le_of_ble_eq_true rfl, Nat.le_of_ble_eq_true rfl⟩) (fun r_ u H locs hp w => ?_)
  obtain ⟨hv, hu⟩ := hp
  subst hv
  have w : PW D G A s ad N c H locs := by rw [hu] at w; exact w
  clear hu
  refine pz_top (b := 1) (if_pos (by omega)) ?_
  refine pz_ifeq (tgt := 19) hx hb dX8_isBarred_5 (by decide) (⟨by omega, by omega⟩) (fun h1 => ?_) (fun h1 => ?_)
  · omega
  · refine lv_iload_n hx hb dX8_isBarred_8 rfl (lv_at hl 2 rfl) ?_
    refine pw_ci w (pw_runS (As := [.int (zI (y : Int))]) (rest := [.ref (ad 120)]) w ⟨hx, hb, hml, hown, hts⟩ (c_X8_isPitch l D G ad N c (v := (y : Int)) ⟨by omega, by omega⟩) (va_cwS 1 hts gX8_isBarred_X8_isPitch rfl rfl rfl (by decide +kernel) ⟨Nat.le_of_ble_eq_true rfl, Nat.le_of_ble_eq_true rfl⟩) rfl hl.1 rfl (lv_room (Nat.le_of_ble_eq_true rfl)) dX8_isBarred_9 ⟨Nat.le_of_ble_eq_true rfl, Nat.le_of_ble_eq_true rfl⟩) (fun r_ u H locs hp w => ?_)
    obtain ⟨hv, hu⟩ := hp
    subst hv
    have w : PW D G A s ad N c H locs := by rw [hu] at w; exact w
    clear hu
    refine pz_top (b := 1) (if_pos (by omega)) ?_
    refine pz_ifeq (tgt := 19) hx hb dX8_isBarred_12 (by decide) (⟨by omega, by omega⟩) (fun h2 => ?_) (fun h2 => ?_)
    · omega
    · refine lv_iconst (v := zI (0)) hx hb dX8_isBarred_15 rfl ?_
      refine lv_goto (tgt := 20) hx hb dX8_isBarred_16 (by decide) ?_
      refine pw_ci w (pw_runV (r := 120) (ci := 8) (As := [.int (zI 0)]) (rest := []) w ⟨hx, hb, hml, hown, hts⟩ (c_X8_goesWell l D G ad N c (pl := 0) hN hm ⟨by decide, by decide⟩) (cwV 1 hts gX8_isBarred_X8_goesWell rfl rfl rfl (by decide +kernel) ⟨Nat.le_of_ble_eq_true rfl, Nat.le_of_ble_eq_true rfl⟩) (by omega) hm rfl rfl hl.1 rfl (lv_room (Nat.le_of_ble_eq_true rfl)) dX8_isBarred_20 ⟨Nat.le_of_ble_eq_true rfl, Nat.le_of_ble_eq_true rfl⟩) (fun r_ c3 H locs hp w => ?_)
      have w : PW D G A s ad N c3 H locs := w
      obtain ⟨hv3, hm3, fr3⟩ := hp
      subst hv3
      refine pz_top (b := 1) (if_pos (by omega)) ?_
      have hS3 := hS.to hm3 fr3
      have hm := hm3
      obtain ⟨-, hh, hB, hDr, hMT, hMR⟩ := id hS3
      refine pz_ifeq (tgt := 39) hx hb dX8_isBarred_23 (by decide) (⟨by omega, by omega⟩) (fun h4 => ?_) (fun h4 => ?_)
      · omega
      · refine lv_aload_n hx hb dX8_isBarred_26 rfl (lv_at hl 0 rfl) ?_
        refine lv_iload_n hx hb dX8_isBarred_27 rfl (lv_at hl 1 rfl) ?_
        refine lv_iload_n hx hb dX8_isBarred_28 rfl (lv_at hl 2 rfl) ?_
        refine pw_ci w (pw_runV (r := 120) (ci := 8) (As := [.int (zI (x : Int)), .int (zI (y : Int))]) (rest := []) w ⟨hx, hb, hml, hown, hts⟩ (c_X8_bars l D G ad N c3 (x := x) (y := y) hN hm hh hx9 hy9 hlb) (cwV 2 hts gX8_isBarred_X8_bars rfl rfl rfl (by decide +kernel) ⟨Nat.le_of_ble_eq_true rfl, Nat.le_of_ble_eq_true rfl⟩) (by omega) hm rfl rfl hl.1 rfl (lv_room (Nat.le_of_ble_eq_true rfl)) dX8_isBarred_29 ⟨Nat.le_of_ble_eq_true rfl, Nat.le_of_ble_eq_true rfl⟩) (fun r_ u H locs hp w => ?_)
        obtain ⟨hv, hu⟩ := hp
        subst hv
        have w : PW D G A s ad N c3 H locs := by rw [hu] at w; exact w
        clear hu
        by_cases h9 : brd lim x y = true
        · refine pz_top (b := 1) (if_pos h9) ?_
          refine pz_ifeq (tgt := 39) hx hb dX8_isBarred_32 (by decide) (⟨by omega, by omega⟩) (fun h5 => ?_) (fun h5 => ?_)
          · omega
          · refine lv_iconst (v := zI (1)) hx hb dX8_isBarred_35 rfl ?_
            refine lv_goto (tgt := 40) hx hb dX8_isBarred_36 (by decide) ?_
            exact fin (ad, N, c3) c3 _ _ _ _ _ _ _ rfl (Or.inr rfl) ⟨by rw [if_pos h9], hS3, fun q hq => ((fr3 q (by omega)).trans rfl)⟩ w dX8_isBarred_40 (Nat.le_refl _) (Nat.le_refl _)
        · refine pz_top (b := 0) (if_neg h9) ?_
          refine pz_ifeq (tgt := 39) hx hb dX8_isBarred_32 (by decide) (⟨by omega, by omega⟩) (fun h6 => ?_) (fun h6 => ?_)
          · refine lv_iconst (v := zI (0)) hx hb dX8_isBarred_39 rfl ?_
            exact fin (ad, N, c3) c3 _ _ _ _ _ _ _ rfl (Or.inl rfl) ⟨by rw [if_neg h9], hS3, fun q hq => ((fr3 q (by omega)).trans rfl)⟩ w dX8_isBarred_40 (Nat.le_refl _) (Nat.le_refl _)
          · omega

set_option maxHeartbeats 4000000 in
set_option maxRecDepth 100000 in
/-- X8_isBarred_bad -/
theorem c_X8_isBarred_bad (l : Launch) (D : va_G) (G : Nat → ClassId) (ad : Nat → Nat) (N : Nat) (c : Nat → va_E) {th lim : Int} {no dn : Nat} {gn : Nat → Nat} {gg : Nat → Nat → Nat} {dg nn : Nat → Nat} {pt ln : Nat → Nat → Nat} {wi : Nat → Nat → Int} (hN : 139 ≤ N) (hS : MS G ad c th lim no dn gn gg dg nn pt ln wi) (hV : SV lim no dn gn gg dg nn pt ln wi) {zx zy : Int} (hbzx : bnd zx) (hbzy : bnd zy) (hbad : ¬ ((0 ≤ zx ∧ zx ≤ 8) ∧ 0 ≤ zy ∧ zy ≤ 8)) : MC l yX8_isBarred wsX8_isBarred rm_X8_isBarred [.ref (ad 120), .int (zI zx), .int (zI zy)] D G ad N c (qI D G (fx ad N) (fun v c1 => v = zI 0 ∧ MS G ad c1 1 lim no dn gn gg dg nn pt ln wi ∧ ∀ q, (q < 120 ∨ 137 ≤ q) → c1 q = c q)) 0 0 := by
  refine MCz.of (cc := cX8_isBarred) (maxL := 3) (by decide) rfl (Nat.le_of_ble_eq_true rfl) ?_
  intro p e s m args below meth kc A Q hx hb hts hown hml fin H locs w ls hl
  have hown : s.vm.findClass RX8 = some m.cls := hown
  have hl : lv_has ls 3 [(0, .ref (ad 120)), (1, .int (zI zx)), (2, .int (zI zy))] := hl
  obtain ⟨⟨row, hm⟩, hh, hB, hDr, hMT, hMR⟩ := id hS
  obtain ⟨hlim, hOV, hdn4, hdg, hUV⟩ := id hV
  have hlb : bnd lim := ⟨by omega, by omega⟩
  have hno8 := hOV.1
  have hbzx1 := hbzx.1
  have hbzx2 := hbzx.2
  have hbzy1 := hbzy.1
  have hbzy2 := hbzy.2
  refine lv_aload_n hx hb dX8_isBarred_0 rfl (lv_at hl 0 rfl) ?_
  refine lv_iload_n hx hb dX8_isBarred_1 rfl (lv_at hl 1 rfl) ?_
  refine pw_ci w (pw_runS (As := [.int (zI zx)]) (rest := [.ref (ad 120)]) w ⟨hx, hb, hml, hown, hts⟩ (c_X8_isPitch l D G ad N c (v := zx) ⟨by omega, by omega⟩) (va_cwS 1 hts gX8_isBarred_X8_isPitch rfl rfl rfl (by decide +kernel) ⟨Nat.le_of_ble_eq_true rfl, Nat.le_of_ble_eq_true rfl⟩) rfl hl.1 rfl (lv_room (Nat.le_of_ble_eq_true rfl)) dX8_isBarred_2 ⟨Nat.le_of_ble_eq_true rfl, Nat.le_of_ble_eq_true rfl⟩) (fun r_ u H locs hp w => ?_)
  obtain ⟨hv, hu⟩ := hp
  subst hv
  have w : PW D G A s ad N c H locs := by rw [hu] at w; exact w
  clear hu
  by_cases h1 : 0 ≤ zx ∧ zx ≤ 8
  · refine pz_top (b := 1) (if_pos h1) ?_
    refine pz_ifeq (tgt := 19) hx hb dX8_isBarred_5 (by decide) (⟨by omega, by omega⟩) (fun h1 => ?_) (fun h1 => ?_)
    · omega
    · refine lv_iload_n hx hb dX8_isBarred_8 rfl (lv_at hl 2 rfl) ?_
      refine pw_ci w (pw_runS (As := [.int (zI zy)]) (rest := [.ref (ad 120)]) w ⟨hx, hb, hml, hown, hts⟩ (c_X8_isPitch l D G ad N c (v := zy) ⟨by omega, by omega⟩) (va_cwS 1 hts gX8_isBarred_X8_isPitch rfl rfl rfl (by decide +kernel) ⟨Nat.le_of_ble_eq_true rfl, Nat.le_of_ble_eq_true rfl⟩) rfl hl.1 rfl (lv_room (Nat.le_of_ble_eq_true rfl)) dX8_isBarred_9 ⟨Nat.le_of_ble_eq_true rfl, Nat.le_of_ble_eq_true rfl⟩) (fun r_ u H locs hp w => ?_)
      obtain ⟨hv, hu⟩ := hp
      subst hv
      have w : PW D G A s ad N c H locs := by rw [hu] at w; exact w
      clear hu
      refine pz_top (b := 0) (if_neg (by omega)) ?_
      refine pz_ifeq (tgt := 19) hx hb dX8_isBarred_12 (by decide) (⟨by omega, by omega⟩) (fun h2 => ?_) (fun h2 => ?_)
      · refine lv_iconst (v := zI (1)) hx hb dX8_isBarred_19 rfl ?_
        refine pw_ci w (pw_runV (r := 120) (ci := 8) (As := [.int (zI 1)]) (rest := []) w ⟨hx, hb, hml, hown, hts⟩ (c_X8_goesWell l D G ad N c (pl := 1) hN hm ⟨by decide, by decide⟩) (cwV 1 hts gX8_isBarred_X8_goesWell rfl rfl rfl (by decide +kernel) ⟨Nat.le_of_ble_eq_true rfl, Nat.le_of_ble_eq_true rfl⟩) (by omega) hm rfl rfl hl.1 rfl (lv_room (Nat.le_of_ble_eq_true rfl)) dX8_isBarred_20 ⟨Nat.le_of_ble_eq_true rfl, Nat.le_of_ble_eq_true rfl⟩) (fun r_ c3 H locs hp w => ?_)
        have w : PW D G A s ad N c3 H locs := w
        obtain ⟨hv3, hm3, fr3⟩ := hp
        subst hv3
        refine pz_top (b := 0) (if_neg (by omega)) ?_
        have hS3 := hS.to hm3 fr3
        have hm := hm3
        obtain ⟨-, hh, hB, hDr, hMT, hMR⟩ := id hS3
        refine pz_ifeq (tgt := 39) hx hb dX8_isBarred_23 (by decide) (⟨by omega, by omega⟩) (fun h4 => ?_) (fun h4 => ?_)
        · refine lv_iconst (v := zI (0)) hx hb dX8_isBarred_39 rfl ?_
          exact fin (ad, N, c3) c3 _ _ _ _ _ _ _ rfl (Or.inl rfl) ⟨rfl, hS3, fun q hq => ((fr3 q (by omega)).trans rfl)⟩ w dX8_isBarred_40 (Nat.le_refl _) (Nat.le_refl _)
        · omega
      · omega
  · refine pz_top (b := 0) (if_neg h1) ?_
    refine pz_ifeq (tgt := 19) hx hb dX8_isBarred_5 (by decide) (⟨by omega, by omega⟩) (fun h5 => ?_) (fun h5 => ?_)
    · refine lv_iconst (v := zI (1)) hx hb dX8_isBarred_19 rfl ?_
      refine pw_ci w (pw_runV (r := 120) (ci := 8) (As := [.int (zI 1)]) (rest := []) w ⟨hx, hb, hml, hown, hts⟩ (c_X8_goesWell l D G ad N c (pl := 1) hN hm ⟨by decide, by decide⟩) (cwV 1 hts gX8_isBarred_X8_goesWell rfl rfl rfl (by decide +kernel) ⟨Nat.le_of_ble_eq_true rfl, Nat.le_of_ble_eq_true rfl⟩) (by omega) hm rfl rfl hl.1 rfl (lv_room (Nat.le_of_ble_eq_true rfl)) dX8_isBarred_20 ⟨Nat.le_of_ble_eq_true rfl, Nat.le_of_ble_eq_true rfl⟩) (fun r_ c6 H locs hp w => ?_)
      have w : PW D G A s ad N c6 H locs := w
      obtain ⟨hv6, hm6, fr6⟩ := hp
      subst hv6
      refine pz_top (b := 0) (if_neg (by omega)) ?_
      have hS6 := hS.to hm6 fr6
      have hm := hm6
      obtain ⟨-, hh, hB, hDr, hMT, hMR⟩ := id hS6
      refine pz_ifeq (tgt := 39) hx hb dX8_isBarred_23 (by decide) (⟨by omega, by omega⟩) (fun h7 => ?_) (fun h7 => ?_)
      · refine lv_iconst (v := zI (0)) hx hb dX8_isBarred_39 rfl ?_
        exact fin (ad, N, c6) c6 _ _ _ _ _ _ _ rfl (Or.inl rfl) ⟨rfl, hS6, fun q hq => ((fr6 q (by omega)).trans rfl)⟩ w dX8_isBarred_40 (Nat.le_refl _) (Nat.le_refl _)
      · omega
    · omega

abbrev rm_X8_setLimit : Room := { frames := 2, cells := 0, slots := 0, locals := 60 }
set_option maxHeartbeats 4000000 in
set_option maxRecDepth 100000 in
/-- X8_setLimit_bad -/
theorem c_X8_setLimit_bad (l : Launch) (D : va_G) (G : Nat → ClassId) (ad : Nat → Nat) (N : Nat) (c : Nat → va_E) {th lim : Int} {no dn : Nat} {gn : Nat → Nat} {gg : Nat → Nat → Nat} {dg nn : Nat → Nat} {pt ln : Nat → Nat → Nat} {wi : Nat → Nat → Int} (hN : 139 ≤ N) (hS : MS G ad c th lim no dn gn gg dg nn pt ln wi) (hV : SV lim no dn gn gg dg nn pt ln wi) {zx : Int} (hbzx : bnd zx) (hbad : ¬ (0 ≤ zx ∧ zx ≤ 8)) : MC l yX8_setLimit wsX8_setLimit rm_X8_setLimit [.ref (ad 120), .int (zI zx)] D G ad N c (qI D G (fx ad N) (fun v c1 => v = zI 0 ∧ MS G ad c1 1 lim no dn gn gg dg nn pt ln wi ∧ ∀ q, (q < 120 ∨ 137 ≤ q) → c1 q = c q)) 0 0 := by
  refine MCi.of (cc := cX8_setLimit) (maxL := 5) (by decide) rfl (Nat.le_of_ble_eq_true rfl) ?_
  intro p e s m args below meth kc A Q hx hb hts hown hml fin H locs w ls hl
  have hown : s.vm.findClass RX8 = some m.cls := hown
  have hl : lv_has ls 5 [(0, .ref (ad 120)), (1, .int (zI zx))] := hl
  obtain ⟨⟨row, hm⟩, hh, hB, hDr, hMT, hMR⟩ := id hS
  obtain ⟨hlim, hOV, hdn4, hdg, hUV⟩ := id hV
  have hlb : bnd lim := ⟨by omega, by omega⟩
  have hno8 := hOV.1
  have hbzx1 := hbzx.1
  have hbzx2 := hbzx.2
  refine lv_aload_n hx hb dX8_setLimit_0 rfl (lv_at hl 0 rfl) ?_
  refine lv_iload_n hx hb dX8_setLimit_1 rfl (lv_at hl 1 rfl) ?_
  refine lv_iconst (v := zI (0)) hx hb dX8_setLimit_2 rfl ?_
  refine lv_bipush (v := zI (8)) hx hb dX8_setLimit_3 (by decide +kernel) ?_
  refine pw_ci w (pw_runS (As := [.int (zI zx), .int (zI 0), .int (zI 8)]) (rest := [.ref (ad 120)]) w ⟨hx, hb, hml, hown, hts⟩ (c_X8_in l D G ad N c (v := zx) (lo := 0) (hi := 8) ⟨by omega, by omega⟩ ⟨by omega, by omega⟩ ⟨by omega, by omega⟩) (va_cwS 3 hts gX8_setLimit_X8_in rfl rfl rfl (by decide +kernel) ⟨Nat.le_of_ble_eq_true rfl, Nat.le_of_ble_eq_true rfl⟩) rfl hl.1 rfl (lv_room (Nat.le_of_ble_eq_true rfl)) dX8_setLimit_5 ⟨Nat.le_of_ble_eq_true rfl, Nat.le_of_ble_eq_true rfl⟩) (fun r_ u H locs hp w => ?_)
  obtain ⟨hv, hu⟩ := hp
  subst hv
  have w : PW D G A s ad N c H locs := by rw [hu] at w; exact w
  clear hu
  refine pz_top (b := 0) (if_neg (by omega)) ?_
  refine pz_ifeq (tgt := 15) hx hb dX8_setLimit_8 (by decide) (⟨by omega, by omega⟩) (fun h1 => ?_) (fun h1 => ?_)
  · refine lv_iconst (v := zI (1)) hx hb dX8_setLimit_15 rfl ?_
    refine pw_ci w (pw_runV (r := 120) (ci := 8) (As := [.int (zI 1)]) (rest := []) w ⟨hx, hb, hml, hown, hts⟩ (c_X8_goesWell l D G ad N c (pl := 1) hN hm ⟨by decide, by decide⟩) (cwV 1 hts gX8_setLimit_X8_goesWell rfl rfl rfl (by decide +kernel) ⟨Nat.le_of_ble_eq_true rfl, Nat.le_of_ble_eq_true rfl⟩) (by omega) hm rfl rfl hl.1 rfl (lv_room (Nat.le_of_ble_eq_true rfl)) dX8_setLimit_16 ⟨Nat.le_of_ble_eq_true rfl, Nat.le_of_ble_eq_true rfl⟩) (fun r_ c2 H locs hp w => ?_)
    have w : PW D G A s ad N c2 H locs := w
    obtain ⟨hv2, hm2, fr2⟩ := hp
    subst hv2
    refine pz_top (b := 0) (if_neg (by omega)) ?_
    have hS2 := hS.to hm2 fr2
    have hm := hm2
    obtain ⟨-, hh, hB, hDr, hMT, hMR⟩ := id hS2
    refine pz_ifne (tgt := 24) hx hb dX8_setLimit_19 (by decide) (⟨by omega, by omega⟩) (fun h3 => ?_) (fun h3 => ?_)
    · omega
    · refine lv_iconst (v := zI (0)) hx hb dX8_setLimit_22 rfl ?_
      exact fin (ad, N, c2) c2 _ _ _ _ _ _ _ rfl ⟨rfl, hS2, fun q hq => ((fr2 q (by omega)).trans rfl)⟩ w dX8_setLimit_23 (Nat.le_refl _) (Nat.le_refl _)
  · omega

theorem hin_X8_setLimit_8 : ∀ w ∈ u_ws RX8 TX8 21, w ∈ wsX8_setLimit := by decide +kernel
theorem fl_X8_setLimit_13 : Cond.fieldLink RX8 13 "PipersDeskModel" "limit" "I" ∈ wsX8_setLimit := by decide +kernel
set_option maxHeartbeats 4000000 in
set_option maxRecDepth 100000 in
/-- setLimit -/
theorem c_X8_setLimit_ok (l : Launch) (D : va_G) (G : Nat → ClassId) (ad : Nat → Nat) (N : Nat) (c : Nat → va_E) {th lim : Int} {no dn : Nat} {gn : Nat → Nat} {gg : Nat → Nat → Nat} {dg nn : Nat → Nat} {pt ln : Nat → Nat → Nat} {wi : Nat → Nat → Int} (hN : 139 ≤ N) (hS : MS G ad c th lim no dn gn gg dg nn pt ln wi) (hV : SV lim no dn gn gg dg nn pt ln wi) {zx : Int} (hbzx : bnd zx) (hok : 0 ≤ zx ∧ zx ≤ 8) : MC l yX8_setLimit wsX8_setLimit rm_X8_setLimit [.ref (ad 120), .int (zI zx)] D G ad N c (qI D G (fx ad N) (fun v c1 => v = zI (brdAll zx 9) ∧ MS G ad c1 0 zx no dn gn gg dg nn pt ln wi ∧ ∀ q, (q < 120 ∨ 137 ≤ q) → c1 q = c q)) 0 0 := by
  refine MCi.of (cc := cX8_setLimit) (maxL := 5) (by decide) rfl (Nat.le_of_ble_eq_true rfl) ?_
  intro p e s m args below meth kc A Q hx hb hts hown hml fin H locs w ls hl
  have hown : s.vm.findClass RX8 = some m.cls := hown
  have hl : lv_has ls 5 [(0, .ref (ad 120)), (1, .int (zI zx))] := hl
  obtain ⟨⟨row, hm⟩, hh, hB, hDr, hMT, hMR⟩ := id hS
  obtain ⟨hlim, hOV, hdn4, hdg, hUV⟩ := id hV
  have hlb : bnd lim := ⟨by omega, by omega⟩
  have hno8 := hOV.1
  have hbzx1 := hbzx.1
  have hbzx2 := hbzx.2
  refine lv_aload_n hx hb dX8_setLimit_0 rfl (lv_at hl 0 rfl) ?_
  refine lv_iload_n hx hb dX8_setLimit_1 rfl (lv_at hl 1 rfl) ?_
  refine lv_iconst (v := zI (0)) hx hb dX8_setLimit_2 rfl ?_
  refine lv_bipush (v := zI (8)) hx hb dX8_setLimit_3 (by decide +kernel) ?_
  refine pw_ci w (pw_runS (As := [.int (zI zx), .int (zI 0), .int (zI 8)]) (rest := [.ref (ad 120)]) w ⟨hx, hb, hml, hown, hts⟩ (c_X8_in l D G ad N c (v := zx) (lo := 0) (hi := 8) ⟨by omega, by omega⟩ ⟨by omega, by omega⟩ ⟨by omega, by omega⟩) (va_cwS 3 hts gX8_setLimit_X8_in rfl rfl rfl (by decide +kernel) ⟨Nat.le_of_ble_eq_true rfl, Nat.le_of_ble_eq_true rfl⟩) rfl hl.1 rfl (lv_room (Nat.le_of_ble_eq_true rfl)) dX8_setLimit_5 ⟨Nat.le_of_ble_eq_true rfl, Nat.le_of_ble_eq_true rfl⟩) (fun r_ u H locs hp w => ?_)
  obtain ⟨hv, hu⟩ := hp
  subst hv
  have w : PW D G A s ad N c H locs := by rw [hu] at w; exact w
  clear hu
  refine pz_top (b := 1) (if_pos (by omega)) ?_
  refine pz_ifeq (tgt := 15) hx hb dX8_setLimit_8 (by decide) (⟨by omega, by omega⟩) (fun h1 => ?_) (fun h1 => ?_)
  · omega
  · refine lv_iconst (v := zI (0)) hx hb dX8_setLimit_11 rfl ?_
    refine lv_goto (tgt := 16) hx hb dX8_setLimit_12 (by decide) ?_
    refine pw_ci w (pw_runV (r := 120) (ci := 8) (As := [.int (zI 0)]) (rest := []) w ⟨hx, hb, hml, hown, hts⟩ (c_X8_goesWell l D G ad N c (pl := 0) hN hm ⟨by decide, by decide⟩) (cwV 1 hts gX8_setLimit_X8_goesWell rfl rfl rfl (by decide +kernel) ⟨Nat.le_of_ble_eq_true rfl, Nat.le_of_ble_eq_true rfl⟩) (by omega) hm rfl rfl hl.1 rfl (lv_room (Nat.le_of_ble_eq_true rfl)) dX8_setLimit_16 ⟨Nat.le_of_ble_eq_true rfl, Nat.le_of_ble_eq_true rfl⟩) (fun r_ c2 H locs hp w => ?_)
    have w : PW D G A s ad N c2 H locs := w
    obtain ⟨hv2, hm2, fr2⟩ := hp
    subst hv2
    refine pz_top (b := 1) (if_pos (by omega)) ?_
    have hS2 := hS.to hm2 fr2
    have hm := hm2
    obtain ⟨-, hh, hB, hDr, hMT, hMR⟩ := id hS2
    refine pz_ifne (tgt := 24) hx hb dX8_setLimit_19 (by decide) (⟨by omega, by omega⟩) (fun h3 => ?_) (fun h3 => ?_)
    · refine lv_aload_n hx hb dX8_setLimit_24 rfl (lv_at hl 0 rfl) ?_
      refine lv_iload_n hx hb dX8_setLimit_25 rfl (lv_at hl 1 rfl) ?_
      refine pw_put' (r := 120) (ci := 8) (C := RX8) (T := TX8) (Nf := 21) hx hb w hts hin_X8_setLimit_8 tyX8 tyX8_ok nmX8 hown (by omega) hm rfl 2 (by decide) (hts _ fl_X8_setLimit_13) (fun _ h9 => h9) rfl (ty := .int) (by decide +kernel) rfl rfl (Nat.le_of_ble_eq_true rfl) dX8_setLimit_26 (fun H locs c4 hc4 fr4 w => ?_)
      refine lv_iconst (v := zI (0)) hx hb dX8_setLimit_29 rfl ?_
      refine lv_istore_n (lv' := [(2, .int (zI 0)), (0, .ref (ad 120)), (1, .int (zI zx))]) hx hb dX8_setLimit_30 rfl hl (by decide) rfl (fun ls hl => ?_)
      refine lv_iconst (v := zI (0)) hx hb dX8_setLimit_31 rfl ?_
      refine lv_istore_n (lv' := [(3, .int (zI 0)), (2, .int (zI 0)), (0, .ref (ad 120)), (1, .int (zI zx))]) hx hb dX8_setLimit_32 rfl hl (by decide) rfl (fun ls hl => ?_)
      have hS9 := hS2.to hc4 fr4
      obtain ⟨⟨row9, hm9⟩, hh9, -⟩ := id hS9
      have lp : ∀ (f i : Nat) (H : Heap) (locs : List Loc) (ls : Array Slot), i ≤ 9 → 9 < i + f → PW D G A s ad N c4 H locs → lv_has ls 5 [(0, .ref (ad 120)), (1, .int (zI zx)), (2, .int (zI (brdAll zx i))), (3, .int (zI (i : Int)))] → W p l e rm_X8_setLimit s m args below meth kc H locs 0 0 Q (F0 m 33 ls []) := by
        intro f
        induction f with
        | zero => intro i H locs ls h9 hfu w hl; omega
        | succ f ih =>
          intro i H locs ls h9 hfu w hl
          refine lv_iload_n hx hb dX8_setLimit_33 rfl (lv_at hl 3 rfl) ?_
          refine lv_bipush (v := zI (9)) hx hb dX8_setLimit_34 (by decide +kernel) ?_
          refine pz_icmpge (tgt := 79) hx hb dX8_setLimit_36 (by decide) (⟨by omega, by omega⟩) (⟨by omega, by omega⟩) (fun hi => ?_) (fun hi => ?_)
          · have i9 : i = 9 := by omega
            rw [i9] at hl
            refine lv_iload_n hx hb dX8_setLimit_79 rfl (lv_at hl 2 rfl) ?_
            exact fin (ad, N, c4) c4 _ _ _ _ _ _ _ rfl ⟨rfl, hS9, fun q hq => ((fr4 q (by omega)).trans ((fr2 q (by omega)).trans rfl))⟩ w dX8_setLimit_80 (Nat.le_refl _) (Nat.le_refl _)
          · refine lv_iconst (v := zI (0)) hx hb dX8_setLimit_39 rfl ?_
            refine lv_istore (lv' := [(4, .int (zI 0)), (0, .ref (ad 120)), (1, .int (zI zx)), (2, .int (zI (brdAll zx i))), (3, .int (zI (i : Int)))]) hx hb dX8_setLimit_40 hl (by decide) rfl (fun ls hl => ?_)
            have lq : ∀ (f2 j : Nat) (H : Heap) (locs : List Loc) (ls : Array Slot), j ≤ 9 → 9 < j + f2 → PW D G A s ad N c4 H locs → lv_has ls 5 [(0, .ref (ad 120)), (1, .int (zI zx)), (2, .int (zI (brdAll zx i + brdRow zx i j))), (3, .int (zI (i : Int))), (4, .int (zI (j : Int)))] → W p l e rm_X8_setLimit s m args below meth kc H locs 0 0 Q (F0 m 42 ls []) := by
              intro f2
              induction f2 with
              | zero => intro j H locs ls h9j hfu w hl; omega
              | succ f2 ih2 =>
                intro j H locs ls h9j hfu w hl
                refine lv_iload hx hb dX8_setLimit_42 (lv_at hl 4 rfl) ?_
                refine lv_bipush (v := zI (9)) hx hb dX8_setLimit_44 (by decide +kernel) ?_
                refine pz_icmpge (tgt := 73) hx hb dX8_setLimit_46 (by decide) (⟨by omega, by omega⟩) (⟨by omega, by omega⟩) (fun hj => ?_) (fun hj => ?_)
                · have j9 : j = 9 := by omega
                  rw [j9] at hl
                  have hl : lv_has ls 5 [(0, .ref (ad 120)), (1, .int (zI zx)), (2, .int (zI (brdAll zx (i + 1)))), (3, .int (zI (i : Int))), (4, .int (zI ((9 : Nat) : Int)))] := hl
                  refine pz_iinc (lv' := [(3, .int (zI ((i + 1 : Nat) : Int))), (0, .ref (ad 120)), (1, .int (zI zx)), (2, .int (zI (brdAll zx (i + 1)))), (4, .int (zI ((9 : Nat) : Int)))]) hx hb dX8_setLimit_73 hl (j := 3) rfl ((i + 1 : Nat) : Int) (by omega) (by decide) rfl (fun ls hl => ?_)
                  refine lv_goto (tgt := 33) hx hb dX8_setLimit_76 (by decide) ?_
                  exact ih (i + 1) H locs ls (by omega) (by omega) w (lv_sub hl [1, 2, 3, 0] rfl)
                · refine lv_iload_n hx hb dX8_setLimit_49 rfl (lv_at hl 2 rfl) ?_
                  refine lv_aload_n hx hb dX8_setLimit_50 rfl (lv_at hl 0 rfl) ?_
                  refine lv_iload_n hx hb dX8_setLimit_51 rfl (lv_at hl 3 rfl) ?_
                  refine lv_iload hx hb dX8_setLimit_52 (lv_at hl 4 rfl) ?_
                  refine pw_ci w (pw_runV (r := 120) (ci := 8) (As := [.int (zI (i : Int)), .int (zI (j : Int))]) (rest := [.int (zI (brdAll zx i + brdRow zx i j))]) w ⟨hx, hb, hml, hown, hts⟩ (c_X8_bars l D G ad N c4 (lim := zx) (x := i) (y := j) hN hm9 hh9 (by omega) (by omega) hbzx) (cwV 2 hts gX8_setLimit_X8_bars rfl rfl rfl (by decide +kernel) ⟨Nat.le_of_ble_eq_true rfl, Nat.le_of_ble_eq_true rfl⟩) (by omega) hc4 rfl rfl hl.1 rfl (lv_room (Nat.le_of_ble_eq_true rfl)) dX8_setLimit_54 ⟨Nat.le_of_ble_eq_true rfl, Nat.le_of_ble_eq_true rfl⟩) (fun r_ u H locs hp w => ?_)
                  obtain ⟨hv, hu⟩ := hp
                  subst hv
                  have w : PW D G A s ad N c4 H locs := by rw [hu] at w; exact w
                  clear hu
                  by_cases h9 : brd zx i j = true
                  · refine pz_top (b := 1) (if_pos h9) ?_
                    refine pz_ifeq (tgt := 64) hx hb dX8_setLimit_57 (by decide) (⟨by omega, by omega⟩) (fun h5 => ?_) (fun h5 => ?_)
                    · omega
                    · refine lv_iconst (v := zI (1)) hx hb dX8_setLimit_60 rfl ?_
                      refine lv_goto (tgt := 65) hx hb dX8_setLimit_61 (by decide) ?_
                      refine pz_iadd hx hb dX8_setLimit_65 ?_
                      refine pz_top (b := (brdAll zx i + brdRow zx i (j + 1))) (by rw [brdRow, if_pos h9]; omega) ?_
                      refine lv_istore_n (lv' := [(2, .int (zI (brdAll zx i + brdRow zx i (j + 1)))), (0, .ref (ad 120)), (1, .int (zI zx)), (3, .int (zI (i : Int))), (4, .int (zI (j : Int)))]) hx hb dX8_setLimit_66 rfl hl (by decide) rfl (fun ls hl => ?_)
                      refine pz_iinc (lv' := [(4, .int (zI ((j + 1 : Nat) : Int))), (2, .int (zI (brdAll zx i + brdRow zx i (j + 1)))), (0, .ref (ad 120)), (1, .int (zI zx)), (3, .int (zI (i : Int)))]) hx hb dX8_setLimit_67 hl (j := 4) rfl ((j + 1 : Nat) : Int) (by omega) (by decide) rfl (fun ls hl => ?_)
                      refine lv_goto (tgt := 42) hx hb dX8_setLimit_70 (by decide) ?_
                      exact ih2 (j + 1) H locs ls (by omega) (by omega) w (lv_sub hl [2, 3, 1, 4, 0] rfl)
                  · refine pz_top (b := 0) (if_neg h9) ?_
                    refine pz_ifeq (tgt := 64) hx hb dX8_setLimit_57 (by decide) (⟨by omega, by omega⟩) (fun h6 => ?_) (fun h6 => ?_)
                    · refine lv_iconst (v := zI (0)) hx hb dX8_setLimit_64 rfl ?_
                      refine pz_iadd hx hb dX8_setLimit_65 ?_
                      refine pz_top (b := (brdAll zx i + brdRow zx i (j + 1))) (by rw [brdRow, if_neg h9]; omega) ?_
                      refine lv_istore_n (lv' := [(2, .int (zI (brdAll zx i + brdRow zx i (j + 1)))), (0, .ref (ad 120)), (1, .int (zI zx)), (3, .int (zI (i : Int))), (4, .int (zI (j : Int)))]) hx hb dX8_setLimit_66 rfl hl (by decide) rfl (fun ls hl => ?_)
                      refine pz_iinc (lv' := [(4, .int (zI ((j + 1 : Nat) : Int))), (2, .int (zI (brdAll zx i + brdRow zx i (j + 1)))), (0, .ref (ad 120)), (1, .int (zI zx)), (3, .int (zI (i : Int)))]) hx hb dX8_setLimit_67 hl (j := 4) rfl ((j + 1 : Nat) : Int) (by omega) (by decide) rfl (fun ls hl => ?_)
                      refine lv_goto (tgt := 42) hx hb dX8_setLimit_70 (by decide) ?_
                      exact ih2 (j + 1) H locs ls (by omega) (by omega) w (lv_sub hl [2, 3, 1, 4, 0] rfl)
                    · omega
            exact lq 10 0 H locs ls (by omega) (by omega) w (by rw [show (brdAll zx i + brdRow zx i 0) = brdAll zx i from by simp [brdRow]]; exact (lv_sub hl [1, 2, 3, 4, 0] rfl))
      exact lp 10 0 H locs ls (by omega) (by omega) w (by rw [show brdAll zx 0 = 0 from rfl]; exact (lv_sub hl [2, 3, 1, 0] rfl))
    · omega

abbrev rm_X8_grace : Room := { frames := 2, cells := 0, slots := 0, locals := 60 }
set_option maxHeartbeats 4000000 in
set_option maxRecDepth 100000 in
/-- X8_grace_bad1 -/
theorem c_X8_grace_bad1 (l : Launch) (D : va_G) (G : Nat → ClassId) (ad : Nat → Nat) (N : Nat) (c : Nat → va_E) {th lim : Int} {no dn : Nat} {gn : Nat → Nat} {gg : Nat → Nat → Nat} {dg nn : Nat → Nat} {pt ln : Nat → Nat → Nat} {wi : Nat → Nat → Int} (hN : 139 ≤ N) (hS : MS G ad c th lim no dn gn gg dg nn pt ln wi) (hV : SV lim no dn gn gg dg nn pt ln wi) {zx : Int} (hbzx : bnd zx) (hbad : ¬ (0 ≤ zx ∧ zx ≤ 10)) : MC l yX8_grace wsX8_grace rm_X8_grace [.ref (ad 120), .int (zI zx)] D G ad N c (qI D G (fx ad N) (fun v c1 => v = zI 0 ∧ MS G ad c1 1 lim no dn gn gg dg nn pt ln wi ∧ ∀ q, (q < 120 ∨ 137 ≤ q) → c1 q = c q)) 0 0 := by
  refine MCi.of (cc := cX8_grace) (maxL := 2) (by decide) rfl (Nat.le_of_ble_eq_true rfl) ?_
  intro p e s m args below meth kc A Q hx hb hts hown hml fin H locs w ls hl
  have hown : s.vm.findClass RX8 = some m.cls := hown
  have hl : lv_has ls 2 [(0, .ref (ad 120)), (1, .int (zI zx))] := hl
  obtain ⟨⟨row, hm⟩, hh, hB, hDr, hMT, hMR⟩ := id hS
  obtain ⟨hlim, hOV, hdn4, hdg, hUV⟩ := id hV
  have hlb : bnd lim := ⟨by omega, by omega⟩
  have hno8 := hOV.1
  have hbzx1 := hbzx.1
  have hbzx2 := hbzx.2
  refine lv_aload_n hx hb dX8_grace_0 rfl (lv_at hl 0 rfl) ?_
  refine lv_iload_n hx hb dX8_grace_1 rfl (lv_at hl 1 rfl) ?_
  refine lv_iconst (v := zI (0)) hx hb dX8_grace_2 rfl ?_
  refine lv_bipush (v := zI (10)) hx hb dX8_grace_3 (by decide +kernel) ?_
  refine pw_ci w (pw_runS (As := [.int (zI zx), .int (zI 0), .int (zI 10)]) (rest := [.ref (ad 120)]) w ⟨hx, hb, hml, hown, hts⟩ (c_X8_in l D G ad N c (v := zx) (lo := 0) (hi := 10) ⟨by omega, by omega⟩ ⟨by omega, by omega⟩ ⟨by omega, by omega⟩) (va_cwS 3 hts gX8_grace_X8_in rfl rfl rfl (by decide +kernel) ⟨Nat.le_of_ble_eq_true rfl, Nat.le_of_ble_eq_true rfl⟩) rfl hl.1 rfl (lv_room (Nat.le_of_ble_eq_true rfl)) dX8_grace_5 ⟨Nat.le_of_ble_eq_true rfl, Nat.le_of_ble_eq_true rfl⟩) (fun r_ u H locs hp w => ?_)
  obtain ⟨hv, hu⟩ := hp
  subst hv
  have w : PW D G A s ad N c H locs := by rw [hu] at w; exact w
  clear hu
  refine pz_top (b := 0) (if_neg (by omega)) ?_
  refine pz_ifne (tgt := 15) hx hb dX8_grace_8 (by decide) (⟨by omega, by omega⟩) (fun h1 => ?_) (fun h1 => ?_)
  · omega
  · refine lv_iconst (v := zI (1)) hx hb dX8_grace_11 rfl ?_
    refine lv_goto (tgt := 28) hx hb dX8_grace_12 (by decide) ?_
    refine pw_ci w (pw_runV (r := 120) (ci := 8) (As := [.int (zI 1)]) (rest := []) w ⟨hx, hb, hml, hown, hts⟩ (c_X8_goesWell l D G ad N c (pl := 1) hN hm ⟨by decide, by decide⟩) (cwV 1 hts gX8_grace_X8_goesWell rfl rfl rfl (by decide +kernel) ⟨Nat.le_of_ble_eq_true rfl, Nat.le_of_ble_eq_true rfl⟩) (by omega) hm rfl rfl hl.1 rfl (lv_room (Nat.le_of_ble_eq_true rfl)) dX8_grace_28 ⟨Nat.le_of_ble_eq_true rfl, Nat.le_of_ble_eq_true rfl⟩) (fun r_ c2 H locs hp w => ?_)
    have w : PW D G A s ad N c2 H locs := w
    obtain ⟨hv2, hm2, fr2⟩ := hp
    subst hv2
    refine pz_top (b := 0) (if_neg (by omega)) ?_
    have hS2 := hS.to hm2 fr2
    have hm := hm2
    obtain ⟨-, hh, hB, hDr, hMT, hMR⟩ := id hS2
    refine pz_ifne (tgt := 36) hx hb dX8_grace_31 (by decide) (⟨by omega, by omega⟩) (fun h3 => ?_) (fun h3 => ?_)
    · omega
    · refine lv_iconst (v := zI (0)) hx hb dX8_grace_34 rfl ?_
      exact fin (ad, N, c2) c2 _ _ _ _ _ _ _ rfl ⟨rfl, hS2, fun q hq => ((fr2 q (by omega)).trans rfl)⟩ w dX8_grace_35 (Nat.le_refl _) (Nat.le_refl _)

theorem hin_X8_grace_8 : ∀ w ∈ u_ws RX8 TX8 21, w ∈ wsX8_grace := by decide +kernel
theorem fl_X8_grace_85 : Cond.fieldLink RX8 85 "PipersDeskModel" "drafted" "I" ∈ wsX8_grace := by decide +kernel
set_option maxHeartbeats 4000000 in
set_option maxRecDepth 100000 in
/-- X8_grace_bad2 -/
theorem c_X8_grace_bad2 (l : Launch) (D : va_G) (G : Nat → ClassId) (ad : Nat → Nat) (N : Nat) (c : Nat → va_E) {th lim : Int} {no dn : Nat} {gn : Nat → Nat} {gg : Nat → Nat → Nat} {dg nn : Nat → Nat} {pt ln : Nat → Nat → Nat} {wi : Nat → Nat → Int} (hN : 139 ≤ N) (hS : MS G ad c th lim no dn gn gg dg nn pt ln wi) (hV : SV lim no dn gn gg dg nn pt ln wi) {g : Nat} (hg10 : g ≤ 10) (hfull : dn = 4) : MC l yX8_grace wsX8_grace rm_X8_grace [.ref (ad 120), .int (zI (g : Int))] D G ad N c (qI D G (fx ad N) (fun v c1 => v = zI 0 ∧ MS G ad c1 2 lim no dn gn gg dg nn pt ln wi ∧ ∀ q, (q < 120 ∨ 137 ≤ q) → c1 q = c q)) 0 0 := by
  refine MCi.of (cc := cX8_grace) (maxL := 2) (by decide) rfl (Nat.le_of_ble_eq_true rfl) ?_
  intro p e s m args below meth kc A Q hx hb hts hown hml fin H locs w ls hl
  have hown : s.vm.findClass RX8 = some m.cls := hown
  have hl : lv_has ls 2 [(0, .ref (ad 120)), (1, .int (zI (g : Int)))] := hl
  obtain ⟨⟨row, hm⟩, hh, hB, hDr, hMT, hMR⟩ := id hS
  obtain ⟨hlim, hOV, hdn4, hdg, hUV⟩ := id hV
  have hlb : bnd lim := ⟨by omega, by omega⟩
  have hno8 := hOV.1
  refine lv_aload_n hx hb dX8_grace_0 rfl (lv_at hl 0 rfl) ?_
  refine lv_iload_n hx hb dX8_grace_1 rfl (lv_at hl 1 rfl) ?_
  refine lv_iconst (v := zI (0)) hx hb dX8_grace_2 rfl ?_
  refine lv_bipush (v := zI (10)) hx hb dX8_grace_3 (by decide +kernel) ?_
  refine pw_ci w (pw_runS (As := [.int (zI (g : Int)), .int (zI 0), .int (zI 10)]) (rest := [.ref (ad 120)]) w ⟨hx, hb, hml, hown, hts⟩ (c_X8_in l D G ad N c (v := (g : Int)) (lo := 0) (hi := 10) ⟨by omega, by omega⟩ ⟨by omega, by omega⟩ ⟨by omega, by omega⟩) (va_cwS 3 hts gX8_grace_X8_in rfl rfl rfl (by decide +kernel) ⟨Nat.le_of_ble_eq_true rfl, Nat.le_of_ble_eq_true rfl⟩) rfl hl.1 rfl (lv_room (Nat.le_of_ble_eq_true rfl)) dX8_grace_5 ⟨Nat.le_of_ble_eq_true rfl, Nat.le_of_ble_eq_true rfl⟩) (fun r_ u H locs hp w => ?_)
  obtain ⟨hv, hu⟩ := hp
  subst hv
  have w : PW D G A s ad N c H locs := by rw [hu] at w; exact w
  clear hu
  refine pz_top (b := 1) (if_pos (by omega)) ?_
  refine pz_ifne (tgt := 15) hx hb dX8_grace_8 (by decide) (⟨by omega, by omega⟩) (fun h1 => ?_) (fun h1 => ?_)
  · refine lv_aload_n hx hb dX8_grace_15 rfl (lv_at hl 0 rfl) ?_
    refine pw_get (r := 120) (ci := 8) (C := RX8) (T := TX8) (Nf := 21) hx hb w hts hin_X8_grace_8 hown (by omega) hm rfl 7 (by decide) (hts _ fl_X8_grace_85) (fun _ h9 => h9) rfl dX8_grace_16 ?_
    refine lv_iconst (v := zI (4)) hx hb dX8_grace_19 rfl ?_
    refine pz_icmpne (tgt := 27) hx hb dX8_grace_20 (by decide) (⟨by omega, by omega⟩) (⟨by omega, by omega⟩) (fun h2 => ?_) (fun h2 => ?_)
    · omega
    · refine lv_iconst (v := zI (2)) hx hb dX8_grace_23 rfl ?_
      refine lv_goto (tgt := 28) hx hb dX8_grace_24 (by decide) ?_
      refine pw_ci w (pw_runV (r := 120) (ci := 8) (As := [.int (zI 2)]) (rest := []) w ⟨hx, hb, hml, hown, hts⟩ (c_X8_goesWell l D G ad N c (pl := 2) hN hm ⟨by decide, by decide⟩) (cwV 1 hts gX8_grace_X8_goesWell rfl rfl rfl (by decide +kernel) ⟨Nat.le_of_ble_eq_true rfl, Nat.le_of_ble_eq_true rfl⟩) (by omega) hm rfl rfl hl.1 rfl (lv_room (Nat.le_of_ble_eq_true rfl)) dX8_grace_28 ⟨Nat.le_of_ble_eq_true rfl, Nat.le_of_ble_eq_true rfl⟩) (fun r_ c3 H locs hp w => ?_)
      have w : PW D G A s ad N c3 H locs := w
      obtain ⟨hv3, hm3, fr3⟩ := hp
      subst hv3
      refine pz_top (b := 0) (if_neg (by omega)) ?_
      have hS3 := hS.to hm3 fr3
      have hm := hm3
      obtain ⟨-, hh, hB, hDr, hMT, hMR⟩ := id hS3
      refine pz_ifne (tgt := 36) hx hb dX8_grace_31 (by decide) (⟨by omega, by omega⟩) (fun h4 => ?_) (fun h4 => ?_)
      · omega
      · refine lv_iconst (v := zI (0)) hx hb dX8_grace_34 rfl ?_
        exact fin (ad, N, c3) c3 _ _ _ _ _ _ _ rfl ⟨rfl, hS3, fun q hq => ((fr3 q (by omega)).trans rfl)⟩ w dX8_grace_35 (Nat.le_refl _) (Nat.le_refl _)
  · omega

theorem fl_X8_grace_23 : Cond.fieldLink RX8 23 "PipersDeskModel" "draft" "[I" ∈ wsX8_grace := by decide +kernel
set_option maxHeartbeats 4000000 in
set_option maxRecDepth 100000 in
/-- grace -/
theorem c_X8_grace_ok (l : Launch) (D : va_G) (G : Nat → ClassId) (ad : Nat → Nat) (N : Nat) (c : Nat → va_E) {th lim : Int} {no dn : Nat} {gn : Nat → Nat} {gg : Nat → Nat → Nat} {dg nn : Nat → Nat} {pt ln : Nat → Nat → Nat} {wi : Nat → Nat → Int} (hN : 139 ≤ N) (hS : MS G ad c th lim no dn gn gg dg nn pt ln wi) (hV : SV lim no dn gn gg dg nn pt ln wi) {g : Nat} (hg10 : g ≤ 10) (hd : dn < 4) : MC l yX8_grace wsX8_grace rm_X8_grace [.ref (ad 120), .int (zI (g : Int))] D G ad N c (qI D G (fx ad N) (fun v c1 => v = zI ((dn + 1 : Nat) : Int) ∧ MS G ad c1 0 lim no (dn + 1) gn gg (fun j => if j = dn then g else dg j) nn pt ln wi ∧ ∀ q, (q < 120 ∨ 137 ≤ q) → c1 q = c q)) 0 0 := by
  refine MCi.of (cc := cX8_grace) (maxL := 2) (by decide) rfl (Nat.le_of_ble_eq_true rfl) ?_
  intro p e s m args below meth kc A Q hx hb hts hown hml fin H locs w ls hl
  have hown : s.vm.findClass RX8 = some m.cls := hown
  have hl : lv_has ls 2 [(0, .ref (ad 120)), (1, .int (zI (g : Int)))] := hl
  obtain ⟨⟨row, hm⟩, hh, hB, hDr, hMT, hMR⟩ := id hS
  obtain ⟨hlim, hOV, hdn4, hdg, hUV⟩ := id hV
  have hlb : bnd lim := ⟨by omega, by omega⟩
  have hno8 := hOV.1
  refine lv_aload_n hx hb dX8_grace_0 rfl (lv_at hl 0 rfl) ?_
  refine lv_iload_n hx hb dX8_grace_1 rfl (lv_at hl 1 rfl) ?_
  refine lv_iconst (v := zI (0)) hx hb dX8_grace_2 rfl ?_
  refine lv_bipush (v := zI (10)) hx hb dX8_grace_3 (by decide +kernel) ?_
  refine pw_ci w (pw_runS (As := [.int (zI (g : Int)), .int (zI 0), .int (zI 10)]) (rest := [.ref (ad 120)]) w ⟨hx, hb, hml, hown, hts⟩ (c_X8_in l D G ad N c (v := (g : Int)) (lo := 0) (hi := 10) ⟨by omega, by omega⟩ ⟨by omega, by omega⟩ ⟨by omega, by omega⟩) (va_cwS 3 hts gX8_grace_X8_in rfl rfl rfl (by decide +kernel) ⟨Nat.le_of_ble_eq_true rfl, Nat.le_of_ble_eq_true rfl⟩) rfl hl.1 rfl (lv_room (Nat.le_of_ble_eq_true rfl)) dX8_grace_5 ⟨Nat.le_of_ble_eq_true rfl, Nat.le_of_ble_eq_true rfl⟩) (fun r_ u H locs hp w => ?_)
  obtain ⟨hv, hu⟩ := hp
  subst hv
  have w : PW D G A s ad N c H locs := by rw [hu] at w; exact w
  clear hu
  refine pz_top (b := 1) (if_pos (by omega)) ?_
  refine pz_ifne (tgt := 15) hx hb dX8_grace_8 (by decide) (⟨by omega, by omega⟩) (fun h1 => ?_) (fun h1 => ?_)
  · refine lv_aload_n hx hb dX8_grace_15 rfl (lv_at hl 0 rfl) ?_
    refine pw_get (r := 120) (ci := 8) (C := RX8) (T := TX8) (Nf := 21) hx hb w hts hin_X8_grace_8 hown (by omega) hm rfl 7 (by decide) (hts _ fl_X8_grace_85) (fun _ h9 => h9) rfl dX8_grace_16 ?_
    refine lv_iconst (v := zI (4)) hx hb dX8_grace_19 rfl ?_
    refine pz_icmpne (tgt := 27) hx hb dX8_grace_20 (by decide) (⟨by omega, by omega⟩) (⟨by omega, by omega⟩) (fun h2 => ?_) (fun h2 => ?_)
    · refine lv_iconst (v := zI (0)) hx hb dX8_grace_27 rfl ?_
      refine pw_ci w (pw_runV (r := 120) (ci := 8) (As := [.int (zI 0)]) (rest := []) w ⟨hx, hb, hml, hown, hts⟩ (c_X8_goesWell l D G ad N c (pl := 0) hN hm ⟨by decide, by decide⟩) (cwV 1 hts gX8_grace_X8_goesWell rfl rfl rfl (by decide +kernel) ⟨Nat.le_of_ble_eq_true rfl, Nat.le_of_ble_eq_true rfl⟩) (by omega) hm rfl rfl hl.1 rfl (lv_room (Nat.le_of_ble_eq_true rfl)) dX8_grace_28 ⟨Nat.le_of_ble_eq_true rfl, Nat.le_of_ble_eq_true rfl⟩) (fun r_ c3 H locs hp w => ?_)
      have w : PW D G A s ad N c3 H locs := w
      obtain ⟨hv3, hm3, fr3⟩ := hp
      subst hv3
      refine pz_top (b := 1) (if_pos (by omega)) ?_
      have hS3 := hS.to hm3 fr3
      have hm := hm3
      obtain ⟨-, hh, hB, hDr, hMT, hMR⟩ := id hS3
      refine pz_ifne (tgt := 36) hx hb dX8_grace_31 (by decide) (⟨by omega, by omega⟩) (fun h4 => ?_) (fun h4 => ?_)
      · refine lv_aload_n hx hb dX8_grace_36 rfl (lv_at hl 0 rfl) ?_
        refine pw_get (r := 120) (ci := 8) (C := RX8) (T := TX8) (Nf := 21) hx hb w hts hin_X8_grace_8 hown (by omega) hm rfl 6 (by decide) (hts _ fl_X8_grace_23) (fun _ h9 => h9) rfl dX8_grace_37 ?_
        refine lv_aload_n hx hb dX8_grace_40 rfl (lv_at hl 0 rfl) ?_
        refine pw_get (r := 120) (ci := 8) (C := RX8) (T := TX8) (Nf := 21) hx hb w hts hin_X8_grace_8 hown (by omega) hm rfl 7 (by decide) (hts _ fl_X8_grace_85) (fun _ h9 => h9) rfl dX8_grace_41 ?_
        refine lv_iload_n hx hb dX8_grace_44 rfl (lv_at hl 1 rfl) ?_
        refine pw_iast' (r := 124) (j := dn) hx hb w (by omega) hDr (by omega) (by omega) (by decide) dX8_grace_45 (fun H locs c5 hc5 fr5 w => ?_)
        refine lv_aload_n hx hb dX8_grace_46 rfl (lv_at hl 0 rfl) ?_
        refine lv_dup hx hb dX8_grace_47 rfl ?_
        refine pw_get (r := 120) (ci := 8) (C := RX8) (T := TX8) (Nf := 21) hx hb w hts hin_X8_grace_8 hown (by omega) ((fr5 120 (by omega)).trans hm) rfl 7 (by decide) (hts _ fl_X8_grace_85) (fun _ h9 => h9) rfl dX8_grace_48 ?_
        refine lv_iconst (v := zI (1)) hx hb dX8_grace_51 rfl ?_
        refine pz_iadd hx hb dX8_grace_52 ?_
        refine pw_put' (r := 120) (ci := 8) (C := RX8) (T := TX8) (Nf := 21) hx hb w hts hin_X8_grace_8 tyX8 tyX8_ok nmX8 hown (by omega) ((fr5 120 (by omega)).trans hm) rfl 7 (by decide) (hts _ fl_X8_grace_85) (fun _ h9 => h9) rfl (ty := .int) (by decide +kernel) rfl rfl (Nat.le_of_ble_eq_true rfl) dX8_grace_53 (fun H locs c6 hc6 fr6 w => ?_)
        refine lv_aload_n hx hb dX8_grace_56 rfl (lv_at hl 0 rfl) ?_
        refine pw_get (r := 120) (ci := 8) (C := RX8) (T := TX8) (Nf := 21) hx hb w hts hin_X8_grace_8 hown (by omega) hc6 rfl 7 (by decide) (hts _ fl_X8_grace_85) (fun _ h9 => h9) rfl dX8_grace_57 ?_
        have hS9 : MS G ad c6 0 lim no (dn + 1) gn gg (fun j => if j = dn then g else dg j) nn pt ln wi := ⟨⟨row, by rw [show ((dn + 1 : Nat) : Int) = (dn : Int) + 1 from by omega]; exact hc6⟩, isA.fr ((fr6 121 (by omega)).trans ((fr5 121 (by omega)).trans rfl)) hh, hB.fr ((fr6 122 (by omega)).trans ((fr5 122 (by omega)).trans rfl)) ((fr6 123 (by omega)).trans ((fr5 123 (by omega)).trans rfl)), (isA.fr (fr6 124 (by omega)) hc5).to (fun j hj => by unfold upI; by_cases h : j = dn <;> simp [h]), hMT.fr (fun q _ _ => ((fr6 q (by omega)).trans ((fr5 q (by omega)).trans rfl))), hMR.fr (fun q _ _ => ((fr6 q (by omega)).trans ((fr5 q (by omega)).trans rfl)))⟩
        exact fin (ad, N, c6) c6 _ _ _ _ _ _ _ rfl ⟨by rw [show ((dn + 1 : Nat) : Int) = (dn : Int) + 1 from by omega], hS9, fun q hq => ((fr6 q (by omega)).trans ((fr5 q (by omega)).trans ((fr3 q (by omega)).trans rfl)))⟩ w dX8_grace_60 (Nat.le_refl _) (Nat.le_refl _)
      · omega
    · omega
  · omega

theorem hin_X8_ornaments_8 : ∀ w ∈ u_ws RX8 TX8 21, w ∈ wsX8_ornaments := by decide +kernel
theorem fl_X8_ornaments_63 : Cond.fieldLink RX8 63 "PipersDeskModel" "thrown" "I" ∈ wsX8_ornaments := by decide +kernel
theorem fl_X8_ornaments_88 : Cond.fieldLink RX8 88 "PipersDeskModel" "ornaments" "I" ∈ wsX8_ornaments := by decide +kernel
abbrev rm_X8_ornaments : Room := { frames := 1, cells := 0, slots := 0, locals := 30 }
set_option maxHeartbeats 4000000 in
set_option maxRecDepth 100000 in
/-- ornaments -/
theorem c_X8_ornaments (l : Launch) (D : va_G) (G : Nat → ClassId) (ad : Nat → Nat) (N : Nat) (c : Nat → va_E) {th lim : Int} {no dn : Nat} {gn : Nat → Nat} {gg : Nat → Nat → Nat} {dg nn : Nat → Nat} {pt ln : Nat → Nat → Nat} {wi : Nat → Nat → Int} (hN : 139 ≤ N) (hS : MS G ad c th lim no dn gn gg dg nn pt ln wi) (hV : SV lim no dn gn gg dg nn pt ln wi) : MC l yX8_ornaments wsX8_ornaments rm_X8_ornaments [.ref (ad 120)] D G ad N c (qI D G (fx ad N) (fun v c1 => v = zI (no : Int) ∧ MS G ad c1 0 lim no dn gn gg dg nn pt ln wi ∧ ∀ q, (q < 120 ∨ 137 ≤ q) → c1 q = c q)) 0 0 := by
  refine MCi.of (cc := cX8_ornaments) (maxL := 1) (by decide) rfl (Nat.le_of_ble_eq_true rfl) ?_
  intro p e s m args below meth kc A Q hx hb hts hown hml fin H locs w ls hl
  have hown : s.vm.findClass RX8 = some m.cls := hown
  have hl : lv_has ls 1 [(0, .ref (ad 120))] := hl
  obtain ⟨⟨row, hm⟩, hh, hB, hDr, hMT, hMR⟩ := id hS
  obtain ⟨hlim, hOV, hdn4, hdg, hUV⟩ := id hV
  have hlb : bnd lim := ⟨by omega, by omega⟩
  have hno8 := hOV.1
  refine lv_aload_n hx hb dX8_ornaments_0 rfl (lv_at hl 0 rfl) ?_
  refine lv_iconst (v := zI (0)) hx hb dX8_ornaments_1 rfl ?_
  refine pw_put' (r := 120) (ci := 8) (C := RX8) (T := TX8) (Nf := 21) hx hb w hts hin_X8_ornaments_8 tyX8 tyX8_ok nmX8 hown (by omega) hm rfl 0 (by decide) (hts _ fl_X8_ornaments_63) (fun _ h9 => h9) rfl (ty := .int) (by decide +kernel) rfl rfl (Nat.le_of_ble_eq_true rfl) dX8_ornaments_2 (fun H locs c1 hc1 fr1 w => ?_)
  refine lv_aload_n hx hb dX8_ornaments_5 rfl (lv_at hl 0 rfl) ?_
  refine pw_get (r := 120) (ci := 8) (C := RX8) (T := TX8) (Nf := 21) hx hb w hts hin_X8_ornaments_8 hown (by omega) hc1 rfl 5 (by decide) (hts _ fl_X8_ornaments_88) (fun _ h9 => h9) rfl dX8_ornaments_6 ?_
  have hS9 := hS.to hc1 fr1
  exact fin (ad, N, c1) c1 _ _ _ _ _ _ _ rfl ⟨rfl, hS9, fun q hq => fr1 q (by omega)⟩ w dX8_ornaments_9 (Nat.le_refl _) (Nat.le_refl _)

theorem hin_X8_notes_8 : ∀ w ∈ u_ws RX8 TX8 21, w ∈ wsX8_notes := by decide +kernel
theorem fl_X8_notes_36 : Cond.fieldLink RX8 36 "PipersDeskModel" "noteMany" "[I" ∈ wsX8_notes := by decide +kernel
abbrev rm_X8_notes : Room := { frames := 2, cells := 0, slots := 0, locals := 60 }
set_option maxHeartbeats 4000000 in
set_option maxRecDepth 100000 in
/-- X8_notes_ok -/
theorem c_X8_notes_ok (l : Launch) (D : va_G) (G : Nat → ClassId) (ad : Nat → Nat) (N : Nat) (c : Nat → va_E) {th lim : Int} {no dn : Nat} {gn : Nat → Nat} {gg : Nat → Nat → Nat} {dg nn : Nat → Nat} {pt ln : Nat → Nat → Nat} {wi : Nat → Nat → Int} (hN : 139 ≤ N) (hS : MS G ad c th lim no dn gn gg dg nn pt ln wi) (hV : SV lim no dn gn gg dg nn pt ln wi) {t : Nat} (ht : t < 4) : MC l yX8_notes wsX8_notes rm_X8_notes [.ref (ad 120), .int (zI (t : Int))] D G ad N c (qI D G (fx ad N) (fun v c1 => v = zI (nn t : Int) ∧ MS G ad c1 0 lim no dn gn gg dg nn pt ln wi ∧ ∀ q, (q < 120 ∨ 137 ≤ q) → c1 q = c q)) 0 0 := by
  refine MCi.of (cc := cX8_notes) (maxL := 2) (by decide) rfl (Nat.le_of_ble_eq_true rfl) ?_
  intro p e s m args below meth kc A Q hx hb hts hown hml fin H locs w ls hl
  have hown : s.vm.findClass RX8 = some m.cls := hown
  have hl : lv_has ls 2 [(0, .ref (ad 120)), (1, .int (zI (t : Int)))] := hl
  obtain ⟨⟨row, hm⟩, hh, hB, hDr, hMT, hMR⟩ := id hS
  obtain ⟨hlim, hOV, hdn4, hdg, hUV⟩ := id hV
  have hlb : bnd lim := ⟨by omega, by omega⟩
  have hno8 := hOV.1
  refine lv_aload_n hx hb dX8_notes_0 rfl (lv_at hl 0 rfl) ?_
  refine lv_iload_n hx hb dX8_notes_1 rfl (lv_at hl 1 rfl) ?_
  refine pw_ci w (pw_runS (As := [.int (zI (t : Int))]) (rest := [.ref (ad 120)]) w ⟨hx, hb, hml, hown, hts⟩ (c_X8_isTune l D G ad N c (v := (t : Int)) ⟨by omega, by omega⟩) (va_cwS 1 hts gX8_notes_X8_isTune rfl rfl rfl (by decide +kernel) ⟨Nat.le_of_ble_eq_true rfl, Nat.le_of_ble_eq_true rfl⟩) rfl hl.1 rfl (lv_room (Nat.le_of_ble_eq_true rfl)) dX8_notes_2 ⟨Nat.le_of_ble_eq_true rfl, Nat.le_of_ble_eq_true rfl⟩) (fun r_ u H locs hp w => ?_)
  obtain ⟨hv, hu⟩ := hp
  subst hv
  have w : PW D G A s ad N c H locs := by rw [hu] at w; exact w
  clear hu
  refine pz_top (b := 1) (if_pos (by omega)) ?_
  refine pz_ifeq (tgt := 12) hx hb dX8_notes_5 (by decide) (⟨by omega, by omega⟩) (fun h1 => ?_) (fun h1 => ?_)
  · omega
  · refine lv_iconst (v := zI (0)) hx hb dX8_notes_8 rfl ?_
    refine lv_goto (tgt := 13) hx hb dX8_notes_9 (by decide) ?_
    refine pw_ci w (pw_runV (r := 120) (ci := 8) (As := [.int (zI 0)]) (rest := []) w ⟨hx, hb, hml, hown, hts⟩ (c_X8_goesWell l D G ad N c (pl := 0) hN hm ⟨by decide, by decide⟩) (cwV 1 hts gX8_notes_X8_goesWell rfl rfl rfl (by decide +kernel) ⟨Nat.le_of_ble_eq_true rfl, Nat.le_of_ble_eq_true rfl⟩) (by omega) hm rfl rfl hl.1 rfl (lv_room (Nat.le_of_ble_eq_true rfl)) dX8_notes_13 ⟨Nat.le_of_ble_eq_true rfl, Nat.le_of_ble_eq_true rfl⟩) (fun r_ c2 H locs hp w => ?_)
    have w : PW D G A s ad N c2 H locs := w
    obtain ⟨hv2, hm2, fr2⟩ := hp
    subst hv2
    refine pz_top (b := 1) (if_pos (by omega)) ?_
    have hS2 := hS.to hm2 fr2
    have hm := hm2
    obtain ⟨-, hh, hB, hDr, hMT, hMR⟩ := id hS2
    refine pz_ifeq (tgt := 28) hx hb dX8_notes_16 (by decide) (⟨by omega, by omega⟩) (fun h3 => ?_) (fun h3 => ?_)
    · omega
    · refine lv_aload_n hx hb dX8_notes_19 rfl (lv_at hl 0 rfl) ?_
      refine pw_get (r := 120) (ci := 8) (C := RX8) (T := TX8) (Nf := 21) hx hb w hts hin_X8_notes_8 hown (by omega) hm rfl 11 (by decide) (hts _ fl_X8_notes_36) (fun _ h9 => h9) rfl dX8_notes_20 ?_
      refine lv_iload_n hx hb dX8_notes_23 rfl (lv_at hl 1 rfl) ?_
      refine pw_iald (r := 128) (j := t) hx hb w (by omega) hMT.2.2.2 (by omega) (by omega) (by decide) dX8_notes_24 ?_
      refine lv_goto (tgt := 29) hx hb dX8_notes_25 (by decide) ?_
      exact fin (ad, N, c2) c2 _ _ _ _ _ _ _ rfl ⟨rfl, hS2, fun q hq => ((fr2 q (by omega)).trans rfl)⟩ w dX8_notes_29 (Nat.le_refl _) (Nat.le_refl _)

set_option maxHeartbeats 4000000 in
set_option maxRecDepth 100000 in
/-- X8_notes_bad -/
theorem c_X8_notes_bad (l : Launch) (D : va_G) (G : Nat → ClassId) (ad : Nat → Nat) (N : Nat) (c : Nat → va_E) {th lim : Int} {no dn : Nat} {gn : Nat → Nat} {gg : Nat → Nat → Nat} {dg nn : Nat → Nat} {pt ln : Nat → Nat → Nat} {wi : Nat → Nat → Int} (hN : 139 ≤ N) (hS : MS G ad c th lim no dn gn gg dg nn pt ln wi) (hV : SV lim no dn gn gg dg nn pt ln wi) {zx : Int} (hbzx : bnd zx) (hbad : ¬ (0 ≤ zx ∧ zx ≤ 3)) : MC l yX8_notes wsX8_notes rm_X8_notes [.ref (ad 120), .int (zI zx)] D G ad N c (qI D G (fx ad N) (fun v c1 => v = zI 0 ∧ MS G ad c1 1 lim no dn gn gg dg nn pt ln wi ∧ ∀ q, (q < 120 ∨ 137 ≤ q) → c1 q = c q)) 0 0 := by
  refine MCi.of (cc := cX8_notes) (maxL := 2) (by decide) rfl (Nat.le_of_ble_eq_true rfl) ?_
  intro p e s m args below meth kc A Q hx hb hts hown hml fin H locs w ls hl
  have hown : s.vm.findClass RX8 = some m.cls := hown
  have hl : lv_has ls 2 [(0, .ref (ad 120)), (1, .int (zI zx))] := hl
  obtain ⟨⟨row, hm⟩, hh, hB, hDr, hMT, hMR⟩ := id hS
  obtain ⟨hlim, hOV, hdn4, hdg, hUV⟩ := id hV
  have hlb : bnd lim := ⟨by omega, by omega⟩
  have hno8 := hOV.1
  have hbzx1 := hbzx.1
  have hbzx2 := hbzx.2
  refine lv_aload_n hx hb dX8_notes_0 rfl (lv_at hl 0 rfl) ?_
  refine lv_iload_n hx hb dX8_notes_1 rfl (lv_at hl 1 rfl) ?_
  refine pw_ci w (pw_runS (As := [.int (zI zx)]) (rest := [.ref (ad 120)]) w ⟨hx, hb, hml, hown, hts⟩ (c_X8_isTune l D G ad N c (v := zx) ⟨by omega, by omega⟩) (va_cwS 1 hts gX8_notes_X8_isTune rfl rfl rfl (by decide +kernel) ⟨Nat.le_of_ble_eq_true rfl, Nat.le_of_ble_eq_true rfl⟩) rfl hl.1 rfl (lv_room (Nat.le_of_ble_eq_true rfl)) dX8_notes_2 ⟨Nat.le_of_ble_eq_true rfl, Nat.le_of_ble_eq_true rfl⟩) (fun r_ u H locs hp w => ?_)
  obtain ⟨hv, hu⟩ := hp
  subst hv
  have w : PW D G A s ad N c H locs := by rw [hu] at w; exact w
  clear hu
  refine pz_top (b := 0) (if_neg (by omega)) ?_
  refine pz_ifeq (tgt := 12) hx hb dX8_notes_5 (by decide) (⟨by omega, by omega⟩) (fun h1 => ?_) (fun h1 => ?_)
  · refine lv_iconst (v := zI (1)) hx hb dX8_notes_12 rfl ?_
    refine pw_ci w (pw_runV (r := 120) (ci := 8) (As := [.int (zI 1)]) (rest := []) w ⟨hx, hb, hml, hown, hts⟩ (c_X8_goesWell l D G ad N c (pl := 1) hN hm ⟨by decide, by decide⟩) (cwV 1 hts gX8_notes_X8_goesWell rfl rfl rfl (by decide +kernel) ⟨Nat.le_of_ble_eq_true rfl, Nat.le_of_ble_eq_true rfl⟩) (by omega) hm rfl rfl hl.1 rfl (lv_room (Nat.le_of_ble_eq_true rfl)) dX8_notes_13 ⟨Nat.le_of_ble_eq_true rfl, Nat.le_of_ble_eq_true rfl⟩) (fun r_ c2 H locs hp w => ?_)
    have w : PW D G A s ad N c2 H locs := w
    obtain ⟨hv2, hm2, fr2⟩ := hp
    subst hv2
    refine pz_top (b := 0) (if_neg (by omega)) ?_
    have hS2 := hS.to hm2 fr2
    have hm := hm2
    obtain ⟨-, hh, hB, hDr, hMT, hMR⟩ := id hS2
    refine pz_ifeq (tgt := 28) hx hb dX8_notes_16 (by decide) (⟨by omega, by omega⟩) (fun h3 => ?_) (fun h3 => ?_)
    · refine lv_iconst (v := zI (0)) hx hb dX8_notes_28 rfl ?_
      exact fin (ad, N, c2) c2 _ _ _ _ _ _ _ rfl ⟨rfl, hS2, fun q hq => ((fr2 q (by omega)).trans rfl)⟩ w dX8_notes_29 (Nat.le_refl _) (Nat.le_refl _)
    · omega
  · omega
