/-- the model's object -/
def moV (ad : Nat → Nat) (th lim no dn row : Int) : List Value := [.int (zI th), .ref (ad 121), .int (zI lim), .ref (ad 122), .ref (ad 123), .int (zI no), .ref (ad 124), .int (zI dn), .ref (ad 125), .ref (ad 126), .ref (ad 127), .ref (ad 128), .ref (ad 129), .ref (ad 130), .ref (ad 131), .int (zI row), .ref (ad 132), .ref (ad 133), .ref (ad 134), .ref (ad 135), .ref (ad 136)]

theorem hin_X8_thrown_8 : ∀ w ∈ u_ws RX8 TX8 21, w ∈ wsX8_thrown := by decide +kernel
theorem fl_X8_thrown_63 : Cond.fieldLink RX8 63 "PipersDeskModel" "thrown" "I" ∈ wsX8_thrown := by decide +kernel
abbrev rm_X8_thrown : Room := { frames := 0, cells := 0, slots := 0, locals := 0 }
set_option maxHeartbeats 4000000 in
set_option maxRecDepth 100000 in
/-- thrown -/
theorem c_X8_thrown (l : Launch) (D : va_G) (G : Nat → ClassId) (ad : Nat → Nat) (N : Nat) (c : Nat → va_E) {th lim no dn row : Int} (hN : 139 ≤ N) (hm : c 120 = .inr (8, moV ad th lim no dn row)) : MC l yX8_thrown wsX8_thrown rm_X8_thrown [.ref (ad 120)] D G ad N c (qI D G (fx ad N) (fun v c1 => v = zI th ∧ c1 = c)) 0 0 := by
  refine MCi.of (cc := cX8_thrown) (maxL := 1) (by decide) rfl (Nat.le_of_ble_eq_true rfl) ?_
  intro p e s m args below meth kc A Q hx hb hts hown hml fin H locs w ls hl
  have hown : s.vm.findClass RX8 = some m.cls := hown
  have hl : lv_has ls 1 [(0, .ref (ad 120))] := hl
  refine lv_aload_n hx hb dX8_thrown_0 rfl (lv_at hl 0 rfl) ?_
  refine pw_get (r := 120) (ci := 8) (C := RX8) (T := TX8) (Nf := 21) hx hb w hts hin_X8_thrown_8 hown (by omega) hm rfl 0 (by decide) (hts _ fl_X8_thrown_63) (fun _ h9 => h9) rfl dX8_thrown_1 ?_
  exact fin (ad, N, c) c _ _ _ _ _ _ _ rfl ⟨rfl, rfl⟩ w dX8_thrown_4 (Nat.le_refl _) (Nat.le_refl _)

theorem hin_X8_goesWell_8 : ∀ w ∈ u_ws RX8 TX8 21, w ∈ wsX8_goesWell := by decide +kernel
theorem fl_X8_goesWell_63 : Cond.fieldLink RX8 63 "PipersDeskModel" "thrown" "I" ∈ wsX8_goesWell := by decide +kernel
abbrev rm_X8_goesWell : Room := { frames := 0, cells := 0, slots := 0, locals := 0 }
set_option maxHeartbeats 4000000 in
set_option maxRecDepth 100000 in
/-- goesWell -/
theorem c_X8_goesWell (l : Launch) (D : va_G) (G : Nat → ClassId) (ad : Nat → Nat) (N : Nat) (c : Nat → va_E) {th lim no dn row : Int} (hN : 139 ≤ N) (hm : c 120 = .inr (8, moV ad th lim no dn row)) {pl : Int} (hp9 : bnd pl) : MC l yX8_goesWell wsX8_goesWell rm_X8_goesWell [.ref (ad 120), .int (zI pl)] D G ad N c (qI D G (fx ad N) (fun v c1 => v = zI (if pl = 0 then 1 else 0) ∧ c1 120 = .inr (8, moV ad pl lim no dn row) ∧ ∀ q, q ≠ 120 → c1 q = c q)) 0 0 := by
  refine MCz.of (cc := cX8_goesWell) (maxL := 2) (by decide) rfl (Nat.le_of_ble_eq_true rfl) ?_
  intro p e s m args below meth kc A Q hx hb hts hown hml fin H locs w ls hl
  have hown : s.vm.findClass RX8 = some m.cls := hown
  have hl : lv_has ls 2 [(0, .ref (ad 120)), (1, .int (zI pl))] := hl
  refine lv_aload_n hx hb dX8_goesWell_0 rfl (lv_at hl 0 rfl) ?_
  refine lv_iload_n hx hb dX8_goesWell_1 rfl (lv_at hl 1 rfl) ?_
  refine pw_put' (r := 120) (ci := 8) (C := RX8) (T := TX8) (Nf := 21) hx hb w hts hin_X8_goesWell_8 tyX8 tyX8_ok nmX8 hown (by omega) hm rfl 0 (by decide) (hts _ fl_X8_goesWell_63) (fun _ h9 => h9) rfl (ty := .int) (by decide +kernel) rfl rfl (Nat.le_of_ble_eq_true rfl) dX8_goesWell_2 (fun H locs c1 hc1 fr1 w => ?_)
  refine lv_iload_n hx hb dX8_goesWell_5 rfl (lv_at hl 1 rfl) ?_
  refine pz_ifne (tgt := 13) hx hb dX8_goesWell_6 (by decide) (hp9) (fun hp => ?_) (fun hp => ?_)
  · refine lv_iconst (v := zI (0)) hx hb dX8_goesWell_13 rfl ?_
    exact fin (ad, N, c1) c1 _ _ _ _ _ _ _ rfl (Or.inl rfl) ⟨by rw [if_neg (by omega)], hc1, fr1⟩ w dX8_goesWell_14 (Nat.le_refl _) (Nat.le_refl _)
  · refine lv_iconst (v := zI (1)) hx hb dX8_goesWell_9 rfl ?_
    refine lv_goto (tgt := 14) hx hb dX8_goesWell_10 (by decide) ?_
    exact fin (ad, N, c1) c1 _ _ _ _ _ _ _ rfl (Or.inr rfl) ⟨by rw [if_pos (by omega)], hc1, fr1⟩ w dX8_goesWell_14 (Nat.le_refl _) (Nat.le_refl _)

abbrev rm_X8_in : Room := { frames := 0, cells := 0, slots := 0, locals := 0 }
set_option maxHeartbeats 4000000 in
set_option maxRecDepth 100000 in
/-- in -/
theorem c_X8_in (l : Launch) (D : va_G) (G : Nat → ClassId) (ad : Nat → Nat) (N : Nat) (c : Nat → va_E) {v lo hi : Int} (hv9 : bnd v) (hlo : bnd lo) (hhi : bnd hi) : MC l yX8_in wsX8_in rm_X8_in [.int (zI v), .int (zI lo), .int (zI hi)] D G ad N c (qI D G (fx ad N) (fun r c1 => r = zI (if lo ≤ v ∧ v ≤ hi then 1 else 0) ∧ c1 = c)) 0 0 := by
  refine MCz.of (cc := cX8_in) (maxL := 3) (by decide) rfl (Nat.le_of_ble_eq_true rfl) ?_
  intro p e s m args below meth kc A Q hx hb hts hown hml fin H locs w ls hl
  have hown : s.vm.findClass RX8 = some m.cls := hown
  have hl : lv_has ls 3 [(0, .int (zI v)), (1, .int (zI lo)), (2, .int (zI hi))] := hl
  refine lv_iload_n hx hb dX8_in_0 rfl (lv_at hl 0 rfl) ?_
  refine lv_iload_n hx hb dX8_in_1 rfl (lv_at hl 1 rfl) ?_
  refine pz_icmplt (tgt := 14) hx hb dX8_in_2 (by decide) (by assumption) (by assumption) (fun h1 => ?_) (fun h1 => ?_)
  · refine lv_iconst (v := zI (0)) hx hb dX8_in_14 rfl ?_
    exact fin (ad, N, c) c _ _ _ _ _ _ _ rfl (Or.inl rfl) ⟨by rw [if_neg (by omega)], rfl⟩ w dX8_in_15 (Nat.le_refl _) (Nat.le_refl _)
  · refine lv_iload_n hx hb dX8_in_5 rfl (lv_at hl 0 rfl) ?_
    refine lv_iload_n hx hb dX8_in_6 rfl (lv_at hl 2 rfl) ?_
    refine pz_icmpgt (tgt := 14) hx hb dX8_in_7 (by decide) (by assumption) (by assumption) (fun h2 => ?_) (fun h2 => ?_)
    · refine lv_iconst (v := zI (0)) hx hb dX8_in_14 rfl ?_
      exact fin (ad, N, c) c _ _ _ _ _ _ _ rfl (Or.inl rfl) ⟨by rw [if_neg (by omega)], rfl⟩ w dX8_in_15 (Nat.le_refl _) (Nat.le_refl _)
    · refine lv_iconst (v := zI (1)) hx hb dX8_in_10 rfl ?_
      refine lv_goto (tgt := 15) hx hb dX8_in_11 (by decide) ?_
      exact fin (ad, N, c) c _ _ _ _ _ _ _ rfl (Or.inr rfl) ⟨by rw [if_pos (by omega)], rfl⟩ w dX8_in_15 (Nat.le_refl _) (Nat.le_refl _)

abbrev rm_X8_isPitch : Room := { frames := 1, cells := 0, slots := 0, locals := 30 }
set_option maxHeartbeats 4000000 in
set_option maxRecDepth 100000 in
/-- X8_isPitch -/
theorem c_X8_isPitch (l : Launch) (D : va_G) (G : Nat → ClassId) (ad : Nat → Nat) (N : Nat) (c : Nat → va_E) {v : Int} (hv9 : bnd v) : MC l yX8_isPitch wsX8_isPitch rm_X8_isPitch [.int (zI v)] D G ad N c (qI D G (fx ad N) (fun r c1 => r = zI (if 0 ≤ v ∧ v ≤ 8 then 1 else 0) ∧ c1 = c)) 0 0 := by
  refine MCz.of (cc := cX8_isPitch) (maxL := 1) (by decide) rfl (Nat.le_of_ble_eq_true rfl) ?_
  intro p e s m args below meth kc A Q hx hb hts hown hml fin H locs w ls hl
  have hown : s.vm.findClass RX8 = some m.cls := hown
  have hl : lv_has ls 1 [(0, .int (zI v))] := hl
  refine lv_iload_n hx hb dX8_isPitch_0 rfl (lv_at hl 0 rfl) ?_
  refine lv_iconst (v := zI (0)) hx hb dX8_isPitch_1 rfl ?_
  refine lv_bipush (v := zI (8)) hx hb dX8_isPitch_2 (by decide +kernel) ?_
  refine pw_ci w (pw_runS (As := [.int (zI v), .int (zI 0), .int (zI 8)]) (rest := []) w ⟨hx, hb, hml, hown, hts⟩ (c_X8_in l D G ad N c (v := v) (lo := 0) (hi := 8) hv9 ⟨by decide, by decide⟩ ⟨by decide, by decide⟩) (va_cwS 3 hts gX8_isPitch_X8_in rfl rfl rfl (by decide +kernel) ⟨Nat.le_of_ble_eq_true rfl, Nat.le_of_ble_eq_true rfl⟩) rfl hl.1 rfl (lv_room (Nat.le_of_ble_eq_true rfl)) dX8_isPitch_4 ⟨Nat.le_of_ble_eq_true rfl, Nat.le_of_ble_eq_true rfl⟩) (fun r_ u H locs hp w => ?_)
  obtain ⟨hv, hu⟩ := hp
  subst hv
  have w : PW D G A s ad N c H locs := by rw [hu] at w; exact w
  clear hu
  exact fin (ad, N, c) c _ _ _ _ _ _ _ rfl (by split <;> first | exact Or.inr rfl | exact Or.inl rfl) ⟨rfl, rfl⟩ w dX8_isPitch_7 (Nat.le_refl _) (Nat.le_refl _)

abbrev rm_X8_isTune : Room := { frames := 1, cells := 0, slots := 0, locals := 30 }
set_option maxHeartbeats 4000000 in
set_option maxRecDepth 100000 in
/-- X8_isTune -/
theorem c_X8_isTune (l : Launch) (D : va_G) (G : Nat → ClassId) (ad : Nat → Nat) (N : Nat) (c : Nat → va_E) {v : Int} (hv9 : bnd v) : MC l yX8_isTune wsX8_isTune rm_X8_isTune [.int (zI v)] D G ad N c (qI D G (fx ad N) (fun r c1 => r = zI (if 0 ≤ v ∧ v ≤ 3 then 1 else 0) ∧ c1 = c)) 0 0 := by
  refine MCz.of (cc := cX8_isTune) (maxL := 1) (by decide) rfl (Nat.le_of_ble_eq_true rfl) ?_
  intro p e s m args below meth kc A Q hx hb hts hown hml fin H locs w ls hl
  have hown : s.vm.findClass RX8 = some m.cls := hown
  have hl : lv_has ls 1 [(0, .int (zI v))] := hl
  refine lv_iload_n hx hb dX8_isTune_0 rfl (lv_at hl 0 rfl) ?_
  refine lv_iconst (v := zI (0)) hx hb dX8_isTune_1 rfl ?_
  refine lv_iconst (v := zI (3)) hx hb dX8_isTune_2 rfl ?_
  refine pw_ci w (pw_runS (As := [.int (zI v), .int (zI 0), .int (zI 3)]) (rest := []) w ⟨hx, hb, hml, hown, hts⟩ (c_X8_in l D G ad N c (v := v) (lo := 0) (hi := 3) hv9 ⟨by decide, by decide⟩ ⟨by decide, by decide⟩) (va_cwS 3 hts gX8_isTune_X8_in rfl rfl rfl (by decide +kernel) ⟨Nat.le_of_ble_eq_true rfl, Nat.le_of_ble_eq_true rfl⟩) rfl hl.1 rfl (lv_room (Nat.le_of_ble_eq_true rfl)) dX8_isTune_3 ⟨Nat.le_of_ble_eq_true rfl, Nat.le_of_ble_eq_true rfl⟩) (fun r_ u H locs hp w => ?_)
  obtain ⟨hv, hu⟩ := hp
  subst hv
  have w : PW D G A s ad N c H locs := by rw [hu] at w; exact w
  clear hu
  exact fin (ad, N, c) c _ _ _ _ _ _ _ rfl (by split <;> first | exact Or.inr rfl | exact Or.inl rfl) ⟨rfl, rfl⟩ w dX8_isTune_6 (Nat.le_refl _) (Nat.le_refl _)

theorem hin_X8_costOf_8 : ∀ w ∈ u_ws RX8 TX8 21, w ∈ wsX8_costOf := by decide +kernel
theorem fl_X8_costOf_7 : Cond.fieldLink RX8 7 "PipersDeskModel" "holes" "[I" ∈ wsX8_costOf := by decide +kernel
abbrev rm_X8_costOf : Room := { frames := 0, cells := 0, slots := 0, locals := 0 }
set_option maxHeartbeats 4000000 in
set_option maxRecDepth 100000 in
/-- costOf -/
theorem c_X8_costOf (l : Launch) (D : va_G) (G : Nat → ClassId) (ad : Nat → Nat) (N : Nat) (c : Nat → va_E) {th lim no dn row : Int} (hN : 139 ≤ N) (hm : c 120 = .inr (8, moV ad th lim no dn row)) (hh : isA 0 G (c 121) 9 closedN) {x y : Nat} (hx9 : x < 9) (hy9 : y < 9) : MC l yX8_costOf wsX8_costOf rm_X8_costOf [.ref (ad 120), .int (zI (x : Int)), .int (zI (y : Int))] D G ad N c (qI D G (fx ad N) (fun v c1 => v = zI (mv x y) ∧ c1 = c)) 0 0 := by
  refine MCi.of (cc := cX8_costOf) (maxL := 5) (by decide) rfl (Nat.le_of_ble_eq_true rfl) ?_
  intro p e s m args below meth kc A Q hx hb hts hown hml fin H locs w ls hl
  have hown : s.vm.findClass RX8 = some m.cls := hown
  have hl : lv_has ls 5 [(0, .ref (ad 120)), (1, .int (zI (x : Int))), (2, .int (zI (y : Int)))] := hl
  refine lv_iconst (v := zI (0)) hx hb dX8_costOf_0 rfl ?_
  refine lv_istore_n (lv' := [(3, .int (zI 0)), (0, .ref (ad 120)), (1, .int (zI (x : Int))), (2, .int (zI (y : Int)))]) hx hb dX8_costOf_1 rfl hl (by decide) rfl (fun ls hl => ?_)
  refine lv_iconst (v := zI (0)) hx hb dX8_costOf_2 rfl ?_
  refine lv_istore (lv' := [(4, .int (zI 0)), (3, .int (zI 0)), (0, .ref (ad 120)), (1, .int (zI (x : Int))), (2, .int (zI (y : Int)))]) hx hb dX8_costOf_3 hl (by decide) rfl (fun ls hl => ?_)
  have lp : ∀ (n : Nat) (h : Nat) (H : Heap) (locs : List Loc) (ls : Array Slot), h ≤ 8 → 8 < h + n → PW D G A s ad N c H locs → lv_has ls 5 [(0, .ref (ad 120)), (1, .int (zI (x : Int))), (2, .int (zI (y : Int))), (3, .int (zI (mvU x y h))), (4, .int (zI (h : Int)))] → W p l e rm_X8_costOf s m args below meth kc H locs 0 0 Q (F0 m 5 ls []) := by
    intro n
    induction n with
    | zero => intro h H locs ls h9 hfu w hl; omega
    | succ n ih =>
      intro h H locs ls h9 hfu w hl
      refine lv_iload hx hb dX8_costOf_5 (lv_at hl 4 rfl) ?_
      refine lv_bipush (v := zI (8)) hx hb dX8_costOf_7 (by decide +kernel) ?_
      refine pz_icmpge (tgt := 39) hx hb dX8_costOf_9 (by decide) (⟨by omega, by omega⟩) (⟨by omega, by omega⟩) (fun hh8 => ?_) (fun hh8 => ?_)
      · have h8 : h = 8 := by omega
        subst h8
        have e := mvU_8 x hx9 y hy9
        refine lv_iload_n hx hb dX8_costOf_39 rfl (lv_at hl 3 rfl) ?_
        refine pz_top (b := (mv x y)) (e) ?_
        exact fin (ad, N, c) c _ _ _ _ _ _ _ rfl ⟨rfl, rfl⟩ w dX8_costOf_40 (Nat.le_refl _) (Nat.le_refl _)
      · refine lv_iload_n hx hb dX8_costOf_12 rfl (lv_at hl 3 rfl) ?_
        refine lv_aload_n hx hb dX8_costOf_13 rfl (lv_at hl 0 rfl) ?_
        refine pw_get (r := 120) (ci := 8) (C := RX8) (T := TX8) (Nf := 21) hx hb w hts hin_X8_costOf_8 hown (by omega) hm rfl 1 (by decide) (hts _ fl_X8_costOf_7) (fun _ h9 => h9) rfl dX8_costOf_14 ?_
        refine lv_iload_n hx hb dX8_costOf_17 rfl (lv_at hl 1 rfl) ?_
        refine pw_iald (r := 121) (j := x) hx hb w (by omega) hh (by omega) (by omega) (by decide) dX8_costOf_18 ?_
        refine lv_aload_n hx hb dX8_costOf_19 rfl (lv_at hl 0 rfl) ?_
        refine pw_get (r := 120) (ci := 8) (C := RX8) (T := TX8) (Nf := 21) hx hb w hts hin_X8_costOf_8 hown (by omega) hm rfl 1 (by decide) (hts _ fl_X8_costOf_7) (fun _ h9 => h9) rfl dX8_costOf_20 ?_
        refine lv_iload_n hx hb dX8_costOf_23 rfl (lv_at hl 2 rfl) ?_
        refine pw_iald (r := 121) (j := y) hx hb w (by omega) hh (by omega) (by omega) (by decide) dX8_costOf_24 ?_
        refine lv_ixor hx hb dX8_costOf_25 ?_
        refine lv_iload hx hb dX8_costOf_26 (lv_at hl 4 rfl) ?_
        refine lv_ishr hx hb dX8_costOf_28 ?_
        refine lv_iconst (v := zI (1)) hx hb dX8_costOf_29 rfl ?_
        refine lv_iand hx hb dX8_costOf_30 ?_
        refine pz_topI (y := zI (if (hbit x ^^^ hbit y).testBit h = true then 1 else 0)) (bitN x hx9 y hy9 h (by omega)) ?_
        refine pz_iadd hx hb dX8_costOf_31 ?_
        refine pz_top (b := (mvU x y (h + 1))) (rfl) ?_
        refine lv_istore_n (lv' := [(3, .int (zI (mvU x y (h + 1)))), (0, .ref (ad 120)), (1, .int (zI (x : Int))), (2, .int (zI (y : Int))), (4, .int (zI (h : Int)))]) hx hb dX8_costOf_32 rfl hl (by decide) rfl (fun ls hl => ?_)
        refine pz_iinc (lv' := [(4, .int (zI ((h + 1 : Nat) : Int))), (3, .int (zI (mvU x y (h + 1)))), (0, .ref (ad 120)), (1, .int (zI (x : Int))), (2, .int (zI (y : Int)))]) hx hb dX8_costOf_33 hl (j := 4) rfl ((h + 1 : Nat) : Int) (by omega) (by decide) rfl (fun ls hl => ?_)
        refine lv_goto (tgt := 5) hx hb dX8_costOf_36 (by decide) ?_
        exact ih (h + 1) H locs ls (by omega) (by omega) w (lv_sub hl [2, 3, 4, 1, 0] rfl)
  exact lp 9 0 H locs ls (by omega) (by omega) w (lv_sub hl [2, 3, 4, 1, 0] rfl)

theorem hin_X8_bars_8 : ∀ w ∈ u_ws RX8 TX8 21, w ∈ wsX8_bars := by decide +kernel
theorem fl_X8_bars_7 : Cond.fieldLink RX8 7 "PipersDeskModel" "holes" "[I" ∈ wsX8_bars := by decide +kernel
theorem fl_X8_bars_13 : Cond.fieldLink RX8 13 "PipersDeskModel" "limit" "I" ∈ wsX8_bars := by decide +kernel
abbrev rm_X8_bars : Room := { frames := 1, cells := 0, slots := 0, locals := 30 }
set_option maxHeartbeats 4000000 in
set_option maxRecDepth 100000 in
/-- bars -/
theorem c_X8_bars (l : Launch) (D : va_G) (G : Nat → ClassId) (ad : Nat → Nat) (N : Nat) (c : Nat → va_E) {th lim no dn row : Int} (hN : 139 ≤ N) (hm : c 120 = .inr (8, moV ad th lim no dn row)) (hh : isA 0 G (c 121) 9 closedN) {x y : Nat} (hx9 : x < 9) (hy9 : y < 9) (hlim : bnd lim) : MC l yX8_bars wsX8_bars rm_X8_bars [.ref (ad 120), .int (zI (x : Int)), .int (zI (y : Int))] D G ad N c (qI D G (fx ad N) (fun v c1 => v = zI (if brd lim x y = true then 1 else 0) ∧ c1 = c)) 0 0 := by
  refine MCz.of (cc := cX8_bars) (maxL := 5) (by decide) rfl (Nat.le_of_ble_eq_true rfl) ?_
  intro p e s m args below meth kc A Q hx hb hts hown hml fin H locs w ls hl
  have hown : s.vm.findClass RX8 = some m.cls := hown
  have hl : lv_has ls 5 [(0, .ref (ad 120)), (1, .int (zI (x : Int))), (2, .int (zI (y : Int)))] := hl
  have e1 := crM x hx9 y hy9
  have e2 := crM y hy9 x hx9
  have hmv := mv_bd hx9 hy9
  refine lv_aload_n hx hb dX8_bars_0 rfl (lv_at hl 0 rfl) ?_
  refine pw_get (r := 120) (ci := 8) (C := RX8) (T := TX8) (Nf := 21) hx hb w hts hin_X8_bars_8 hown (by omega) hm rfl 1 (by decide) (hts _ fl_X8_bars_7) (fun _ h9 => h9) rfl dX8_bars_1 ?_
  refine lv_iload_n hx hb dX8_bars_4 rfl (lv_at hl 1 rfl) ?_
  refine pw_iald (r := 121) (j := x) hx hb w (by omega) hh (by omega) (by omega) (by decide) dX8_bars_5 ?_
  refine lv_aload_n hx hb dX8_bars_6 rfl (lv_at hl 0 rfl) ?_
  refine pw_get (r := 120) (ci := 8) (C := RX8) (T := TX8) (Nf := 21) hx hb w hts hin_X8_bars_8 hown (by omega) hm rfl 1 (by decide) (hts _ fl_X8_bars_7) (fun _ h9 => h9) rfl dX8_bars_7 ?_
  refine lv_iload_n hx hb dX8_bars_10 rfl (lv_at hl 2 rfl) ?_
  refine pw_iald (r := 121) (j := y) hx hb w (by omega) hh (by omega) (by omega) (by decide) dX8_bars_11 ?_
  refine lv_iconst (v := zI (-1)) hx hb dX8_bars_12 rfl ?_
  refine lv_ixor hx hb dX8_bars_13 ?_
  refine lv_iand hx hb dX8_bars_14 ?_
  refine lv_if_eq (tgt := 22) hx hb dX8_bars_15 (by decide) (fun ha => ?_) (fun ha => ?_)
  · have n1 := e1.mp ha
    refine lv_iconst (v := zI (0)) hx hb dX8_bars_22 rfl ?_
    refine lv_istore_n (lv' := [(3, .int (zI 0)), (0, .ref (ad 120)), (1, .int (zI (x : Int))), (2, .int (zI (y : Int)))]) hx hb dX8_bars_23 rfl hl (by decide) rfl (fun ls hl => ?_)
    refine lv_aload_n hx hb dX8_bars_24 rfl (lv_at hl 1 rfl) ?_
    refine pw_get (r := 120) (ci := 8) (C := RX8) (T := TX8) (Nf := 21) hx hb w hts hin_X8_bars_8 hown (by omega) hm rfl 1 (by decide) (hts _ fl_X8_bars_7) (fun _ h9 => h9) rfl dX8_bars_25 ?_
    refine lv_iload_n hx hb dX8_bars_28 rfl (lv_at hl 3 rfl) ?_
    refine pw_iald (r := 121) (j := y) hx hb w (by omega) hh (by omega) (by omega) (by decide) dX8_bars_29 ?_
    refine lv_aload_n hx hb dX8_bars_30 rfl (lv_at hl 1 rfl) ?_
    refine pw_get (r := 120) (ci := 8) (C := RX8) (T := TX8) (Nf := 21) hx hb w hts hin_X8_bars_8 hown (by omega) hm rfl 1 (by decide) (hts _ fl_X8_bars_7) (fun _ h9 => h9) rfl dX8_bars_31 ?_
    refine lv_iload_n hx hb dX8_bars_34 rfl (lv_at hl 2 rfl) ?_
    refine pw_iald (r := 121) (j := x) hx hb w (by omega) hh (by omega) (by omega) (by decide) dX8_bars_35 ?_
    refine lv_iconst (v := zI (-1)) hx hb dX8_bars_36 rfl ?_
    refine lv_ixor hx hb dX8_bars_37 ?_
    refine lv_iand hx hb dX8_bars_38 ?_
    refine lv_if_eq (tgt := 46) hx hb dX8_bars_39 (by decide) (fun hb2 => ?_) (fun hb2 => ?_)
    · have n2 := e2.mp hb2
      have hcr : crs x y = false := by
        unfold crs
        simp only [bne_iff_ne, ne_eq, Bool.and_eq_true, Bool.and_eq_false_iff, bne_eq_false_iff_eq]
        omega
      refine lv_iconst (v := zI (0)) hx hb dX8_bars_46 rfl ?_
      refine lv_istore (lv' := [(4, .int (zI 0)), (3, .int (zI 0)), (0, .ref (ad 120)), (1, .int (zI (x : Int))), (2, .int (zI (y : Int)))]) hx hb dX8_bars_47 hl (by decide) rfl (fun ls hl => ?_)
      refine lv_iload_n hx hb dX8_bars_49 rfl (lv_at hl 1 rfl) ?_
      refine pz_ifeq (tgt := 75) hx hb dX8_bars_50 (by decide) (⟨by omega, by omega⟩) (fun h1 => ?_) (fun h1 => ?_)
      · refine lv_iconst (v := zI (0)) hx hb dX8_bars_75 rfl ?_
        have hbr : ¬ brd lim x y = true := by unfold brd; rw [hcr]; simp
        exact fin (ad, N, c) c _ _ _ _ _ _ _ rfl (Or.inl rfl) ⟨by rw [if_neg hbr], rfl⟩ w dX8_bars_76 (Nat.le_refl _) (Nat.le_refl _)
      · omega
    · have n2 : ¬ (hbit y &&& (hbit x ^^^ 255)) = 0 := fun q => hb2 (e2.mpr q)
      have hcr : crs x y = false := by
        unfold crs
        simp only [bne_iff_ne, ne_eq, Bool.and_eq_true, Bool.and_eq_false_iff, bne_eq_false_iff_eq]
        omega
      refine lv_iconst (v := zI (1)) hx hb dX8_bars_42 rfl ?_
      refine lv_goto (tgt := 47) hx hb dX8_bars_43 (by decide) ?_
      refine lv_istore (lv' := [(4, .int (zI 1)), (3, .int (zI 0)), (0, .ref (ad 120)), (1, .int (zI (x : Int))), (2, .int (zI (y : Int)))]) hx hb dX8_bars_47 hl (by decide) rfl (fun ls hl => ?_)
      refine lv_iload_n hx hb dX8_bars_49 rfl (lv_at hl 1 rfl) ?_
      refine pz_ifeq (tgt := 75) hx hb dX8_bars_50 (by decide) (⟨by omega, by omega⟩) (fun h2 => ?_) (fun h2 => ?_)
      · refine lv_iconst (v := zI (0)) hx hb dX8_bars_75 rfl ?_
        have hbr : ¬ brd lim x y = true := by unfold brd; rw [hcr]; simp
        exact fin (ad, N, c) c _ _ _ _ _ _ _ rfl (Or.inl rfl) ⟨by rw [if_neg hbr], rfl⟩ w dX8_bars_76 (Nat.le_refl _) (Nat.le_refl _)
      · omega
  · have n1 : ¬ (hbit x &&& (hbit y ^^^ 255)) = 0 := fun q => ha (e1.mpr q)
    refine lv_iconst (v := zI (1)) hx hb dX8_bars_18 rfl ?_
    refine lv_goto (tgt := 23) hx hb dX8_bars_19 (by decide) ?_
    refine lv_istore_n (lv' := [(3, .int (zI 1)), (0, .ref (ad 120)), (1, .int (zI (x : Int))), (2, .int (zI (y : Int)))]) hx hb dX8_bars_23 rfl hl (by decide) rfl (fun ls hl => ?_)
    refine lv_aload_n hx hb dX8_bars_24 rfl (lv_at hl 1 rfl) ?_
    refine pw_get (r := 120) (ci := 8) (C := RX8) (T := TX8) (Nf := 21) hx hb w hts hin_X8_bars_8 hown (by omega) hm rfl 1 (by decide) (hts _ fl_X8_bars_7) (fun _ h9 => h9) rfl dX8_bars_25 ?_
    refine lv_iload_n hx hb dX8_bars_28 rfl (lv_at hl 3 rfl) ?_
    refine pw_iald (r := 121) (j := y) hx hb w (by omega) hh (by omega) (by omega) (by decide) dX8_bars_29 ?_
    refine lv_aload_n hx hb dX8_bars_30 rfl (lv_at hl 1 rfl) ?_
    refine pw_get (r := 120) (ci := 8) (C := RX8) (T := TX8) (Nf := 21) hx hb w hts hin_X8_bars_8 hown (by omega) hm rfl 1 (by decide) (hts _ fl_X8_bars_7) (fun _ h9 => h9) rfl dX8_bars_31 ?_
    refine lv_iload_n hx hb dX8_bars_34 rfl (lv_at hl 2 rfl) ?_
    refine pw_iald (r := 121) (j := x) hx hb w (by omega) hh (by omega) (by omega) (by decide) dX8_bars_35 ?_
    refine lv_iconst (v := zI (-1)) hx hb dX8_bars_36 rfl ?_
    refine lv_ixor hx hb dX8_bars_37 ?_
    refine lv_iand hx hb dX8_bars_38 ?_
    refine lv_if_eq (tgt := 46) hx hb dX8_bars_39 (by decide) (fun hb2 => ?_) (fun hb2 => ?_)
    · have n2 := e2.mp hb2
      have hcr : crs x y = false := by
        unfold crs
        simp only [bne_iff_ne, ne_eq, Bool.and_eq_true, Bool.and_eq_false_iff, bne_eq_false_iff_eq]
        omega
      refine lv_iconst (v := zI (0)) hx hb dX8_bars_46 rfl ?_
      refine lv_istore (lv' := [(4, .int (zI 0)), (3, .int (zI 1)), (0, .ref (ad 120)), (1, .int (zI (x : Int))), (2, .int (zI (y : Int)))]) hx hb dX8_bars_47 hl (by decide) rfl (fun ls hl => ?_)
      refine lv_iload_n hx hb dX8_bars_49 rfl (lv_at hl 1 rfl) ?_
      refine pz_ifeq (tgt := 75) hx hb dX8_bars_50 (by decide) (⟨by omega, by omega⟩) (fun h3 => ?_) (fun h3 => ?_)
      · omega
      · refine lv_iload hx hb dX8_bars_53 (lv_at hl 0 rfl) ?_
        refine pz_ifeq (tgt := 75) hx hb dX8_bars_55 (by decide) (⟨by omega, by omega⟩) (fun h4 => ?_) (fun h4 => ?_)
        · refine lv_iconst (v := zI (0)) hx hb dX8_bars_75 rfl ?_
          have hbr : ¬ brd lim x y = true := by unfold brd; rw [hcr]; simp
          exact fin (ad, N, c) c _ _ _ _ _ _ _ rfl (Or.inl rfl) ⟨by rw [if_neg hbr], rfl⟩ w dX8_bars_76 (Nat.le_refl _) (Nat.le_refl _)
        · omega
    · have n2 : ¬ (hbit y &&& (hbit x ^^^ 255)) = 0 := fun q => hb2 (e2.mpr q)
      have hcr : crs x y = true := by
        unfold crs
        simp only [bne_iff_ne, ne_eq, Bool.and_eq_true, Bool.and_eq_false_iff, bne_eq_false_iff_eq]
        omega
      refine lv_iconst (v := zI (1)) hx hb dX8_bars_42 rfl ?_
      refine lv_goto (tgt := 47) hx hb dX8_bars_43 (by decide) ?_
      refine lv_istore (lv' := [(4, .int (zI 1)), (3, .int (zI 1)), (0, .ref (ad 120)), (1, .int (zI (x : Int))), (2, .int (zI (y : Int)))]) hx hb dX8_bars_47 hl (by decide) rfl (fun ls hl => ?_)
      refine lv_iload_n hx hb dX8_bars_49 rfl (lv_at hl 1 rfl) ?_
      refine pz_ifeq (tgt := 75) hx hb dX8_bars_50 (by decide) (⟨by omega, by omega⟩) (fun h5 => ?_) (fun h5 => ?_)
      · omega
      · refine lv_iload hx hb dX8_bars_53 (lv_at hl 0 rfl) ?_
        refine pz_ifeq (tgt := 75) hx hb dX8_bars_55 (by decide) (⟨by omega, by omega⟩) (fun h6 => ?_) (fun h6 => ?_)
        · omega
        · refine lv_aload_n hx hb dX8_bars_58 rfl (lv_at hl 2 rfl) ?_
          refine lv_iload_n hx hb dX8_bars_59 rfl (lv_at hl 3 rfl) ?_
          refine lv_iload_n hx hb dX8_bars_60 rfl (lv_at hl 4 rfl) ?_
          refine pw_ci w (pw_runV (r := 120) (ci := 8) (As := [.int (zI (x : Int)), .int (zI (y : Int))]) (rest := []) w ⟨hx, hb, hml, hown, hts⟩ (c_X8_costOf l D G ad N c (x := x) (y := y) hN hm hh hx9 hy9) (cwV 2 hts gX8_bars_X8_costOf rfl rfl rfl (by decide +kernel) ⟨Nat.le_of_ble_eq_true rfl, Nat.le_of_ble_eq_true rfl⟩) (by omega) hm rfl rfl hl.1 rfl (lv_room (Nat.le_of_ble_eq_true rfl)) dX8_bars_61 ⟨Nat.le_of_ble_eq_true rfl, Nat.le_of_ble_eq_true rfl⟩) (fun r_ u H locs hp w => ?_)
          obtain ⟨hv, hu⟩ := hp
          subst hv
          have w : PW D G A s ad N c H locs := by rw [hu] at w; exact w
          clear hu
          refine lv_aload_n hx hb dX8_bars_64 rfl (lv_at hl 2 rfl) ?_
          refine pw_get (r := 120) (ci := 8) (C := RX8) (T := TX8) (Nf := 21) hx hb w hts hin_X8_bars_8 hown (by omega) hm rfl 2 (by decide) (hts _ fl_X8_bars_13) (fun _ h9 => h9) rfl dX8_bars_65 ?_
          refine pz_icmple (tgt := 75) hx hb dX8_bars_68 (by decide) (⟨by omega, by omega⟩) (hlim) (fun hle => ?_) (fun hle => ?_)
          · have hbr : ¬ brd lim x y = true := by unfold brd; rw [hcr]; simp; omega
            refine lv_iconst (v := zI (0)) hx hb dX8_bars_75 rfl ?_
            exact fin (ad, N, c) c _ _ _ _ _ _ _ rfl (Or.inl rfl) ⟨by rw [if_neg hbr], rfl⟩ w dX8_bars_76 (Nat.le_refl _) (Nat.le_refl _)
          · have hbr : brd lim x y = true := by unfold brd; rw [hcr]; simp; omega
            refine lv_iconst (v := zI (1)) hx hb dX8_bars_71 rfl ?_
            refine lv_goto (tgt := 76) hx hb dX8_bars_72 (by decide) ?_
            exact fin (ad, N, c) c _ _ _ _ _ _ _ rfl (Or.inr rfl) ⟨by rw [if_pos hbr], rfl⟩ w dX8_bars_76 (Nat.le_refl _) (Nat.le_refl _)

theorem wd_X8_moves_k91 : Cond.constant RX8 91 (1000000) ∈ wsX8_moves := by decide +kernel
abbrev rm_X8_moves : Room := { frames := 2, cells := 0, slots := 0, locals := 60 }
set_option maxHeartbeats 4000000 in
set_option maxRecDepth 100000 in
/-- moves -/
theorem c_X8_moves (l : Launch) (D : va_G) (G : Nat → ClassId) (ad : Nat → Nat) (N : Nat) (c : Nat → va_E) {th lim no dn row : Int} (hN : 139 ≤ N) (hm : c 120 = .inr (8, moV ad th lim no dn row)) (hh : isA 0 G (c 121) 9 closedN) {x y : Nat} (hx9 : x < 9) (hy9 : y < 9) (hlim : bnd lim) : MC l yX8_moves wsX8_moves rm_X8_moves [.ref (ad 120), .int (zI (x : Int)), .int (zI (y : Int))] D G ad N c (qI D G (fx ad N) (fun v c1 => v = zI (stp lim x y) ∧ c1 = c)) 0 0 := by
  refine MCi.of (cc := cX8_moves) (maxL := 3) (by decide) rfl (Nat.le_of_ble_eq_true rfl) ?_
  intro p e s m args below meth kc A Q hx hb hts hown hml fin H locs w ls hl
  have hown : s.vm.findClass RX8 = some m.cls := hown
  have hl : lv_has ls 3 [(0, .ref (ad 120)), (1, .int (zI (x : Int))), (2, .int (zI (y : Int)))] := hl
  refine lv_iload_n hx hb dX8_moves_0 rfl (lv_at hl 1 rfl) ?_
  refine lv_iload_n hx hb dX8_moves_1 rfl (lv_at hl 2 rfl) ?_
  refine pz_icmpeq (tgt := 14) hx hb dX8_moves_2 (by decide) (⟨by omega, by omega⟩) (⟨by omega, by omega⟩) (fun hxy => ?_) (fun hxy => ?_)
  · refine lv_ldc hx hb hown (hts _ wd_X8_moves_k91) dX8_moves_14 (pz_topI (y := zI (1000000)) (by decide +kernel) ?_)
    refine lv_goto (tgt := 25) hx hb dX8_moves_16 (by decide) ?_
    refine pz_top (b := (stp lim x y)) (by unfold stp; rw [if_pos (Or.inl (by omega))]) ?_
    exact fin (ad, N, c) c _ _ _ _ _ _ _ rfl ⟨rfl, rfl⟩ w dX8_moves_25 (Nat.le_refl _) (Nat.le_refl _)
  · refine lv_aload_n hx hb dX8_moves_5 rfl (lv_at hl 0 rfl) ?_
    refine lv_iload_n hx hb dX8_moves_6 rfl (lv_at hl 1 rfl) ?_
    refine lv_iload_n hx hb dX8_moves_7 rfl (lv_at hl 2 rfl) ?_
    refine pw_ci w (pw_runV (r := 120) (ci := 8) (As := [.int (zI (x : Int)), .int (zI (y : Int))]) (rest := []) w ⟨hx, hb, hml, hown, hts⟩ (c_X8_bars l D G ad N c (x := x) (y := y) hN hm hh hx9 hy9 hlim) (cwV 2 hts gX8_moves_X8_bars rfl rfl rfl (by decide +kernel) ⟨Nat.le_of_ble_eq_true rfl, Nat.le_of_ble_eq_true rfl⟩) (by omega) hm rfl rfl hl.1 rfl (lv_room (Nat.le_of_ble_eq_true rfl)) dX8_moves_8 ⟨Nat.le_of_ble_eq_true rfl, Nat.le_of_ble_eq_true rfl⟩) (fun r_ u H locs hp w => ?_)
    obtain ⟨hv, hu⟩ := hp
    subst hv
    have w : PW D G A s ad N c H locs := by rw [hu] at w; exact w
    clear hu
    refine pz_ifeq (tgt := 19) hx hb dX8_moves_11 (by decide) ((by split <;> exact ⟨by decide, by decide⟩)) (fun hbz => ?_) (fun hbz => ?_)
    · have hbr : ¬ brd lim x y = true := by
        intro h
        rw [if_pos h] at hbz
        omega
      refine lv_aload_n hx hb dX8_moves_19 rfl (lv_at hl 0 rfl) ?_
      refine lv_iload_n hx hb dX8_moves_20 rfl (lv_at hl 1 rfl) ?_
      refine lv_iload_n hx hb dX8_moves_21 rfl (lv_at hl 2 rfl) ?_
      refine pw_ci w (pw_runV (r := 120) (ci := 8) (As := [.int (zI (x : Int)), .int (zI (y : Int))]) (rest := []) w ⟨hx, hb, hml, hown, hts⟩ (c_X8_costOf l D G ad N c (x := x) (y := y) hN hm hh hx9 hy9) (cwV 2 hts gX8_moves_X8_costOf rfl rfl rfl (by decide +kernel) ⟨Nat.le_of_ble_eq_true rfl, Nat.le_of_ble_eq_true rfl⟩) (by omega) hm rfl rfl hl.1 rfl (lv_room (Nat.le_of_ble_eq_true rfl)) dX8_moves_22 ⟨Nat.le_of_ble_eq_true rfl, Nat.le_of_ble_eq_true rfl⟩) (fun r_ u H locs hp w => ?_)
      obtain ⟨hv, hu⟩ := hp
      subst hv
      have w : PW D G A s ad N c H locs := by rw [hu] at w; exact w
      clear hu
      refine pz_top (b := (stp lim x y)) (by unfold stp; rw [if_neg (fun q => q.elim (fun q => by omega) hbr)]) ?_
      exact fin (ad, N, c) c _ _ _ _ _ _ _ rfl ⟨rfl, rfl⟩ w dX8_moves_25 (Nat.le_refl _) (Nat.le_refl _)
    · have hbr : brd lim x y = true := by
        by_cases h : brd lim x y = true
        · exact h
        · rw [if_neg h] at hbz; omega
      refine lv_ldc hx hb hown (hts _ wd_X8_moves_k91) dX8_moves_14 (pz_topI (y := zI (1000000)) (by decide +kernel) ?_)
      refine lv_goto (tgt := 25) hx hb dX8_moves_16 (by decide) ?_
      refine pz_top (b := (stp lim x y)) (by unfold stp; rw [if_pos (Or.inr hbr)]) ?_
      exact fin (ad, N, c) c _ _ _ _ _ _ _ rfl ⟨rfl, rfl⟩ w dX8_moves_25 (Nat.le_refl _) (Nat.le_refl _)

/-- the model's ornaments -/
def MoB (G : Nat → ClassId) (c : Nat → va_E) (no : Nat) (gn : Nat → Nat) (gg : Nat → Nat → Nat) : Prop := (∃ g, isA 0 G (c 122) 32 g ∧ ∀ k, k < no → ∀ j, j < gn k → g (4 * k + j) = (gg k j : Int)) ∧ ∃ g, isA 0 G (c 123) 8 g ∧ ∀ k, k < no → g k = (gn k : Int)
theorem MoB.fr {G : Nat → ClassId} {c c1 : Nat → va_E} {no : Nat} {gn : Nat → Nat} {gg : Nat → Nat → Nat} (h : MoB G c no gn gg) (h1 : c1 122 = c 122) (h2 : c1 123 = c 123) : MoB G c1 no gn gg := by
  obtain ⟨⟨g, a1, a2⟩, g', b1, b2⟩ := h
  exact ⟨⟨g, isA.fr h1 a1, a2⟩, g', isA.fr h2 b1, b2⟩
/-- the numbers of the ornaments are as they may be -/
def OV (no : Nat) (gn : Nat → Nat) (gg : Nat → Nat → Nat) : Prop := no ≤ 8 ∧ ∀ k, k < no → 1 ≤ gn k ∧ gn k ≤ 4 ∧ ∀ j, j < gn k → gg k j ≤ 10
theorem OV.g {no : Nat} {gn : Nat → Nat} {gg : Nat → Nat → Nat} (h : OV no gn gg) : ∀ j, j < no → gn j ≤ 4 ∧ ∀ i, i < gn j → gg j i ≤ 10 := fun j hj => ⟨(h.2 j hj).2.1, (h.2 j hj).2.2⟩

theorem hin_X8_between_8 : ∀ w ∈ u_ws RX8 TX8 21, w ∈ wsX8_between := by decide +kernel
theorem fl_X8_between_20 : Cond.fieldLink RX8 20 "PipersDeskModel" "graceMany" "[I" ∈ wsX8_between := by decide +kernel
theorem fl_X8_between_17 : Cond.fieldLink RX8 17 "PipersDeskModel" "graces" "[I" ∈ wsX8_between := by decide +kernel
theorem wd_X8_between_k91 : Cond.constant RX8 91 (1000000) ∈ wsX8_between := by decide +kernel
abbrev rm_X8_between : Room := { frames := 3, cells := 0, slots := 0, locals := 90 }
set_option maxHeartbeats 4000000 in
set_option maxRecDepth 100000 in
/-- between -/
theorem c_X8_between (l : Launch) (D : va_G) (G : Nat → ClassId) (ad : Nat → Nat) (N : Nat) (c : Nat → va_E) {th lim dn row : Int} {no : Nat} {gn : Nat → Nat} {gg : Nat → Nat → Nat} (hN : 139 ≤ N) (hm : c 120 = .inr (8, moV ad th lim (no : Int) dn row)) (hh : isA 0 G (c 121) 9 closedN) (hlim : bnd lim) (hB : MoB G c no gn gg) (hOV : OV no gn gg) {o x mm y : Nat} (ho9 : o ≤ no) (hx9 : x < 9) (hy9 : y < 9) (hmm : mm ≤ 32) : MC l yX8_between wsX8_between rm_X8_between [.ref (ad 120), .int (zI ((o : Int) - 1)), .int (zI (x : Int)), .int (zI (mm : Int)), .int (zI (y : Int))] D G ad N c (qI D G (fx ad N) (fun v c1 => v = zI (bw lim gn gg x mm y o) ∧ c1 = c)) 0 0 := by
  refine MCi.of (cc := cX8_between) (maxL := 10) (by decide) rfl (Nat.le_of_ble_eq_true rfl) ?_
  intro p e s m args below meth kc A Q hx hb hts hown hml fin H locs w ls hl
  have hown : s.vm.findClass RX8 = some m.cls := hown
  have hl : lv_has ls 10 [(0, .ref (ad 120)), (1, .int (zI ((o : Int) - 1))), (2, .int (zI (x : Int))), (3, .int (zI (mm : Int))), (4, .int (zI (y : Int)))] := hl
  have hno8 := hOV.1
  obtain ⟨⟨g2, b2, b2p⟩, g3, b3, b3p⟩ := id hB
  refine lv_iload_n hx hb dX8_between_0 rfl (lv_at hl 1 rfl) ?_
  refine lv_iconst (v := zI (-1)) hx hb dX8_between_1 rfl ?_
  refine pz_icmpne (tgt := 13) hx hb dX8_between_2 (by decide) (⟨by omega, by omega⟩) (⟨by omega, by omega⟩) (fun ho => ?_) (fun ho => ?_)
  · have ho0 : 0 < o := by omega
    have hk := hOV.2 (o - 1) (by omega)
    have hno := hOV.1
    have e3 := b3p (o - 1) (by omega)
    refine lv_aload_n hx hb dX8_between_13 rfl (lv_at hl 0 rfl) ?_
    refine pw_get (r := 120) (ci := 8) (C := RX8) (T := TX8) (Nf := 21) hx hb w hts hin_X8_between_8 hown (by omega) hm rfl 4 (by decide) (hts _ fl_X8_between_20) (fun _ h9 => h9) rfl dX8_between_14 ?_
    refine lv_iload_n hx hb dX8_between_17 rfl (lv_at hl 1 rfl) ?_
    refine pw_iald (r := 123) (j := (o - 1)) hx hb w (by omega) b3 (by omega) (by omega) (by decide) dX8_between_18 ?_
    refine pz_top (b := (gn (o - 1) : Int)) (e3) ?_
    refine lv_iload_n hx hb dX8_between_19 rfl (lv_at hl 3 rfl) ?_
    have j29 : ∀ (ls : Array Slot), lv_has ls 10 [(0, .ref (ad 120)), (1, .int (zI ((o : Int) - 1))), (2, .int (zI (x : Int))), (3, .int (zI (mm : Int))), (4, .int (zI (y : Int)))] → W p l e rm_X8_between s m args below meth kc H locs 0 0 Q (F0 m 29 ls [.int (zI (if gn (o - 1) < mm then 0 else 1000000))]) := by
      intro ls hl
      refine lv_istore (lv' := [(5, .int (zI (if gn (o - 1) < mm then 0 else 1000000))), (0, .ref (ad 120)), (1, .int (zI ((o : Int) - 1))), (2, .int (zI (x : Int))), (3, .int (zI (mm : Int))), (4, .int (zI (y : Int)))]) hx hb dX8_between_29 hl (by decide) rfl (fun ls hl => ?_)
      refine lv_iload_n hx hb dX8_between_31 rfl (lv_at hl 3 rfl) ?_
      refine lv_istore (lv' := [(6, .int (zI (x : Int))), (5, .int (zI (if gn (o - 1) < mm then 0 else 1000000))), (0, .ref (ad 120)), (1, .int (zI ((o : Int) - 1))), (2, .int (zI (x : Int))), (3, .int (zI (mm : Int))), (4, .int (zI (y : Int)))]) hx hb dX8_between_32 hl (by decide) rfl (fun ls hl => ?_)
      refine lv_iconst (v := zI (0)) hx hb dX8_between_34 rfl ?_
      refine lv_istore (lv' := [(7, .int (zI 0)), (6, .int (zI (x : Int))), (5, .int (zI (if gn (o - 1) < mm then 0 else 1000000))), (0, .ref (ad 120)), (1, .int (zI ((o : Int) - 1))), (2, .int (zI (x : Int))), (3, .int (zI (mm : Int))), (4, .int (zI (y : Int)))]) hx hb dX8_between_35 hl (by decide) rfl (fun ls hl => ?_)
      have lp : ∀ (n : Nat) (i : Nat) (H : Heap) (locs : List Loc) (ls : Array Slot), i ≤ gn (o - 1) → gn (o - 1) < i + n → PW D G A s ad N c H locs → lv_has ls 10 [(0, .ref (ad 120)), (1, .int (zI ((o : Int) - 1))), (2, .int (zI (x : Int))), (3, .int (zI (mm : Int))), (4, .int (zI (y : Int))), (5, .int (zI ((if gn (o - 1) < mm then 0 else 1000000) + orS lim (gg (o - 1)) x y i))), (6, .int (zI (orF (gg (o - 1)) x y i : Int))), (7, .int (zI (i : Int)))] → W p l e rm_X8_between s m args below meth kc H locs 0 0 Q (F0 m 37 ls []) := by
        intro n
        induction n with
        | zero => intro i H locs ls h9 hfu w hl; omega
        | succ n ih =>
          intro i H locs ls h9 hfu w hl
          have hf := orF_lt hk.2.2 hx9 hy9 i (by omega)
          refine lv_iload hx hb dX8_between_37 (lv_at hl 7 rfl) ?_
          refine lv_aload_n hx hb dX8_between_39 rfl (lv_at hl 0 rfl) ?_
          refine pw_get (r := 120) (ci := 8) (C := RX8) (T := TX8) (Nf := 21) hx hb w hts hin_X8_between_8 hown (by omega) hm rfl 4 (by decide) (hts _ fl_X8_between_20) (fun _ h9 => h9) rfl dX8_between_40 ?_
          refine lv_iload_n hx hb dX8_between_43 rfl (lv_at hl 1 rfl) ?_
          refine pw_iald (r := 123) (j := (o - 1)) hx hb w (by omega) b3 (by omega) (by omega) (by decide) dX8_between_44 ?_
          refine pz_top (b := (gn (o - 1) : Int)) (e3) ?_
          refine pz_icmpge (tgt := 111) hx hb dX8_between_45 (by decide) (⟨by omega, by omega⟩) (⟨by omega, by omega⟩) (fun hi => ?_) (fun hi => ?_)
          · have i9 : i = gn (o - 1) := by omega
            subst i9
            refine lv_iload hx hb dX8_between_111 (lv_at hl 5 rfl) ?_
            refine lv_aload_n hx hb dX8_between_113 rfl (lv_at hl 0 rfl) ?_
            refine lv_iload hx hb dX8_between_114 (lv_at hl 6 rfl) ?_
            refine lv_iload hx hb dX8_between_116 (lv_at hl 4 rfl) ?_
            refine pw_ci w (pw_runV (r := 120) (ci := 8) (As := [.int (zI (orF (gg (o - 1)) x y (gn (o - 1)) : Int)), .int (zI (y : Int))]) (rest := [.int (zI ((if gn (o - 1) < mm then 0 else 1000000) + orS lim (gg (o - 1)) x y (gn (o - 1))))]) w ⟨hx, hb, hml, hown, hts⟩ (c_X8_moves l D G ad N c (x := orF (gg (o - 1)) x y (gn (o - 1))) (y := y) hN hm hh hf hy9 hlim) (cwV 2 hts gX8_between_X8_moves rfl rfl rfl (by decide +kernel) ⟨Nat.le_of_ble_eq_true rfl, Nat.le_of_ble_eq_true rfl⟩) (by omega) hm rfl rfl hl.1 rfl (lv_room (Nat.le_of_ble_eq_true rfl)) dX8_between_118 ⟨Nat.le_of_ble_eq_true rfl, Nat.le_of_ble_eq_true rfl⟩) (fun r_ u H locs hp w => ?_)
            obtain ⟨hv, hu⟩ := hp
            subst hv
            have w : PW D G A s ad N c H locs := by rw [hu] at w; exact w
            clear hu
            refine pz_iadd hx hb dX8_between_121 ?_
            refine pz_top (b := (bw lim gn gg x mm y o)) (by unfold bw; rw [if_neg (show ¬ o = 0 by omega)]) ?_
            exact fin (ad, N, c) c _ _ _ _ _ _ _ rfl ⟨rfl, rfl⟩ w dX8_between_122 (Nat.le_refl _) (Nat.le_refl _)
          · have hgi := hk.2.2 i (by omega)
            have hsn := snd_lt hgi hx9 hy9
            have e2 := b2p (o - 1) (by omega) i (by omega)
            refine lv_aload_n hx hb dX8_between_48 rfl (lv_at hl 0 rfl) ?_
            refine pw_get (r := 120) (ci := 8) (C := RX8) (T := TX8) (Nf := 21) hx hb w hts hin_X8_between_8 hown (by omega) hm rfl 3 (by decide) (hts _ fl_X8_between_17) (fun _ h9 => h9) rfl dX8_between_49 ?_
            refine lv_iconst (v := zI (4)) hx hb dX8_between_52 rfl ?_
            refine lv_iload_n hx hb dX8_between_53 rfl (lv_at hl 1 rfl) ?_
            refine pz_imul hx hb dX8_between_54 ?_
            refine lv_iload hx hb dX8_between_55 (lv_at hl 7 rfl) ?_
            refine pz_iadd hx hb dX8_between_57 ?_
            refine pw_iald (r := 122) (j := (4 * (o - 1) + i)) hx hb w (by omega) b2 (by omega) (by omega) (by decide) dX8_between_58 ?_
            refine pz_top (b := (gg (o - 1) i : Int)) (e2) ?_
            refine lv_istore (lv' := [(8, .int (zI (gg (o - 1) i : Int))), (0, .ref (ad 120)), (1, .int (zI ((o : Int) - 1))), (2, .int (zI (x : Int))), (3, .int (zI (mm : Int))), (4, .int (zI (y : Int))), (5, .int (zI ((if gn (o - 1) < mm then 0 else 1000000) + orS lim (gg (o - 1)) x y i))), (6, .int (zI (orF (gg (o - 1)) x y i : Int))), (7, .int (zI (i : Int)))]) hx hb dX8_between_59 hl (by decide) rfl (fun ls hl => ?_)
            refine lv_iload hx hb dX8_between_61 (lv_at hl 0 rfl) ?_
            refine lv_bipush (v := zI (9)) hx hb dX8_between_63 (by decide +kernel) ?_
            have j86 : ∀ (ls : Array Slot), lv_has ls 10 [(8, .int (zI (gg (o - 1) i : Int))), (0, .ref (ad 120)), (1, .int (zI ((o : Int) - 1))), (2, .int (zI (x : Int))), (3, .int (zI (mm : Int))), (4, .int (zI (y : Int))), (5, .int (zI ((if gn (o - 1) < mm then 0 else 1000000) + orS lim (gg (o - 1)) x y i))), (6, .int (zI (orF (gg (o - 1)) x y i : Int))), (7, .int (zI (i : Int)))] → W p l e rm_X8_between s m args below meth kc H locs 0 0 Q (F0 m 86 ls [.int (zI (snd (gg (o - 1) i) x y : Int))]) := by
              intro ls hl
              refine lv_istore (lv' := [(9, .int (zI (snd (gg (o - 1) i) x y : Int))), (8, .int (zI (gg (o - 1) i : Int))), (0, .ref (ad 120)), (1, .int (zI ((o : Int) - 1))), (2, .int (zI (x : Int))), (3, .int (zI (mm : Int))), (4, .int (zI (y : Int))), (5, .int (zI ((if gn (o - 1) < mm then 0 else 1000000) + orS lim (gg (o - 1)) x y i))), (6, .int (zI (orF (gg (o - 1)) x y i : Int))), (7, .int (zI (i : Int)))]) hx hb dX8_between_86 hl (by decide) rfl (fun ls hl => ?_)
              refine lv_iload hx hb dX8_between_88 (lv_at hl 7 rfl) ?_
              refine lv_aload_n hx hb dX8_between_90 rfl (lv_at hl 2 rfl) ?_
              refine lv_iload hx hb dX8_between_91 (lv_at hl 8 rfl) ?_
              refine lv_iload hx hb dX8_between_93 (lv_at hl 0 rfl) ?_
              refine pw_ci w (pw_runV (r := 120) (ci := 8) (As := [.int (zI (orF (gg (o - 1)) x y i : Int)), .int (zI (snd (gg (o - 1) i) x y : Int))]) (rest := [.int (zI ((if gn (o - 1) < mm then 0 else 1000000) + orS lim (gg (o - 1)) x y i))]) w ⟨hx, hb, hml, hown, hts⟩ (c_X8_moves l D G ad N c (x := orF (gg (o - 1)) x y i) (y := snd (gg (o - 1) i) x y) hN hm hh hf hsn hlim) (cwV 2 hts gX8_between_X8_moves rfl rfl rfl (by decide +kernel) ⟨Nat.le_of_ble_eq_true rfl, Nat.le_of_ble_eq_true rfl⟩) (by omega) hm rfl rfl hl.1 rfl (lv_room (Nat.le_of_ble_eq_true rfl)) dX8_between_95 ⟨Nat.le_of_ble_eq_true rfl, Nat.le_of_ble_eq_true rfl⟩) (fun r_ u H locs hp w => ?_)
              obtain ⟨hv, hu⟩ := hp
              subst hv
              have w : PW D G A s ad N c H locs := by rw [hu] at w; exact w
              clear hu
              refine pz_iadd hx hb dX8_between_98 ?_
              refine pz_top (b := ((if gn (o - 1) < mm then 0 else 1000000) + orS lim (gg (o - 1)) x y (i + 1))) (by rw [orS]; omega) ?_
              refine lv_istore (lv' := [(5, .int (zI ((if gn (o - 1) < mm then 0 else 1000000) + orS lim (gg (o - 1)) x y (i + 1)))), (9, .int (zI (snd (gg (o - 1) i) x y : Int))), (8, .int (zI (gg (o - 1) i : Int))), (0, .ref (ad 120)), (1, .int (zI ((o : Int) - 1))), (2, .int (zI (x : Int))), (3, .int (zI (mm : Int))), (4, .int (zI (y : Int))), (6, .int (zI (orF (gg (o - 1)) x y i : Int))), (7, .int (zI (i : Int)))]) hx hb dX8_between_99 hl (by decide) rfl (fun ls hl => ?_)
              refine lv_iload hx hb dX8_between_101 (lv_at hl 1 rfl) ?_
              refine lv_istore (lv' := [(6, .int (zI (snd (gg (o - 1) i) x y : Int))), (5, .int (zI ((if gn (o - 1) < mm then 0 else 1000000) + orS lim (gg (o - 1)) x y (i + 1)))), (9, .int (zI (snd (gg (o - 1) i) x y : Int))), (8, .int (zI (gg (o - 1) i : Int))), (0, .ref (ad 120)), (1, .int (zI ((o : Int) - 1))), (2, .int (zI (x : Int))), (3, .int (zI (mm : Int))), (4, .int (zI (y : Int))), (7, .int (zI (i : Int)))]) hx hb dX8_between_103 hl (by decide) rfl (fun ls hl => ?_)
              refine pz_iinc (lv' := [(7, .int (zI ((i + 1 : Nat) : Int))), (6, .int (zI (snd (gg (o - 1) i) x y : Int))), (5, .int (zI ((if gn (o - 1) < mm then 0 else 1000000) + orS lim (gg (o - 1)) x y (i + 1)))), (9, .int (zI (snd (gg (o - 1) i) x y : Int))), (8, .int (zI (gg (o - 1) i : Int))), (0, .ref (ad 120)), (1, .int (zI ((o : Int) - 1))), (2, .int (zI (x : Int))), (3, .int (zI (mm : Int))), (4, .int (zI (y : Int)))]) hx hb dX8_between_105 hl (j := 9) rfl ((i + 1 : Nat) : Int) (by omega) (by decide) rfl (fun ls hl => ?_)
              refine lv_goto (tgt := 37) hx hb dX8_between_108 (by decide) ?_
              exact ih (i + 1) H locs ls (by omega) (by omega) w (lv_sub hl [5, 6, 7, 8, 9, 2, 1, 0] rfl)
            refine pz_icmpne (tgt := 73) hx hb dX8_between_65 (by decide) (⟨by omega, by omega⟩) (⟨by omega, by omega⟩) (fun h1 => ?_) (fun h1 => ?_)
            · refine lv_iload hx hb dX8_between_73 (lv_at hl 0 rfl) ?_
              refine lv_bipush (v := zI (10)) hx hb dX8_between_75 (by decide +kernel) ?_
              refine pz_icmpne (tgt := 84) hx hb dX8_between_77 (by decide) (⟨by omega, by omega⟩) (⟨by omega, by omega⟩) (fun h2 => ?_) (fun h2 => ?_)
              · refine lv_iload hx hb dX8_between_84 (lv_at hl 0 rfl) ?_
                refine pz_top (b := (snd (gg (o - 1) i) x y : Int)) (by unfold snd; rw [if_neg (by omega), if_neg (by omega)]) ?_
                exact j86 ls (lv_sub hl [0, 1, 2, 3, 4, 5, 6, 7, 8] rfl)
              · refine lv_iload_n hx hb dX8_between_80 rfl (lv_at hl 3 rfl) ?_
                refine lv_goto (tgt := 86) hx hb dX8_between_81 (by decide) ?_
                refine pz_top (b := (snd (gg (o - 1) i) x y : Int)) (by unfold snd; rw [if_neg (by omega), if_pos (by omega)]) ?_
                exact j86 ls (lv_sub hl [0, 1, 2, 3, 4, 5, 6, 7, 8] rfl)
            · refine lv_iload hx hb dX8_between_68 (lv_at hl 5 rfl) ?_
              refine lv_goto (tgt := 86) hx hb dX8_between_70 (by decide) ?_
              refine pz_top (b := (snd (gg (o - 1) i) x y : Int)) (by unfold snd; rw [if_pos (by omega)]) ?_
              exact j86 ls (lv_sub hl [0, 1, 2, 3, 4, 5, 6, 7, 8] rfl)
      exact lp (gn (o - 1) + 1) 0 H locs ls (by omega) (by omega) w (by rw [show ((if gn (o - 1) < mm then 0 else 1000000) + orS lim (gg (o - 1)) x y 0) = (if gn (o - 1) < mm then 0 else 1000000) from by rw [orS]; omega]; exact (lv_sub hl [3, 4, 5, 6, 7, 2, 1, 0] rfl))
    refine pz_icmpge (tgt := 27) hx hb dX8_between_20 (by decide) (⟨by omega, by omega⟩) (⟨by omega, by omega⟩) (fun hlen => ?_) (fun hlen => ?_)
    · refine lv_ldc hx hb hown (hts _ wd_X8_between_k91) dX8_between_27 (pz_topI (y := zI (1000000)) (by decide +kernel) ?_)
      refine pz_top (b := (if gn (o - 1) < mm then 0 else 1000000)) (by rw [if_neg (by omega)]) ?_
      exact j29 ls (lv_sub hl [0, 1, 2, 3, 4] rfl)
    · refine lv_iconst (v := zI (0)) hx hb dX8_between_23 rfl ?_
      refine lv_goto (tgt := 29) hx hb dX8_between_24 (by decide) ?_
      refine pz_top (b := (if gn (o - 1) < mm then 0 else 1000000)) (by rw [if_pos (by omega)]) ?_
      exact j29 ls (lv_sub hl [0, 1, 2, 3, 4] rfl)
  · refine lv_aload_n hx hb dX8_between_5 rfl (lv_at hl 0 rfl) ?_
    refine lv_iload_n hx hb dX8_between_6 rfl (lv_at hl 2 rfl) ?_
    refine lv_iload hx hb dX8_between_7 (lv_at hl 4 rfl) ?_
    refine pw_ci w (pw_runV (r := 120) (ci := 8) (As := [.int (zI (x : Int)), .int (zI (y : Int))]) (rest := []) w ⟨hx, hb, hml, hown, hts⟩ (c_X8_moves l D G ad N c (x := x) (y := y) hN hm hh hx9 hy9 hlim) (cwV 2 hts gX8_between_X8_moves rfl rfl rfl (by decide +kernel) ⟨Nat.le_of_ble_eq_true rfl, Nat.le_of_ble_eq_true rfl⟩) (by omega) hm rfl rfl hl.1 rfl (lv_room (Nat.le_of_ble_eq_true rfl)) dX8_between_9 ⟨Nat.le_of_ble_eq_true rfl, Nat.le_of_ble_eq_true rfl⟩) (fun r_ u H locs hp w => ?_)
    obtain ⟨hv, hu⟩ := hp
    subst hv
    have w : PW D G A s ad N c H locs := by rw [hu] at w; exact w
    clear hu
    refine pz_top (b := (bw lim gn gg x mm y o)) (by unfold bw; rw [if_pos (by omega)]) ?_
    exact fin (ad, N, c) c _ _ _ _ _ _ _ rfl ⟨rfl, rfl⟩ w dX8_between_12 (Nat.le_refl _) (Nat.le_refl _)
