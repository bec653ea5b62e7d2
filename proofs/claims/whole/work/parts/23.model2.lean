/-- the row of notes that is laid -/
def RowP (G : Nat → ClassId) (c : Nat → va_E) (r : Nat) (rp rl : Nat → Nat) (rw : Nat → Int) : Prop := (∃ g, isA 0 G (c 129) 40 g ∧ ∀ i, i < r → g i = (rp i : Int)) ∧ (∃ g, isA 0 G (c 130) 40 g ∧ ∀ i, i < r → g i = (rl i : Int)) ∧ ∃ g, isA 1 G (c 131) 40 g ∧ ∀ i, i < r → g i = rw i
def RowV (r : Nat) (rp rl : Nat → Nat) (rw : Nat → Int) : Prop := r ≤ 40 ∧ ∀ i, i < r → rp i < 9 ∧ 1 ≤ rl i ∧ rl i ≤ 32 ∧ (rw i = 0 ∨ rw i = 1)
theorem RowP.fr {G : Nat → ClassId} {c c1 : Nat → va_E} {r : Nat} {rp rl : Nat → Nat} {rw : Nat → Int} (h : RowP G c r rp rl rw) (hf : ∀ q, 129 ≤ q → q < 132 → c1 q = c q) : RowP G c1 r rp rl rw := by
  obtain ⟨⟨g1, a1, b1⟩, ⟨g2, a2, b2⟩, g3, a3, b3⟩ := h
  exact ⟨⟨g1, isA.fr (hf 129 (by omega) (by omega)) a1, b1⟩, ⟨g2, isA.fr (hf 130 (by omega) (by omega)) a2, b2⟩, g3, isA.fr (hf 131 (by omega) (by omega)) a3, b3⟩
/-- the model's tunes -/
def MoT (G : Nat → ClassId) (c : Nat → va_E) (nn : Nat → Nat) (pt ln : Nat → Nat → Nat) (wi : Nat → Nat → Int) : Prop := (∃ g, isA 0 G (c 125) 40 g ∧ ∀ t, t < 4 → ∀ i, i < nn t → g (10 * t + i) = (pt t i : Int)) ∧ (∃ g, isA 0 G (c 126) 40 g ∧ ∀ t, t < 4 → ∀ i, i < nn t → g (10 * t + i) = (ln t i : Int)) ∧ (∃ g, isA 1 G (c 127) 40 g ∧ ∀ t, t < 4 → ∀ i, i + 1 < nn t → g (10 * t + i) = wi t i) ∧ isA 0 G (c 128) 4 (fun t => (nn t : Int))
theorem MoT.fr {G : Nat → ClassId} {c c1 : Nat → va_E} {nn : Nat → Nat} {pt ln : Nat → Nat → Nat} {wi : Nat → Nat → Int} (h : MoT G c nn pt ln wi) (hf : ∀ q, 125 ≤ q → q < 129 → c1 q = c q) : MoT G c1 nn pt ln wi := by
  obtain ⟨⟨g1, a1, b1⟩, ⟨g2, a2, b2⟩, ⟨g3, a3, b3⟩, a4⟩ := h
  exact ⟨⟨g1, isA.fr (hf 125 (by omega) (by omega)) a1, b1⟩, ⟨g2, isA.fr (hf 126 (by omega) (by omega)) a2, b2⟩, ⟨g3, isA.fr (hf 127 (by omega) (by omega)) a3, b3⟩, isA.fr (hf 128 (by omega) (by omega)) a4⟩

theorem hin_X8_at_8 : ∀ w ∈ u_ws RX8 TX8 21, w ∈ wsX8_at := by decide +kernel
theorem fl_X8_at_39 : Cond.fieldLink RX8 39 "PipersDeskModel" "rowPitches" "[I" ∈ wsX8_at := by decide +kernel
theorem fl_X8_at_42 : Cond.fieldLink RX8 42 "PipersDeskModel" "rowLengths" "[I" ∈ wsX8_at := by decide +kernel
theorem fl_X8_at_45 : Cond.fieldLink RX8 45 "PipersDeskModel" "rowWishes" "[Z" ∈ wsX8_at := by decide +kernel
theorem wd_X8_at_k91 : Cond.constant RX8 91 (1000000) ∈ wsX8_at := by decide +kernel
abbrev rm_X8_at : Room := { frames := 4, cells := 0, slots := 0, locals := 120 }
set_option maxHeartbeats 4000000 in
set_option maxRecDepth 100000 in
/-- at -/
theorem c_X8_at (l : Launch) (D : va_G) (G : Nat → ClassId) (ad : Nat → Nat) (N : Nat) (c : Nat → va_E) {th lim dn row : Int} {no : Nat} (hN : 139 ≤ N) (hm : c 120 = .inr (8, moV ad th lim (no : Int) dn row)) {gn : Nat → Nat} {gg : Nat → Nat → Nat} (hh : isA 0 G (c 121) 9 closedN) (hlim : bnd lim) (hB : MoB G c no gn gg) (hOV : OV no gn gg) {r : Nat} {rp rl : Nat → Nat} {rw : Nat → Int} (hR : RowP G c r rp rl rw) (hRV : RowV r rp rl rw) {gap o : Nat} (hgap : gap + 1 < r) (ho9 : o ≤ no) : MC l yX8_at wsX8_at rm_X8_at [.ref (ad 120), .int (zI (gap : Int)), .int (zI ((o : Int) - 1))] D G ad N c (qI D G (fx ad N) (fun v c1 => v = zI (atc lim gn gg rp rl rw gap o) ∧ c1 = c)) 0 0 := by
  refine MCi.of (cc := cX8_at) (maxL := 4) (by decide) rfl (Nat.le_of_ble_eq_true rfl) ?_
  intro p e s m args below meth kc A Q hx hb hts hown hml fin H locs w ls hl
  have hown : s.vm.findClass RX8 = some m.cls := hown
  have hl : lv_has ls 4 [(0, .ref (ad 120)), (1, .int (zI (gap : Int))), (2, .int (zI ((o : Int) - 1)))] := hl
  obtain ⟨⟨gp, r1, r1p⟩, ⟨gl, r2, r2p⟩, gw, r3, r3p⟩ := id hR
  have hno8 := hOV.1
  have hr8 := hRV.1
  have hv0 := hRV.2 gap (by omega)
  have hv1 := hRV.2 (gap + 1) (by omega)
  have hbw := bw_bd (lim := lim) (m := rl gap) (x := rp gap) (y := rp (gap + 1)) hOV.g hv0.1 hv1.1 ho9
  refine lv_aload_n hx hb dX8_at_0 rfl (lv_at hl 0 rfl) ?_
  refine lv_iload_n hx hb dX8_at_1 rfl (lv_at hl 2 rfl) ?_
  refine lv_aload_n hx hb dX8_at_2 rfl (lv_at hl 0 rfl) ?_
  refine pw_get (r := 120) (ci := 8) (C := RX8) (T := TX8) (Nf := 21) hx hb w hts hin_X8_at_8 hown (by omega) hm rfl 12 (by decide) (hts _ fl_X8_at_39) (fun _ h9 => h9) rfl dX8_at_3 ?_
  refine lv_iload_n hx hb dX8_at_6 rfl (lv_at hl 1 rfl) ?_
  refine pw_iald (r := 129) (j := gap) hx hb w (by omega) r1 (by omega) (by omega) (by decide) dX8_at_7 ?_
  refine pz_top (b := (rp gap : Int)) (r1p gap (by omega)) ?_
  refine lv_aload_n hx hb dX8_at_8 rfl (lv_at hl 0 rfl) ?_
  refine pw_get (r := 120) (ci := 8) (C := RX8) (T := TX8) (Nf := 21) hx hb w hts hin_X8_at_8 hown (by omega) hm rfl 13 (by decide) (hts _ fl_X8_at_42) (fun _ h9 => h9) rfl dX8_at_9 ?_
  refine lv_iload_n hx hb dX8_at_12 rfl (lv_at hl 1 rfl) ?_
  refine pw_iald (r := 130) (j := gap) hx hb w (by omega) r2 (by omega) (by omega) (by decide) dX8_at_13 ?_
  refine pz_top (b := (rl gap : Int)) (r2p gap (by omega)) ?_
  refine lv_aload_n hx hb dX8_at_14 rfl (lv_at hl 0 rfl) ?_
  refine pw_get (r := 120) (ci := 8) (C := RX8) (T := TX8) (Nf := 21) hx hb w hts hin_X8_at_8 hown (by omega) hm rfl 12 (by decide) (hts _ fl_X8_at_39) (fun _ h9 => h9) rfl dX8_at_15 ?_
  refine lv_iload_n hx hb dX8_at_18 rfl (lv_at hl 1 rfl) ?_
  refine lv_iconst (v := zI (1)) hx hb dX8_at_19 rfl ?_
  refine pz_iadd hx hb dX8_at_20 ?_
  refine pw_iald (r := 129) (j := (gap + 1)) hx hb w (by omega) r1 (by omega) (by omega) (by decide) dX8_at_21 ?_
  refine pz_top (b := (rp (gap + 1) : Int)) (r1p (gap + 1) (by omega)) ?_
  refine pw_ci w (pw_runV (r := 120) (ci := 8) (As := [.int (zI ((o : Int) - 1)), .int (zI (rp gap : Int)), .int (zI (rl gap : Int)), .int (zI (rp (gap + 1) : Int))]) (rest := []) w ⟨hx, hb, hml, hown, hts⟩ (c_X8_between l D G ad N c (o := o) (x := rp gap) (mm := rl gap) (y := rp (gap + 1)) hN hm hh hlim hB hOV ho9 hv0.1 hv1.1 hv0.2.2.1) (cwV 4 hts gX8_at_X8_between rfl rfl rfl (by decide +kernel) ⟨Nat.le_of_ble_eq_true rfl, Nat.le_of_ble_eq_true rfl⟩) (by omega) hm rfl rfl hl.1 rfl (lv_room (Nat.le_of_ble_eq_true rfl)) dX8_at_22 ⟨Nat.le_of_ble_eq_true rfl, Nat.le_of_ble_eq_true rfl⟩) (fun r_ u H locs hp w => ?_)
  obtain ⟨hv, hu⟩ := hp
  subst hv
  have w : PW D G A s ad N c H locs := by rw [hu] at w; exact w
  clear hu
  refine lv_istore_n (lv' := [(3, .int (zI (bw lim gn gg (rp gap) (rl gap) (rp (gap + 1)) o))), (0, .ref (ad 120)), (1, .int (zI (gap : Int))), (2, .int (zI ((o : Int) - 1)))]) hx hb dX8_at_25 rfl hl (by decide) rfl (fun ls hl => ?_)
  refine lv_iload_n hx hb dX8_at_26 rfl (lv_at hl 3 rfl) ?_
  refine lv_iconst (v := zI (-1)) hx hb dX8_at_27 rfl ?_
  refine pz_icmpne (tgt := 45) hx hb dX8_at_28 (by decide) (⟨by omega, by omega⟩) (⟨by omega, by omega⟩) (fun ho => ?_) (fun ho => ?_)
  · refine lv_iload_n hx hb dX8_at_45 rfl (lv_at hl 0 rfl) ?_
    refine pz_top (b := (atc lim gn gg rp rl rw gap o)) (by unfold atc; rw [if_neg (fun h => by have := h.1; omega)]) ?_
    exact fin (ad, N, c) c _ _ _ _ _ _ _ rfl ⟨rfl, rfl⟩ w dX8_at_46 (Nat.le_refl _) (Nat.le_refl _)
  · refine lv_aload_n hx hb dX8_at_31 rfl (lv_at hl 1 rfl) ?_
    refine pw_get (r := 120) (ci := 8) (C := RX8) (T := TX8) (Nf := 21) hx hb w hts hin_X8_at_8 hown (by omega) hm rfl 14 (by decide) (hts _ fl_X8_at_45) (fun _ h9 => h9) rfl dX8_at_32 ?_
    refine lv_iload_n hx hb dX8_at_35 rfl (lv_at hl 2 rfl) ?_
    refine pw_zald (r := 131) (j := gap) hx hb w (by omega) r3 (by omega) (by omega) (by decide) dX8_at_36 ?_
    refine pz_top (b := (rw gap)) (r3p gap (by omega)) ?_
    refine pz_ifeq (tgt := 45) hx hb dX8_at_37 (by decide) (⟨by omega, by omega⟩) (fun hw => ?_) (fun hw => ?_)
    · refine lv_iload_n hx hb dX8_at_45 rfl (lv_at hl 0 rfl) ?_
      refine pz_top (b := (atc lim gn gg rp rl rw gap o)) (by unfold atc; rw [if_neg (fun h => h.2 hw)]) ?_
      exact fin (ad, N, c) c _ _ _ _ _ _ _ rfl ⟨rfl, rfl⟩ w dX8_at_46 (Nat.le_refl _) (Nat.le_refl _)
    · refine lv_ldc hx hb hown (hts _ wd_X8_at_k91) dX8_at_40 (pz_topI (y := zI (1000000)) (by decide +kernel) ?_)
      refine lv_goto (tgt := 46) hx hb dX8_at_42 (by decide) ?_
      refine pz_top (b := (atc lim gn gg rp rl rw gap o)) (by unfold atc; rw [if_pos ⟨by omega, hw⟩]) ?_
      exact fin (ad, N, c) c _ _ _ _ _ _ _ rfl ⟨rfl, rfl⟩ w dX8_at_46 (Nat.le_refl _) (Nat.le_refl _)

theorem hin_X8_isGap_8 : ∀ w ∈ u_ws RX8 TX8 21, w ∈ wsX8_isGap := by decide +kernel
theorem fl_X8_isGap_36 : Cond.fieldLink RX8 36 "PipersDeskModel" "noteMany" "[I" ∈ wsX8_isGap := by decide +kernel
abbrev rm_X8_isGap : Room := { frames := 1, cells := 0, slots := 0, locals := 30 }
set_option maxHeartbeats 4000000 in
set_option maxRecDepth 100000 in
/-- isGap -/
theorem c_X8_isGap (l : Launch) (D : va_G) (G : Nat → ClassId) (ad : Nat → Nat) (N : Nat) (c : Nat → va_E) {th lim dn row : Int} {no : Nat} (hN : 139 ≤ N) (hm : c 120 = .inr (8, moV ad th lim (no : Int) dn row)) {nn : Nat → Nat} {pt ln : Nat → Nat → Nat} {wi : Nat → Nat → Int} (hMT : MoT G c nn pt ln wi) (hUV : TusV nn pt ln wi) {t : Nat} {z : Int} (ht : t < 4) (hz9 : bnd z) : MC l yX8_isGap wsX8_isGap rm_X8_isGap [.ref (ad 120), .int (zI (t : Int)), .int (zI z)] D G ad N c (qI D G (fx ad N) (fun v c1 => v = zI (if 0 ≤ z ∧ z ≤ (nn t : Int) - 2 then 1 else 0) ∧ c1 = c)) 0 0 := by
  refine MCz.of (cc := cX8_isGap) (maxL := 3) (by decide) rfl (Nat.le_of_ble_eq_true rfl) ?_
  intro p e s m args below meth kc A Q hx hb hts hown hml fin H locs w ls hl
  have hown : s.vm.findClass RX8 = some m.cls := hown
  have hl : lv_has ls 3 [(0, .ref (ad 120)), (1, .int (zI (t : Int))), (2, .int (zI z))] := hl
  have hn := (hUV t ht).1
  refine lv_iload_n hx hb dX8_isGap_0 rfl (lv_at hl 2 rfl) ?_
  refine lv_iconst (v := zI (0)) hx hb dX8_isGap_1 rfl ?_
  refine lv_aload_n hx hb dX8_isGap_2 rfl (lv_at hl 0 rfl) ?_
  refine pw_get (r := 120) (ci := 8) (C := RX8) (T := TX8) (Nf := 21) hx hb w hts hin_X8_isGap_8 hown (by omega) hm rfl 11 (by decide) (hts _ fl_X8_isGap_36) (fun _ h9 => h9) rfl dX8_isGap_3 ?_
  refine lv_iload_n hx hb dX8_isGap_6 rfl (lv_at hl 1 rfl) ?_
  refine pw_iald (r := 128) (j := t) hx hb w (by omega) hMT.2.2.2 (by omega) (by omega) (by decide) dX8_isGap_7 ?_
  refine lv_iconst (v := zI (2)) hx hb dX8_isGap_8 rfl ?_
  refine pz_isub hx hb dX8_isGap_9 ?_
  refine pw_ci w (pw_runS (As := [.int (zI z), .int (zI 0), .int (zI (((fun t => (nn t : Int)) t) - 2))]) (rest := []) w ⟨hx, hb, hml, hown, hts⟩ (c_X8_in l D G ad N c (v := z) (lo := 0) (hi := ((nn t : Int) - 2)) hz9 ⟨by decide, by decide⟩ ⟨by omega, by omega⟩) (va_cwS 3 hts gX8_isGap_X8_in rfl rfl rfl (by decide +kernel) ⟨Nat.le_of_ble_eq_true rfl, Nat.le_of_ble_eq_true rfl⟩) rfl hl.1 rfl (lv_room (Nat.le_of_ble_eq_true rfl)) dX8_isGap_10 ⟨Nat.le_of_ble_eq_true rfl, Nat.le_of_ble_eq_true rfl⟩) (fun r_ u H locs hp w => ?_)
  obtain ⟨hv, hu⟩ := hp
  subst hv
  have w : PW D G A s ad N c H locs := by rw [hu] at w; exact w
  clear hu
  exact fin (ad, N, c) c _ _ _ _ _ _ _ rfl (by split <;> first | exact Or.inr rfl | exact Or.inl rfl) ⟨rfl, rfl⟩ w dX8_isGap_13 (Nat.le_refl _) (Nat.le_refl _)

def apN {α : Type} (r : Nat) (f g : Nat → α) : Nat → α := fun i => if i < r then f i else g (i - r)

theorem hin_X8_append_8 : ∀ w ∈ u_ws RX8 TX8 21, w ∈ wsX8_append := by decide +kernel
theorem fl_X8_append_36 : Cond.fieldLink RX8 36 "PipersDeskModel" "noteMany" "[I" ∈ wsX8_append := by decide +kernel
theorem fl_X8_append_39 : Cond.fieldLink RX8 39 "PipersDeskModel" "rowPitches" "[I" ∈ wsX8_append := by decide +kernel
theorem fl_X8_append_105 : Cond.fieldLink RX8 105 "PipersDeskModel" "row" "I" ∈ wsX8_append := by decide +kernel
theorem fl_X8_append_26 : Cond.fieldLink RX8 26 "PipersDeskModel" "pitches" "[I" ∈ wsX8_append := by decide +kernel
theorem fl_X8_append_42 : Cond.fieldLink RX8 42 "PipersDeskModel" "rowLengths" "[I" ∈ wsX8_append := by decide +kernel
theorem fl_X8_append_29 : Cond.fieldLink RX8 29 "PipersDeskModel" "lengths" "[I" ∈ wsX8_append := by decide +kernel
theorem fl_X8_append_45 : Cond.fieldLink RX8 45 "PipersDeskModel" "rowWishes" "[Z" ∈ wsX8_append := by decide +kernel
theorem fl_X8_append_32 : Cond.fieldLink RX8 32 "PipersDeskModel" "wishes" "[Z" ∈ wsX8_append := by decide +kernel
abbrev rm_X8_append : Room := { frames := 0, cells := 0, slots := 0, locals := 0 }
set_option maxHeartbeats 4000000 in
set_option maxRecDepth 100000 in
/-- append -/
theorem c_X8_append (l : Launch) (D : va_G) (G : Nat → ClassId) (ad : Nat → Nat) (N : Nat) (c : Nat → va_E) {th lim dn : Int} {no r : Nat} (hN : 139 ≤ N) (hm : c 120 = .inr (8, moV ad th lim (no : Int) dn (r : Int))) {rp rl : Nat → Nat} {rw : Nat → Int} (hR : RowP G c r rp rl rw) {nn : Nat → Nat} {pt ln : Nat → Nat → Nat} {wi : Nat → Nat → Int} (hMT : MoT G c nn pt ln wi) (hUV : TusV nn pt ln wi) {t : Nat} (ht : t < 4) (hr40 : r + nn t ≤ 40) : MC l yX8_append wsX8_append rm_X8_append [.ref (ad 120), .int (zI (t : Int))] D G ad N c (qV D G (fx ad N) (fun c1 => c1 120 = .inr (8, moV ad th lim (no : Int) dn ((r + nn t : Nat) : Int)) ∧ RowP G c1 (r + nn t) (apN r rp (pt t)) (apN r rl (ln t)) (apN r rw (fun i => if i + 1 < nn t then wi t i else 0)) ∧ ∀ q, q ≠ 120 ∧ q ≠ 129 ∧ q ≠ 130 ∧ q ≠ 131 → c1 q = c q)) 0 0 := by
  refine MCv.of (cc := cX8_append) (maxL := 3) (by decide) rfl (Nat.le_of_ble_eq_true rfl) ?_
  intro p e s m args below meth kc A Q hx hb hts hown hml hin2 fin H locs w ls hl
  have hown : s.vm.findClass RX8 = some m.cls := hown
  have hl : lv_has ls 3 [(0, .ref (ad 120)), (1, .int (zI (t : Int)))] := hl
  obtain ⟨⟨gp, r1, r1p⟩, ⟨gl, r2, r2p⟩, gw, r3, r3p⟩ := id hR
  obtain ⟨⟨h5, m5, m5p⟩, ⟨h6, m6, m6p⟩, ⟨h7, m7, m7p⟩, m8⟩ := id hMT
  have hn := (hUV t ht)
  have hn1 := hn.1
  refine lv_iconst (v := zI (0)) hx hb dX8_append_0 rfl ?_
  refine lv_istore_n (lv' := [(2, .int (zI 0)), (0, .ref (ad 120)), (1, .int (zI (t : Int)))]) hx hb dX8_append_1 rfl hl (by decide) rfl (fun ls hl => ?_)
  have lp : ∀ (f : Nat) (j : Nat) (g1 : Nat → Int) (g2 : Nat → Int) (g3 : Nat → Int) (c1 : Nat → va_E) (H : Heap) (locs : List Loc) (ls : Array Slot), j ≤ nn t → c1 120 = .inr (8, moV ad th lim (no : Int) dn ((r + j : Nat) : Int)) → isA 0 G (c1 129) 40 g1 → (∀ i, i < r + j → g1 i = ((apN r rp (pt t)) i : Int)) → isA 0 G (c1 130) 40 g2 → (∀ i, i < r + j → g2 i = ((apN r rl (ln t)) i : Int)) → isA 1 G (c1 131) 40 g3 → (∀ i, i < r + j → g3 i = (apN r rw (fun i => if i + 1 < nn t then wi t i else 0)) i) → (∀ q, q ≠ 120 ∧ q ≠ 129 ∧ q ≠ 130 ∧ q ≠ 131 → c1 q = c q) → nn t < j + f → PW D G A s ad N c1 H locs → lv_has ls 3 [(0, .ref (ad 120)), (1, .int (zI (t : Int))), (2, .int (zI (j : Int)))] → W p l e rm_X8_append s m args below meth kc H locs 0 0 Q (F0 m 2 ls []) := by
    intro f
    induction f with
    | zero => intro j g1 g2 g3 c1 H locs ls h9 hm1 q1 q1p q2 q2p q3 q3p hf hfu w hl; omega
    | succ f ih =>
      intro j g1 g2 g3 c1 H locs ls h9 hm1 q1 q1p q2 q2p q3 q3p hf hfu w hl
      refine lv_iload_n hx hb dX8_append_2 rfl (lv_at hl 2 rfl) ?_
      refine lv_aload_n hx hb dX8_append_3 rfl (lv_at hl 0 rfl) ?_
      refine pw_get (r := 120) (ci := 8) (C := RX8) (T := TX8) (Nf := 21) hx hb w hts hin_X8_append_8 hown (by omega) hm1 rfl 11 (by decide) (hts _ fl_X8_append_36) (fun _ h9 => h9) rfl dX8_append_4 ?_
      refine lv_iload_n hx hb dX8_append_7 rfl (lv_at hl 1 rfl) ?_
      refine pw_iald (r := 128) (j := t) hx hb w (by omega) (isA.fr (hf 128 (by omega)) m8) (by omega) (by omega) (by decide) dX8_append_8 ?_
      refine pz_icmpge (tgt := 108) hx hb dX8_append_9 (by decide) (⟨by omega, by omega⟩) (⟨by omega, by omega⟩) (fun hj => ?_) (fun hj => ?_)
      · have j9 : j = nn t := by omega
        rw [j9] at hm1 q1p q2p q3p
        exact fin (ad, N, c1) c1 _ _ _ _ _ _ rfl ⟨hm1, ⟨⟨g1, q1, q1p⟩, ⟨g2, q2, q2p⟩, g3, q3, q3p⟩, hf⟩ w dX8_append_108 (Nat.le_refl _) (Nat.le_refl _)
      · have e5 := m5p t ht j (by omega)
        have e6 := m6p t ht j (by omega)
        refine lv_aload_n hx hb dX8_append_12 rfl (lv_at hl 0 rfl) ?_
        refine pw_get (r := 120) (ci := 8) (C := RX8) (T := TX8) (Nf := 21) hx hb w hts hin_X8_append_8 hown (by omega) hm1 rfl 12 (by decide) (hts _ fl_X8_append_39) (fun _ h9 => h9) rfl dX8_append_13 ?_
        refine lv_aload_n hx hb dX8_append_16 rfl (lv_at hl 0 rfl) ?_
        refine pw_get (r := 120) (ci := 8) (C := RX8) (T := TX8) (Nf := 21) hx hb w hts hin_X8_append_8 hown (by omega) hm1 rfl 15 (by decide) (hts _ fl_X8_append_105) (fun _ h9 => h9) rfl dX8_append_17 ?_
        refine lv_aload_n hx hb dX8_append_20 rfl (lv_at hl 0 rfl) ?_
        refine pw_get (r := 120) (ci := 8) (C := RX8) (T := TX8) (Nf := 21) hx hb w hts hin_X8_append_8 hown (by omega) hm1 rfl 8 (by decide) (hts _ fl_X8_append_26) (fun _ h9 => h9) rfl dX8_append_21 ?_
        refine lv_bipush (v := zI (10)) hx hb dX8_append_24 (by decide +kernel) ?_
        refine lv_iload_n hx hb dX8_append_26 rfl (lv_at hl 1 rfl) ?_
        refine pz_imul hx hb dX8_append_27 ?_
        refine lv_iload_n hx hb dX8_append_28 rfl (lv_at hl 2 rfl) ?_
        refine pz_iadd hx hb dX8_append_29 ?_
        refine pw_iald (r := 125) (j := (10 * t + j)) hx hb w (by omega) (isA.fr (hf 125 (by omega)) m5) (by omega) (by omega) (by decide) dX8_append_30 ?_
        refine pz_top (b := ((apN r rp (pt t)) (r + j) : Int)) (by rw [e5]; unfold apN; rw [if_neg (by omega), show r + j - r = j from by omega]) ?_
        refine pw_iast' (r := 129) (j := (r + j)) hx hb w (by omega) q1 (by omega) (by omega) (by decide) dX8_append_31 (fun H locs c1 hc1 fr1 w => ?_)
        refine lv_aload_n hx hb dX8_append_32 rfl (lv_at hl 0 rfl) ?_
        refine pw_get (r := 120) (ci := 8) (C := RX8) (T := TX8) (Nf := 21) hx hb w hts hin_X8_append_8 hown (by omega) ((fr1 120 (by omega)).trans hm1) rfl 13 (by decide) (hts _ fl_X8_append_42) (fun _ h9 => h9) rfl dX8_append_33 ?_
        refine lv_aload_n hx hb dX8_append_36 rfl (lv_at hl 0 rfl) ?_
        refine pw_get (r := 120) (ci := 8) (C := RX8) (T := TX8) (Nf := 21) hx hb w hts hin_X8_append_8 hown (by omega) ((fr1 120 (by omega)).trans hm1) rfl 15 (by decide) (hts _ fl_X8_append_105) (fun _ h9 => h9) rfl dX8_append_37 ?_
        refine lv_aload_n hx hb dX8_append_40 rfl (lv_at hl 0 rfl) ?_
        refine pw_get (r := 120) (ci := 8) (C := RX8) (T := TX8) (Nf := 21) hx hb w hts hin_X8_append_8 hown (by omega) ((fr1 120 (by omega)).trans hm1) rfl 9 (by decide) (hts _ fl_X8_append_29) (fun _ h9 => h9) rfl dX8_append_41 ?_
        refine lv_bipush (v := zI (10)) hx hb dX8_append_44 (by decide +kernel) ?_
        refine lv_iload_n hx hb dX8_append_46 rfl (lv_at hl 1 rfl) ?_
        refine pz_imul hx hb dX8_append_47 ?_
        refine lv_iload_n hx hb dX8_append_48 rfl (lv_at hl 2 rfl) ?_
        refine pz_iadd hx hb dX8_append_49 ?_
        refine pw_iald (r := 126) (j := (10 * t + j)) hx hb w (by omega) (isA.fr (fr1 126 (by omega)) (isA.fr (hf 126 (by omega)) m6)) (by omega) (by omega) (by decide) dX8_append_50 ?_
        refine pz_top (b := ((apN r rl (ln t)) (r + j) : Int)) (by rw [e6]; unfold apN; rw [if_neg (by omega), show r + j - r = j from by omega]) ?_
        refine pw_iast' (r := 130) (j := (r + j)) hx hb w (by omega) (isA.fr (fr1 130 (by omega)) q2) (by omega) (by omega) (by decide) dX8_append_51 (fun H locs c2 hc2 fr2 w => ?_)
        refine lv_aload_n hx hb dX8_append_52 rfl (lv_at hl 0 rfl) ?_
        refine pw_get (r := 120) (ci := 8) (C := RX8) (T := TX8) (Nf := 21) hx hb w hts hin_X8_append_8 hown (by omega) ((fr2 120 (by omega)).trans ((fr1 120 (by omega)).trans hm1)) rfl 14 (by decide) (hts _ fl_X8_append_45) (fun _ h9 => h9) rfl dX8_append_53 ?_
        refine lv_aload_n hx hb dX8_append_56 rfl (lv_at hl 0 rfl) ?_
        refine pw_get (r := 120) (ci := 8) (C := RX8) (T := TX8) (Nf := 21) hx hb w hts hin_X8_append_8 hown (by omega) ((fr2 120 (by omega)).trans ((fr1 120 (by omega)).trans hm1)) rfl 15 (by decide) (hts _ fl_X8_append_105) (fun _ h9 => h9) rfl dX8_append_57 ?_
        refine lv_iload_n hx hb dX8_append_60 rfl (lv_at hl 2 rfl) ?_
        refine lv_iconst (v := zI (1)) hx hb dX8_append_61 rfl ?_
        refine pz_iadd hx hb dX8_append_62 ?_
        refine lv_aload_n hx hb dX8_append_63 rfl (lv_at hl 0 rfl) ?_
        refine pw_get (r := 120) (ci := 8) (C := RX8) (T := TX8) (Nf := 21) hx hb w hts hin_X8_append_8 hown (by omega) ((fr2 120 (by omega)).trans ((fr1 120 (by omega)).trans hm1)) rfl 11 (by decide) (hts _ fl_X8_append_36) (fun _ h9 => h9) rfl dX8_append_64 ?_
        refine lv_iload_n hx hb dX8_append_67 rfl (lv_at hl 1 rfl) ?_
        refine pw_iald (r := 128) (j := t) hx hb w (by omega) (isA.fr (fr2 128 (by omega)) (isA.fr (fr1 128 (by omega)) (isA.fr (hf 128 (by omega)) m8))) (by omega) (by omega) (by decide) dX8_append_68 ?_
        have j91 : ∀ (ls : Array Slot), lv_has ls 3 [(0, .ref (ad 120)), (1, .int (zI (t : Int))), (2, .int (zI (j : Int)))] → W p l e rm_X8_append s m args below meth kc H locs 0 0 Q (F0 m 91 ls [.int (zI ((apN r rw (fun i => if i + 1 < nn t then wi t i else 0)) (r + j))), .int (zI ((r + j : Nat) : Int)), .ref (ad 131)]) := by
          intro ls hl
          have hw01 : ((apN r rw (fun i => if i + 1 < nn t then wi t i else 0)) (r + j)) = 0 ∨ ((apN r rw (fun i => if i + 1 < nn t then wi t i else 0)) (r + j)) = 1 := by
            unfold apN
            rw [if_neg (by omega), show r + j - r = j from by omega]
            dsimp only
            split
            · exact hn.2.2 j (by omega)
            · exact Or.inl rfl
          refine pw_zast' (r := 131) (j := (r + j)) hx hb w (by omega) (isA.fr (fr2 131 (by omega)) (isA.fr (fr1 131 (by omega)) q3)) (by omega) (by omega) (by omega) (by decide) dX8_append_91 (fun H locs c3 hc3 fr3 w => ?_)
          refine lv_aload_n hx hb dX8_append_92 rfl (lv_at hl 0 rfl) ?_
          refine lv_dup hx hb dX8_append_93 rfl ?_
          refine pw_get (r := 120) (ci := 8) (C := RX8) (T := TX8) (Nf := 21) hx hb w hts hin_X8_append_8 hown (by omega) ((fr3 120 (by omega)).trans ((fr2 120 (by omega)).trans ((fr1 120 (by omega)).trans hm1))) rfl 15 (by decide) (hts _ fl_X8_append_105) (fun _ h9 => h9) rfl dX8_append_94 ?_
          refine lv_iconst (v := zI (1)) hx hb dX8_append_97 rfl ?_
          refine pz_iadd hx hb dX8_append_98 ?_
          refine pw_put' (r := 120) (ci := 8) (C := RX8) (T := TX8) (Nf := 21) hx hb w hts hin_X8_append_8 tyX8 tyX8_ok nmX8 hown (by omega) ((fr3 120 (by omega)).trans ((fr2 120 (by omega)).trans ((fr1 120 (by omega)).trans hm1))) rfl 15 (by decide) (hts _ fl_X8_append_105) (fun _ h9 => h9) rfl (ty := .int) (by decide +kernel) rfl rfl (Nat.le_of_ble_eq_true rfl) dX8_append_99 (fun H locs c4 hc4 fr4 w => ?_)
          refine pz_iinc (lv' := [(2, .int (zI ((j + 1 : Nat) : Int))), (0, .ref (ad 120)), (1, .int (zI (t : Int)))]) hx hb dX8_append_102 hl (j := 2) rfl ((j + 1 : Nat) : Int) (by omega) (by decide) rfl (fun ls hl => ?_)
          refine lv_goto (tgt := 2) hx hb dX8_append_105 (by decide) ?_
          exact ih (j + 1) _ _ _ c4 H locs ls (by omega) (by rw [show ((r + (j + 1) : Nat) : Int) = ((r + j : Nat) : Int) + 1 from by omega]; exact hc4) (isA.fr (fr4 129 (by omega)) (isA.fr (fr3 129 (by omega)) (isA.fr (fr2 129 (by omega)) hc1))) (fun i hi => by
            unfold upI
            by_cases h : i = r + j
            · rw [if_pos h, h]
            · rw [if_neg h]; exact q1p i (by omega)) (isA.fr (fr4 130 (by omega)) (isA.fr (fr3 130 (by omega)) hc2)) (fun i hi => by
            unfold upI
            by_cases h : i = r + j
            · rw [if_pos h, h]
            · rw [if_neg h]; exact q2p i (by omega)) (isA.fr (fr4 131 (by omega)) hc3) (fun i hi => by
            unfold upI
            by_cases h : i = r + j
            · rw [if_pos h, h]
            · rw [if_neg h]; exact q3p i (by omega)) (fun q hq => ((fr4 q (by omega)).trans ((fr3 q (by omega)).trans ((fr2 q (by omega)).trans ((fr1 q (by omega)).trans (hf q hq)))))) (by omega) w (lv_sub hl [1, 2, 0] rfl)
        refine pz_icmpge (tgt := 90) hx hb dX8_append_69 (by decide) (⟨by omega, by omega⟩) (⟨by omega, by omega⟩) (fun hj1 => ?_) (fun hj1 => ?_)
        · refine lv_iconst (v := zI (0)) hx hb dX8_append_90 rfl ?_
          refine pz_top (b := ((apN r rw (fun i => if i + 1 < nn t then wi t i else 0)) (r + j))) (by unfold apN; rw [if_neg (by omega), show r + j - r = j from by omega]; dsimp only; rw [if_neg (by omega)]) ?_
          exact j91 ls (lv_sub hl [0, 1, 2] rfl)
        · have e7 := m7p t ht j (by omega)
          have hw2 := hn.2.2 j (by omega)
          refine lv_aload_n hx hb dX8_append_72 rfl (lv_at hl 0 rfl) ?_
          refine pw_get (r := 120) (ci := 8) (C := RX8) (T := TX8) (Nf := 21) hx hb w hts hin_X8_append_8 hown (by omega) ((fr2 120 (by omega)).trans ((fr1 120 (by omega)).trans hm1)) rfl 10 (by decide) (hts _ fl_X8_append_32) (fun _ h9 => h9) rfl dX8_append_73 ?_
          refine lv_bipush (v := zI (10)) hx hb dX8_append_76 (by decide +kernel) ?_
          refine lv_iload_n hx hb dX8_append_78 rfl (lv_at hl 1 rfl) ?_
          refine pz_imul hx hb dX8_append_79 ?_
          refine lv_iload_n hx hb dX8_append_80 rfl (lv_at hl 2 rfl) ?_
          refine pz_iadd hx hb dX8_append_81 ?_
          refine pw_zald (r := 127) (j := (10 * t + j)) hx hb w (by omega) (isA.fr (fr2 127 (by omega)) (isA.fr (fr1 127 (by omega)) (isA.fr (hf 127 (by omega)) m7))) (by omega) (by omega) (by decide) dX8_append_82 ?_
          refine pz_top (b := (wi t j)) (e7) ?_
          refine pz_ifeq (tgt := 90) hx hb dX8_append_83 (by decide) (⟨by omega, by omega⟩) (fun hw => ?_) (fun hw => ?_)
          · refine lv_iconst (v := zI (0)) hx hb dX8_append_90 rfl ?_
            refine pz_top (b := ((apN r rw (fun i => if i + 1 < nn t then wi t i else 0)) (r + j))) (by unfold apN; rw [if_neg (by omega), show r + j - r = j from by omega]; dsimp only; rw [if_pos (by omega)]; omega) ?_
            exact j91 ls (lv_sub hl [0, 1, 2] rfl)
          · refine lv_iconst (v := zI (1)) hx hb dX8_append_86 rfl ?_
            refine lv_goto (tgt := 91) hx hb dX8_append_87 (by decide) ?_
            refine pz_top (b := ((apN r rw (fun i => if i + 1 < nn t then wi t i else 0)) (r + j))) (by unfold apN; rw [if_neg (by omega), show r + j - r = j from by omega]; dsimp only; rw [if_pos (by omega)]; omega) ?_
            exact j91 ls (lv_sub hl [0, 1, 2] rfl)
  exact lp (nn t + 1) 0 gp gl gw c H locs ls (by omega) hm r1 (fun i hi => by unfold apN; rw [if_pos (by omega)]; exact r1p i (by omega)) r2 (fun i hi => by unfold apN; rw [if_pos (by omega)]; exact r2p i (by omega)) r3 (fun i hi => by unfold apN; rw [if_pos (by omega)]; exact r3p i (by omega)) (fun _ _ => rfl) (by omega) w (lv_sub hl [1, 2, 0] rfl)

/-- the three tables, filled from the gap i0 on, and at the gap ahead of it below a0 -/
def LWp (G : Nat → ClassId) (c : Nat → va_E) (at_ : Nat → Nat → Int) (no g i0 a0 : Nat) : Prop :=
  (∃ gl, isA 0 G (c 132) 369 gl ∧ ∀ i a, a < 9 → i ≤ g → (i0 ≤ i ∨ (i + 1 = i0 ∧ a < a0)) → gl (9 * i + a) = (lwm at_ no (g - i) i a).1) ∧
  (∃ gl, isA 0 G (c 133) 369 gl ∧ ∀ i a, a < 9 → i ≤ g → (i0 ≤ i ∨ (i + 1 = i0 ∧ a < a0)) → gl (9 * i + a) = (lwm at_ no (g - i) i a).2.1) ∧
  ∃ gl, isA 0 G (c 134) 369 gl ∧ ∀ i a, a < 9 → i ≤ g → (i0 ≤ i ∨ (i + 1 = i0 ∧ a < a0)) → gl (9 * i + a) = (lwm at_ no (g - i) i a).2.2
theorem LWp.fr {G : Nat → ClassId} {c c1 : Nat → va_E} {at_ : Nat → Nat → Int} {no g i0 a0 : Nat} (h : LWp G c at_ no g i0 a0) (hf : ∀ q, 132 ≤ q → q < 135 → c1 q = c q) : LWp G c1 at_ no g i0 a0 := by
  obtain ⟨⟨g1, a1, b1⟩, ⟨g2, a2, b2⟩, g3, a3, b3⟩ := h
  exact ⟨⟨g1, isA.fr (hf 132 (by omega) (by omega)) a1, b1⟩, ⟨g2, isA.fr (hf 133 (by omega) (by omega)) a2, b2⟩, g3, isA.fr (hf 134 (by omega) (by omega)) a3, b3⟩

theorem wd_X8_countAt_k91 : Cond.constant RX8 91 (1000000) ∈ wsX8_countAt := by decide +kernel
theorem wd_X8_countAt_k112 : Cond.constant RX8 112 (-1000000) ∈ wsX8_countAt := by decide +kernel
theorem hin_X8_countAt_8 : ∀ w ∈ u_ws RX8 TX8 21, w ∈ wsX8_countAt := by decide +kernel
theorem fl_X8_countAt_88 : Cond.fieldLink RX8 88 "PipersDeskModel" "ornaments" "I" ∈ wsX8_countAt := by decide +kernel
theorem fl_X8_countAt_48 : Cond.fieldLink RX8 48 "PipersDeskModel" "least" "[I" ∈ wsX8_countAt := by decide +kernel
theorem fl_X8_countAt_51 : Cond.fieldLink RX8 51 "PipersDeskModel" "ways" "[I" ∈ wsX8_countAt := by decide +kernel
theorem fl_X8_countAt_54 : Cond.fieldLink RX8 54 "PipersDeskModel" "most" "[I" ∈ wsX8_countAt := by decide +kernel
theorem wd_X8_countAt_k116 : Cond.constant RX8 116 (500000000) ∈ wsX8_countAt := by decide +kernel
abbrev rm_X8_countAt : Room := { frames := 5, cells := 0, slots := 0, locals := 150 }
set_option maxHeartbeats 4000000 in
set_option maxRecDepth 100000 in
/-- countAt -/
theorem c_X8_countAt (l : Launch) (D : va_G) (G : Nat → ClassId) (ad : Nat → Nat) (N : Nat) (c : Nat → va_E) {th lim dn row : Int} {no : Nat} (hN : 139 ≤ N) (hm : c 120 = .inr (8, moV ad th lim (no : Int) dn row)) {gn : Nat → Nat} {gg : Nat → Nat → Nat} (hh : isA 0 G (c 121) 9 closedN) (hlim : bnd lim) (hB : MoB G c no gn gg) (hOV : OV no gn gg) {r : Nat} {rp rl : Nat → Nat} {rw : Nat → Int} (hR : RowP G c r rp rl rw) (hRV : RowV r rp rl rw) {g9 : Nat} {at_ : Nat → Nat → Int} (hat : at_ = atc lim gn gg rp rl rw) (hg9 : g9 + 1 = r) {gap ah : Nat} {Ln Wn Mn : Nat → Int} (hLn : Ln = fun o => (lwm at_ no (g9 - (gap + 1)) (gap + 1) o).1) (hWn : Wn = fun o => (lwm at_ no (g9 - (gap + 1)) (gap + 1) o).2.1) (hMn : Mn = fun o => (lwm at_ no (g9 - (gap + 1)) (gap + 1) o).2.2) (hbb : ∀ o, 0 ≤ Ln o ∧ Ln o ≤ 1000000 ∧ 0 ≤ Wn o ∧ Wn o ≤ 500000000 ∧ -1000000 ≤ Mn o ∧ Mn o ≤ 40) (hgap : gap < g9) (hah : ah < 9) (hL : LWp G c at_ no g9 (gap + 1) ah) : MC l yX8_countAt wsX8_countAt rm_X8_countAt [.ref (ad 120), .int (zI (gap : Int)), .int (zI (ah : Int))] D G ad N c (qV D G (fx ad N) (fun c1 => LWp G c1 at_ no g9 (gap + 1) (ah + 1) ∧ ∀ q, q ≠ 132 ∧ q ≠ 133 ∧ q ≠ 134 → c1 q = c q)) 0 0 := by
  refine MCv.of (cc := cX8_countAt) (maxL := 11) (by decide) rfl (Nat.le_of_ble_eq_true rfl) ?_
  intro p e s m args below meth kc A Q hx hb hts hown hml hin2 fin H locs w ls hl
  have hown : s.vm.findClass RX8 = some m.cls := hown
  have hl : lv_has ls 11 [(0, .ref (ad 120)), (1, .int (zI (gap : Int))), (2, .int (zI (ah : Int)))] := hl
  obtain ⟨⟨gL, l1, l1p⟩, ⟨gW, l2, l2p⟩, gM, l3, l3p⟩ := id hL
  have hno8 := hOV.1
  have hr8 := hRV.1
  have hab : ∀ o, o ≤ no → 0 ≤ at_ gap o ∧ at_ gap o ≤ 6000000 := fun o ho => by
    rw [hat]
    have h := bw_bd (lim := lim) (m := rl gap) (x := rp gap) (y := rp (gap + 1)) hOV.g (hRV.2 gap (by omega)).1 (hRV.2 (gap + 1) (by omega)).1 ho
    unfold atc
    split <;> omega
  refine lv_ldc hx hb hown (hts _ wd_X8_countAt_k91) dX8_countAt_0 (pz_topI (y := zI (1000000)) (by decide +kernel) ?_)
  refine lv_istore_n (lv' := [(3, .int (zI 1000000)), (0, .ref (ad 120)), (1, .int (zI (gap : Int))), (2, .int (zI (ah : Int)))]) hx hb dX8_countAt_2 rfl hl (by decide) rfl (fun ls hl => ?_)
  refine lv_iconst (v := zI (0)) hx hb dX8_countAt_3 rfl ?_
  refine lv_istore (lv' := [(4, .int (zI 0)), (3, .int (zI 1000000)), (0, .ref (ad 120)), (1, .int (zI (gap : Int))), (2, .int (zI (ah : Int)))]) hx hb dX8_countAt_4 hl (by decide) rfl (fun ls hl => ?_)
  refine lv_ldc hx hb hown (hts _ wd_X8_countAt_k112) dX8_countAt_6 (pz_topI (y := zI (-1000000)) (by decide +kernel) ?_)
  refine lv_istore (lv' := [(5, .int (zI (-1000000))), (4, .int (zI 0)), (3, .int (zI 1000000)), (0, .ref (ad 120)), (1, .int (zI (gap : Int))), (2, .int (zI (ah : Int)))]) hx hb dX8_countAt_8 hl (by decide) rfl (fun ls hl => ?_)
  refine lv_iconst (v := zI (-1)) hx hb dX8_countAt_10 rfl ?_
  refine lv_istore (lv' := [(6, .int (zI (-1))), (5, .int (zI (-1000000))), (4, .int (zI 0)), (3, .int (zI 1000000)), (0, .ref (ad 120)), (1, .int (zI (gap : Int))), (2, .int (zI (ah : Int)))]) hx hb dX8_countAt_11 hl (by decide) rfl (fun ls hl => ?_)
  have lp : ∀ (n : Nat) (o : Nat) (H : Heap) (locs : List Loc) (ls : Array Slot), o ≤ no + 1 → no + 1 < o + n → PW D G A s ad N c H locs → lv_has ls 11 [(0, .ref (ad 120)), (1, .int (zI (gap : Int))), (2, .int (zI (ah : Int))), (3, .int (zI ((caU (at_ gap) Ln Wn Mn ah o).1))), (4, .int (zI ((caU (at_ gap) Ln Wn Mn ah o).2.1))), (5, .int (zI ((caU (at_ gap) Ln Wn Mn ah o).2.2))), (6, .int (zI ((o : Int) - 1)))] → W p l e rm_X8_countAt s m args below meth kc H locs 0 0 Q (F0 m 13 ls []) := by
    intro n
    induction n with
    | zero => intro o H locs ls h9 hfu w hl; omega
    | succ n ih =>
      intro o H locs ls h9 hfu w hl
      have hcb := caU_bd (at_ := at_ gap) (Ln := Ln) (Wn := Wn) (Mn := Mn) (a := ah) (K := 40) (by omega) o (fun o ho => (hab o (by omega)).1) (fun o ho => (hbb o).1) (fun o ho => (hbb o).2.2.1) (fun o ho => (hbb o).2.2.2.2.2)
      refine lv_iload hx hb dX8_countAt_13 (lv_at hl 6 rfl) ?_
      refine lv_aload_n hx hb dX8_countAt_15 rfl (lv_at hl 0 rfl) ?_
      refine pw_get (r := 120) (ci := 8) (C := RX8) (T := TX8) (Nf := 21) hx hb w hts hin_X8_countAt_8 hown (by omega) hm rfl 5 (by decide) (hts _ fl_X8_countAt_88) (fun _ h9 => h9) rfl dX8_countAt_16 ?_
      refine pz_icmpge (tgt := 191) hx hb dX8_countAt_19 (by decide) (⟨by omega, by omega⟩) (⟨by omega, by omega⟩) (fun hi => ?_) (fun hi => ?_)
      · have o9 : o = no + 1 := by omega
        rw [o9] at hl hcb
        refine lv_aload_n hx hb dX8_countAt_191 rfl (lv_at hl 0 rfl) ?_
        refine pw_get (r := 120) (ci := 8) (C := RX8) (T := TX8) (Nf := 21) hx hb w hts hin_X8_countAt_8 hown (by omega) hm rfl 16 (by decide) (hts _ fl_X8_countAt_48) (fun _ h9 => h9) rfl dX8_countAt_192 ?_
        refine lv_bipush (v := zI (9)) hx hb dX8_countAt_195 (by decide +kernel) ?_
        refine lv_iload_n hx hb dX8_countAt_197 rfl (lv_at hl 1 rfl) ?_
        refine pz_imul hx hb dX8_countAt_198 ?_
        refine lv_iload_n hx hb dX8_countAt_199 rfl (lv_at hl 2 rfl) ?_
        refine pz_iadd hx hb dX8_countAt_200 ?_
        refine lv_iload_n hx hb dX8_countAt_201 rfl (lv_at hl 3 rfl) ?_
        refine pw_iast' (r := 132) (j := (9 * gap + ah)) hx hb w (by omega) l1 (by omega) (by omega) (by decide) dX8_countAt_202 (fun H locs c1 hc1 fr1 w => ?_)
        refine lv_aload_n hx hb dX8_countAt_203 rfl (lv_at hl 0 rfl) ?_
        refine pw_get (r := 120) (ci := 8) (C := RX8) (T := TX8) (Nf := 21) hx hb w hts hin_X8_countAt_8 hown (by omega) ((fr1 120 (by omega)).trans hm) rfl 17 (by decide) (hts _ fl_X8_countAt_51) (fun _ h9 => h9) rfl dX8_countAt_204 ?_
        refine lv_bipush (v := zI (9)) hx hb dX8_countAt_207 (by decide +kernel) ?_
        refine lv_iload_n hx hb dX8_countAt_209 rfl (lv_at hl 1 rfl) ?_
        refine pz_imul hx hb dX8_countAt_210 ?_
        refine lv_iload_n hx hb dX8_countAt_211 rfl (lv_at hl 2 rfl) ?_
        refine pz_iadd hx hb dX8_countAt_212 ?_
        refine lv_iload hx hb dX8_countAt_213 (lv_at hl 4 rfl) ?_
        refine pw_iast' (r := 133) (j := (9 * gap + ah)) hx hb w (by omega) (isA.fr (fr1 133 (by omega)) l2) (by omega) (by omega) (by decide) dX8_countAt_215 (fun H locs c2 hc2 fr2 w => ?_)
        refine lv_aload_n hx hb dX8_countAt_216 rfl (lv_at hl 0 rfl) ?_
        refine pw_get (r := 120) (ci := 8) (C := RX8) (T := TX8) (Nf := 21) hx hb w hts hin_X8_countAt_8 hown (by omega) ((fr2 120 (by omega)).trans ((fr1 120 (by omega)).trans hm)) rfl 18 (by decide) (hts _ fl_X8_countAt_54) (fun _ h9 => h9) rfl dX8_countAt_217 ?_
        refine lv_bipush (v := zI (9)) hx hb dX8_countAt_220 (by decide +kernel) ?_
        refine lv_iload_n hx hb dX8_countAt_222 rfl (lv_at hl 1 rfl) ?_
        refine pz_imul hx hb dX8_countAt_223 ?_
        refine lv_iload_n hx hb dX8_countAt_224 rfl (lv_at hl 2 rfl) ?_
        refine pz_iadd hx hb dX8_countAt_225 ?_
        refine lv_iload hx hb dX8_countAt_226 (lv_at hl 5 rfl) ?_
        refine pw_iast' (r := 134) (j := (9 * gap + ah)) hx hb w (by omega) (isA.fr (fr2 134 (by omega)) (isA.fr (fr1 134 (by omega)) l3)) (by omega) (by omega) (by decide) dX8_countAt_228 (fun H locs c3 hc3 fr3 w => ?_)
        have e9 : lwm at_ no (g9 - gap) gap ah = (caU (at_ gap) Ln Wn Mn ah (no + 1)) := by
          rw [show g9 - gap = (g9 - (gap + 1)) + 1 from by omega, lwm, hLn, hWn, hMn]
        exact fin (ad, N, c3) c3 _ _ _ _ _ _ rfl ⟨⟨⟨_, (isA.fr (fr3 132 (by omega)) (isA.fr (fr2 132 (by omega)) hc1)), (fun i a ha hi hia => by
          unfold upI
          by_cases h : 9 * i + a = 9 * gap + ah
          · rw [if_pos h]
            have e1 : i = gap := by omega
            have e2 : a = ah := by omega
            rw [e1, e2, e9]
          · rw [if_neg h]
            exact l1p i a ha hi (by omega))⟩, ⟨_, (isA.fr (fr3 133 (by omega)) hc2), (fun i a ha hi hia => by
          unfold upI
          by_cases h : 9 * i + a = 9 * gap + ah
          · rw [if_pos h]
            have e1 : i = gap := by omega
            have e2 : a = ah := by omega
            rw [e1, e2, e9]
          · rw [if_neg h]
            exact l2p i a ha hi (by omega))⟩, _, hc3, (fun i a ha hi hia => by
          unfold upI
          by_cases h : 9 * i + a = 9 * gap + ah
          · rw [if_pos h]
            have e1 : i = gap := by omega
            have e2 : a = ah := by omega
            rw [e1, e2, e9]
          · rw [if_neg h]
            exact l3p i a ha hi (by omega))⟩, fun q hq => ((fr3 q (by omega)).trans ((fr2 q (by omega)).trans ((fr1 q (by omega)).trans rfl)))⟩ w dX8_countAt_229 (Nat.le_refl _) (Nat.le_refl _)
      · have ho8 : o ≤ no := by omega
        have hbo := hbb o
        have habo := hab o ho8
        have eL : gL (9 * (gap + 1) + o) = Ln o := by rw [hLn]; exact l1p (gap + 1) o (by omega) (by omega) (Or.inl (Nat.le_refl _))
        have eW : gW (9 * (gap + 1) + o) = Wn o := by rw [hWn]; exact l2p (gap + 1) o (by omega) (by omega) (Or.inl (Nat.le_refl _))
        have eM : gM (9 * (gap + 1) + o) = Mn o := by rw [hMn]; exact l3p (gap + 1) o (by omega) (by omega) (Or.inl (Nat.le_refl _))
        refine lv_bipush (v := zI (9)) hx hb dX8_countAt_22 (by decide +kernel) ?_
        refine lv_iload_n hx hb dX8_countAt_24 rfl (lv_at hl 1 rfl) ?_
        refine lv_iconst (v := zI (1)) hx hb dX8_countAt_25 rfl ?_
        refine pz_iadd hx hb dX8_countAt_26 ?_
        refine pz_imul hx hb dX8_countAt_27 ?_
        refine lv_iload hx hb dX8_countAt_28 (lv_at hl 6 rfl) ?_
        refine pz_iadd hx hb dX8_countAt_30 ?_
        refine lv_iconst (v := zI (1)) hx hb dX8_countAt_31 rfl ?_
        refine pz_iadd hx hb dX8_countAt_32 ?_
        refine pz_top (b := ((9 * (gap + 1) + o : Nat) : Int)) (by omega) ?_
        refine lv_istore (lv' := [(7, .int (zI ((9 * (gap + 1) + o : Nat) : Int))), (0, .ref (ad 120)), (1, .int (zI (gap : Int))), (2, .int (zI (ah : Int))), (3, .int (zI ((caU (at_ gap) Ln Wn Mn ah o).1))), (4, .int (zI ((caU (at_ gap) Ln Wn Mn ah o).2.1))), (5, .int (zI ((caU (at_ gap) Ln Wn Mn ah o).2.2))), (6, .int (zI ((o : Int) - 1)))]) hx hb dX8_countAt_33 hl (by decide) rfl (fun ls hl => ?_)
        refine lv_aload_n hx hb dX8_countAt_35 rfl (lv_at hl 1 rfl) ?_
        refine lv_iload_n hx hb dX8_countAt_36 rfl (lv_at hl 2 rfl) ?_
        refine lv_iload hx hb dX8_countAt_37 (lv_at hl 7 rfl) ?_
        refine pw_ci w (pw_runV (r := 120) (ci := 8) (As := [.int (zI (gap : Int)), .int (zI ((o : Int) - 1))]) (rest := []) w ⟨hx, hb, hml, hown, hts⟩ (c_X8_at l D G ad N c (gap := gap) (o := o) hN hm hh hlim hB hOV hR hRV (by omega) ho8) (cwV 2 hts gX8_countAt_X8_at rfl rfl rfl (by decide +kernel) ⟨Nat.le_of_ble_eq_true rfl, Nat.le_of_ble_eq_true rfl⟩) (by omega) hm rfl rfl hl.1 rfl (lv_room (Nat.le_of_ble_eq_true rfl)) dX8_countAt_39 ⟨Nat.le_of_ble_eq_true rfl, Nat.le_of_ble_eq_true rfl⟩) (fun r_ u H locs hp w => ?_)
        obtain ⟨hv, hu⟩ := hp
        subst hv
        have w : PW D G A s ad N c H locs := by rw [hu] at w; exact w
        clear hu
        refine pz_top (b := (at_ gap o)) (by rw [hat]) ?_
        refine lv_istore (lv' := [(8, .int (zI (at_ gap o))), (7, .int (zI ((9 * (gap + 1) + o : Nat) : Int))), (0, .ref (ad 120)), (1, .int (zI (gap : Int))), (2, .int (zI (ah : Int))), (3, .int (zI ((caU (at_ gap) Ln Wn Mn ah o).1))), (4, .int (zI ((caU (at_ gap) Ln Wn Mn ah o).2.1))), (5, .int (zI ((caU (at_ gap) Ln Wn Mn ah o).2.2))), (6, .int (zI ((o : Int) - 1)))]) hx hb dX8_countAt_42 hl (by decide) rfl (fun ls hl => ?_)
        refine lv_iload hx hb dX8_countAt_44 (lv_at hl 0 rfl) ?_
        refine lv_ldc hx hb hown (hts _ wd_X8_countAt_k91) dX8_countAt_46 (pz_topI (y := zI (1000000)) (by decide +kernel) ?_)
        have j80 : ∀ (ls : Array Slot), lv_has ls 11 [(8, .int (zI (at_ gap o))), (7, .int (zI ((9 * (gap + 1) + o : Nat) : Int))), (0, .ref (ad 120)), (1, .int (zI (gap : Int))), (2, .int (zI (ah : Int))), (3, .int (zI ((caU (at_ gap) Ln Wn Mn ah o).1))), (4, .int (zI ((caU (at_ gap) Ln Wn Mn ah o).2.1))), (5, .int (zI ((caU (at_ gap) Ln Wn Mn ah o).2.2))), (6, .int (zI ((o : Int) - 1)))] → W p l e rm_X8_countAt s m args below meth kc H locs 0 0 Q (F0 m 80 ls [.int (zI (if (at_ gap o < 1000000 ∧ (o = 0 ∨ o ≠ ah) ∧ 0 < Wn o) then 1 else 0))]) := by
          intro ls hl
          refine lv_istore (lv' := [(9, .int (zI (if (at_ gap o < 1000000 ∧ (o = 0 ∨ o ≠ ah) ∧ 0 < Wn o) then 1 else 0))), (8, .int (zI (at_ gap o))), (7, .int (zI ((9 * (gap + 1) + o : Nat) : Int))), (0, .ref (ad 120)), (1, .int (zI (gap : Int))), (2, .int (zI (ah : Int))), (3, .int (zI ((caU (at_ gap) Ln Wn Mn ah o).1))), (4, .int (zI ((caU (at_ gap) Ln Wn Mn ah o).2.1))), (5, .int (zI ((caU (at_ gap) Ln Wn Mn ah o).2.2))), (6, .int (zI ((o : Int) - 1)))]) hx hb dX8_countAt_80 hl (by decide) rfl (fun ls hl => ?_)
          refine lv_iload hx hb dX8_countAt_82 (lv_at hl 0 rfl) ?_
          refine pz_ifeq (tgt := 185) hx hb dX8_countAt_84 (by decide) ((by split <;> exact ⟨by decide, by decide⟩)) (fun hcan => ?_) (fun hcan => ?_)
          · have hP : ¬ (at_ gap o < 1000000 ∧ (o = 0 ∨ o ≠ ah) ∧ 0 < Wn o) := by
              intro h
              rw [if_pos h] at hcan
              omega
            have ec : (caU (at_ gap) Ln Wn Mn ah (o + 1)) = (caU (at_ gap) Ln Wn Mn ah o) := by rw [caU, if_neg hP]
            refine pz_iinc (lv' := [(6, .int (zI (((o + 1 : Nat) : Int) - 1))), (9, .int (zI (if (at_ gap o < 1000000 ∧ (o = 0 ∨ o ≠ ah) ∧ 0 < Wn o) then 1 else 0))), (8, .int (zI (at_ gap o))), (7, .int (zI ((9 * (gap + 1) + o : Nat) : Int))), (0, .ref (ad 120)), (1, .int (zI (gap : Int))), (2, .int (zI (ah : Int))), (3, .int (zI ((caU (at_ gap) Ln Wn Mn ah o).1))), (4, .int (zI ((caU (at_ gap) Ln Wn Mn ah o).2.1))), (5, .int (zI ((caU (at_ gap) Ln Wn Mn ah o).2.2)))]) hx hb dX8_countAt_185 hl (j := 9) rfl (((o + 1 : Nat) : Int) - 1) (by omega) (by decide) rfl (fun ls hl => ?_)
            refine lv_goto (tgt := 13) hx hb dX8_countAt_188 (by decide) ?_
            exact ih (o + 1) H locs ls (by omega) (by omega) w (by rw [ec]; exact (lv_sub hl [4, 5, 6, 7, 8, 9, 0] rfl))
          · have hP : (at_ gap o < 1000000 ∧ (o = 0 ∨ o ≠ ah) ∧ 0 < Wn o) := by
              by_cases h : (at_ gap o < 1000000 ∧ (o = 0 ∨ o ≠ ah) ∧ 0 < Wn o)
              · exact h
              · rw [if_neg h] at hcan; omega
            have ec : (caU (at_ gap) Ln Wn Mn ah (o + 1)) = ((if at_ gap o + Ln o < (caU (at_ gap) Ln Wn Mn ah o).1 then at_ gap o + Ln o else (caU (at_ gap) Ln Wn Mn ah o).1), (if 500000000 < (caU (at_ gap) Ln Wn Mn ah o).2.1 + Wn o then 500000000 else (caU (at_ gap) Ln Wn Mn ah o).2.1 + Wn o), (if (caU (at_ gap) Ln Wn Mn ah o).2.2 < (Mn o + (if o = 0 then 0 else 1)) then (Mn o + (if o = 0 then 0 else 1)) else (caU (at_ gap) Ln Wn Mn ah o).2.2)) := by rw [caU, if_pos hP]
            refine lv_iload hx hb dX8_countAt_87 (lv_at hl 1 rfl) ?_
            refine lv_aload_n hx hb dX8_countAt_89 rfl (lv_at hl 3 rfl) ?_
            refine pw_get (r := 120) (ci := 8) (C := RX8) (T := TX8) (Nf := 21) hx hb w hts hin_X8_countAt_8 hown (by omega) hm rfl 16 (by decide) (hts _ fl_X8_countAt_48) (fun _ h9 => h9) rfl dX8_countAt_90 ?_
            refine lv_iload hx hb dX8_countAt_93 (lv_at hl 2 rfl) ?_
            refine pw_iald (r := 132) (j := (9 * (gap + 1) + o)) hx hb w (by omega) l1 (by omega) (by omega) (by decide) dX8_countAt_95 ?_
            refine pz_top (b := (Ln o)) (eL) ?_
            refine pz_iadd hx hb dX8_countAt_96 ?_
            refine lv_iload_n hx hb dX8_countAt_97 rfl (lv_at hl 6 rfl) ?_
            have j115 : ∀ (ls : Array Slot), lv_has ls 11 [(9, .int (zI (if (at_ gap o < 1000000 ∧ (o = 0 ∨ o ≠ ah) ∧ 0 < Wn o) then 1 else 0))), (8, .int (zI (at_ gap o))), (7, .int (zI ((9 * (gap + 1) + o : Nat) : Int))), (0, .ref (ad 120)), (1, .int (zI (gap : Int))), (2, .int (zI (ah : Int))), (3, .int (zI ((caU (at_ gap) Ln Wn Mn ah o).1))), (4, .int (zI ((caU (at_ gap) Ln Wn Mn ah o).2.1))), (5, .int (zI ((caU (at_ gap) Ln Wn Mn ah o).2.2))), (6, .int (zI ((o : Int) - 1)))] → W p l e rm_X8_countAt s m args below meth kc H locs 0 0 Q (F0 m 115 ls [.int (zI (if at_ gap o + Ln o < (caU (at_ gap) Ln Wn Mn ah o).1 then at_ gap o + Ln o else (caU (at_ gap) Ln Wn Mn ah o).1))]) := by
              intro ls hl
              refine lv_istore_n (lv' := [(3, .int (zI (if at_ gap o + Ln o < (caU (at_ gap) Ln Wn Mn ah o).1 then at_ gap o + Ln o else (caU (at_ gap) Ln Wn Mn ah o).1))), (9, .int (zI (if (at_ gap o < 1000000 ∧ (o = 0 ∨ o ≠ ah) ∧ 0 < Wn o) then 1 else 0))), (8, .int (zI (at_ gap o))), (7, .int (zI ((9 * (gap + 1) + o : Nat) : Int))), (0, .ref (ad 120)), (1, .int (zI (gap : Int))), (2, .int (zI (ah : Int))), (4, .int (zI ((caU (at_ gap) Ln Wn Mn ah o).2.1))), (5, .int (zI ((caU (at_ gap) Ln Wn Mn ah o).2.2))), (6, .int (zI ((o : Int) - 1)))]) hx hb dX8_countAt_115 rfl hl (by decide) rfl (fun ls hl => ?_)
              refine lv_iload hx hb dX8_countAt_116 (lv_at hl 7 rfl) ?_
              refine lv_aload_n hx hb dX8_countAt_118 rfl (lv_at hl 4 rfl) ?_
              refine pw_get (r := 120) (ci := 8) (C := RX8) (T := TX8) (Nf := 21) hx hb w hts hin_X8_countAt_8 hown (by omega) hm rfl 17 (by decide) (hts _ fl_X8_countAt_51) (fun _ h9 => h9) rfl dX8_countAt_119 ?_
              refine lv_iload hx hb dX8_countAt_122 (lv_at hl 3 rfl) ?_
              refine pw_iald (r := 133) (j := (9 * (gap + 1) + o)) hx hb w (by omega) l2 (by omega) (by omega) (by decide) dX8_countAt_124 ?_
              refine pz_top (b := (Wn o)) (eW) ?_
              refine pz_iadd hx hb dX8_countAt_125 ?_
              refine lv_ldc hx hb hown (hts _ wd_X8_countAt_k116) dX8_countAt_126 (pz_topI (y := zI (500000000)) (by decide +kernel) ?_)
              have j146 : ∀ (ls : Array Slot), lv_has ls 11 [(3, .int (zI (if at_ gap o + Ln o < (caU (at_ gap) Ln Wn Mn ah o).1 then at_ gap o + Ln o else (caU (at_ gap) Ln Wn Mn ah o).1))), (9, .int (zI (if (at_ gap o < 1000000 ∧ (o = 0 ∨ o ≠ ah) ∧ 0 < Wn o) then 1 else 0))), (8, .int (zI (at_ gap o))), (7, .int (zI ((9 * (gap + 1) + o : Nat) : Int))), (0, .ref (ad 120)), (1, .int (zI (gap : Int))), (2, .int (zI (ah : Int))), (4, .int (zI ((caU (at_ gap) Ln Wn Mn ah o).2.1))), (5, .int (zI ((caU (at_ gap) Ln Wn Mn ah o).2.2))), (6, .int (zI ((o : Int) - 1)))] → W p l e rm_X8_countAt s m args below meth kc H locs 0 0 Q (F0 m 146 ls [.int (zI (if 500000000 < (caU (at_ gap) Ln Wn Mn ah o).2.1 + Wn o then 500000000 else (caU (at_ gap) Ln Wn Mn ah o).2.1 + Wn o))]) := by
                intro ls hl
                refine lv_istore (lv' := [(4, .int (zI (if 500000000 < (caU (at_ gap) Ln Wn Mn ah o).2.1 + Wn o then 500000000 else (caU (at_ gap) Ln Wn Mn ah o).2.1 + Wn o))), (3, .int (zI (if at_ gap o + Ln o < (caU (at_ gap) Ln Wn Mn ah o).1 then at_ gap o + Ln o else (caU (at_ gap) Ln Wn Mn ah o).1))), (9, .int (zI (if (at_ gap o < 1000000 ∧ (o = 0 ∨ o ≠ ah) ∧ 0 < Wn o) then 1 else 0))), (8, .int (zI (at_ gap o))), (7, .int (zI ((9 * (gap + 1) + o : Nat) : Int))), (0, .ref (ad 120)), (1, .int (zI (gap : Int))), (2, .int (zI (ah : Int))), (5, .int (zI ((caU (at_ gap) Ln Wn Mn ah o).2.2))), (6, .int (zI ((o : Int) - 1)))]) hx hb dX8_countAt_146 hl (by decide) rfl (fun ls hl => ?_)
                refine lv_aload_n hx hb dX8_countAt_148 rfl (lv_at hl 5 rfl) ?_
                refine pw_get (r := 120) (ci := 8) (C := RX8) (T := TX8) (Nf := 21) hx hb w hts hin_X8_countAt_8 hown (by omega) hm rfl 18 (by decide) (hts _ fl_X8_countAt_54) (fun _ h9 => h9) rfl dX8_countAt_149 ?_
                refine lv_iload hx hb dX8_countAt_152 (lv_at hl 4 rfl) ?_
                refine pw_iald (r := 134) (j := (9 * (gap + 1) + o)) hx hb w (by omega) l3 (by omega) (by omega) (by decide) dX8_countAt_154 ?_
                refine pz_top (b := (Mn o)) (eM) ?_
                refine lv_iload hx hb dX8_countAt_155 (lv_at hl 9 rfl) ?_
                refine lv_iconst (v := zI (-1)) hx hb dX8_countAt_157 rfl ?_
                have j166 : ∀ (ls : Array Slot), lv_has ls 11 [(4, .int (zI (if 500000000 < (caU (at_ gap) Ln Wn Mn ah o).2.1 + Wn o then 500000000 else (caU (at_ gap) Ln Wn Mn ah o).2.1 + Wn o))), (3, .int (zI (if at_ gap o + Ln o < (caU (at_ gap) Ln Wn Mn ah o).1 then at_ gap o + Ln o else (caU (at_ gap) Ln Wn Mn ah o).1))), (9, .int (zI (if (at_ gap o < 1000000 ∧ (o = 0 ∨ o ≠ ah) ∧ 0 < Wn o) then 1 else 0))), (8, .int (zI (at_ gap o))), (7, .int (zI ((9 * (gap + 1) + o : Nat) : Int))), (0, .ref (ad 120)), (1, .int (zI (gap : Int))), (2, .int (zI (ah : Int))), (5, .int (zI ((caU (at_ gap) Ln Wn Mn ah o).2.2))), (6, .int (zI ((o : Int) - 1)))] → W p l e rm_X8_countAt s m args below meth kc H locs 0 0 Q (F0 m 166 ls [.int (zI (if o = 0 then 0 else 1)), .int (zI (Mn o))]) := by
                  intro ls hl
                  refine pz_iadd hx hb dX8_countAt_166 ?_
                  refine lv_istore (lv' := [(10, .int (zI ((Mn o) + (if o = 0 then 0 else 1)))), (4, .int (zI (if 500000000 < (caU (at_ gap) Ln Wn Mn ah o).2.1 + Wn o then 500000000 else (caU (at_ gap) Ln Wn Mn ah o).2.1 + Wn o))), (3, .int (zI (if at_ gap o + Ln o < (caU (at_ gap) Ln Wn Mn ah o).1 then at_ gap o + Ln o else (caU (at_ gap) Ln Wn Mn ah o).1))), (9, .int (zI (if (at_ gap o < 1000000 ∧ (o = 0 ∨ o ≠ ah) ∧ 0 < Wn o) then 1 else 0))), (8, .int (zI (at_ gap o))), (7, .int (zI ((9 * (gap + 1) + o : Nat) : Int))), (0, .ref (ad 120)), (1, .int (zI (gap : Int))), (2, .int (zI (ah : Int))), (5, .int (zI ((caU (at_ gap) Ln Wn Mn ah o).2.2))), (6, .int (zI ((o : Int) - 1)))]) hx hb dX8_countAt_167 hl (by decide) rfl (fun ls hl => ?_)
                  refine lv_iload hx hb dX8_countAt_169 (lv_at hl 0 rfl) ?_
                  refine lv_iload hx hb dX8_countAt_171 (lv_at hl 9 rfl) ?_
                  have j183 : ∀ (ls : Array Slot), lv_has ls 11 [(10, .int (zI ((Mn o) + (if o = 0 then 0 else 1)))), (4, .int (zI (if 500000000 < (caU (at_ gap) Ln Wn Mn ah o).2.1 + Wn o then 500000000 else (caU (at_ gap) Ln Wn Mn ah o).2.1 + Wn o))), (3, .int (zI (if at_ gap o + Ln o < (caU (at_ gap) Ln Wn Mn ah o).1 then at_ gap o + Ln o else (caU (at_ gap) Ln Wn Mn ah o).1))), (9, .int (zI (if (at_ gap o < 1000000 ∧ (o = 0 ∨ o ≠ ah) ∧ 0 < Wn o) then 1 else 0))), (8, .int (zI (at_ gap o))), (7, .int (zI ((9 * (gap + 1) + o : Nat) : Int))), (0, .ref (ad 120)), (1, .int (zI (gap : Int))), (2, .int (zI (ah : Int))), (5, .int (zI ((caU (at_ gap) Ln Wn Mn ah o).2.2))), (6, .int (zI ((o : Int) - 1)))] → W p l e rm_X8_countAt s m args below meth kc H locs 0 0 Q (F0 m 183 ls [.int (zI (if (caU (at_ gap) Ln Wn Mn ah o).2.2 < (Mn o + (if o = 0 then 0 else 1)) then (Mn o + (if o = 0 then 0 else 1)) else (caU (at_ gap) Ln Wn Mn ah o).2.2))]) := by
                    intro ls hl
                    refine lv_istore (lv' := [(5, .int (zI (if (caU (at_ gap) Ln Wn Mn ah o).2.2 < (Mn o + (if o = 0 then 0 else 1)) then (Mn o + (if o = 0 then 0 else 1)) else (caU (at_ gap) Ln Wn Mn ah o).2.2))), (10, .int (zI ((Mn o) + (if o = 0 then 0 else 1)))), (4, .int (zI (if 500000000 < (caU (at_ gap) Ln Wn Mn ah o).2.1 + Wn o then 500000000 else (caU (at_ gap) Ln Wn Mn ah o).2.1 + Wn o))), (3, .int (zI (if at_ gap o + Ln o < (caU (at_ gap) Ln Wn Mn ah o).1 then at_ gap o + Ln o else (caU (at_ gap) Ln Wn Mn ah o).1))), (9, .int (zI (if (at_ gap o < 1000000 ∧ (o = 0 ∨ o ≠ ah) ∧ 0 < Wn o) then 1 else 0))), (8, .int (zI (at_ gap o))), (7, .int (zI ((9 * (gap + 1) + o : Nat) : Int))), (0, .ref (ad 120)), (1, .int (zI (gap : Int))), (2, .int (zI (ah : Int))), (6, .int (zI ((o : Int) - 1)))]) hx hb dX8_countAt_183 hl (by decide) rfl (fun ls hl => ?_)
                    refine pz_iinc (lv' := [(6, .int (zI (((o + 1 : Nat) : Int) - 1))), (5, .int (zI (if (caU (at_ gap) Ln Wn Mn ah o).2.2 < (Mn o + (if o = 0 then 0 else 1)) then (Mn o + (if o = 0 then 0 else 1)) else (caU (at_ gap) Ln Wn Mn ah o).2.2))), (10, .int (zI ((Mn o) + (if o = 0 then 0 else 1)))), (4, .int (zI (if 500000000 < (caU (at_ gap) Ln Wn Mn ah o).2.1 + Wn o then 500000000 else (caU (at_ gap) Ln Wn Mn ah o).2.1 + Wn o))), (3, .int (zI (if at_ gap o + Ln o < (caU (at_ gap) Ln Wn Mn ah o).1 then at_ gap o + Ln o else (caU (at_ gap) Ln Wn Mn ah o).1))), (9, .int (zI (if (at_ gap o < 1000000 ∧ (o = 0 ∨ o ≠ ah) ∧ 0 < Wn o) then 1 else 0))), (8, .int (zI (at_ gap o))), (7, .int (zI ((9 * (gap + 1) + o : Nat) : Int))), (0, .ref (ad 120)), (1, .int (zI (gap : Int))), (2, .int (zI (ah : Int)))]) hx hb dX8_countAt_185 hl (j := 10) rfl (((o + 1 : Nat) : Int) - 1) (by omega) (by decide) rfl (fun ls hl => ?_)
                    refine lv_goto (tgt := 13) hx hb dX8_countAt_188 (by decide) ?_
                    exact ih (o + 1) H locs ls (by omega) (by omega) w (by rw [ec]; exact (lv_sub hl [8, 9, 10, 4, 3, 1, 0] rfl))
                  have hm1 : 0 ≤ (if o = 0 then (0 : Int) else 1) ∧ (if o = 0 then (0 : Int) else 1) ≤ 1 := by split <;> omega
                  refine pz_icmple (tgt := 181) hx hb dX8_countAt_173 (by decide) (⟨by omega, by omega⟩) (⟨by omega, by omega⟩) (fun hfl => ?_) (fun hfl => ?_)
                  · refine lv_iload hx hb dX8_countAt_181 (lv_at hl 9 rfl) ?_
                    refine pz_top (b := (if (caU (at_ gap) Ln Wn Mn ah o).2.2 < (Mn o + (if o = 0 then 0 else 1)) then (Mn o + (if o = 0 then 0 else 1)) else (caU (at_ gap) Ln Wn Mn ah o).2.2)) (by rw [if_neg (by omega)]) ?_
                    exact j183 ls (lv_sub hl [0, 1, 2, 3, 4, 5, 6, 7, 8, 9, 10] rfl)
                  · refine lv_iload hx hb dX8_countAt_176 (lv_at hl 0 rfl) ?_
                    refine lv_goto (tgt := 183) hx hb dX8_countAt_178 (by decide) ?_
                    refine pz_top (b := (if (caU (at_ gap) Ln Wn Mn ah o).2.2 < (Mn o + (if o = 0 then 0 else 1)) then (Mn o + (if o = 0 then 0 else 1)) else (caU (at_ gap) Ln Wn Mn ah o).2.2)) (by rw [if_pos hfl]) ?_
                    exact j183 ls (lv_sub hl [0, 1, 2, 3, 4, 5, 6, 7, 8, 9, 10] rfl)
                refine pz_icmpne (tgt := 165) hx hb dX8_countAt_158 (by decide) (⟨by omega, by omega⟩) (⟨by omega, by omega⟩) (fun ho0 => ?_) (fun ho0 => ?_)
                · refine lv_iconst (v := zI (1)) hx hb dX8_countAt_165 rfl ?_
                  refine pz_top (b := (if o = 0 then 0 else 1)) (by rw [if_neg (by omega)]) ?_
                  exact j166 ls (lv_sub hl [0, 1, 2, 3, 4, 5, 6, 7, 8, 9] rfl)
                · refine lv_iconst (v := zI (0)) hx hb dX8_countAt_161 rfl ?_
                  refine lv_goto (tgt := 166) hx hb dX8_countAt_162 (by decide) ?_
                  refine pz_top (b := (if o = 0 then 0 else 1)) (by rw [if_pos (by omega)]) ?_
                  exact j166 ls (lv_sub hl [0, 1, 2, 3, 4, 5, 6, 7, 8, 9] rfl)
              refine pz_icmple (tgt := 136) hx hb dX8_countAt_128 (by decide) (⟨by omega, by omega⟩) (⟨by omega, by omega⟩) (fun hmany => ?_) (fun hmany => ?_)
              · refine lv_iload hx hb dX8_countAt_136 (lv_at hl 7 rfl) ?_
                refine lv_aload_n hx hb dX8_countAt_138 rfl (lv_at hl 4 rfl) ?_
                refine pw_get (r := 120) (ci := 8) (C := RX8) (T := TX8) (Nf := 21) hx hb w hts hin_X8_countAt_8 hown (by omega) hm rfl 17 (by decide) (hts _ fl_X8_countAt_51) (fun _ h9 => h9) rfl dX8_countAt_139 ?_
                refine lv_iload hx hb dX8_countAt_142 (lv_at hl 3 rfl) ?_
                refine pw_iald (r := 133) (j := (9 * (gap + 1) + o)) hx hb w (by omega) l2 (by omega) (by omega) (by decide) dX8_countAt_144 ?_
                refine pz_top (b := (Wn o)) (eW) ?_
                refine pz_iadd hx hb dX8_countAt_145 ?_
                refine pz_top (b := (if 500000000 < (caU (at_ gap) Ln Wn Mn ah o).2.1 + Wn o then 500000000 else (caU (at_ gap) Ln Wn Mn ah o).2.1 + Wn o)) (by rw [if_neg (by omega)]) ?_
                exact j146 ls (lv_sub hl [0, 1, 2, 3, 4, 5, 6, 7, 8, 9] rfl)
              · refine lv_ldc hx hb hown (hts _ wd_X8_countAt_k116) dX8_countAt_131 (pz_topI (y := zI (500000000)) (by decide +kernel) ?_)
                refine lv_goto (tgt := 146) hx hb dX8_countAt_133 (by decide) ?_
                refine pz_top (b := (if 500000000 < (caU (at_ gap) Ln Wn Mn ah o).2.1 + Wn o then 500000000 else (caU (at_ gap) Ln Wn Mn ah o).2.1 + Wn o)) (by rw [if_pos (by omega)]) ?_
                exact j146 ls (lv_sub hl [0, 1, 2, 3, 4, 5, 6, 7, 8, 9] rfl)
            refine pz_icmpge (tgt := 114) hx hb dX8_countAt_98 (by decide) (⟨by omega, by omega⟩) (⟨by omega, by omega⟩) (fun hle => ?_) (fun hle => ?_)
            · refine lv_iload_n hx hb dX8_countAt_114 rfl (lv_at hl 6 rfl) ?_
              refine pz_top (b := (if at_ gap o + Ln o < (caU (at_ gap) Ln Wn Mn ah o).1 then at_ gap o + Ln o else (caU (at_ gap) Ln Wn Mn ah o).1)) (by rw [if_neg (by omega)]) ?_
              exact j115 ls (lv_sub hl [0, 1, 2, 3, 4, 5, 6, 7, 8, 9] rfl)
            · refine lv_iload hx hb dX8_countAt_101 (lv_at hl 1 rfl) ?_
              refine lv_aload_n hx hb dX8_countAt_103 rfl (lv_at hl 3 rfl) ?_
              refine pw_get (r := 120) (ci := 8) (C := RX8) (T := TX8) (Nf := 21) hx hb w hts hin_X8_countAt_8 hown (by omega) hm rfl 16 (by decide) (hts _ fl_X8_countAt_48) (fun _ h9 => h9) rfl dX8_countAt_104 ?_
              refine lv_iload hx hb dX8_countAt_107 (lv_at hl 2 rfl) ?_
              refine pw_iald (r := 132) (j := (9 * (gap + 1) + o)) hx hb w (by omega) l1 (by omega) (by omega) (by decide) dX8_countAt_109 ?_
              refine pz_top (b := (Ln o)) (eL) ?_
              refine pz_iadd hx hb dX8_countAt_110 ?_
              refine lv_goto (tgt := 115) hx hb dX8_countAt_111 (by decide) ?_
              refine pz_top (b := (if at_ gap o + Ln o < (caU (at_ gap) Ln Wn Mn ah o).1 then at_ gap o + Ln o else (caU (at_ gap) Ln Wn Mn ah o).1)) (by rw [if_pos (by omega)]) ?_
              exact j115 ls (lv_sub hl [0, 1, 2, 3, 4, 5, 6, 7, 8, 9] rfl)
        refine pz_icmpge (tgt := 79) hx hb dX8_countAt_48 (by decide) (⟨by omega, by omega⟩) (⟨by omega, by omega⟩) (fun hfar => ?_) (fun hfar => ?_)
        · refine lv_iconst (v := zI (0)) hx hb dX8_countAt_79 rfl ?_
          refine pz_top (b := (if (at_ gap o < 1000000 ∧ (o = 0 ∨ o ≠ ah) ∧ 0 < Wn o) then 1 else 0)) (by rw [if_neg (fun h => by omega)]) ?_
          exact j80 ls (lv_sub hl [0, 1, 2, 3, 4, 5, 6, 7, 8] rfl)
        · have j65 : ∀ (ls : Array Slot), (o = 0 ∨ o ≠ ah) → lv_has ls 11 [(8, .int (zI (at_ gap o))), (7, .int (zI ((9 * (gap + 1) + o : Nat) : Int))), (0, .ref (ad 120)), (1, .int (zI (gap : Int))), (2, .int (zI (ah : Int))), (3, .int (zI ((caU (at_ gap) Ln Wn Mn ah o).1))), (4, .int (zI ((caU (at_ gap) Ln Wn Mn ah o).2.1))), (5, .int (zI ((caU (at_ gap) Ln Wn Mn ah o).2.2))), (6, .int (zI ((o : Int) - 1)))] → W p l e rm_X8_countAt s m args below meth kc H locs 0 0 Q (F0 m 65 ls []) := by
            intro ls hal hl
            refine lv_aload_n hx hb dX8_countAt_65 rfl (lv_at hl 2 rfl) ?_
            refine pw_get (r := 120) (ci := 8) (C := RX8) (T := TX8) (Nf := 21) hx hb w hts hin_X8_countAt_8 hown (by omega) hm rfl 17 (by decide) (hts _ fl_X8_countAt_51) (fun _ h9 => h9) rfl dX8_countAt_66 ?_
            refine lv_iload hx hb dX8_countAt_69 (lv_at hl 1 rfl) ?_
            refine pw_iald (r := 133) (j := (9 * (gap + 1) + o)) hx hb w (by omega) l2 (by omega) (by omega) (by decide) dX8_countAt_71 ?_
            refine pz_top (b := (Wn o)) (eW) ?_
            refine pz_ifle (tgt := 79) hx hb dX8_countAt_72 (by decide) (⟨by omega, by omega⟩) (fun hw => ?_) (fun hw => ?_)
            · refine lv_iconst (v := zI (0)) hx hb dX8_countAt_79 rfl ?_
              refine pz_top (b := (if (at_ gap o < 1000000 ∧ (o = 0 ∨ o ≠ ah) ∧ 0 < Wn o) then 1 else 0)) (by rw [if_neg (fun h => by omega)]) ?_
              exact j80 ls (lv_sub hl [0, 1, 2, 3, 4, 5, 6, 7, 8] rfl)
            · refine lv_iconst (v := zI (1)) hx hb dX8_countAt_75 rfl ?_
              refine lv_goto (tgt := 80) hx hb dX8_countAt_76 (by decide) ?_
              refine pz_top (b := (if (at_ gap o < 1000000 ∧ (o = 0 ∨ o ≠ ah) ∧ 0 < Wn o) then 1 else 0)) (by rw [if_pos ⟨by omega, hal, by omega⟩]) ?_
              exact j80 ls (lv_sub hl [0, 1, 2, 3, 4, 5, 6, 7, 8] rfl)
          refine lv_iload hx hb dX8_countAt_51 (lv_at hl 8 rfl) ?_
          refine lv_iconst (v := zI (-1)) hx hb dX8_countAt_53 rfl ?_
          refine pz_icmpeq (tgt := 65) hx hb dX8_countAt_54 (by decide) (⟨by omega, by omega⟩) (⟨by omega, by omega⟩) (fun hon => ?_) (fun hon => ?_)
          · exact j65 ls (Or.inl (by omega)) (lv_sub hl [0, 1, 2, 3, 4, 5, 6, 7, 8] rfl)
          · refine lv_iload hx hb dX8_countAt_57 (lv_at hl 8 rfl) ?_
            refine lv_iconst (v := zI (1)) hx hb dX8_countAt_59 rfl ?_
            refine pz_iadd hx hb dX8_countAt_60 ?_
            refine lv_iload_n hx hb dX8_countAt_61 rfl (lv_at hl 4 rfl) ?_
            refine pz_icmpeq (tgt := 79) hx hb dX8_countAt_62 (by decide) (⟨by omega, by omega⟩) (⟨by omega, by omega⟩) (fun hah => ?_) (fun hah => ?_)
            · refine lv_iconst (v := zI (0)) hx hb dX8_countAt_79 rfl ?_
              refine pz_top (b := (if (at_ gap o < 1000000 ∧ (o = 0 ∨ o ≠ ah) ∧ 0 < Wn o) then 1 else 0)) (by rw [if_neg (fun h => by omega)]) ?_
              exact j80 ls (lv_sub hl [0, 1, 2, 3, 4, 5, 6, 7, 8] rfl)
            · exact j65 ls (Or.inr (by omega)) (lv_sub hl [0, 1, 2, 3, 4, 5, 6, 7, 8] rfl)
  exact lp (no + 2) 0 H locs ls (by omega) (by omega) w (lv_sub hl [4, 5, 6, 3, 2, 1, 0] rfl)
