theorem hin_X3_enterDraft_3 : ∀ w ∈ u_ws RX3 TX3 4, w ∈ wsX3_enterDraft := by decide +kernel
theorem fl_X3_enterDraft_11 : Cond.fieldLink RX3 11 "PipersDesk$OrnamentBook" "entries" "[LPipersDesk$Ornament;" ∈ wsX3_enterDraft := by decide +kernel
theorem fl_X3_enterDraft_21 : Cond.fieldLink RX3 21 "PipersDesk$OrnamentBook" "size" "I" ∈ wsX3_enterDraft := by decide +kernel
theorem hinn_X3_enterDraft_2 : ∀ w ∈ u_ws RX2 TX2 1, w ∈ wsX3_enterDraft := by decide +kernel
theorem fl_X3_enterDraft_17 : Cond.fieldLink RX3 17 "PipersDesk$OrnamentBook" "draft" "[I" ∈ wsX3_enterDraft := by decide +kernel
theorem fl_X3_enterDraft_25 : Cond.fieldLink RX3 25 "PipersDesk$OrnamentBook" "draftSize" "I" ∈ wsX3_enterDraft := by decide +kernel
abbrev rm_X3_enterDraft : Room := { frames := 3, cells := 2, slots := 5, locals := 90 }
set_option maxHeartbeats 1000000 in
set_option maxRecDepth 100000 in
/-- enterDraft -/
theorem c_X3_enterDraft (l : Launch) (D : va_G) (G : Nat → ClassId) (ad : Nat → Nat) (N : Nat) (c : Nat → va_E) {no dn : Nat} {gn : Nat → Nat} {gg : Nat → Nat → Nat} {dg : Nat → Nat} (hN : N = 120 + 2 * no) (hB : Book G ad c no dn gn gg dg) (hV : BookV no dn gn gg dg) (ho7 : no < 8) : MC l yX3_enterDraft wsX3_enterDraft rm_X3_enterDraft [.ref (ad 12)] D G ad N c (qI D G (fun u : (Nat → Nat) × (Nat → va_E) => (u.1, N + 1 + 1, u.2)) (fun v u => v = zI (no : Int) ∧ (∀ r, r < N → u.1 r = ad r) ∧ Book G u.1 u.2 (no + 1) 0 (fun k => if k = no then dn else gn k) (fun k => if k = no then dg else gg k) dg ∧ ∀ q, q < 120 → q ≠ 12 → q ≠ 13 → u.2 q = c q)) 2 5 := by
  refine MCi.of (cc := cX3_enterDraft) (maxL := 1) (by decide) rfl (Nat.le_of_ble_eq_true rfl) ?_
  intro p e s m args below meth kc A Q hx hb hts hown hml fin H locs w ls hl
  have hown : s.vm.findClass RX3 = some m.cls := hown
  have hl : lv_has ls 1 [(0, .ref (ad 12))] := hl
  subst hN
  have hdn4 := hV.2.2.1
  obtain ⟨b1, ⟨fo, b2, hfo⟩, b4, b5⟩ := id hB
  refine lv_aload_n hx hb dX3_enterDraft_0 rfl (lv_at hl 0 rfl) ?_
  refine pw_get (r := 12) (ci := 3) (C := RX3) (T := TX3) (Nf := 4) hx hb w hts hin_X3_enterDraft_3 hown (by omega) b1 rfl 0 (by decide) (hts _ fl_X3_enterDraft_11) (fun _ h9 => h9) rfl dX3_enterDraft_1 ?_
  refine lv_aload_n hx hb dX3_enterDraft_4 rfl (lv_at hl 0 rfl) ?_
  refine pw_get (r := 12) (ci := 3) (C := RX3) (T := TX3) (Nf := 4) hx hb w hts hin_X3_enterDraft_3 hown (by omega) b1 rfl 2 (by decide) (hts _ fl_X3_enterDraft_21) (fun _ h9 => h9) rfl dX3_enterDraft_5 ?_
  refine pw_new (ci := 2) (C := RX2) (T := TX2) (Nf := 1) (fs := [.null]) hx hb w hts hinn_X3_enterDraft_2 tyX2 tyX2_ok hown (hts (.classLink RX3 9 RX2) (by decide +kernel)) (hts (.instantiable RX2 1) (by decide +kernel)) (hts (.initialized RX2) (by decide +kernel)) rfl (fun j hj => by
    have h : j = 0 := by omega
    subst h
    rfl) (Nat.le_of_ble_eq_true rfl) (Nat.le_of_ble_eq_true rfl) dX3_enterDraft_8 (fun H ad1 c1 ha1 hc1 fr1 w => ?_)
  rw [← ha1 13 (by omega)]
  rw [← ha1 12 (by omega)] at hl
  have k2 : c1 12 = .inr (3, [.ref (ad1 13), .ref (ad1 14), .int (zI (no : Int)), .int (zI (dn : Int))]) := by
    rw [fr1 12 (by omega), ha1 13 (by omega), ha1 14 (by omega)]
    exact b1
  refine lv_dup hx hb dX3_enterDraft_11 rfl ?_
  refine lv_aload_n hx hb dX3_enterDraft_12 rfl (lv_at hl 0 rfl) ?_
  refine pw_get (r := 12) (ci := 3) (C := RX3) (T := TX3) (Nf := 4) hx hb w hts hin_X3_enterDraft_3 hown (by omega) k2 rfl 1 (by decide) (hts _ fl_X3_enterDraft_17) (fun _ h9 => h9) rfl dX3_enterDraft_13 ?_
  refine lv_aload_n hx hb dX3_enterDraft_16 rfl (lv_at hl 0 rfl) ?_
  refine pw_get (r := 12) (ci := 3) (C := RX3) (T := TX3) (Nf := 4) hx hb w hts hin_X3_enterDraft_3 hown (by omega) k2 rfl 3 (by decide) (hts _ fl_X3_enterDraft_25) (fun _ h9 => h9) rfl dX3_enterDraft_17 ?_
  refine pw_cr w (pw_runS (As := [.ref (ad1 14), .int (zI (dn : Int))]) (rest := [.ref (ad1 (120 + 2 * no)), .ref (ad1 (120 + 2 * no)), .int (zI (no : Int)), .ref (ad1 13)]) w ⟨hx, hb, hml, hown, hts⟩ (c_J7_copyOf_59c91 l D G ad1 _ c1 (o := 14) (n := dn) (nz := 4) (by omega) (isA.fr (fr1 14 (by omega)) b4) hdn4 (by omega)) (va_cwS 2 hts gX3_enterDraft_J7_copyOf_59c91 rfl rfl rfl (by decide +kernel) ⟨Nat.le_of_ble_eq_true rfl, Nat.le_of_ble_eq_true rfl⟩) rfl hl.1 rfl (lv_room (Nat.le_of_ble_eq_true rfl)) dX3_enterDraft_20 ⟨Nat.le_of_ble_eq_true rfl, Nat.le_of_ble_eq_true rfl⟩) (fun r_ u3 H locs hp w => ?_)
  obtain ⟨ad3, c3⟩ := u3
  obtain ⟨hv3, ha3, hg3, fr3⟩ := hp
  subst hv3
  have w : PW D G A s ad3 (120 + 2 * no + 1 + 1) c3 H locs := w
  have ha3 : ∀ r, r < 120 + 2 * no + 1 → ad3 r = ad1 r := ha3 -- ha3 hc
  have fr3 : ∀ q, q < 120 + 2 * no + 1 → c3 q = c1 q := fr3 -- fr3 w =>
  rw [← ha3 (120 + 2 * no) (by omega)]
  rw [← ha3 13 (by omega)]
  rw [← ha3 12 (by omega)] at hl
  have k4 : c3 12 = .inr (3, [.ref (ad3 13), .ref (ad3 14), .int (zI (no : Int)), .int (zI (dn : Int))]) := by
    rw [fr3 12 (by omega), ha3 13 (by omega), ha3 14 (by omega)]
    exact k2
  have k5 : c3 (120 + 2 * no) = .inr (2, [.null]) := by
    rw [fr3 (120 + 2 * no) (by omega)]
    exact hc1
  refine pw_cv w (pw_runI (b := ad3 (120 + 2 * no)) (As := [.ref (ad3 (120 + 2 * no + 1))]) (rest := [.ref (ad3 (120 + 2 * no)), .int (zI (no : Int)), .ref (ad3 13)]) w ⟨hx, hb, hml, hown, hts⟩ (c_X2_init l D G ad3 _ c3 (o := 120 + 2 * no) (g9 := 120 + 2 * no + 1) (by omega) (by omega) hg3 k5) (cwI 1 hts gX3_enterDraft_X2_init rfl rfl rfl (hts (.initialized RX2) (by decide +kernel)) (hts (.methodLink RX3 34 yX2_init) (by decide +kernel)) (hts (.instanceMethod yX2_init) (by decide +kernel)) rfl (by decide +kernel) ⟨Nat.le_of_ble_eq_true rfl, Nat.le_of_ble_eq_true rfl⟩) rfl hl.1 rfl (lv_room (Nat.le_of_ble_eq_true rfl)) dX3_enterDraft_23 ⟨(Nat.le_of_ble_eq_true rfl), (Nat.le_of_ble_eq_true rfl)⟩) (fun u6 H locs hp6 w => ?_)
  obtain ⟨ho6, fr6⟩ := hp6
  have w : PW D G A s ad3 (120 + 2 * no + 1 + 1) u6 H locs := w
  have fr6 : ∀ q, q ≠ 120 + 2 * no → u6 q = c3 q := fr6 -- fr6 w =>
  have h12 := (fr6 12 (by omega)).trans k4
  have h13 : u6 13 = rfs 4 G 8 fo := (fr6 13 (by omega)).trans ((fr3 13 (by omega)).trans ((fr1 13 (by omega)).trans b2))
  have h14 : isA 0 G (u6 14) 4 (fun j => (dg j : Int)) := isA.fr ((fr6 14 (by omega)).trans ((fr3 14 (by omega)).trans (fr1 14 (by omega)))) b4
  have hgg : isA 0 G (u6 (120 + 2 * no + 1)) dn (fun j => (dg j : Int)) := isA.fr (fr6 _ (by omega)) hg3
  have hA9 : ∀ r, r < 120 + 2 * no → ad3 r = ad r := fun r hr => (ha3 r (by omega)).trans (ha1 r (by omega))
  have hF9 : ∀ q, q < 120 + 2 * no → u6 q = c q := fun q hq => (fr6 q (by omega)).trans ((fr3 q (by omega)).trans (fr1 q (by omega)))
  refine pw_aast (r := 13) (q := 120 + 2 * no) (ci := 2) (kd := 4) (n := 8) (f := fo) (j := no) hx hb w (by omega) (by omega) h13 ho6 rfl rfl rfl (by omega) (by decide) dX3_enterDraft_26 (fun H locs w => ?_)
  have hc7 : va_up u6 13 (rfs 4 G 8 (va_up fo no (some (ad3 (120 + 2 * no))))) 13 = rfs 4 G 8 (va_up fo no (some (ad3 (120 + 2 * no)))) := va_up_self _ _ _
  have fr7 : ∀ q, q ≠ 13 → va_up u6 13 (rfs 4 G 8 (va_up fo no (some (ad3 (120 + 2 * no))))) q = u6 q := fun q hq => va_up_ne _ _ hq
  generalize va_up u6 13 (rfs 4 G 8 (va_up fo no (some (ad3 (120 + 2 * no))))) = c7 at *
  refine lv_aload_n hx hb dX3_enterDraft_27 rfl (lv_at hl 0 rfl) ?_
  refine lv_iconst (v := zI (0)) hx hb dX3_enterDraft_28 rfl ?_
  refine pw_put' (r := 12) (ci := 3) (C := RX3) (T := TX3) (Nf := 4) hx hb w hts hin_X3_enterDraft_3 tyX3 tyX3_ok nmX3 hown (by omega) ((fr7 12 (by omega)).trans h12) rfl 3 (by decide) (hts _ fl_X3_enterDraft_25) (fun _ h9 => h9) rfl (ty := .int) (by decide +kernel) rfl rfl (Nat.le_of_ble_eq_true rfl) dX3_enterDraft_29 (fun H locs c8 hc8 fr8 w => ?_)
  refine lv_aload_n hx hb dX3_enterDraft_32 rfl (lv_at hl 0 rfl) ?_
  refine lv_dup hx hb dX3_enterDraft_33 rfl ?_
  refine pw_get (r := 12) (ci := 3) (C := RX3) (T := TX3) (Nf := 4) hx hb w hts hin_X3_enterDraft_3 hown (by omega) hc8 rfl 2 (by decide) (hts _ fl_X3_enterDraft_21) (fun _ h9 => h9) rfl dX3_enterDraft_34 ?_
  refine lv_iconst (v := zI (1)) hx hb dX3_enterDraft_37 rfl ?_
  refine pz_iadd hx hb dX3_enterDraft_38 ?_
  refine pw_put' (r := 12) (ci := 3) (C := RX3) (T := TX3) (Nf := 4) hx hb w hts hin_X3_enterDraft_3 tyX3 tyX3_ok nmX3 hown (by omega) hc8 rfl 2 (by decide) (hts _ fl_X3_enterDraft_21) (fun _ h9 => h9) rfl (ty := .int) (by decide +kernel) rfl rfl (Nat.le_of_ble_eq_true rfl) dX3_enterDraft_39 (fun H locs c9 hc9 fr9 w => ?_)
  refine lv_aload_n hx hb dX3_enterDraft_42 rfl (lv_at hl 0 rfl) ?_
  refine pw_get (r := 12) (ci := 3) (C := RX3) (T := TX3) (Nf := 4) hx hb w hts hin_X3_enterDraft_3 hown (by omega) hc9 rfl 2 (by decide) (hts _ fl_X3_enterDraft_21) (fun _ h9 => h9) rfl dX3_enterDraft_43 ?_
  refine lv_iconst (v := zI (1)) hx hb dX3_enterDraft_46 rfl ?_
  refine pz_isub hx hb dX3_enterDraft_47 ?_
  refine pz_top (b := (no : Int)) (by omega) ?_
  have hF8 : ∀ q, q ≠ 12 → c9 q = c7 q := fun q hq => ((fr9 q (by omega)).trans ((fr8 q (by omega)).trans rfl))
  have hP : (zI (no : Int) = zI (no : Int) ∧ (∀ r, r < 120 + 2 * no → ad3 r = ad r) ∧ Book G ad3 c9 (no + 1) 0 (fun k => if k = no then dn else gn k) (fun k => if k = no then dg else gg k) dg ∧ ∀ q, q < 120 → q ≠ 12 → q ≠ 13 → c9 q = c q) := by
    refine ⟨rfl, hA9, ⟨by rw [show ((no + 1 : Nat) : Int) = (no : Int) + 1 from by omega]; exact hc9, ⟨_, (hF8 13 (by omega)).trans hc7, fun k hk => ?_⟩, isA.fr ((hF8 14 (by omega)).trans (fr7 14 (by omega))) h14, fun k hk => ?_⟩, fun q h1 h2 h3 => (hF8 q (by omega)).trans ((fr7 q (by omega)).trans (hF9 q (by omega)))⟩
    · by_cases e : k = no
      · rw [e, va_up_self, if_pos (by omega)]
      · rw [va_up_ne _ _ e, hfo k hk]
        by_cases q : k < no
        · rw [if_pos q, if_pos (by omega), hA9 _ (by omega)]
        · rw [if_neg q, if_neg (by omega)]
    · have hk8 := hV.1
      by_cases e : k = no
      · subst e
        simp only [if_true]
        exact ⟨(hF8 _ (by omega)).trans ((fr7 _ (by omega)).trans ho6), isA.fr ((hF8 _ (by omega)).trans (fr7 _ (by omega))) hgg⟩
      · simp only [if_neg e]
        have h := b5 k (by omega)
        exact ⟨by rw [hF8 _ (by omega), fr7 _ (by omega), hF9 _ (by omega), h.1, hA9 _ (by omega)], isA.fr ((hF8 _ (by omega)).trans ((fr7 _ (by omega)).trans (hF9 _ (by omega)))) h.2⟩
  exact fin (ad3, _, c9) (ad3, c9) _ _ _ _ _ _ _ rfl hP w dX3_enterDraft_48 (Nat.le_of_ble_eq_true rfl) (by show _ ≤ 5; omega)
