/-- a tune's object at the role T: n notes of the pitches pt and the lengths ln, the wishes wi -/
def TuneO (G : Nat → ClassId) (ad : Nat → Nat) (c : Nat → va_E) (T n : Nat) (pt ln : Nat → Nat) (wi : Nat → Int) : Prop :=
  c T = .inr (5, [.ref (ad (T + 1)), .ref (ad (T + 2)), .ref (ad (T + 3)), .ref (ad (T + 4)), .int (zI (n : Int))]) ∧ (∃ g, isA 0 G (c (T + 1)) 10 g ∧ ∀ i, i < n → g i = (pt i : Int)) ∧ (∃ g, isA 0 G (c (T + 2)) 10 g ∧ ∀ i, i < n → g i = (ln i : Int)) ∧
  (∃ g, isA 1 G (c (T + 3)) 9 g ∧ (∀ i, i + 1 < n → g i = wi i)) ∧ ∃ f : Nat → Option Nat, c (T + 4) = rfs 2 G 9 f ∧ ∀ i, i < 9 → f i = some (ad (T + 5 + i))
def TuneV (n : Nat) (pt ln : Nat → Nat) (wi : Nat → Int) : Prop := n ≤ 10 ∧ (∀ i, i < n → pt i < 9 ∧ 1 ≤ ln i ∧ ln i ≤ 32) ∧ ∀ i, i + 1 < n → wi i = 0 ∨ wi i = 1
def TuneR (G : Nat → ClassId) (c : Nat → va_E) (T : Nat) : Prop := ∀ i, i < 9 → ∃ g, isA 0 G (c (T + 5 + i)) 9 g
theorem TuneO.fr {G : Nat → ClassId} {ad : Nat → Nat} {c c1 : Nat → va_E} {T n : Nat} {pt ln : Nat → Nat} {wi : Nat → Int} (h : TuneO G ad c T n pt ln wi) (hf : ∀ q, T ≤ q → q < T + 5 → c1 q = c q) : TuneO G ad c1 T n pt ln wi := by
  obtain ⟨h1, ⟨g2, h2, h2'⟩, ⟨g3, h3, h3'⟩, ⟨g4, h4, h4'⟩, f, h5, h6⟩ := h
  exact ⟨(hf _ (by omega) (by omega)).trans h1, ⟨g2, isA.fr (hf _ (by omega) (by omega)) h2, h2'⟩, ⟨g3, isA.fr (hf _ (by omega) (by omega)) h3, h3'⟩, ⟨g4, isA.fr (hf _ (by omega) (by omega)) h4, h4'⟩, f, (hf _ (by omega) (by omega)).trans h5, h6⟩
theorem TuneR.fr {G : Nat → ClassId} {c c1 : Nat → va_E} {T : Nat} (h : TuneR G c T) (hf : ∀ q, T + 5 ≤ q → q < T + 14 → c1 q = c q) : TuneR G c1 T := fun i hi => by
  obtain ⟨g, hg⟩ := h i hi
  exact ⟨g, isA.fr (hf _ (by omega) (by omega)) hg⟩

theorem hin_X5_size_5 : ∀ w ∈ u_ws RX5 TX5 5, w ∈ wsX5_size := by decide +kernel
theorem fl_X5_size_27 : Cond.fieldLink RX5 27 "PipersDesk$Tune" "size" "I" ∈ wsX5_size := by decide +kernel
abbrev rm_X5_size : Room := { frames := 0, cells := 0, slots := 0, locals := 0 }
set_option maxHeartbeats 4000000 in
set_option maxRecDepth 100000 in
/-- Tune.size -/
theorem c_X5_size (l : Launch) (D : va_G) (G : Nat → ClassId) (ad : Nat → Nat) (N : Nat) (c : Nat → va_E) {T n : Nat} {pt ln : Nat → Nat} {wi : Nat → Int} (hT : 16 ≤ T ∧ T + 14 ≤ 72) (hN : 120 ≤ N) (hO : TuneO G ad c T n pt ln wi) (hV : TuneV n pt ln wi) : MC l yX5_size wsX5_size rm_X5_size [.ref (ad T)] D G ad N c (qI D G (fx ad N) (fun v c1 => v = zI (n : Int) ∧ c1 = c)) 0 0 := by
  refine MCi.of (cc := cX5_size) (maxL := 1) (by decide) rfl (Nat.le_of_ble_eq_true rfl) ?_
  intro p e s m args below meth kc A Q hx hb hts hown hml fin H locs w ls hl
  have hown : s.vm.findClass RX5 = some m.cls := hown
  have hl : lv_has ls 1 [(0, .ref (ad T))] := hl
  obtain ⟨t1, ⟨gp, t2, t2p⟩, ⟨gl, t3, t3p⟩, ⟨gw, t4, t4p⟩, ft, t5, t6⟩ := id hO
  obtain ⟨v1, v2, v3⟩ := id hV
  refine lv_aload_n hx hb dX5_size_0 rfl (lv_at hl 0 rfl) ?_
  refine pw_get (r := T) (ci := 5) (C := RX5) (T := TX5) (Nf := 5) hx hb w hts hin_X5_size_5 hown (by omega) t1 rfl 4 (by decide) (hts _ fl_X5_size_27) (fun _ h9 => h9) rfl dX5_size_1 ?_
  exact fin (ad, N, c) c _ _ _ _ _ _ _ rfl ⟨rfl, rfl⟩ w dX5_size_4 (Nat.le_refl _) (Nat.le_refl _)

theorem hin_X5_gaps_5 : ∀ w ∈ u_ws RX5 TX5 5, w ∈ wsX5_gaps := by decide +kernel
theorem fl_X5_gaps_27 : Cond.fieldLink RX5 27 "PipersDesk$Tune" "size" "I" ∈ wsX5_gaps := by decide +kernel
abbrev rm_X5_gaps : Room := { frames := 0, cells := 0, slots := 0, locals := 0 }
set_option maxHeartbeats 4000000 in
set_option maxRecDepth 100000 in
/-- Tune.gaps -/
theorem c_X5_gaps (l : Launch) (D : va_G) (G : Nat → ClassId) (ad : Nat → Nat) (N : Nat) (c : Nat → va_E) {T n : Nat} {pt ln : Nat → Nat} {wi : Nat → Int} (hT : 16 ≤ T ∧ T + 14 ≤ 72) (hN : 120 ≤ N) (hO : TuneO G ad c T n pt ln wi) (hV : TuneV n pt ln wi) : MC l yX5_gaps wsX5_gaps rm_X5_gaps [.ref (ad T)] D G ad N c (qI D G (fx ad N) (fun v c1 => v = zI ((n - 1 : Nat) : Int) ∧ c1 = c)) 0 0 := by
  refine MCi.of (cc := cX5_gaps) (maxL := 1) (by decide) rfl (Nat.le_of_ble_eq_true rfl) ?_
  intro p e s m args below meth kc A Q hx hb hts hown hml fin H locs w ls hl
  have hown : s.vm.findClass RX5 = some m.cls := hown
  have hl : lv_has ls 1 [(0, .ref (ad T))] := hl
  obtain ⟨t1, ⟨gp, t2, t2p⟩, ⟨gl, t3, t3p⟩, ⟨gw, t4, t4p⟩, ft, t5, t6⟩ := id hO
  obtain ⟨v1, v2, v3⟩ := id hV
  refine lv_aload_n hx hb dX5_gaps_0 rfl (lv_at hl 0 rfl) ?_
  refine pw_get (r := T) (ci := 5) (C := RX5) (T := TX5) (Nf := 5) hx hb w hts hin_X5_gaps_5 hown (by omega) t1 rfl 4 (by decide) (hts _ fl_X5_gaps_27) (fun _ h9 => h9) rfl dX5_gaps_1 ?_
  refine pz_ifne (tgt := 11) hx hb dX5_gaps_4 (by decide) (⟨by omega, by omega⟩) (fun hn => ?_) (fun hn => ?_)
  · refine lv_aload_n hx hb dX5_gaps_11 rfl (lv_at hl 0 rfl) ?_
    refine pw_get (r := T) (ci := 5) (C := RX5) (T := TX5) (Nf := 5) hx hb w hts hin_X5_gaps_5 hown (by omega) t1 rfl 4 (by decide) (hts _ fl_X5_gaps_27) (fun _ h9 => h9) rfl dX5_gaps_12 ?_
    refine lv_iconst (v := zI (1)) hx hb dX5_gaps_15 rfl ?_
    refine pz_isub hx hb dX5_gaps_16 ?_
    refine pz_top (b := ((n - 1 : Nat) : Int)) (by omega) ?_
    exact fin (ad, N, c) c _ _ _ _ _ _ _ rfl ⟨rfl, rfl⟩ w dX5_gaps_17 (Nat.le_refl _) (Nat.le_refl _)
  · refine lv_iconst (v := zI (0)) hx hb dX5_gaps_7 rfl ?_
    refine lv_goto (tgt := 17) hx hb dX5_gaps_8 (by decide) ?_
    refine pz_top (b := ((n - 1 : Nat) : Int)) (by omega) ?_
    exact fin (ad, N, c) c _ _ _ _ _ _ _ rfl ⟨rfl, rfl⟩ w dX5_gaps_17 (Nat.le_refl _) (Nat.le_refl _)

theorem hin_X5_pitchOf_5 : ∀ w ∈ u_ws RX5 TX5 5, w ∈ wsX5_pitchOf := by decide +kernel
theorem fl_X5_pitchOf_9 : Cond.fieldLink RX5 9 "PipersDesk$Tune" "pitches" "[I" ∈ wsX5_pitchOf := by decide +kernel
abbrev rm_X5_pitchOf : Room := { frames := 0, cells := 0, slots := 0, locals := 0 }
set_option maxHeartbeats 4000000 in
set_option maxRecDepth 100000 in
/-- X5_pitchOf -/
theorem c_X5_pitchOf (l : Launch) (D : va_G) (G : Nat → ClassId) (ad : Nat → Nat) (N : Nat) (c : Nat → va_E) {T n : Nat} {pt ln : Nat → Nat} {wi : Nat → Int} (hT : 16 ≤ T ∧ T + 14 ≤ 72) (hN : 120 ≤ N) (hO : TuneO G ad c T n pt ln wi) (hV : TuneV n pt ln wi) {i : Nat} (hi : i < n) : MC l yX5_pitchOf wsX5_pitchOf rm_X5_pitchOf [.ref (ad T), .int (zI (i : Int))] D G ad N c (qI D G (fx ad N) (fun v c1 => v = zI (pt i : Int) ∧ c1 = c)) 0 0 := by
  refine MCi.of (cc := cX5_pitchOf) (maxL := 2) (by decide) rfl (Nat.le_of_ble_eq_true rfl) ?_
  intro p e s m args below meth kc A Q hx hb hts hown hml fin H locs w ls hl
  have hown : s.vm.findClass RX5 = some m.cls := hown
  have hl : lv_has ls 2 [(0, .ref (ad T)), (1, .int (zI (i : Int)))] := hl
  obtain ⟨t1, ⟨gp, t2, t2p⟩, ⟨gl, t3, t3p⟩, ⟨gw, t4, t4p⟩, ft, t5, t6⟩ := id hO
  obtain ⟨v1, v2, v3⟩ := id hV
  refine lv_aload_n hx hb dX5_pitchOf_0 rfl (lv_at hl 0 rfl) ?_
  refine pw_get (r := T) (ci := 5) (C := RX5) (T := TX5) (Nf := 5) hx hb w hts hin_X5_pitchOf_5 hown (by omega) t1 rfl 0 (by decide) (hts _ fl_X5_pitchOf_9) (fun _ h9 => h9) rfl dX5_pitchOf_1 ?_
  refine lv_iload_n hx hb dX5_pitchOf_4 rfl (lv_at hl 1 rfl) ?_
  refine pw_iald (r := (T + 1)) (j := i) hx hb w (by omega) t2 (by omega) (by omega) (by decide) dX5_pitchOf_5 ?_
  refine pz_top (b := (pt i : Int)) (t2p i hi) ?_
  exact fin (ad, N, c) c _ _ _ _ _ _ _ rfl ⟨rfl, rfl⟩ w dX5_pitchOf_6 (Nat.le_refl _) (Nat.le_refl _)

theorem hin_X5_lengthOf_5 : ∀ w ∈ u_ws RX5 TX5 5, w ∈ wsX5_lengthOf := by decide +kernel
theorem fl_X5_lengthOf_15 : Cond.fieldLink RX5 15 "PipersDesk$Tune" "lengths" "[I" ∈ wsX5_lengthOf := by decide +kernel
abbrev rm_X5_lengthOf : Room := { frames := 0, cells := 0, slots := 0, locals := 0 }
set_option maxHeartbeats 4000000 in
set_option maxRecDepth 100000 in
/-- X5_lengthOf -/
theorem c_X5_lengthOf (l : Launch) (D : va_G) (G : Nat → ClassId) (ad : Nat → Nat) (N : Nat) (c : Nat → va_E) {T n : Nat} {pt ln : Nat → Nat} {wi : Nat → Int} (hT : 16 ≤ T ∧ T + 14 ≤ 72) (hN : 120 ≤ N) (hO : TuneO G ad c T n pt ln wi) (hV : TuneV n pt ln wi) {i : Nat} (hi : i < n) : MC l yX5_lengthOf wsX5_lengthOf rm_X5_lengthOf [.ref (ad T), .int (zI (i : Int))] D G ad N c (qI D G (fx ad N) (fun v c1 => v = zI (ln i : Int) ∧ c1 = c)) 0 0 := by
  refine MCi.of (cc := cX5_lengthOf) (maxL := 2) (by decide) rfl (Nat.le_of_ble_eq_true rfl) ?_
  intro p e s m args below meth kc A Q hx hb hts hown hml fin H locs w ls hl
  have hown : s.vm.findClass RX5 = some m.cls := hown
  have hl : lv_has ls 2 [(0, .ref (ad T)), (1, .int (zI (i : Int)))] := hl
  obtain ⟨t1, ⟨gp, t2, t2p⟩, ⟨gl, t3, t3p⟩, ⟨gw, t4, t4p⟩, ft, t5, t6⟩ := id hO
  obtain ⟨v1, v2, v3⟩ := id hV
  refine lv_aload_n hx hb dX5_lengthOf_0 rfl (lv_at hl 0 rfl) ?_
  refine pw_get (r := T) (ci := 5) (C := RX5) (T := TX5) (Nf := 5) hx hb w hts hin_X5_lengthOf_5 hown (by omega) t1 rfl 1 (by decide) (hts _ fl_X5_lengthOf_15) (fun _ h9 => h9) rfl dX5_lengthOf_1 ?_
  refine lv_iload_n hx hb dX5_lengthOf_4 rfl (lv_at hl 1 rfl) ?_
  refine pw_iald (r := (T + 2)) (j := i) hx hb w (by omega) t3 (by omega) (by omega) (by decide) dX5_lengthOf_5 ?_
  refine pz_top (b := (ln i : Int)) (t3p i hi) ?_
  exact fin (ad, N, c) c _ _ _ _ _ _ _ rfl ⟨rfl, rfl⟩ w dX5_lengthOf_6 (Nat.le_refl _) (Nat.le_refl _)

theorem hin_X5_costsAt_5 : ∀ w ∈ u_ws RX5 TX5 5, w ∈ wsX5_costsAt := by decide +kernel
theorem fl_X5_costsAt_24 : Cond.fieldLink RX5 24 "PipersDesk$Tune" "gapCosts" "[[I" ∈ wsX5_costsAt := by decide +kernel
abbrev rm_X5_costsAt : Room := { frames := 0, cells := 0, slots := 0, locals := 0 }
set_option maxHeartbeats 4000000 in
set_option maxRecDepth 100000 in
/-- Tune.costsAt -/
theorem c_X5_costsAt (l : Launch) (D : va_G) (G : Nat → ClassId) (ad : Nat → Nat) (N : Nat) (c : Nat → va_E) {T n : Nat} {pt ln : Nat → Nat} {wi : Nat → Int} (hT : 16 ≤ T ∧ T + 14 ≤ 72) (hN : 120 ≤ N) (hO : TuneO G ad c T n pt ln wi) (hV : TuneV n pt ln wi) {i : Nat} (hi : i < 9) : MC l yX5_costsAt wsX5_costsAt rm_X5_costsAt [.ref (ad T), .int (zI (i : Int))] D G ad N c (qR D G (fx ad N) (fun v c1 => v = ad (T + 5 + i) ∧ c1 = c)) 0 0 := by
  refine MCr.of (cc := cX5_costsAt) (maxL := 2) (by decide) rfl (Or.inr ⟨_, rfl⟩) (Nat.le_of_ble_eq_true rfl) ?_
  intro p e s m args below meth kc A Q hx hb hts hown hml fin H locs w ls hl
  have hown : s.vm.findClass RX5 = some m.cls := hown
  have hl : lv_has ls 2 [(0, .ref (ad T)), (1, .int (zI (i : Int)))] := hl
  obtain ⟨t1, ⟨gp, t2, t2p⟩, ⟨gl, t3, t3p⟩, ⟨gw, t4, t4p⟩, ft, t5, t6⟩ := id hO
  obtain ⟨v1, v2, v3⟩ := id hV
  refine lv_aload_n hx hb dX5_costsAt_0 rfl (lv_at hl 0 rfl) ?_
  refine pw_get (r := T) (ci := 5) (C := RX5) (T := TX5) (Nf := 5) hx hb w hts hin_X5_costsAt_5 hown (by omega) t1 rfl 3 (by decide) (hts _ fl_X5_costsAt_24) (fun _ h9 => h9) rfl dX5_costsAt_1 ?_
  refine lv_iload_n hx hb dX5_costsAt_4 rfl (lv_at hl 1 rfl) ?_
  refine pw_aaldR (r := (T + 4)) (j := i) hx hb w (by omega) t5 rfl rfl (by omega) (by omega) (by decide) (T + 5 + i) (t6 i (by omega)) dX5_costsAt_5 ?_
  exact fin (ad, N, c) c _ _ _ _ _ _ _ rfl ⟨rfl, rfl⟩ w dX5_costsAt_6 (Nat.le_refl _) (Nat.le_refl _)

theorem hin_X5_append_5 : ∀ w ∈ u_ws RX5 TX5 5, w ∈ wsX5_append := by decide +kernel
theorem fl_X5_append_27 : Cond.fieldLink RX5 27 "PipersDesk$Tune" "size" "I" ∈ wsX5_append := by decide +kernel
theorem fl_X5_append_9 : Cond.fieldLink RX5 9 "PipersDesk$Tune" "pitches" "[I" ∈ wsX5_append := by decide +kernel
theorem fl_X5_append_15 : Cond.fieldLink RX5 15 "PipersDesk$Tune" "lengths" "[I" ∈ wsX5_append := by decide +kernel
theorem fl_X5_append_18 : Cond.fieldLink RX5 18 "PipersDesk$Tune" "wishes" "[Z" ∈ wsX5_append := by decide +kernel
abbrev rm_X5_append : Room := { frames := 0, cells := 0, slots := 0, locals := 0 }
set_option maxHeartbeats 4000000 in
set_option maxRecDepth 100000 in
/-- Tune.append -/
theorem c_X5_append (l : Launch) (D : va_G) (G : Nat → ClassId) (ad : Nat → Nat) (N : Nat) (c : Nat → va_E) {T n : Nat} {pt ln : Nat → Nat} {wi : Nat → Int} (hT : 16 ≤ T ∧ T + 14 ≤ 72) (hN : 120 ≤ N) (hO : TuneO G ad c T n pt ln wi) (hV : TuneV n pt ln wi) {x mm : Nat} (hn10 : n < 10) : MC l yX5_append wsX5_append rm_X5_append [.ref (ad T), .int (zI (x : Int)), .int (zI (mm : Int))] D G ad N c (qI D G (fx ad N) (fun v c1 => v = zI ((n + 1 : Nat) : Int) ∧ TuneO G ad c1 T (n + 1) (fun i => if i = n then x else pt i) (fun i => if i = n then mm else ln i) (fun i => if i + 1 = n then 0 else wi i) ∧ ∀ q, (q < T ∨ T + 4 ≤ q) → c1 q = c q)) 0 0 := by
  refine MCi.of (cc := cX5_append) (maxL := 3) (by decide) rfl (Nat.le_of_ble_eq_true rfl) ?_
  intro p e s m args below meth kc A Q hx hb hts hown hml fin H locs w ls hl
  have hown : s.vm.findClass RX5 = some m.cls := hown
  have hl : lv_has ls 3 [(0, .ref (ad T)), (1, .int (zI (x : Int))), (2, .int (zI (mm : Int)))] := hl
  obtain ⟨t1, ⟨gp, t2, t2p⟩, ⟨gl, t3, t3p⟩, ⟨gw, t4, t4p⟩, ft, t5, t6⟩ := id hO
  obtain ⟨v1, v2, v3⟩ := id hV
  refine lv_aload_n hx hb dX5_append_0 rfl (lv_at hl 0 rfl) ?_
  refine pw_get (r := T) (ci := 5) (C := RX5) (T := TX5) (Nf := 5) hx hb w hts hin_X5_append_5 hown (by omega) t1 rfl 4 (by decide) (hts _ fl_X5_append_27) (fun _ h9 => h9) rfl dX5_append_1 ?_
  refine pz_ifle (tgt := 19) hx hb dX5_append_4 (by decide) (⟨by omega, by omega⟩) (fun hn => ?_) (fun hn => ?_)
  · refine lv_aload_n hx hb dX5_append_19 rfl (lv_at hl 0 rfl) ?_
    refine pw_get (r := T) (ci := 5) (C := RX5) (T := TX5) (Nf := 5) hx hb w hts hin_X5_append_5 hown (by omega) t1 rfl 0 (by decide) (hts _ fl_X5_append_9) (fun _ h9 => h9) rfl dX5_append_20 ?_
    refine lv_aload_n hx hb dX5_append_23 rfl (lv_at hl 0 rfl) ?_
    refine pw_get (r := T) (ci := 5) (C := RX5) (T := TX5) (Nf := 5) hx hb w hts hin_X5_append_5 hown (by omega) t1 rfl 4 (by decide) (hts _ fl_X5_append_27) (fun _ h9 => h9) rfl dX5_append_24 ?_
    refine lv_iload_n hx hb dX5_append_27 rfl (lv_at hl 1 rfl) ?_
    refine pw_iast' (r := (T + 1)) (j := n) hx hb w (by omega) t2 (by omega) (by omega) (by decide) dX5_append_28 (fun H locs c1 hc1 fr1 w => ?_)
    refine lv_aload_n hx hb dX5_append_29 rfl (lv_at hl 0 rfl) ?_
    refine pw_get (r := T) (ci := 5) (C := RX5) (T := TX5) (Nf := 5) hx hb w hts hin_X5_append_5 hown (by omega) ((fr1 T (by omega)).trans t1) rfl 1 (by decide) (hts _ fl_X5_append_15) (fun _ h9 => h9) rfl dX5_append_30 ?_
    refine lv_aload_n hx hb dX5_append_33 rfl (lv_at hl 0 rfl) ?_
    refine pw_get (r := T) (ci := 5) (C := RX5) (T := TX5) (Nf := 5) hx hb w hts hin_X5_append_5 hown (by omega) ((fr1 T (by omega)).trans t1) rfl 4 (by decide) (hts _ fl_X5_append_27) (fun _ h9 => h9) rfl dX5_append_34 ?_
    refine lv_iload_n hx hb dX5_append_37 rfl (lv_at hl 2 rfl) ?_
    refine pw_iast' (r := (T + 2)) (j := n) hx hb w (by omega) (isA.fr (fr1 (T + 2) (by omega)) t3) (by omega) (by omega) (by decide) dX5_append_38 (fun H locs c2 hc2 fr2 w => ?_)
    refine lv_aload_n hx hb dX5_append_39 rfl (lv_at hl 0 rfl) ?_
    refine lv_dup hx hb dX5_append_40 rfl ?_
    refine pw_get (r := T) (ci := 5) (C := RX5) (T := TX5) (Nf := 5) hx hb w hts hin_X5_append_5 hown (by omega) ((fr2 T (by omega)).trans ((fr1 T (by omega)).trans t1)) rfl 4 (by decide) (hts _ fl_X5_append_27) (fun _ h9 => h9) rfl dX5_append_41 ?_
    refine lv_iconst (v := zI (1)) hx hb dX5_append_44 rfl ?_
    refine pz_iadd hx hb dX5_append_45 ?_
    refine pw_put' (r := T) (ci := 5) (C := RX5) (T := TX5) (Nf := 5) hx hb w hts hin_X5_append_5 tyX5 tyX5_ok nmX5 hown (by omega) ((fr2 T (by omega)).trans ((fr1 T (by omega)).trans t1)) rfl 4 (by decide) (hts _ fl_X5_append_27) (fun _ h9 => h9) rfl (ty := .int) (by decide +kernel) rfl rfl (Nat.le_of_ble_eq_true rfl) dX5_append_46 (fun H locs c3 hc3 fr3 w => ?_)
    refine lv_aload_n hx hb dX5_append_49 rfl (lv_at hl 0 rfl) ?_
    refine pw_get (r := T) (ci := 5) (C := RX5) (T := TX5) (Nf := 5) hx hb w hts hin_X5_append_5 hown (by omega) hc3 rfl 4 (by decide) (hts _ fl_X5_append_27) (fun _ h9 => h9) rfl dX5_append_50 ?_
    refine fin (ad, N, c3) c3 _ _ _ _ _ _ _ rfl ⟨by rw [show ((n + 1 : Nat) : Int) = (n : Int) + 1 from by omega], ⟨by rw [show ((n + 1 : Nat) : Int) = (n : Int) + 1 from by omega]; exact hc3, ⟨_, (isA.fr (fr3 (T + 1) (by omega)) (isA.fr (fr2 (T + 1) (by omega)) hc1)), fun i hi => ?_⟩, ⟨_, (isA.fr (fr3 (T + 2) (by omega)) hc2), fun i hi => ?_⟩, ⟨_, (isA.fr (fr3 (T + 3) (by omega)) (isA.fr (fr2 (T + 3) (by omega)) (isA.fr (fr1 (T + 3) (by omega)) t4))), fun i hi => ?_⟩, ft, ((fr3 (T + 4) (by omega)).trans ((fr2 (T + 4) (by omega)).trans ((fr1 (T + 4) (by omega)).trans t5))), t6⟩, fun q hq => ((fr3 q (by omega)).trans ((fr2 q (by omega)).trans ((fr1 q (by omega)).trans rfl)))⟩ w dX5_append_53 (Nat.le_refl _) (Nat.le_refl _)
    · unfold upI
      by_cases h : i = n
      · simp [h]
      · simp [h, t2p i (by omega)]
    · unfold upI
      by_cases h : i = n
      · simp [h]
      · simp [h, t3p i (by omega)]
    · omega
  · refine lv_aload_n hx hb dX5_append_7 rfl (lv_at hl 0 rfl) ?_
    refine pw_get (r := T) (ci := 5) (C := RX5) (T := TX5) (Nf := 5) hx hb w hts hin_X5_append_5 hown (by omega) t1 rfl 2 (by decide) (hts _ fl_X5_append_18) (fun _ h9 => h9) rfl dX5_append_8 ?_
    refine lv_aload_n hx hb dX5_append_11 rfl (lv_at hl 0 rfl) ?_
    refine pw_get (r := T) (ci := 5) (C := RX5) (T := TX5) (Nf := 5) hx hb w hts hin_X5_append_5 hown (by omega) t1 rfl 4 (by decide) (hts _ fl_X5_append_27) (fun _ h9 => h9) rfl dX5_append_12 ?_
    refine lv_iconst (v := zI (1)) hx hb dX5_append_15 rfl ?_
    refine pz_isub hx hb dX5_append_16 ?_
    refine lv_iconst (v := zI (0)) hx hb dX5_append_17 rfl ?_
    refine pw_zast' (r := (T + 3)) (j := (n - 1)) hx hb w (by omega) t4 (by omega) (by omega) (by omega) (by decide) dX5_append_18 (fun H locs c4 hc4 fr4 w => ?_)
    refine lv_aload_n hx hb dX5_append_19 rfl (lv_at hl 0 rfl) ?_
    refine pw_get (r := T) (ci := 5) (C := RX5) (T := TX5) (Nf := 5) hx hb w hts hin_X5_append_5 hown (by omega) ((fr4 T (by omega)).trans t1) rfl 0 (by decide) (hts _ fl_X5_append_9) (fun _ h9 => h9) rfl dX5_append_20 ?_
    refine lv_aload_n hx hb dX5_append_23 rfl (lv_at hl 0 rfl) ?_
    refine pw_get (r := T) (ci := 5) (C := RX5) (T := TX5) (Nf := 5) hx hb w hts hin_X5_append_5 hown (by omega) ((fr4 T (by omega)).trans t1) rfl 4 (by decide) (hts _ fl_X5_append_27) (fun _ h9 => h9) rfl dX5_append_24 ?_
    refine lv_iload_n hx hb dX5_append_27 rfl (lv_at hl 1 rfl) ?_
    refine pw_iast' (r := (T + 1)) (j := n) hx hb w (by omega) (isA.fr (fr4 (T + 1) (by omega)) t2) (by omega) (by omega) (by decide) dX5_append_28 (fun H locs c5 hc5 fr5 w => ?_)
    refine lv_aload_n hx hb dX5_append_29 rfl (lv_at hl 0 rfl) ?_
    refine pw_get (r := T) (ci := 5) (C := RX5) (T := TX5) (Nf := 5) hx hb w hts hin_X5_append_5 hown (by omega) ((fr5 T (by omega)).trans ((fr4 T (by omega)).trans t1)) rfl 1 (by decide) (hts _ fl_X5_append_15) (fun _ h9 => h9) rfl dX5_append_30 ?_
    refine lv_aload_n hx hb dX5_append_33 rfl (lv_at hl 0 rfl) ?_
    refine pw_get (r := T) (ci := 5) (C := RX5) (T := TX5) (Nf := 5) hx hb w hts hin_X5_append_5 hown (by omega) ((fr5 T (by omega)).trans ((fr4 T (by omega)).trans t1)) rfl 4 (by decide) (hts _ fl_X5_append_27) (fun _ h9 => h9) rfl dX5_append_34 ?_
    refine lv_iload_n hx hb dX5_append_37 rfl (lv_at hl 2 rfl) ?_
    refine pw_iast' (r := (T + 2)) (j := n) hx hb w (by omega) (isA.fr (fr5 (T + 2) (by omega)) (isA.fr (fr4 (T + 2) (by omega)) t3)) (by omega) (by omega) (by decide) dX5_append_38 (fun H locs c6 hc6 fr6 w => ?_)
    refine lv_aload_n hx hb dX5_append_39 rfl (lv_at hl 0 rfl) ?_
    refine lv_dup hx hb dX5_append_40 rfl ?_
    refine pw_get (r := T) (ci := 5) (C := RX5) (T := TX5) (Nf := 5) hx hb w hts hin_X5_append_5 hown (by omega) ((fr6 T (by omega)).trans ((fr5 T (by omega)).trans ((fr4 T (by omega)).trans t1))) rfl 4 (by decide) (hts _ fl_X5_append_27) (fun _ h9 => h9) rfl dX5_append_41 ?_
    refine lv_iconst (v := zI (1)) hx hb dX5_append_44 rfl ?_
    refine pz_iadd hx hb dX5_append_45 ?_
    refine pw_put' (r := T) (ci := 5) (C := RX5) (T := TX5) (Nf := 5) hx hb w hts hin_X5_append_5 tyX5 tyX5_ok nmX5 hown (by omega) ((fr6 T (by omega)).trans ((fr5 T (by omega)).trans ((fr4 T (by omega)).trans t1))) rfl 4 (by decide) (hts _ fl_X5_append_27) (fun _ h9 => h9) rfl (ty := .int) (by decide +kernel) rfl rfl (Nat.le_of_ble_eq_true rfl) dX5_append_46 (fun H locs c7 hc7 fr7 w => ?_)
    refine lv_aload_n hx hb dX5_append_49 rfl (lv_at hl 0 rfl) ?_
    refine pw_get (r := T) (ci := 5) (C := RX5) (T := TX5) (Nf := 5) hx hb w hts hin_X5_append_5 hown (by omega) hc7 rfl 4 (by decide) (hts _ fl_X5_append_27) (fun _ h9 => h9) rfl dX5_append_50 ?_
    refine fin (ad, N, c7) c7 _ _ _ _ _ _ _ rfl ⟨by rw [show ((n + 1 : Nat) : Int) = (n : Int) + 1 from by omega], ⟨by rw [show ((n + 1 : Nat) : Int) = (n : Int) + 1 from by omega]; exact hc7, ⟨_, (isA.fr (fr7 (T + 1) (by omega)) (isA.fr (fr6 (T + 1) (by omega)) hc5)), fun i hi => ?_⟩, ⟨_, (isA.fr (fr7 (T + 2) (by omega)) hc6), fun i hi => ?_⟩, ⟨_, (isA.fr (fr7 (T + 3) (by omega)) (isA.fr (fr6 (T + 3) (by omega)) (isA.fr (fr5 (T + 3) (by omega)) hc4))), fun i hi => ?_⟩, ft, ((fr7 (T + 4) (by omega)).trans ((fr6 (T + 4) (by omega)).trans ((fr5 (T + 4) (by omega)).trans ((fr4 (T + 4) (by omega)).trans t5)))), t6⟩, fun q hq => ((fr7 q (by omega)).trans ((fr6 q (by omega)).trans ((fr5 q (by omega)).trans ((fr4 q (by omega)).trans rfl))))⟩ w dX5_append_53 (Nat.le_refl _) (Nat.le_refl _)
    · unfold upI
      by_cases h : i = n
      · simp [h]
      · simp [h, t2p i (by omega)]
    · unfold upI
      by_cases h : i = n
      · simp [h]
      · simp [h, t3p i (by omega)]
    · dsimp only [upI]
      by_cases h : i = n - 1
      · rw [if_pos h, if_pos (by omega)]
      · rw [if_neg h, if_neg (by omega), t4p i (by omega)]

theorem hin_X5_dropLast_5 : ∀ w ∈ u_ws RX5 TX5 5, w ∈ wsX5_dropLast := by decide +kernel
theorem fl_X5_dropLast_27 : Cond.fieldLink RX5 27 "PipersDesk$Tune" "size" "I" ∈ wsX5_dropLast := by decide +kernel
theorem fl_X5_dropLast_9 : Cond.fieldLink RX5 9 "PipersDesk$Tune" "pitches" "[I" ∈ wsX5_dropLast := by decide +kernel
abbrev rm_X5_dropLast : Room := { frames := 0, cells := 0, slots := 0, locals := 0 }
set_option maxHeartbeats 4000000 in
set_option maxRecDepth 100000 in
/-- Tune.dropLast -/
theorem c_X5_dropLast (l : Launch) (D : va_G) (G : Nat → ClassId) (ad : Nat → Nat) (N : Nat) (c : Nat → va_E) {T n : Nat} {pt ln : Nat → Nat} {wi : Nat → Int} (hT : 16 ≤ T ∧ T + 14 ≤ 72) (hN : 120 ≤ N) (hO : TuneO G ad c T n pt ln wi) (hV : TuneV n pt ln wi) (hn0 : 0 < n) : MC l yX5_dropLast wsX5_dropLast rm_X5_dropLast [.ref (ad T)] D G ad N c (qI D G (fx ad N) (fun v c1 => v = zI (pt (n - 1) : Int) ∧ TuneO G ad c1 T (n - 1) pt ln wi ∧ ∀ q, (q < T ∨ T + 4 ≤ q) → c1 q = c q)) 0 0 := by
  refine MCi.of (cc := cX5_dropLast) (maxL := 1) (by decide) rfl (Nat.le_of_ble_eq_true rfl) ?_
  intro p e s m args below meth kc A Q hx hb hts hown hml fin H locs w ls hl
  have hown : s.vm.findClass RX5 = some m.cls := hown
  have hl : lv_has ls 1 [(0, .ref (ad T))] := hl
  obtain ⟨t1, ⟨gp, t2, t2p⟩, ⟨gl, t3, t3p⟩, ⟨gw, t4, t4p⟩, ft, t5, t6⟩ := id hO
  obtain ⟨v1, v2, v3⟩ := id hV
  refine lv_aload_n hx hb dX5_dropLast_0 rfl (lv_at hl 0 rfl) ?_
  refine lv_dup hx hb dX5_dropLast_1 rfl ?_
  refine pw_get (r := T) (ci := 5) (C := RX5) (T := TX5) (Nf := 5) hx hb w hts hin_X5_dropLast_5 hown (by omega) t1 rfl 4 (by decide) (hts _ fl_X5_dropLast_27) (fun _ h9 => h9) rfl dX5_dropLast_2 ?_
  refine lv_iconst (v := zI (1)) hx hb dX5_dropLast_5 rfl ?_
  refine pz_isub hx hb dX5_dropLast_6 ?_
  refine pw_put' (r := T) (ci := 5) (C := RX5) (T := TX5) (Nf := 5) hx hb w hts hin_X5_dropLast_5 tyX5 tyX5_ok nmX5 hown (by omega) t1 rfl 4 (by decide) (hts _ fl_X5_dropLast_27) (fun _ h9 => h9) rfl (ty := .int) (by decide +kernel) rfl rfl (Nat.le_of_ble_eq_true rfl) dX5_dropLast_7 (fun H locs c1 hc1 fr1 w => ?_)
  refine lv_aload_n hx hb dX5_dropLast_10 rfl (lv_at hl 0 rfl) ?_
  refine pw_get (r := T) (ci := 5) (C := RX5) (T := TX5) (Nf := 5) hx hb w hts hin_X5_dropLast_5 hown (by omega) hc1 rfl 0 (by decide) (hts _ fl_X5_dropLast_9) (fun _ h9 => h9) rfl dX5_dropLast_11 ?_
  refine lv_aload_n hx hb dX5_dropLast_14 rfl (lv_at hl 0 rfl) ?_
  refine pw_get (r := T) (ci := 5) (C := RX5) (T := TX5) (Nf := 5) hx hb w hts hin_X5_dropLast_5 hown (by omega) hc1 rfl 4 (by decide) (hts _ fl_X5_dropLast_27) (fun _ h9 => h9) rfl dX5_dropLast_15 ?_
  refine pw_iald (r := (T + 1)) (j := (n - 1)) hx hb w (by omega) (isA.fr (fr1 (T + 1) (by omega)) t2) (by omega) (by omega) (by decide) dX5_dropLast_18 ?_
  refine pz_top (b := (pt (n - 1) : Int)) (t2p (n - 1) (by omega)) ?_
  exact fin (ad, N, c1) c1 _ _ _ _ _ _ _ rfl ⟨rfl, ⟨by rw [show ((n - 1 : Nat) : Int) = (n : Int) - 1 from by omega]; exact hc1, ⟨_, (isA.fr (fr1 (T + 1) (by omega)) t2), fun i hi => t2p i (by omega)⟩, ⟨_, (isA.fr (fr1 (T + 2) (by omega)) t3), fun i hi => t3p i (by omega)⟩, ⟨_, (isA.fr (fr1 (T + 3) (by omega)) t4), fun i hi => t4p i (by omega)⟩, ft, ((fr1 (T + 4) (by omega)).trans t5), t6⟩, fun q hq => ((fr1 q (by omega)).trans rfl)⟩ w dX5_dropLast_19 (Nat.le_refl _) (Nat.le_refl _)

theorem hin_X5_replaceWish_5 : ∀ w ∈ u_ws RX5 TX5 5, w ∈ wsX5_replaceWish := by decide +kernel
theorem fl_X5_replaceWish_18 : Cond.fieldLink RX5 18 "PipersDesk$Tune" "wishes" "[Z" ∈ wsX5_replaceWish := by decide +kernel
abbrev rm_X5_replaceWish : Room := { frames := 0, cells := 0, slots := 0, locals := 0 }
set_option maxHeartbeats 4000000 in
set_option maxRecDepth 100000 in
/-- Tune.replaceWish -/
theorem c_X5_replaceWish (l : Launch) (D : va_G) (G : Nat → ClassId) (ad : Nat → Nat) (N : Nat) (c : Nat → va_E) {T n : Nat} {pt ln : Nat → Nat} {wi : Nat → Int} (hT : 16 ≤ T ∧ T + 14 ≤ 72) (hN : 120 ≤ N) (hO : TuneO G ad c T n pt ln wi) (hV : TuneV n pt ln wi) {i : Nat} {x : Int} (hi : i + 1 < n) (hx01 : x = 0 ∨ x = 1) : MC l yX5_replaceWish wsX5_replaceWish rm_X5_replaceWish [.ref (ad T), .int (zI (i : Int)), .int (zI x)] D G ad N c (qI D G (fx ad N) (fun v c1 => v = zI (wi i) ∧ TuneO G ad c1 T n pt ln (fun j => if j = i then x else wi j) ∧ ∀ q, (q < T ∨ T + 4 ≤ q) → c1 q = c q)) 0 0 := by
  refine MCz.of (cc := cX5_replaceWish) (maxL := 4) (by decide) rfl (Nat.le_of_ble_eq_true rfl) ?_
  intro p e s m args below meth kc A Q hx hb hts hown hml fin H locs w ls hl
  have hown : s.vm.findClass RX5 = some m.cls := hown
  have hl : lv_has ls 4 [(0, .ref (ad T)), (1, .int (zI (i : Int))), (2, .int (zI x))] := hl
  obtain ⟨t1, ⟨gp, t2, t2p⟩, ⟨gl, t3, t3p⟩, ⟨gw, t4, t4p⟩, ft, t5, t6⟩ := id hO
  obtain ⟨v1, v2, v3⟩ := id hV
  have hw := v3 i hi
  have hgw := t4p i hi
  refine lv_aload_n hx hb dX5_replaceWish_0 rfl (lv_at hl 0 rfl) ?_
  refine pw_get (r := T) (ci := 5) (C := RX5) (T := TX5) (Nf := 5) hx hb w hts hin_X5_replaceWish_5 hown (by omega) t1 rfl 2 (by decide) (hts _ fl_X5_replaceWish_18) (fun _ h9 => h9) rfl dX5_replaceWish_1 ?_
  refine lv_iload_n hx hb dX5_replaceWish_4 rfl (lv_at hl 1 rfl) ?_
  refine pw_zald (r := (T + 3)) (j := i) hx hb w (by omega) t4 (by omega) (by omega) (by decide) dX5_replaceWish_5 ?_
  refine pz_top (b := (wi i)) (hgw) ?_
  refine lv_istore_n (lv' := [(3, .int (zI (wi i))), (0, .ref (ad T)), (1, .int (zI (i : Int))), (2, .int (zI x))]) hx hb dX5_replaceWish_6 rfl hl (by decide) rfl (fun ls hl => ?_)
  refine lv_aload_n hx hb dX5_replaceWish_7 rfl (lv_at hl 1 rfl) ?_
  refine pw_get (r := T) (ci := 5) (C := RX5) (T := TX5) (Nf := 5) hx hb w hts hin_X5_replaceWish_5 hown (by omega) t1 rfl 2 (by decide) (hts _ fl_X5_replaceWish_18) (fun _ h9 => h9) rfl dX5_replaceWish_8 ?_
  refine lv_iload_n hx hb dX5_replaceWish_11 rfl (lv_at hl 2 rfl) ?_
  refine lv_iload_n hx hb dX5_replaceWish_12 rfl (lv_at hl 3 rfl) ?_
  refine pw_zast' (r := (T + 3)) (j := i) hx hb w (by omega) t4 (by omega) (by omega) (by omega) (by decide) dX5_replaceWish_13 (fun H locs c1 hc1 fr1 w => ?_)
  refine lv_iload_n hx hb dX5_replaceWish_14 rfl (lv_at hl 0 rfl) ?_
  exact fin (ad, N, c1) c1 _ _ _ _ _ _ _ rfl (hw.elim (fun h => Or.inl (by rw [h])) (fun h => Or.inr (by rw [h]))) ⟨rfl, ⟨((fr1 T (by omega)).trans t1), ⟨_, (isA.fr (fr1 (T + 1) (by omega)) t2), t2p⟩, ⟨_, (isA.fr (fr1 (T + 2) (by omega)) t3), t3p⟩, ⟨_, hc1, fun j hj => by
      dsimp only [upI]
      by_cases h : j = i
      · rw [if_pos h, if_pos h]
      · rw [if_neg h, if_neg h]; exact t4p j (by omega)⟩, ft, ((fr1 (T + 4) (by omega)).trans t5), t6⟩, fun q hq => ((fr1 q (by omega)).trans rfl)⟩ w dX5_replaceWish_15 (Nat.le_refl _) (Nat.le_refl _)

theorem hin_X5_weighGaps_5 : ∀ w ∈ u_ws RX5 TX5 5, w ∈ wsX5_weighGaps := by decide +kernel
theorem fl_X5_weighGaps_27 : Cond.fieldLink RX5 27 "PipersDesk$Tune" "size" "I" ∈ wsX5_weighGaps := by decide +kernel
theorem fl_X5_weighGaps_9 : Cond.fieldLink RX5 9 "PipersDesk$Tune" "pitches" "[I" ∈ wsX5_weighGaps := by decide +kernel
theorem fl_X5_weighGaps_15 : Cond.fieldLink RX5 15 "PipersDesk$Tune" "lengths" "[I" ∈ wsX5_weighGaps := by decide +kernel
theorem fl_X5_weighGaps_18 : Cond.fieldLink RX5 18 "PipersDesk$Tune" "wishes" "[Z" ∈ wsX5_weighGaps := by decide +kernel
theorem fl_X5_weighGaps_24 : Cond.fieldLink RX5 24 "PipersDesk$Tune" "gapCosts" "[[I" ∈ wsX5_weighGaps := by decide +kernel
abbrev rm_X5_weighGaps : Room := { frames := 4, cells := 0, slots := 0, locals := 120 }
set_option maxHeartbeats 4000000 in
set_option maxRecDepth 100000 in
/-- Tune.weighGaps -/
theorem c_X5_weighGaps (l : Launch) (D : va_G) (G : Nat → ClassId) (ad : Nat → Nat) (N : Nat) (c : Nat → va_E) {T n : Nat} {pt ln : Nat → Nat} {wi : Nat → Int} (hT : 16 ≤ T ∧ T + 14 ≤ 72) (hN : 120 ≤ N) (hO : TuneO G ad c T n pt ln wi) (hV : TuneV n pt ln wi) {lim : Int} {no dn : Nat} {gn : Nat → Nat} {gg : Nat → Nat → Nat} {dg : Nat → Nat} (hNb : 120 + 2 * no ≤ N) (hB : Book G ad c no dn gn gg dg) (hBV : BookV no dn gn gg dg) (hF : Fing G ad c lim) (hR0 : TuneR G c T) : MC l yX5_weighGaps wsX5_weighGaps rm_X5_weighGaps [.ref (ad T), .ref (ad 1), .ref (ad 12)] D G ad N c (qV D G (fx ad N) (fun c1 => (∀ j, j + 1 < n → isA 0 G (c1 (T + 5 + j)) 9 (gapC lim no gn gg (pt j) (ln j) (pt (j + 1)) (wi j))) ∧ TuneR G c1 T ∧ ∀ q, (q < T + 5 ∨ T + 14 ≤ q) → c1 q = c q)) 0 0 := by
  refine MCv.of (cc := cX5_weighGaps) (maxL := 5) (by decide) rfl (Nat.le_of_ble_eq_true rfl) ?_
  intro p e s m args below meth kc A Q hx hb hts hown hml hin2 fin H locs w ls hl
  have hown : s.vm.findClass RX5 = some m.cls := hown
  have hl : lv_has ls 5 [(0, .ref (ad T)), (1, .ref (ad 1)), (2, .ref (ad 12))] := hl
  obtain ⟨t1, ⟨gp, t2, t2p⟩, ⟨gl, t3, t3p⟩, ⟨gw, t4, t4p⟩, ft, t5, t6⟩ := id hO
  obtain ⟨v1, v2, v3⟩ := id hV
  refine lv_iconst (v := zI (0)) hx hb dX5_weighGaps_0 rfl ?_
  refine lv_istore_n (lv' := [(3, .int (zI 0)), (0, .ref (ad T)), (1, .ref (ad 1)), (2, .ref (ad 12))]) hx hb dX5_weighGaps_1 rfl hl (by decide) rfl (fun ls hl => ?_)
  have lp : ∀ (f : Nat) (i : Nat) (c1 : Nat → va_E) (H : Heap) (locs : List Loc) (ls : Array Slot), i ≤ n → (∀ j, j < i → isA 0 G (c1 (T + 5 + j)) 9 (gapC lim no gn gg (pt j) (ln j) (pt (j + 1)) (wi j))) → TuneR G c1 T → (∀ q, (q < T + 5 ∨ T + 14 ≤ q) → c1 q = c q) → n < i + f → PW D G A s ad N c1 H locs → lv_has ls 5 [(0, .ref (ad T)), (1, .ref (ad 1)), (2, .ref (ad 12)), (3, .int (zI (i : Int)))] → W p l e rm_X5_weighGaps s m args below meth kc H locs 0 0 Q (F0 m 2 ls []) := by
    intro f
    induction f with
    | zero => intro i c1 H locs ls h9 hG hR hf hfu w hl; omega
    | succ f ih =>
      intro i c1 H locs ls h9 hG hR hf hfu w hl
      have hF1 := hF.fr (c1 := c1) (fun q h1 h2 => hf q (by omega))
      have hB1 := hB.fr (c1 := c1) (fun q h => hf q (by omega))
      refine lv_iload_n hx hb dX5_weighGaps_2 rfl (lv_at hl 3 rfl) ?_
      refine lv_iconst (v := zI (1)) hx hb dX5_weighGaps_3 rfl ?_
      refine pz_iadd hx hb dX5_weighGaps_4 ?_
      refine lv_aload_n hx hb dX5_weighGaps_5 rfl (lv_at hl 0 rfl) ?_
      refine pw_get (r := T) (ci := 5) (C := RX5) (T := TX5) (Nf := 5) hx hb w hts hin_X5_weighGaps_5 hown (by omega) ((hf T (by omega)).trans t1) rfl 4 (by decide) (hts _ fl_X5_weighGaps_27) (fun _ h9 => h9) rfl dX5_weighGaps_6 ?_
      refine pz_icmpge (tgt := 59) hx hb dX5_weighGaps_9 (by decide) (⟨by omega, by omega⟩) (⟨by omega, by omega⟩) (fun hi => ?_) (fun hi => ?_)
      · exact fin (ad, N, c1) c1 _ _ _ _ _ _ rfl ⟨fun j hj => hG j (by omega), hR, hf⟩ w dX5_weighGaps_59 (Nat.le_refl _) (Nat.le_refl _)
      · have hv := v2 i (by omega)
        have hv1 := v2 (i + 1) (by omega)
        have hw := v3 i (by omega)
        obtain ⟨g0, hg0⟩ := hR i (by omega)
        refine lv_aload_n hx hb dX5_weighGaps_12 rfl (lv_at hl 0 rfl) ?_
        refine pw_get (r := T) (ci := 5) (C := RX5) (T := TX5) (Nf := 5) hx hb w hts hin_X5_weighGaps_5 hown (by omega) ((hf T (by omega)).trans t1) rfl 0 (by decide) (hts _ fl_X5_weighGaps_9) (fun _ h9 => h9) rfl dX5_weighGaps_13 ?_
        refine lv_iload_n hx hb dX5_weighGaps_16 rfl (lv_at hl 3 rfl) ?_
        refine lv_iconst (v := zI (1)) hx hb dX5_weighGaps_17 rfl ?_
        refine pz_iadd hx hb dX5_weighGaps_18 ?_
        refine pw_iald (r := (T + 1)) (j := (i + 1)) hx hb w (by omega) (isA.fr (hf (T + 1) (by omega)) t2) (by omega) (by omega) (by decide) dX5_weighGaps_19 ?_
        refine pz_top (b := (pt (i + 1) : Int)) (t2p (i + 1) (by omega)) ?_
        refine lv_istore (lv' := [(4, .int (zI (pt (i + 1) : Int))), (0, .ref (ad T)), (1, .ref (ad 1)), (2, .ref (ad 12)), (3, .int (zI (i : Int)))]) hx hb dX5_weighGaps_20 hl (by decide) rfl (fun ls hl => ?_)
        refine lv_aload_n hx hb dX5_weighGaps_22 rfl (lv_at hl 3 rfl) ?_
        refine lv_aload_n hx hb dX5_weighGaps_23 rfl (lv_at hl 2 rfl) ?_
        refine lv_aload_n hx hb dX5_weighGaps_24 rfl (lv_at hl 1 rfl) ?_
        refine pw_get (r := T) (ci := 5) (C := RX5) (T := TX5) (Nf := 5) hx hb w hts hin_X5_weighGaps_5 hown (by omega) ((hf T (by omega)).trans t1) rfl 0 (by decide) (hts _ fl_X5_weighGaps_9) (fun _ h9 => h9) rfl dX5_weighGaps_25 ?_
        refine lv_iload_n hx hb dX5_weighGaps_28 rfl (lv_at hl 4 rfl) ?_
        refine pw_iald (r := (T + 1)) (j := i) hx hb w (by omega) (isA.fr (hf (T + 1) (by omega)) t2) (by omega) (by omega) (by decide) dX5_weighGaps_29 ?_
        refine pz_top (b := (pt i : Int)) (t2p i (by omega)) ?_
        refine lv_aload_n hx hb dX5_weighGaps_30 rfl (lv_at hl 1 rfl) ?_
        refine pw_get (r := T) (ci := 5) (C := RX5) (T := TX5) (Nf := 5) hx hb w hts hin_X5_weighGaps_5 hown (by omega) ((hf T (by omega)).trans t1) rfl 1 (by decide) (hts _ fl_X5_weighGaps_15) (fun _ h9 => h9) rfl dX5_weighGaps_31 ?_
        refine lv_iload_n hx hb dX5_weighGaps_34 rfl (lv_at hl 4 rfl) ?_
        refine pw_iald (r := (T + 2)) (j := i) hx hb w (by omega) (isA.fr (hf (T + 2) (by omega)) t3) (by omega) (by omega) (by decide) dX5_weighGaps_35 ?_
        refine pz_top (b := (ln i : Int)) (t3p i (by omega)) ?_
        refine lv_iload hx hb dX5_weighGaps_36 (lv_at hl 0 rfl) ?_
        refine lv_aload_n hx hb dX5_weighGaps_38 rfl (lv_at hl 1 rfl) ?_
        refine pw_get (r := T) (ci := 5) (C := RX5) (T := TX5) (Nf := 5) hx hb w hts hin_X5_weighGaps_5 hown (by omega) ((hf T (by omega)).trans t1) rfl 2 (by decide) (hts _ fl_X5_weighGaps_18) (fun _ h9 => h9) rfl dX5_weighGaps_39 ?_
        refine lv_iload_n hx hb dX5_weighGaps_42 rfl (lv_at hl 4 rfl) ?_
        refine pw_zald (r := (T + 3)) (j := i) hx hb w (by omega) (isA.fr (hf (T + 3) (by omega)) t4) (by omega) (by omega) (by decide) dX5_weighGaps_43 ?_
        refine pz_top (b := (wi i)) (t4p i (by omega)) ?_
        refine lv_aload_n hx hb dX5_weighGaps_44 rfl (lv_at hl 1 rfl) ?_
        refine pw_get (r := T) (ci := 5) (C := RX5) (T := TX5) (Nf := 5) hx hb w hts hin_X5_weighGaps_5 hown (by omega) ((hf T (by omega)).trans t1) rfl 3 (by decide) (hts _ fl_X5_weighGaps_24) (fun _ h9 => h9) rfl dX5_weighGaps_45 ?_
        refine lv_iload_n hx hb dX5_weighGaps_48 rfl (lv_at hl 4 rfl) ?_
        refine pw_aaldR (r := (T + 4)) (j := i) hx hb w (by omega) ((hf (T + 4) (by omega)).trans t5) rfl rfl (by omega) (by omega) (by decide) (T + 5 + i) (t6 i (by omega)) dX5_weighGaps_49 ?_
        refine pw_cv w (pw_runV (r := 12) (ci := 3) (As := [.ref (ad 1), .int (zI (pt i : Int)), .int (zI (ln i : Int)), .int (zI (pt (i + 1) : Int)), .int (zI (wi i)), .ref (ad (T + 5 + i))]) (rest := []) w ⟨hx, hb, hml, hown, hts⟩ (c_X3_weigh l D G ad N c1 (no := no) (dn := dn) (gn := gn) (gg := gg) (dg := dg) (lim := lim) (wish := wi i) (x := pt i) (y := pt (i + 1)) (mm := ln i) (t := T + 5 + i) (g0 := g0) hNb hB1 hBV hF1 hv.1 hv1.1 hv.2.2 hw (by omega) (by omega) hg0) (cwV 6 hts gX5_weighGaps_X3_weigh rfl rfl rfl (by decide +kernel) ⟨Nat.le_of_ble_eq_true rfl, Nat.le_of_ble_eq_true rfl⟩) (by omega) ((hf 12 (by omega)).trans hB.1) rfl rfl hl.1 rfl (lv_room (Nat.le_of_ble_eq_true rfl)) dX5_weighGaps_50 ⟨Nat.le_of_ble_eq_true rfl, Nat.le_of_ble_eq_true rfl⟩) (fun c1 H locs hp w => ?_)
        have w : PW D G A s ad N c1 H locs := w
        obtain ⟨hA1, fr1⟩ := hp
        refine pz_iinc (lv' := [(3, .int (zI ((i + 1 : Nat) : Int))), (4, .int (zI (pt (i + 1) : Int))), (0, .ref (ad T)), (1, .ref (ad 1)), (2, .ref (ad 12))]) hx hb dX5_weighGaps_53 hl (j := 4) rfl ((i + 1 : Nat) : Int) (by omega) (by decide) rfl (fun ls hl => ?_)
        refine lv_goto (tgt := 2) hx hb dX5_weighGaps_56 (by decide) ?_
        exact ih (i + 1) c1 H locs ls (by omega) (fun j hj => by
          by_cases h : j = i
          · subst h
            exact hA1
          · exact isA.fr (fr1 _ (by omega)) (hG j (by omega))) (fun j hj => by
          by_cases h : j = i
          · subst h
            exact ⟨_, hA1⟩
          · obtain ⟨g, hg⟩ := hR j hj
            exact ⟨g, isA.fr (fr1 _ (by omega)) hg⟩) (fun q hq => (fr1 q (by omega)).trans (hf q hq)) (by omega) w (lv_sub hl [2, 3, 4, 0] rfl)
  exact lp (n + 1) 0 c H locs ls (by omega) (fun j hj => by omega) hR0 (fun _ _ => rfl) (by omega) w (lv_sub hl [1, 2, 3, 0] rfl)
