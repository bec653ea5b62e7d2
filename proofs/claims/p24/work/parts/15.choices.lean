/-- TuneChoices at the role 72, with its rows at 74, 76 .. -/
def TC (G : Nat → ClassId) (ad : Nat → Nat) (c : Nat → va_E) : Prop :=
  c 72 = .inr (6, [.ref (ad 73), .ref (ad 94), .ref (ad 96), .ref (ad 97)]) ∧ (∃ f : Nat → Option Nat, c 73 = rfs 3 G 10 f ∧ ∀ i, i < 10 → f i = some (ad (74 + 2 * i))) ∧ (∀ i, i < 10 → c (74 + 2 * i) = .inr (1, [.ref (ad (74 + 2 * i + 1))]) ∧ ∃ g, isA 0 G (c (74 + 2 * i + 1)) 9 g) ∧
  c 94 = .inr (1, [.ref (ad 95)]) ∧ (∃ g, isA 0 G (c 95) 9 g) ∧ (∃ g, isA 0 G (c 96) 9 g) ∧ ∃ g, isA 0 G (c 97) 9 g
theorem TC.fr {G : Nat → ClassId} {ad : Nat → Nat} {c c1 : Nat → va_E} (h : TC G ad c) (hf : ∀ q, 72 ≤ q → q < 98 → c1 q = c q) : TC G ad c1 := by
  obtain ⟨h1, ⟨f, h2, h3⟩, h4, h5, ⟨g6, h6⟩, ⟨g7, h7⟩, g8, h8⟩ := h
  refine ⟨(hf _ (by omega) (by omega)).trans h1, ⟨f, (hf _ (by omega) (by omega)).trans h2, h3⟩, fun i hi => ⟨(hf _ (by omega) (by omega)).trans (h4 i hi).1, ?_⟩, (hf _ (by omega) (by omega)).trans h5, ⟨g6, isA.fr (hf _ (by omega) (by omega)) h6⟩, ⟨g7, isA.fr (hf _ (by omega) (by omega)) h7⟩, g8, isA.fr (hf _ (by omega) (by omega)) h8⟩
  obtain ⟨g, hg⟩ := (h4 i hi).2
  exact ⟨g, isA.fr (hf _ (by omega) (by omega)) hg⟩
/-- what a gap's row of costs is -/
def GW (G : Nat → ClassId) (c : Nat → va_E) (T n : Nat) (cw : Nat → Nat → Int) : Prop := ∀ i, i + 1 < n → isA 0 G (c (T + 5 + i)) 9 (cw i)
theorem GW.fr {G : Nat → ClassId} {c c1 : Nat → va_E} {T n : Nat} {cw : Nat → Nat → Int} (h : GW G c T n cw) (hn : n ≤ 10) (hf : ∀ q, T + 5 ≤ q → q < T + 14 → c1 q = c q) : GW G c1 T n cw := fun i hi => isA.fr (hf _ (by omega) (by omega)) (h i hi)

theorem hin_X6_solveFor_6 : ∀ w ∈ u_ws RX6 TX6 4, w ∈ wsX6_solveFor := by decide +kernel
theorem fl_X6_solveFor_11 : Cond.fieldLink RX6 11 "PipersDesk$TuneChoices" "rows" "[LPipersDesk$Leasts;" ∈ wsX6_solveFor := by decide +kernel
abbrev rm_X6_solveFor : Room := { frames := 2, cells := 0, slots := 0, locals := 60 }
set_option maxHeartbeats 4000000 in
set_option maxRecDepth 100000 in
/-- TuneChoices.solveFor -/
theorem c_X6_solveFor (l : Launch) (D : va_G) (G : Nat → ClassId) (ad : Nat → Nat) (N : Nat) (c : Nat → va_E) {T n : Nat} {pt ln : Nat → Nat} {wi : Nat → Int} {cw : Nat → Nat → Int} (hT : 16 ≤ T ∧ T + 14 ≤ 72) (hN : 120 ≤ N) (hO : TuneO G ad c T n pt ln wi) (hV : TuneV n pt ln wi) (hC : TC G ad c) (hW : GW G c T n cw) (hcw : ∀ i j, j < 9 → 0 ≤ cw i j ∧ cw i j ≤ 1000000) : MC l yX6_solveFor wsX6_solveFor rm_X6_solveFor [.ref (ad 72), .ref (ad T)] D G ad N c (qI D G (fx ad N) (fun v c1 => v = zI (lessOf (Rr cw (n - 1) 0)) ∧ (∀ j, j ≤ n - 1 → isA 0 G (c1 (74 + 2 * j + 1)) 9 (Rr cw (n - 1 - j) j)) ∧ TC G ad c1 ∧ ∀ q, (q < 74 ∨ 94 ≤ q ∨ q % 2 = 0) → c1 q = c q)) 0 0 := by
  refine MCi.of (cc := cX6_solveFor) (maxL := 3) (by decide) rfl (Nat.le_of_ble_eq_true rfl) ?_
  intro p e s m args below meth kc A Q hx hb hts hown hml fin H locs w ls hl
  have hown : s.vm.findClass RX6 = some m.cls := hown
  have hl : lv_has ls 3 [(0, .ref (ad 72)), (1, .ref (ad T))] := hl
  obtain ⟨k1, ⟨fk, k2, k3⟩, k4, k5, ⟨g95, k6⟩, ⟨g96, k7⟩, g97, k8⟩ := id hC
  have t1 := hO.1
  have v1 := hV.1
  refine lv_aload_n hx hb dX6_solveFor_0 rfl (lv_at hl 0 rfl) ?_
  refine pw_get (r := 72) (ci := 6) (C := RX6) (T := TX6) (Nf := 4) hx hb w hts hin_X6_solveFor_6 hown (by omega) k1 rfl 0 (by decide) (hts _ fl_X6_solveFor_11) (fun _ h9 => h9) rfl dX6_solveFor_1 ?_
  refine lv_aload_n hx hb dX6_solveFor_4 rfl (lv_at hl 1 rfl) ?_
  refine pw_ci w (pw_runV (r := T) (ci := 5) (As := []) (rest := [.ref (ad 73)]) w ⟨hx, hb, hml, hown, hts⟩ (c_X5_gaps l D G ad N c hT hN hO hV) (cwV 0 hts gX6_solveFor_X5_gaps rfl rfl rfl (by decide +kernel) ⟨Nat.le_of_ble_eq_true rfl, Nat.le_of_ble_eq_true rfl⟩) (by omega) t1 rfl rfl hl.1 rfl (lv_room (Nat.le_of_ble_eq_true rfl)) dX6_solveFor_5 ⟨Nat.le_of_ble_eq_true rfl, Nat.le_of_ble_eq_true rfl⟩) (fun r_ u H locs hp w => ?_)
  obtain ⟨hv, hu⟩ := hp
  subst hv
  have w : PW D G A s ad N c H locs := by rw [hu] at w; exact w
  clear hu
  refine pw_aaldR (r := 73) (j := (n - 1)) hx hb w (by omega) k2 rfl rfl (by omega) (by omega) (by decide) (74 + 2 * (n - 1)) (k3 (n - 1) (by omega)) dX6_solveFor_8 ?_
  obtain ⟨gr0, hgr0⟩ := (k4 (n - 1) (by omega)).2
  refine pw_cv w (pw_runV (r := (74 + 2 * (n - 1))) (ci := 1) (As := []) (rest := []) w ⟨hx, hb, hml, hown, hts⟩ (c_X1_startRow l D G ad N c (r := 74 + 2 * (n - 1)) (by omega) (by omega) (k4 (n - 1) (by omega)).1 hgr0) (cwV 0 hts gX6_solveFor_X1_startRow rfl rfl rfl (by decide +kernel) ⟨Nat.le_of_ble_eq_true rfl, Nat.le_of_ble_eq_true rfl⟩) (by omega) (k4 (n - 1) (by omega)).1 rfl rfl hl.1 rfl (lv_room (Nat.le_of_ble_eq_true rfl)) dX6_solveFor_9 ⟨Nat.le_of_ble_eq_true rfl, Nat.le_of_ble_eq_true rfl⟩) (fun c1 H locs hp w => ?_)
  have w : PW D G A s ad N c1 H locs := w
  obtain ⟨hA1, fr1⟩ := hp
  have hO1 := hO.fr (c1 := c1) (fun q h1 h2 => fr1 q (by omega))
  refine lv_aload_n hx hb dX6_solveFor_12 rfl (lv_at hl 1 rfl) ?_
  refine pw_ci w (pw_runV (r := T) (ci := 5) (As := []) (rest := []) w ⟨hx, hb, hml, hown, hts⟩ (c_X5_gaps l D G ad N c1 hT hN hO1 hV) (cwV 0 hts gX6_solveFor_X5_gaps rfl rfl rfl (by decide +kernel) ⟨Nat.le_of_ble_eq_true rfl, Nat.le_of_ble_eq_true rfl⟩) (by omega) ((fr1 T (by omega)).trans t1) rfl rfl hl.1 rfl (lv_room (Nat.le_of_ble_eq_true rfl)) dX6_solveFor_13 ⟨Nat.le_of_ble_eq_true rfl, Nat.le_of_ble_eq_true rfl⟩) (fun r_ u H locs hp w => ?_)
  obtain ⟨hv, hu⟩ := hp
  subst hv
  have w : PW D G A s ad N c1 H locs := by rw [hu] at w; exact w
  clear hu
  refine lv_iconst (v := zI (1)) hx hb dX6_solveFor_16 rfl ?_
  refine pz_isub hx hb dX6_solveFor_17 ?_
  refine lv_istore_n (lv' := [(2, .int (zI (((n - 1 : Nat) : Int) - 1))), (0, .ref (ad 72)), (1, .ref (ad T))]) hx hb dX6_solveFor_18 rfl hl (by decide) rfl (fun ls hl => ?_)
  have lp : ∀ (f : Nat) (i : Nat) (c1 : Nat → va_E) (H : Heap) (locs : List Loc) (ls : Array Slot), i ≤ n - 1 → (∀ j, i ≤ j → j ≤ n - 1 → isA 0 G (c1 (74 + 2 * j + 1)) 9 (Rr cw (n - 1 - j) j)) → (∀ j, (j < i ∨ n - 1 < j) → c1 (74 + 2 * j + 1) = c (74 + 2 * j + 1)) → (∀ q, (q < 74 ∨ 94 ≤ q ∨ q % 2 = 0) → c1 q = c q) → i < f → PW D G A s ad N c1 H locs → lv_has ls 3 [(0, .ref (ad 72)), (1, .ref (ad T)), (2, .int (zI ((i : Int) - 1)))] → W p l e rm_X6_solveFor s m args below meth kc H locs 0 0 Q (F0 m 19 ls []) := by
    intro f
    induction f with
    | zero => intro i c1 H locs ls h9 hR hq1 hf hfu w hl; omega
    | succ f ih =>
      intro i c1 H locs ls h9 hR hq1 hf hfu w hl
      have hO1 := hO.fr (c1 := c1) (fun q h1 h2 => hf q (by omega))
      have hW1 := hW.fr (c1 := c1) hV.1 (fun q h1 h2 => hf q (by omega))
      refine lv_iload_n hx hb dX6_solveFor_19 rfl (lv_at hl 2 rfl) ?_
      refine pz_iflt (tgt := 51) hx hb dX6_solveFor_20 (by decide) (⟨by omega, by omega⟩) (fun hi => ?_) (fun hi => ?_)
      · have i0 : i = 0 := by omega
        subst i0
        refine lv_aload_n hx hb dX6_solveFor_51 rfl (lv_at hl 0 rfl) ?_
        refine pw_get (r := 72) (ci := 6) (C := RX6) (T := TX6) (Nf := 4) hx hb w hts hin_X6_solveFor_6 hown (by omega) ((hf 72 (by omega)).trans k1) rfl 0 (by decide) (hts _ fl_X6_solveFor_11) (fun _ h9 => h9) rfl dX6_solveFor_52 ?_
        refine lv_iconst (v := zI (0)) hx hb dX6_solveFor_55 rfl ?_
        refine pw_aaldR (r := 73) (j := 0) hx hb w (by omega) ((hf 73 (by omega)).trans k2) rfl rfl (by omega) (by omega) (by decide) (74 + 2 * 0) (k3 0 (by omega)) dX6_solveFor_56 ?_
        have hb0 := Rr_bd hcw (n - 1) 0
        refine pw_ci w (pw_runV (r := (74 + 2 * 0)) (ci := 1) (As := []) (rest := []) w ⟨hx, hb, hml, hown, hts⟩ (c_X1_leastOfAll l D G ad N c1 (r := 74 + 2 * 0) (g := Rr cw (n - 1) 0) (by omega) (by omega) ((hf (74 + 2 * 0) (by omega)).trans (k4 0 (by omega)).1) (hR 0 (by omega) (by omega)) hb0) (cwV 0 hts gX6_solveFor_X1_leastOfAll rfl rfl rfl (by decide +kernel) ⟨Nat.le_of_ble_eq_true rfl, Nat.le_of_ble_eq_true rfl⟩) (by omega) ((hf (74 + 2 * 0) (by omega)).trans (k4 0 (by omega)).1) rfl rfl hl.1 rfl (lv_room (Nat.le_of_ble_eq_true rfl)) dX6_solveFor_57 ⟨Nat.le_of_ble_eq_true rfl, Nat.le_of_ble_eq_true rfl⟩) (fun r_ u H locs hp w => ?_)
        obtain ⟨hv, hu⟩ := hp
        subst hv
        have w : PW D G A s ad N c1 H locs := by rw [hu] at w; exact w
        clear hu
        have hC1 : TC G ad c1 := ⟨(hf 72 (by omega)).trans k1, ⟨fk, (hf 73 (by omega)).trans k2, k3⟩, fun j hj => ⟨(hf _ (by omega)).trans (k4 j hj).1, by
          by_cases h : j ≤ n - 1
          · exact ⟨_, hR j (by omega) h⟩
          · obtain ⟨g, hg⟩ := (k4 j hj).2
            exact ⟨g, isA.fr (hq1 j (by omega)) hg⟩⟩, (hf 94 (by omega)).trans k5, ⟨g95, isA.fr (hf 95 (by omega)) k6⟩, ⟨g96, isA.fr (hf 96 (by omega)) k7⟩, g97, isA.fr (hf 97 (by omega)) k8⟩
        exact fin (ad, N, c1) c1 _ _ _ _ _ _ _ rfl ⟨rfl, fun j hj => hR j (by omega) (by omega), hC1, hf⟩ w dX6_solveFor_60 (Nat.le_refl _) (Nat.le_refl _)
      · have hi0 : 0 < i := by omega
        refine lv_aload_n hx hb dX6_solveFor_23 rfl (lv_at hl 0 rfl) ?_
        refine pw_get (r := 72) (ci := 6) (C := RX6) (T := TX6) (Nf := 4) hx hb w hts hin_X6_solveFor_6 hown (by omega) ((hf 72 (by omega)).trans k1) rfl 0 (by decide) (hts _ fl_X6_solveFor_11) (fun _ h9 => h9) rfl dX6_solveFor_24 ?_
        refine lv_iload_n hx hb dX6_solveFor_27 rfl (lv_at hl 2 rfl) ?_
        refine pw_aaldR (r := 73) (j := (i - 1)) hx hb w (by omega) ((hf 73 (by omega)).trans k2) rfl rfl (by omega) (by omega) (by decide) (74 + 2 * (i - 1)) (k3 (i - 1) (by omega)) dX6_solveFor_28 ?_
        refine lv_aload_n hx hb dX6_solveFor_29 rfl (lv_at hl 0 rfl) ?_
        refine pw_get (r := 72) (ci := 6) (C := RX6) (T := TX6) (Nf := 4) hx hb w hts hin_X6_solveFor_6 hown (by omega) ((hf 72 (by omega)).trans k1) rfl 0 (by decide) (hts _ fl_X6_solveFor_11) (fun _ h9 => h9) rfl dX6_solveFor_30 ?_
        refine lv_iload_n hx hb dX6_solveFor_33 rfl (lv_at hl 2 rfl) ?_
        refine lv_iconst (v := zI (1)) hx hb dX6_solveFor_34 rfl ?_
        refine pz_iadd hx hb dX6_solveFor_35 ?_
        refine pw_aaldR (r := 73) (j := i) hx hb w (by omega) ((hf 73 (by omega)).trans k2) rfl rfl (by omega) (by omega) (by decide) (74 + 2 * i) (k3 i (by omega)) dX6_solveFor_36 ?_
        refine lv_aload_n hx hb dX6_solveFor_37 rfl (lv_at hl 1 rfl) ?_
        refine lv_iload_n hx hb dX6_solveFor_38 rfl (lv_at hl 2 rfl) ?_
        have e9 : ((i : Int) - 1) = ((i - 1 : Nat) : Int) := by omega
        rw [e9]
        refine pw_cr w (pw_runV (r := T) (ci := 5) (As := [.int (zI ((i - 1 : Nat) : Int))]) (rest := [.ref (ad (74 + 2 * i)), .ref (ad (74 + 2 * (i - 1)))]) w ⟨hx, hb, hml, hown, hts⟩ (c_X5_costsAt l D G ad N c1 hT hN hO1 hV (i := i - 1) (by omega)) (cwV 1 hts gX6_solveFor_X5_costsAt rfl rfl rfl (by decide +kernel) ⟨Nat.le_of_ble_eq_true rfl, Nat.le_of_ble_eq_true rfl⟩) (by omega) ((hf T (by omega)).trans t1) rfl rfl hl.1 rfl (lv_room (Nat.le_of_ble_eq_true rfl)) dX6_solveFor_39 ⟨Nat.le_of_ble_eq_true rfl, Nat.le_of_ble_eq_true rfl⟩) (fun r_ u H locs hp w => ?_)
        obtain ⟨hv, hu⟩ := hp
        subst hv
        have w : PW D G A s ad N c1 H locs := by rw [hu] at w; exact w
        clear hu
        obtain ⟨gr1, hgr1⟩ := (k4 (i - 1) (by omega)).2
        have hb1 := Rr_bd hcw (n - 1 - i) i
        refine pw_cv w (pw_runV (r := (74 + 2 * (i - 1))) (ci := 1) (As := [.ref (ad (74 + 2 * i)), .ref (ad (T + 5 + (i - 1)))]) (rest := []) w ⟨hx, hb, hml, hown, hts⟩ (c_X1_growFrom l D G ad N c1 (r := 74 + 2 * (i - 1)) (q := 74 + 2 * i) (t := T + 5 + (i - 1)) (g0 := gr1) (g := Rr cw (n - 1 - i) i) (v := cw (i - 1)) (by omega) (by omega) (by omega) (by omega) (by omega) ((hf (74 + 2 * (i - 1)) (by omega)).trans (k4 (i - 1) (by omega)).1) (isA.fr (hq1 (i - 1) (by omega)) hgr1) ((hf (74 + 2 * i) (by omega)).trans (k4 i (by omega)).1) (hR i (by omega) (by omega)) (hW1 (i - 1) (by omega)) (by omega) hb1 (hcw (i - 1))) (cwV 2 hts gX6_solveFor_X1_growFrom rfl rfl rfl (by decide +kernel) ⟨Nat.le_of_ble_eq_true rfl, Nat.le_of_ble_eq_true rfl⟩) (by omega) ((hf (74 + 2 * (i - 1)) (by omega)).trans (k4 (i - 1) (by omega)).1) rfl rfl hl.1 rfl (lv_room (Nat.le_of_ble_eq_true rfl)) dX6_solveFor_42 ⟨Nat.le_of_ble_eq_true rfl, Nat.le_of_ble_eq_true rfl⟩) (fun c2 H locs hp w => ?_)
        have w : PW D G A s ad N c2 H locs := w
        obtain ⟨hA2, fr2⟩ := hp
        refine pz_iinc (lv' := [(2, .int (zI (((i - 1 : Nat) : Int) - 1))), (0, .ref (ad 72)), (1, .ref (ad T))]) hx hb dX6_solveFor_45 hl (j := 2) rfl (((i - 1 : Nat) : Int) - 1) (by omega) (by decide) rfl (fun ls hl => ?_)
        refine lv_goto (tgt := 19) hx hb dX6_solveFor_48 (by decide) ?_
        exact ih (i - 1) c2 H locs ls (by omega) (fun j h1 h2 => by
          by_cases h : j = i - 1
          · subst h
            rw [show n - 1 - (i - 1) = (n - 1 - i) + 1 from by omega]
            have e : Rr cw (n - 1 - i + 1) (i - 1) = growF (Rr cw (n - 1 - i) i) (cw (i - 1)) := by rw [Rr, show i - 1 + 1 = i from by omega]
            rw [e]
            exact hA2
          · exact isA.fr (fr2 _ (by omega)) (hR j (by omega) h2)) (fun j hj => (fr2 _ (by omega)).trans (hq1 j (by omega))) (fun q hq => (fr2 q (by omega)).trans (hf q hq)) (by omega) w (lv_sub hl [1, 2, 0] rfl)
  exact lp (n - 1 + 1) (n - 1) c1 H locs ls (by omega) (fun j h1 h2 => by
    have e : j = n - 1 := by omega
    subst e
    rw [show n - 1 - (n - 1) = 0 from by omega]
    exact hA1) (fun j hj => fr1 _ (by omega)) (fun q hq => fr1 q (by omega)) (by omega) w (lv_sub hl [1, 2, 0] rfl)

theorem hin_X6_firstAt_6 : ∀ w ∈ u_ws RX6 TX6 4, w ∈ wsX6_firstAt := by decide +kernel
theorem fl_X6_firstAt_11 : Cond.fieldLink RX6 11 "PipersDesk$TuneChoices" "rows" "[LPipersDesk$Leasts;" ∈ wsX6_firstAt := by decide +kernel
abbrev rm_X6_firstAt : Room := { frames := 2, cells := 0, slots := 0, locals := 60 }
set_option maxHeartbeats 4000000 in
set_option maxRecDepth 100000 in
/-- TuneChoices.firstAt -/
theorem c_X6_firstAt (l : Launch) (D : va_G) (G : Nat → ClassId) (ad : Nat → Nat) (N : Nat) (c : Nat → va_E) {gap : Nat} {R : Nat → Nat → Int} (hN : 120 ≤ N) (hC : TC G ad c) (hgap : gap ≤ 8) (hR : ∀ i, i ≤ gap → isA 0 G (c (74 + 2 * i + 1)) 9 (R i)) (hb9 : ∀ i, i ≤ gap → ∀ j, j < 9 → 0 ≤ R i j ∧ R i j ≤ 1000000) : MC l yX6_firstAt wsX6_firstAt rm_X6_firstAt [.ref (ad 72), .int (zI (gap : Int))] D G ad N c (qI D G (fx ad N) (fun v c1 => v = zI (optN R (gap + 1) : Int) ∧ c1 = c)) 0 0 := by
  refine MCi.of (cc := cX6_firstAt) (maxL := 4) (by decide) rfl (Nat.le_of_ble_eq_true rfl) ?_
  intro p e s m args below meth kc A Q hx hb hts hown hml fin H locs w ls hl
  have hown : s.vm.findClass RX6 = some m.cls := hown
  have hl : lv_has ls 4 [(0, .ref (ad 72)), (1, .int (zI (gap : Int)))] := hl
  obtain ⟨k1, ⟨fk, k2, k3⟩, k4, k5, ⟨g95, k6⟩, ⟨g96, k7⟩, g97, k8⟩ := id hC
  refine lv_iconst (v := zI (0)) hx hb dX6_firstAt_0 rfl ?_
  refine lv_istore_n (lv' := [(2, .int (zI 0)), (0, .ref (ad 72)), (1, .int (zI (gap : Int)))]) hx hb dX6_firstAt_1 rfl hl (by decide) rfl (fun ls hl => ?_)
  refine lv_iconst (v := zI (0)) hx hb dX6_firstAt_2 rfl ?_
  refine lv_istore_n (lv' := [(3, .int (zI 0)), (2, .int (zI 0)), (0, .ref (ad 72)), (1, .int (zI (gap : Int)))]) hx hb dX6_firstAt_3 rfl hl (by decide) rfl (fun ls hl => ?_)
  have lp : ∀ (n : Nat) (i : Nat) (H : Heap) (locs : List Loc) (ls : Array Slot), i ≤ gap + 1 → gap + 1 < i + n → PW D G A s ad N c H locs → lv_has ls 4 [(0, .ref (ad 72)), (1, .int (zI (gap : Int))), (2, .int (zI (optN R i : Int))), (3, .int (zI (i : Int)))] → W p l e rm_X6_firstAt s m args below meth kc H locs 0 0 Q (F0 m 4 ls []) := by
    intro n
    induction n with
    | zero => intro i H locs ls h9 hfu w hl; omega
    | succ n ih =>
      intro i H locs ls h9 hfu w hl
      refine lv_iload_n hx hb dX6_firstAt_4 rfl (lv_at hl 3 rfl) ?_
      refine lv_iload_n hx hb dX6_firstAt_5 rfl (lv_at hl 1 rfl) ?_
      refine pz_icmpgt (tgt := 26) hx hb dX6_firstAt_6 (by decide) (⟨by omega, by omega⟩) (⟨by omega, by omega⟩) (fun hi => ?_) (fun hi => ?_)
      · have e9 : i = gap + 1 := by omega
        subst e9
        refine lv_iload_n hx hb dX6_firstAt_26 rfl (lv_at hl 2 rfl) ?_
        exact fin (ad, N, c) c _ _ _ _ _ _ _ rfl ⟨rfl, rfl⟩ w dX6_firstAt_27 (Nat.le_refl _) (Nat.le_refl _)
      · refine lv_aload_n hx hb dX6_firstAt_9 rfl (lv_at hl 0 rfl) ?_
        refine pw_get (r := 72) (ci := 6) (C := RX6) (T := TX6) (Nf := 4) hx hb w hts hin_X6_firstAt_6 hown (by omega) k1 rfl 0 (by decide) (hts _ fl_X6_firstAt_11) (fun _ h9 => h9) rfl dX6_firstAt_10 ?_
        refine lv_iload_n hx hb dX6_firstAt_13 rfl (lv_at hl 3 rfl) ?_
        refine pw_aaldR (r := 73) (j := i) hx hb w (by omega) k2 rfl rfl (by omega) (by omega) (by decide) (74 + 2 * i) (k3 i (by omega)) dX6_firstAt_14 ?_
        refine lv_iload_n hx hb dX6_firstAt_15 rfl (lv_at hl 2 rfl) ?_
        have ho := optN_lt R i
        refine pw_ci w (pw_runV (r := (74 + 2 * i)) (ci := 1) (As := [.int (zI (optN R i : Int))]) (rest := []) w ⟨hx, hb, hml, hown, hts⟩ (c_X1_firstLeastBeside l D G ad N c (r := 74 + 2 * i) (o := optN R i) (g := R i) (by omega) (by omega) (k4 i (by omega)).1 (hR i (by omega)) (hb9 i (by omega)) ho) (cwV 1 hts gX6_firstAt_X1_firstLeastBeside rfl rfl rfl (by decide +kernel) ⟨Nat.le_of_ble_eq_true rfl, Nat.le_of_ble_eq_true rfl⟩) (by omega) (k4 i (by omega)).1 rfl rfl hl.1 rfl (lv_room (Nat.le_of_ble_eq_true rfl)) dX6_firstAt_16 ⟨Nat.le_of_ble_eq_true rfl, Nat.le_of_ble_eq_true rfl⟩) (fun r_ u H locs hp w => ?_)
        obtain ⟨hv, hu⟩ := hp
        subst hv
        have w : PW D G A s ad N c H locs := by rw [hu] at w; exact w
        clear hu
        refine lv_istore_n (lv' := [(2, .int (zI (optN R (i + 1) : Int))), (0, .ref (ad 72)), (1, .int (zI (gap : Int))), (3, .int (zI (i : Int)))]) hx hb dX6_firstAt_19 rfl hl (by decide) rfl (fun ls hl => ?_)
        refine pz_iinc (lv' := [(3, .int (zI ((i + 1 : Nat) : Int))), (2, .int (zI (optN R (i + 1) : Int))), (0, .ref (ad 72)), (1, .int (zI (gap : Int)))]) hx hb dX6_firstAt_20 hl (j := 3) rfl ((i + 1 : Nat) : Int) (by omega) (by decide) rfl (fun ls hl => ?_)
        refine lv_goto (tgt := 4) hx hb dX6_firstAt_23 (by decide) ?_
        exact ih (i + 1) H locs ls (by omega) (by omega) w (lv_sub hl [2, 3, 1, 0] rfl)
  exact lp (gap + 2) 0 H locs ls (by omega) (by omega) w (lv_sub hl [2, 3, 1, 0] rfl)

theorem hin_X6_countWithGap_6 : ∀ w ∈ u_ws RX6 TX6 4, w ∈ wsX6_countWithGap := by decide +kernel
theorem fl_X6_countWithGap_26 : Cond.fieldLink RX6 26 "PipersDesk$TuneChoices" "counts" "[I" ∈ wsX6_countWithGap := by decide +kernel
theorem wd_X6_countWithGap_k53 : Cond.constant RX6 53 (1000000) ∈ wsX6_countWithGap := by decide +kernel
abbrev rm_X6_countWithGap : Room := { frames := 0, cells := 0, slots := 0, locals := 0 }
set_option maxHeartbeats 4000000 in
set_option maxRecDepth 100000 in
/-- TuneChoices.countWithGap -/
theorem c_X6_countWithGap (l : Launch) (D : va_G) (G : Nat → ClassId) (ad : Nat → Nat) (N : Nat) (c : Nat → va_E) {t : Nat} {all : Int} {g97 v : Nat → Int} (hN : 120 ≤ N) (k1 : c 72 = .inr (6, [.ref (ad 73), .ref (ad 94), .ref (ad 96), .ref (ad 97)])) (k8 : isA 0 G (c 97) 9 g97) (htN : t < N) (htne : t ≠ 97) (ht : isA 0 G (c t) 9 v) (hv9 : ∀ j, j < 9 → 0 ≤ v j ∧ v j ≤ 1000000) : MC l yX6_countWithGap wsX6_countWithGap rm_X6_countWithGap [.ref (ad 72), .ref (ad t), .int (zI all)] D G ad N c (qI D G (fx ad N) (fun r c1 => r = zI (sumU (cntF v g97 all) 9) ∧ isA 0 G (c1 97) 9 (cntF v g97 all) ∧ ∀ q, q ≠ 97 → c1 q = c q)) 0 0 := by
  refine MCi.of (cc := cX6_countWithGap) (maxL := 6) (by decide) rfl (Nat.le_of_ble_eq_true rfl) ?_
  intro p e s m args below meth kc A Q hx hb hts hown hml fin H locs w ls hl
  have hown : s.vm.findClass RX6 = some m.cls := hown
  have hl : lv_has ls 6 [(0, .ref (ad 72)), (1, .ref (ad t)), (2, .int (zI all))] := hl
  refine lv_iconst (v := zI (0)) hx hb dX6_countWithGap_0 rfl ?_
  refine lv_istore_n (lv' := [(3, .int (zI 0)), (0, .ref (ad 72)), (1, .ref (ad t)), (2, .int (zI all))]) hx hb dX6_countWithGap_1 rfl hl (by decide) rfl (fun ls hl => ?_)
  refine lv_iconst (v := zI (0)) hx hb dX6_countWithGap_2 rfl ?_
  refine lv_istore (lv' := [(4, .int (zI 0)), (3, .int (zI 0)), (0, .ref (ad 72)), (1, .ref (ad t)), (2, .int (zI all))]) hx hb dX6_countWithGap_3 hl (by decide) rfl (fun ls hl => ?_)
  have lp : ∀ (f : Nat) (o : Nat) (gi : Nat → Int) (c1 : Nat → va_E) (H : Heap) (locs : List Loc) (ls : Array Slot), o ≤ 9 → isA 0 G (c1 97) 9 gi → (∀ j, j < o → gi j = cntF v g97 all j) → (∀ j, o ≤ j → j < 9 → gi j = g97 j) → (∀ q, q ≠ 97 → c1 q = c q) → 9 < o + f → PW D G A s ad N c1 H locs → lv_has ls 6 [(0, .ref (ad 72)), (1, .ref (ad t)), (2, .int (zI all)), (3, .int (zI (sumU (cntF v g97 all) o))), (4, .int (zI (o : Int)))] → W p l e rm_X6_countWithGap s m args below meth kc H locs 0 0 Q (F0 m 5 ls []) := by
    intro f
    induction f with
    | zero => intro o gi c1 H locs ls h9 hA hG hG2 hf hfu w hl; omega
    | succ f ih =>
      intro o gi c1 H locs ls h9 hA hG hG2 hf hfu w hl
      refine lv_iload hx hb dX6_countWithGap_5 (lv_at hl 4 rfl) ?_
      refine lv_bipush (v := zI (9)) hx hb dX6_countWithGap_7 (by decide +kernel) ?_
      refine pz_icmpge (tgt := 70) hx hb dX6_countWithGap_9 (by decide) (⟨by omega, by omega⟩) (⟨by omega, by omega⟩) (fun ho => ?_) (fun ho => ?_)
      · have o9 : o = 9 := by omega
        subst o9
        refine lv_iload_n hx hb dX6_countWithGap_70 rfl (lv_at hl 3 rfl) ?_
        exact fin (ad, N, c1) c1 _ _ _ _ _ _ _ rfl ⟨rfl, hA.to (fun j hj => hG j hj), hf⟩ w dX6_countWithGap_71 (Nat.le_refl _) (Nat.le_refl _)
      · have hvo := hv9 o (by omega)
        have jn : ∀ (rp : Int) (ls : Array Slot), rp = (if o = 0 then 0 else g97 o) → lv_has ls 6 [(0, .ref (ad 72)), (1, .ref (ad t)), (2, .int (zI all)), (3, .int (zI (sumU (cntF v g97 all) o))), (4, .int (zI (o : Int))), (5, .int (zI rp))] → W p l e rm_X6_countWithGap s m args below meth kc H locs 0 0 Q (F0 m 30 ls []) := by
          intro rp ls hrp hl
          refine lv_aload_n hx hb dX6_countWithGap_30 rfl (lv_at hl 0 rfl) ?_
          refine pw_get (r := 72) (ci := 6) (C := RX6) (T := TX6) (Nf := 4) hx hb w hts hin_X6_countWithGap_6 hown (by omega) ((hf 72 (by omega)).trans k1) rfl 3 (by decide) (hts _ fl_X6_countWithGap_26) (fun _ h9 => h9) rfl dX6_countWithGap_31 ?_
          refine lv_iload hx hb dX6_countWithGap_34 (lv_at hl 4 rfl) ?_
          refine lv_aload_n hx hb dX6_countWithGap_36 rfl (lv_at hl 1 rfl) ?_
          refine lv_iload hx hb dX6_countWithGap_37 (lv_at hl 4 rfl) ?_
          refine pw_iald (r := t) (j := o) hx hb w htN (isA.fr (hf t (by omega)) ht) (by omega) (by omega) (by decide) dX6_countWithGap_39 ?_
          refine lv_ldc hx hb hown (hts _ wd_X6_countWithGap_k53) dX6_countWithGap_40 (pz_topI (y := zI (1000000)) (by decide +kernel) ?_)
          refine pz_icmpge (tgt := 52) hx hb dX6_countWithGap_42 (by decide) (⟨by omega, by omega⟩) (⟨by omega, by omega⟩) (fun hv => ?_) (fun hv => ?_)
          · refine lv_iconst (v := zI (0)) hx hb dX6_countWithGap_52 rfl ?_
            refine pz_top (b := cntF v g97 all o) (by unfold cntF; rw [if_neg (by omega)]) ?_
            have e8 := upI_self gi o (cntF v g97 all o)
            refine pw_iast' (r := 97) (j := o) hx hb w (by omega) hA (by omega) (by omega) (by decide) dX6_countWithGap_53 (fun H locs c1 hc1 fr1 w => ?_)
            refine lv_iload_n hx hb dX6_countWithGap_54 rfl (lv_at hl 3 rfl) ?_
            refine lv_aload_n hx hb dX6_countWithGap_55 rfl (lv_at hl 0 rfl) ?_
            refine pw_get (r := 72) (ci := 6) (C := RX6) (T := TX6) (Nf := 4) hx hb w hts hin_X6_countWithGap_6 hown (by omega) ((fr1 72 (by omega)).trans ((hf 72 (by omega)).trans k1)) rfl 3 (by decide) (hts _ fl_X6_countWithGap_26) (fun _ h9 => h9) rfl dX6_countWithGap_56 ?_
            refine lv_iload hx hb dX6_countWithGap_59 (lv_at hl 4 rfl) ?_
            refine pw_iald (r := 97) (j := o) hx hb w (by omega) hc1 (by omega) (by omega) (by decide) dX6_countWithGap_61 ?_
            refine pz_top (b := cntF v g97 all o) (upI_self _ _ _) ?_
            refine pz_iadd hx hb dX6_countWithGap_62 ?_
            refine pz_top (b := sumU (cntF v g97 all) (o + 1)) (rfl) ?_
            refine lv_istore_n (lv' := [(3, .int (zI (sumU (cntF v g97 all) (o + 1)))), (0, .ref (ad 72)), (1, .ref (ad t)), (2, .int (zI all)), (4, .int (zI (o : Int))), (5, .int (zI rp))]) hx hb dX6_countWithGap_63 rfl hl (by decide) rfl (fun ls hl => ?_)
            refine pz_iinc (lv' := [(4, .int (zI ((o + 1 : Nat) : Int))), (3, .int (zI (sumU (cntF v g97 all) (o + 1)))), (0, .ref (ad 72)), (1, .ref (ad t)), (2, .int (zI all)), (5, .int (zI rp))]) hx hb dX6_countWithGap_64 hl (j := 4) rfl ((o + 1 : Nat) : Int) (by omega) (by decide) rfl (fun ls hl => ?_)
            refine lv_goto (tgt := 5) hx hb dX6_countWithGap_67 (by decide) ?_
            exact ih (o + 1) (upI gi o (cntF v g97 all o)) c1 H locs ls (by omega) hc1 (fun j hj => by unfold upI; split <;> first | (rename_i e9; rw [e9]; done) | exact hG j (by omega)) (fun j hj hj9 => by unfold upI; rw [if_neg (by omega)]; exact hG2 j (by omega) hj9) (fun q hq => (fr1 q hq).trans (hf q hq)) (by omega) w (lv_sub hl [2, 3, 4, 1, 0] rfl)
          · refine lv_iload_n hx hb dX6_countWithGap_45 rfl (lv_at hl 2 rfl) ?_
            refine lv_iload hx hb dX6_countWithGap_46 (lv_at hl 5 rfl) ?_
            refine pz_isub hx hb dX6_countWithGap_48 ?_
            refine lv_goto (tgt := 53) hx hb dX6_countWithGap_49 (by decide) ?_
            refine pz_top (b := cntF v g97 all o) (by unfold cntF; rw [if_pos (by omega), hrp]) ?_
            have e8 := upI_self gi o (cntF v g97 all o)
            refine pw_iast' (r := 97) (j := o) hx hb w (by omega) hA (by omega) (by omega) (by decide) dX6_countWithGap_53 (fun H locs c2 hc2 fr2 w => ?_)
            refine lv_iload_n hx hb dX6_countWithGap_54 rfl (lv_at hl 3 rfl) ?_
            refine lv_aload_n hx hb dX6_countWithGap_55 rfl (lv_at hl 0 rfl) ?_
            refine pw_get (r := 72) (ci := 6) (C := RX6) (T := TX6) (Nf := 4) hx hb w hts hin_X6_countWithGap_6 hown (by omega) ((fr2 72 (by omega)).trans ((hf 72 (by omega)).trans k1)) rfl 3 (by decide) (hts _ fl_X6_countWithGap_26) (fun _ h9 => h9) rfl dX6_countWithGap_56 ?_
            refine lv_iload hx hb dX6_countWithGap_59 (lv_at hl 4 rfl) ?_
            refine pw_iald (r := 97) (j := o) hx hb w (by omega) hc2 (by omega) (by omega) (by decide) dX6_countWithGap_61 ?_
            refine pz_top (b := cntF v g97 all o) (upI_self _ _ _) ?_
            refine pz_iadd hx hb dX6_countWithGap_62 ?_
            refine pz_top (b := sumU (cntF v g97 all) (o + 1)) (rfl) ?_
            refine lv_istore_n (lv' := [(3, .int (zI (sumU (cntF v g97 all) (o + 1)))), (0, .ref (ad 72)), (1, .ref (ad t)), (2, .int (zI all)), (4, .int (zI (o : Int))), (5, .int (zI rp))]) hx hb dX6_countWithGap_63 rfl hl (by decide) rfl (fun ls hl => ?_)
            refine pz_iinc (lv' := [(4, .int (zI ((o + 1 : Nat) : Int))), (3, .int (zI (sumU (cntF v g97 all) (o + 1)))), (0, .ref (ad 72)), (1, .ref (ad t)), (2, .int (zI all)), (5, .int (zI rp))]) hx hb dX6_countWithGap_64 hl (j := 4) rfl ((o + 1 : Nat) : Int) (by omega) (by decide) rfl (fun ls hl => ?_)
            refine lv_goto (tgt := 5) hx hb dX6_countWithGap_67 (by decide) ?_
            exact ih (o + 1) (upI gi o (cntF v g97 all o)) c2 H locs ls (by omega) hc2 (fun j hj => by unfold upI; split <;> first | (rename_i e9; rw [e9]; done) | exact hG j (by omega)) (fun j hj hj9 => by unfold upI; rw [if_neg (by omega)]; exact hG2 j (by omega) hj9) (fun q hq => (fr2 q hq).trans (hf q hq)) (by omega) w (lv_sub hl [2, 3, 4, 1, 0] rfl)
        refine lv_iload hx hb dX6_countWithGap_12 (lv_at hl 4 rfl) ?_
        refine pz_ifne (tgt := 21) hx hb dX6_countWithGap_14 (by decide) (⟨by omega, by omega⟩) (fun ho0 => ?_) (fun ho0 => ?_)
        · refine lv_aload_n hx hb dX6_countWithGap_21 rfl (lv_at hl 0 rfl) ?_
          refine pw_get (r := 72) (ci := 6) (C := RX6) (T := TX6) (Nf := 4) hx hb w hts hin_X6_countWithGap_6 hown (by omega) ((hf 72 (by omega)).trans k1) rfl 3 (by decide) (hts _ fl_X6_countWithGap_26) (fun _ h9 => h9) rfl dX6_countWithGap_22 ?_
          refine lv_iload hx hb dX6_countWithGap_25 (lv_at hl 4 rfl) ?_
          refine pw_iald (r := 97) (j := o) hx hb w (by omega) hA (by omega) (by omega) (by decide) dX6_countWithGap_27 ?_
          refine pz_top (b := (g97 o)) (hG2 o (by omega) (by omega)) ?_
          refine lv_istore (lv' := [(5, .int (zI (g97 o))), (0, .ref (ad 72)), (1, .ref (ad t)), (2, .int (zI all)), (3, .int (zI (sumU (cntF v g97 all) o))), (4, .int (zI (o : Int)))]) hx hb dX6_countWithGap_28 hl (by decide) rfl (fun ls hl => ?_)
          exact jn _ ls (by rw [if_neg (by omega)]) (lv_sub hl [1, 2, 3, 4, 5, 0] rfl)
        · refine lv_iconst (v := zI (0)) hx hb dX6_countWithGap_17 rfl ?_
          refine lv_goto (tgt := 28) hx hb dX6_countWithGap_18 (by decide) ?_
          refine lv_istore (lv' := [(5, .int (zI 0)), (0, .ref (ad 72)), (1, .ref (ad t)), (2, .int (zI all)), (3, .int (zI (sumU (cntF v g97 all) o))), (4, .int (zI (o : Int)))]) hx hb dX6_countWithGap_28 hl (by decide) rfl (fun ls hl => ?_)
          exact jn _ ls (by rw [if_pos (by omega)]) (lv_sub hl [1, 2, 3, 4, 5, 0] rfl)
  exact lp 10 0 g97 c H locs ls (by omega) k8 (fun j hj => by omega) (fun _ _ _ => rfl) (fun _ _ => rfl) (by omega) w (lv_sub hl [2, 3, 4, 1, 0] rfl)

theorem hin_X6_countFor_6 : ∀ w ∈ u_ws RX6 TX6 4, w ∈ wsX6_countFor := by decide +kernel
theorem fl_X6_countFor_26 : Cond.fieldLink RX6 26 "PipersDesk$TuneChoices" "counts" "[I" ∈ wsX6_countFor := by decide +kernel
abbrev rm_X6_countFor : Room := { frames := 1, cells := 0, slots := 0, locals := 30 }
set_option maxHeartbeats 4000000 in
set_option maxRecDepth 100000 in
/-- TuneChoices.countFor -/
theorem c_X6_countFor (l : Launch) (D : va_G) (G : Nat → ClassId) (ad : Nat → Nat) (N : Nat) (c : Nat → va_E) {T n : Nat} {pt ln : Nat → Nat} {wi : Nat → Int} {cw : Nat → Nat → Int} (hT : 16 ≤ T ∧ T + 14 ≤ 72) (hN : 120 ≤ N) (hO : TuneO G ad c T n pt ln wi) (hV : TuneV n pt ln wi) (hC : TC G ad c) (hW : GW G c T n cw) (hcw : ∀ i j, j < 9 → 0 ≤ cw i j ∧ cw i j ≤ 1000000) : MC l yX6_countFor wsX6_countFor rm_X6_countFor [.ref (ad 72), .ref (ad T)] D G ad N c (qI D G (fx ad N) (fun r c1 => r = zI (cS cw (n - 1)).2 ∧ TC G ad c1 ∧ ∀ q, q ≠ 97 → c1 q = c q)) 0 0 := by
  refine MCi.of (cc := cX6_countFor) (maxL := 4) (by decide) rfl (Nat.le_of_ble_eq_true rfl) ?_
  intro p e s m args below meth kc A Q hx hb hts hown hml fin H locs w ls hl
  have hown : s.vm.findClass RX6 = some m.cls := hown
  have hl : lv_has ls 4 [(0, .ref (ad 72)), (1, .ref (ad T))] := hl
  obtain ⟨k1, ⟨fk, k2, k3⟩, k4, k5, ⟨g95, k6⟩, ⟨g96, k7⟩, g97, k8⟩ := id hC
  have t1 := hO.1
  have v1 := hV.1
  refine lv_aload_n hx hb dX6_countFor_0 rfl (lv_at hl 0 rfl) ?_
  refine pw_get (r := 72) (ci := 6) (C := RX6) (T := TX6) (Nf := 4) hx hb w hts hin_X6_countFor_6 hown (by omega) k1 rfl 3 (by decide) (hts _ fl_X6_countFor_26) (fun _ h9 => h9) rfl dX6_countFor_1 ?_
  refine lv_iconst (v := zI (0)) hx hb dX6_countFor_4 rfl ?_
  refine pw_cv w (pw_runS (As := [.ref (ad 97), .int (zI 0)]) (rest := []) w ⟨hx, hb, hml, hown, hts⟩ (c_J7_fill_53178 l D G ad N c (r := 97) (v := 0) (by omega) (by decide) k8) (va_cwS 2 hts gX6_countFor_J7_fill_53178 rfl rfl rfl (by decide +kernel) ⟨Nat.le_of_ble_eq_true rfl, Nat.le_of_ble_eq_true rfl⟩) rfl hl.1 rfl (lv_room (Nat.le_of_ble_eq_true rfl)) dX6_countFor_5 ⟨Nat.le_of_ble_eq_true rfl, Nat.le_of_ble_eq_true rfl⟩) (fun c1 H locs hp w => ?_)
  have w : PW D G A s ad N c1 H locs := w
  obtain ⟨hA1, fr1⟩ := hp
  refine lv_aload_n hx hb dX6_countFor_8 rfl (lv_at hl 0 rfl) ?_
  refine pw_get (r := 72) (ci := 6) (C := RX6) (T := TX6) (Nf := 4) hx hb w hts hin_X6_countFor_6 hown (by omega) ((fr1 72 (by omega)).trans k1) rfl 3 (by decide) (hts _ fl_X6_countFor_26) (fun _ h9 => h9) rfl dX6_countFor_9 ?_
  refine lv_iconst (v := zI (0)) hx hb dX6_countFor_12 rfl ?_
  refine lv_iconst (v := zI (1)) hx hb dX6_countFor_13 rfl ?_
  refine pw_iast' (r := 97) (j := 0) hx hb w (by omega) hA1 (by omega) (by omega) (by decide) dX6_countFor_14 (fun H locs c2 hc2 fr2 w => ?_)
  refine lv_iconst (v := zI (1)) hx hb dX6_countFor_15 rfl ?_
  refine lv_istore_n (lv' := [(2, .int (zI 1)), (0, .ref (ad 72)), (1, .ref (ad T))]) hx hb dX6_countFor_16 rfl hl (by decide) rfl (fun ls hl => ?_)
  refine lv_iconst (v := zI (0)) hx hb dX6_countFor_17 rfl ?_
  refine lv_istore_n (lv' := [(3, .int (zI 0)), (2, .int (zI 1)), (0, .ref (ad 72)), (1, .ref (ad T))]) hx hb dX6_countFor_18 rfl hl (by decide) rfl (fun ls hl => ?_)
  have lp : ∀ (f : Nat) (i : Nat) (c1 : Nat → va_E) (H : Heap) (locs : List Loc) (ls : Array Slot), i ≤ n - 1 → isA 0 G (c1 97) 9 (cS cw i).1 → (∀ q, q ≠ 97 → c1 q = c q) → n - 1 < i + f → PW D G A s ad N c1 H locs → lv_has ls 4 [(0, .ref (ad 72)), (1, .ref (ad T)), (2, .int (zI ((cS cw i).2))), (3, .int (zI (i : Int)))] → W p l e rm_X6_countFor s m args below meth kc H locs 0 0 Q (F0 m 19 ls []) := by
    intro f
    induction f with
    | zero => intro i c1 H locs ls h9 hA hf hfu w hl; omega
    | succ f ih =>
      intro i c1 H locs ls h9 hA hf hfu w hl
      have hO1 := hO.fr (c1 := c1) (fun q h1 h2 => hf q (by omega))
      have hW1 := hW.fr (c1 := c1) hV.1 (fun q h1 h2 => hf q (by omega))
      refine lv_iload_n hx hb dX6_countFor_19 rfl (lv_at hl 3 rfl) ?_
      refine lv_aload_n hx hb dX6_countFor_20 rfl (lv_at hl 1 rfl) ?_
      refine pw_ci w (pw_runV (r := T) (ci := 5) (As := []) (rest := [.int (zI (i : Int))]) w ⟨hx, hb, hml, hown, hts⟩ (c_X5_gaps l D G ad N c1 hT hN hO1 hV) (cwV 0 hts gX6_countFor_X5_gaps rfl rfl rfl (by decide +kernel) ⟨Nat.le_of_ble_eq_true rfl, Nat.le_of_ble_eq_true rfl⟩) (by omega) ((hf T (by omega)).trans t1) rfl rfl hl.1 rfl (lv_room (Nat.le_of_ble_eq_true rfl)) dX6_countFor_21 ⟨Nat.le_of_ble_eq_true rfl, Nat.le_of_ble_eq_true rfl⟩) (fun r_ u H locs hp w => ?_)
      obtain ⟨hv, hu⟩ := hp
      subst hv
      have w : PW D G A s ad N c1 H locs := by rw [hu] at w; exact w
      clear hu
      refine pz_icmpge (tgt := 44) hx hb dX6_countFor_24 (by decide) (⟨by omega, by omega⟩) (⟨by omega, by omega⟩) (fun hi => ?_) (fun hi => ?_)
      · have e9 : i = n - 1 := by omega
        subst e9
        refine lv_iload_n hx hb dX6_countFor_44 rfl (lv_at hl 2 rfl) ?_
        have hC1 : TC G ad c1 := ⟨(hf 72 (by omega)).trans k1, ⟨fk, (hf 73 (by omega)).trans k2, k3⟩, fun j hj => ⟨(hf _ (by omega)).trans (k4 j hj).1, by
          obtain ⟨g, hg⟩ := (k4 j hj).2
          exact ⟨g, isA.fr (hf _ (by omega)) hg⟩⟩, (hf 94 (by omega)).trans k5, ⟨g95, isA.fr (hf 95 (by omega)) k6⟩, ⟨g96, isA.fr (hf 96 (by omega)) k7⟩, _, hA⟩
        exact fin (ad, N, c1) c1 _ _ _ _ _ _ _ rfl ⟨rfl, hC1, hf⟩ w dX6_countFor_45 (Nat.le_refl _) (Nat.le_refl _)
      · refine lv_aload_n hx hb dX6_countFor_27 rfl (lv_at hl 0 rfl) ?_
        refine lv_aload_n hx hb dX6_countFor_28 rfl (lv_at hl 1 rfl) ?_
        refine lv_iload_n hx hb dX6_countFor_29 rfl (lv_at hl 3 rfl) ?_
        refine pw_cr w (pw_runV (r := T) (ci := 5) (As := [.int (zI (i : Int))]) (rest := [.ref (ad 72)]) w ⟨hx, hb, hml, hown, hts⟩ (c_X5_costsAt l D G ad N c1 hT hN hO1 hV (i := i) (by omega)) (cwV 1 hts gX6_countFor_X5_costsAt rfl rfl rfl (by decide +kernel) ⟨Nat.le_of_ble_eq_true rfl, Nat.le_of_ble_eq_true rfl⟩) (by omega) ((hf T (by omega)).trans t1) rfl rfl hl.1 rfl (lv_room (Nat.le_of_ble_eq_true rfl)) dX6_countFor_30 ⟨Nat.le_of_ble_eq_true rfl, Nat.le_of_ble_eq_true rfl⟩) (fun r_ u H locs hp w => ?_)
        obtain ⟨hv, hu⟩ := hp
        subst hv
        have w : PW D G A s ad N c1 H locs := by rw [hu] at w; exact w
        clear hu
        refine lv_iload_n hx hb dX6_countFor_33 rfl (lv_at hl 2 rfl) ?_
        refine pw_ci w (pw_runV (r := 72) (ci := 6) (As := [.ref (ad (T + 5 + i)), .int (zI ((cS cw i).2))]) (rest := []) w ⟨hx, hb, hml, hown, hts⟩ (c_X6_countWithGap l D G ad N c1 (t := T + 5 + i) (all := (cS cw i).2) (g97 := (cS cw i).1) (v := cw i) hN ((hf 72 (by omega)).trans k1) hA (by omega) (by omega) (hW1 i (by omega)) (hcw i)) (cwV 2 hts gX6_countFor_X6_countWithGap rfl rfl rfl (by decide +kernel) ⟨Nat.le_of_ble_eq_true rfl, Nat.le_of_ble_eq_true rfl⟩) (by omega) ((hf 72 (by omega)).trans k1) rfl rfl hl.1 rfl (lv_room (Nat.le_of_ble_eq_true rfl)) dX6_countFor_34 ⟨Nat.le_of_ble_eq_true rfl, Nat.le_of_ble_eq_true rfl⟩) (fun r_ c3 H locs hp w => ?_)
        have w : PW D G A s ad N c3 H locs := w
        obtain ⟨hv3, hA3, fr3⟩ := hp
        subst hv3
        have e8 : sumU (cntF (cw i) (cS cw i).1 (cS cw i).2) 9 = (cS cw (i + 1)).2 := rfl
        rw [e8]
        refine lv_istore_n (lv' := [(2, .int (zI ((cS cw (i + 1)).2))), (0, .ref (ad 72)), (1, .ref (ad T)), (3, .int (zI (i : Int)))]) hx hb dX6_countFor_37 rfl hl (by decide) rfl (fun ls hl => ?_)
        refine pz_iinc (lv' := [(3, .int (zI ((i + 1 : Nat) : Int))), (2, .int (zI ((cS cw (i + 1)).2))), (0, .ref (ad 72)), (1, .ref (ad T))]) hx hb dX6_countFor_38 hl (j := 3) rfl ((i + 1 : Nat) : Int) (by omega) (by decide) rfl (fun ls hl => ?_)
        refine lv_goto (tgt := 19) hx hb dX6_countFor_41 (by decide) ?_
        exact ih (i + 1) c3 H locs ls (by omega) hA3 (fun q hq => (fr3 q hq).trans (hf q hq)) (by omega) w (lv_sub hl [2, 3, 1, 0] rfl)
  exact lp (n + 1) 0 c2 H locs ls (by omega) (hc2.to (fun j hj => by simp [upI, cS])) (fun q hq => (fr2 q hq).trans (fr1 q hq)) (by omega) w (lv_sub hl [2, 3, 1, 0] rfl)

theorem hin_X6_fewestEmptyGaps_6 : ∀ w ∈ u_ws RX6 TX6 4, w ∈ wsX6_fewestEmptyGaps := by decide +kernel
theorem fl_X6_fewestEmptyGaps_18 : Cond.fieldLink RX6 18 "PipersDesk$TuneChoices" "empties" "LPipersDesk$Leasts;" ∈ wsX6_fewestEmptyGaps := by decide +kernel
theorem fl_X6_fewestEmptyGaps_22 : Cond.fieldLink RX6 22 "PipersDesk$TuneChoices" "emptyCosts" "[I" ∈ wsX6_fewestEmptyGaps := by decide +kernel
theorem wd_X6_fewestEmptyGaps_k53 : Cond.constant RX6 53 (1000000) ∈ wsX6_fewestEmptyGaps := by decide +kernel
abbrev rm_X6_fewestEmptyGaps : Room := { frames := 2, cells := 0, slots := 0, locals := 60 }
set_option maxHeartbeats 4000000 in
set_option maxRecDepth 100000 in
/-- TuneChoices.fewestEmptyGaps -/
theorem c_X6_fewestEmptyGaps (l : Launch) (D : va_G) (G : Nat → ClassId) (ad : Nat → Nat) (N : Nat) (c : Nat → va_E) {T n : Nat} {pt ln : Nat → Nat} {wi : Nat → Int} {cw : Nat → Nat → Int} (hT : 16 ≤ T ∧ T + 14 ≤ 72) (hN : 120 ≤ N) (hO : TuneO G ad c T n pt ln wi) (hV : TuneV n pt ln wi) (hC : TC G ad c) (hW : GW G c T n cw) (hcw : ∀ i j, j < 9 → 0 ≤ cw i j ∧ cw i j ≤ 1000000) : MC l yX6_fewestEmptyGaps wsX6_fewestEmptyGaps rm_X6_fewestEmptyGaps [.ref (ad 72), .ref (ad T)] D G ad N c (qI D G (fx ad N) (fun r c1 => r = zI (lessOf (Fr (fun i => ewF (cw i)) (n - 1))) ∧ TC G ad c1 ∧ ∀ q, q ≠ 95 ∧ q ≠ 96 → c1 q = c q)) 0 0 := by
  refine MCi.of (cc := cX6_fewestEmptyGaps) (maxL := 6) (by decide) rfl (Nat.le_of_ble_eq_true rfl) ?_
  intro p e s m args below meth kc A Q hx hb hts hown hml fin H locs w ls hl
  have hown : s.vm.findClass RX6 = some m.cls := hown
  have hl : lv_has ls 6 [(0, .ref (ad 72)), (1, .ref (ad T))] := hl
  obtain ⟨k1, ⟨fk, k2, k3⟩, k4, k5, ⟨g95, k6⟩, ⟨g96, k7⟩, g97, k8⟩ := id hC
  have t1 := hO.1
  have v1 := hV.1
  refine lv_aload_n hx hb dX6_fewestEmptyGaps_0 rfl (lv_at hl 0 rfl) ?_
  refine pw_get (r := 72) (ci := 6) (C := RX6) (T := TX6) (Nf := 4) hx hb w hts hin_X6_fewestEmptyGaps_6 hown (by omega) k1 rfl 1 (by decide) (hts _ fl_X6_fewestEmptyGaps_18) (fun _ h9 => h9) rfl dX6_fewestEmptyGaps_1 ?_
  refine pw_cv w (pw_runV (r := 94) (ci := 1) (As := []) (rest := []) w ⟨hx, hb, hml, hown, hts⟩ (c_X1_startRow l D G ad N c (r := 94) (by omega) (by omega) k5 k6) (cwV 0 hts gX6_fewestEmptyGaps_X1_startRow rfl rfl rfl (by decide +kernel) ⟨Nat.le_of_ble_eq_true rfl, Nat.le_of_ble_eq_true rfl⟩) (by omega) k5 rfl rfl hl.1 rfl (lv_room (Nat.le_of_ble_eq_true rfl)) dX6_fewestEmptyGaps_4 ⟨Nat.le_of_ble_eq_true rfl, Nat.le_of_ble_eq_true rfl⟩) (fun c1 H locs hp w => ?_)
  have w : PW D G A s ad N c1 H locs := w
  obtain ⟨hA1, fr1⟩ := hp
  refine lv_iconst (v := zI (0)) hx hb dX6_fewestEmptyGaps_7 rfl ?_
  refine lv_istore_n (lv' := [(2, .int (zI 0)), (0, .ref (ad 72)), (1, .ref (ad T))]) hx hb dX6_fewestEmptyGaps_8 rfl hl (by decide) rfl (fun ls hl => ?_)
  have lp : ∀ (f : Nat) (i : Nat) (c1 : Nat → va_E) (H : Heap) (locs : List Loc) (ls : Array Slot), i ≤ n - 1 → isA 0 G (c1 95) 9 (Fr (fun i => ewF (cw i)) i) → (∃ g, isA 0 G (c1 96) 9 g) → (∀ q, q ≠ 95 ∧ q ≠ 96 → c1 q = c q) → n - 1 < i + f → PW D G A s ad N c1 H locs → lv_has ls 6 [(0, .ref (ad 72)), (1, .ref (ad T)), (2, .int (zI (i : Int)))] → W p l e rm_X6_fewestEmptyGaps s m args below meth kc H locs 0 0 Q (F0 m 9 ls []) := by
    intro f
    induction f with
    | zero => intro i c1 H locs ls h9 hA h96 hf hfu w hl; omega
    | succ f ih =>
      intro i c1 H locs ls h9 hA h96 hf hfu w hl
      have hO1 := hO.fr (c1 := c1) (fun q h1 h2 => hf q (by omega))
      have hW1 := hW.fr (c1 := c1) hV.1 (fun q h1 h2 => hf q (by omega))
      have hb1 := Fr_bd (w := fun i => ewF (cw i)) i (fun i _ j _ => ewF_bd (cw i) j)
      refine lv_iload_n hx hb dX6_fewestEmptyGaps_9 rfl (lv_at hl 2 rfl) ?_
      refine lv_aload_n hx hb dX6_fewestEmptyGaps_10 rfl (lv_at hl 1 rfl) ?_
      refine pw_ci w (pw_runV (r := T) (ci := 5) (As := []) (rest := [.int (zI (i : Int))]) w ⟨hx, hb, hml, hown, hts⟩ (c_X5_gaps l D G ad N c1 hT hN hO1 hV) (cwV 0 hts gX6_fewestEmptyGaps_X5_gaps rfl rfl rfl (by decide +kernel) ⟨Nat.le_of_ble_eq_true rfl, Nat.le_of_ble_eq_true rfl⟩) (by omega) ((hf T (by omega)).trans t1) rfl rfl hl.1 rfl (lv_room (Nat.le_of_ble_eq_true rfl)) dX6_fewestEmptyGaps_11 ⟨Nat.le_of_ble_eq_true rfl, Nat.le_of_ble_eq_true rfl⟩) (fun r_ u H locs hp w => ?_)
      obtain ⟨hv, hu⟩ := hp
      subst hv
      have w : PW D G A s ad N c1 H locs := by rw [hu] at w; exact w
      clear hu
      refine pz_icmpge (tgt := 95) hx hb dX6_fewestEmptyGaps_14 (by decide) (⟨by omega, by omega⟩) (⟨by omega, by omega⟩) (fun hi => ?_) (fun hi => ?_)
      · have e9 : i = n - 1 := by omega
        subst e9
        refine lv_aload_n hx hb dX6_fewestEmptyGaps_95 rfl (lv_at hl 0 rfl) ?_
        refine pw_get (r := 72) (ci := 6) (C := RX6) (T := TX6) (Nf := 4) hx hb w hts hin_X6_fewestEmptyGaps_6 hown (by omega) ((hf 72 (by omega)).trans k1) rfl 1 (by decide) (hts _ fl_X6_fewestEmptyGaps_18) (fun _ h9 => h9) rfl dX6_fewestEmptyGaps_96 ?_
        refine pw_ci w (pw_runV (r := 94) (ci := 1) (As := []) (rest := []) w ⟨hx, hb, hml, hown, hts⟩ (c_X1_leastOfAll l D G ad N c1 (r := 94) (g := Fr (fun i => ewF (cw i)) (n - 1)) (by omega) (by omega) ((hf 94 (by omega)).trans k5) hA hb1) (cwV 0 hts gX6_fewestEmptyGaps_X1_leastOfAll rfl rfl rfl (by decide +kernel) ⟨Nat.le_of_ble_eq_true rfl, Nat.le_of_ble_eq_true rfl⟩) (by omega) ((hf 94 (by omega)).trans k5) rfl rfl hl.1 rfl (lv_room (Nat.le_of_ble_eq_true rfl)) dX6_fewestEmptyGaps_99 ⟨Nat.le_of_ble_eq_true rfl, Nat.le_of_ble_eq_true rfl⟩) (fun r_ u H locs hp w => ?_)
        obtain ⟨hv, hu⟩ := hp
        subst hv
        have w : PW D G A s ad N c1 H locs := by rw [hu] at w; exact w
        clear hu
        have hC1 : TC G ad c1 := ⟨(hf 72 (by omega)).trans k1, ⟨fk, (hf 73 (by omega)).trans k2, k3⟩, fun j hj => ⟨(hf _ (by omega)).trans (k4 j hj).1, by
          obtain ⟨g, hg⟩ := (k4 j hj).2
          exact ⟨g, isA.fr (hf _ (by omega)) hg⟩⟩, (hf 94 (by omega)).trans k5, ⟨_, hA⟩, h96, g97, isA.fr (hf 97 (by omega)) k8⟩
        exact fin (ad, N, c1) c1 _ _ _ _ _ _ _ rfl ⟨rfl, hC1, hf⟩ w dX6_fewestEmptyGaps_102 (Nat.le_refl _) (Nat.le_refl _)
      · refine lv_aload_n hx hb dX6_fewestEmptyGaps_17 rfl (lv_at hl 1 rfl) ?_
        refine lv_iload_n hx hb dX6_fewestEmptyGaps_18 rfl (lv_at hl 2 rfl) ?_
        refine pw_cr w (pw_runV (r := T) (ci := 5) (As := [.int (zI (i : Int))]) (rest := []) w ⟨hx, hb, hml, hown, hts⟩ (c_X5_costsAt l D G ad N c1 hT hN hO1 hV (i := i) (by omega)) (cwV 1 hts gX6_fewestEmptyGaps_X5_costsAt rfl rfl rfl (by decide +kernel) ⟨Nat.le_of_ble_eq_true rfl, Nat.le_of_ble_eq_true rfl⟩) (by omega) ((hf T (by omega)).trans t1) rfl rfl hl.1 rfl (lv_room (Nat.le_of_ble_eq_true rfl)) dX6_fewestEmptyGaps_19 ⟨Nat.le_of_ble_eq_true rfl, Nat.le_of_ble_eq_true rfl⟩) (fun r_ u H locs hp w => ?_)
        obtain ⟨hv, hu⟩ := hp
        subst hv
        have w : PW D G A s ad N c1 H locs := by rw [hu] at w; exact w
        clear hu
        obtain ⟨gz, hgz⟩ := h96
        refine lv_astore_n (lv' := [(3, .ref (ad (T + 5 + i))), (0, .ref (ad 72)), (1, .ref (ad T)), (2, .int (zI (i : Int)))]) hx hb dX6_fewestEmptyGaps_22 rfl hl (by decide) rfl (fun ls hl => ?_)
        refine lv_iconst (v := zI (0)) hx hb dX6_fewestEmptyGaps_23 rfl ?_
        refine lv_istore (lv' := [(4, .int (zI 0)), (3, .ref (ad (T + 5 + i))), (0, .ref (ad 72)), (1, .ref (ad T)), (2, .int (zI (i : Int)))]) hx hb dX6_fewestEmptyGaps_24 hl (by decide) rfl (fun ls hl => ?_)
        have lq : ∀ (f2 : Nat) (o : Nat) (gi : Nat → Int) (c2 : Nat → va_E) (H : Heap) (locs : List Loc) (ls : Array Slot), o ≤ 9 → isA 0 G (c2 96) 9 gi → (∀ j, j < o → gi j = ewF (cw i) j) → (∀ q, q ≠ 96 → c2 q = c1 q) → 9 < o + f2 → PW D G A s ad N c2 H locs → lv_has ls 6 [(0, .ref (ad 72)), (1, .ref (ad T)), (2, .int (zI (i : Int))), (3, .ref (ad (T + 5 + i))), (4, .int (zI (o : Int)))] → W p l e rm_X6_fewestEmptyGaps s m args below meth kc H locs 0 0 Q (F0 m 26 ls []) := by
          intro f2
          induction f2 with
          | zero => intro o gi c2 H locs ls h9o hB hG hF hfu w hl; omega
          | succ f2 ih2 =>
            intro o gi c2 H locs ls h9o hB hG hF hfu w hl
            refine lv_iload hx hb dX6_fewestEmptyGaps_26 (lv_at hl 4 rfl) ?_
            refine lv_bipush (v := zI (9)) hx hb dX6_fewestEmptyGaps_28 (by decide +kernel) ?_
            refine pz_icmpge (tgt := 74) hx hb dX6_fewestEmptyGaps_30 (by decide) (⟨by omega, by omega⟩) (⟨by omega, by omega⟩) (fun ho => ?_) (fun ho => ?_)
            · have o9 : o = 9 := by omega
              subst o9
              refine lv_aload_n hx hb dX6_fewestEmptyGaps_74 rfl (lv_at hl 0 rfl) ?_
              refine pw_get (r := 72) (ci := 6) (C := RX6) (T := TX6) (Nf := 4) hx hb w hts hin_X6_fewestEmptyGaps_6 hown (by omega) ((hF 72 (by omega)).trans ((hf 72 (by omega)).trans k1)) rfl 1 (by decide) (hts _ fl_X6_fewestEmptyGaps_18) (fun _ h9 => h9) rfl dX6_fewestEmptyGaps_75 ?_
              refine lv_aload_n hx hb dX6_fewestEmptyGaps_78 rfl (lv_at hl 0 rfl) ?_
              refine pw_get (r := 72) (ci := 6) (C := RX6) (T := TX6) (Nf := 4) hx hb w hts hin_X6_fewestEmptyGaps_6 hown (by omega) ((hF 72 (by omega)).trans ((hf 72 (by omega)).trans k1)) rfl 1 (by decide) (hts _ fl_X6_fewestEmptyGaps_18) (fun _ h9 => h9) rfl dX6_fewestEmptyGaps_79 ?_
              refine lv_aload_n hx hb dX6_fewestEmptyGaps_82 rfl (lv_at hl 0 rfl) ?_
              refine pw_get (r := 72) (ci := 6) (C := RX6) (T := TX6) (Nf := 4) hx hb w hts hin_X6_fewestEmptyGaps_6 hown (by omega) ((hF 72 (by omega)).trans ((hf 72 (by omega)).trans k1)) rfl 2 (by decide) (hts _ fl_X6_fewestEmptyGaps_22) (fun _ h9 => h9) rfl dX6_fewestEmptyGaps_83 ?_
              refine pw_cv w (pw_runV (r := 94) (ci := 1) (As := [.ref (ad 94), .ref (ad 96)]) (rest := []) w ⟨hx, hb, hml, hown, hts⟩ (c_X1_growFrom l D G ad N c2 (r := 94) (q := 94) (t := 96) (g0 := Fr (fun i => ewF (cw i)) i) (g := Fr (fun i => ewF (cw i)) i) (v := ewF (cw i)) (by omega) (by omega) (by omega) (by omega) (by omega) ((hF 94 (by omega)).trans ((hf 94 (by omega)).trans k5)) (isA.fr (hF 95 (by omega)) hA) ((hF 94 (by omega)).trans ((hf 94 (by omega)).trans k5)) (isA.fr (hF 95 (by omega)) hA) (hB.to (fun j hj => hG j hj)) (by omega) hb1 (fun j _ => ewF_bd (cw i) j)) (cwV 2 hts gX6_fewestEmptyGaps_X1_growFrom rfl rfl rfl (by decide +kernel) ⟨Nat.le_of_ble_eq_true rfl, Nat.le_of_ble_eq_true rfl⟩) (by omega) ((hF 94 (by omega)).trans ((hf 94 (by omega)).trans k5)) rfl rfl hl.1 rfl (lv_room (Nat.le_of_ble_eq_true rfl)) dX6_fewestEmptyGaps_86 ⟨Nat.le_of_ble_eq_true rfl, Nat.le_of_ble_eq_true rfl⟩) (fun c2 H locs hp w => ?_)
              have w : PW D G A s ad N c2 H locs := w
              obtain ⟨hA2, fr2⟩ := hp
              refine pz_iinc (lv' := [(2, .int (zI ((i + 1 : Nat) : Int))), (0, .ref (ad 72)), (1, .ref (ad T)), (3, .ref (ad (T + 5 + i))), (4, .int (zI ((9 : Nat) : Int)))]) hx hb dX6_fewestEmptyGaps_89 hl (j := 2) rfl ((i + 1 : Nat) : Int) (by omega) (by decide) rfl (fun ls hl => ?_)
              refine lv_goto (tgt := 9) hx hb dX6_fewestEmptyGaps_92 (by decide) ?_
              exact ih (i + 1) c2 H locs ls (by omega) hA2 ⟨_, isA.fr (fr2 96 (by omega)) hB⟩ (fun q hq => (fr2 q (by omega)).trans ((hF q (by omega)).trans (hf q hq))) (by omega) w (lv_sub hl [1, 2, 0] rfl)
            · have hcv := hcw i o (by omega)
              have jn : ∀ (em : Int) (ls : Array Slot), em = (if o = 0 then 1 else 0) → lv_has ls 6 [(0, .ref (ad 72)), (1, .ref (ad T)), (2, .int (zI (i : Int))), (3, .ref (ad (T + 5 + i))), (4, .int (zI (o : Int))), (5, .int (zI em))] → W p l e rm_X6_fewestEmptyGaps s m args below meth kc H locs 0 0 Q (F0 m 45 ls []) := by
                intro em ls hem hl
                refine lv_aload_n hx hb dX6_fewestEmptyGaps_45 rfl (lv_at hl 0 rfl) ?_
                refine pw_get (r := 72) (ci := 6) (C := RX6) (T := TX6) (Nf := 4) hx hb w hts hin_X6_fewestEmptyGaps_6 hown (by omega) ((hF 72 (by omega)).trans ((hf 72 (by omega)).trans k1)) rfl 2 (by decide) (hts _ fl_X6_fewestEmptyGaps_22) (fun _ h9 => h9) rfl dX6_fewestEmptyGaps_46 ?_
                refine lv_iload hx hb dX6_fewestEmptyGaps_49 (lv_at hl 4 rfl) ?_
                refine lv_aload_n hx hb dX6_fewestEmptyGaps_51 rfl (lv_at hl 3 rfl) ?_
                refine lv_iload hx hb dX6_fewestEmptyGaps_52 (lv_at hl 4 rfl) ?_
                refine pw_iald (r := (T + 5 + i)) (j := o) hx hb w (by omega) (isA.fr (hF (T + 5 + i) (by omega)) (hW1 i (by omega))) (by omega) (by omega) (by decide) dX6_fewestEmptyGaps_54 ?_
                refine lv_ldc hx hb hown (hts _ wd_X6_fewestEmptyGaps_k53) dX6_fewestEmptyGaps_55 (pz_topI (y := zI (1000000)) (by decide +kernel) ?_)
                refine pz_icmpge (tgt := 65) hx hb dX6_fewestEmptyGaps_57 (by decide) (⟨by omega, by omega⟩) (⟨by omega, by omega⟩) (fun hv => ?_) (fun hv => ?_)
                · refine lv_ldc hx hb hown (hts _ wd_X6_fewestEmptyGaps_k53) dX6_fewestEmptyGaps_65 (pz_topI (y := zI (1000000)) (by decide +kernel) ?_)
                  refine pz_top (b := ewF (cw i) o) (by unfold ewF; rw [if_neg (by omega)]) ?_
                  refine pw_iast' (r := 96) (j := o) hx hb w (by omega) hB (by omega) (by omega) (by decide) dX6_fewestEmptyGaps_67 (fun H locs c3 hc3 fr3 w => ?_)
                  refine pz_iinc (lv' := [(4, .int (zI ((o + 1 : Nat) : Int))), (0, .ref (ad 72)), (1, .ref (ad T)), (2, .int (zI (i : Int))), (3, .ref (ad (T + 5 + i))), (5, .int (zI em))]) hx hb dX6_fewestEmptyGaps_68 hl (j := 4) rfl ((o + 1 : Nat) : Int) (by omega) (by decide) rfl (fun ls hl => ?_)
                  refine lv_goto (tgt := 26) hx hb dX6_fewestEmptyGaps_71 (by decide) ?_
                  exact ih2 (o + 1) (upI gi o (ewF (cw i) o)) c3 H locs ls (by omega) hc3 (fun j hj => by unfold upI; split <;> first | (rename_i e9; rw [e9]; done) | exact hG j (by omega)) (fun q hq => (fr3 q hq).trans (hF q hq)) (by omega) w (lv_sub hl [1, 2, 3, 4, 0] rfl)
                · refine lv_iload hx hb dX6_fewestEmptyGaps_60 (lv_at hl 5 rfl) ?_
                  refine lv_goto (tgt := 67) hx hb dX6_fewestEmptyGaps_62 (by decide) ?_
                  refine pz_top (b := ewF (cw i) o) (by unfold ewF; rw [if_pos (by omega), hem]) ?_
                  refine pw_iast' (r := 96) (j := o) hx hb w (by omega) hB (by omega) (by omega) (by decide) dX6_fewestEmptyGaps_67 (fun H locs c4 hc4 fr4 w => ?_)
                  refine pz_iinc (lv' := [(4, .int (zI ((o + 1 : Nat) : Int))), (0, .ref (ad 72)), (1, .ref (ad T)), (2, .int (zI (i : Int))), (3, .ref (ad (T + 5 + i))), (5, .int (zI em))]) hx hb dX6_fewestEmptyGaps_68 hl (j := 4) rfl ((o + 1 : Nat) : Int) (by omega) (by decide) rfl (fun ls hl => ?_)
                  refine lv_goto (tgt := 26) hx hb dX6_fewestEmptyGaps_71 (by decide) ?_
                  exact ih2 (o + 1) (upI gi o (ewF (cw i) o)) c4 H locs ls (by omega) hc4 (fun j hj => by unfold upI; split <;> first | (rename_i e9; rw [e9]; done) | exact hG j (by omega)) (fun q hq => (fr4 q hq).trans (hF q hq)) (by omega) w (lv_sub hl [1, 2, 3, 4, 0] rfl)
              refine lv_iload hx hb dX6_fewestEmptyGaps_33 (lv_at hl 4 rfl) ?_
              refine pz_ifne (tgt := 42) hx hb dX6_fewestEmptyGaps_35 (by decide) (⟨by omega, by omega⟩) (fun ho0 => ?_) (fun ho0 => ?_)
              · refine lv_iconst (v := zI (0)) hx hb dX6_fewestEmptyGaps_42 rfl ?_
                refine lv_istore (lv' := [(5, .int (zI 0)), (0, .ref (ad 72)), (1, .ref (ad T)), (2, .int (zI (i : Int))), (3, .ref (ad (T + 5 + i))), (4, .int (zI (o : Int)))]) hx hb dX6_fewestEmptyGaps_43 hl (by decide) rfl (fun ls hl => ?_)
                exact jn _ ls (by rw [if_neg (by omega)]) (lv_sub hl [1, 2, 3, 4, 5, 0] rfl)
              · refine lv_iconst (v := zI (1)) hx hb dX6_fewestEmptyGaps_38 rfl ?_
                refine lv_goto (tgt := 43) hx hb dX6_fewestEmptyGaps_39 (by decide) ?_
                refine lv_istore (lv' := [(5, .int (zI 1)), (0, .ref (ad 72)), (1, .ref (ad T)), (2, .int (zI (i : Int))), (3, .ref (ad (T + 5 + i))), (4, .int (zI (o : Int)))]) hx hb dX6_fewestEmptyGaps_43 hl (by decide) rfl (fun ls hl => ?_)
                exact jn _ ls (by rw [if_pos (by omega)]) (lv_sub hl [1, 2, 3, 4, 5, 0] rfl)
        exact lq 10 0 gz c1 H locs ls (by omega) hgz (fun j hj => by omega) (fun _ _ => rfl) (by omega) w (lv_sub hl [2, 3, 4, 1, 0] rfl)
  exact lp (n + 1) 0 c1 H locs ls (by omega) hA1 ⟨_, isA.fr (fr1 96 (by omega)) k7⟩ (fun q hq => fr1 q (by omega)) (by omega) w (lv_sub hl [1, 2, 0] rfl)
