/-! OURS: forwards and backwards -/
def mnU (f : Nat → Int) : Nat → Int
  | 0 => 1000000
  | n + 1 => min (mnU f n) (f n)
theorem mnU_le {f : Nat → Int} {o : Nat} : ∀ n, o < n → mnU f n ≤ f o
  | 0, h => absurd h (Nat.not_lt_zero _)
  | n + 1, h => by
    unfold mnU
    by_cases e : o = n
    · subst e
      omega
    · have := mnU_le (f := f) n (show o < n by omega)
      omega
theorem mnU_F (f : Nat → Int) : ∀ n, mnU f n ≤ 1000000
  | 0 => Int.le_refl _
  | n + 1 => by
    have := mnU_F f n
    unfold mnU
    omega
theorem le_mnU {f : Nat → Int} {x : Int} (hx : x ≤ 1000000) : ∀ n, (∀ o, o < n → x ≤ f o) → x ≤ mnU f n
  | 0, _ => hx
  | n + 1, h => by
    have h1 := le_mnU hx n (fun o ho => h o (by omega))
    have h2 := h n (by omega)
    unfold mnU
    omega
theorem Fr_succ (w : Nat → Nat → Int) (k o : Nat) : Fr w (k + 1) o = min 1000000 (bes (Fr w k) o + w k o) := growF_eq _ _ o
theorem fwd_step {g h w : Nat → Int} (hg : ∀ o, o < 9 → 0 ≤ g o ∧ g o ≤ 1000000) (hh : ∀ o, o < 9 → 0 ≤ h o ∧ h o ≤ 1000000) (hw : ∀ o, o < 9 → 0 ≤ w o ∧ w o ≤ 1000000) : mnU (fun o => min 1000000 (g o + bes (growF h w) o)) 9 = mnU (fun o => min 1000000 (growF g w o + bes h o)) 9 := by
  refine Int.le_antisymm ?_ ?_
  · refine le_mnU (mnU_F _ _) 9 (fun o ho => ?_)
    have hp := flb_ok g o
    have h1 := mnU_le (f := fun o => min 1000000 (g o + bes (growF h w) o)) 9 hp.1
    have h2 := bes_le (g := growF h w) (a := flb g o) (o := o) ho (by omega)
    rw [growF_eq h w o] at h2
    have h3 := growF_eq g w o
    have h4 : bes g o = g (flb g o) := rfl
    have h5 := hg _ hp.1
    have h6 := bes_bd hh o
    have h7 := hw o ho
    try dsimp only at h1 ⊢
    omega
  · refine le_mnU (mnU_F _ _) 9 (fun p hp => ?_)
    have ho := flb_ok (growF h w) p
    have h1 := mnU_le (f := fun o => min 1000000 (growF g w o + bes h o)) 9 ho.1
    have h2 := bes_le (g := g) (a := flb (growF h w) p) (o := p) hp (by omega)
    have h3 := growF_eq g w (flb (growF h w) p)
    have h4 : bes (growF h w) p = growF h w (flb (growF h w) p) := rfl
    have h8 := growF_eq h w (flb (growF h w) p)
    have h5 := bes_bd hg (flb (growF h w) p)
    have h6 := bes_bd hh (flb (growF h w) p)
    have h7 := hw _ ho.1
    try dsimp only at h1 ⊢
    omega
theorem fwd_bwd {w : Nat → Nat → Int} {k : Nat} (hw : ∀ i, i < k → ∀ o, o < 9 → 0 ≤ w i o ∧ w i o ≤ 1000000) : lessOf (Fr w k) = bes (Rr w k 0) 0 := by
  have hF : ∀ j, j ≤ k → ∀ o, o < 9 → 0 ≤ Fr w j o ∧ Fr w j o ≤ 1000000 := fun j hj => Fr_bd j (fun i hi => hw i (by omega))
  have hR : ∀ m j, j + m ≤ k → ∀ o, o < 9 → 0 ≤ Rr w m j o ∧ Rr w m j o ≤ 1000000 := fun m j hj => Rr_bdk m j (fun i h1 h2 => hw i (by omega))
  have hT : ∀ j, j ≤ k → mnU (fun o => min 1000000 (Fr w j o + bes (Rr w (k - j) j) o)) 9 = mnU (fun o => min 1000000 (Fr w 0 o + bes (Rr w k 0) o)) 9 := by
    intro j
    induction j with
    | zero => intro _; rfl
    | succ j ih =>
      intro hj
      rw [← ih (by omega)]
      have e : k - j = (k - (j + 1)) + 1 := by omega
      rw [e]
      exact (fwd_step (hF j (by omega)) (hR (k - (j + 1)) (j + 1) (by omega)) (hw j (by omega))).symm
  have h1 := hT k (Nat.le_refl k)
  rw [Nat.sub_self] at h1
  have hB := bes_bd (hR k 0 (by omega)) 0
  have hl : mnU (fun o => min 1000000 (Fr w k o + bes (Rr w 0 k) o)) 9 = lessOf (Fr w k) := by
    refine Int.le_antisymm ?_ ?_
    · have hf := flb_ok (Fr w k) 0
      have h2 := mnU_le (f := fun o => min 1000000 (Fr w k o + bes (Rr w 0 k) o)) 9 hf.1
      have h3 : bes (Rr w 0 k) (flb (Fr w k) 0) = 0 := bes_start _
      have h4 : lessOf (Fr w k) = Fr w k (flb (Fr w k) 0) := rfl
      have h5 := hF k (Nat.le_refl k) _ hf.1
      try dsimp only at h2
      omega
    · refine le_mnU (hF k (Nat.le_refl k) _ (flb_lt _ 0)).2 9 (fun o ho => ?_)
      have h3 : bes (Rr w 0 k) o = 0 := bes_start _
      have h4 : Fr w k (flb (Fr w k) 0) ≤ Fr w k o := bes_all ho
      have h6 := hF k (Nat.le_refl k) _ (flb_lt (Fr w k) 0)
      have h5 := hF k (Nat.le_refl k) o ho
      try dsimp only
      omega
  have hr : mnU (fun o => min 1000000 (Fr w 0 o + bes (Rr w k 0) o)) 9 = bes (Rr w k 0) 0 := by
    refine Int.le_antisymm ?_ ?_
    · have h2 := mnU_le (f := fun o => min 1000000 (Fr w 0 o + bes (Rr w k 0) o)) (o := 0) 9 (by omega)
      have h3 : Fr w 0 0 = 0 := rfl
      try dsimp only at h2
      omega
    · refine le_mnU hB.2 9 (fun o ho => ?_)
      by_cases e : o = 0
      · subst e
        have h3 : Fr w 0 0 = 0 := rfl
        try dsimp only
        omega
      · have h3 : Fr w 0 o = 1000000 := if_neg e
        have h5 := bes_bd (hR k 0 (by omega)) o
        try dsimp only
        omega
  rw [← hl, h1, hr]
/-! the most ornaments -/
theorem caU_W0 {at_ Ln Wn Mn : Nat → Int} {a : Nat} : ∀ n, (∀ o, o < n → ¬ (at_ o < 1000000 ∧ (o = 0 ∨ o ≠ a) ∧ 0 < Wn o)) → (caU at_ Ln Wn Mn a n).2.1 = 0
  | 0, _ => rfl
  | n + 1, h => by
    unfold caU
    rw [if_neg (h n (by omega))]
    exact caU_W0 n (fun o ho => h o (by omega))
theorem caU_ex {at_ Ln Wn Mn : Nat → Int} {a n : Nat} (h : 0 < (caU at_ Ln Wn Mn a n).2.1) : ∃ o, o < n ∧ at_ o < 1000000 ∧ (o = 0 ∨ o ≠ a) ∧ 0 < Wn o := by
  apply Classical.byContradiction
  intro hn
  have := caU_W0 (Ln := Ln) (Mn := Mn) n (fun o ho hc => hn ⟨o, ho, hc⟩)
  omega
theorem Wof_lt {at_ : Nat → Nat → Int} {no i o : Nat} : Wof at_ no i o < 1000000 ↔ o ≤ no ∧ at_ i o < 1000000 := by
  unfold Wof
  split <;> omega
/-- what an option counts -/
def eW (at_ : Nat → Nat → Int) (no : Nat) : Nat → Nat → Int := fun i => ewF (Wof at_ no i)
theorem lwm_most {at_ : Nat → Nat → Int} {no : Nat} (hno : no ≤ 8) : ∀ k i a, k ≤ 40 → (0 < (lwm at_ no k i a).2.1 ↔ bes (Rr (eW at_ no) k i) a < 1000000) ∧ (0 < (lwm at_ no k i a).2.1 → (lwm at_ no k i a).2.2 = (k : Int) - bes (Rr (eW at_ no) k i) a ∧ bes (Rr (eW at_ no) k i) a ≤ (k : Int))
  | 0, i, a, _ => by
    have h1 : bes (Rr (eW at_ no) 0 i) a = 0 := bes_start a
    have h2 : (lwm at_ no 0 i a).2.1 = 1 := rfl
    have h3 : (lwm at_ no 0 i a).2.2 = 0 := rfl
    rw [h1, h2, h3]
    omega
  | k + 1, i, a, hk => by
    have ih := fun o => lwm_most hno k (i + 1) o (by omega) (at_ := at_)
    have hW0 := fun o => (lwm_W (at_ := at_) (no := no) k (i + 1) o).1
    have hb := Rr_bdk (w := eW at_ no) (k + 1) i (fun j _ _ o _ => ewF_bd _ o)
    have hb1 := Rr_bdk (w := eW at_ no) k (i + 1) (fun j _ _ o _ => ewF_bd _ o)
    have hR : ∀ o, Rr (eW at_ no) (k + 1) i o = min 1000000 (bes (Rr (eW at_ no) k (i + 1)) o + eW at_ no i o) := fun o => Rr_succ _ _ _ _
    have he : ∀ o, (o ≤ no ∧ at_ i o < 1000000 → eW at_ no i o = if o = 0 then 1 else 0) ∧ (¬ (o ≤ no ∧ at_ i o < 1000000) → eW at_ no i o = 1000000) := fun o => ⟨fun h => by unfold eW ewF; rw [if_pos (Wof_lt.mpr h)], fun h => by unfold eW ewF; rw [if_neg (fun q => h (Wof_lt.mp q))]⟩
    have hcan : ∀ o, o < no + 1 → at_ i o < 1000000 → (o = 0 ∨ o ≠ a) → 0 < (lwm at_ no k (i + 1) o).2.1 → bes (Rr (eW at_ no) (k + 1) i) a ≤ bes (Rr (eW at_ no) k (i + 1)) o + (if o = 0 then 1 else 0) := fun o h1 h2 h3 h4 => by
      have h5 := bes_le (g := Rr (eW at_ no) (k + 1) i) (a := a) (o := o) (by omega) h3
      rw [hR o, (he o).1 ⟨by omega, h2⟩] at h5
      omega
    have hf := flb_ok (Rr (eW at_ no) (k + 1) i) a
    have hfc : bes (Rr (eW at_ no) (k + 1) i) a < 1000000 → (flb (Rr (eW at_ no) (k + 1) i) a ≤ no ∧ at_ i (flb (Rr (eW at_ no) (k + 1) i) a) < 1000000) ∧ 0 < (lwm at_ no k (i + 1) (flb (Rr (eW at_ no) (k + 1) i) a)).2.1 := fun h => by
      have h1 : bes (Rr (eW at_ no) (k + 1) i) a = Rr (eW at_ no) (k + 1) i (flb (Rr (eW at_ no) (k + 1) i) a) := rfl
      rw [h1, hR] at h
      have h2 := bes_bd hb1 (flb (Rr (eW at_ no) (k + 1) i) a)
      have h3 : flb (Rr (eW at_ no) (k + 1) i) a ≤ no ∧ at_ i (flb (Rr (eW at_ no) (k + 1) i) a) < 1000000 := by
        apply Classical.byContradiction
        intro hn
        rw [(he _).2 hn] at h
        omega
      have h4 : (0 : Int) ≤ eW at_ no i (flb (Rr (eW at_ no) (k + 1) i) a) := (ewF_bd _ _).1
      exact ⟨h3, (ih _).1.mpr (by omega)⟩
    have hle : 0 < (lwm at_ no (k + 1) i a).2.1 → bes (Rr (eW at_ no) (k + 1) i) a ≤ (k : Int) + 1 := fun h => by
      obtain ⟨o, h1, h2, h3, h4⟩ := caU_ex h
      have h5 := hcan o h1 h2 h3 h4
      have h6 := ((ih o).2 h4).2
      split at h5 <;> omega
    refine ⟨⟨fun h => by have := hle h; omega, fun h => ?_⟩, fun h => ⟨?_, by have := hle h; omega⟩⟩
    · have h1 := hfc h
      exact caU_Wp hW0 ⟨h1.1.2, hf.2, h1.2⟩ (no + 1) (by omega)
    · have hl := hle h
      have h1 := hfc (by omega)
      refine Int.le_antisymm ?_ ?_
      · refine caU_Mle (by omega) (no + 1) (fun o h2 h3 h4 h5 => ?_)
        have h6 := hcan o h2 h3 h4 h5
        have h7 := ((ih o).2 h5).1
        try dsimp only
        rw [h7]
        by_cases h8 : o = 0
        · rw [if_pos h8] at h6 ⊢
          omega
        · rw [if_neg h8] at h6 ⊢
          omega
      · have h2 := caU_Mge (at_ := at_ i) (Ln := fun o => (lwm at_ no k (i + 1) o).1) (Wn := fun o => (lwm at_ no k (i + 1) o).2.1) (Mn := fun o => (lwm at_ no k (i + 1) o).2.2) (a := a) ⟨h1.1.2, hf.2, h1.2⟩ (no + 1) (by omega)
        have h3 : (lwm at_ no k (i + 1) (flb (Rr (eW at_ no) (k + 1) i) a)).2.2 + (if flb (Rr (eW at_ no) (k + 1) i) a = 0 then 0 else 1) ≤ (lwm at_ no (k + 1) i a).2.2 := h2
        have h4 := ((ih (flb (Rr (eW at_ no) (k + 1) i) a)).2 h1.2).1
        have h5 : bes (Rr (eW at_ no) (k + 1) i) a = Rr (eW at_ no) (k + 1) i (flb (Rr (eW at_ no) (k + 1) i) a) := rfl
        rw [hR, (he _).1 h1.1] at h5
        have h6 := (bes_bd hb1 (flb (Rr (eW at_ no) (k + 1) i) a)).1
        have h7 := hl
        generalize flb (Rr (eW at_ no) (k + 1) i) a = f at h3 h4 h5 h6
        by_cases h8 : f = 0
        · rw [if_pos h8] at h3 h5
          omega
        · rw [if_neg h8] at h3 h5
          omega
/-! the number of choices -/
theorem sumU_mul (x : Int) (f : Nat → Int) : ∀ n, sumU (fun o => x * f o) n = x * sumU f n
  | 0 => (Int.mul_zero x).symm
  | n + 1 => by
    unfold sumU
    rw [sumU_mul x f n, Int.mul_add]
theorem sumU_sub (f g : Nat → Int) : ∀ n, sumU (fun o => f o - g o) n = sumU f n - sumU g n
  | 0 => rfl
  | n + 1 => by
    unfold sumU
    rw [sumU_sub f g n]
    omega
theorem sumU_ex (P : Nat → Prop) [DecidablePred P] (f : Nat → Int) (p : Nat) : ∀ n, sumU (fun o => if P o ∧ (o = 0 ∨ o ≠ p) then f o else 0) n = sumU (fun o => if P o then f o else 0) n - (if p < n ∧ p ≠ 0 ∧ P p then f p else 0)
  | 0 => by simp [sumU]
  | n + 1 => by
    unfold sumU
    rw [sumU_ex P f p n]
    by_cases e : p = n
    · subst e
      rw [if_neg (fun h => absurd h.1 (Nat.lt_irrefl _))]
      by_cases h0 : p = 0
      · subst h0
        by_cases hP : P 0
        · rw [if_pos ⟨hP, Or.inl rfl⟩, if_pos hP, if_neg (fun h => h.2.1 rfl)]
          omega
        · rw [if_neg (fun h => hP h.1), if_neg hP, if_neg (fun h => h.2.1 rfl)]
          omega
      · by_cases hP : P p
        · rw [if_neg (fun h => h.2.elim h0 (fun q => q rfl)), if_pos hP, if_pos ⟨Nat.lt_succ_self p, h0, hP⟩]
          omega
        · rw [if_neg (fun h => hP h.1), if_neg hP, if_neg (fun h => hP h.2.2)]
          omega
    · have h1 : (if P n ∧ (n = 0 ∨ n ≠ p) then f n else 0) = if P n then f n else 0 := by
        by_cases hP : P n
        · rw [if_pos ⟨hP, Or.inr (fun q => e q.symm)⟩, if_pos hP]
        · rw [if_neg (fun h => hP h.1), if_neg hP]
      have h2 : (if p < n ∧ p ≠ 0 ∧ P p then f p else 0) = if p < n + 1 ∧ p ≠ 0 ∧ P p then f p else 0 := by
        by_cases h : p < n ∧ p ≠ 0 ∧ P p
        · rw [if_pos h, if_pos ⟨by omega, h.2⟩]
        · rw [if_neg h, if_neg (fun q => h ⟨by omega, q.2⟩)]
      rw [h1, h2]
      omega
theorem sumU_nn {f : Nat → Int} (h : ∀ o, 0 ≤ f o) : ∀ n, 0 ≤ sumU f n
  | 0 => Int.le_refl 0
  | n + 1 => by
    have h1 := sumU_nn h n
    have h2 := h n
    unfold sumU
    omega
/-- how many choices there are for k gaps from the gap i on, beside a -/
def cN (w : Nat → Nat → Int) : Nat → Nat → Nat → Int
  | 0, _, _ => 1
  | k + 1, i, a => sumU (fun o => if w i o < 1000000 ∧ (o = 0 ∨ o ≠ a) then cN w k (i + 1) o else 0) 9
theorem cN_nn (w : Nat → Nat → Int) : ∀ k i a, 0 ≤ cN w k i a
  | 0, _, _ => by show (0 : Int) ≤ 1; decide
  | k + 1, i, a => sumU_nn (fun o => by (try dsimp only); split <;> first | exact cN_nn w k (i + 1) o | exact Int.le_refl 0) 9
theorem sumU_le {f : Nat → Int} {x : Int} (h : ∀ o, f o ≤ x) : ∀ n : Nat, sumU f n ≤ (n : Int) * x
  | 0 => by show (0 : Int) ≤ _; rw [show ((0 : Nat) : Int) = 0 from rfl, Int.zero_mul]; exact Int.le_refl 0
  | n + 1 => by
    have h1 := sumU_le h n
    have h2 := h n
    unfold sumU
    rw [show ((n + 1 : Nat) : Int) = (n : Int) + 1 from by omega, Int.add_mul]
    omega
def p9 : Nat → Int
  | 0 => 1
  | k + 1 => 9 * p9 k
theorem p9_1 : ∀ k, 1 ≤ p9 k
  | 0 => Int.le_refl 1
  | k + 1 => by
    have := p9_1 k
    unfold p9
    omega
theorem p9_mono : ∀ k, k ≤ 9 → p9 k ≤ 387420489 := by
  intro k hk
  rcases (by omega : k = 0 ∨ k = 1 ∨ k = 2 ∨ k = 3 ∨ k = 4 ∨ k = 5 ∨ k = 6 ∨ k = 7 ∨ k = 8 ∨ k = 9) with h | h | h | h | h | h | h | h | h | h <;> subst h <;> decide
theorem cN_le (w : Nat → Nat → Int) : ∀ k i a, cN w k i a ≤ p9 k
  | 0, _, _ => Int.le_refl 1
  | k + 1, i, a => by
    have h := sumU_le (f := fun o => if w i o < 1000000 ∧ (o = 0 ∨ o ≠ a) then cN w k (i + 1) o else 0) (x := p9 k) (fun o => by
      have h1 := cN_le w k (i + 1) o
      have h2 := p9_1 k
      try dsimp only
      split <;> omega) 9
    exact h
theorem sumU_cut {f : Nat → Int} {m : Nat} : ∀ n, m ≤ n → (∀ o, m ≤ o → o < n → f o = 0) → sumU f n = sumU f m
  | 0, h, _ => by rw [show m = 0 by omega]
  | n + 1, h, h0 => by
    by_cases e : m = n + 1
    · rw [e]
    · have h1 := sumU_cut n (by omega) (fun o h2 h3 => h0 o h2 (by omega))
      have h2 := h0 n (by omega) (by omega)
      have h3 : sumU f (n + 1) = sumU f n + f n := rfl
      omega
theorem caU_cnt {at_ Ln Wn Mn Nn : Nat → Int} {a : Nat} (hN : ∀ o, 0 ≤ Nn o) (hW : ∀ o, Wn o = min 500000000 (Nn o)) : ∀ n, (caU at_ Ln Wn Mn a n).2.1 = min 500000000 (sumU (fun o => if at_ o < 1000000 ∧ (o = 0 ∨ o ≠ a) then Nn o else 0) n)
  | 0 => by show (0 : Int) = min 500000000 0; decide
  | n + 1 => by
    have h1 := caU_cnt hN hW n (a := a) (Ln := Ln) (Mn := Mn) (at_ := at_)
    have h2 := hN n
    have h3 := hW n
    have h4 := sumU_nn (f := fun o => if at_ o < 1000000 ∧ (o = 0 ∨ o ≠ a) then Nn o else 0) (fun o => by (try dsimp only); split <;> first | exact hN o | exact Int.le_refl 0) n
    have h5 : sumU (fun o => if at_ o < 1000000 ∧ (o = 0 ∨ o ≠ a) then Nn o else 0) (n + 1) = sumU (fun o => if at_ o < 1000000 ∧ (o = 0 ∨ o ≠ a) then Nn o else 0) n + (if at_ n < 1000000 ∧ (n = 0 ∨ n ≠ a) then Nn n else 0) := rfl
    rw [h5]
    generalize sumU (fun o => if at_ o < 1000000 ∧ (o = 0 ∨ o ≠ a) then Nn o else 0) n = S at h1 h4
    unfold caU
    by_cases hc : at_ n < 1000000 ∧ (n = 0 ∨ n ≠ a)
    · rw [if_pos hc]
      by_cases hp : 0 < Wn n
      · rw [if_pos ⟨hc.1, hc.2, hp⟩]
        try dsimp only
        split <;> omega
      · rw [if_neg (fun h => hp h.2.2)]
        omega
    · rw [if_neg hc, if_neg (fun h => hc ⟨h.1, h.2.1⟩)]
      omega
theorem lwm_cnt {at_ : Nat → Nat → Int} {no : Nat} (hno : no ≤ 8) : ∀ k i a, (lwm at_ no k i a).2.1 = min 500000000 (cN (Wof at_ no) k i a)
  | 0, _, _ => by show (1 : Int) = min 500000000 1; decide
  | k + 1, i, a => by
    have h1 := caU_cnt (at_ := at_ i) (Ln := fun o => (lwm at_ no k (i + 1) o).1) (Wn := fun o => (lwm at_ no k (i + 1) o).2.1) (Mn := fun o => (lwm at_ no k (i + 1) o).2.2) (a := a) (Nn := fun o => cN (Wof at_ no) k (i + 1) o) (fun o => cN_nn _ _ _ _) (fun o => lwm_cnt hno k (i + 1) o) (no + 1)
    have h2 : cN (Wof at_ no) (k + 1) i a = sumU (fun o => if at_ i o < 1000000 ∧ (o = 0 ∨ o ≠ a) then cN (Wof at_ no) k (i + 1) o else 0) (no + 1) := by
      have h3 := sumU_cut (f := fun o => if Wof at_ no i o < 1000000 ∧ (o = 0 ∨ o ≠ a) then cN (Wof at_ no) k (i + 1) o else 0) (m := no + 1) 9 (by omega) (fun o h4 _ => if_neg (fun h => by have := (Wof_lt.mp h.1).1; omega))
      refine Eq.trans h3 (sumU_congr _ (fun o ho => ?_))
      by_cases hc : at_ i o < 1000000 ∧ (o = 0 ∨ o ≠ a)
      · rw [if_pos hc, if_pos ⟨Wof_lt.mpr ⟨by omega, hc.1⟩, hc.2⟩]
      · rw [if_neg hc, if_neg (fun h => hc ⟨(Wof_lt.mp h.1).2, h.2⟩)]
    rw [h2]
    exact h1
theorem cS_all (w : Nat → Nat → Int) : ∀ k, (cS w k).2 = sumU (cS w k).1 9
  | 0 => by
    show (1 : Int) = sumU (fun o => if o = 0 then 1 else 0) 9
    decide
  | k + 1 => rfl
theorem cS_cN {w : Nat → Nat → Int} {k : Nat} : ∀ j, j ≤ k → sumU (fun o => (cS w j).1 o * cN w (k - j) j o) 9 = cN w k 0 0
  | 0, _ => by
    have h : ∀ n, 1 ≤ n → sumU (fun o => (cS w 0).1 o * cN w (k - 0) 0 o) n = cN w k 0 0 := by
      intro n
      induction n with
      | zero => intro h; omega
      | succ n ih =>
        intro _
        show sumU _ n + (cS w 0).1 n * cN w (k - 0) 0 n = _
        by_cases e : n = 0
        · subst e
          show 0 + (1 : Int) * cN w k 0 0 = _
          omega
        · have h1 : (cS w 0).1 n = 0 := if_neg e
          rw [ih (by omega), h1, Int.zero_mul, Int.add_zero]
    exact h 9 (by omega)
  | j + 1, hj => by
    rw [← cS_cN j (by omega)]
    have e : k - j = (k - (j + 1)) + 1 := by omega
    rw [e]
    generalize k - (j + 1) = m
    have hl : ∀ o, (cS w (j + 1)).1 o * cN w m (j + 1) o = (cS w j).2 * (if w j o < 1000000 then cN w m (j + 1) o else 0) - (if o ≠ 0 ∧ w j o < 1000000 then (cS w j).1 o * cN w m (j + 1) o else 0) := by
      intro o
      have h1 : (cS w (j + 1)).1 o = if w j o < 1000000 then (cS w j).2 - (if o = 0 then 0 else (cS w j).1 o) else 0 := rfl
      rw [h1]
      by_cases hw : w j o < 1000000
      · rw [if_pos hw, if_pos hw]
        by_cases h0 : o = 0
        · rw [if_pos h0, if_neg (fun h => h.1 h0), Int.sub_zero, Int.sub_zero]
        · rw [if_neg h0, if_pos ⟨h0, hw⟩, Int.sub_mul]
      · rw [if_neg hw, if_neg hw, if_neg (fun h => hw h.2), Int.zero_mul, Int.mul_zero, Int.sub_zero]
    have hr : ∀ p, p < 9 → (cS w j).1 p * cN w (m + 1) j p = sumU (fun o => if w j o < 1000000 then cN w m (j + 1) o else 0) 9 * (cS w j).1 p - (if p ≠ 0 ∧ w j p < 1000000 then (cS w j).1 p * cN w m (j + 1) p else 0) := by
      intro p hp
      have h1 : cN w (m + 1) j p = sumU (fun o => if w j o < 1000000 then cN w m (j + 1) o else 0) 9 - (if p < 9 ∧ p ≠ 0 ∧ w j p < 1000000 then cN w m (j + 1) p else 0) := sumU_ex (fun o => w j o < 1000000) (fun o => cN w m (j + 1) o) p 9
      rw [h1, Int.mul_sub, Int.mul_comm]
      congr 1
      by_cases h : p ≠ 0 ∧ w j p < 1000000
      · rw [if_pos h, if_pos ⟨hp, h⟩]
      · rw [if_neg h, if_neg (fun q => h q.2), Int.mul_zero]
    rw [sumU_congr 9 (fun o _ => hl o), sumU_congr 9 hr, sumU_sub, sumU_sub, sumU_mul, sumU_mul, ← cS_all w j, Int.mul_comm]
/-- the class's number of choices -/
theorem cS_eq (w : Nat → Nat → Int) (k : Nat) : (cS w k).2 = cN w k 0 0 := by
  have h := cS_cN (w := w) (k := k) k (Nat.le_refl k)
  rw [Nat.sub_self] at h
  rw [cS_all, ← h]
  exact sumU_congr 9 (fun o _ => by
    show _ = (cS w k).1 o * 1
    rw [Int.mul_one])
