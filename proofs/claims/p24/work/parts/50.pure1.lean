/-! OURS: the class's rows and the model's count say the same -/
def bes (g : Nat → Int) (a : Nat) : Int := g (flb g a)
theorem flb_ok (g : Nat → Int) (a : Nat) : flb g a < 9 ∧ (flb g a = 0 ∨ flb g a ≠ a) := ⟨flb_lt g a, (flbU_lt g a 9).2⟩
theorem bes_le {g : Nat → Int} {a o : Nat} (ho : o < 9) (ha : o = 0 ∨ o ≠ a) : bes g a ≤ g o := flb_min a o 9 ho ha
theorem bes_all {g : Nat → Int} {o : Nat} (ho : o < 9) : bes g 0 ≤ g o := bes_le ho (by omega)
theorem growF_eq (g v : Nat → Int) (o : Nat) : growF g v o = min 1000000 (bes g o + v o) := by
  unfold growF
  by_cases h : o = flb g 0
  · rw [if_pos h]
    rw [← h]
    rfl
  · rw [if_neg h]
    have h1 := flb_ok g 0
    have h2 := flb_ok g o
    have h3 : bes g o ≤ g (flb g 0) := bes_le h1.1 (Or.inr (fun e => h e.symm))
    have h4 : bes g 0 ≤ bes g o := bes_all h2.1
    have h5 : g (flb g 0) = bes g o := by
      unfold bes at h3 h4 ⊢
      omega
    rw [h5]
theorem flb_first {g : Nat → Int} (a o : Nat) : ∀ n, o < flbU g a n → (o = 0 ∨ o ≠ a) → g (flbU g a n) < g o
  | 0, h, _ => absurd h (Nat.not_lt_zero _)
  | n + 1, h, ho => by
    unfold flbU at h ⊢
    split at h
    · rename_i hc
      rw [if_pos hc]
      have := flb_min (g := g) a o n (by omega) ho
      omega
    · rename_i hc
      rw [if_neg hc]
      exact flb_first a o n h ho
theorem bes_bd {g : Nat → Int} (h : ∀ j, j < 9 → 0 ≤ g j ∧ g j ≤ 1000000) (a : Nat) : 0 ≤ bes g a ∧ bes g a ≤ 1000000 := h _ (flb_lt g a)
theorem bes_start (a : Nat) : bes startF a = 0 := by
  have h1 := bes_le (g := startF) (a := a) (o := 0) (by omega) (Or.inl rfl)
  have h2 := (bes_bd startF_bd a).1
  have h3 : startF 0 = 0 := rfl
  omega
theorem growF_b (g v : Nat → Int) : ∀ o, growF g v o = min 1000000 (bes g o + v o) := growF_eq g v
theorem Rr_succ (w : Nat → Nat → Int) (k i o : Nat) : Rr w (k + 1) i o = min 1000000 (bes (Rr w k (i + 1)) o + w i o) := growF_eq _ _ o
/-! the model's count -/
theorem caU_le {at_ Ln Wn Mn : Nat → Int} {a o : Nat} (hc : at_ o < 1000000 ∧ (o = 0 ∨ o ≠ a) ∧ 0 < Wn o) : ∀ n, o < n → (caU at_ Ln Wn Mn a n).1 ≤ at_ o + Ln o
  | 0, h => absurd h (Nat.not_lt_zero _)
  | n + 1, h => by
    by_cases e : o = n
    · subst e
      unfold caU
      rw [if_pos hc]
      dsimp only
      split <;> omega
    · have h1 := caU_le hc n (by omega) (Ln := Ln) (Mn := Mn)
      unfold caU
      split
      · dsimp only
        split <;> omega
      · exact h1
theorem caU_ge {at_ Ln Wn Mn : Nat → Int} {a : Nat} {x : Int} (hx : x ≤ 1000000) : ∀ n, (∀ o, o < n → at_ o < 1000000 → (o = 0 ∨ o ≠ a) → 0 < Wn o → x ≤ at_ o + Ln o) → x ≤ (caU at_ Ln Wn Mn a n).1
  | 0, _ => hx
  | n + 1, h => by
    have h1 := caU_ge hx n (fun o ho => h o (by omega)) (a := a) (Ln := Ln) (Wn := Wn) (Mn := Mn) (at_ := at_)
    unfold caU
    split
    · rename_i hc
      have := h n (by omega) hc.1 hc.2.1 hc.2.2
      dsimp only
      split <;> omega
    · exact h1
theorem caU_W {at_ Ln Wn Mn : Nat → Int} {a : Nat} (hW : ∀ o, 0 ≤ Wn o) : ∀ n, 0 ≤ (caU at_ Ln Wn Mn a n).2.1 ∧ ((caU at_ Ln Wn Mn a n).2.1 = 0 → (caU at_ Ln Wn Mn a n).1 = 1000000)
  | 0 => ⟨Int.le_refl 0, fun _ => rfl⟩
  | n + 1 => by
    have h1 := caU_W hW n (a := a) (Ln := Ln) (Wn := Wn) (Mn := Mn) (at_ := at_)
    unfold caU
    split
    · rename_i hc
      have := hc.2.2
      dsimp only
      refine ⟨?_, fun h => ?_⟩
      · split <;> omega
      · split at h <;> omega
    · exact h1
theorem caU_Wp {at_ Ln Wn Mn : Nat → Int} {a o : Nat} (hW : ∀ o, 0 ≤ Wn o) (hc : at_ o < 1000000 ∧ (o = 0 ∨ o ≠ a) ∧ 0 < Wn o) : ∀ n, o < n → 0 < (caU at_ Ln Wn Mn a n).2.1
  | 0, h => absurd h (Nat.not_lt_zero _)
  | n + 1, h => by
    have h0 := (caU_W hW n (a := a) (Ln := Ln) (Mn := Mn) (at_ := at_)).1
    by_cases e : o = n
    · subst e
      have := hc.2.2
      unfold caU
      rw [if_pos hc]
      dsimp only
      split <;> omega
    · have h1 := caU_Wp hW hc n (by omega) (Ln := Ln) (Mn := Mn)
      unfold caU
      split
      · rename_i hc2
        have := hc2.2.2
        dsimp only
        split <;> omega
      · exact h1
theorem caU_Mge {at_ Ln Wn Mn : Nat → Int} {a o : Nat} (hc : at_ o < 1000000 ∧ (o = 0 ∨ o ≠ a) ∧ 0 < Wn o) : ∀ n, o < n → Mn o + (if o = 0 then 0 else 1) ≤ (caU at_ Ln Wn Mn a n).2.2
  | 0, h => absurd h (Nat.not_lt_zero _)
  | n + 1, h => by
    by_cases e : o = n
    · subst e
      unfold caU
      rw [if_pos hc]
      dsimp only
      split <;> omega
    · have h1 := caU_Mge hc n (by omega) (Ln := Ln) (Mn := Mn)
      generalize (if o = 0 then (0 : Int) else 1) = z at h1 ⊢
      unfold caU
      by_cases hc2 : at_ n < 1000000 ∧ (n = 0 ∨ n ≠ a) ∧ 0 < Wn n
      · rw [if_pos hc2]
        dsimp only
        generalize (if n = 0 then (0 : Int) else 1) = z2
        split <;> omega
      · rw [if_neg hc2]
        exact h1
theorem caU_Mle {at_ Ln Wn Mn : Nat → Int} {a : Nat} {x : Int} (hx : -1000000 ≤ x) : ∀ n, (∀ o, o < n → at_ o < 1000000 → (o = 0 ∨ o ≠ a) → 0 < Wn o → Mn o + (if o = 0 then 0 else 1) ≤ x) → (caU at_ Ln Wn Mn a n).2.2 ≤ x
  | 0, _ => hx
  | n + 1, h => by
    have h1 := caU_Mle hx n (fun o ho => h o (by omega)) (a := a) (Ln := Ln) (Wn := Wn) (Mn := Mn) (at_ := at_)
    unfold caU
    by_cases hc : at_ n < 1000000 ∧ (n = 0 ∨ n ≠ a) ∧ 0 < Wn n
    · rw [if_pos hc]
      have h2 := h n (by omega) hc.1 hc.2.1 hc.2.2
      dsimp only
      generalize (if n = 0 then (0 : Int) else 1) = z2 at h2 ⊢
      split <;> omega
    · rw [if_neg hc]
      exact h1
/-- the gaps' costs of both sides -/
def Wof (at_ : Nat → Nat → Int) (no : Nat) : Nat → Nat → Int := fun i o => if o ≤ no then min 1000000 (at_ i o) else 1000000
theorem Wof_bd {at_ : Nat → Nat → Int} {no i : Nat} (h : ∀ o, o ≤ no → 0 ≤ at_ i o) (o : Nat) : 0 ≤ Wof at_ no i o ∧ Wof at_ no i o ≤ 1000000 := by
  unfold Wof
  split
  · have := h o (by omega)
    omega
  · omega
/-- the gaps i .. i + k - 1 have costs that may be -/
def okA (at_ : Nat → Nat → Int) (no i k : Nat) : Prop := ∀ j o, i ≤ j → j < i + k → o ≤ no → 0 ≤ at_ j o ∧ (at_ j o < 1000000 → at_ j o ≤ 40)
theorem okA.tl {at_ : Nat → Nat → Int} {no i k : Nat} (h : okA at_ no i (k + 1)) : okA at_ no (i + 1) k := fun j o h1 h2 h3 => h j o (by omega) (by omega) h3
theorem Rr_bdk {w : Nat → Nat → Int} : ∀ k i, (∀ j, i ≤ j → j < i + k → ∀ o, o < 9 → 0 ≤ w j o ∧ w j o ≤ 1000000) → ∀ o, o < 9 → 0 ≤ Rr w k i o ∧ Rr w k i o ≤ 1000000
  | 0, _, _ => startF_bd
  | k + 1, i, h => growF_bd (Rr_bdk k (i + 1) (fun j h1 h2 => h j (by omega) (by omega))) (h i (by omega) (by omega))
theorem RrW_bd {at_ : Nat → Nat → Int} {no k i : Nat} (h : okA at_ no i k) : ∀ o, o < 9 → 0 ≤ Rr (Wof at_ no) k i o ∧ Rr (Wof at_ no) k i o ≤ 1000000 := Rr_bdk k i (fun j h1 h2 o _ => Wof_bd (fun o ho => (h j o h1 h2 ho).1) o)
theorem lwm_W {at_ : Nat → Nat → Int} {no : Nat} : ∀ k i a, 0 ≤ (lwm at_ no k i a).2.1 ∧ ((lwm at_ no k i a).2.1 = 0 → (lwm at_ no k i a).1 = 1000000)
  | 0, _, _ => ⟨by show (0 : Int) ≤ 1; decide, fun h => absurd h (by show ¬ (1 : Int) = 0; decide)⟩
  | k + 1, i, a => caU_W (fun o => (lwm_W k (i + 1) o).1) (no + 1)
theorem lwm_pos {at_ : Nat → Nat → Int} {no k i a : Nat} (h : okA at_ no i k) (hk : k ≤ 40) : 0 < (lwm at_ no k i a).2.1 ↔ (lwm at_ no k i a).1 < 1000000 := by
  have h1 := lwm_W (at_ := at_) (no := no) k i a
  refine ⟨fun hW => ?_, fun hL => ?_⟩
  · have := lwm_40 k i a (fun j o h2 h3 h4 => (h j o h2 h3 h4).2) hW
    omega
  · rcases Int.lt_or_le 0 (lwm at_ no k i a).2.1 with h2 | h2
    · exact h2
    · have := h1.2 (by omega)
      omega
/-- the least cost -/
theorem lwm_bes {at_ : Nat → Nat → Int} {no : Nat} (hno : no ≤ 8) : ∀ k i a, k ≤ 40 → okA at_ no i k → (lwm at_ no k i a).1 = bes (Rr (Wof at_ no) k i) a
  | 0, i, a, _, _ => (bes_start a).symm
  | k + 1, i, a, hk, h => by
    have ih := fun o => lwm_bes hno k (i + 1) o (by omega) h.tl
    have hb := RrW_bd h
    have hb1 := RrW_bd h.tl
    have hps := fun o => lwm_pos (a := o) h.tl (by omega)
    have hR : ∀ o, Rr (Wof at_ no) (k + 1) i o = min 1000000 ((lwm at_ no k (i + 1) o).1 + Wof at_ no i o) := fun o => by rw [Rr_succ, ih o]
    have hL0 : ∀ o, 0 ≤ (lwm at_ no k (i + 1) o).1 := fun o => by rw [ih o]; exact (bes_bd hb1 o).1
    refine Int.le_antisymm ?_ ?_
    · have hf := flb_ok (Rr (Wof at_ no) (k + 1) i) a
      show _ ≤ Rr (Wof at_ no) (k + 1) i (flb (Rr (Wof at_ no) (k + 1) i) a)
      generalize flb (Rr (Wof at_ no) (k + 1) i) a = f at hf
      rw [hR f]
      have hF : (lwm at_ no (k + 1) i a).1 ≤ 1000000 := (lwm_bd (k + 1) i a (fun j o h1 h2 h3 => (h j o h1 h2 h3).1)).2.1
      have hWb := Wof_bd (at_ := at_) (no := no) (i := i) (fun o ho => (h i o (by omega) (by omega) ho).1) f
      by_cases hc : (f ≤ no ∧ at_ i f < 1000000) ∧ (lwm at_ no k (i + 1) f).1 < 1000000
      · have h1 := caU_le (at_ := at_ i) (Ln := fun o => (lwm at_ no k (i + 1) o).1) (Wn := fun o => (lwm at_ no k (i + 1) o).2.1) (Mn := fun o => (lwm at_ no k (i + 1) o).2.2) (a := a) (o := f) ⟨hc.1.2, hf.2, (hps f).mpr hc.2⟩ (no + 1) (by omega)
        have h2 : (lwm at_ no (k + 1) i a).1 ≤ at_ i f + (lwm at_ no k (i + 1) f).1 := h1
        have h3 := (h i f (by omega) (by omega) hc.1.1).1
        have h4 : Wof at_ no i f = at_ i f := by
          unfold Wof
          rw [if_pos hc.1.1]
          omega
        omega
      · have h5 := hL0 f
        have h6 : 1000000 ≤ (lwm at_ no k (i + 1) f).1 + Wof at_ no i f := by
          unfold Wof at hWb ⊢
          split at hWb <;> rename_i h7
          · rw [if_pos h7]
            omega
          · rw [if_neg h7]
            omega
        omega
    · refine caU_ge (bes_bd hb a).2 (no + 1) (fun o ho h1 h2 h3 => ?_)
      have h4 := bes_le (g := Rr (Wof at_ no) (k + 1) i) (a := a) (o := o) (by omega) h2
      rw [hR o] at h4
      have h5 : Wof at_ no i o ≤ at_ i o := by
        unfold Wof
        rw [if_pos (by omega)]
        omega
      omega
