/-! OURS: what fits together, of a tune -/
theorem sumU_pos {f : Nat → Int} (h : ∀ o, 0 ≤ f o) {o : Nat} (ho : 1 ≤ f o) : ∀ n, o < n → 1 ≤ sumU f n
  | 0, h9 => absurd h9 (Nat.not_lt_zero _)
  | n + 1, h9 => by
    have h1 := sumU_nn h n
    have h2 := h n
    unfold sumU
    by_cases e : o = n
    · subst e
      omega
    · have := sumU_pos h ho n (by omega)
      omega
theorem sumU_one {f : Nat → Int} (h : ∀ o, 0 ≤ f o) {o : Nat} : ∀ n, o < n → f o ≤ sumU f n
  | 0, h9 => absurd h9 (Nat.not_lt_zero _)
  | n + 1, h9 => by
    have h1 := sumU_nn h n
    have h2 := h n
    unfold sumU
    by_cases e : o = n
    · subst e
      omega
    · have := sumU_one h n (show o < n by omega)
      omega
theorem less_start : lessOf startF = 0 := bes_start 0
theorem avC : ∀ c : Nat, c < 361 → ∀ g : Nat, g < 9 → Op.cmpValue (FP.fcmp (FP.fdiv (FP.i2f (zI (c : Int))) (FP.i2f (zI ((g + 1 : Nat) : Int)))) (FP.fdiv (FP.i2f (zI (c : Int))) (FP.i2f (zI ((g + 1 : Nat) : Int))))) .l = zI 0 := by decide +kernel
theorem avC0 : Op.cmpValue (FP.fcmp FP.fconst0 FP.fconst0) .l = zI 0 := by decide +kernel
section UTX
variable {lim : Int} {no : Nat} {gn : Nat → Nat} {gg : Nat → Nat → Nat} {nn : Nat → Nat} {pt ln : Nat → Nat → Nat} {wi : Nat → Nat → Int}
/-- a tune's least cost, its number of choices, the options of its first choice, the most ornaments -/
abbrev uLS (lim : Int) (no : Nat) (gn : Nat → Nat) (gg : Nat → Nat → Nat) (nn : Nat → Nat) (pt ln : Nat → Nat → Nat) (wi : Nat → Nat → Int) (t : Nat) : Int := lessOf (Rr (cwT lim no gn gg nn pt ln wi t) (nn t - 1) 0)
abbrev uCN (lim : Int) (no : Nat) (gn : Nat → Nat) (gg : Nat → Nat → Nat) (nn : Nat → Nat) (pt ln : Nat → Nat → Nat) (wi : Nat → Nat → Int) (t : Nat) : Int := (cS (cwT lim no gn gg nn pt ln wi t) (nn t - 1)).2
abbrev uMO (lim : Int) (no : Nat) (gn : Nat → Nat) (gg : Nat → Nat → Nat) (nn : Nat → Nat) (pt ln : Nat → Nat → Nat) (wi : Nat → Nat → Int) (t : Nat) : Int := ((nn t - 1 : Nat) : Int) - lessOf (Fr (fun i => ewF (cwT lim no gn gg nn pt ln wi t i)) (nn t - 1))
/-- how many of the first gaps are filled -/
abbrev uFL (lim : Int) (no : Nat) (gn : Nat → Nat) (gg : Nat → Nat → Nat) (nn : Nat → Nat) (pt ln : Nat → Nat → Nat) (wi : Nat → Nat → Int) (t : Nat) : Nat → Int := sumU (fun i => if chT lim no gn gg nn pt ln wi t (i + 1) = 0 then 0 else 1)
theorem U_cnt (hOV : OV no gn gg) (hU : TusV nn pt ln wi) {t : Nat} (ht : t < 4) : (0 ≤ uCN lim no gn gg nn pt ln wi t ∧ uCN lim no gn gg nn pt ln wi t ≤ 500000000) ∧ (uCN lim no gn gg nn pt ln wi t = 0 ↔ ¬ uLS lim no gn gg nn pt ln wi t < 1000000) ∧ (uLS lim no gn gg nn pt ln wi t < 1000000 → 0 < (TV lim no gn gg (nn t) (pt t) (ln t) (wi t)).2.1) := by
  have h1 := T_count (lim := lim) hOV hU ht
  have h2 := T_pos (lim := lim) hOV hU ht
  have h3 := T_least (lim := lim) hOV hU ht
  have h4 := TV_bd (lim := lim) hOV (hU t ht)
  show (0 ≤ (cS (cwT lim no gn gg nn pt ln wi t) (nn t - 1)).2 ∧ (cS (cwT lim no gn gg nn pt ln wi t) (nn t - 1)).2 ≤ 500000000) ∧ ((cS (cwT lim no gn gg nn pt ln wi t) (nn t - 1)).2 = 0 ↔ ¬ lessOf (Rr (cwT lim no gn gg nn pt ln wi t) (nn t - 1) 0) < 1000000) ∧ (lessOf (Rr (cwT lim no gn gg nn pt ln wi t) (nn t - 1) 0) < 1000000 → _)
  rw [h1, h3]
  omega
theorem U_least (hOV : OV no gn gg) (hU : TusV nn pt ln wi) {t : Nat} (ht : t < 4) : 0 ≤ uLS lim no gn gg nn pt ln wi t ∧ uLS lim no gn gg nn pt ln wi t ≤ 1000000 ∧ (uLS lim no gn gg nn pt ln wi t < 1000000 → uLS lim no gn gg nn pt ln wi t < 361) := by
  have h2 := T_pos (lim := lim) hOV hU ht
  have h3 := T_least (lim := lim) hOV hU ht
  have h4 := TV_bd (lim := lim) hOV (hU t ht)
  have h10 := (hU t ht).1
  show 0 ≤ lessOf (Rr (cwT lim no gn gg nn pt ln wi t) (nn t - 1) 0) ∧ lessOf (Rr (cwT lim no gn gg nn pt ln wi t) (nn t - 1) 0) ≤ 1000000 ∧ (lessOf (Rr (cwT lim no gn gg nn pt ln wi t) (nn t - 1) 0) < 1000000 → lessOf (Rr (cwT lim no gn gg nn pt ln wi t) (nn t - 1) 0) < 361)
  rw [h3]
  refine ⟨h4.1, h4.2.1, fun h => ?_⟩
  have := h4.2.2.2.2.2.2 (h2.mpr h)
  omega
theorem U_few {t : Nat} (h : nn t - 1 = 0) : uLS lim no gn gg nn pt ln wi t = 0 ∧ uCN lim no gn gg nn pt ln wi t = 1 := by
  show lessOf (Rr (cwT lim no gn gg nn pt ln wi t) (nn t - 1) 0) = 0 ∧ (cS (cwT lim no gn gg nn pt ln wi t) (nn t - 1)).2 = 1
  rw [h]
  exact ⟨less_start, rfl⟩
theorem U_ch (hOV : OV no gn gg) (hU : TusV nn pt ln wi) {t i : Nat} (ht : t < 4) (hi : i + 1 < nn t) (hW : 0 < (TV lim no gn gg (nn t) (pt t) (ln t) (wi t)).2.1) : chT lim no gn gg nn pt ln wi t (i + 1) ≤ no ∧ (chT lim no gn gg nn pt ln wi t (i + 1) = 0 ∨ chT lim no gn gg nn pt ln wi t (i + 1) ≠ chT lim no gn gg nn pt ln wi t i) ∧ cwT lim no gn gg nn pt ln wi t i (chT lim no gn gg nn pt ln wi t (i + 1)) < 1000000 := by
  obtain ⟨h1, h2, h3, -⟩ := T_chosen (lim := lim) hOV hU ht hi hW
  refine ⟨h2, h3.1, ?_⟩
  have h := T_chs (lim := lim) hOV hU ht hW i (by omega)
  have h4 : bes (Rr (cwT lim no gn gg nn pt ln wi t) (nn t - 1 - i) i) (chT lim no gn gg nn pt ln wi t i) = Rr (cwT lim no gn gg nn pt ln wi t) (nn t - 1 - i) i (chT lim no gn gg nn pt ln wi t (i + 1)) := rfl
  rw [h4, show nn t - 1 - i = (nn t - 1 - (i + 1)) + 1 from by omega, Rr_succ] at h
  have h5 := bes_bd (Rr_bdk (w := cwT lim no gn gg nn pt ln wi t) (nn t - 1 - (i + 1)) (i + 1) (fun j _ _ o _ => cwT_bd hOV hU t j o)) (chT lim no gn gg nn pt ln wi t (i + 1))
  omega
/-- how many fit at a gap -/
abbrev uFT (lim : Int) (no : Nat) (gn : Nat → Nat) (gg : Nat → Nat → Nat) (nn : Nat → Nat) (pt ln : Nat → Nat → Nat) (wi : Nat → Nat → Int) (t i : Nat) : Int := sumU (fun o => if (cwT lim no gn gg nn pt ln wi t) i (o + 1) < 1000000 then 1 else 0) 8
theorem U_fit (hOV : OV no gn gg) (hU : TusV nn pt ln wi) {t i : Nat} (ht : t < 4) (hi : i + 1 < nn t) : 0 ≤ uFT lim no gn gg nn pt ln wi t i ∧ uFT lim no gn gg nn pt ln wi t i ≤ (no : Int) ∧ ∀ o, 1 ≤ o → o ≤ no → cwT lim no gn gg nn pt ln wi t i o < 1000000 → 1 ≤ uFT lim no gn gg nn pt ln wi t i := by
  have h01 : ∀ o, (0 : Int) ≤ (if (cwT lim no gn gg nn pt ln wi t) i (o + 1) < 1000000 then (1 : Int) else 0) ∧ (if (cwT lim no gn gg nn pt ln wi t) i (o + 1) < 1000000 then (1 : Int) else 0) ≤ 1 := fun o => by split <;> decide
  refine ⟨sumU_nn (fun o => (h01 o).1) 8, ?_, fun o h1 h2 h3 => ?_⟩
  · have e := T_fit (lim := lim) hOV hU ht hi
    have h := (sumU_01 (f := fun o => if atT lim gn gg nn pt ln wi t i (o + 1) < 1000000 then 1 else 0) (fun o => by (try dsimp only); split <;> decide) no).2
    rw [← e] at h
    exact h
  · have h8 := hOV.1
    refine sumU_pos (f := fun o => if (cwT lim no gn gg nn pt ln wi t) i (o + 1) < 1000000 then 1 else 0) (fun o => (h01 o).1) (o := o - 1) ?_ 8 (by omega)
    show (1 : Int) ≤ if (cwT lim no gn gg nn pt ln wi t) i (o - 1 + 1) < 1000000 then 1 else 0
    rw [show o - 1 + 1 = o from by omega, if_pos h3]
    decide
theorem U_time (hOV : OV no gn gg) (hU : TusV nn pt ln wi) {t i o : Nat} (ht : t < 4) (hi : i + 1 < nn t) (ho : o ≤ no) (hw : cwT lim no gn gg nn pt ln wi t i o < 1000000) : 1 ≤ (ln t i : Int) - (graN no gn o : Int) ∧ (ln t i : Int) - (graN no gn o : Int) ≤ 32 := by
  have h1 := (hU t ht).2.1 i (by omega)
  rw [T_gra ho]
  by_cases e : o = 0
  · rw [if_pos e]
    omega
  · rw [if_neg e]
    unfold cwT at hw
    rw [if_pos ⟨ht, hi⟩] at hw
    unfold gapC at hw
    rw [if_neg e, if_pos (by omega)] at hw
    unfold orC at hw
    by_cases q : ln t i ≤ gn (o - 1)
    · rw [if_pos q] at hw
      omega
    · omega
theorem U_most (hOV : OV no gn gg) (hU : TusV nn pt ln wi) {t : Nat} (ht : t < 4) (hW : 0 < (TV lim no gn gg (nn t) (pt t) (ln t) (wi t)).2.1) : uFL lim no gn gg nn pt ln wi t (nn t - 1) ≤ uMO lim no gn gg nn pt ln wi t ∧ uMO lim no gn gg nn pt ln wi t ≤ ((nn t - 1 : Nat) : Int) := by
  have hE : ∀ i o, 0 ≤ ewF (cwT lim no gn gg nn pt ln wi t i) o ∧ ewF (cwT lim no gn gg nn pt ln wi t i) o ≤ 1000000 := fun i o => ewF_bd _ o
  have key : ∀ d, d ≤ nn t - 1 → bes (Rr (fun i => ewF (cwT lim no gn gg nn pt ln wi t i)) d (nn t - 1 - d)) (chT lim no gn gg nn pt ln wi t (nn t - 1 - d)) + (uFL lim no gn gg nn pt ln wi t (nn t - 1) - uFL lim no gn gg nn pt ln wi t (nn t - 1 - d)) ≤ (d : Int) := by
    intro d
    induction d with
    | zero =>
      intro _
      have h1 : bes (Rr (fun i => ewF (cwT lim no gn gg nn pt ln wi t i)) 0 (nn t - 1 - 0)) (chT lim no gn gg nn pt ln wi t (nn t - 1 - 0)) = 0 := bes_start _
      rw [h1, Nat.sub_zero]
      omega
    | succ d ih =>
      intro hd
      have ih := ih (by omega)
      have e : nn t - 1 - d = (nn t - 1 - (d + 1)) + 1 := by omega
      rw [e] at ih
      generalize hi9 : nn t - 1 - (d + 1) = i at ih ⊢
      have hi : i + 1 < nn t := by omega
      obtain ⟨c1, c2, c3⟩ := U_ch (lim := lim) hOV hU ht hi hW
      have hno := hOV.1
      have hb := bes_le (g := Rr (fun i => ewF (cwT lim no gn gg nn pt ln wi t i)) (d + 1) i) (a := chT lim no gn gg nn pt ln wi t i) (o := chT lim no gn gg nn pt ln wi t (i + 1)) (by omega) c2
      rw [Rr_succ] at hb
      have hw : ewF (cwT lim no gn gg nn pt ln wi t i) (chT lim no gn gg nn pt ln wi t (i + 1)) = if chT lim no gn gg nn pt ln wi t (i + 1) = 0 then 1 else 0 := by
        unfold ewF
        rw [if_pos c3]
      have hF : uFL lim no gn gg nn pt ln wi t (i + 1) = uFL lim no gn gg nn pt ln wi t i + (if chT lim no gn gg nn pt ln wi t (i + 1) = 0 then 0 else 1) := rfl
      rw [hF] at ih
      have hb2 : bes (Rr (fun i => ewF (cwT lim no gn gg nn pt ln wi t i)) (d + 1) i) (chT lim no gn gg nn pt ln wi t i) ≤ bes (Rr (fun i => ewF (cwT lim no gn gg nn pt ln wi t i)) d (i + 1)) (chT lim no gn gg nn pt ln wi t (i + 1)) + (if chT lim no gn gg nn pt ln wi t (i + 1) = 0 then 1 else 0) := by
        rw [← hw]
        exact Int.le_trans hb (Int.min_le_right _ _)
      by_cases q : chT lim no gn gg nn pt ln wi t (i + 1) = 0
      · rw [if_pos q] at hb2 ih
        omega
      · rw [if_neg q] at hb2 ih
        omega
  have h1 := key (nn t - 1) (Nat.le_refl _)
  rw [Nat.sub_self] at h1
  have h0 : uFL lim no gn gg nn pt ln wi t 0 = 0 := rfl
  have hc0 : chT lim no gn gg nn pt ln wi t 0 = 0 := rfl
  rw [h0, hc0] at h1
  have h2 := fwd_bwd (w := fun i => ewF (cwT lim no gn gg nn pt ln wi t i)) (k := nn t - 1) (fun i _ o _ => hE i o)
  have h3 := (bes_bd (Rr_bdk (w := fun i => ewF (cwT lim no gn gg nn pt ln wi t i)) (nn t - 1) 0 (fun j _ _ o _ => hE j o)) 0).1
  show _ ≤ ((nn t - 1 : Nat) : Int) - lessOf (Fr (fun i => ewF (cwT lim no gn gg nn pt ln wi t i)) (nn t - 1)) ∧ ((nn t - 1 : Nat) : Int) - lessOf (Fr (fun i => ewF (cwT lim no gn gg nn pt ln wi t i)) (nn t - 1)) ≤ _
  rw [h2]
  omega
theorem U_FL (t : Nat) : ∀ g, 0 ≤ uFL lim no gn gg nn pt ln wi t g ∧ uFL lim no gn gg nn pt ln wi t g ≤ (g : Int) := fun g => sumU_01 (f := fun i => if chT lim no gn gg nn pt ln wi t (i + 1) = 0 then 0 else 1) (fun o => by (try dsimp only); split <;> decide) g
theorem U_av (hOV : OV no gn gg) (hU : TusV nn pt ln wi) {t : Nat} (ht : t < 4) (hlt : uLS lim no gn gg nn pt ln wi t < 1000000) (h2 : 2 ≤ nn t) : vf_n32 (FP.fdiv (FP.i2f (zI (uLS lim no gn gg nn pt ln wi t))) (FP.i2f (zI ((nn t : Int) - 1)))) ∧ Op.cmpValue (FP.fcmp (FP.fdiv (FP.i2f (zI (uLS lim no gn gg nn pt ln wi t))) (FP.i2f (zI ((nn t : Int) - 1)))) (FP.fdiv (FP.i2f (zI (uLS lim no gn gg nn pt ln wi t))) (FP.i2f (zI ((nn t : Int) - 1))))) .l = zI 0 := by
  have hL := U_least (lim := lim) hOV hU ht
  have h10 := (hU t ht).1
  have h9 := hL.2.2 hlt
  generalize uLS lim no gn gg nn pt ln wi t = z at hL h9
  have e1 : z = ((z.toNat : Nat) : Int) := by omega
  have e2 : (nn t : Int) - 1 = ((nn t - 2 + 1 : Nat) : Int) := by omega
  rw [e1, e2]
  exact ⟨avN z.toNat (by omega) (nn t - 2) (by omega), avC z.toNat (by omega) (nn t - 2) (by omega)⟩
end UTX
