/-! OURS: which tunes have notes decides the orders: 16 cases, looked through -/
def mkm (m : Nat) : Nat → Nat := fun t => m / 2 ^ t % 2
def vl (nn : Nat → Nat) : List Nat := (List.range 256).filter (fun n => (loS nn (dgs n) 4).2.2 == 1)
def good1 (nn : Nat → Nat) : List Nat → Bool
  | [] => false
  | a :: l => chn (tC nn 4) (a :: l) && decide (l.length + 1 ≤ 24) && (List.range (tC nn 4)).all (fun j => (sO nn (fun _ => 0) 4).2 j == dgs a j) && (a :: l).all (fun n => (List.range (tC nn 4)).all (fun j => decide (0 < nn (dgs n j))) && (List.range 4).all (fun j => decide (j < tC nn 4) || nn (dgs n j) == 0))
theorem good_all : ∀ m, m < 16 → good1 (mkm m) (vl (mkm m)) = true := by decide +kernel
def bt1 (n : Nat) : Nat := if 0 < n then 1 else 0
def msk (nn : Nat → Nat) : Nat := bt1 (nn 0) + 2 * bt1 (nn 1) + 4 * bt1 (nn 2) + 8 * bt1 (nn 3)
theorem bt1_le (n : Nat) : bt1 n ≤ 1 ∧ (bt1 n = 0 ↔ n = 0) := by
  unfold bt1
  split <;> omega
theorem msk_lt (nn : Nat → Nat) : msk nn < 16 := by
  have h0 := bt1_le (nn 0)
  have h1 := bt1_le (nn 1)
  have h2 := bt1_le (nn 2)
  have h3 := bt1_le (nn 3)
  unfold msk
  omega
theorem msk_at (nn : Nat → Nat) (t : Nat) (ht : t < 4) : mkm (msk nn) t = 0 ↔ nn t = 0 := by
  have h0 := bt1_le (nn 0)
  have h1 := bt1_le (nn 1)
  have h2 := bt1_le (nn 2)
  have h3 := bt1_le (nn 3)
  rcases (by omega : t = 0 ∨ t = 1 ∨ t = 2 ∨ t = 3) with h | h | h | h <;> subst h
  · show (bt1 (nn 0) + 2 * bt1 (nn 1) + 4 * bt1 (nn 2) + 8 * bt1 (nn 3)) / 1 % 2 = 0 ↔ _
    omega
  · show (bt1 (nn 0) + 2 * bt1 (nn 1) + 4 * bt1 (nn 2) + 8 * bt1 (nn 3)) / 2 % 2 = 0 ↔ _
    omega
  · show (bt1 (nn 0) + 2 * bt1 (nn 1) + 4 * bt1 (nn 2) + 8 * bt1 (nn 3)) / 4 % 2 = 0 ↔ _
    omega
  · show (bt1 (nn 0) + 2 * bt1 (nn 1) + 4 * bt1 (nn 2) + 8 * bt1 (nn 3)) / 8 % 2 = 0 ↔ _
    omega
theorem sO_congr {nn nn' od : Nat → Nat} : ∀ t, (∀ u, u < t → (nn u = 0 ↔ nn' u = 0)) → sO nn od t = sO nn' od t
  | 0, _ => rfl
  | t + 1, h => by
    have h1 := sO_congr t (fun u hu => h u (by omega)) (od := od)
    have h2 := h t (by omega)
    unfold sO
    rw [h1]
    by_cases q : 0 < nn t
    · rw [if_pos q, if_pos (by omega)]
    · rw [if_neg q, if_neg (by omega)]
theorem tC_congr {nn nn' : Nat → Nat} : ∀ t, (∀ u, u < t → (nn u = 0 ↔ nn' u = 0)) → tC nn t = tC nn' t
  | 0, _ => rfl
  | t + 1, h => by
    have h1 := tC_congr t (fun u hu => h u (by omega))
    have h2 := h t (by omega)
    unfold tC
    rw [h1]
    by_cases q : 0 < nn t
    · rw [if_pos q, if_pos (by omega)]
    · rw [if_neg q, if_neg (by omega)]
theorem loS_congr {nn nn' od : Nat → Nat} (h : ∀ u, u < 4 → (nn u = 0 ↔ nn' u = 0)) (hod : ∀ j, od j < 4) : ∀ p, loS nn od p = loS nn' od p
  | 0 => rfl
  | p + 1 => by
    have h1 := loS_congr h hod p
    have h2 : (nn (od p) = 0) = (nn' (od p) = 0) := propext (h _ (hod p))
    unfold loS
    rw [h1]
    simp only [h2]
theorem sO_ag (nn od od' : Nat → Nat) : ∀ t, (sO nn od t).1 = (sO nn od' t).1 ∧ agr (sO nn od t).1 (sO nn od t).2 (sO nn od' t).2
  | 0 => ⟨rfl, fun j hj => absurd hj (Nat.not_lt_zero j)⟩
  | t + 1 => by
    have h := sO_ag nn od od' t
    unfold sO
    by_cases q : 0 < nn t
    · rw [if_pos q, if_pos q]
      refine ⟨by show _ + 1 = _ + 1; rw [h.1], fun j hj => ?_⟩
      show upN _ _ _ j = upN _ _ _ j
      unfold upN
      have hj2 : j < (sO nn od t).1 + 1 := hj
      rw [← h.1]
      by_cases e : j = (sO nn od t).1
      · rw [if_pos e, if_pos e]
      · rw [if_neg e, if_neg e]
        exact h.2 j (by omega)
    · rw [if_neg q, if_neg q]
      exact h
theorem sO_tC (nn od : Nat → Nat) : ∀ t, (sO nn od t).1 = tC nn t
  | 0 => rfl
  | t + 1 => by
    have h := sO_tC nn od t
    unfold sO tC
    by_cases q : 0 < nn t
    · rw [if_pos q, if_pos q, ← h]
    · rw [if_neg q, if_neg q, ← h]
      rfl
theorem vl_congr {nn nn' : Nat → Nat} (h : ∀ u, u < 4 → (nn u = 0 ↔ nn' u = 0)) : vl nn = vl nn' := by
  unfold vl
  congr 1
  funext n
  rw [loS_congr h (dgs_lt n)]
/-- what the looking through gives -/
theorem vl_good (nn : Nat → Nat) : ∃ a l, vl nn = a :: l ∧ chn (tC nn 4) (a :: l) = true ∧ l.length + 1 ≤ 24 ∧ (∀ od, agr (tC nn 4) (sO nn od 4).2 (dgs a)) ∧ ∀ n ∈ a :: l, (∀ j, j < tC nn 4 → 0 < nn (dgs n j)) ∧ ∀ j, tC nn 4 ≤ j → j < 4 → nn (dgs n j) = 0 := by
  have hm := fun u hu => (msk_at nn u hu).symm
  have h := good_all (msk nn) (msk_lt nn)
  have e1 := vl_congr hm
  have e2 := tC_congr 4 hm
  have e3 := fun od => sO_congr (od := od) 4 hm
  rw [← e1] at h
  cases hv : vl nn with
  | nil =>
    rw [hv] at h
    exact absurd (show false = true from h) (by decide)
  | cons a l =>
    rw [hv] at h
    unfold good1 at h
    rw [← e2] at h
    simp only [Bool.and_eq_true, decide_eq_true_eq, List.all_eq_true, List.mem_range, beq_iff_eq, Bool.or_eq_true] at h
    obtain ⟨⟨⟨h1, h2⟩, h3⟩, h4⟩ := h
    refine ⟨a, l, rfl, h1, h2, fun od j hj => ?_, fun n hn => ⟨fun j hj => ?_, fun j hj hj4 => ?_⟩⟩
    · have h5 := h3 j hj
      rw [← e3] at h5
      have h6 := (sO_ag nn od (fun _ => 0) 4).2 j (by rw [sO_tC]; exact hj)
      rw [h6, h5]
    · have h5 := (h4 n hn).1 j hj
      have h6 := hm (dgs n j) (dgs_lt n j)
      omega
    · have h5 := (h4 n hn).2 j hj4
      have h6 := hm (dgs n j) (dgs_lt n j)
      rcases h5 with h5 | h5
      · omega
      · exact h6.mpr h5
theorem foldl_mem {α β : Type} {f g : β → α → β} : ∀ (l : List α) (s : β), (∀ n ∈ l, ∀ s, f s n = g s n) → l.foldl f s = l.foldl g s
  | [], _, _ => rfl
  | a :: l, s, h => by
    show l.foldl f (f s a) = l.foldl g (g s a)
    rw [h a (List.mem_cons_self ..) s]
    exact foldl_mem l (g s a) (fun n hn => h n (List.mem_cons_of_mem _ hn))
section SVX
variable {lim : Int} {no : Nat} {gn : Nat → Nat} {gg : Nat → Nat → Nat} {nn : Nat → Nat} {pt ln : Nat → Nat → Nat} {wi : Nat → Nat → Int}
abbrev CoS (lim : Int) (no : Nat) (gn : Nat → Nat) (gg : Nat → Nat → Nat) (nn : Nat → Nat) (pt ln : Nat → Nat → Nat) (wi : Nat → Nat → Int) : (Nat → Nat) → Int := fun o => lessOf (cOF nn (cwT lim no gn gg nn pt ln wi) (jwT lim no gn gg nn pt ln) o (tC nn 4))
theorem goF_fold {bo : Nat → Int} : ∀ k, goF lim no gn gg nn pt ln wi bo k = (List.range k).foldl (fun s n => if ((loS nn (dgs n) 4).2.2 == 1) = true then (if 0 < (RVv lim no gn gg nn pt ln wi (dgs n)).2.1 then s.1 + 1 else s.1, if 0 < (RVv lim no gn gg nn pt ln wi (dgs n)).2.1 ∧ (RVv lim no gn gg nn pt ln wi (dgs n)).1 < s.2.1 then (RVv lim no gn gg nn pt ln wi (dgs n)).1 else s.2.1, if 0 < (RVv lim no gn gg nn pt ln wi (dgs n)).2.1 ∧ (RVv lim no gn gg nn pt ln wi (dgs n)).1 < s.2.1 then (fun j => (dgs n j : Int)) else s.2.2) else s) ((0, 1000000, bo) : Int × Int × (Nat → Int))
  | 0 => rfl
  | k + 1 => by
    rw [List.range_succ, List.foldl_append, ← goF_fold k]
    have e : goF lim no gn gg nn pt ln wi bo (k + 1) = (fun (s : Int × Int × (Nat → Int)) => if (loS nn (dgs k) 4).2.2 = 1 then (if 0 < (RVv lim no gn gg nn pt ln wi (dgs k)).2.1 then s.1 + 1 else s.1, if 0 < (RVv lim no gn gg nn pt ln wi (dgs k)).2.1 ∧ (RVv lim no gn gg nn pt ln wi (dgs k)).1 < s.2.1 then (RVv lim no gn gg nn pt ln wi (dgs k)).1 else s.2.1, if 0 < (RVv lim no gn gg nn pt ln wi (dgs k)).2.1 ∧ (RVv lim no gn gg nn pt ln wi (dgs k)).1 < s.2.1 then (fun j => (dgs k j : Int)) else s.2.2) else s) (goF lim no gn gg nn pt ln wi bo k) := rfl
    rw [e]
    generalize goF lim no gn gg nn pt ln wi bo k = s
    simp only [List.foldl_cons, List.foldl_nil]
    by_cases q : (loS nn (dgs k) 4).2.2 = 1
    · rw [if_pos q, if_pos (beq_iff_eq.mpr q)]
    · rw [if_neg q, if_neg (fun h => q (beq_iff_eq.mp h))]
theorem goF_up (hOV : OV no gn gg) (hU : TusV nn pt ln wi) {bo : Nat → Int} : goF lim no gn gg nn pt ln wi bo 256 = (vl nn).foldl (upG (fun n => CoS lim no gn gg nn pt ln wi (dgs n))) (0, 1000000, bo) := by
  obtain ⟨a, l, hv, -, -, -, hne⟩ := vl_good nn
  rw [goF_fold]
  have h1 := List.foldl_filter (p := fun n => (loS nn (dgs n) 4).2.2 == 1) (f := fun (s : Int × Int × (Nat → Int)) n => (if 0 < (RVv lim no gn gg nn pt ln wi (dgs n)).2.1 then s.1 + 1 else s.1, if 0 < (RVv lim no gn gg nn pt ln wi (dgs n)).2.1 ∧ (RVv lim no gn gg nn pt ln wi (dgs n)).1 < s.2.1 then (RVv lim no gn gg nn pt ln wi (dgs n)).1 else s.2.1, if 0 < (RVv lim no gn gg nn pt ln wi (dgs n)).2.1 ∧ (RVv lim no gn gg nn pt ln wi (dgs n)).1 < s.2.1 then (fun j => (dgs n j : Int)) else s.2.2)) (l := List.range 256) (init := ((0, 1000000, bo) : Int × Int × (Nat → Int)))
  refine Eq.trans h1.symm ?_
  show (vl nn).foldl _ _ = _
  refine foldl_mem _ _ (fun n hn s => ?_)
  have h2 := hne n (by rw [← hv]; exact hn)
  have h3 := RV_least (lim := lim) (pt := pt) (ln := ln) (wi := wi) hOV hU (od := dgs n) (fun j _ => dgs_lt n j) (tC_le nn 4) h2.1 h2.2
  have h4 : (0 < (RVv lim no gn gg nn pt ln wi (dgs n)).2.1) = ((RVv lim no gn gg nn pt ln wi (dgs n)).1 < 1000000) := propext h3.2
  show _ = upG _ s n
  unfold upG
  simp only [h4, h3.1]
theorem upG_inv {L : Nat → Int} : ∀ (l : List Nat) (s : Int × Int × (Nat → Int)), 0 ≤ s.1 → s.2.1 ≤ 1000000 → (0 < s.1 ↔ s.2.1 < 1000000) → s.1 ≤ (l.foldl (upG L) s).1 ∧ (l.foldl (upG L) s).1 ≤ s.1 + l.length ∧ (l.foldl (upG L) s).2.1 ≤ 1000000 ∧ (0 < (l.foldl (upG L) s).1 ↔ (l.foldl (upG L) s).2.1 < 1000000)
  | [], s, h0, h1, h2 => ⟨Int.le_refl _, by show s.1 ≤ s.1 + 0; omega, h1, h2⟩
  | a :: l, s, h0, h1, h2 => by
    have e1 : (upG L s a).1 = if L a < 1000000 then s.1 + 1 else s.1 := rfl
    have e2 : (upG L s a).2.1 = if L a < 1000000 ∧ L a < s.2.1 then L a else s.2.1 := rfl
    have h3 : 0 ≤ (upG L s a).1 ∧ s.1 ≤ (upG L s a).1 ∧ (upG L s a).1 ≤ s.1 + 1 ∧ (upG L s a).2.1 ≤ 1000000 ∧ (0 < (upG L s a).1 ↔ (upG L s a).2.1 < 1000000) := by
      rw [e1, e2]
      by_cases q : L a < 1000000
      · rw [if_pos q]
        by_cases q2 : L a < s.2.1
        · rw [if_pos ⟨q, q2⟩]
          omega
        · rw [if_neg (fun h => q2 h.2)]
          omega
      · rw [if_neg q, if_neg (fun h => q h.1)]
        omega
    have h4 := upG_inv (L := L) l (upG L s a) h3.1 h3.2.2.2.1 h3.2.2.2.2
    show s.1 ≤ (l.foldl (upG L) (upG L s a)).1 ∧ (l.foldl (upG L) (upG L s a)).1 ≤ s.1 + ((l.length + 1 : Nat) : Int) ∧ (l.foldl (upG L) (upG L s a)).2.1 ≤ 1000000 ∧ (0 < (l.foldl (upG L) (upG L s a)).1 ↔ (l.foldl (upG L) (upG L s a)).2.1 < 1000000)
    omega
/-- both searches say the same -/
theorem S_set (hOV : OV no gn gg) (hU : TusV nn pt ln wi) (bo : Nat → Int) : SetV lim no gn gg nn pt ln wi (goF lim no gn gg nn pt ln wi bo 256).1 (goF lim no gn gg nn pt ln wi bo 256).2.1 (fun j => ((goF lim no gn gg nn pt ln wi bo 256).2.2 j).toNat) ∧ (0 < (goF lim no gn gg nn pt ln wi bo 256).1 ↔ (goF lim no gn gg nn pt ln wi bo 256).2.1 < 1000000) ∧ (0 < (goF lim no gn gg nn pt ln wi bo 256).1 → ∀ j, j < tC nn 4 → 0 ≤ (goF lim no gn gg nn pt ln wi bo 256).2.2 j) := by
  obtain ⟨a, l, hv, hch, hlen, hag, -⟩ := vl_good nn
  have hup := goF_up (lim := lim) hOV hU (bo := bo)
  rw [hv] at hup
  have hinv := upG_inv (L := fun n => CoS lim no gn gg nn pt ln wi (dgs n)) (a :: l) (0, 1000000, bo) (Int.le_refl 0) (Int.le_refl _) ⟨fun h => absurd (show (0 : Int) < 0 from h) (by decide), fun h => absurd (show (1000000 : Int) < 1000000 from h) (by decide)⟩
  rw [← hup] at hinv
  have hrun : ∀ od bt : Nat → Nat, (tAs lim no gn gg nn pt ln wi od bt).1 = (goF lim no gn gg nn pt ln wi bo 256).1 ∧ (tAs lim no gn gg nn pt ln wi od bt).2.1 = (goF lim no gn gg nn pt ln wi bo 256).2.1 ∧ ((tAs lim no gn gg nn pt ln wi od bt).2.1 < 1000000 → ∀ j, j < tC nn 4 → ((tAs lim no gn gg nn pt ln wi od bt).2.2.2.1 j : Int) = (goF lim no gn gg nn pt ln wi bo 256).2.2 j) := by
    intro od bt
    have h1 := itA_run (m := tC nn 4) (Co := CoS lim no gn gg nn pt ln wi) (fun o o' h => by
      show lessOf _ = lessOf _
      rw [cOF_congr h (tC nn 4) (Nat.le_refl _)]) (24 - (l.length + 1)) l a 0 1000000 (sO nn od 4).2 bt bo hch (hag od) (Int.le_refl _) (fun h => absurd h (by decide))
    rw [← hup, show l.length + 1 + (24 - (l.length + 1)) = 24 from by omega, ← tA_it] at h1
    unfold tAs
    rw [sO_tC]
    exact h1
  have hl : ((a :: l).length : Int) ≤ 24 := by
    show ((l.length + 1 : Nat) : Int) ≤ 24
    omega
  have h0 := hinv.1
  have h00 : (0 : Int) ≤ (goF lim no gn gg nn pt ln wi bo 256).1 := h0
  have h24 : (goF lim no gn gg nn pt ln wi bo 256).1 ≤ 0 + ((a :: l).length : Int) := hinv.2.1
  refine ⟨⟨⟨h00, by omega⟩, fun od bt => ⟨sO_tC nn od 4, (hrun od bt).1, fun hp => ⟨(hrun od bt).2.1, fun j hj => ?_⟩⟩⟩, hinv.2.2.2, fun hp j hj => ?_⟩
  · have h := (hrun od bt).2.2 (by rw [(hrun od bt).2.1]; exact hinv.2.2.2.mp hp) j hj
    show _ = ((goF lim no gn gg nn pt ln wi bo 256).2.2 j).toNat
    rw [← h]
    exact (Int.toNat_natCast _).symm
  · have h := (hrun (fun _ => 0) (fun _ => 0)).2.2 (by rw [(hrun _ _).2.1]; exact hinv.2.2.2.mp hp) j hj
    omega
end SVX
