/-! OURS: a laid order and the class's rows -/
section RCX
variable {lim : Int} {no : Nat} {gn : Nat → Nat} {gg : Nat → Nat → Nat} {nn : Nat → Nat} {pt ln : Nat → Nat → Nat} {wi : Nat → Nat → Int} {od : Nat → Nat}
theorem rc_pre {p : Nat} : ∀ d, (rc nn pt ln wi od p).1 ≤ (rc nn pt ln wi od (p + d)).1 ∧ ∀ i, i < (rc nn pt ln wi od p).1 → (rc nn pt ln wi od (p + d)).2.1 i = (rc nn pt ln wi od p).2.1 i ∧ (rc nn pt ln wi od (p + d)).2.2.1 i = (rc nn pt ln wi od p).2.2.1 i ∧ (rc nn pt ln wi od (p + d)).2.2.2 i = (rc nn pt ln wi od p).2.2.2 i
  | 0 => ⟨Nat.le_refl _, fun _ _ => ⟨rfl, rfl, rfl⟩⟩
  | d + 1 => by
    have h := rc_pre (p := p) d
    refine ⟨Nat.le_trans h.1 (Nat.le_add_right _ _), fun i hi => ?_⟩
    have h2 := h.2 i hi
    have hlt : i < (rc nn pt ln wi od (p + d)).1 := Nat.lt_of_lt_of_le hi h.1
    refine ⟨Eq.trans (if_pos hlt) h2.1, Eq.trans (if_pos hlt) h2.2.1, Eq.trans (if_pos hlt) h2.2.2⟩
theorem rc_at {p i : Nat} (hp : p < 4) (hi : i < nn (od p)) : (rc nn pt ln wi od p).1 + i < (rc nn pt ln wi od 4).1 ∧ (rc nn pt ln wi od 4).2.1 ((rc nn pt ln wi od p).1 + i) = pt (od p) i ∧ (rc nn pt ln wi od 4).2.2.1 ((rc nn pt ln wi od p).1 + i) = ln (od p) i ∧ (rc nn pt ln wi od 4).2.2.2 ((rc nn pt ln wi od p).1 + i) = if i + 1 < nn (od p) then wi (od p) i else 0 := by
  have h := rc_pre (nn := nn) (pt := pt) (ln := ln) (wi := wi) (od := od) (p := p + 1) (4 - (p + 1))
  rw [show p + 1 + (4 - (p + 1)) = 4 from by omega] at h
  have hr : (rc nn pt ln wi od (p + 1)).1 = (rc nn pt ln wi od p).1 + nn (od p) := rfl
  have h2 := h.2 ((rc nn pt ln wi od p).1 + i) (by omega)
  have hn : ¬ (rc nn pt ln wi od p).1 + i < (rc nn pt ln wi od p).1 := by omega
  have he : (rc nn pt ln wi od p).1 + i - (rc nn pt ln wi od p).1 = i := by omega
  refine ⟨by have := h.1; omega, h2.1.trans ?_, h2.2.1.trans ?_, h2.2.2.trans ?_⟩
  · show apN _ _ _ _ = _
    unfold apN
    rw [if_neg hn, he]
  · show apN _ _ _ _ = _
    unfold apN
    rw [if_neg hn, he]
  · show apN (rc nn pt ln wi od p).1 (rc nn pt ln wi od p).2.2.2 (fun i => if i + 1 < nn (od p) then wi (od p) i else 0) ((rc nn pt ln wi od p).1 + i) = _
    unfold apN
    rw [if_neg hn, he]
/-- what the model asks for over a laid order -/
abbrev atR (lim : Int) (gn : Nat → Nat) (gg : Nat → Nat → Nat) (nn : Nat → Nat) (pt ln : Nat → Nat → Nat) (wi : Nat → Nat → Int) (od : Nat → Nat) : Nat → Nat → Int := atc lim gn gg (rc nn pt ln wi od 4).2.1 (rc nn pt ln wi od 4).2.2.1 (rc nn pt ln wi od 4).2.2.2
theorem W_in (hOV : OV no gn gg) (hU : TusV nn pt ln wi) {p i : Nat} (hp : p < 4) (ho4 : od p < 4) (hi : i + 1 < nn (od p)) (o : Nat) : Wof (atR lim gn gg nn pt ln wi od) no ((rc nn pt ln wi od p).1 + i) o = cwT lim no gn gg nn pt ln wi (od p) i o := by
  have h1 := rc_at (pt := pt) (ln := ln) (wi := wi) hp (show i < nn (od p) by omega)
  have h2 := rc_at (pt := pt) (ln := ln) (wi := wi) hp (show i + 1 < nn (od p) by omega)
  have hx := ((hU (od p) ho4).2.1 i (by omega)).1
  have hy := ((hU (od p) ho4).2.1 (i + 1) hi).1
  have e : (rc nn pt ln wi od p).1 + i + 1 = (rc nn pt ln wi od p).1 + (i + 1) := by omega
  rw [W_gapC hOV (by rw [h1.2.1]; exact hx) (by rw [e, h2.2.1]; exact hy), e, h1.2.1, h1.2.2.1, h1.2.2.2, h2.2.1, if_pos hi]
  exact (if_pos ⟨ho4, hi⟩).symm
theorem W_join (hOV : OV no gn gg) (hU : TusV nn pt ln wi) {p : Nat} (hp : p + 1 < 4) (ho4 : od p < 4) (ho5 : od (p + 1) < 4) (h0 : 0 < nn (od p)) (h1 : 0 < nn (od (p + 1))) (o : Nat) : Wof (atR lim gn gg nn pt ln wi od) no ((rc nn pt ln wi od (p + 1)).1 - 1) o = jwT lim no gn gg nn pt ln (od p) (od (p + 1)) o := by
  have hr : (rc nn pt ln wi od (p + 1)).1 = (rc nn pt ln wi od p).1 + nn (od p) := rfl
  have q1 := rc_at (pt := pt) (ln := ln) (wi := wi) (show p < 4 by omega) (show nn (od p) - 1 < nn (od p) by omega)
  have q2 := rc_at (pt := pt) (ln := ln) (wi := wi) hp h1
  have hx := ((hU (od p) ho4).2.1 (nn (od p) - 1) (by omega)).1
  have hy := ((hU (od (p + 1)) ho5).2.1 0 h1).1
  have e1 : (rc nn pt ln wi od (p + 1)).1 - 1 = (rc nn pt ln wi od p).1 + (nn (od p) - 1) := by omega
  have e2 : (rc nn pt ln wi od p).1 + (nn (od p) - 1) + 1 = (rc nn pt ln wi od (p + 1)).1 + 0 := by omega
  rw [e1, W_gapC hOV (by rw [q1.2.1]; exact hx) (by rw [e2, q2.2.1]; exact hy), e2, q1.2.1, q1.2.2.1, q1.2.2.2, q2.2.1, if_neg (by omega)]
  exact (if_pos ⟨ho4, ho5, h0, h1⟩).symm
theorem Fr_pl (hOV : OV no gn gg) (hU : TusV nn pt ln wi) {p : Nat} (hp : p < 4) (ho4 : od p < 4) {base : Nat → Int} (hb : ∀ o, o < 9 → Fr (Wof (atR lim gn gg nn pt ln wi od) no) (rc nn pt ln wi od p).1 o = base o) : ∀ k, k + 1 ≤ nn (od p) → ∀ o, o < 9 → Fr (Wof (atR lim gn gg nn pt ln wi od) no) ((rc nn pt ln wi od p).1 + k) o = plF (cwT lim no gn gg nn pt ln wi (od p)) base k o
  | 0, _, o, ho => hb o ho
  | k + 1, hk, o, ho => growF_congr (Fr_pl hOV hU hp ho4 hb k (by omega)) (W_in hOV hU hp ho4 (by omega) o)
theorem Fr_cOF (hOV : OV no gn gg) (hU : TusV nn pt ln wi) (hod : ∀ j, j < 4 → od j < 4) {m : Nat} (hm : m ≤ 4) (hne : ∀ j, j < m → 0 < nn (od j)) : ∀ p, p ≤ m → ∀ o, o < 9 → Fr (Wof (atR lim gn gg nn pt ln wi od) no) ((rc nn pt ln wi od p).1 - 1) o = cOF nn (cwT lim no gn gg nn pt ln wi) (jwT lim no gn gg nn pt ln) od p o
  | 0, _, _, _ => rfl
  | p + 1, hp, o, ho => by
    have ih := Fr_cOF hOV hU hod hm hne p (by omega)
    have h0 := hne p (by omega)
    have hr : (rc nn pt ln wi od (p + 1)).1 = (rc nn pt ln wi od p).1 + nn (od p) := rfl
    have e : (rc nn pt ln wi od (p + 1)).1 - 1 = (rc nn pt ln wi od p).1 + (nn (od p) - 1) := by omega
    rw [e]
    refine Fr_pl hOV hU (by omega) (hod p (by omega)) (fun o ho => ?_) (nn (od p) - 1) (by omega) o ho
    by_cases q : p = 0
    · subst q
      rw [if_pos rfl]
      exact ih o ho
    · rw [if_neg q]
      obtain ⟨p', rfl⟩ : ∃ p', p = p' + 1 := ⟨p - 1, by omega⟩
      have hr2 : (rc nn pt ln wi od (p' + 1)).1 = (rc nn pt ln wi od p').1 + nn (od p') := rfl
      have h1 := hne p' (by omega)
      have e2 : (rc nn pt ln wi od (p' + 1)).1 = ((rc nn pt ln wi od (p' + 1)).1 - 1) + 1 := by omega
      have e3 : Fr (Wof (atR lim gn gg nn pt ln wi od) no) (rc nn pt ln wi od (p' + 1)).1 o = Fr (Wof (atR lim gn gg nn pt ln wi od) no) (((rc nn pt ln wi od (p' + 1)).1 - 1) + 1) o := by rw [← e2]
      rw [e3]
      exact growF_congr ih (W_join hOV hU (by omega) (hod p' (by omega)) (hod (p' + 1) (by omega)) h1 h0 o)
theorem rc_rest {m : Nat} (hz : ∀ j, m ≤ j → j < 4 → nn (od j) = 0) : ∀ d, m + d ≤ 4 → (rc nn pt ln wi od (m + d)).1 = (rc nn pt ln wi od m).1
  | 0, _ => rfl
  | d + 1, h => by
    have h1 := rc_rest hz d (by omega)
    have h2 := hz (m + d) (by omega) (by omega)
    show (rc nn pt ln wi od (m + d)).1 + nn (od (m + d)) = _
    omega
/-- a laid order's least cost -/
theorem RV_least (hOV : OV no gn gg) (hU : TusV nn pt ln wi) (hod : ∀ j, j < 4 → od j < 4) {m : Nat} (hm : m ≤ 4) (hne : ∀ j, j < m → 0 < nn (od j)) (hz : ∀ j, m ≤ j → j < 4 → nn (od j) = 0) : (RVv lim no gn gg nn pt ln wi od).1 = lessOf (cOF nn (cwT lim no gn gg nn pt ln wi) (jwT lim no gn gg nn pt ln) od m) ∧ (0 < (RVv lim no gn gg nn pt ln wi od).2.1 ↔ (RVv lim no gn gg nn pt ln wi od).1 < 1000000) := by
  have hV := rc_V hU 4 hod
  have hR : RowV (rc nn pt ln wi od 4).1 (rc nn pt ln wi od 4).2.1 (rc nn pt ln wi od 4).2.2.1 (rc nn pt ln wi od 4).2.2.2 := ⟨by omega, hV.2⟩
  have hok : okA (atR lim gn gg nn pt ln wi od) no 0 ((rc nn pt ln wi od 4).1 - 1) := fun j o h1 h2 h3 => atc_bd hOV hR (by omega) h3
  have h1 := lwm_bes (at_ := atR lim gn gg nn pt ln wi od) hOV.1 ((rc nn pt ln wi od 4).1 - 1) 0 0 (by omega) hok
  have h2 := fwd_bwd (w := Wof (atR lim gn gg nn pt ln wi od) no) (k := (rc nn pt ln wi od 4).1 - 1) (fun i hi o _ => Wof_bd (fun o ho => (hok i o (by omega) (by omega) ho).1) o)
  have h3 := rc_rest (pt := pt) (ln := ln) (wi := wi) hz (4 - m) (by omega)
  rw [show m + (4 - m) = 4 from by omega] at h3
  have h4 := bes_congr (Fr_cOF (lim := lim) hOV hU hod hm hne m (Nat.le_refl m)) 0
  refine ⟨?_, lwm_pos hok (by omega)⟩
  have h5 : (RVv lim no gn gg nn pt ln wi od).1 = bes (Rr (Wof (atR lim gn gg nn pt ln wi od) no) ((rc nn pt ln wi od 4).1 - 1) 0) 0 := h1
  rw [h5, ← h2, h3]
  exact h4
end RCX
/-! orders that agree below m -/
def agr (m : Nat) (od od' : Nat → Nat) : Prop := ∀ j, j < m → od j = od' j
theorem cOF_congr {nn : Nat → Nat} {cw jw : Nat → Nat → Nat → Int} {od od' : Nat → Nat} {m : Nat} (h : agr m od od') : ∀ p, p ≤ m → cOF nn cw jw od p = cOF nn cw jw od' p
  | 0, _ => rfl
  | p + 1, hp => by
    have h1 := cOF_congr h p (by omega) (nn := nn) (cw := cw) (jw := jw)
    unfold cOF
    rw [h1, h p (by omega)]
    by_cases q : p = 0
    · rw [if_pos q, if_pos q]
    · rw [if_neg q, if_neg q, h (p - 1) (by omega)]
theorem tnF_congr {od od' : Nat → Nat} {m : Nat} (h : agr m od od') : ∀ k, k < m → tnF od k = tnF od' k
  | 0, _ => rfl
  | k + 1, hk => by
    unfold tnF
    rw [h (k + 1) hk, h k (by omega), tnF_congr h k (by omega)]
theorem nxF_congr {od od' : Nat → Nat} {m t : Nat} (h : agr m od od') (ht : t < m) : ∀ k, k < m → nxF od t k = nxF od' t k
  | 0, _ => rfl
  | k + 1, hk => by
    unfold nxF
    rw [h (k + 1) hk, h t ht, nxF_congr h ht k (by omega)]
theorem exF_congr {od od' : Nat → Nat} {m a b : Nat} (h : agr m od od') (ha : a < m) (hb : b < m) : agr m (exF od a b) (exF od' a b) := fun j hj => by
  unfold exF
  rw [h a ha, h b hb, h j hj]
theorem rvF_congr {m : Nat} : ∀ k {od od' : Nat → Nat} (a b : Nat), agr m od od' → b < m → agr m (rvF k od a b) (rvF k od' a b)
  | 0, _, _, _, _, h, _ => h
  | k + 1, od, od', a, b, h, hb => by
    unfold rvF
    by_cases q : a < b
    · rw [if_pos q, if_pos q]
      exact rvF_congr k (a + 1) (b - 1) (exF_congr h (by omega) hb) (by omega)
    · rw [if_neg q, if_neg q]
      exact h
theorem nxO_congr {od od' : Nat → Nat} {m : Nat} (h : agr m od od') : agr m (nxO m od) (nxO m od') := by
  by_cases hm : m = 0
  · intro j hj
    omega
  · have h1 := tnF_congr h (m - 1) (by omega)
    have h2 := tnF_le od' (m - 1)
    unfold nxO
    rw [h1]
    by_cases q : tnF od' (m - 1) = 0
    · rw [if_pos q, if_pos q]
      exact h
    · rw [if_neg q, if_neg q, nxF_congr h (by omega) (m - 1) (by omega)]
      have h3 := nxF_le od' (tnF od' (m - 1) - 1) (m - 1)
      exact rvF_congr 4 _ _ (exF_congr h (by omega) (by omega)) (by omega)
/-! the class's search as a fold over a chain of numbers -/
def stA (m : Nat) (Co : (Nat → Nat) → Int) (s : Int × Int × (Nat → Nat) × (Nat → Nat) × Bool) : Int × Int × (Nat → Nat) × (Nat → Nat) × Bool :=
  if s.2.2.2.2 = true then
    (if Co s.2.2.1 < 1000000 then s.1 + 1 else s.1, if Co s.2.2.1 < 1000000 ∧ Co s.2.2.1 < s.2.1 then Co s.2.2.1 else s.2.1, nxO m s.2.2.1, if Co s.2.2.1 < 1000000 ∧ Co s.2.2.1 < s.2.1 then (fun j => if j < m then s.2.2.1 j else s.2.2.2.1 j) else s.2.2.2.1, decide (tnF s.2.2.1 (m - 1) ≠ 0))
  else s
def itA (m : Nat) (Co : (Nat → Nat) → Int) : Nat → Int × Int × (Nat → Nat) × (Nat → Nat) × Bool → Int × Int × (Nat → Nat) × (Nat → Nat) × Bool
  | 0, s => s
  | k + 1, s => itA m Co k (stA m Co s)
theorem itA_last (m : Nat) (Co : (Nat → Nat) → Int) : ∀ k s, itA m Co (k + 1) s = stA m Co (itA m Co k s)
  | 0, _ => rfl
  | k + 1, s => itA_last m Co k (stA m Co s)
theorem tA_it (m : Nat) (Co : (Nat → Nat) → Int) (od bt : Nat → Nat) : ∀ k, tA m Co od bt k = itA m Co k (0, 1000000, od, bt, true)
  | 0 => rfl
  | k + 1 => by
    rw [itA_last, ← tA_it m Co od bt k]
    rfl
theorem itA_end (m : Nat) (Co : (Nat → Nat) → Int) {s : Int × Int × (Nat → Nat) × (Nat → Nat) × Bool} (h : s.2.2.2.2 = false) : ∀ k, itA m Co k s = s
  | 0 => rfl
  | k + 1 => by
    have h1 : stA m Co s = s := by
      unfold stA
      rw [if_neg (by rw [h]; decide)]
    show itA m Co k (stA m Co s) = s
    rw [h1]
    exact itA_end m Co h k
def chn (m : Nat) : List Nat → Bool
  | [] => true
  | [a] => tnF (dgs a) (m - 1) == 0
  | a :: b :: l => tnF (dgs a) (m - 1) != 0 && (List.range m).all (fun j => nxO m (dgs a) j == dgs b j) && chn m (b :: l)
/-- one number of the model's -/
def upG (L : Nat → Int) (s : Int × Int × (Nat → Int)) (n : Nat) : Int × Int × (Nat → Int) := (if L n < 1000000 then s.1 + 1 else s.1, if L n < 1000000 ∧ L n < s.2.1 then L n else s.2.1, if L n < 1000000 ∧ L n < s.2.1 then (fun j => (dgs n j : Int)) else s.2.2)
theorem itA_run {m : Nat} {Co : (Nat → Nat) → Int} (hCo : ∀ od od', agr m od od' → Co od = Co od') (e : Nat) : ∀ (l : List Nat) (a : Nat) (c le : Int) (od bt : Nat → Nat) (g : Nat → Int), chn m (a :: l) = true → agr m od (dgs a) → le ≤ 1000000 → (le < 1000000 → ∀ j, j < m → (bt j : Int) = g j) →
    (itA m Co (l.length + 1 + e) (c, le, od, bt, true)).1 = ((a :: l).foldl (upG (fun n => Co (dgs n))) (c, le, g)).1 ∧ (itA m Co (l.length + 1 + e) (c, le, od, bt, true)).2.1 = ((a :: l).foldl (upG (fun n => Co (dgs n))) (c, le, g)).2.1 ∧
    ((itA m Co (l.length + 1 + e) (c, le, od, bt, true)).2.1 < 1000000 → ∀ j, j < m → ((itA m Co (l.length + 1 + e) (c, le, od, bt, true)).2.2.2.1 j : Int) = ((a :: l).foldl (upG (fun n => Co (dgs n))) (c, le, g)).2.2 j) := by
  intro l
  induction l with
  | nil =>
    intro a c le od bt g hch hag hle hg
    have hC := hCo _ _ hag
    have ht : tnF od (m - 1) = 0 := by
      have h1 : tnF (dgs a) (m - 1) = 0 := by simpa [chn] using hch
      by_cases hm : m = 0
      · subst hm; rfl
      · rw [tnF_congr hag (m - 1) (by omega)]
        exact h1
    rw [show ([] : List Nat).length + 1 + e = e + 1 from by simp; omega]
    show (itA m Co e (stA m Co _)).1 = _ ∧ (itA m Co e (stA m Co _)).2.1 = _ ∧ ((itA m Co e (stA m Co _)).2.1 < 1000000 → ∀ j, j < m → ((itA m Co e (stA m Co _)).2.2.2.1 j : Int) = _)
    have hst : stA m Co (c, le, od, bt, true) = (if Co od < 1000000 then c + 1 else c, if Co od < 1000000 ∧ Co od < le then Co od else le, nxO m od, if Co od < 1000000 ∧ Co od < le then (fun j => if j < m then od j else bt j) else bt, false) := by
      unfold stA
      rw [if_pos rfl, ht]
      rfl
    rw [hst, itA_end m Co rfl e, hC]
    refine ⟨rfl, rfl, fun h j hj => ?_⟩
    show ((if Co (dgs a) < 1000000 ∧ Co (dgs a) < le then (fun j => if j < m then od j else bt j) else bt) j : Int) = (if Co (dgs a) < 1000000 ∧ Co (dgs a) < le then (fun j => (dgs a j : Int)) else g) j
    by_cases q : Co (dgs a) < 1000000 ∧ Co (dgs a) < le
    · rw [if_pos q, if_pos q]
      simp only [if_pos hj]
      rw [hag j hj]
    · rw [if_neg q, if_neg q]
      have h2 : (if Co (dgs a) < 1000000 ∧ Co (dgs a) < le then Co (dgs a) else le) < 1000000 := h
      rw [if_neg q] at h2
      exact hg h2 j hj
  | cons b l ih =>
    intro a c le od bt g hch hag hle hg
    have hC := hCo _ _ hag
    have hc2 : (tnF (dgs a) (m - 1) ≠ 0 ∧ ∀ j, j < m → nxO m (dgs a) j = dgs b j) ∧ chn m (b :: l) = true := by
      simpa [chn, List.all_eq_true] using hch
    have ht : tnF od (m - 1) ≠ 0 := by
      by_cases hm : m = 0
      · subst hm
        exact absurd rfl hc2.1.1
      · rw [tnF_congr hag (m - 1) (by omega)]
        exact hc2.1.1
    have hst : stA m Co (c, le, od, bt, true) = (if Co (dgs a) < 1000000 then c + 1 else c, if Co (dgs a) < 1000000 ∧ Co (dgs a) < le then Co (dgs a) else le, nxO m od, if Co (dgs a) < 1000000 ∧ Co (dgs a) < le then (fun j => if j < m then od j else bt j) else bt, true) := by
      unfold stA
      rw [if_pos rfl]
      dsimp only
      rw [hC, decide_eq_true ht]
    have hag2 : agr m (nxO m od) (dgs b) := fun j hj => (nxO_congr hag j hj).trans (hc2.1.2 j hj)
    have key := ih b (if Co (dgs a) < 1000000 then c + 1 else c) (if Co (dgs a) < 1000000 ∧ Co (dgs a) < le then Co (dgs a) else le) (nxO m od) (if Co (dgs a) < 1000000 ∧ Co (dgs a) < le then (fun j => if j < m then od j else bt j) else bt) (if Co (dgs a) < 1000000 ∧ Co (dgs a) < le then (fun j => (dgs a j : Int)) else g) hc2.2 hag2 (by split <;> omega) (fun h j hj => by
      by_cases q : Co (dgs a) < 1000000 ∧ Co (dgs a) < le
      · rw [if_pos q, if_pos q]
        simp only [if_pos hj]
        rw [hag j hj]
      · rw [if_neg q] at h
        rw [if_neg q, if_neg q]
        exact hg h j hj)
    rw [show (b :: l).length + 1 + e = (l.length + 1 + e) + 1 from by simp only [List.length_cons]; omega]
    show (itA m Co (l.length + 1 + e) (stA m Co (c, le, od, bt, true))).1 = _ ∧ (itA m Co (l.length + 1 + e) (stA m Co (c, le, od, bt, true))).2.1 = _ ∧ ((itA m Co (l.length + 1 + e) (stA m Co (c, le, od, bt, true))).2.1 < 1000000 → ∀ j, j < m → ((itA m Co (l.length + 1 + e) (stA m Co (c, le, od, bt, true))).2.2.2.1 j : Int) = _)
    rw [hst]
    exact key
