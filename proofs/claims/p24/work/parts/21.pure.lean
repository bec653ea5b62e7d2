/-! OURS: the model's numbers -/
def mvU (a b : Nat) : Nat → Int
  | 0 => 0
  | h + 1 => mvU a b h + (if (hbit a ^^^ hbit b).testBit h = true then 1 else 0)
theorem mvU_8 : ∀ a, a < 9 → ∀ b, b < 9 → mvU a b 8 = mv a b := by decide +kernel
theorem bitN : ∀ a, a < 9 → ∀ b, b < 9 → ∀ h : Nat, h < 8 → (((zI (closedN a) ^^^ zI (closedN b)) >>> (zI (h : Int) &&& 31)) &&& zI 1) = zI (if (hbit a ^^^ hbit b).testBit h = true then 1 else 0) := by decide +kernel
theorem crM : ∀ a, a < 9 → ∀ b, b < 9 → ((zI (closedN a) &&& (zI (closedN b) ^^^ zI (-1))) = 0 ↔ (hbit a &&& (hbit b ^^^ 255)) = 0) := by decide +kernel
theorem mvU_bd (a b : Nat) : ∀ h, 0 ≤ mvU a b h ∧ mvU a b h ≤ h
  | 0 => ⟨Int.le_refl 0, Int.le_refl 0⟩
  | h + 1 => by
    have := mvU_bd a b h
    unfold mvU
    split <;> omega
/-- what stands between two notes, not cut off; the option o: none, or the ornament o - 1 -/
def bw (lim : Int) (gn : Nat → Nat) (gg : Nat → Nat → Nat) (x m y o : Nat) : Int :=
  if o = 0 then stp lim x y else (if gn (o - 1) < m then 0 else 1000000) + orS lim (gg (o - 1)) x y (gn (o - 1)) + stp lim (orF (gg (o - 1)) x y (gn (o - 1))) y
theorem bw_bd {lim : Int} {no : Nat} {gn : Nat → Nat} {gg : Nat → Nat → Nat} {x m y o : Nat} (hn : ∀ j, j < no → gn j ≤ 4 ∧ ∀ i, i < gn j → gg j i ≤ 10) (hx : x < 9) (hy : y < 9) (ho : o ≤ no) : 0 ≤ bw lim gn gg x m y o ∧ bw lim gn gg x m y o ≤ 6000000 := by
  unfold bw
  split
  · have := stp_bd (lim := lim) hx hy
    omega
  · have h := hn (o - 1) (by omega)
    have h1 := orS_bd h.2 hx hy (lim := lim) (gn (o - 1)) (Nat.le_refl _)
    have h2 := stp_bd (lim := lim) (orF_lt h.2 hx hy (gn (o - 1)) (Nat.le_refl _)) hy
    split <;> omega
def atc (lim : Int) (gn : Nat → Nat) (gg : Nat → Nat → Nat) (rp rl : Nat → Nat) (rw : Nat → Int) (i o : Nat) : Int := if o = 0 ∧ rw i ≠ 0 then 1000000 else bw lim gn gg (rp i) (rl i) (rp (i + 1)) o
def caU (at_ Ln Wn Mn : Nat → Int) (a : Nat) : Nat → Int × Int × Int
  | 0 => (1000000, 0, -1000000)
  | o + 1 => if at_ o < 1000000 ∧ (o = 0 ∨ o ≠ a) ∧ 0 < Wn o then
      (if at_ o + Ln o < (caU at_ Ln Wn Mn a o).1 then at_ o + Ln o else (caU at_ Ln Wn Mn a o).1, if 500000000 < (caU at_ Ln Wn Mn a o).2.1 + Wn o then 500000000 else (caU at_ Ln Wn Mn a o).2.1 + Wn o, if (caU at_ Ln Wn Mn a o).2.2 < Mn o + (if o = 0 then 0 else 1) then Mn o + (if o = 0 then 0 else 1) else (caU at_ Ln Wn Mn a o).2.2)
      else caU at_ Ln Wn Mn a o
theorem caU_bd {at_ Ln Wn Mn : Nat → Int} {a : Nat} {K : Int} (hK : 0 ≤ K) : ∀ n, (∀ o, o < n → 0 ≤ at_ o) → (∀ o, o < n → 0 ≤ Ln o) → (∀ o, o < n → 0 ≤ Wn o) → (∀ o, o < n → Mn o ≤ K) → 0 ≤ (caU at_ Ln Wn Mn a n).1 ∧ (caU at_ Ln Wn Mn a n).1 ≤ 1000000 ∧ 0 ≤ (caU at_ Ln Wn Mn a n).2.1 ∧ (caU at_ Ln Wn Mn a n).2.1 ≤ 500000000 ∧ -1000000 ≤ (caU at_ Ln Wn Mn a n).2.2 ∧ (caU at_ Ln Wn Mn a n).2.2 ≤ K + 1
  | 0, _, _, _, _ => by
    unfold caU
    dsimp only
    omega
  | n + 1, h1, h2, h3, h4 => by
    have h := caU_bd hK n (fun o ho => h1 o (by omega)) (fun o ho => h2 o (by omega)) (fun o ho => h3 o (by omega)) (fun o ho => h4 o (by omega)) (a := a)
    have e1 := h1 n (by omega)
    have e2 := h2 n (by omega)
    have e3 := h3 n (by omega)
    have e4 := h4 n (by omega)
    unfold caU
    split
    · dsimp only
      refine ⟨?_, ?_, ?_, ?_, ?_, ?_⟩ <;> split <;> (try split) <;> omega
    · omega
def lwm (at_ : Nat → Nat → Int) (no : Nat) : Nat → Nat → Nat → Int × Int × Int
  | 0, _, _ => (0, 1, 0)
  | k + 1, i, a => caU (at_ i) (fun o => (lwm at_ no k (i + 1) o).1) (fun o => (lwm at_ no k (i + 1) o).2.1) (fun o => (lwm at_ no k (i + 1) o).2.2) a (no + 1)
theorem lwm_bd {at_ : Nat → Nat → Int} {no : Nat} : ∀ k i a, (∀ j o, i ≤ j → j < i + k → o ≤ no → 0 ≤ at_ j o) → 0 ≤ (lwm at_ no k i a).1 ∧ (lwm at_ no k i a).1 ≤ 1000000 ∧ 0 ≤ (lwm at_ no k i a).2.1 ∧ (lwm at_ no k i a).2.1 ≤ 500000000 ∧ -1000000 ≤ (lwm at_ no k i a).2.2 ∧ (lwm at_ no k i a).2.2 ≤ (k : Int)
  | 0, i, a, _ => by
    unfold lwm
    dsimp only
    omega
  | k + 1, i, a, h => by
    have hh := fun o => lwm_bd k (i + 1) o (fun j o h1 h2 h3 => h j o (by omega) (by omega) h3)
    have := caU_bd (K := (k : Int)) (by omega) (no + 1) (fun o ho => h i o (by omega) (by omega) (by omega)) (fun o _ => (hh o).1) (fun o _ => (hh o).2.2.1) (fun o _ => (hh o).2.2.2.2.2) (a := a)
    unfold lwm
    omega

/-- the model's ornaments -/
def MoB (G : Nat → ClassId) (c : Nat → va_E) (no : Nat) (gn : Nat → Nat) (gg : Nat → Nat → Nat) : Prop := (∃ g, isA 0 G (c 122) 32 g ∧ ∀ k, k < no → ∀ j, j < gn k → g (4 * k + j) = (gg k j : Int)) ∧ ∃ g, isA 0 G (c 123) 8 g ∧ ∀ k, k < no → g k = (gn k : Int)
theorem MoB.fr {G : Nat → ClassId} {c c1 : Nat → va_E} {no : Nat} {gn : Nat → Nat} {gg : Nat → Nat → Nat} (h : MoB G c no gn gg) (h1 : c1 122 = c 122) (h2 : c1 123 = c 123) : MoB G c1 no gn gg := by
  obtain ⟨⟨g, a1, a2⟩, g', b1, b2⟩ := h
  exact ⟨⟨g, isA.fr h1 a1, a2⟩, g', isA.fr h2 b1, b2⟩
/-- the numbers of the ornaments are as they may be -/
def OV (no : Nat) (gn : Nat → Nat) (gg : Nat → Nat → Nat) : Prop := no ≤ 8 ∧ ∀ k, k < no → 1 ≤ gn k ∧ gn k ≤ 4 ∧ ∀ j, j < gn k → gg k j ≤ 10
theorem OV.g {no : Nat} {gn : Nat → Nat} {gg : Nat → Nat → Nat} (h : OV no gn gg) : ∀ j, j < no → gn j ≤ 4 ∧ ∀ i, i < gn j → gg j i ≤ 10 := fun j hj => ⟨(h.2 j hj).2.1, (h.2 j hj).2.2⟩

/-- the row of notes that is laid -/
def RowP (G : Nat → ClassId) (c : Nat → va_E) (r : Nat) (rp rl : Nat → Nat) (rw : Nat → Int) : Prop := (∃ g, isA 0 G (c 129) 40 g ∧ ∀ i, i < r → g i = (rp i : Int)) ∧ (∃ g, isA 0 G (c 130) 40 g ∧ ∀ i, i < r → g i = (rl i : Int)) ∧ ∃ g, isA 1 G (c 131) 40 g ∧ ∀ i, i < r → g i = rw i
def RowV (r : Nat) (rp rl : Nat → Nat) (rw : Nat → Int) : Prop := r ≤ 40 ∧ ∀ i, i < r → rp i < 9 ∧ 1 ≤ rl i ∧ rl i ≤ 32 ∧ (rw i = 0 ∨ rw i = 1)
theorem RowP.fr {G : Nat → ClassId} {c c1 : Nat → va_E} {r : Nat} {rp rl : Nat → Nat} {rw : Nat → Int} (h : RowP G c r rp rl rw) (hf : ∀ q, 129 ≤ q → q < 132 → c1 q = c q) : RowP G c1 r rp rl rw := by
  obtain ⟨⟨g1, a1, b1⟩, ⟨g2, a2, b2⟩, g3, a3, b3⟩ := h
  exact ⟨⟨g1, isA.fr (hf 129 (by omega) (by omega)) a1, b1⟩, ⟨g2, isA.fr (hf 130 (by omega) (by omega)) a2, b2⟩, g3, isA.fr (hf 131 (by omega) (by omega)) a3, b3⟩
/-- the model's tunes -/
def MoT (G : Nat → ClassId) (c : Nat → va_E) (nn : Nat → Nat) (pt ln : Nat → Nat → Nat) (wi : Nat → Nat → Int) : Prop := (∃ g, isA 0 G (c 125) 40 g ∧ ∀ t, t < 4 → ∀ i, i < nn t → g (10 * t + i) = (pt t i : Int)) ∧ (∃ g, isA 0 G (c 126) 40 g ∧ ∀ t, t < 4 → ∀ i, i < nn t → g (10 * t + i) = (ln t i : Int)) ∧ (∃ g, isA 1 G (c 127) 40 g ∧ ∀ t, t < 4 → ∀ i, i + 1 < nn t → g (10 * t + i) = wi t i) ∧ isA 0 G (c 128) 4 (fun t => (nn t : Int))
theorem MoT.fr {G : Nat → ClassId} {c c1 : Nat → va_E} {nn : Nat → Nat} {pt ln : Nat → Nat → Nat} {wi : Nat → Nat → Int} (h : MoT G c nn pt ln wi) (hf : ∀ q, 125 ≤ q → q < 129 → c1 q = c q) : MoT G c1 nn pt ln wi := by
  obtain ⟨⟨g1, a1, b1⟩, ⟨g2, a2, b2⟩, ⟨g3, a3, b3⟩, a4⟩ := h
  exact ⟨⟨g1, isA.fr (hf 125 (by omega) (by omega)) a1, b1⟩, ⟨g2, isA.fr (hf 126 (by omega) (by omega)) a2, b2⟩, ⟨g3, isA.fr (hf 127 (by omega) (by omega)) a3, b3⟩, isA.fr (hf 128 (by omega) (by omega)) a4⟩

def apN {α : Type} (r : Nat) (f g : Nat → α) : Nat → α := fun i => if i < r then f i else g (i - r)

/-- the three tables, filled from the gap i0 on, and at the gap ahead of it below a0 -/
def LWp (G : Nat → ClassId) (c : Nat → va_E) (at_ : Nat → Nat → Int) (no g i0 a0 : Nat) : Prop :=
  (∃ gl, isA 0 G (c 132) 369 gl ∧ ∀ i a, a < 9 → i ≤ g → (i0 ≤ i ∨ (i + 1 = i0 ∧ a < a0)) → gl (9 * i + a) = (lwm at_ no (g - i) i a).1) ∧
  (∃ gl, isA 0 G (c 133) 369 gl ∧ ∀ i a, a < 9 → i ≤ g → (i0 ≤ i ∨ (i + 1 = i0 ∧ a < a0)) → gl (9 * i + a) = (lwm at_ no (g - i) i a).2.1) ∧
  ∃ gl, isA 0 G (c 134) 369 gl ∧ ∀ i a, a < 9 → i ≤ g → (i0 ≤ i ∨ (i + 1 = i0 ∧ a < a0)) → gl (9 * i + a) = (lwm at_ no (g - i) i a).2.2
theorem LWp.fr {G : Nat → ClassId} {c c1 : Nat → va_E} {at_ : Nat → Nat → Int} {no g i0 a0 : Nat} (h : LWp G c at_ no g i0 a0) (hf : ∀ q, 132 ≤ q → q < 135 → c1 q = c q) : LWp G c1 at_ no g i0 a0 := by
  obtain ⟨⟨g1, a1, b1⟩, ⟨g2, a2, b2⟩, g3, a3, b3⟩ := h
  exact ⟨⟨g1, isA.fr (hf 132 (by omega) (by omega)) a1, b1⟩, ⟨g2, isA.fr (hf 133 (by omega) (by omega)) a2, b2⟩, g3, isA.fr (hf 134 (by omega) (by omega)) a3, b3⟩

theorem LWp.next {G : Nat → ClassId} {c : Nat → va_E} {at_ : Nat → Nat → Int} {no g i0 : Nat} (h : LWp G c at_ no g (i0 + 1) 9) : LWp G c at_ no g i0 0 := by
  obtain ⟨⟨g1, a1, b1⟩, ⟨g2, a2, b2⟩, g3, a3, b3⟩ := h
  exact ⟨⟨g1, a1, fun i a ha hi hia => b1 i a ha hi (by omega)⟩, ⟨g2, a2, fun i a ha hi hia => b2 i a ha hi (by omega)⟩, g3, a3, fun i a ha hi hia => b3 i a ha hi (by omega)⟩
/-- the model's arrays that hold nothing between the calls -/
def MoR (G : Nat → ClassId) (c : Nat → va_E) : Prop := (∃ g, isA 0 G (c 129) 40 g) ∧ (∃ g, isA 0 G (c 130) 40 g) ∧ (∃ g, isA 1 G (c 131) 40 g) ∧ (∃ g, isA 0 G (c 132) 369 g) ∧ (∃ g, isA 0 G (c 133) 369 g) ∧ (∃ g, isA 0 G (c 134) 369 g) ∧ (∃ g, isA 0 G (c 135) 4 g) ∧ ∃ g, isA 0 G (c 136) 4 g

def rwT (n : Nat) (w : Nat → Int) : Nat → Int := fun i => if i + 1 < n then w i else 0
theorem rwT_V {n : Nat} {pt ln : Nat → Nat} {wi : Nat → Int} (h : TuneV n pt ln wi) : RowV n pt ln (rwT n wi) := ⟨by have := h.1; omega, fun i hi => ⟨(h.2.1 i hi).1, (h.2.1 i hi).2.1, (h.2.1 i hi).2.2, by
  unfold rwT
  split
  · exact h.2.2 i (by omega)
  · exact Or.inl rfl⟩⟩
theorem apN_0 {α : Type} (f g : Nat → α) : apN 0 f g = g := by
  funext i
  simp [apN]
def isF (at_ : Nat → Nat → Int) (no g gap ah o : Nat) : Prop := (o = 0 ∨ o ≠ ah) ∧ 0 < (lwm at_ no (g - (gap + 1)) (gap + 1) o).2.1 ∧ at_ gap o + (lwm at_ no (g - (gap + 1)) (gap + 1) o).1 = (lwm at_ no (g - gap) gap ah).1

/-- the numbers of a state are as they may be -/
def SV (lim : Int) (no dn : Nat) (gn : Nat → Nat) (gg : Nat → Nat → Nat) (dg nn : Nat → Nat) (pt ln : Nat → Nat → Nat) (wi : Nat → Nat → Int) : Prop := (0 ≤ lim ∧ lim ≤ 8) ∧ OV no gn gg ∧ dn ≤ 4 ∧ (∀ j, j < dn → dg j ≤ 10) ∧ TusV nn pt ln wi
theorem MoR.fr {G : Nat → ClassId} {c c1 : Nat → va_E} (h : MoR G c) (hf : ∀ q, 129 ≤ q → q < 137 → c1 q = c q) : MoR G c1 := by
  obtain ⟨⟨g1, h1⟩, ⟨g2, h2⟩, ⟨g3, h3⟩, ⟨g4, h4⟩, ⟨g5, h5⟩, ⟨g6, h6⟩, ⟨g7, h7⟩, g8, h8⟩ := h
  exact ⟨⟨g1, isA.fr (hf _ (by omega) (by omega)) h1⟩, ⟨g2, isA.fr (hf _ (by omega) (by omega)) h2⟩, ⟨g3, isA.fr (hf _ (by omega) (by omega)) h3⟩, ⟨g4, isA.fr (hf _ (by omega) (by omega)) h4⟩, ⟨g5, isA.fr (hf _ (by omega) (by omega)) h5⟩, ⟨g6, isA.fr (hf _ (by omega) (by omega)) h6⟩, ⟨g7, isA.fr (hf _ (by omega) (by omega)) h7⟩, g8, isA.fr (hf _ (by omega) (by omega)) h8⟩
def upT {α : Type} (f : Nat → α) (t : Nat) (g : α) : Nat → α := fun u => if u = t then g else f u
theorem upT_eq {α : Type} (f : Nat → α) (t : Nat) (g : α) : upT f t g t = g := if_pos rfl
theorem upT_ne {α : Type} (f : Nat → α) {t u : Nat} (g : α) (h : u ≠ t) : upT f t g u = f u := if_neg h
theorem upI_upT (nn : Nat → Nat) (t v : Nat) (z : Int) (hz : z = (v : Int)) : upI (fun t => (nn t : Int)) t z = fun u => ((upT nn t v u : Nat) : Int) := by
  funext u
  unfold upI upT
  by_cases h : u = t <;> simp [h, hz]

/-- a tune's least cost, how many choices, the most ornaments -/
def TV (lim : Int) (no : Nat) (gn : Nat → Nat) (gg : Nat → Nat → Nat) (n : Nat) (p l : Nat → Nat) (w : Nat → Int) : Int × Int × Int := lwm (atc lim gn gg p l (rwT n w)) no (n - 1) 0 0
theorem bw_40 {lim : Int} {no : Nat} {gn : Nat → Nat} {gg : Nat → Nat → Nat} {x m y o : Nat} (hn : ∀ j, j < no → gn j ≤ 4 ∧ ∀ i, i < gn j → gg j i ≤ 10) (hx : x < 9) (hy : y < 9) (ho : o ≤ no) (h : bw lim gn gg x m y o < 1000000) : bw lim gn gg x m y o ≤ 40 := by
  unfold bw at h ⊢
  split at h
  · rename_i h0
    rw [if_pos h0]
    exact Int.le_trans ((stp_bd (lim := lim) hx hy).2.2 h) (by decide)
  · rename_i h0
    rw [if_neg h0]
    have h9 := hn (o - 1) (by omega)
    have h1 := orS_bd h9.2 hx hy (lim := lim) (gn (o - 1)) (Nat.le_refl _)
    have h2 := stp_bd (lim := lim) (orF_lt h9.2 hx hy (gn (o - 1)) (Nat.le_refl _)) hy
    split at h <;> rename_i h3 <;> simp only [h3, if_true, if_false] <;> omega
theorem caU_40 {at_ Ln Wn Mn : Nat → Int} {a : Nat} {K : Int} : ∀ n, (∀ o, o < n → at_ o < 1000000 → at_ o ≤ 40) → (∀ o, o < n → 0 < Wn o → Ln o ≤ K) → 0 < (caU at_ Ln Wn Mn a n).2.1 → (caU at_ Ln Wn Mn a n).1 ≤ 40 + K
  | 0, _, _, h => by
    unfold caU at h
    dsimp only at h
    omega
  | n + 1, h1, h2, h => by
    unfold caU at h ⊢
    split
    · rename_i hc
      have e1 := h1 n (by omega) hc.1
      have e2 := h2 n (by omega) hc.2.2
      dsimp only
      split <;> omega
    · rename_i hc
      rw [if_neg hc] at h
      exact caU_40 n (fun o ho => h1 o (by omega)) (fun o ho => h2 o (by omega)) h
theorem lwm_40 {at_ : Nat → Nat → Int} {no : Nat} : ∀ k i a, (∀ j o, i ≤ j → j < i + k → o ≤ no → at_ j o < 1000000 → at_ j o ≤ 40) → 0 < (lwm at_ no k i a).2.1 → (lwm at_ no k i a).1 ≤ 40 * (k : Int)
  | 0, i, a, _, _ => by
    unfold lwm
    dsimp only
    omega
  | k + 1, i, a, h, hW => by
    have := caU_40 (K := 40 * (k : Int)) (no + 1) (fun o ho h9 => h i o (by omega) (by omega) (by omega) h9) (fun o _ h9 => lwm_40 k (i + 1) o (fun j o h1 h2 h3 => h j o (by omega) (by omega) h3) h9) hW
    unfold lwm
    omega
theorem atc_bd {lim : Int} {no : Nat} {gn : Nat → Nat} {gg : Nat → Nat → Nat} {r : Nat} {rp rl : Nat → Nat} {rw : Nat → Int} (hOV : OV no gn gg) (hRV : RowV r rp rl rw) {j o : Nat} (hj : j + 1 < r) (ho : o ≤ no) : 0 ≤ atc lim gn gg rp rl rw j o ∧ (atc lim gn gg rp rl rw j o < 1000000 → atc lim gn gg rp rl rw j o ≤ 40) := by
  have h := bw_bd (lim := lim) (m := rl j) (x := rp j) (y := rp (j + 1)) hOV.g (hRV.2 j (by omega)).1 (hRV.2 (j + 1) (by omega)).1 ho
  have h2 := bw_40 (lim := lim) (m := rl j) (x := rp j) (y := rp (j + 1)) hOV.g (hRV.2 j (by omega)).1 (hRV.2 (j + 1) (by omega)).1 ho
  unfold atc
  split <;> omega
theorem TV_bd {lim : Int} {no : Nat} {gn : Nat → Nat} {gg : Nat → Nat → Nat} {n : Nat} {p l : Nat → Nat} {w : Nat → Int} (hOV : OV no gn gg) (hT : TuneV n p l w) : 0 ≤ (TV lim no gn gg n p l w).1 ∧ (TV lim no gn gg n p l w).1 ≤ 1000000 ∧ 0 ≤ (TV lim no gn gg n p l w).2.1 ∧ (TV lim no gn gg n p l w).2.1 ≤ 500000000 ∧ -1000000 ≤ (TV lim no gn gg n p l w).2.2 ∧ (TV lim no gn gg n p l w).2.2 ≤ 9 ∧ (0 < (TV lim no gn gg n p l w).2.1 → (TV lim no gn gg n p l w).1 ≤ 360) := by
  have hR := rwT_V hT
  have h10 := hT.1
  have h1 := lwm_bd (at_ := atc lim gn gg p l (rwT n w)) (no := no) (n - 1) 0 0 (fun j o h1 h2 h3 => (atc_bd hOV hR (by omega) h3).1)
  have h2 := lwm_40 (at_ := atc lim gn gg p l (rwT n w)) (no := no) (n - 1) 0 0 (fun j o h1 h2 h3 => (atc_bd hOV hR (by omega) h3).2)
  unfold TV
  refine ⟨h1.1, h1.2.1, h1.2.2.1, h1.2.2.2.1, h1.2.2.2.2.1, by have := h1.2.2.2.2.2; omega, fun h => by have := h2 h; omega⟩
theorem avN : ∀ c : Nat, c < 361 → ∀ g : Nat, g < 9 → vf_n32 (FP.fdiv (FP.i2f (zI (c : Int))) (FP.i2f (zI ((g + 1 : Nat) : Int)))) := by
  unfold vf_n32
  decide +kernel

theorem sumU_01 {f : Nat → Int} (h : ∀ i, 0 ≤ f i ∧ f i ≤ 1) : ∀ n, 0 ≤ sumU f n ∧ sumU f n ≤ n
  | 0 => ⟨Int.le_refl 0, Int.le_refl 0⟩
  | n + 1 => by
    have := sumU_01 h n
    have := h n
    unfold sumU
    omega

/-- an order's digits -/
def dgs (n : Nat) : Nat → Nat := fun j => if j = 0 then n / 4 / 4 / 4 % 4 else if j = 1 then n / 4 / 4 % 4 else if j = 2 then n / 4 % 4 else n % 4
theorem dgs_lt (n j : Nat) : dgs n j < 4 := by
  unfold dgs
  split
  · omega
  · split
    · omega
    · split <;> omega
def bi (M t : Nat) : Nat := M / 2 ^ t % 2
theorem bi_le (M t : Nat) : bi M t ≤ 1 := by
  unfold bi
  omega
/-- the tunes met (bits), whether an empty one was met, whether the order is one -/
def loS (nn od : Nat → Nat) : Nat → Nat × Nat × Nat
  | 0 => (0, 0, 1)
  | p + 1 => ((loS nn od p).1 ||| 1 <<< od p, if (loS nn od p).2.1 = 1 ∨ nn (od p) = 0 then 1 else 0, if (loS nn od p).2.2 = 1 ∧ bi (loS nn od p).1 (od p) = 0 ∧ ¬ (0 < p ∧ nn (od p) = 0 ∧ (loS nn od p).2.1 = 1 ∧ od p < od (p - 1)) ∧ (nn (od p) = 0 ∨ (loS nn od p).2.1 = 0) then 1 else 0)
theorem lo_rem : ∀ a : Nat, a < 256 → zI (a : Int) - zI (a : Int) / zI 4 * zI 4 = zI ((a % 4 : Nat) : Int) := by decide +kernel
theorem lo_div : ∀ a : Nat, a < 256 → zI (a : Int) / zI 4 = zI ((a / 4 : Nat) : Int) := by decide +kernel
theorem lo_4 : ¬ zI 4 = 0 := by decide +kernel
theorem lo_bit : ∀ a : Nat, a < 16 → ∀ t : Nat, t < 4 → ((zI (a : Int) >>> (zI (t : Int) &&& 31)) &&& zI 1) = zI ((bi a t : Nat) : Int) := by decide +kernel
theorem lo_or : ∀ a : Nat, a < 16 → ∀ t : Nat, t < 4 → (zI (a : Int) ||| (zI 1 <<< (zI (t : Int) &&& 31))) = zI ((a ||| 1 <<< t : Nat) : Int) := by decide +kernel
theorem lo_lt : ∀ a : Nat, a < 16 → ∀ t : Nat, t < 4 → (a ||| 1 <<< t) < 16 := by decide +kernel
/-- the tunes of an order one behind the other -/
def rc (nn : Nat → Nat) (pt ln : Nat → Nat → Nat) (wi : Nat → Nat → Int) (od : Nat → Nat) : Nat → Nat × (Nat → Nat) × (Nat → Nat) × (Nat → Int)
  | 0 => (0, fun _ => 0, fun _ => 0, fun _ => 0)
  | p + 1 => ((rc nn pt ln wi od p).1 + nn (od p), apN (rc nn pt ln wi od p).1 (rc nn pt ln wi od p).2.1 (pt (od p)), apN (rc nn pt ln wi od p).1 (rc nn pt ln wi od p).2.2.1 (ln (od p)), apN (rc nn pt ln wi od p).1 (rc nn pt ln wi od p).2.2.2 (fun i => if i + 1 < nn (od p) then wi (od p) i else 0))
theorem rc_V {nn : Nat → Nat} {pt ln : Nat → Nat → Nat} {wi : Nat → Nat → Int} (hU : TusV nn pt ln wi) {od : Nat → Nat} : ∀ p, (∀ j, j < p → od j < 4) → (rc nn pt ln wi od p).1 ≤ 10 * p ∧ ∀ i, i < (rc nn pt ln wi od p).1 → (rc nn pt ln wi od p).2.1 i < 9 ∧ 1 ≤ (rc nn pt ln wi od p).2.2.1 i ∧ (rc nn pt ln wi od p).2.2.1 i ≤ 32 ∧ ((rc nn pt ln wi od p).2.2.2 i = 0 ∨ (rc nn pt ln wi od p).2.2.2 i = 1)
  | 0, _ => ⟨Nat.le_refl 0, fun i hi => absurd hi (Nat.not_lt_zero i)⟩
  | p + 1, h => by
    have h1 := rc_V hU p (fun j hj => h j (by omega))
    have h2 := hU (od p) (h p (by omega))
    refine ⟨?_, fun i hi => ?_⟩
    · have := h2.1
      show (rc nn pt ln wi od p).1 + nn (od p) ≤ _
      omega
    · have hi' : i < (rc nn pt ln wi od p).1 + nn (od p) := hi
      show apN (rc nn pt ln wi od p).1 (rc nn pt ln wi od p).2.1 (pt (od p)) i < 9 ∧ 1 ≤ apN (rc nn pt ln wi od p).1 (rc nn pt ln wi od p).2.2.1 (ln (od p)) i ∧ apN (rc nn pt ln wi od p).1 (rc nn pt ln wi od p).2.2.1 (ln (od p)) i ≤ 32 ∧ (apN (rc nn pt ln wi od p).1 (rc nn pt ln wi od p).2.2.2 (fun i => if i + 1 < nn (od p) then wi (od p) i else 0) i = 0 ∨ apN (rc nn pt ln wi od p).1 (rc nn pt ln wi od p).2.2.2 (fun i => if i + 1 < nn (od p) then wi (od p) i else 0) i = 1)
      unfold apN
      by_cases h3 : i < (rc nn pt ln wi od p).1
      · simp only [if_pos h3]
        exact h1.2 i h3
      · simp only [if_neg h3]
        have h4 := h2.2.1 (i - (rc nn pt ln wi od p).1) (by omega)
        refine ⟨h4.1, h4.2.1, h4.2.2, ?_⟩
        split
        · exact h2.2.2 _ (by assumption)
        · exact Or.inl rfl
/-- what a laid order is worth -/
def RVv (lim : Int) (no : Nat) (gn : Nat → Nat) (gg : Nat → Nat → Nat) (nn : Nat → Nat) (pt ln : Nat → Nat → Nat) (wi : Nat → Nat → Int) (od : Nat → Nat) : Int × Int × Int := lwm (atc lim gn gg (rc nn pt ln wi od 4).2.1 (rc nn pt ln wi od 4).2.2.1 (rc nn pt ln wi od 4).2.2.2) no ((rc nn pt ln wi od 4).1 - 1) 0 0
theorem RVv_bd {lim : Int} {no : Nat} {gn : Nat → Nat} {gg : Nat → Nat → Nat} {nn : Nat → Nat} {pt ln : Nat → Nat → Nat} {wi : Nat → Nat → Int} (hOV : OV no gn gg) (hU : TusV nn pt ln wi) {od : Nat → Nat} (hod : ∀ j, j < 4 → od j < 4) : 0 ≤ (RVv lim no gn gg nn pt ln wi od).1 ∧ (RVv lim no gn gg nn pt ln wi od).1 ≤ 1000000 ∧ 0 ≤ (RVv lim no gn gg nn pt ln wi od).2.1 ∧ (RVv lim no gn gg nn pt ln wi od).2.1 ≤ 500000000 := by
  have hR := rc_V hU 4 hod
  have h1 := lwm_bd (at_ := atc lim gn gg (rc nn pt ln wi od 4).2.1 (rc nn pt ln wi od 4).2.2.1 (rc nn pt ln wi od 4).2.2.2) (no := no) ((rc nn pt ln wi od 4).1 - 1) 0 0 (fun j o h1 h2 h3 => (atc_bd hOV ⟨by omega, hR.2⟩ (by omega) h3).1)
  exact ⟨h1.1, h1.2.1, h1.2.2.1, h1.2.2.2.1⟩
/-- through the first k numbers -/
def goF (lim : Int) (no : Nat) (gn : Nat → Nat) (gg : Nat → Nat → Nat) (nn : Nat → Nat) (pt ln : Nat → Nat → Nat) (wi : Nat → Nat → Int) (bo : Nat → Int) : Nat → Int × Int × (Nat → Int)
  | 0 => (0, 1000000, bo)
  | k + 1 => if (loS nn (dgs k) 4).2.2 = 1 then (if 0 < (RVv lim no gn gg nn pt ln wi (dgs k)).2.1 then (goF lim no gn gg nn pt ln wi bo k).1 + 1 else (goF lim no gn gg nn pt ln wi bo k).1, if 0 < (RVv lim no gn gg nn pt ln wi (dgs k)).2.1 ∧ (RVv lim no gn gg nn pt ln wi (dgs k)).1 < (goF lim no gn gg nn pt ln wi bo k).2.1 then (RVv lim no gn gg nn pt ln wi (dgs k)).1 else (goF lim no gn gg nn pt ln wi bo k).2.1, if 0 < (RVv lim no gn gg nn pt ln wi (dgs k)).2.1 ∧ (RVv lim no gn gg nn pt ln wi (dgs k)).1 < (goF lim no gn gg nn pt ln wi bo k).2.1 then (fun j => (dgs k j : Int)) else (goF lim no gn gg nn pt ln wi bo k).2.2) else goF lim no gn gg nn pt ln wi bo k
/-- how many tunes have notes -/
def tC (nn : Nat → Nat) : Nat → Nat
  | 0 => 0
  | t + 1 => tC nn t + (if 0 < nn t then 1 else 0)
theorem tC_le (nn : Nat → Nat) : ∀ t, tC nn t ≤ t
  | 0 => Nat.le_refl 0
  | t + 1 => by
    have := tC_le nn t
    unfold tC
    split <;> omega

theorem loS_le (nn od : Nat → Nat) : ∀ p, (loS nn od p).2.2 ≤ 1
  | 0 => Nat.le_refl 1
  | p + 1 => by
    unfold loS
    dsimp only
    split <;> omega
section MSX
variable {G : Nat → ClassId} {ad : Nat → Nat} {c c1 : Nat → va_E} {th lim : Int} {no dn : Nat} {gn : Nat → Nat} {gg : Nat → Nat → Nat} {dg nn : Nat → Nat} {pt ln : Nat → Nat → Nat} {wi : Nat → Nat → Int}
end MSX

theorem goF_bd {lim : Int} {no : Nat} {gn : Nat → Nat} {gg : Nat → Nat → Nat} {nn : Nat → Nat} {pt ln : Nat → Nat → Nat} {wi : Nat → Nat → Int} (hOV : OV no gn gg) (hU : TusV nn pt ln wi) {bo : Nat → Int} : ∀ k, 0 ≤ (goF lim no gn gg nn pt ln wi bo k).2.1 ∧ (goF lim no gn gg nn pt ln wi bo k).2.1 ≤ 1000000
  | 0 => ⟨by show (0 : Int) ≤ 1000000; decide, by show (1000000 : Int) ≤ 1000000; decide⟩
  | k + 1 => by
    have h := goF_bd (lim := lim) hOV hU (bo := bo) k
    have h2 := RVv_bd (lim := lim) (pt := pt) (ln := ln) (wi := wi) hOV hU (od := dgs k) (fun j _ => dgs_lt k j)
    unfold goF
    split
    · dsimp only
      split <;> omega
    · exact h
