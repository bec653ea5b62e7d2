/-! OURS: orders of tunes, in numbers -/
def upN (g : Nat → Nat) (j v : Nat) : Nat → Nat := fun i => if i = j then v else g i
/-- the tunes that have notes, in their order -/
def sO (nn : Nat → Nat) (od : Nat → Nat) : Nat → Nat × (Nat → Nat)
  | 0 => (0, od)
  | t + 1 => if 0 < nn t then ((sO nn od t).1 + 1, upN (sO nn od t).2 (sO nn od t).1 t) else sO nn od t
theorem sO_le (nn od : Nat → Nat) : ∀ t, (sO nn od t).1 ≤ t ∧ ∀ j, j < (sO nn od t).1 → (sO nn od t).2 j < t ∧ 0 < nn ((sO nn od t).2 j)
  | 0 => ⟨Nat.le_refl 0, fun j hj => absurd hj (Nat.not_lt_zero j)⟩
  | t + 1 => by
    have h := sO_le nn od t
    unfold sO
    split
    · rename_i hn
      refine ⟨by have := h.1; show _ + 1 ≤ _; omega, fun j hj => ?_⟩
      dsimp only [upN]
      split
      · exact ⟨by omega, hn⟩
      · have hj' : j < (sO nn od t).1 + 1 := hj
        have := h.2 j (by omega)
        exact ⟨by omega, this.2⟩
    · exact ⟨by omega, fun j hj => ⟨by have := (h.2 j hj).1; omega, (h.2 j hj).2⟩⟩
def exF (od : Nat → Nat) (a b : Nat) : Nat → Nat := fun i => if i = b then od a else if i = a then od b else od i
/-- the turn plus one, looked for from k - 1 downwards -/
def tnF (od : Nat → Nat) : Nat → Nat
  | 0 => 0
  | k + 1 => if od (k + 1) < od k then tnF od k else k + 1
def nxF (od : Nat → Nat) (t : Nat) : Nat → Nat
  | 0 => 0
  | k + 1 => if t < k + 1 ∧ od (k + 1) < od t then nxF od t k else k + 1
def rvF : Nat → (Nat → Nat) → Nat → Nat → (Nat → Nat)
  | 0, od, _, _ => od
  | k + 1, od, a, b => if a < b then rvF k (exF od a b) (a + 1) (b - 1) else od
theorem tnF_le (od : Nat → Nat) : ∀ k, tnF od k ≤ k
  | 0 => Nat.le_refl 0
  | k + 1 => by
    have := tnF_le od k
    unfold tnF
    split <;> omega
theorem nxF_le (od : Nat → Nat) (t : Nat) : ∀ k, nxF od t k ≤ k
  | 0 => Nat.le_refl 0
  | k + 1 => by
    have := nxF_le od t k
    unfold nxF
    split <;> omega
/-- the next order of m tunes -/
def nxO (m : Nat) (od : Nat → Nat) : Nat → Nat := if tnF od (m - 1) = 0 then od else rvF 4 (exF od (tnF od (m - 1) - 1) (nxF od (tnF od (m - 1) - 1) (m - 1))) (tnF od (m - 1)) (m - 1)
/-- a row of gaps behind a tune's first k gaps -/
def plF (v : Nat → Nat → Int) (cur : Nat → Int) : Nat → Nat → Int
  | 0 => cur
  | k + 1 => growF (plF v cur k) (v k)
/-- a row of gaps behind the first p tunes of an order -/
def cOF (nn : Nat → Nat) (cw : Nat → Nat → Nat → Int) (jw : Nat → Nat → Nat → Int) (od : Nat → Nat) : Nat → Nat → Int
  | 0 => startF
  | p + 1 => plF (cw (od p)) (if p = 0 then cOF nn cw jw od p else growF (cOF nn cw jw od p) (jw (od (p - 1)) (od p))) (nn (od p) - 1)
theorem plF_bd {v : Nat → Nat → Int} {cur : Nat → Int} (hc : ∀ j, j < 9 → 0 ≤ cur j ∧ cur j ≤ 1000000) (hv : ∀ i j, j < 9 → 0 ≤ v i j ∧ v i j ≤ 1000000) : ∀ k j, j < 9 → 0 ≤ plF v cur k j ∧ plF v cur k j ≤ 1000000
  | 0, j, hj => hc j hj
  | k + 1, j, hj => growF_bd (plF_bd hc hv k) (hv k) j hj
theorem cOF_bd {nn : Nat → Nat} {cw : Nat → Nat → Nat → Int} {jw : Nat → Nat → Nat → Int} {od : Nat → Nat} (hcw : ∀ t i j, j < 9 → 0 ≤ cw t i j ∧ cw t i j ≤ 1000000) (hjw : ∀ a b j, j < 9 → 0 ≤ jw a b j ∧ jw a b j ≤ 1000000) : ∀ p j, j < 9 → 0 ≤ cOF nn cw jw od p j ∧ cOF nn cw jw od p j ≤ 1000000
  | 0, j, hj => startF_bd j hj
  | p + 1, j, hj => by
    refine plF_bd (fun i hi => ?_) (hcw _) _ j hj
    split
    · exact cOF_bd hcw hjw p i hi
    · exact growF_bd (cOF_bd hcw hjw p) (hjw _ _) i hi
/-- the search: how many orders have a choice, the least cost, the order at hand, the best one, whether there are more -/
def tA (m : Nat) (Co : (Nat → Nat) → Int) (od bt : Nat → Nat) : Nat → Int × Int × (Nat → Nat) × (Nat → Nat) × Bool
  | 0 => (0, 1000000, od, bt, true)
  | i + 1 =>
    let s := tA m Co od bt i
    if s.2.2.2.2 = true then
      (if Co s.2.2.1 < 1000000 then s.1 + 1 else s.1, if Co s.2.2.1 < 1000000 ∧ Co s.2.2.1 < s.2.1 then Co s.2.2.1 else s.2.1, nxO m s.2.2.1, if Co s.2.2.1 < 1000000 ∧ Co s.2.2.1 < s.2.1 then (fun j => if j < m then s.2.2.1 j else s.2.2.2.1 j) else s.2.2.2.1, decide (tnF s.2.2.1 (m - 1) ≠ 0))
    else s
