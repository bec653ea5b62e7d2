/-! OURS: what the calls answer, in numbers -/
def hbit : Nat → Nat := fun j => ([255, 127, 63, 159, 143, 119, 115, 113, 114] : List Nat).getD j 0
/-- the cost of a movement, whether it crosses -/
def mvN (a b : Nat) : Nat := ((List.range 8).filter (fun h => (hbit a ^^^ hbit b).testBit h)).length
def mv (a b : Nat) : Int := (mvN a b : Int)
def crs (a b : Nat) : Bool := (hbit a &&& (hbit b ^^^ 255)) != 0 && (hbit b &&& (hbit a ^^^ 255)) != 0
def brd (lim : Int) (a b : Nat) : Bool := crs a b && decide (lim < mv a b)
def stp (lim : Int) (a b : Nat) : Int := if a = b ∨ brd lim a b = true then 1000000 else mv a b
theorem mvN_le : ∀ a, a < 9 → ∀ b, b < 9 → mvN a b ≤ 8 := by decide +kernel
theorem mvN_same : ∀ a, a < 9 → mvN a a = 0 := by decide +kernel
theorem crs_same : ∀ a, a < 9 → crs a a = false := by decide +kernel
theorem mv_bd {a b : Nat} (ha : a < 9) (hb : b < 9) : 0 ≤ mv a b ∧ mv a b ≤ 8 := by
  have := mvN_le a ha b hb
  unfold mv
  omega
theorem stp_bd {lim : Int} {a b : Nat} (ha : a < 9) (hb : b < 9) : 0 ≤ stp lim a b ∧ stp lim a b ≤ 1000000 ∧ (stp lim a b < 1000000 → stp lim a b ≤ 8) := by
  have := mv_bd ha hb
  unfold stp
  split <;> omega
/-- how many movements are barred -/
def brdRow (lim : Int) (a : Nat) : Nat → Int
  | 0 => 0
  | n + 1 => brdRow lim a n + (if brd lim a n = true then 1 else 0)
def brdAll (lim : Int) : Nat → Int
  | 0 => 0
  | n + 1 => brdAll lim n + brdRow lim n 9
theorem brdRow_bd (lim : Int) (a : Nat) : ∀ n, 0 ≤ brdRow lim a n ∧ brdRow lim a n ≤ n
  | 0 => ⟨Int.le_refl 0, Int.le_refl 0⟩
  | n + 1 => by
    have := brdRow_bd lim a n
    unfold brdRow
    split <;> omega
theorem brdAll_bd (lim : Int) : ∀ n, 0 ≤ brdAll lim n ∧ brdAll lim n ≤ 9 * n
  | 0 => ⟨Int.le_refl 0, Int.le_refl 0⟩
  | n + 1 => by
    have := brdAll_bd lim n
    have := brdRow_bd lim n 9
    unfold brdAll
    omega
/-- the first option with the least cost of those that may stand beside one: the loop's state behind the options below n -/
def flbU (g : Nat → Int) (a : Nat) : Nat → Nat
  | 0 => 0
  | n + 1 => if n ≠ a ∧ n ≠ 0 ∧ g n < g (flbU g a n) then n else flbU g a n
def flb (g : Nat → Int) (a : Nat) : Nat := flbU g a 9
theorem flbU_lt (g : Nat → Int) (a : Nat) : ∀ n, flbU g a n ≤ n - 1 ∧ (flbU g a n = 0 ∨ flbU g a n ≠ a)
  | 0 => ⟨Nat.le_refl 0, Or.inl rfl⟩
  | n + 1 => by
    have := flbU_lt g a n
    unfold flbU
    split <;> omega
theorem flb_lt (g : Nat → Int) (a : Nat) : flb g a < 9 := by
  have := (flbU_lt g a 9).1
  unfold flb
  omega
theorem flbU_one (g : Nat → Int) (a : Nat) : flbU g a 1 = 0 := by simp [flbU]
theorem flbU_congr {g g' : Nat → Int} {a : Nat} : ∀ n, (∀ j, j < n → g j = g' j) → (0 < n → g 0 = g' 0) → flbU g a n = flbU g' a n
  | 0, _, _ => rfl
  | n + 1, h, h0 => by
    have e := flbU_congr (a := a) n (fun j hj => h j (by omega)) (fun _ => h0 (by omega))
    have hlt := (flbU_lt g' a n).1
    unfold flbU
    rw [e, h n (by omega), h (flbU g' a n) (by omega)]
/-- one more gap -/
def growF (g v : Nat → Int) : Nat → Int := fun o => min 1000000 ((if o = flb g 0 then g (flb g (flb g 0)) else g (flb g 0)) + v o)
def startF : Nat → Int := fun o => if o = 0 then 0 else 1000000
def lessOf (g : Nat → Int) : Int := g (flb g 0)
/-- a grace note's pitch -/
def snd (g x y : Nat) : Nat := if g = 9 then y else if g = 10 then x else g
theorem snd_lt {g x y : Nat} (hg : g ≤ 10) (hx : x < 9) (hy : y < 9) : snd g x y < 9 := by
  unfold snd
  split
  · exact hy
  · split
    · exact hx
    · omega
/-- along an ornament's grace notes: the pitch behind the first i, and what they cost -/
def orF (gr : Nat → Nat) (x y : Nat) : Nat → Nat
  | 0 => x
  | i + 1 => snd (gr i) x y
def orS (lim : Int) (gr : Nat → Nat) (x y : Nat) : Nat → Int
  | 0 => 0
  | i + 1 => orS lim gr x y i + stp lim (orF gr x y i) (snd (gr i) x y)
theorem orF_lt {gr : Nat → Nat} {x y n : Nat} (hg : ∀ j, j < n → gr j ≤ 10) (hx : x < 9) (hy : y < 9) : ∀ i, i ≤ n → orF gr x y i < 9
  | 0, _ => hx
  | i + 1, h => snd_lt (hg i (by omega)) hx hy
theorem orS_bd {lim : Int} {gr : Nat → Nat} {x y n : Nat} (hg : ∀ j, j < n → gr j ≤ 10) (hx : x < 9) (hy : y < 9) : ∀ i, i ≤ n → 0 ≤ orS lim gr x y i ∧ orS lim gr x y i ≤ 1000000 * i ∧ (orS lim gr x y i < 1000000 → orS lim gr x y i ≤ 8 * i)
  | 0, _ => ⟨Int.le_refl 0, Int.le_refl 0, fun _ => Int.le_refl 0⟩
  | i + 1, h => by
    have h1 := orS_bd hg hx hy (lim := lim) i (by omega)
    have h2 := stp_bd (lim := lim) (orF_lt hg hx hy i (by omega)) (snd_lt (hg i (by omega)) hx hy)
    unfold orS
    omega
/-- what an ornament of n grace notes costs between two notes; 1000000 if it doesn't fit -/
def orC (lim : Int) (n : Nat) (gr : Nat → Nat) (x m y : Nat) : Int := if m ≤ n then 1000000 else min 1000000 (orS lim gr x y n + stp lim (orF gr x y n) y)
theorem orC_bd {lim : Int} {n : Nat} {gr : Nat → Nat} {x m y : Nat} (hn : n ≤ 4) (hg : ∀ j, j < n → gr j ≤ 10) (hx : x < 9) (hy : y < 9) : 0 ≤ orC lim n gr x m y ∧ orC lim n gr x m y ≤ 1000000 ∧ (orC lim n gr x m y < 1000000 → orC lim n gr x m y ≤ 40) := by
  have h1 := orS_bd hg hx hy (lim := lim) n (by omega)
  have h2 := stp_bd (lim := lim) (orF_lt hg hx hy n (by omega)) hy
  unfold orC
  split <;> omega
/-- what stands at a gap costs: option 0 is none, o the ornament o - 1 -/
def gapC (lim : Int) (no : Nat) (gn : Nat → Nat) (gg : Nat → Nat → Nat) (x m y : Nat) (wish : Int) (o : Nat) : Int :=
  if o = 0 then (if wish = 0 then stp lim x y else 1000000) else if o - 1 < no then orC lim (gn (o - 1)) (gg (o - 1)) x m y else 1000000
theorem gapC_bd {lim : Int} {no : Nat} {gn : Nat → Nat} {gg : Nat → Nat → Nat} {x m y : Nat} {wish : Int} (hn : ∀ j, j < no → gn j ≤ 4 ∧ ∀ i, i < gn j → gg j i ≤ 10) (hx : x < 9) (hy : y < 9) (o : Nat) : 0 ≤ gapC lim no gn gg x m y wish o ∧ gapC lim no gn gg x m y wish o ≤ 1000000 ∧ (gapC lim no gn gg x m y wish o < 1000000 → gapC lim no gn gg x m y wish o ≤ 40) := by
  unfold gapC
  split
  · split
    · have := stp_bd (lim := lim) hx hy
      omega
    · omega
  · split
    · rename_i h
      exact orC_bd (hn _ h).1 (hn _ h).2 hx hy
    · omega
