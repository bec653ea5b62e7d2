/-! OURS: rows of gaps, in numbers -/
theorem flb_min {g : Nat → Int} (a o : Nat) : ∀ n, o < n → (o = 0 ∨ o ≠ a) → g (flbU g a n) ≤ g o
  | 0, h, _ => absurd h (Nat.not_lt_zero _)
  | n + 1, h, ho => by
    by_cases hn : o < n
    · have h1 := flb_min a o n hn ho (g := g)
      unfold flbU
      split <;> omega
    · have e : o = n := by omega
      subst e
      by_cases h0 : o = 0
      · subst h0
        simp [flbU]
      · unfold flbU
        split
        · exact Int.le_refl _
        · omega
theorem growF_bd {g v : Nat → Int} (hg : ∀ j, j < 9 → 0 ≤ g j ∧ g j ≤ 1000000) (hv : ∀ j, j < 9 → 0 ≤ v j ∧ v j ≤ 1000000) : ∀ j, j < 9 → 0 ≤ growF g v j ∧ growF g v j ≤ 1000000 := by
  intro j hj
  have h1 := hg _ (flb_lt g 0)
  have h2 := hg _ (flb_lt g (flb g 0))
  have h3 := hv j hj
  unfold growF
  split <;> omega
theorem startF_bd : ∀ j, j < 9 → 0 ≤ startF j ∧ startF j ≤ 1000000 := by
  intro j _
  unfold startF
  split <;> omega
/-- the rows from the last gap backwards: k gaps from the gap i on -/
def Rr (w : Nat → Nat → Int) : Nat → Nat → Nat → Int
  | 0, _ => startF
  | k + 1, i => growF (Rr w k (i + 1)) (w i)
theorem Rr_bd {w : Nat → Nat → Int} (hw : ∀ i j, j < 9 → 0 ≤ w i j ∧ w i j ≤ 1000000) : ∀ k i j, j < 9 → 0 ≤ Rr w k i j ∧ Rr w k i j ≤ 1000000
  | 0, _, j, hj => startF_bd j hj
  | k + 1, i, j, hj => growF_bd (Rr_bd hw k (i + 1)) (hw i) j hj
/-- the first choice with the least cost: the option at the gap i - 1 -/
def optN (R : Nat → Nat → Int) : Nat → Nat
  | 0 => 0
  | i + 1 => flb (R i) (optN R i)
theorem optN_lt (R : Nat → Nat → Int) : ∀ i, optN R i < 9
  | 0 => Nat.lt_of_sub_eq_succ rfl
  | i + 1 => flb_lt _ _
/-- the rows from the first gap onwards -/
def Fr (w : Nat → Nat → Int) : Nat → Nat → Int
  | 0 => startF
  | k + 1 => growF (Fr w k) (w k)
theorem Fr_bd {w : Nat → Nat → Int} : ∀ k, (∀ i, i < k → ∀ j, j < 9 → 0 ≤ w i j ∧ w i j ≤ 1000000) → ∀ j, j < 9 → 0 ≤ Fr w k j ∧ Fr w k j ≤ 1000000
  | 0, _ => startF_bd
  | k + 1, hw => growF_bd (Fr_bd k (fun i hi => hw i (by omega))) (hw k (by omega))
def ewF (v : Nat → Int) : Nat → Int := fun o => if v o < 1000000 then (if o = 0 then 1 else 0) else 1000000
theorem ewF_bd (v : Nat → Int) : ∀ j, 0 ≤ ewF v j ∧ ewF v j ≤ 1000000 := by
  intro j
  unfold ewF
  split
  · split <;> omega
  · omega
/-- sums over the first options -/
def sumU (f : Nat → Int) : Nat → Int
  | 0 => 0
  | n + 1 => sumU f n + f n
theorem sumU_congr {f g : Nat → Int} : ∀ n, (∀ j, j < n → f j = g j) → sumU f n = sumU g n
  | 0, _ => rfl
  | n + 1, h => by
    unfold sumU
    rw [sumU_congr n (fun j hj => h j (by omega)), h n (by omega)]
/-- counting one gap further -/
def cntF (v cn : Nat → Int) (all : Int) : Nat → Int := fun o => if v o < 1000000 then all - (if o = 0 then 0 else cn o) else 0
def cS (w : Nat → Nat → Int) : Nat → (Nat → Int) × Int
  | 0 => (fun o => if o = 0 then 1 else 0, 1)
  | k + 1 => (cntF (w k) (cS w k).1 (cS w k).2, sumU (cntF (w k) (cS w k).1 (cS w k).2) 9)
