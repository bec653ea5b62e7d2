/-! OURS: the model's numbers -/
def mvU (a b : Nat) : Nat → Int
  | 0 => 0
  | h + 1 => mvU a b h + (if (hbit a ^^^ hbit b).testBit h = true then 1 else 0)
theorem mvU_8 : ∀ a, a < 9 → ∀ b, b < 9 → mvU a b 8 = mv a b := by decide +kernel
theorem bitN : ∀ a, a < 9 → ∀ b, b < 9 → ∀ h : Nat, h < 8 → (((zI (closedN a) ^^^ zI (closedN b)) >>> (zI (h : Int) &&& 31)) &&& zI 1) = zI (if (hbit a ^^^ hbit b).testBit h = true then 1 else 0) := by decide +kernel
theorem crM : ∀ a, a < 9 → ∀ b, b < 9 → ((zI (closedN a) &&& (zI (closedN b) ^^^ zI (-1))) = 0 ↔ (hbit a &&& (hbit b ^^^ 255)) = 0) := by decide +kernel
theorem mvU_bd (a b : Nat) : ∀ h, 0 ≤ mvU a b h ∧ mvU a b h ≤ h
  | 0 => ⟨Int.le_refl 0, Int.le_refl 0⟩
  | h + 1 => by
    have := mvU_bd a b h
    unfold mvU
    split <;> omega
/-- what stands between two notes, not cut off; the option o: none, or the ornament o - 1 -/
def bw (lim : Int) (gn : Nat → Nat) (gg : Nat → Nat → Nat) (x m y o : Nat) : Int :=
  if o = 0 then stp lim x y else (if gn (o - 1) < m then 0 else 1000000) + orS lim (gg (o - 1)) x y (gn (o - 1)) + stp lim (orF (gg (o - 1)) x y (gn (o - 1))) y
theorem bw_bd {lim : Int} {no : Nat} {gn : Nat → Nat} {gg : Nat → Nat → Nat} {x m y o : Nat} (hn : ∀ j, j < no → gn j ≤ 4 ∧ ∀ i, i < gn j → gg j i ≤ 10) (hx : x < 9) (hy : y < 9) (ho : o ≤ no) : 0 ≤ bw lim gn gg x m y o ∧ bw lim gn gg x m y o ≤ 6000000 := by
  unfold bw
  split
  · have := stp_bd (lim := lim) hx hy
    omega
  · have h := hn (o - 1) (by omega)
    have h1 := orS_bd h.2 hx hy (lim := lim) (gn (o - 1)) (Nat.le_refl _)
    have h2 := stp_bd (lim := lim) (orF_lt h.2 hx hy (gn (o - 1)) (Nat.le_refl _)) hy
    split <;> omega
def atc (lim : Int) (gn : Nat → Nat) (gg : Nat → Nat → Nat) (rp rl : Nat → Nat) (rw : Nat → Int) (i o : Nat) : Int := if o = 0 ∧ rw i ≠ 0 then 1000000 else bw lim gn gg (rp i) (rl i) (rp (i + 1)) o
def caU (at_ Ln Wn Mn : Nat → Int) (a : Nat) : Nat → Int × Int × Int
  | 0 => (1000000, 0, -1000000)
  | o + 1 => if at_ o < 1000000 ∧ (o = 0 ∨ o ≠ a) ∧ 0 < Wn o then
      (if at_ o + Ln o < (caU at_ Ln Wn Mn a o).1 then at_ o + Ln o else (caU at_ Ln Wn Mn a o).1, if 500000000 < (caU at_ Ln Wn Mn a o).2.1 + Wn o then 500000000 else (caU at_ Ln Wn Mn a o).2.1 + Wn o, if (caU at_ Ln Wn Mn a o).2.2 < Mn o + (if o = 0 then 0 else 1) then Mn o + (if o = 0 then 0 else 1) else (caU at_ Ln Wn Mn a o).2.2)
      else caU at_ Ln Wn Mn a o
theorem caU_bd {at_ Ln Wn Mn : Nat → Int} {a : Nat} {K : Int} (hK : 0 ≤ K) : ∀ n, (∀ o, o < n → 0 ≤ at_ o) → (∀ o, o < n → 0 ≤ Ln o) → (∀ o, o < n → 0 ≤ Wn o) → (∀ o, o < n → Mn o ≤ K) → 0 ≤ (caU at_ Ln Wn Mn a n).1 ∧ (caU at_ Ln Wn Mn a n).1 ≤ 1000000 ∧ 0 ≤ (caU at_ Ln Wn Mn a n).2.1 ∧ (caU at_ Ln Wn Mn a n).2.1 ≤ 500000000 ∧ -1000000 ≤ (caU at_ Ln Wn Mn a n).2.2 ∧ (caU at_ Ln Wn Mn a n).2.2 ≤ K + 1
  | 0, _, _, _, _ => by
    unfold caU
    dsimp only
    omega
  | n + 1, h1, h2, h3, h4 => by
    have h := caU_bd hK n (fun o ho => h1 o (by omega)) (fun o ho => h2 o (by omega)) (fun o ho => h3 o (by omega)) (fun o ho => h4 o (by omega)) (a := a)
    have e1 := h1 n (by omega)
    have e2 := h2 n (by omega)
    have e3 := h3 n (by omega)
    have e4 := h4 n (by omega)
    unfold caU
    split
    · dsimp only
      refine ⟨?_, ?_, ?_, ?_, ?_, ?_⟩ <;> split <;> (try split) <;> omega
    · omega
def lwm (at_ : Nat → Nat → Int) (no : Nat) : Nat → Nat → Nat → Int × Int × Int
  | 0, _, _ => (0, 1, 0)
  | k + 1, i, a => caU (at_ i) (fun o => (lwm at_ no k (i + 1) o).1) (fun o => (lwm at_ no k (i + 1) o).2.1) (fun o => (lwm at_ no k (i + 1) o).2.2) a (no + 1)
theorem lwm_bd {at_ : Nat → Nat → Int} {no : Nat} : ∀ k i a, (∀ j o, i ≤ j → j < i + k → o ≤ no → 0 ≤ at_ j o) → 0 ≤ (lwm at_ no k i a).1 ∧ (lwm at_ no k i a).1 ≤ 1000000 ∧ 0 ≤ (lwm at_ no k i a).2.1 ∧ (lwm at_ no k i a).2.1 ≤ 500000000 ∧ -1000000 ≤ (lwm at_ no k i a).2.2 ∧ (lwm at_ no k i a).2.2 ≤ (k : Int)
  | 0, i, a, _ => by
    unfold lwm
    dsimp only
    omega
  | k + 1, i, a, h => by
    have hh := fun o => lwm_bd k (i + 1) o (fun j o h1 h2 h3 => h j o (by omega) (by omega) h3)
    have := caU_bd (K := (k : Int)) (by omega) (no + 1) (fun o ho => h i o (by omega) (by omega) (by omega)) (fun o _ => (hh o).1) (fun o _ => (hh o).2.2.1) (fun o _ => (hh o).2.2.2.2.2) (a := a)
    unfold lwm
    omega
