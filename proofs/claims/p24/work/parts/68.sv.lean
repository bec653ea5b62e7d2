/-! OURS: the numbers stay as they may be -/
section SVC
variable {lim : Int} {no dn : Nat} {gn : Nat → Nat} {gg : Nat → Nat → Nat} {dg nn : Nat → Nat} {pt ln : Nat → Nat → Nat} {wi : Nat → Nat → Int}
theorem SV.init (gn : Nat → Nat) (gg : Nat → Nat → Nat) (pt ln : Nat → Nat → Nat) (wi : Nat → Nat → Int) : SV 3 0 0 gn gg (fun _ => 0) (fun _ => 0) pt ln wi := ⟨by omega, ⟨by omega, fun k hk => absurd hk (Nat.not_lt_zero k)⟩, by omega, fun j hj => absurd hj (Nat.not_lt_zero j), fun t _ => ⟨Nat.zero_le 10, fun i hi => absurd hi (Nat.not_lt_zero i), fun i hi => absurd hi (Nat.not_lt_zero (i + 1))⟩⟩
theorem SV.lims (h : SV lim no dn gn gg dg nn pt ln wi) {z : Int} (hz : 0 ≤ z ∧ z ≤ 8) : SV z no dn gn gg dg nn pt ln wi := ⟨hz, h.2⟩
theorem SV.grace (h : SV lim no dn gn gg dg nn pt ln wi) {g : Nat} (hd : dn < 4) (hg : g ≤ 10) : SV lim no (dn + 1) gn gg (fun j => if j = dn then g else dg j) nn pt ln wi := by
  obtain ⟨h1, h2, h3, h4, h5⟩ := h
  refine ⟨h1, h2, by omega, fun j hj => ?_, h5⟩
  dsimp only
  split
  · exact hg
  · exact h4 j (by omega)
theorem SV.enter (h : SV lim no dn gn gg dg nn pt ln wi) (hd : 1 ≤ dn) (ho : no < 8) : SV lim (no + 1) 0 (fun k => if k = no then dn else gn k) (fun k => if k = no then dg else gg k) dg nn pt ln wi := by
  obtain ⟨h1, h2, h3, h4, h5⟩ := h
  refine ⟨h1, ⟨by omega, fun k hk => ?_⟩, by omega, fun j hj => absurd hj (Nat.not_lt_zero j), h5⟩
  by_cases e : k = no
  · simp only [if_pos e]
    exact ⟨hd, h3, h4⟩
  · simp only [if_neg e]
    exact h2.2 k (by omega)
theorem SV.tun (h : SV lim no dn gn gg dg nn pt ln wi) {t n1 : Nat} {p1 l1 : Nat → Nat} {w1 : Nat → Int} (hT : TuneV n1 p1 l1 w1) : SV lim no dn gn gg dg (upT nn t n1) (upT pt t p1) (upT ln t l1) (upT wi t w1) := by
  obtain ⟨h1, h2, h3, h4, h5⟩ := h
  refine ⟨h1, h2, h3, h4, fun u hu => ?_⟩
  by_cases e : u = t
  · subst e
    rw [upT_eq, upT_eq, upT_eq, upT_eq]
    exact hT
  · rw [upT_ne _ _ e, upT_ne _ _ e, upT_ne _ _ e, upT_ne _ _ e]
    exact h5 u hu
theorem SV.add (h : SV lim no dn gn gg dg nn pt ln wi) {t x mm : Nat} (ht : t < 4) (hx : x < 9) (hm : 1 ≤ mm ∧ mm ≤ 32) (hn : nn t < 10) : SV lim no dn gn gg dg (upT nn t (nn t + 1)) (upT pt t (fun i => if i = nn t then x else pt t i)) (upT ln t (fun i => if i = nn t then mm else ln t i)) (upT wi t (fun i => if i + 1 = nn t then 0 else wi t i)) := by
  have h5 := h.2.2.2.2 t ht
  refine h.tun ⟨by omega, fun i hi => ?_, fun i hi => ?_⟩
  · dsimp only
    by_cases e : i = nn t
    · rw [if_pos e, if_pos e]
      exact ⟨hx, hm⟩
    · rw [if_neg e, if_neg e]
      exact h5.2.1 i (by omega)
  · dsimp only
    by_cases e : i + 1 = nn t
    · rw [if_pos e]
      exact Or.inl rfl
    · rw [if_neg e]
      exact h5.2.2 i (by omega)
theorem SV.rem (h : SV lim no dn gn gg dg nn pt ln wi) {t : Nat} (ht : t < 4) : SV lim no dn gn gg dg (upT nn t (nn t - 1)) pt ln wi := by
  have h5 := h.2.2.2.2 t ht
  have h6 := h.tun (t := t) (n1 := nn t - 1) (p1 := pt t) (l1 := ln t) (w1 := wi t) ⟨by have := h5.1; omega, fun i hi => h5.2.1 i (by omega), fun i hi => h5.2.2 i (by omega)⟩
  rw [upT_self, upT_self, upT_self] at h6
  exact h6
theorem SV.wish (h : SV lim no dn gn gg dg nn pt ln wi) {t i : Nat} {x : Int} (ht : t < 4) (hx : x = 0 ∨ x = 1) : SV lim no dn gn gg dg nn pt ln (upT wi t (fun j => if j = i then x else wi t j)) := by
  have h5 := h.2.2.2.2 t ht
  have h6 := h.tun (t := t) (n1 := nn t) (p1 := pt t) (l1 := ln t) (w1 := fun j => if j = i then x else wi t j) ⟨h5.1, h5.2.1, fun j hj => by
    dsimp only
    split
    · exact hx
    · exact h5.2.2 j hj⟩
  rw [upT_self, upT_self, upT_self] at h6
  exact h6
end SVC
