/-! OURS: the helpers over any numbers: what is told and what is left depend on the numbers alone -/
def ActR (P : PT) (told : Int) (P1 : PT) : Prop := bnd told ∧ SVt P1 ∧ (told = -99999 → P1 = P)
theorem toN {z : Int} (h : 0 ≤ z) : ∃ t : Nat, z = (t : Int) := ⟨z.toNat, by omega⟩
theorem h_setLimit (l : Launch) (hsT : l.stackTraces = false) {P : PT} (hV : SVt P) {z : Int} (hbz : bnd z) : ∃ (told : Int) (P1 : PT), ActR P told P1 ∧ ∀ (D : va_G) (G : Nat → ClassId) (ad : Nat → Nat) (N : Nat) (c : Nat → va_E), N = 120 + 2 * P.2.1 → DKt G ad c P → MC l yL_setLimit wsL_setLimit rm_L_setLimit [.ref (ad 0), .int (zI z)] D G ad N c (qI D G wI (hP G ad told P1)) 2 6 := by
  obtain ⟨lim, no, dn, gn, gg, dg, nn, pt, ln, wi⟩ := P
  have hV : SV lim no dn gn gg dg nn pt ln wi := hV
  by_cases hok : 0 ≤ z ∧ z ≤ 8
  · have hb := brdAll_bd z 9
    exact ⟨brdAll z 9, (z, no, dn, gn, gg, dg, nn, pt, ln, wi), ⟨⟨by omega, by omega⟩, hV.lims hok, fun h => by omega⟩, fun D G ad N c hN hD => c_L_setLimit l D G ad N c hN hD hV hbz hok⟩
  · exact ⟨-99999, (lim, no, dn, gn, gg, dg, nn, pt, ln, wi), ⟨⟨by decide, by decide⟩, hV, fun _ => rfl⟩, fun D G ad N c hN hD => x_L_setLimit l hsT D G ad N c hN hD hV hbz hok⟩
theorem h_grace (l : Launch) (hsT : l.stackTraces = false) {P : PT} (hV : SVt P) {z : Int} (hbz : bnd z) : ∃ (told : Int) (P1 : PT), ActR P told P1 ∧ ∀ (D : va_G) (G : Nat → ClassId) (ad : Nat → Nat) (N : Nat) (c : Nat → va_E), N = 120 + 2 * P.2.1 → DKt G ad c P → MC l yL_grace wsL_grace rm_L_grace [.ref (ad 0), .int (zI z)] D G ad N c (qI D G wI (hP G ad told P1)) 2 6 := by
  obtain ⟨lim, no, dn, gn, gg, dg, nn, pt, ln, wi⟩ := P
  have hV : SV lim no dn gn gg dg nn pt ln wi := hV
  have hd4 := hV.2.2.1
  by_cases hok : 0 ≤ z ∧ z ≤ 10
  · obtain ⟨g, rfl⟩ := toN hok.1
    have hg : g ≤ 10 := by omega
    by_cases hd : dn < 4
    · exact ⟨((dn + 1 : Nat) : Int), (lim, no, dn + 1, gn, gg, fun j => if j = dn then g else dg j, nn, pt, ln, wi), ⟨⟨by omega, by omega⟩, hV.grace hd hg, fun h => by omega⟩, fun D G ad N c hN hD => c_L_grace l D G ad N c hN hD hV hg hd⟩
    · have hd9 : dn = 4 := by omega
      exact ⟨-99999, (lim, no, dn, gn, gg, dg, nn, pt, ln, wi), ⟨⟨by decide, by decide⟩, hV, fun _ => rfl⟩, fun D G ad N c hN hD => x_L_grace2 l hsT D G ad N c hN hD hV hg hd9⟩
  · exact ⟨-99999, (lim, no, dn, gn, gg, dg, nn, pt, ln, wi), ⟨⟨by decide, by decide⟩, hV, fun _ => rfl⟩, fun D G ad N c hN hD => x_L_grace1 l hsT D G ad N c hN hD hV hbz hok⟩
theorem h_enter (l : Launch) (hsT : l.stackTraces = false) {P : PT} (hV : SVt P) : ∃ (told : Int) (P1 : PT), ActR P told P1 ∧ ∀ (D : va_G) (G : Nat → ClassId) (ad : Nat → Nat) (N : Nat) (c : Nat → va_E), N = 120 + 2 * P.2.1 → DKt G ad c P → MC l yL_enter wsL_enter rm_L_enter [.ref (ad 0)] D G ad N c (qI D G wI (hP G ad told P1)) 2 6 := by
  obtain ⟨lim, no, dn, gn, gg, dg, nn, pt, ln, wi⟩ := P
  have hV : SV lim no dn gn gg dg nn pt ln wi := hV
  have h8 := hV.2.1.1
  by_cases hd : dn = 0
  · exact ⟨-99999, (lim, no, dn, gn, gg, dg, nn, pt, ln, wi), ⟨⟨by decide, by decide⟩, hV, fun _ => rfl⟩, fun D G ad N c hN hD => x_L_enter1 l hsT D G ad N c hN hD hV hd⟩
  · by_cases ho : no < 8
    · exact ⟨(no : Int), (lim, no + 1, 0, fun k => if k = no then dn else gn k, fun k => if k = no then dg else gg k, dg, nn, pt, ln, wi), ⟨⟨by omega, by omega⟩, hV.enter (by omega) ho, fun h => by omega⟩, fun D G ad N c hN hD => c_L_enter l D G ad N c hN hD hV (by omega) ho⟩
    · exact ⟨-99999, (lim, no, dn, gn, gg, dg, nn, pt, ln, wi), ⟨⟨by decide, by decide⟩, hV, fun _ => rfl⟩, fun D G ad N c hN hD => x_L_enter2 l hsT D G ad N c hN hD hV (by omega) (by omega)⟩
theorem h_addNote (l : Launch) (hsT : l.stackTraces = false) {P : PT} (hV : SVt P) {zt zx zm : Int} (hbt : bnd zt) (hbx : bnd zx) (hbm : bnd zm) : ∃ (told : Int) (P1 : PT), ActR P told P1 ∧ ∀ (D : va_G) (G : Nat → ClassId) (ad : Nat → Nat) (N : Nat) (c : Nat → va_E), N = 120 + 2 * P.2.1 → DKt G ad c P → MC l yL_addNote wsL_addNote rm_L_addNote [.ref (ad 0), .int (zI zt), .int (zI zx), .int (zI zm)] D G ad N c (qI D G wI (hP G ad told P1)) 2 6 := by
  obtain ⟨lim, no, dn, gn, gg, dg, nn, pt, ln, wi⟩ := P
  have hV : SV lim no dn gn gg dg nn pt ln wi := hV
  by_cases hok : (0 ≤ zt ∧ zt ≤ 3) ∧ (0 ≤ zx ∧ zx ≤ 8) ∧ 1 ≤ zm ∧ zm ≤ 32
  · obtain ⟨t, rfl⟩ := toN hok.1.1
    obtain ⟨x, rfl⟩ := toN hok.2.1.1
    obtain ⟨mm, rfl⟩ := toN (show 0 ≤ zm by omega)
    have ht : t < 4 := by omega
    have hx9 : x < 9 := by omega
    have hmm : 1 ≤ mm ∧ mm ≤ 32 := by omega
    have hnt := (hV.2.2.2.2 t ht).1
    by_cases hn : nn t < 10
    · exact ⟨((nn t + 1 : Nat) : Int), (lim, no, dn, gn, gg, dg, upT nn t (nn t + 1), upT pt t (fun i => if i = nn t then x else pt t i), upT ln t (fun i => if i = nn t then mm else ln t i), upT wi t (fun i => if i + 1 = nn t then 0 else wi t i)), ⟨⟨by omega, by omega⟩, hV.add ht hx9 hmm hn, fun h => by omega⟩, fun D G ad N c hN hD => c_L_addNote l D G ad N c hN hD hV ht hx9 hmm hn⟩
    · have hn9 : nn t = 10 := by omega
      exact ⟨-99999, (lim, no, dn, gn, gg, dg, nn, pt, ln, wi), ⟨⟨by decide, by decide⟩, hV, fun _ => rfl⟩, fun D G ad N c hN hD => x_L_addNote2 l hsT D G ad N c hN hD hV ht hx9 hmm hn9⟩
  · exact ⟨-99999, (lim, no, dn, gn, gg, dg, nn, pt, ln, wi), ⟨⟨by decide, by decide⟩, hV, fun _ => rfl⟩, fun D G ad N c hN hD => x_L_addNote1 l hsT D G ad N c hN hD hV hbt hbx hbm hok⟩
theorem h_removeNote (l : Launch) (hsT : l.stackTraces = false) {P : PT} (hV : SVt P) {zt : Int} (hbt : bnd zt) : ∃ (told : Int) (P1 : PT), ActR P told P1 ∧ ∀ (D : va_G) (G : Nat → ClassId) (ad : Nat → Nat) (N : Nat) (c : Nat → va_E), N = 120 + 2 * P.2.1 → DKt G ad c P → MC l yL_removeNote wsL_removeNote rm_L_removeNote [.ref (ad 0), .int (zI zt)] D G ad N c (qI D G wI (hP G ad told P1)) 2 6 := by
  obtain ⟨lim, no, dn, gn, gg, dg, nn, pt, ln, wi⟩ := P
  have hV : SV lim no dn gn gg dg nn pt ln wi := hV
  by_cases hok : 0 ≤ zt ∧ zt ≤ 3
  · obtain ⟨t, rfl⟩ := toN hok.1
    have ht : t < 4 := by omega
    by_cases hn : nn t = 0
    · exact ⟨-99999, (lim, no, dn, gn, gg, dg, nn, pt, ln, wi), ⟨⟨by decide, by decide⟩, hV, fun _ => rfl⟩, fun D G ad N c hN hD => x_L_removeNote2 l hsT D G ad N c hN hD hV ht hn⟩
    · have h9 := ((hV.2.2.2.2 t ht).2.1 (nn t - 1) (by omega)).1
      have hn9 : 0 < nn t := by omega
      exact ⟨(pt t (nn t - 1) : Int), (lim, no, dn, gn, gg, dg, upT nn t (nn t - 1), pt, ln, wi), ⟨⟨by omega, by omega⟩, hV.rem ht, fun h => by omega⟩, fun D G ad N c hN hD => c_L_removeNote l D G ad N c hN hD hV ht hn9⟩
  · exact ⟨-99999, (lim, no, dn, gn, gg, dg, nn, pt, ln, wi), ⟨⟨by decide, by decide⟩, hV, fun _ => rfl⟩, fun D G ad N c hN hD => x_L_removeNote1 l hsT D G ad N c hN hD hV hbt hok⟩
theorem h_setWish (l : Launch) (hsT : l.stackTraces = false) {P : PT} (hV : SVt P) {zt zi xw : Int} (hbt : bnd zt) (hbi : bnd zi) (hxw : xw = 0 ∨ xw = 1) : ∃ (told : Int) (P1 : PT), ActR P told P1 ∧ ∀ (D : va_G) (G : Nat → ClassId) (ad : Nat → Nat) (N : Nat) (c : Nat → va_E), N = 120 + 2 * P.2.1 → DKt G ad c P → MC l yL_setWish wsL_setWish rm_L_setWish [.ref (ad 0), .int (zI zt), .int (zI zi), .int (zI xw)] D G ad N c (qI D G wI (hP G ad told P1)) 2 6 := by
  obtain ⟨lim, no, dn, gn, gg, dg, nn, pt, ln, wi⟩ := P
  have hV : SV lim no dn gn gg dg nn pt ln wi := hV
  by_cases hok : 0 ≤ zt ∧ zt ≤ 3
  · obtain ⟨t, rfl⟩ := toN hok.1
    have ht : t < 4 := by omega
    by_cases hg : 0 ≤ zi ∧ zi ≤ (nn t : Int) - 2
    · obtain ⟨i, rfl⟩ := toN hg.1
      have hi : i + 1 < nn t := by omega
      have h01 := (hV.2.2.2.2 t ht).2.2 i hi
      exact ⟨wi t i, (lim, no, dn, gn, gg, dg, nn, pt, ln, upT wi t (fun j => if j = i then xw else wi t j)), ⟨by rcases h01 with h | h <;> rw [h] <;> exact ⟨by decide, by decide⟩, hV.wish ht hxw, fun h => by omega⟩, fun D G ad N c hN hD => c_L_setWish l D G ad N c hN hD hV ht hi hxw⟩
    · exact ⟨-99999, (lim, no, dn, gn, gg, dg, nn, pt, ln, wi), ⟨⟨by decide, by decide⟩, hV, fun _ => rfl⟩, fun D G ad N c hN hD => x_L_setWish2 l hsT D G ad N c hN hD hV ht hbi hg⟩
  · exact ⟨-99999, (lim, no, dn, gn, gg, dg, nn, pt, ln, wi), ⟨⟨by decide, by decide⟩, hV, fun _ => rfl⟩, fun D G ad N c hN hD => x_L_setWish1 l hsT D G ad N c hN hD hV hbt hok⟩
