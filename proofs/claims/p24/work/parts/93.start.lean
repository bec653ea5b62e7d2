/-! OURS: the start: what the tables and the premises give, and the walk from the entry to the loop -/
theorem arrK {ty : FieldType} {args : Array Value} {s : State} (hno : ∀ C, ty ≠ .object C) (h : (Cond.arrayClass ty).before args s = true) : ∃ cA, ArrOfT s cA ty ∧ va_RA s cA ty := by
  obtain ⟨c, k, comp, h1, h2, h3⟩ := Cond.arrayClass_spec h
  refine ⟨c, fun n z => ⟨fun k h => (by cases h), k, h2, comp, h3⟩, ?_⟩
  cases ty with
  | object C => exact absurd rfl (hno C)
  | _ => exact h1
theorem arrKo {C : String} {args : Array Value} {s : State} (h : (Cond.arrayOver (.object C)).before args s = true) : ∃ cA, ArrOfT s cA (.object C) ∧ va_RA s cA (.object C) := by
  obtain ⟨comp, c, k, h1, h2, h3, h4, h5⟩ := Cond.arrayOver_spec h
  exact ⟨c, fun n z => ⟨fun k h => (by cases h), k, h3, comp, h4⟩, k, comp, h3, h4, h1, h5⟩
theorem arrKa {t : FieldType} {args : Array Value} {s : State} (h0 : (Cond.arrayOver (.array t)).before args s = true) : ∃ cA, ArrOfT s cA (.array t) ∧ va_RA s cA (.array t) := by
  have h : (Cond.arrayOver (.array t)).holds args s none s [] = true := h0
  simp only [Cond.holds, Cond.value, beq_iff_eq] at h
  cases hc : s.vm.findClass (FieldType.array t).toString with
  | none => simp [hc] at h
  | some comp =>
    simp only [hc, Option.bind_some, Option.bind_eq_some_iff, Option.map_eq_some_iff] at h
    obtain ⟨c, hi, k, hk, hb⟩ := h
    cases hkind : k.kind with
    | array component ty =>
      rw [hkind] at hb
      simp at hb
      exact ⟨c, fun n z => ⟨fun k h => (by cases h), k, hk, component, by rw [hkind, hb.1]⟩, hb.2⟩
    | _ => rw [hkind] at hb; simp at hb
theorem tysK {args : Array Value} {s : State} (hts : ∀ w ∈ lw_tbl, w.before args s = true) : ∃ G : Nat → ClassId, ∀ (k : Nat) (q : ClassId × FieldType), (tysG G)[k]? = some q → ArrOfT s q.1 q.2 ∧ va_RA s q.1 q.2 := by
  obtain ⟨g0, h0⟩ := arrK (ty := .int) (fun C h => by cases h) (hts (.arrayClass .int) (by decide +kernel))
  obtain ⟨g1, h1⟩ := arrK (ty := .boolean) (fun C h => by cases h) (hts (.arrayClass .boolean) (by decide +kernel))
  obtain ⟨g2, h2⟩ := arrKa (t := .int) (hts (.arrayOver (.array .int)) (by decide +kernel))
  obtain ⟨g3, h3⟩ := arrKo (C := RX1) (hts (.arrayOver (.object RX1)) (by decide +kernel))
  obtain ⟨g4, h4⟩ := arrKo (C := RX2) (hts (.arrayOver (.object RX2)) (by decide +kernel))
  obtain ⟨g5, h5⟩ := arrKo (C := RX5) (hts (.arrayOver (.object RX5)) (by decide +kernel))
  refine ⟨fun k => match k with | 0 => g0 | 1 => g1 | 2 => g2 | 3 => g3 | 4 => g4 | _ => g5, ?_⟩
  intro k q hq
  match k, hq with
  | 0, hq => cases hq; exact h0
  | 1, hq => cases hq; exact h1
  | 2, hq => cases hq; exact h2
  | 3, hq => cases hq; exact h3
  | 4, hq => cases hq; exact h4
  | 5, hq => cases hq; exact h5
  | k + 6, hq => simp [tysG] at hq
theorem clsK {args : Array Value} {s : State} (hts : ∀ w ∈ lw_tbl, w.before args s = true) : ∃ D : va_G, ∀ (k : Nat) (q : vw_C), vwCl[k]? = some q → u_Kn s q.1 q.2.1 q.2.2 (D.1 k) (D.2 k) := by
  obtain ⟨c0, i0, h0⟩ := u_known (C := RX0) (T := TX0) (N := 1) (n := 1) hts inX0 (hts (.instantiable RX0 1) (by decide +kernel))
  obtain ⟨c1, i1, h1⟩ := u_known (C := RX1) (T := TX1) (N := 1) (n := 1) hts inX1 (hts (.instantiable RX1 1) (by decide +kernel))
  obtain ⟨c2, i2, h2⟩ := u_known (C := RX2) (T := TX2) (N := 1) (n := 1) hts inX2 (hts (.instantiable RX2 1) (by decide +kernel))
  obtain ⟨c3, i3, h3⟩ := u_known (C := RX3) (T := TX3) (N := 4) (n := 4) hts inX3 (hts (.instantiable RX3 4) (by decide +kernel))
  obtain ⟨c4, i4, h4⟩ := u_known (C := RX4) (T := TX4) (N := 6) (n := 6) hts inX4 (hts (.instantiable RX4 6) (by decide +kernel))
  obtain ⟨c5, i5, h5⟩ := u_known (C := RX5) (T := TX5) (N := 5) (n := 5) hts inX5 (hts (.instantiable RX5 5) (by decide +kernel))
  obtain ⟨c6, i6, h6⟩ := u_known (C := RX6) (T := TX6) (N := 4) (n := 4) hts inX6 (hts (.instantiable RX6 4) (by decide +kernel))
  obtain ⟨c7, i7, h7⟩ := u_known (C := RX7) (T := TX7) (N := 5) (n := 5) hts inX7 (hts (.instantiable RX7 5) (by decide +kernel))
  refine ⟨(fun k => match k with | 0 => c0 | 1 => c1 | 2 => c2 | 3 => c3 | 4 => c4 | 5 => c5 | 6 => c6 | _ => c7, fun k => match k with | 0 => i0 | 1 => i1 | 2 => i2 | 3 => i3 | 4 => i4 | 5 => i5 | 6 => i6 | _ => i7), ?_⟩
  intro k q hq
  match k, hq with
  | 0, hq => cases hq; exact h0
  | 1, hq => cases hq; exact h1
  | 2, hq => cases hq; exact h2
  | 3, hq => cases hq; exact h3
  | 4, hq => cases hq; exact h4
  | 5, hq => cases hq; exact h5
  | 6, hq => cases hq; exact h6
  | 7, hq => cases hq; exact h7
  | k + 8, hq => simp at hq
theorem closedT {args : Array Value} {s : State} {A : Nat → Prop} (hts : ∀ w ∈ lw_tbl, w.before args s = true) (hs : ∀ w ∈ flatC (Jvm.Cond.and given_1 narrow_1), w.before args s = true) (hA : ∀ a : Nat, a < s.heap.size → ¬ A a) : ∃ t : Nat, va_Z RX7 "CLOSED" "[I" (.ref t) A s s.heap ∧ va_T .int t 9 (fun j => .int (zI (closedN j))) A s s.heap := by
  have hel : ∀ j : Nat, j < 9 → (Term.elem (.static "PipersDesk" "CLOSED" "[I") (.int (Int32.ofNat j))).eval args s none [] s = some (.int (zI (closedN j))) := by
    intro j hj
    match j, hj with
    | 0, _ =>
      rw [show zI (closedN 0) = (255 : Int32) from by decide +kernel]
      exact va_eqt (t := .elem (.static "PipersDesk" "CLOSED" "[I") (.int 0)) (z := 255) (hs _ (by decide +kernel))
    | 1, _ =>
      rw [show zI (closedN 1) = (127 : Int32) from by decide +kernel]
      exact va_eqt (t := .elem (.static "PipersDesk" "CLOSED" "[I") (.int 1)) (z := 127) (hs _ (by decide +kernel))
    | 2, _ =>
      rw [show zI (closedN 2) = (63 : Int32) from by decide +kernel]
      exact va_eqt (t := .elem (.static "PipersDesk" "CLOSED" "[I") (.int 2)) (z := 63) (hs _ (by decide +kernel))
    | 3, _ =>
      rw [show zI (closedN 3) = (159 : Int32) from by decide +kernel]
      exact va_eqt (t := .elem (.static "PipersDesk" "CLOSED" "[I") (.int 3)) (z := 159) (hs _ (by decide +kernel))
    | 4, _ =>
      rw [show zI (closedN 4) = (143 : Int32) from by decide +kernel]
      exact va_eqt (t := .elem (.static "PipersDesk" "CLOSED" "[I") (.int 4)) (z := 143) (hs _ (by decide +kernel))
    | 5, _ =>
      rw [show zI (closedN 5) = (119 : Int32) from by decide +kernel]
      exact va_eqt (t := .elem (.static "PipersDesk" "CLOSED" "[I") (.int 5)) (z := 119) (hs _ (by decide +kernel))
    | 6, _ =>
      rw [show zI (closedN 6) = (115 : Int32) from by decide +kernel]
      exact va_eqt (t := .elem (.static "PipersDesk" "CLOSED" "[I") (.int 6)) (z := 115) (hs _ (by decide +kernel))
    | 7, _ =>
      rw [show zI (closedN 7) = (113 : Int32) from by decide +kernel]
      exact va_eqt (t := .elem (.static "PipersDesk" "CLOSED" "[I") (.int 7)) (z := 113) (hs _ (by decide +kernel))
    | 8, _ =>
      rw [show zI (closedN 8) = (114 : Int32) from by decide +kernel]
      exact va_eqt (t := .elem (.static "PipersDesk" "CLOSED" "[I") (.int 8)) (z := 114) (hs _ (by decide +kernel))
  obtain ⟨t, h1, h2⟩ := va_Tof (tm := .static "PipersDesk" "CLOSED" "[I") (ty := .int) (N := 9) (f := fun j => .int (zI (closedN j))) (A := A) (by decide) (hs (.arrayOf (.static "PipersDesk" "CLOSED" "[I") .int) (by decide +kernel)) (va_eqt (t := .length (.static "PipersDesk" "CLOSED" "[I")) (z := 9) (hs _ (by decide +kernel))) hel hA
  exact ⟨t, va_Zof (hts (.laysStatic RX7 "CLOSED" "[I") (by decide +kernel)) (hts (.initialized RX7) (by decide +kernel)) h1 hA, h2⟩
theorem ztK {args : Array Value} {s : State} (hts : ∀ w ∈ lw_tbl, w.before args s = true) (hs : ∀ w ∈ flatC (Jvm.Cond.and given_1 narrow_1), w.before args s = true) : ZT s := by
  have hc : ∀ q ∈ casts, Cond.castable q.1 q.2 ∈ lw_tbl := by decide +kernel
  have hn : ∀ q ∈ ncasts, Cond.not (.castable q.1 q.2) ∈ flatC (Jvm.Cond.and given_1 narrow_1) := by decide +kernel
  have hd : ∀ y ∈ decls, Cond.declares y ∈ lw_tbl := by decide +kernel
  exact ⟨va_Nw.of rfl (hts (.fieldLinkNest RX0 20 RX7 "CLOSED" "[I" RX7) (by decide +kernel)), fun q hq => va_Nw.of rfl (hts _ (hc q hq)), fun q hq => va_Nc.of (hs _ (hn q hq)), va_AO.of (hts (.arrayOver (.object RX1)) (by decide +kernel)), va_AO.of (hts (.arrayOver (.object RX2)) (by decide +kernel)), va_AO.of (hts (.arrayOver (.object RX5)) (by decide +kernel)), hts (.arrayOver (.array .int)) (by decide +kernel), fun y hy => va_Nw.of rfl (hts _ (hd y hy))⟩
theorem strK {args : Array Value} {s : State} (hts : ∀ w ∈ lw_tbl, w.before args s = true) (hs : ∀ w ∈ flatC (Jvm.Cond.and given_1 narrow_1), w.before args s = true) : ∀ q ∈ strs, ∃ a, vk_R RX7 q.1 q.2 a s := by
  have h1 : ∀ q ∈ strs, Cond.stringRef RX7 q.1 q.2 ∈ lw_tbl := by decide +kernel
  have h2 : ∀ q ∈ strs, Cond.exactly (.string RX7 q.1) "java/lang/String" ∈ flatC (Jvm.Cond.and given_1 narrow_1) := by decide +kernel
  intro q hq
  obtain ⟨a, c, cell, k, e1, -⟩ := Cond.exactly_spec (hs _ (h2 q hq))
  exact ⟨a, vk_R.of (hts _ (h1 q hq)) e1⟩
theorem zzK {args : Array Value} {s : State} {A : Nat → Prop} (hts : ∀ w ∈ lw_tbl, w.before args s = true) (hs : ∀ w ∈ flatC (Jvm.Cond.and given_1 narrow_1), w.before args s = true) (hA : ∀ a : Nat, a < s.heap.size → ¬ A a) : ZZ A s s.heap :=
  ⟨closedT hts hs hA, ⟨vx_Zqof (hts (.laysStatic Bundle.tN "UNASSIGNED_STACK" Bundle.steD) (by decide +kernel)) (hts (.initialized Bundle.tN) (by decide +kernel)) (hs (.isRef (.static Bundle.tN "UNASSIGNED_STACK" Bundle.steD)) (by decide +kernel)) hA, vx_Zqof (hts (.laysStatic Bundle.tN "SUPPRESSED_SENTINEL" Bundle.listD) (by decide +kernel)) (hts (.initialized Bundle.tN) (by decide +kernel)) (hs (.isRef (.static Bundle.tN "SUPPRESSED_SENTINEL" Bundle.listD)) (by decide +kernel)) hA⟩, strK hts hs, ztK hts hs⟩
section MV0
variable {G : Nat → ClassId} {ad ad1 : Nat → Nat} {c c1 : Nat → va_E} {lim : Int} {no dn : Nat} {gn : Nat → Nat} {gg : Nat → Nat → Nat} {dg nn : Nat → Nat} {pt ln : Nat → Nat → Nat} {wi : Nat → Nat → Int}
theorem DK.mv0 (h : DK G ad c lim 0 dn gn gg dg nn pt ln wi) (ha : ∀ r, r < 120 → ad1 r = ad r) (hf : ∀ q, q < 120 → c1 q = c q) : DK G ad1 c1 lim 0 dn gn gg dg nn pt ln wi := by
  obtain ⟨h1, h2, h3, ⟨⟨fo, f1, f2⟩, h4⟩, h5, h6, ⟨mz, lc, od, bt, h7⟩, h8⟩ := h
  exact ⟨by rw [hf 0 (by omega), h1, ha 1 (by omega), ha 12 (by omega), ha 15 (by omega), ha 72 (by omega), ha 98 (by omega)], h2.mv (fun r hr => ha r (by omega)) (fun q _ _ => hf q (by omega)), h3.mv (fun r hr => ha r (by omega)) (fun q _ _ => hf q (by omega)), ⟨⟨fo, (hf _ (by omega)).trans f1, fun t ht => by rw [f2 t ht, ha _ (by omega)]⟩, fun t ht => (h4 t ht).mv (fun r hr => ha r (by omega)) (fun q _ _ => hf q (by omega))⟩, fun t ht => (h5 t ht).fr (fun q _ _ => hf q (by omega)), h6.mv (fun r hr => ha r (by omega)) (fun q _ _ => hf q (by omega)), ⟨mz, lc, od, bt, h7.mv (fun r hr => ha r (by omega)) (fun q _ _ => hf q (by omega))⟩, Jx.fr h8 (fun q _ _ => hf q (by omega))⟩
end MV0
