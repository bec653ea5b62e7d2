/-! OURS: the start: what the tables and the premises give, and the walk from the entry to the loop -/
theorem arrK {ty : FieldType} {args : Array Value} {s : State} (hno : ∀ C, ty ≠ .object C) (h : (Cond.arrayClass ty).before args s = true) : ∃ cA, ArrOfT s cA ty ∧ va_RA s cA ty := by
  obtain ⟨c, k, comp, h1, h2, h3⟩ := Cond.arrayClass_spec h
  refine ⟨c, fun n z => ⟨fun k h => (by cases h), k, h2, comp, h3⟩, ?_⟩
  cases ty with
  | object C => exact absurd rfl (hno C)
  | _ => exact h1
theorem arrKo {C : String} {args : Array Value} {s : State} (h : (Cond.arrayOver (.object C)).before args s = true) : ∃ cA, ArrOfT s cA (.object C) ∧ va_RA s cA (.object C) := by
  obtain ⟨comp, c, k, h1, h2, h3, h4, h5⟩ := Cond.arrayOver_spec h
  exact ⟨c, fun n z => ⟨fun k h => (by cases h), k, h3, comp, h4⟩, k, comp, h3, h4, h1, h5⟩
theorem arrKa {t : FieldType} {args : Array Value} {s : State} (h0 : (Cond.arrayOver (.array t)).before args s = true) : ∃ cA, ArrOfT s cA (.array t) ∧ va_RA s cA (.array t) := by
  have h : (Cond.arrayOver (.array t)).holds args s none s [] = true := h0
  simp only [Cond.holds, Cond.value, beq_iff_eq] at h
  cases hc : s.vm.findClass (FieldType.array t).toString with
  | none => simp [hc] at h
  | some comp =>
    simp only [hc, Option.bind_some, Option.bind_eq_some_iff, Option.map_eq_some_iff] at h
    obtain ⟨c, hi, k, hk, hb⟩ := h
    cases hkind : k.kind with
    | array component ty =>
      rw [hkind] at hb
      simp at hb
      exact ⟨c, fun n z => ⟨fun k h => (by cases h), k, hk, component, by rw [hkind, hb.1]⟩, hb.2⟩
    | _ => rw [hkind] at hb; simp at hb
theorem tysK {args : Array Value} {s : State} (hts : ∀ w ∈ lw_tbl, w.before args s = true) : ∃ G : Nat → ClassId, ∀ (k : Nat) (q : ClassId × FieldType), (tysG G)[k]? = some q → ArrOfT s q.1 q.2 ∧ va_RA s q.1 q.2 := by
  obtain ⟨g0, h0⟩ := arrK (ty := .int) (fun C h => by cases h) (hts (.arrayClass .int) (by decide +kernel))
  obtain ⟨g1, h1⟩ := arrK (ty := .boolean) (fun C h => by cases h) (hts (.arrayClass .boolean) (by decide +kernel))
  obtain ⟨g2, h2⟩ := arrKa (t := .int) (hts (.arrayOver (.array .int)) (by decide +kernel))
  obtain ⟨g3, h3⟩ := arrKo (C := RX1) (hts (.arrayOver (.object RX1)) (by decide +kernel))
  obtain ⟨g4, h4⟩ := arrKo (C := RX2) (hts (.arrayOver (.object RX2)) (by decide +kernel))
  obtain ⟨g5, h5⟩ := arrKo (C := RX5) (hts (.arrayOver (.object RX5)) (by decide +kernel))
  obtain ⟨g6, h6⟩ := arrK (ty := .long) (fun C h => by cases h) (hts (.arrayClass .long) (by decide +kernel))
  obtain ⟨g7, h7⟩ := arrK (ty := .double) (fun C h => by cases h) (hts (.arrayClass .double) (by decide +kernel))
  refine ⟨fun k => match k with | 0 => g0 | 1 => g1 | 2 => g2 | 3 => g3 | 4 => g4 | 5 => g5 | 6 => g6 | _ => g7, ?_⟩
  intro k q hq
  match k, hq with
  | 0, hq => cases hq; exact h0
  | 1, hq => cases hq; exact h1
  | 2, hq => cases hq; exact h2
  | 3, hq => cases hq; exact h3
  | 4, hq => cases hq; exact h4
  | 5, hq => cases hq; exact h5
  | 6, hq => cases hq; exact h6
  | 7, hq => cases hq; exact h7
  | k + 8, hq => simp [tysG] at hq
theorem clsK {args : Array Value} {s : State} (hts : ∀ w ∈ lw_tbl, w.before args s = true) : ∃ D : va_G, ∀ (k : Nat) (q : vw_C), vwCl[k]? = some q → u_Kn s q.1 q.2.1 q.2.2 (D.1 k) (D.2 k) := by
  obtain ⟨c0, i0, h0⟩ := u_known (C := RX0) (T := TX0) (N := 1) (n := 1) hts inX0 (hts (.instantiable RX0 1) (by decide +kernel))
  obtain ⟨c1, i1, h1⟩ := u_known (C := RX1) (T := TX1) (N := 1) (n := 1) hts inX1 (hts (.instantiable RX1 1) (by decide +kernel))
  obtain ⟨c2, i2, h2⟩ := u_known (C := RX2) (T := TX2) (N := 1) (n := 1) hts inX2 (hts (.instantiable RX2 1) (by decide +kernel))
  obtain ⟨c3, i3, h3⟩ := u_known (C := RX3) (T := TX3) (N := 4) (n := 4) hts inX3 (hts (.instantiable RX3 4) (by decide +kernel))
  obtain ⟨c4, i4, h4⟩ := u_known (C := RX4) (T := TX4) (N := 6) (n := 6) hts inX4 (hts (.instantiable RX4 6) (by decide +kernel))
  obtain ⟨c5, i5, h5⟩ := u_known (C := RX5) (T := TX5) (N := 5) (n := 5) hts inX5 (hts (.instantiable RX5 5) (by decide +kernel))
  obtain ⟨c6, i6, h6⟩ := u_known (C := RX6) (T := TX6) (N := 4) (n := 4) hts inX6 (hts (.instantiable RX6 4) (by decide +kernel))
  obtain ⟨c7, i7, h7⟩ := u_known (C := RX7) (T := TX7) (N := 5) (n := 5) hts inX7 (hts (.instantiable RX7 5) (by decide +kernel))
  obtain ⟨c8, i8, h8⟩ := u_known (C := RX8) (T := TX8) (N := 21) (n := 21) hts inX8 (hts (.instantiable RX8 21) (by decide +kernel))
  refine ⟨(fun k => match k with | 0 => c0 | 1 => c1 | 2 => c2 | 3 => c3 | 4 => c4 | 5 => c5 | 6 => c6 | 7 => c7 | _ => c8, fun k => match k with | 0 => i0 | 1 => i1 | 2 => i2 | 3 => i3 | 4 => i4 | 5 => i5 | 6 => i6 | 7 => i7 | _ => i8), ?_⟩
  intro k q hq
  match k, hq with
  | 0, hq => cases hq; exact h0
  | 1, hq => cases hq; exact h1
  | 2, hq => cases hq; exact h2
  | 3, hq => cases hq; exact h3
  | 4, hq => cases hq; exact h4
  | 5, hq => cases hq; exact h5
  | 6, hq => cases hq; exact h6
  | 7, hq => cases hq; exact h7
  | 8, hq => cases hq; exact h8
  | k + 9, hq => simp at hq
theorem closedT {args : Array Value} {s : State} {A : Nat → Prop} (hts : ∀ w ∈ lw_tbl, w.before args s = true) (hs : ∀ w ∈ flatC (Jvm.Cond.and given_1 narrow_1), w.before args s = true) (hA : ∀ a : Nat, a < s.heap.size → ¬ A a) : ∃ t : Nat, va_Z RX7 "CLOSED" "[I" (.ref t) A s s.heap ∧ va_T .int t 9 (fun j => .int (zI (closedN j))) A s s.heap := by
  have hel : ∀ j : Nat, j < 9 → (Term.elem (.static "PipersDesk" "CLOSED" "[I") (.int (Int32.ofNat j))).eval args s none [] s = some (.int (zI (closedN j))) := by
    intro j hj
    match j, hj with
    | 0, _ =>
      rw [show zI (closedN 0) = (255 : Int32) from by decide +kernel]
      exact va_eqt (t := .elem (.static "PipersDesk" "CLOSED" "[I") (.int 0)) (z := 255) (hs _ (by decide +kernel))
    | 1, _ =>
      rw [show zI (closedN 1) = (127 : Int32) from by decide +kernel]
      exact va_eqt (t := .elem (.static "PipersDesk" "CLOSED" "[I") (.int 1)) (z := 127) (hs _ (by decide +kernel))
    | 2, _ =>
      rw [show zI (closedN 2) = (63 : Int32) from by decide +kernel]
      exact va_eqt (t := .elem (.static "PipersDesk" "CLOSED" "[I") (.int 2)) (z := 63) (hs _ (by decide +kernel))
    | 3, _ =>
      rw [show zI (closedN 3) = (159 : Int32) from by decide +kernel]
      exact va_eqt (t := .elem (.static "PipersDesk" "CLOSED" "[I") (.int 3)) (z := 159) (hs _ (by decide +kernel))
    | 4, _ =>
      rw [show zI (closedN 4) = (143 : Int32) from by decide +kernel]
      exact va_eqt (t := .elem (.static "PipersDesk" "CLOSED" "[I") (.int 4)) (z := 143) (hs _ (by decide +kernel))
    | 5, _ =>
      rw [show zI (closedN 5) = (119 : Int32) from by decide +kernel]
      exact va_eqt (t := .elem (.static "PipersDesk" "CLOSED" "[I") (.int 5)) (z := 119) (hs _ (by decide +kernel))
    | 6, _ =>
      rw [show zI (closedN 6) = (115 : Int32) from by decide +kernel]
      exact va_eqt (t := .elem (.static "PipersDesk" "CLOSED" "[I") (.int 6)) (z := 115) (hs _ (by decide +kernel))
    | 7, _ =>
      rw [show zI (closedN 7) = (113 : Int32) from by decide +kernel]
      exact va_eqt (t := .elem (.static "PipersDesk" "CLOSED" "[I") (.int 7)) (z := 113) (hs _ (by decide +kernel))
    | 8, _ =>
      rw [show zI (closedN 8) = (114 : Int32) from by decide +kernel]
      exact va_eqt (t := .elem (.static "PipersDesk" "CLOSED" "[I") (.int 8)) (z := 114) (hs _ (by decide +kernel))
  obtain ⟨t, h1, h2⟩ := va_Tof (tm := .static "PipersDesk" "CLOSED" "[I") (ty := .int) (N := 9) (f := fun j => .int (zI (closedN j))) (A := A) (by decide) (hs (.arrayOf (.static "PipersDesk" "CLOSED" "[I") .int) (by decide +kernel)) (va_eqt (t := .length (.static "PipersDesk" "CLOSED" "[I")) (z := 9) (hs _ (by decide +kernel))) hel hA
  exact ⟨t, va_Zof (hts (.laysStatic RX7 "CLOSED" "[I") (by decide +kernel)) (hts (.initialized RX7) (by decide +kernel)) h1 hA, h2⟩
theorem ztK {args : Array Value} {s : State} (hts : ∀ w ∈ lw_tbl, w.before args s = true) (hs : ∀ w ∈ flatC (Jvm.Cond.and given_1 narrow_1), w.before args s = true) : ZT s := by
  have hc : ∀ q ∈ casts, Cond.castable q.1 q.2 ∈ lw_tbl := by decide +kernel
  have hn : ∀ q ∈ ncasts, Cond.not (.castable q.1 q.2) ∈ flatC (Jvm.Cond.and given_1 narrow_1) := by decide +kernel
  have hd : ∀ y ∈ decls, Cond.declares y ∈ lw_tbl := by decide +kernel
  exact ⟨va_Nw.of rfl (hts (.fieldLinkNest RX0 20 RX7 "CLOSED" "[I" RX7) (by decide +kernel)), fun q hq => va_Nw.of rfl (hts _ (hc q hq)), fun q hq => va_Nc.of (hs _ (hn q hq)), va_AO.of (hts (.arrayOver (.object RX1)) (by decide +kernel)), va_AO.of (hts (.arrayOver (.object RX2)) (by decide +kernel)), va_AO.of (hts (.arrayOver (.object RX5)) (by decide +kernel)), hts (.arrayOver (.array .int)) (by decide +kernel), fun y hy => va_Nw.of rfl (hts _ (hd y hy))⟩
theorem strK {args : Array Value} {s : State} (hts : ∀ w ∈ lw_tbl, w.before args s = true) (hs : ∀ w ∈ flatC (Jvm.Cond.and given_1 narrow_1), w.before args s = true) : ∀ q ∈ strs, ∃ a, vk_R RX7 q.1 q.2 a s := by
  have h1 : ∀ q ∈ strs, Cond.stringRef RX7 q.1 q.2 ∈ lw_tbl := by decide +kernel
  have h2 : ∀ q ∈ strs, Cond.exactly (.string RX7 q.1) "java/lang/String" ∈ flatC (Jvm.Cond.and given_1 narrow_1) := by decide +kernel
  intro q hq
  obtain ⟨a, c, cell, k, e1, -⟩ := Cond.exactly_spec (hs _ (h2 q hq))
  exact ⟨a, vk_R.of (hts _ (h1 q hq)) e1⟩
theorem zzK {args : Array Value} {s : State} {A : Nat → Prop} (hts : ∀ w ∈ lw_tbl, w.before args s = true) (hs : ∀ w ∈ flatC (Jvm.Cond.and given_1 narrow_1), w.before args s = true) (hA : ∀ a : Nat, a < s.heap.size → ¬ A a) : ZZ A s s.heap :=
  ⟨closedT hts hs hA, ⟨vx_Zqof (hts (.laysStatic Bundle.tN "UNASSIGNED_STACK" Bundle.steD) (by decide +kernel)) (hts (.initialized Bundle.tN) (by decide +kernel)) (hs (.isRef (.static Bundle.tN "UNASSIGNED_STACK" Bundle.steD)) (by decide +kernel)) hA, vx_Zqof (hts (.laysStatic Bundle.tN "SUPPRESSED_SENTINEL" Bundle.listD) (by decide +kernel)) (hts (.initialized Bundle.tN) (by decide +kernel)) (hs (.isRef (.static Bundle.tN "SUPPRESSED_SENTINEL" Bundle.listD)) (by decide +kernel)) hA⟩, strK hts hs, ztK hts hs⟩
section MV0
variable {G : Nat → ClassId} {ad ad1 : Nat → Nat} {c c1 : Nat → va_E} {lim th : Int} {no dn : Nat} {gn : Nat → Nat} {gg : Nat → Nat → Nat} {dg nn : Nat → Nat} {pt ln : Nat → Nat → Nat} {wi : Nat → Nat → Int}
theorem DK.mv0 (h : DK G ad c lim 0 dn gn gg dg nn pt ln wi) (ha : ∀ r, r < 120 → ad1 r = ad r) (hf : ∀ q, q < 120 → c1 q = c q) : DK G ad1 c1 lim 0 dn gn gg dg nn pt ln wi := by
  obtain ⟨h1, h2, h3, ⟨⟨fo, f1, f2⟩, h4⟩, h5, h6, ⟨mz, lc, od, bt, h7⟩, h8⟩ := h
  exact ⟨by rw [hf 0 (by omega), h1, ha 1 (by omega), ha 12 (by omega), ha 15 (by omega), ha 72 (by omega), ha 98 (by omega)], h2.mv (fun r hr => ha r (by omega)) (fun q _ _ => hf q (by omega)), h3.mv (fun r hr => ha r (by omega)) (fun q _ _ => hf q (by omega)), ⟨⟨fo, (hf _ (by omega)).trans f1, fun t ht => by rw [f2 t ht, ha _ (by omega)]⟩, fun t ht => (h4 t ht).mv (fun r hr => ha r (by omega)) (fun q _ _ => hf q (by omega))⟩, fun t ht => (h5 t ht).fr (fun q _ _ => hf q (by omega)), h6.mv (fun r hr => ha r (by omega)) (fun q _ _ => hf q (by omega)), ⟨mz, lc, od, bt, h7.mv (fun r hr => ha r (by omega)) (fun q _ _ => hf q (by omega))⟩, Jx.fr h8 (fun q _ _ => hf q (by omega))⟩
theorem MS.mv1 (h : MS G ad c th lim no dn gn gg dg nn pt ln wi) (ha : ∀ r, r < 137 → ad1 r = ad r) (hf : ∀ q, 120 ≤ q → q < 137 → c1 q = c q) : MS G ad1 c1 th lim no dn gn gg dg nn pt ln wi := by
  obtain ⟨⟨row, h1⟩, h2, h3, h4, h5, h6⟩ := h
  have e : moV ad1 th lim (no : Int) (dn : Int) row = moV ad th lim (no : Int) (dn : Int) row := by
    unfold moV
    rw [ha 121 (by omega), ha 122 (by omega), ha 123 (by omega), ha 124 (by omega), ha 125 (by omega), ha 126 (by omega), ha 127 (by omega), ha 128 (by omega), ha 129 (by omega), ha 130 (by omega), ha 131 (by omega), ha 132 (by omega), ha 133 (by omega), ha 134 (by omega), ha 135 (by omega), ha 136 (by omega)]
  exact ⟨⟨row, by rw [hf 120 (by omega) (by omega), h1, e]⟩, isA.fr (hf _ (by omega) (by omega)) h2, h3.fr (hf _ (by omega) (by omega)) (hf _ (by omega) (by omega)), isA.fr (hf _ (by omega) (by omega)) h4, h5.fr (fun q _ _ => hf q (by omega) (by omega)), h6.fr (fun q _ _ => hf q (by omega) (by omega))⟩
end MV0
section LST
variable {p : Program} {l : Launch} {e : Env} {s : State} {m : MethodId} {below : List Frame} {meth : Method} {k : Code} {Q : State → Prop} {b L : Nat} {xs : Nat → Int32}
set_option maxHeartbeats 2000000 in
set_option maxRecDepth 100000 in
theorem law_all (hsT : l.stackTraces = false) (hL : L ≤ 2560) (hx : p.tables.exec = Jvm.exec) (hb : k.code = code) (hml : k.maxLocals = 8) (hown : s.vm.findClass RL = some m.cls) (hts : ∀ w ∈ lw_tbl, w.before #[Value.ref b] s = true) (hX : va_X b L xs s s.heap) (hbl : b < s.heap.size) (hs : ∀ w ∈ flatC (Jvm.Cond.and given_1 narrow_1), w.before #[Value.ref b] s = true)
    (kend : ∀ (H : Heap) (locs : List Loc) (cells slots : Nat) (ls : Array Slot), va_S (fun q : Nat => s.heap.size ≤ q) s.heap H locs → cells ≤ 821725 → slots ≤ 6630930 → W p l e room_1 s m #[Value.ref b] below meth k H locs cells slots Q (F0 m 1419 ls [])) : W p l e room_1 s m #[Value.ref b] below meth k s.heap [] 0 0 Q (entryFrame m ([Value.ref b] : List Value).toArray 8) := by
  have hA : ∀ a : Nat, a < s.heap.size → ¬ (fun q : Nat => s.heap.size ≤ q) a := fun a h => Nat.not_le.mpr h
  obtain ⟨D, hKc⟩ := clsK hts
  obtain ⟨G, hKa⟩ := tysK hts
  have hZZ := zzK (A := fun q : Nat => s.heap.size ≤ q) hts hs hA
  have htl : ∀ w ∈ wsL_law, w.before #[Value.ref b] s = true := fun w h => hts w (wsL_law_in w h)
  have C : LX p l s m #[Value.ref b] k (fun q : Nat => s.heap.size ≤ q) b L xs := ⟨hx, hb, htl, hown, hml, hX, hbl, hA b hbl, hsT⟩
  have w : PW D G (fun q : Nat => s.heap.size ≤ q) s (fun _ => 0) 0 (fun _ => .inr (0, [])) s.heap [] := ⟨⟨hKc, hKa⟩, fun k q h => by simp [wl] at h, ⟨fun i j p q h => by simp [wl] at h, fun k q h => by simp [wl] at h⟩, va_S.rf, fun _ h => h, hZZ⟩
  have hl := lv_entry ([.ref b]) (n := 8) (Nat.le_of_ble_eq_true rfl)
  rw [lg_entry_eq]
  generalize (lg_sl ([.ref b]) ++ List.replicate (8 - (lg_sl ([.ref b])).length) Slot.unset).toArray = ls at hl ⊢
  have hl : lv_has ls 8 [(0, .ref b)] := hl
  refine pw_new (ci := 7) (C := RX7) (T := TX7) (Nf := 5) (fs := [.null, .null, .null, .null, .null]) hx hb w htl inlX7 tyX7 tyX7_ok hown (htl (.classLink RL 8 RX7) (by decide +kernel)) (htl (.instantiable RX7 5) (by decide +kernel)) (htl (.initialized RX7) (by decide +kernel)) rfl (fun j hj => by
    rcases (by omega : j = 0 ∨ j = 1 ∨ j = 2 ∨ j = 3 ∨ j = 4) with h | h | h | h | h <;> subst h <;> rfl) (Nat.le_of_ble_eq_true rfl) (Nat.le_of_ble_eq_true rfl) dL_law_0 (fun H ad1 c1 ha1 hc1 fr1 w => ?_)
  refine lv_dup hx hb dL_law_3 rfl ?_
  refine pw_cv w (pw_runI (b := ad1 0) (As := []) (rest := [.ref (ad1 0)]) w ⟨hx, hb, hml, hown, htl⟩ (c_X7_init l D G ad1 _ c1 (gn := fun _ => 0) (gg := fun _ _ => 0) (pt := fun _ _ => 0) (ln := fun _ _ => 0) (wi := fun _ _ => 0) rfl hc1) (cwI 0 htl gL_law_X7_init rfl rfl rfl (htl (.initialized RX7) (by decide +kernel)) (htl (.methodLink RL 82 yX7_init) (by decide +kernel)) (htl (.instanceMethod yX7_init) (by decide +kernel)) rfl (by decide +kernel) ⟨Nat.le_of_ble_eq_true rfl, Nat.le_of_ble_eq_true rfl⟩) rfl hl.1 rfl (lv_room (Nat.le_of_ble_eq_true rfl)) dL_law_4 ⟨(Nat.le_of_ble_eq_true rfl), (Nat.le_of_ble_eq_true rfl)⟩) (fun u2 H locs hp2 w => ?_)
  obtain ⟨ad2, c2⟩ := u2
  obtain ⟨ha2, hD2⟩ := hp2
  have w : PW D G (fun q : Nat => s.heap.size ≤ q) s ad2 120 c2 H locs := w
  have ha2 : ad2 0 = ad1 0 := ha2
  have hD2 : DK G ad2 c2 3 0 0 (fun _ => 0) (fun _ _ => 0) (fun _ => 0) (fun _ => 0) (fun _ _ => 0) (fun _ _ => 0) (fun _ _ => 0) := hD2
  rw [← ha2]
  refine lv_astore_n (lv' := [(1, .ref (ad2 0)), (0, .ref b)]) hx hb dL_law_7 rfl hl (by decide) rfl (fun ls hl => ?_)
  refine pw_new (ci := 8) (C := RX8) (T := TX8) (Nf := 21) (fs := [.int (zI 0), .null, .int (zI 0), .null, .null, .int (zI 0), .null, .int (zI 0), .null, .null, .null, .null, .null, .null, .null, .int (zI 0), .null, .null, .null, .null, .null]) hx hb w htl inlX8 tyX8 tyX8_ok hown (htl (.classLink RL 83 RX8) (by decide +kernel)) (htl (.instantiable RX8 21) (by decide +kernel)) (htl (.initialized RX8) (by decide +kernel)) rfl (fun j hj => by
    rcases (by omega : j = 0 ∨ j = 1 ∨ j = 2 ∨ j = 3 ∨ j = 4 ∨ j = 5 ∨ j = 6 ∨ j = 7 ∨ j = 8 ∨ j = 9 ∨ j = 10 ∨ j = 11 ∨ j = 12 ∨ j = 13 ∨ j = 14 ∨ j = 15 ∨ j = 16 ∨ j = 17 ∨ j = 18 ∨ j = 19 ∨ j = 20) with h | h | h | h | h | h | h | h | h | h | h | h | h | h | h | h | h | h | h | h | h <;> subst h <;> rfl) (Nat.le_of_ble_eq_true rfl) (Nat.le_of_ble_eq_true rfl) dL_law_8 (fun H ad3 c3 ha3 hc3 fr3 w => ?_)
  refine lv_dup hx hb dL_law_11 rfl ?_
  refine pw_cv w (pw_runI (b := ad3 120) (As := []) (rest := [.ref (ad3 120)]) w ⟨hx, hb, hml, hown, htl⟩ (c_X8_init l D G ad3 _ c3 (gn := fun _ => 0) (gg := fun _ _ => 0) (pt := fun _ _ => 0) (ln := fun _ _ => 0) (wi := fun _ _ => 0) rfl hc3) (cwI 0 htl gL_law_X8_init rfl rfl rfl (htl (.initialized RX8) (by decide +kernel)) (htl (.methodLink RL 85 yX8_init) (by decide +kernel)) (htl (.instanceMethod yX8_init) (by decide +kernel)) rfl (by decide +kernel) ⟨Nat.le_of_ble_eq_true rfl, Nat.le_of_ble_eq_true rfl⟩) rfl hl.1 rfl (lv_room (Nat.le_of_ble_eq_true rfl)) dL_law_12 ⟨(Nat.le_of_ble_eq_true rfl), (Nat.le_of_ble_eq_true rfl)⟩) (fun u4 H locs hp4 w => ?_)
  obtain ⟨ad4, c4⟩ := u4
  obtain ⟨ha4, hM4, fr4⟩ := hp4
  have w : PW D G (fun q : Nat => s.heap.size ≤ q) s ad4 137 c4 H locs := w
  have ha4 : ∀ r, r < 121 → ad4 r = ad3 r := ha4
  have fr4 : ∀ q, q < 121 → q ≠ 120 → c4 q = c3 q := fr4
  have hM4 : MS G ad4 c4 0 3 0 0 (fun _ => 0) (fun _ _ => 0) (fun _ => 0) (fun _ => 0) (fun _ _ => 0) (fun _ _ => 0) (fun _ _ => 0) := hM4
  rw [← ha4 120 (by omega)]
  refine lv_astore_n (lv' := [(2, .ref (ad4 120)), (1, .ref (ad2 0)), (0, .ref b)]) hx hb dL_law_15 rfl hl (by decide) rfl (fun ls hl => ?_)
  refine lv_iconst (v := zI 1) hx hb dL_law_16 rfl ?_
  refine pw_newa 6 (atype := .long) (ty := .long) (a0 := (1, .inr (.inl (fun _ => 0)))) hx hb w rfl (htl (.arrayClass .long) (by decide +kernel)) rfl (fun _ h => h) (z := 1) (n := 1) rfl (by decide) (fun cA => by rw [vp_cell_l]; rfl) (by show 1 * 8 ≤ _; omega) (Nat.le_of_ble_eq_true rfl) (Nat.le_of_ble_eq_true rfl) dL_law_17 (fun H ad5 c5 ha5 hc5 fr5 w => ?_)
  refine lv_astore_n (lv' := [(3, .ref (ad5 137)), (2, .ref (ad4 120)), (1, .ref (ad2 0)), (0, .ref b)]) hx hb dL_law_19 rfl hl (by decide) rfl (fun ls hl => ?_)
  refine lv_iconst (v := zI 1) hx hb dL_law_20 rfl ?_
  refine pw_newa 7 (atype := .double) (ty := .double) (a0 := (1, .inr (.inr (.inr (.inl (fun _ => 0)))))) hx hb w rfl (htl (.arrayClass .double) (by decide +kernel)) rfl (fun _ h => h) (z := 1) (n := 1) rfl (by decide) (fun cA => by rw [vp_cell_d]; rfl) (by show 1 * 8 ≤ _; omega) (Nat.le_of_ble_eq_true rfl) (Nat.le_of_ble_eq_true rfl) dL_law_21 (fun H ad6 c6 ha6 hc6 fr6 w => ?_)
  refine lv_astore (lv' := [(4, .ref (ad6 138)), (3, .ref (ad5 137)), (2, .ref (ad4 120)), (1, .ref (ad2 0)), (0, .ref b)]) hx hb dL_law_23 hl (by decide) rfl (fun ls hl => ?_)
  refine lv_iconst (v := zI ((5 * 0 : Nat) : Int)) hx hb dL_law_25 rfl ?_
  refine lv_istore (lv' := [(5, .int (zI ((5 * 0 : Nat) : Int))), (4, .ref (ad6 138)), (3, .ref (ad5 137)), (2, .ref (ad4 120)), (1, .ref (ad2 0)), (0, .ref b)]) hx hb dL_law_26 hl (by decide) rfl (fun ls hl => ?_)
  have w : PW D G (fun q : Nat => s.heap.size ≤ q) s ad6 (139 + 2 * 0) c6 H locs := w
  have hA6 : ∀ r, r < 137 → ad6 r = ad4 r := fun r hr => (ha6 r (by omega)).trans (ha5 r hr)
  have hA2 : ∀ r, r < 120 → ad6 r = ad2 r := fun r hr => (hA6 r (by omega)).trans ((ha4 r (by omega)).trans (ha3 r hr))
  have hF6 : ∀ q, q < 137 → c6 q = c4 q := fun q hq => (fr6 q (by omega)).trans (fr5 q (by omega))
  have hF2 : ∀ q, q < 120 → c6 q = c2 q := fun q hq => (hF6 q (by omega)).trans ((fr4 q (by omega) (by omega)).trans (fr3 q (by omega)))
  have hD6 := hD2.mv0 (ad1 := ad6) (c1 := c6) hA2 hF2
  have hM6 := hM4.mv1 (ad1 := ad6) (c1 := c6) hA6 (fun q h1 h2 => hF6 q h2)
  have hO6 : lnA G (c6 137) 0 := ⟨_, (fr6 137 (by omega)).trans hc5, rfl⟩
  have hB6 : dbA G (c6 138) 0 := ⟨_, hc6, rfl⟩
  have hl : lv_has ls 8 (lawLs ad6 b 0) := by
    have h := lv_sub (l' := [(0, .ref b), (1, .ref (ad2 0)), (2, .ref (ad4 120)), (3, .ref (ad5 137)), (4, .ref (ad6 138)), (5, .int (zI ((5 * 0 : Nat) : Int)))]) hl [5, 4, 3, 2, 1, 0] rfl
    rw [← hA2 0 (by omega), ← hA6 120 (by omega), ← ha6 137 (by omega)] at h
    exact h
  exact lw_loop C hL kend 513 0 ad6 _ c6 0 3 0 0 (fun _ => 0) (fun _ _ => 0) (fun _ => 0) (fun _ => 0) (fun _ _ => 0) (fun _ _ => 0) (fun _ _ => 0) H locs _ _ ls (by omega) (by omega) ⟨rfl, hD6, hM6, SV.init _ _ _ _ _, ⟨_, hO6⟩, ⟨_, hB6⟩⟩ w (by decide) (by decide) hl
end LST
