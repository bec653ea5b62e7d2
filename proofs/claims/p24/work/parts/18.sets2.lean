theorem exF_P {P : Nat → Prop} {m : Nat} {od : Nat → Nat} {a b : Nat} (h : ∀ j, j < m → P (od j)) (ha : a < m) (hb : b < m) : ∀ j, j < m → P (exF od a b j) := fun j hj => by
  unfold exF
  split
  · exact h a ha
  · split
    · exact h b hb
    · exact h j hj
theorem rvF_P {P : Nat → Prop} {m : Nat} : ∀ (k : Nat) (od : Nat → Nat) (a b : Nat), (∀ j, j < m → P (od j)) → b < m → ∀ j, j < m → P (rvF k od a b j)
  | 0, od, a, b, h, _ => h
  | k + 1, od, a, b, h, hb => by
    unfold rvF
    split
    · exact rvF_P k _ _ _ (exF_P h (by omega) hb) (by omega)
    · exact h
theorem nxO_P {P : Nat → Prop} {m : Nat} {od : Nat → Nat} (h : ∀ j, j < m → P (od j)) : ∀ j, j < m → P (nxO m od j) := fun j hj => by
  have h1 := tnF_le od (m - 1)
  have h2 := nxF_le od (tnF od (m - 1) - 1) (m - 1)
  unfold nxO
  split
  · exact h j hj
  · exact rvF_P 4 _ _ _ (exF_P h (by omega) (by omega)) (by omega) j hj
theorem tA_P {P : Nat → Prop} {m : Nat} {Co : (Nat → Nat) → Int} {od bt : Nat → Nat} (h : ∀ j, j < m → P (od j)) : ∀ i j, j < m → P ((tA m Co od bt i).2.2.1 j)
  | 0, j, hj => h j hj
  | i + 1, j, hj => by
    unfold tA
    dsimp only
    split
    · exact nxO_P (tA_P h i) j hj
    · exact tA_P h i j hj
theorem tA_stop {m : Nat} {Co : (Nat → Nat) → Int} {od bt : Nat → Nat} {i : Nat} (h : (tA m Co od bt i).2.2.2.2 = false) : ∀ k, tA m Co od bt (i + k) = tA m Co od bt i
  | 0 => rfl
  | k + 1 => by
    have e := tA_stop h k
    rw [show i + (k + 1) = (i + k) + 1 from rfl, tA]
    rw [e, h, if_neg (by decide)]
theorem tA_bd {m : Nat} {Co : (Nat → Nat) → Int} {od bt : Nat → Nat} (hC : ∀ o, 0 ≤ Co o ∧ Co o ≤ 1000000) : ∀ i, 0 ≤ (tA m Co od bt i).1 ∧ (tA m Co od bt i).1 ≤ i ∧ 0 ≤ (tA m Co od bt i).2.1 ∧ (tA m Co od bt i).2.1 ≤ 1000000
  | 0 => ⟨Int.le_refl 0, Int.le_refl 0, by show (0 : Int) ≤ 1000000; decide, Int.le_refl _⟩
  | i + 1 => by
    have h := tA_bd hC i (m := m) (od := od) (bt := bt)
    have h2 := hC (tA m Co od bt i).2.2.1
    unfold tA
    dsimp only
    split
    · dsimp only
      refine ⟨?_, ?_, ?_, ?_⟩ <;> split <;> omega
    · omega
section PE
variable {p : Program} {l : Launch} {e : Env} {R : Room} {s : State} {m : MethodId} {args : Array Value} {below : List Frame} {meth : Method} {k : Code} {H : Heap} {locs : List Loc} {cells slots : Nat} {Q : State → Prop}
variable {cc : ByteArray} {pc : Nat} {ls : Array Slot} {rest : List Value} {D : va_G} {G : Nat → ClassId} {A : Nat → Prop} {ad : Nat → Nat} {N : Nat} {c : Nat → va_E}
/-- System.arraycopy of ints -/
theorem pw_copyi (hx : p.tables.exec = Jvm.exec) (hb : k.code = cc) (w : PW D G A s ad N c H locs) (hml : k.maxLocals = ls.size) {own : String} {index : Nat} (hown : s.vm.findClass own = some m.cls) (hlink : (Cond.methodLink own index arraycopyName).before args s = true) (hnat : (Cond.native arraycopyName).before args s = true) (hstat : (Cond.static arraycopyName).before args s = true) (hini : (Cond.initialized "java/lang/System").before args s = true)
    {q0 q1 n0 n1 : Nat} {g0 g1 : Nat → Int} (hq0 : q0 < N) (hq1 : q1 < N) (h0 : isA 0 G (c q0) n0 g0) (h1 : isA 0 G (c q1) n1 g1) (sp dp n : Nat) (hs : sp + n ≤ n0) (hd : dp + n ≤ n1) (hn0 : n0 < 2147483648) (hn1 : n1 < 2147483648)
    (hframes : 1 ≤ R.frames) (hlocals : (rest.map fun v => v.category).sum + (nativeFrameWords "java/lang/System" "arraycopy" 5 + 11) ≤ R.locals) (hdg : decode cc pc = .ok (.invokestatic index, 3))
    (kk : ∀ (H1 : Heap) (locs1 : List Loc) (c1 : Nat → va_E), isA 0 G (c1 q1) n1 (fun j => if dp ≤ j ∧ j < dp + n then g0 (sp + (j - dp)) else g1 j) → (∀ q, q ≠ q1 → c1 q = c q) → PW D G A s ad N c1 H1 locs1 → W p l e R s m args below meth k H1 locs1 cells slots Q (F0 m (pc + 3) ls rest)) :
    W p l e R s m args below meth k H locs cells slots Q (F0 m pc ls (.int (zI (n : Int)) :: .int (zI (dp : Int)) :: .ref (ad q1) :: .int (zI (sp : Int)) :: .ref (ad q0) :: rest)) := by
  obtain ⟨f0, e0, e0'⟩ := h0
  obtain ⟨f1, e1, e1'⟩ := h1
  have neg : ∀ x : Nat, x < 2147483648 → ¬ zI (x : Int) < 0 := fun x hx h => by
    have := (zI_lt (a := (x : Int)) ⟨by omega, by omega⟩ bnd_0).mp (by rw [zI_0]; exact h)
    omega
  refine va_copyi (D := D) (ty := .int) hx hb hml hown hlink hnat hstat hini w.1 w.2.1 w.2.2.1 w.2.2.2.1 q0 q1 0 0 (wl_get' hq0 e0) (wl_get' hq1 e1) rfl rfl rfl (neg sp (by omega)) (neg dp (by omega)) (neg n (by omega)) (by rw [zI_nat (by omega), zI_nat (by omega)]; exact hs) (by rw [zI_nat (by omega), zI_nat (by omega)]; exact hd) (fun _ _ => rfl) hframes hlocals hdg (fun H1 locs1 hP hD hS => ?_)
  rw [zI_nat (by omega), zI_nat (by omega), zI_nat (by omega)] at hP hD
  refine kk H1 locs1 _ ?_ (fun q hq => va_up_ne c (.inl (G 0, n1, .inl (va_cpy f0 f1 sp dp n))) hq) (w.upd hq1 hP hD hS)
  refine ⟨va_cpy f0 f1 sp dp n, va_up_self _ _ _, fun j hj => ?_⟩
  dsimp only
  by_cases h : dp ≤ j ∧ j < dp + n
  · rw [pk_cpy_in h.1 h.2, if_pos h, e0' _ (by omega)]
  · rw [pk_cpy_out (by omega), if_neg h, e1' j hj]
end PE

theorem hin_X4_keepIfLess_4 : ∀ w ∈ u_ws RX4 TX4 6, w ∈ wsX4_keepIfLess := by decide +kernel
theorem fl_X4_keepIfLess_34 : Cond.fieldLink RX4 34 "PipersDesk$SetSearch" "leastCost" "I" ∈ wsX4_keepIfLess := by decide +kernel
theorem fl_X4_keepIfLess_23 : Cond.fieldLink RX4 23 "PipersDesk$SetSearch" "order" "[I" ∈ wsX4_keepIfLess := by decide +kernel
theorem fl_X4_keepIfLess_27 : Cond.fieldLink RX4 27 "PipersDesk$SetSearch" "best" "[I" ∈ wsX4_keepIfLess := by decide +kernel
theorem fl_X4_keepIfLess_30 : Cond.fieldLink RX4 30 "PipersDesk$SetSearch" "size" "I" ∈ wsX4_keepIfLess := by decide +kernel
theorem wd_X4_keepIfLess_l : Cond.methodLink RX4 72 arraycopyName ∈ wsX4_keepIfLess := by decide +kernel
theorem wd_X4_keepIfLess_n : Cond.native arraycopyName ∈ wsX4_keepIfLess := by decide +kernel
theorem wd_X4_keepIfLess_s : Cond.static arraycopyName ∈ wsX4_keepIfLess := by decide +kernel
theorem wd_X4_keepIfLess_i : Cond.initialized "java/lang/System" ∈ wsX4_keepIfLess := by decide +kernel
abbrev rm_X4_keepIfLess : Room := { frames := 2, cells := 0, slots := 0, locals := 60 }
set_option maxHeartbeats 4000000 in
set_option maxRecDepth 100000 in
/-- SetSearch.keepIfLess -/
theorem c_X4_keepIfLess (l : Launch) (D : va_G) (G : Nat → ClassId) (ad : Nat → Nat) (N : Nat) (c : Nat → va_E) {mz : Nat} {lc : Int} {od bt : Nat → Nat} (hN : 120 ≤ N) (hS : SS G ad c mz lc od bt) {co : Int} (hm4 : mz ≤ 4) (hlc : 0 ≤ lc ∧ lc ≤ 1000000) (hco : 0 ≤ co ∧ co ≤ 1000000) : MC l yX4_keepIfLess wsX4_keepIfLess rm_X4_keepIfLess [.ref (ad 98), .int (zI co)] D G ad N c (qV D G (fx ad N) (fun c1 => c1 98 = .inr (4, [.ref (ad 99), .ref (ad 116), .ref (ad 118), .ref (ad 119), .int (zI (mz : Int)), .int (zI (if co < lc then co else lc))]) ∧ isA 0 G (c1 119) 4 (fun j => ((if co < lc then (fun j => if j < mz then od j else bt j) else bt) j : Int)) ∧ ∀ q, q ≠ 98 ∧ q ≠ 119 → c1 q = c q)) 0 0 := by
  refine MCv.of (cc := cX4_keepIfLess) (maxL := 2) (by decide) rfl (Nat.le_of_ble_eq_true rfl) ?_
  intro p e s m args below meth kc A Q hx hb hts hown hml hin2 fin H locs w ls hl
  have hown : s.vm.findClass RX4 = some m.cls := hown
  have hl : lv_has ls 2 [(0, .ref (ad 98)), (1, .int (zI co))] := hl
  obtain ⟨s1, ⟨fs, s2, s3⟩, s4, ⟨g117, s5⟩, s6, s7⟩ := id hS
  refine lv_iload_n hx hb dX4_keepIfLess_0 rfl (lv_at hl 1 rfl) ?_
  refine lv_aload_n hx hb dX4_keepIfLess_1 rfl (lv_at hl 0 rfl) ?_
  refine pw_get (r := 98) (ci := 4) (C := RX4) (T := TX4) (Nf := 6) hx hb w hts hin_X4_keepIfLess_4 hown (by omega) s1 rfl 5 (by decide) (hts _ fl_X4_keepIfLess_34) (fun _ h9 => h9) rfl dX4_keepIfLess_2 ?_
  refine pz_icmpge (tgt := 30) hx hb dX4_keepIfLess_5 (by decide) (⟨by omega, by omega⟩) (⟨by omega, by omega⟩) (fun hc => ?_) (fun hc => ?_)
  · exact fin (ad, N, c) c _ _ _ _ _ _ rfl ⟨by rw [if_neg (by omega)]; exact s1, by rw [if_neg (by omega)]; exact s7, fun _ _ => rfl⟩ w dX4_keepIfLess_30 (Nat.le_refl _) (Nat.le_refl _)
  · refine lv_aload_n hx hb dX4_keepIfLess_8 rfl (lv_at hl 0 rfl) ?_
    refine lv_iload_n hx hb dX4_keepIfLess_9 rfl (lv_at hl 1 rfl) ?_
    refine pw_put' (r := 98) (ci := 4) (C := RX4) (T := TX4) (Nf := 6) hx hb w hts hin_X4_keepIfLess_4 tyX4 tyX4_ok nmX4 hown (by omega) s1 rfl 5 (by decide) (hts _ fl_X4_keepIfLess_34) (fun _ h9 => h9) rfl (ty := .int) (by decide +kernel) rfl rfl (Nat.le_of_ble_eq_true rfl) dX4_keepIfLess_10 (fun H locs c1 hc1 fr1 w => ?_)
    refine lv_aload_n hx hb dX4_keepIfLess_13 rfl (lv_at hl 0 rfl) ?_
    refine pw_get (r := 98) (ci := 4) (C := RX4) (T := TX4) (Nf := 6) hx hb w hts hin_X4_keepIfLess_4 hown (by omega) hc1 rfl 2 (by decide) (hts _ fl_X4_keepIfLess_23) (fun _ h9 => h9) rfl dX4_keepIfLess_14 ?_
    refine lv_iconst (v := zI (0)) hx hb dX4_keepIfLess_17 rfl ?_
    refine lv_aload_n hx hb dX4_keepIfLess_18 rfl (lv_at hl 0 rfl) ?_
    refine pw_get (r := 98) (ci := 4) (C := RX4) (T := TX4) (Nf := 6) hx hb w hts hin_X4_keepIfLess_4 hown (by omega) hc1 rfl 3 (by decide) (hts _ fl_X4_keepIfLess_27) (fun _ h9 => h9) rfl dX4_keepIfLess_19 ?_
    refine lv_iconst (v := zI (0)) hx hb dX4_keepIfLess_22 rfl ?_
    refine lv_aload_n hx hb dX4_keepIfLess_23 rfl (lv_at hl 0 rfl) ?_
    refine pw_get (r := 98) (ci := 4) (C := RX4) (T := TX4) (Nf := 6) hx hb w hts hin_X4_keepIfLess_4 hown (by omega) hc1 rfl 4 (by decide) (hts _ fl_X4_keepIfLess_30) (fun _ h9 => h9) rfl dX4_keepIfLess_24 ?_
    refine pw_copyi (q0 := 118) (q1 := 119) (n0 := 4) (n1 := 4) (rest := []) hx hb w (by rw [hml]; exact hl.1.symm) hown (hts _ wd_X4_keepIfLess_l) (hts _ wd_X4_keepIfLess_n) (hts _ wd_X4_keepIfLess_s) (hts _ wd_X4_keepIfLess_i) (by omega) (by omega) (isA.fr (fr1 118 (by omega)) s6) (isA.fr (fr1 119 (by omega)) s7) 0 0 mz (by omega) (by omega) (by decide) (by decide) (Nat.le_of_ble_eq_true rfl) (Nat.le_of_ble_eq_true rfl) dX4_keepIfLess_27 (fun H locs c2 hc2 fr2 w => ?_)
    exact fin (ad, N, c2) c2 _ _ _ _ _ _ rfl ⟨by rw [if_pos (by omega)]; exact ((fr2 98 (by omega)).trans hc1), by rw [if_pos (by omega)]; exact hc2.to (fun j hj => by by_cases h : j < mz <;> simp [h]), fun q hq => (fr2 q (by omega)).trans (fr1 q (by omega))⟩ w dX4_keepIfLess_30 (Nat.le_refl _) (Nat.le_refl _)

theorem hin_X4_costOfOrder_4 : ∀ w ∈ u_ws RX4 TX4 6, w ∈ wsX4_costOfOrder := by decide +kernel
theorem fl_X4_costOfOrder_19 : Cond.fieldLink RX4 19 "PipersDesk$SetSearch" "row" "LPipersDesk$Leasts;" ∈ wsX4_costOfOrder := by decide +kernel
theorem fl_X4_costOfOrder_30 : Cond.fieldLink RX4 30 "PipersDesk$SetSearch" "size" "I" ∈ wsX4_costOfOrder := by decide +kernel
theorem fl_X4_costOfOrder_23 : Cond.fieldLink RX4 23 "PipersDesk$SetSearch" "order" "[I" ∈ wsX4_costOfOrder := by decide +kernel
theorem fl_X4_costOfOrder_11 : Cond.fieldLink RX4 11 "PipersDesk$SetSearch" "joinCosts" "[[I" ∈ wsX4_costOfOrder := by decide +kernel
abbrev rm_X4_costOfOrder : Room := { frames := 2, cells := 0, slots := 0, locals := 60 }
set_option maxHeartbeats 4000000 in
set_option maxRecDepth 100000 in
/-- SetSearch.costOfOrder -/
theorem c_X4_costOfOrder (l : Launch) (D : va_G) (G : Nat → ClassId) (ad : Nat → Nat) (N : Nat) (c : Nat → va_E) {mz : Nat} {lc : Int} {od bt : Nat → Nat} (hN : 120 ≤ N) (hS : SS G ad c mz lc od bt) {nn : Nat → Nat} {pt ln : Nat → Nat → Nat} {wi : Nat → Nat → Int} (hU : Tus G ad c nn pt ln wi) (hUV : TusV nn pt ln wi) {cw jw : Nat → Nat → Nat → Int} (hW : GWs G c nn cw) (hJ : ∀ a b, a < 4 → b < 4 → 0 < nn a → 0 < nn b → isA 0 G (c (100 + (a * 4 + b))) 9 (jw a b)) (hod : ∀ j, j < mz → od j < 4 ∧ 0 < nn (od j)) (hm4 : mz ≤ 4) (hcw : ∀ t i j, j < 9 → 0 ≤ cw t i j ∧ cw t i j ≤ 1000000) (hjw : ∀ a b j, j < 9 → 0 ≤ jw a b j ∧ jw a b j ≤ 1000000) : MC l yX4_costOfOrder wsX4_costOfOrder rm_X4_costOfOrder [.ref (ad 98), .ref (ad 15)] D G ad N c (qI D G (fx ad N) (fun v c1 => v = zI (lessOf (cOF nn cw jw od mz)) ∧ (∃ g, isA 0 G (c1 117) 9 g) ∧ ∀ q, q ≠ 117 → c1 q = c q)) 0 0 := by
  refine MCi.of (cc := cX4_costOfOrder) (maxL := 5) (by decide) rfl (Nat.le_of_ble_eq_true rfl) ?_
  intro p e s m args below meth kc A Q hx hb hts hown hml fin H locs w ls hl
  have hown : s.vm.findClass RX4 = some m.cls := hown
  have hl : lv_has ls 5 [(0, .ref (ad 98)), (1, .ref (ad 15))] := hl
  obtain ⟨s1, ⟨fs, s2, s3⟩, s4, ⟨g117, s5⟩, s6, s7⟩ := id hS
  obtain ⟨⟨fu, u1, u2⟩, u3⟩ := id hU
  refine lv_aload_n hx hb dX4_costOfOrder_0 rfl (lv_at hl 0 rfl) ?_
  refine pw_get (r := 98) (ci := 4) (C := RX4) (T := TX4) (Nf := 6) hx hb w hts hin_X4_costOfOrder_4 hown (by omega) s1 rfl 1 (by decide) (hts _ fl_X4_costOfOrder_19) (fun _ h9 => h9) rfl dX4_costOfOrder_1 ?_
  refine pw_cv w (pw_runV (r := 116) (ci := 1) (As := []) (rest := []) w ⟨hx, hb, hml, hown, hts⟩ (c_X1_startRow l D G ad N c (r := 116) (by omega) (by omega) s4 s5) (cwV 0 hts gX4_costOfOrder_X1_startRow rfl rfl rfl (by decide +kernel) ⟨Nat.le_of_ble_eq_true rfl, Nat.le_of_ble_eq_true rfl⟩) (by omega) s4 rfl rfl hl.1 rfl (lv_room (Nat.le_of_ble_eq_true rfl)) dX4_costOfOrder_4 ⟨Nat.le_of_ble_eq_true rfl, Nat.le_of_ble_eq_true rfl⟩) (fun c1 H locs hp w => ?_)
  have w : PW D G A s ad N c1 H locs := w
  obtain ⟨hA1, fr1⟩ := hp
  refine lv_iconst (v := zI (0)) hx hb dX4_costOfOrder_7 rfl ?_
  refine lv_istore_n (lv' := [(2, .int (zI 0)), (0, .ref (ad 98)), (1, .ref (ad 15))]) hx hb dX4_costOfOrder_8 rfl hl (by decide) rfl (fun ls hl => ?_)
  have lp : ∀ (f : Nat) (p9 : Nat) (c1 : Nat → va_E) (H : Heap) (locs : List Loc) (ls : Array Slot), p9 ≤ mz → isA 0 G (c1 117) 9 (cOF nn cw jw od p9) → (∀ q, q ≠ 117 → c1 q = c q) → mz < p9 + f → PW D G A s ad N c1 H locs → lv_has ls 5 [(0, .ref (ad 98)), (1, .ref (ad 15)), (2, .int (zI (p9 : Int)))] → W p l e rm_X4_costOfOrder s m args below meth kc H locs 0 0 Q (F0 m 9 ls []) := by
    intro f
    induction f with
    | zero => intro p9 c1 H locs ls h9 hA hf hfu w hl; omega
    | succ f ih =>
      intro p9 c1 H locs ls h9 hA hf hfu w hl
      have hb1 := cOF_bd (nn := nn) (od := od) hcw hjw p9
      refine lv_iload_n hx hb dX4_costOfOrder_9 rfl (lv_at hl 2 rfl) ?_
      refine lv_aload_n hx hb dX4_costOfOrder_10 rfl (lv_at hl 0 rfl) ?_
      refine pw_get (r := 98) (ci := 4) (C := RX4) (T := TX4) (Nf := 6) hx hb w hts hin_X4_costOfOrder_4 hown (by omega) ((hf 98 (by omega)).trans s1) rfl 4 (by decide) (hts _ fl_X4_costOfOrder_30) (fun _ h9 => h9) rfl dX4_costOfOrder_11 ?_
      refine pz_icmpge (tgt := 104) hx hb dX4_costOfOrder_14 (by decide) (⟨by omega, by omega⟩) (⟨by omega, by omega⟩) (fun hi => ?_) (fun hi => ?_)
      · have e9 : p9 = mz := by omega
        subst e9
        refine lv_aload_n hx hb dX4_costOfOrder_104 rfl (lv_at hl 0 rfl) ?_
        refine pw_get (r := 98) (ci := 4) (C := RX4) (T := TX4) (Nf := 6) hx hb w hts hin_X4_costOfOrder_4 hown (by omega) ((hf 98 (by omega)).trans s1) rfl 1 (by decide) (hts _ fl_X4_costOfOrder_19) (fun _ h9 => h9) rfl dX4_costOfOrder_105 ?_
        refine pw_ci w (pw_runV (r := 116) (ci := 1) (As := []) (rest := []) w ⟨hx, hb, hml, hown, hts⟩ (c_X1_leastOfAll l D G ad N c1 (r := 116) (g := cOF nn cw jw od p9) (by omega) (by omega) ((hf 116 (by omega)).trans s4) hA hb1) (cwV 0 hts gX4_costOfOrder_X1_leastOfAll rfl rfl rfl (by decide +kernel) ⟨Nat.le_of_ble_eq_true rfl, Nat.le_of_ble_eq_true rfl⟩) (by omega) ((hf 116 (by omega)).trans s4) rfl rfl hl.1 rfl (lv_room (Nat.le_of_ble_eq_true rfl)) dX4_costOfOrder_108 ⟨Nat.le_of_ble_eq_true rfl, Nat.le_of_ble_eq_true rfl⟩) (fun r_ u H locs hp w => ?_)
        obtain ⟨hv, hu⟩ := hp
        subst hv
        have w : PW D G A s ad N c1 H locs := by rw [hu] at w; exact w
        clear hu
        exact fin (ad, N, c1) c1 _ _ _ _ _ _ _ rfl ⟨rfl, ⟨_, hA⟩, hf⟩ w dX4_costOfOrder_111 (Nat.le_refl _) (Nat.le_refl _)
      · have hop := hod p9 (by omega)
        refine lv_aload_n hx hb dX4_costOfOrder_17 rfl (lv_at hl 1 rfl) ?_
        refine lv_aload_n hx hb dX4_costOfOrder_18 rfl (lv_at hl 0 rfl) ?_
        refine pw_get (r := 98) (ci := 4) (C := RX4) (T := TX4) (Nf := 6) hx hb w hts hin_X4_costOfOrder_4 hown (by omega) ((hf 98 (by omega)).trans s1) rfl 2 (by decide) (hts _ fl_X4_costOfOrder_23) (fun _ h9 => h9) rfl dX4_costOfOrder_19 ?_
        refine lv_iload_n hx hb dX4_costOfOrder_22 rfl (lv_at hl 2 rfl) ?_
        refine pw_iald (r := 118) (j := p9) hx hb w (by omega) (isA.fr (hf 118 (by omega)) s6) (by omega) (by omega) (by decide) dX4_costOfOrder_23 ?_
        refine pw_aaldR (r := 15) (j := (od p9)) hx hb w (by omega) ((hf 15 (by omega)).trans u1) rfl rfl (by omega) (by omega) (by decide) (16 + 14 * (od p9)) (u2 (od p9) (by omega)) dX4_costOfOrder_24 ?_
        refine lv_astore_n (lv' := [(3, .ref (ad (16 + 14 * (od p9)))), (0, .ref (ad 98)), (1, .ref (ad 15)), (2, .int (zI (p9 : Int)))]) hx hb dX4_costOfOrder_25 rfl hl (by decide) rfl (fun ls hl => ?_)
        refine lv_iload_n hx hb dX4_costOfOrder_26 rfl (lv_at hl 3 rfl) ?_
        have jn : ∀ (J : Nat → Int) (c2 : Nat → va_E) (H : Heap) (locs : List Loc) (ls : Array Slot), J = (if p9 = 0 then cOF nn cw jw od p9 else growF (cOF nn cw jw od p9) (jw (od (p9 - 1)) (od p9))) → (∀ j, j < 9 → 0 ≤ J j ∧ J j ≤ 1000000) → isA 0 G (c2 117) 9 J → (∀ q, q ≠ 117 → c2 q = c q) → PW D G A s ad N c2 H locs → lv_has ls 5 [(0, .ref (ad 98)), (1, .ref (ad 15)), (2, .int (zI (p9 : Int))), (3, .ref (ad (16 + 14 * (od p9))))] → W p l e rm_X4_costOfOrder s m args below meth kc H locs 0 0 Q (F0 m 63 ls []) := by
          intro J c2 H locs ls hJe hJb hA2 hf2 w hl
          refine lv_iconst (v := zI (0)) hx hb dX4_costOfOrder_63 rfl ?_
          refine lv_istore (lv' := [(4, .int (zI 0)), (0, .ref (ad 98)), (1, .ref (ad 15)), (2, .int (zI (p9 : Int))), (3, .ref (ad (16 + 14 * (od p9))))]) hx hb dX4_costOfOrder_64 hl (by decide) rfl (fun ls hl => ?_)
          have lq : ∀ (f2 : Nat) (g9 : Nat) (c3 : Nat → va_E) (H : Heap) (locs : List Loc) (ls : Array Slot), g9 ≤ nn (od p9) - 1 → isA 0 G (c3 117) 9 (plF (cw (od p9)) J g9) → (∀ q, q ≠ 117 → c3 q = c q) → nn (od p9) - 1 < g9 + f2 → PW D G A s ad N c3 H locs → lv_has ls 5 [(0, .ref (ad 98)), (1, .ref (ad 15)), (2, .int (zI (p9 : Int))), (3, .ref (ad (16 + 14 * (od p9)))), (4, .int (zI (g9 : Int)))] → W p l e rm_X4_costOfOrder s m args below meth kc H locs 0 0 Q (F0 m 66 ls []) := by
            intro f2
            induction f2 with
            | zero => intro g9 c3 H locs ls h9g hA3 hf3 hfu w hl; omega
            | succ f2 ih2 =>
              intro g9 c3 H locs ls h9g hA3 hf3 hfu w hl
              have hU3 := hU.fr (c1 := c3) (fun q hq => hf3 q (by omega))
              have hW3 := hW.fr (c1 := c3) (fun t ht => (hUV t ht).1) (fun q hq => hf3 q (by omega))
              refine lv_iload hx hb dX4_costOfOrder_66 (lv_at hl 4 rfl) ?_
              refine lv_aload_n hx hb dX4_costOfOrder_68 rfl (lv_at hl 3 rfl) ?_
              refine pw_ci w (pw_runV (r := (16 + 14 * (od p9))) (ci := 5) (As := []) (rest := [.int (zI (g9 : Int))]) w ⟨hx, hb, hml, hown, hts⟩ (c_X5_gaps l D G ad N c3 (T := 16 + 14 * (od p9)) (by omega) hN (hU3.2 (od p9) hop.1) (hUV (od p9) hop.1)) (cwV 0 hts gX4_costOfOrder_X5_gaps rfl rfl rfl (by decide +kernel) ⟨Nat.le_of_ble_eq_true rfl, Nat.le_of_ble_eq_true rfl⟩) (by omega) (hU3.2 (od p9) hop.1).1 rfl rfl hl.1 rfl (lv_room (Nat.le_of_ble_eq_true rfl)) dX4_costOfOrder_69 ⟨Nat.le_of_ble_eq_true rfl, Nat.le_of_ble_eq_true rfl⟩) (fun r_ u H locs hp w => ?_)
              obtain ⟨hv, hu⟩ := hp
              subst hv
              have w : PW D G A s ad N c3 H locs := by rw [hu] at w; exact w
              clear hu
              have hnn := (hUV (od p9) hop.1).1
              refine pz_icmpge (tgt := 98) hx hb dX4_costOfOrder_72 (by decide) (⟨by omega, by omega⟩) (⟨by omega, by omega⟩) (fun hg => ?_) (fun hg => ?_)
              · have e9 : g9 = nn (od p9) - 1 := by omega
                subst e9
                refine pz_iinc (lv' := [(2, .int (zI ((p9 + 1 : Nat) : Int))), (0, .ref (ad 98)), (1, .ref (ad 15)), (3, .ref (ad (16 + 14 * (od p9)))), (4, .int (zI ((nn (od p9) - 1 : Nat) : Int)))]) hx hb dX4_costOfOrder_98 hl (j := 2) rfl ((p9 + 1 : Nat) : Int) (by omega) (by decide) rfl (fun ls hl => ?_)
                refine lv_goto (tgt := 9) hx hb dX4_costOfOrder_101 (by decide) ?_
                have e8 : cOF nn cw jw od (p9 + 1) = plF (cw (od p9)) J (nn (od p9) - 1) := by rw [cOF, hJe]
                exact ih (p9 + 1) c3 H locs ls (by omega) (by rw [e8]; exact hA3) hf3 (by omega) w (lv_sub hl [1, 2, 0] rfl)
              · refine lv_aload_n hx hb dX4_costOfOrder_75 rfl (lv_at hl 0 rfl) ?_
                refine pw_get (r := 98) (ci := 4) (C := RX4) (T := TX4) (Nf := 6) hx hb w hts hin_X4_costOfOrder_4 hown (by omega) ((hf3 98 (by omega)).trans s1) rfl 1 (by decide) (hts _ fl_X4_costOfOrder_19) (fun _ h9 => h9) rfl dX4_costOfOrder_76 ?_
                refine lv_aload_n hx hb dX4_costOfOrder_79 rfl (lv_at hl 0 rfl) ?_
                refine pw_get (r := 98) (ci := 4) (C := RX4) (T := TX4) (Nf := 6) hx hb w hts hin_X4_costOfOrder_4 hown (by omega) ((hf3 98 (by omega)).trans s1) rfl 1 (by decide) (hts _ fl_X4_costOfOrder_19) (fun _ h9 => h9) rfl dX4_costOfOrder_80 ?_
                refine lv_aload_n hx hb dX4_costOfOrder_83 rfl (lv_at hl 3 rfl) ?_
                refine lv_iload hx hb dX4_costOfOrder_84 (lv_at hl 4 rfl) ?_
                refine pw_cr w (pw_runV (r := (16 + 14 * (od p9))) (ci := 5) (As := [.int (zI (g9 : Int))]) (rest := [.ref (ad 116), .ref (ad 116)]) w ⟨hx, hb, hml, hown, hts⟩ (c_X5_costsAt l D G ad N c3 (T := 16 + 14 * (od p9)) (by omega) hN (hU3.2 (od p9) hop.1) (hUV (od p9) hop.1) (i := g9) (by omega)) (cwV 1 hts gX4_costOfOrder_X5_costsAt rfl rfl rfl (by decide +kernel) ⟨Nat.le_of_ble_eq_true rfl, Nat.le_of_ble_eq_true rfl⟩) (by omega) (hU3.2 (od p9) hop.1).1 rfl rfl hl.1 rfl (lv_room (Nat.le_of_ble_eq_true rfl)) dX4_costOfOrder_86 ⟨Nat.le_of_ble_eq_true rfl, Nat.le_of_ble_eq_true rfl⟩) (fun r_ u H locs hp w => ?_)
                obtain ⟨hv, hu⟩ := hp
                subst hv
                have w : PW D G A s ad N c3 H locs := by rw [hu] at w; exact w
                clear hu
                have hb3 := plF_bd (v := cw (od p9)) hJb (hcw (od p9)) g9
                refine pw_cv w (pw_runV (r := 116) (ci := 1) (As := [.ref (ad 116), .ref (ad (16 + 14 * (od p9) + 5 + g9))]) (rest := []) w ⟨hx, hb, hml, hown, hts⟩ (c_X1_growFrom l D G ad N c3 (r := 116) (q := 116) (t := 16 + 14 * (od p9) + 5 + g9) (g0 := plF (cw (od p9)) J g9) (g := plF (cw (od p9)) J g9) (v := cw (od p9) g9) (by omega) (by omega) (by omega) (by omega) (by omega) ((hf3 116 (by omega)).trans s4) hA3 ((hf3 116 (by omega)).trans s4) hA3 (hW3 (od p9) hop.1 g9 (by omega)) (by omega) hb3 (hcw (od p9) g9)) (cwV 2 hts gX4_costOfOrder_X1_growFrom rfl rfl rfl (by decide +kernel) ⟨Nat.le_of_ble_eq_true rfl, Nat.le_of_ble_eq_true rfl⟩) (by omega) ((hf3 116 (by omega)).trans s4) rfl rfl hl.1 rfl (lv_room (Nat.le_of_ble_eq_true rfl)) dX4_costOfOrder_89 ⟨Nat.le_of_ble_eq_true rfl, Nat.le_of_ble_eq_true rfl⟩) (fun c2 H locs hp w => ?_)
                have w : PW D G A s ad N c2 H locs := w
                obtain ⟨hA2, fr2⟩ := hp
                refine pz_iinc (lv' := [(4, .int (zI ((g9 + 1 : Nat) : Int))), (0, .ref (ad 98)), (1, .ref (ad 15)), (2, .int (zI (p9 : Int))), (3, .ref (ad (16 + 14 * (od p9))))]) hx hb dX4_costOfOrder_92 hl (j := 4) rfl ((g9 + 1 : Nat) : Int) (by omega) (by decide) rfl (fun ls hl => ?_)
                refine lv_goto (tgt := 66) hx hb dX4_costOfOrder_95 (by decide) ?_
                exact ih2 (g9 + 1) c2 H locs ls (by omega) hA2 (fun q hq => (fr2 q hq).trans (hf3 q hq)) (by omega) w (lv_sub hl [1, 2, 3, 4, 0] rfl)
          exact lq (nn (od p9) + 1) 0 c2 H locs ls (by omega) hA2 hf2 (by omega) w (lv_sub hl [1, 2, 3, 4, 0] rfl)
        refine pz_ifle (tgt := 63) hx hb dX4_costOfOrder_27 (by decide) (⟨by omega, by omega⟩) (fun hp => ?_) (fun hp => ?_)
        · exact jn (cOF nn cw jw od p9) c1 H locs ls (by rw [if_pos (by omega)]) hb1 hA hf w (lv_sub hl [1, 2, 3, 0] rfl)
        · have hom := hod (p9 - 1) (by omega)
          refine lv_aload_n hx hb dX4_costOfOrder_30 rfl (lv_at hl 1 rfl) ?_
          refine pw_get (r := 98) (ci := 4) (C := RX4) (T := TX4) (Nf := 6) hx hb w hts hin_X4_costOfOrder_4 hown (by omega) ((hf 98 (by omega)).trans s1) rfl 1 (by decide) (hts _ fl_X4_costOfOrder_19) (fun _ h9 => h9) rfl dX4_costOfOrder_31 ?_
          refine lv_aload_n hx hb dX4_costOfOrder_34 rfl (lv_at hl 1 rfl) ?_
          refine pw_get (r := 98) (ci := 4) (C := RX4) (T := TX4) (Nf := 6) hx hb w hts hin_X4_costOfOrder_4 hown (by omega) ((hf 98 (by omega)).trans s1) rfl 1 (by decide) (hts _ fl_X4_costOfOrder_19) (fun _ h9 => h9) rfl dX4_costOfOrder_35 ?_
          refine lv_aload_n hx hb dX4_costOfOrder_38 rfl (lv_at hl 1 rfl) ?_
          refine pw_get (r := 98) (ci := 4) (C := RX4) (T := TX4) (Nf := 6) hx hb w hts hin_X4_costOfOrder_4 hown (by omega) ((hf 98 (by omega)).trans s1) rfl 0 (by decide) (hts _ fl_X4_costOfOrder_11) (fun _ h9 => h9) rfl dX4_costOfOrder_39 ?_
          refine lv_aload_n hx hb dX4_costOfOrder_42 rfl (lv_at hl 1 rfl) ?_
          refine pw_get (r := 98) (ci := 4) (C := RX4) (T := TX4) (Nf := 6) hx hb w hts hin_X4_costOfOrder_4 hown (by omega) ((hf 98 (by omega)).trans s1) rfl 2 (by decide) (hts _ fl_X4_costOfOrder_23) (fun _ h9 => h9) rfl dX4_costOfOrder_43 ?_
          refine lv_iload_n hx hb dX4_costOfOrder_46 rfl (lv_at hl 3 rfl) ?_
          refine lv_iconst (v := zI (1)) hx hb dX4_costOfOrder_47 rfl ?_
          refine pz_isub hx hb dX4_costOfOrder_48 ?_
          refine pw_iald (r := 118) (j := (p9 - 1)) hx hb w (by omega) (isA.fr (hf 118 (by omega)) s6) (by omega) (by omega) (by decide) dX4_costOfOrder_49 ?_
          refine lv_iconst (v := zI (4)) hx hb dX4_costOfOrder_50 rfl ?_
          refine pz_imul hx hb dX4_costOfOrder_51 ?_
          refine lv_aload_n hx hb dX4_costOfOrder_52 rfl (lv_at hl 1 rfl) ?_
          refine pw_get (r := 98) (ci := 4) (C := RX4) (T := TX4) (Nf := 6) hx hb w hts hin_X4_costOfOrder_4 hown (by omega) ((hf 98 (by omega)).trans s1) rfl 2 (by decide) (hts _ fl_X4_costOfOrder_23) (fun _ h9 => h9) rfl dX4_costOfOrder_53 ?_
          refine lv_iload_n hx hb dX4_costOfOrder_56 rfl (lv_at hl 3 rfl) ?_
          refine pw_iald (r := 118) (j := p9) hx hb w (by omega) (isA.fr (hf 118 (by omega)) s6) (by omega) (by omega) (by decide) dX4_costOfOrder_57 ?_
          refine pz_iadd hx hb dX4_costOfOrder_58 ?_
          refine pw_aaldR (r := 99) (j := (od (p9 - 1) * 4 + od p9)) hx hb w (by omega) ((hf 99 (by omega)).trans s2) rfl rfl (by omega) (by omega) (by decide) (100 + (od (p9 - 1) * 4 + od p9)) (s3 (od (p9 - 1) * 4 + od p9) (by omega)) dX4_costOfOrder_59 ?_
          refine pw_cv w (pw_runV (r := 116) (ci := 1) (As := [.ref (ad 116), .ref (ad (100 + (od (p9 - 1) * 4 + od p9)))]) (rest := []) w ⟨hx, hb, hml, hown, hts⟩ (c_X1_growFrom l D G ad N c1 (r := 116) (q := 116) (t := 100 + (od (p9 - 1) * 4 + od p9)) (g0 := cOF nn cw jw od p9) (g := cOF nn cw jw od p9) (v := jw (od (p9 - 1)) (od p9)) (by omega) (by omega) (by omega) (by omega) (by omega) ((hf 116 (by omega)).trans s4) hA ((hf 116 (by omega)).trans s4) hA (isA.fr (hf _ (by omega)) (hJ (od (p9 - 1)) (od p9) hom.1 hop.1 hom.2 hop.2)) (by omega) hb1 (hjw _ _)) (cwV 2 hts gX4_costOfOrder_X1_growFrom rfl rfl rfl (by decide +kernel) ⟨Nat.le_of_ble_eq_true rfl, Nat.le_of_ble_eq_true rfl⟩) (by omega) ((hf 116 (by omega)).trans s4) rfl rfl hl.1 rfl (lv_room (Nat.le_of_ble_eq_true rfl)) dX4_costOfOrder_60 ⟨Nat.le_of_ble_eq_true rfl, Nat.le_of_ble_eq_true rfl⟩) (fun c3 H locs hp w => ?_)
          have w : PW D G A s ad N c3 H locs := w
          obtain ⟨hA3, fr3⟩ := hp
          exact jn (growF (cOF nn cw jw od p9) (jw (od (p9 - 1)) (od p9))) c3 H locs ls (by rw [if_neg (by omega)]) (growF_bd hb1 (hjw _ _)) hA3 (fun q hq => (fr3 q hq).trans (hf q hq)) w (lv_sub hl [1, 2, 3, 0] rfl)
  exact lp (mz + 1) 0 c1 H locs ls (by omega) hA1 fr1 (by omega) w (lv_sub hl [1, 2, 0] rfl)
