/-! OURS: the law's loop: what holds all through, its world, what stands behind a case, the stretches that come again and again -/
def LX (p : Program) (l : Launch) (s : State) (m : MethodId) (args : Array Value) (k : Code) (A : Nat → Prop) (b L : Nat) (xs : Nat → Int32) : Prop :=
  p.tables.exec = Jvm.exec ∧ k.code = code ∧ (∀ w ∈ wsL_law, w.before args s = true) ∧ s.vm.findClass RL = some m.cls ∧ k.maxLocals = 8 ∧ va_X b L xs s s.heap ∧ b < s.heap.size ∧ ¬ A b ∧ l.stackTraces = false
def LWs (G : Nat → ClassId) (ad : Nat → Nat) (N : Nat) (c : Nat → va_E) (th lim : Int) (no dn : Nat) (gn : Nat → Nat) (gg : Nat → Nat → Nat) (dg nn : Nat → Nat) (pt ln : Nat → Nat → Nat) (wi : Nat → Nat → Int) : Prop :=
  N = 139 + 2 * no ∧ DK G ad c lim no dn gn gg dg nn pt ln wi ∧ MS G ad c th lim no dn gn gg dg nn pt ln wi ∧ SV lim no dn gn gg dg nn pt ln wi ∧ (∃ v, lnA G (c 137) v) ∧ ∃ v, dbA G (c 138) v
abbrev lawLs (ad : Nat → Nat) (b i : Nat) : List (Nat × Value) := [(0, .ref b), (1, .ref (ad 0)), (2, .ref (ad 120)), (3, .ref (ad 137)), (4, .ref (ad 138)), (5, .int (zI ((5 * i : Nat) : Int)))]
def NXT (p : Program) (l : Launch) (e : Env) (s : State) (m : MethodId) (args : Array Value) (below : List Frame) (meth : Method) (k : Code) (Q : State → Prop) (D : va_G) (G : Nat → ClassId) (A : Nat → Prop) (b i : Nat) : Prop :=
  ∀ (ad : Nat → Nat) (N : Nat) (c : Nat → va_E) (th lim : Int) (no dn : Nat) (gn : Nat → Nat) (gg : Nat → Nat → Nat) (dg nn : Nat → Nat) (pt ln : Nat → Nat → Nat) (wi : Nat → Nat → Int) (H : Heap) (locs : List Loc) (cells slots : Nat) (ls : Array Slot),
    LWs G ad N c th lim no dn gn gg dg nn pt ln wi → PW D G A s ad N c H locs → cells ≤ 300 + 10 * (i + 1) → slots ≤ 9000 + 40 * (i + 1) → lv_has ls 8 (lawLs ad b i) → W p l e room_1 s m args below meth k H locs cells slots Q (F0 m 1413 ls [])
theorem lcmp_self (x : Int64) : lg_cmp x x = zI 0 := by rw [zI_0]; simp [lg_cmp]
/-- a float of which nothing is NaN, nor of its double, which equals itself -/
def okF (v : UInt32) : Prop := vf_n32 v ∧ vf_n64 (FP.f2d v) ∧ Op.cmpValue (FP.dcmp (FP.f2d v) (FP.f2d v)) .l = zI 0
theorem okF_0 : okF FP.fconst0 := by
  unfold okF vf_n32 vf_n64
  decide +kernel
theorem okF_N : ∀ c : Nat, c < 361 → ∀ g : Nat, g < 9 → okF (FP.fdiv (FP.i2f (zI (c : Int))) (FP.i2f (zI ((g + 1 : Nat) : Int)))) := by
  unfold okF vf_n32 vf_n64
  decide +kernel
section LAW
variable {p : Program} {l : Launch} {e : Env} {s : State} {m : MethodId} {args : Array Value} {below : List Frame} {meth : Method} {k : Code} {H : Heap} {locs : List Loc} {cells slots : Nat} {Q : State → Prop} {pc : Nat} {ls : Array Slot} {rest : List Value} {D : va_G} {G : Nat → ClassId} {A : Nat → Prop} {ad : Nat → Nat} {N : Nat} {c : Nat → va_E} {b L i : Nat} {xs : Nat → Int32}
/-- script[i + j] -/
theorem lw_arg {j : Nat} {z : Int} (pc' : Nat) (hpc : pc + 1 + 2 + 1 + 1 + 1 = pc') (C : LX p l s m args k A b L xs) (w : PW D G A s ad N c H locs) (h0 : ls[0]? = some (.val (.ref b))) (h5 : ls[5]? = some (.val (.int (zI ((5 * i : Nat) : Int))))) (hi : 5 * i + 5 ≤ L) (hL : L ≤ 2560) (hj : j < 5) (hz : xs (5 * i + j) = zI z)
    (d0 : decode code pc = .ok (.aload_n 0, 1)) (d1 : decode code (pc + 1) = .ok (.iload 5, 2)) (d3 : decode code (pc + 1 + 2) = .ok (.iconst (j : Int), 1)) (d4 : decode code (pc + 1 + 2 + 1) = .ok (.iadd, 1)) (d5 : decode code (pc + 1 + 2 + 1 + 1) = .ok (.iaload, 1))
    (kk : W p l e room_1 s m args below meth k H locs cells slots Q (F0 m pc' ls (.int (zI z) :: rest))) : W p l e room_1 s m args below meth k H locs cells slots Q (F0 m pc ls rest) := by
  subst hpc
  obtain ⟨hx, hb, hts, hown, hml, hX, hbl, hbA, hsT⟩ := C
  refine lv_aload_n hx hb d0 rfl h0 ?_
  refine lv_iload hx hb d1 h5 ?_
  refine lv_iconst (v := zI (j : Int)) hx hb d3 rfl ?_
  refine pz_iadd hx hb d4 ?_
  refine pz_top (b := ((5 * i + j : Nat) : Int)) (by omega) ?_
  refine va_sld hx hb hX hbl hbA w.2.2.2.1 (zI_in (n := L) (by omega) (by omega) (by omega)) d5 ?_
  rw [zI_nat (by omega), hz]
  exact kk
/-- x != 0 as a boolean: 1 or 0 -/
theorem lw_ne {z x : Int} {q1 q2 q3 : Nat} (C : LX p l s m args k A b L xs) (hbz : bnd z) (h0 : z = 0 → x = 0) (h1 : ¬ z = 0 → x = 1) (d0 : decode code pc = .ok (.ifCond .eq 7, 3)) (e1 : pc + 3 = q1) (e2 : pc + 7 = q2) (e3 : pc + 8 = q3) (d3 : decode code q1 = .ok (.iconst 1, 1)) (d4 : decode code (q1 + 1) = .ok (.goto 4, 3)) (d7 : decode code q2 = .ok (.iconst 0, 1))
    (kk : W p l e room_1 s m args below meth k H locs cells slots Q (F0 m q3 ls (.int (zI x) :: rest))) : W p l e room_1 s m args below meth k H locs cells slots Q (F0 m pc ls (.int (zI z) :: rest)) := by
  obtain ⟨hx, hb, hts, hown, hml, hX, hbl, hbA, hsT⟩ := C
  refine pz_ifeq (tgt := q2) hx hb d0 (by omega) hbz (fun h => ?_) (fun h => ?_)
  · rw [h0 h] at kk
    refine lv_iconst (v := zI 0) hx hb d7 rfl ?_
    rw [show q2 + 1 = q3 from by omega]
    exact kk
  · rw [h1 h] at kk
    rw [e1]
    refine lv_iconst (v := zI 1) hx hb d3 rfl ?_
    exact lv_goto (tgt := q3) hx hb d4 (by omega) kk
variable {th lim : Int} {no dn : Nat} {gn : Nat → Nat} {gg : Nat → Nat → Nat} {dg nn : Nat → Nat} {pt ln : Nat → Nat → Nat} {wi : Nat → Nat → Int}
/-- m.thrown() against k -/
theorem lw_thr {P q1 q2 q3 : Nat} {off : Int} (C : LX p l s m args k A b L xs) (w : PW D G A s ad N c H locs) (hN : N = 139 + 2 * no) (hM : MS G ad c th lim no dn gn gg dg nn pt ln wi) (hth : 0 ≤ th ∧ th ≤ 3) (hc : cells ≤ 300 + 10 * (i + 1)) (hs : slots ≤ 9000 + 40 * (i + 1)) (hi : i < 512) (hsz : ls.size = 8)
    (hl2 : ls[2]? = some (.val (.ref (ad 120)))) (hl6 : ls[6]? = some (.val (.int (zI th))))
    (d0 : decode code P = .ok (.aload_n 2, 1)) (d1 : decode code (P + 1) = .ok (.invokevirtual 92, 3)) (d4 : decode code (P + 1 + 3) = .ok (.iload 6, 2)) (d6 : decode code (P + 1 + 3 + 2) = .ok (.if_icmp .eq 5, 3)) (e1 : P + 11 = q1) (d11 : decode code q1 = .ok (.iload 6, 2)) (d13 : decode code (q1 + 2) = .ok (.ifCond .ne off, 3)) (e2 : ((q1 + 2 : Nat) : Int) + off = (q2 : Int)) (e3 : q1 + 2 + 3 = q3)
    (k1 : ¬ th = 0 → ∀ (H : Heap) (locs : List Loc), PW D G A s ad N c H locs → W p l e room_1 s m args below meth k H locs cells slots Q (F0 m q2 ls [])) (k0 : th = 0 → ∀ (H : Heap) (locs : List Loc), PW D G A s ad N c H locs → W p l e room_1 s m args below meth k H locs cells slots Q (F0 m q3 ls [])) : W p l e room_1 s m args below meth k H locs cells slots Q (F0 m P ls []) := by
  obtain ⟨hx, hb, hts, hown, hml, hX, hbl, hbA, hsT⟩ := id C
  obtain ⟨row, hrow⟩ := hM.1
  refine lv_aload_n hx hb d0 rfl hl2 ?_
  refine pw_ci w (pw_runV (r := 120) (ci := 8) (As := []) (rest := []) w ⟨hx, hb, hml, hown, hts⟩ (c_X8_thrown l D G ad N c (by omega) hrow) (cwV 0 hts gL_law_X8_thrown rfl rfl rfl (by decide +kernel) ⟨Nat.le_of_ble_eq_true rfl, Nat.le_of_ble_eq_true rfl⟩) (by omega) hrow rfl rfl hsz rfl (lv_room (Nat.le_of_ble_eq_true rfl)) d1 ⟨by show cells + 0 ≤ 821725; omega, by show slots + 0 ≤ 6630930; omega⟩) (fun r_ u H locs hp w => ?_)
  obtain ⟨hv, hu⟩ := hp
  subst hv
  have w : PW D G A s ad N c H locs := by rw [hu] at w; exact w
  clear hu
  refine lv_iload hx hb d4 hl6 ?_
  refine pz_icmpeq (tgt := q1) hx hb d6 (by omega) ⟨by omega, by omega⟩ ⟨by omega, by omega⟩ (fun _ => ?_) (fun h => absurd rfl h)
  refine lv_iload hx hb d11 hl6 ?_
  refine pz_ifne (tgt := q2) hx hb d13 e2 ⟨by omega, by omega⟩ (fun h => k1 h H locs w) (fun h => ?_)
  rw [e3]
  exact k0 h H locs w
/-- the end of a case that answers an int -/
theorem lw_tailI {P q1 q2 q3 : Nat} {off : Int} {V : Int} (C : LX p l s m args k A b L xs) (hnx : NXT p l e s m args below meth k Q D G A b i) (w : PW D G A s ad N c H locs) (hN : N = 139 + 2 * no) (hD : DK G ad c lim no dn gn gg dg nn pt ln wi) (hM : MS G ad c th lim no dn gn gg dg nn pt ln wi) (hV : SV lim no dn gn gg dg nn pt ln wi) (hO : ∃ v, lnA G (c 137) v ∧ (th = 0 → v = (zI V).toInt64)) (hB : ∃ v, dbA G (c 138) v)
    (hth : 0 ≤ th ∧ th ≤ 3) (hc : cells ≤ 300 + 10 * (i + 1)) (hs : slots ≤ 9000 + 40 * (i + 1)) (hi : i < 512) (hl2 : ls[2]? = some (.val (.ref (ad 120)))) (hl3 : ls[3]? = some (.val (.ref (ad 137)))) (hl6 : ls[6]? = some (.val (.int (zI th)))) (hl7 : ls[7]? = some (.val (.int (zI V)))) (hl : lv_has ls 8 (lawLs ad b i))
    (d0 : decode code P = .ok (.aload_n 2, 1)) (d1 : decode code (P + 1) = .ok (.invokevirtual 92, 3)) (d4 : decode code (P + 1 + 3) = .ok (.iload 6, 2)) (d6 : decode code (P + 1 + 3 + 2) = .ok (.if_icmp .eq 5, 3)) (e1 : P + 11 = q1) (d11 : decode code q1 = .ok (.iload 6, 2)) (d13 : decode code (q1 + 2) = .ok (.ifCond .ne 15, 3)) (e2 : ((q1 + 2 : Nat) : Int) + 15 = (q2 : Int)) (e3 : q1 + 2 + 3 = q3)
    (d16 : decode code q3 = .ok (.aload_n 3, 1)) (d17 : decode code (q3 + 1) = .ok (.iconst 0, 1)) (d18 : decode code (q3 + 1 + 1) = .ok (.laload, 1)) (d19 : decode code (q3 + 1 + 1 + 1) = .ok (.iload 7, 2)) (d21 : decode code (q3 + 1 + 1 + 1 + 2) = .ok (.i2l, 1)) (d22 : decode code (q3 + 1 + 1 + 1 + 2 + 1) = .ok (.lcmp, 1)) (d23 : decode code (q3 + 1 + 1 + 1 + 2 + 1 + 1) = .ok (.ifCond .eq 5, 3)) (d28 : decode code q2 = .ok (.goto off, 3)) (ht : (q2 : Int) + off = ((1413 : Nat) : Int)) : W p l e room_1 s m args below meth k H locs cells slots Q (F0 m P ls []) := by
  obtain ⟨hx, hb, hts, hown, hml, hX, hbl, hbA, hsT⟩ := id C
  have hW : LWs G ad N c th lim no dn gn gg dg nn pt ln wi := ⟨hN, hD, hM, hV, hO.imp (fun v h => h.1), hB⟩
  refine lw_thr C w hN hM hth hc hs hi hl.1 hl2 hl6 d0 d1 d4 d6 e1 d11 d13 e2 e3 (fun h1 H locs w => ?_) (fun h0 H locs w => ?_)
  · refine lv_goto (tgt := 1413) hx hb d28 ht ?_
    exact hnx ad N c th lim no dn gn gg dg nn pt ln wi H locs _ _ ls hW w hc hs hl
  · obtain ⟨v, hv, he⟩ := hO
    have he := he h0
    subst he
    refine lv_aload_n hx hb d16 rfl hl3 ?_
    refine lv_iconst (v := zI 0) hx hb d17 rfl ?_
    refine pw_lald hx hb w (by omega) hv d18 ?_
    refine lv_iload hx hb d19 hl7 ?_
    refine lv_i2l hx hb d21 rfl ?_
    refine W.lcmp hx hb d22 ?_
    refine pz_topI (y := zI 0) (lcmp_self _) ?_
    refine pz_ifeq (tgt := q2) hx hb d23 (by omega) bnd_0 (fun _ => ?_) (fun h => absurd rfl h)
    refine lv_goto (tgt := 1413) hx hb d28 ht ?_
    exact hnx ad N c th lim no dn gn gg dg nn pt ln wi H locs _ _ ls hW w hc hs hl
/-- the end of a case that answers a boolean -/
theorem lw_tailZ {P q1 q2 q3 q4 q5 q6 : Nat} {off : Int} {V : Int} (C : LX p l s m args k A b L xs) (hnx : NXT p l e s m args below meth k Q D G A b i) (w : PW D G A s ad N c H locs) (hN : N = 139 + 2 * no) (hD : DK G ad c lim no dn gn gg dg nn pt ln wi) (hM : MS G ad c th lim no dn gn gg dg nn pt ln wi) (hV : SV lim no dn gn gg dg nn pt ln wi) (hO : ∃ v, lnA G (c 137) v ∧ (th = 0 → v = (zI V).toInt64)) (hB : ∃ v, dbA G (c 138) v) (h01 : V = 0 ∨ V = 1)
    (hth : 0 ≤ th ∧ th ≤ 3) (hc : cells ≤ 300 + 10 * (i + 1)) (hs : slots ≤ 9000 + 40 * (i + 1)) (hi : i < 512) (hl2 : ls[2]? = some (.val (.ref (ad 120)))) (hl3 : ls[3]? = some (.val (.ref (ad 137)))) (hl6 : ls[6]? = some (.val (.int (zI th)))) (hl7 : ls[7]? = some (.val (.int (zI V)))) (hl : lv_has ls 8 (lawLs ad b i))
    (d0 : decode code P = .ok (.aload_n 2, 1)) (d1 : decode code (P + 1) = .ok (.invokevirtual 92, 3)) (d4 : decode code (P + 1 + 3) = .ok (.iload 6, 2)) (d6 : decode code (P + 1 + 3 + 2) = .ok (.if_icmp .eq 5, 3)) (e1 : P + 11 = q1) (d11 : decode code q1 = .ok (.iload 6, 2)) (d13 : decode code (q1 + 2) = .ok (.ifCond .ne 22, 3)) (e2 : ((q1 + 2 : Nat) : Int) + 22 = (q2 : Int)) (e3 : q1 + 2 + 3 = q3)
    (d16 : decode code q3 = .ok (.aload_n 3, 1)) (d17 : decode code (q3 + 1) = .ok (.iconst 0, 1)) (d18 : decode code (q3 + 1 + 1) = .ok (.laload, 1)) (d19 : decode code (q3 + 1 + 1 + 1) = .ok (.iload 7, 2)) (d21 : decode code (q3 + 1 + 1 + 1 + 2) = .ok (.ifCond .eq 7, 3)) (e4 : q3 + 1 + 1 + 1 + 2 + 3 = q4) (e5 : q4 + 4 = q5) (e6 : q4 + 5 = q6) (d24 : decode code q4 = .ok (.lconst 1, 1)) (d25 : decode code (q4 + 1) = .ok (.goto 4, 3)) (d28 : decode code q5 = .ok (.lconst 0, 1)) (d29 : decode code q6 = .ok (.lcmp, 1)) (d30 : decode code (q6 + 1) = .ok (.ifCond .eq 5, 3)) (d35 : decode code q2 = .ok (.goto off, 3)) (ht : (q2 : Int) + off = ((1413 : Nat) : Int)) : W p l e room_1 s m args below meth k H locs cells slots Q (F0 m P ls []) := by
  obtain ⟨hx, hb, hts, hown, hml, hX, hbl, hbA, hsT⟩ := id C
  have hW : LWs G ad N c th lim no dn gn gg dg nn pt ln wi := ⟨hN, hD, hM, hV, hO.imp (fun v h => h.1), hB⟩
  refine lw_thr C w hN hM hth hc hs hi hl.1 hl2 hl6 d0 d1 d4 d6 e1 d11 d13 e2 e3 (fun h1 H locs w => ?_) (fun h0 H locs w => ?_)
  · refine lv_goto (tgt := 1413) hx hb d35 ht ?_
    exact hnx ad N c th lim no dn gn gg dg nn pt ln wi H locs _ _ ls hW w hc hs hl
  · obtain ⟨v, hv, he⟩ := hO
    have he := he h0
    subst he
    refine lv_aload_n hx hb d16 rfl hl3 ?_
    refine lv_iconst (v := zI 0) hx hb d17 rfl ?_
    refine pw_lald hx hb w (by omega) hv d18 ?_
    refine lv_iload hx hb d19 hl7 ?_
    refine pz_ifeq (tgt := q5) hx hb d21 (by omega) (bnd_01 h01) (fun hz => ?_) (fun hz => ?_)
    · refine lv_lconst (v := (zI V).toInt64) hx hb d28 (zL_of0 hz) ?_
      rw [show q5 + 1 = q6 from by omega]
      refine W.lcmp hx hb d29 ?_
      refine pz_topI (y := zI 0) (lcmp_self _) ?_
      refine pz_ifeq (tgt := q2) hx hb d30 (by omega) bnd_0 (fun _ => ?_) (fun h => absurd rfl h)
      refine lv_goto (tgt := 1413) hx hb d35 ht ?_
      exact hnx ad N c th lim no dn gn gg dg nn pt ln wi H locs _ _ ls hW w hc hs hl
    · rw [e4]
      refine lv_lconst (v := (zI V).toInt64) hx hb d24 (zL_of1 (h01.resolve_left hz)) ?_
      refine lv_goto (tgt := q6) hx hb d25 (by omega) ?_
      refine W.lcmp hx hb d29 ?_
      refine pz_topI (y := zI 0) (lcmp_self _) ?_
      refine pz_ifeq (tgt := q2) hx hb d30 (by omega) bnd_0 (fun _ => ?_) (fun h => absurd rfl h)
      refine lv_goto (tgt := 1413) hx hb d35 ht ?_
      exact hnx ad N c th lim no dn gn gg dg nn pt ln wi H locs _ _ ls hW w hc hs hl
/-- the end of the case that answers a float -/
theorem lw_tailF {V : UInt32} (C : LX p l s m args k A b L xs) (hnx : NXT p l e s m args below meth k Q D G A b i) (w : PW D G A s ad N c H locs) (hN : N = 139 + 2 * no) (hD : DK G ad c lim no dn gn gg dg nn pt ln wi) (hM : MS G ad c th lim no dn gn gg dg nn pt ln wi) (hV : SV lim no dn gn gg dg nn pt ln wi) (hO : ∃ v, lnA G (c 137) v) (hB : ∃ v, dbA G (c 138) v ∧ (th = 0 → v = FP.f2d V)) (hok : okF V)
    (hth : 0 ≤ th ∧ th ≤ 3) (hc : cells ≤ 300 + 10 * (i + 1)) (hs : slots ≤ 9000 + 40 * (i + 1)) (hi : i < 512) (hl2 : ls[2]? = some (.val (.ref (ad 120)))) (hl4 : ls[4]? = some (.val (.ref (ad 138)))) (hl6 : ls[6]? = some (.val (.int (zI th)))) (hl7 : ls[7]? = some (.val (.float V))) (hl : lv_has ls 8 (lawLs ad b i)) : W p l e room_1 s m args below meth k H locs cells slots Q (F0 m 1248 ls []) := by
  obtain ⟨hx, hb, hts, hown, hml, hX, hbl, hbA, hsT⟩ := id C
  have hW : LWs G ad N c th lim no dn gn gg dg nn pt ln wi := ⟨hN, hD, hM, hV, hO, hB.imp (fun v h => h.1)⟩
  refine lw_thr C w hN hM hth hc hs hi hl.1 hl2 hl6 dL_law_1248 dL_law_1249 dL_law_1252 dL_law_1254 rfl dL_law_1259 dL_law_1261 (q2 := 1297) (by decide) rfl (fun h1 H locs w => ?_) (fun h0 H locs w => ?_)
  · refine lv_goto (tgt := 1413) hx hb dL_law_1297 (by decide) ?_
    exact hnx ad N c th lim no dn gn gg dg nn pt ln wi H locs _ _ ls hW w hc hs hl
  · obtain ⟨v, hv, he⟩ := hB
    have he := he h0
    subst he
    refine lv_aload hx hb dL_law_1264 hl4 ?_
    refine lv_iconst (v := zI 0) hx hb dL_law_1266 rfl ?_
    refine pw_dald hx hb w (by omega) hv dL_law_1267 ?_
    refine lv_fload hx hb dL_law_1268 hl7 ?_
    refine lv_f2d hx hb dL_law_1270 hok.2.1 ?_
    refine lv_dcmp hx hb dL_law_1271 ?_
    refine pz_topI (y := zI 0) hok.2.2 ?_
    refine pz_ifeq (tgt := 1297) hx hb dL_law_1272 (by decide) bnd_0 (fun _ => ?_) (fun h => absurd rfl h)
    refine lv_goto (tgt := 1413) hx hb dL_law_1297 (by decide) ?_
    exact hnx ad N c th lim no dn gn gg dg nn pt ln wi H locs _ _ ls hW w hc hs hl
end LAW
section LV
variable {lim : Int} {no : Nat} {gn : Nat → Nat} {gg : Nat → Nat → Nat} {nn : Nat → Nat} {pt ln : Nat → Nat → Nat} {wi : Nat → Nat → Int}
theorem T_okF (hOV : OV no gn gg) (hU : TusV nn pt ln wi) {t : Nat} (ht : t < 4) (hW : 0 < (TV lim no gn gg (nn t) (pt t) (ln t) (wi t)).2.1) : okF (if nn t < 2 then FP.fconst0 else FP.fdiv (FP.i2f (zI (TV lim no gn gg (nn t) (pt t) (ln t) (wi t)).1)) (FP.i2f (zI ((nn t : Int) - 1)))) := by
  by_cases h : nn t < 2
  · rw [if_pos h]
    exact okF_0
  · rw [if_neg h]
    have hTV := TV_bd (lim := lim) hOV (hU t ht)
    have h10 := (hU t ht).1
    have hN9 := okF_N (TV lim no gn gg (nn t) (pt t) (ln t) (wi t)).1.toNat (by have := hTV.2.2.2.2.2.2 hW; omega) (nn t - 2) (by omega)
    rw [show (((TV lim no gn gg (nn t) (pt t) (ln t) (wi t)).1.toNat : Nat) : Int) = (TV lim no gn gg (nn t) (pt t) (ln t) (wi t)).1 from by omega, show ((nn t - 2 + 1 : Nat) : Int) = (nn t : Int) - 1 from by omega] at hN9
    exact hN9
theorem goF_le (hOV : OV no gn gg) (hU : TusV nn pt ln wi) (bo : Nat → Int) : (goF lim no gn gg nn pt ln wi bo 256).2.1 ≤ 1000000 := by
  obtain ⟨a, l, hv, hch, hlen, hag, -⟩ := vl_good nn
  have hup := goF_up (lim := lim) hOV hU (bo := bo)
  rw [hv] at hup
  have hinv := upG_inv (L := fun n => CoS lim no gn gg nn pt ln wi (dgs n)) (a :: l) (0, 1000000, bo) (Int.le_refl 0) (Int.le_refl _) ⟨fun h => absurd (show (0 : Int) < 0 from h) (by decide), fun h => absurd (show (1000000 : Int) < 1000000 from h) (by decide)⟩
  rw [← hup] at hinv
  exact hinv.2.2.1
end LV
