/-! OURS: the law: its numbers, its rounds -/
abbrev rm_L_cell : Room := { frames := 1, cells := 0, slots := 0, locals := 30 }
def cPre (b L : Nat) (xs : Nat → Int32) (sz : Nat) : State → Prop := fun U => U.heap.size = sz ∧ va_X b L xs U U.heap
theorem cPre.blind {as : List Value} {b L : Nat} {xs : Nat → Int32} {sz : Nat} : FrameBlind (va_Pc as (cPre b L xs sz)) := by
  intro a U g mk q
  obtain ⟨q0, q1, qX⟩ := q
  exact ⟨q0, q1, va_X.moved (u := U) (U := U.calling g mk a) (Vm.Alike.refl U.vm) qX⟩
set_option maxHeartbeats 1000000 in
set_option maxRecDepth 100000 in
/-- a number of the script, or one made up behind its end -/
theorem c_L_cell (l : Launch) {b L : Nat} {xs : Nat → Int32} (hL : L ≤ 260) {i : Nat} (hi : i < 60) (sz : Nat) : Met l yL_cell wsL_cell rm_L_cell (va_Pc [.ref b, .int (zI (i : Int))] (cPre b L xs sz)) (va_Qi (fun (_ : Int32) (_ : Unit) => True) (fun _ _ => True) (fun _ => False)) 0 0 (fun _ => False) := by
  refine Met.ofW (cc := cL_cell) (maxL := 2) (ret := some .int) (by decide) rfl ?_
  intro p e s m args below meth kc s₁ B hml hv
  obtain ⟨rfl, hsz, hX⟩ := hv
  have hl := lv_entry ([.ref b, .int (zI (i : Int))]) (n := 2) (Nat.le_of_ble_eq_true rfl)
  rw [lg_entry_eq]
  generalize (lg_sl ([.ref b, .int (zI (i : Int))]) ++ List.replicate (2 - (lg_sl ([.ref b, .int (zI (i : Int))])).length) Slot.unset).toArray = ls at hl ⊢
  have hl : lv_has ls 2 [(0, .ref b), (1, .int (zI (i : Int)))] := hl
  have hx := B.exec
  have hb := B.bytes
  have hbl : b < s.heap.size := by
    obtain ⟨scr, h1, -⟩ := hX
    exact (Array.getElem?_eq_some_iff.mp h1).1
  have hS : va_S (fun _ => False) s.heap s.heap [] := va_S.rf
  have fin : ∀ (v : Int32) (ls : Array Slot), W p l e rm_L_cell s m #[.ref b, .int (zI (i : Int))] below meth kc s.heap [] 0 0 (MQ below (va_Qi (fun (_ : Int32) (_ : Unit) => True) (fun _ _ => True) (fun _ => False)) #[.ref b, .int (zI (i : Int))] s 0 0 (fun _ => False)) (F0 m 27 ls [.int v]) := fun v ls =>
    W.iret hx hb B.returns (fun t ht hW => ⟨⟨v, (), rfl, trivial, trivial⟩, hS.F ht⟩) hS.2.2 dL_cell_27 B.notSynchronized
  refine lv_iload_n hx hb dL_cell_0 rfl (lv_at hl 1 rfl) ?_
  refine lv_aload_n hx hb dL_cell_1 rfl (lv_at hl 0 rfl) ?_
  refine va_slen hx hb hX hbl (fun h => h) hS dL_cell_2 ?_
  refine pz_topI (y := zI (L : Int)) (Int32.ofInt_eq_ofNat (n := L)).symm ?_
  refine pz_icmpge (tgt := 12) hx hb dL_cell_3 (by decide) ⟨by omega, by omega⟩ ⟨by omega, by omega⟩ (fun hge => ?_) (fun hge => ?_)
  · refine lv_sipush (v := zI 7919) hx hb dL_cell_12 (by decide +kernel) ?_
    refine lv_iload_n hx hb dL_cell_15 rfl (lv_at hl 1 rfl) ?_
    refine lv_sipush (v := zI 313) hx hb dL_cell_16 (by decide +kernel) ?_
    refine lv_iadd hx hb dL_cell_19 ?_
    refine lv_imul hx hb dL_cell_20 ?_
    refine lv_iload_n hx hb dL_cell_21 rfl (lv_at hl 1 rfl) ?_
    refine lv_sipush (v := zI 1579) hx hb dL_cell_22 (by decide +kernel) ?_
    refine lv_iadd hx hb dL_cell_25 ?_
    refine lv_imul hx hb dL_cell_26 ?_
    exact fin _ _
  · refine lv_aload_n hx hb dL_cell_6 rfl (lv_at hl 0 rfl) ?_
    refine lv_iload_n hx hb dL_cell_7 rfl (lv_at hl 1 rfl) ?_
    refine va_sld hx hb hX hbl (fun h => h) hS (zI_in (n := L) (by omega) (by omega) (by omega)) dL_cell_8 ?_
    refine lv_goto (tgt := 27) hx hb dL_cell_9 (by decide) ?_
    exact fin _ _
theorem wd_L_law_k16 : Cond.constant RL 16 (-99999) ∈ wsL_law := by decide +kernel
/-- both desks between two rounds -/
def LW2 (G : Nat → ClassId) (x1 x2 : wX) (P : PT) : Prop := SVt P ∧ (x1.2.1 = 120 + 2 * P.2.1 ∧ DKt G x1.1 x1.2.2 P) ∧ x2.2.1 = 120 + 2 * P.2.1 ∧ DKt G x2.1 x2.2.2 P
section LLW
variable {p : Program} {l : Launch} {e : Env} {s : State} {m : MethodId} {args : Array Value} {below : List Frame} {meth : Method} {k : Code} {Q : State → Prop} {D : va_G} {G : Nat → ClassId} {A : Nat → Prop} {b L : Nat} {xs : Nat → Int32}
def LX (p : Program) (l : Launch) (s : State) (m : MethodId) (args : Array Value) (k : Code) (A : Nat → Prop) (b L : Nat) (xs : Nat → Int32) : Prop :=
  p.tables.exec = Jvm.exec ∧ k.code = code ∧ (∀ w ∈ wsL_law, w.before args s = true) ∧ s.vm.findClass RL = some m.cls ∧ k.maxLocals = 6 ∧ va_X b L xs s s.heap ∧ b < s.heap.size ∧ ¬ A b ∧ l.stackTraces = false
set_option maxHeartbeats 4000000 in
set_option maxRecDepth 100000 in
/-- from both desks' action on to the round's end -/
theorem lw_ask (C : LX p l s m args k A b L xs) {v : Int32} {r : Nat} (hr : r < 60) (next : ∀ (x1 x2 : wX) (P : PT) (H : Heap) (locs : List Loc) (ls : Array Slot) (cl sl : Nat), LW2 G x1 x2 P → cl ≤ 240 + 80 * (r + 1) → sl ≤ 1880 + 240 * (r + 1) → PZ D G A s x1 x2 H locs → lv_has ls 6 [(0, .ref b), (1, .ref (x1.1 0)), (2, .ref (x2.1 0)), (3, .int (zI ((r + 1 : Nat) : Int)))] → W p l e room_1 s m args below meth k H locs cl sl Q (F0 m 18 ls []))
    {ad1 ad2 : Nat → Nat} {N1 N2 : Nat} {c1 c2 : Nat → va_E} {P : PT} {H : Heap} {locs : List Loc} {ls : Array Slot} {cl sl : Nat} (hW : LW2 G (ad1, N1, c1) (ad2, N2, c2) P) (hcl : cl ≤ 244 + 80 * r) (hsl : sl ≤ 1892 + 240 * r) (z : PZ D G A s (ad1, N1, c1) (ad2, N2, c2) H locs) (hl : lv_has ls 6 [(0, .ref b), (1, .ref (ad1 0)), (2, .ref (ad2 0)), (3, .int (zI (r : Int))), (4, .int v)]) : W p l e room_1 s m args below meth k H locs cl sl Q (F0 m 57 ls []) := by
  obtain ⟨hx, hb, hts, hown, hml, hX, hbl, hbA, hsT⟩ := id C
  obtain ⟨lim, no, dn, gn, gg, dg, nn, pt, ln, wi⟩ := P
  obtain ⟨hV, ⟨hN1, hD1⟩, hN2, hD2⟩ := hW
  have hV : SV lim no dn gn gg dg nn pt ln wi := hV
  have hN1 : N1 = 120 + 2 * no := hN1
  have hN2 : N2 = 120 + 2 * no := hN2
  have hD1 : DK G ad1 c1 lim no dn gn gg dg nn pt ln wi := hD1
  have hD2 : DK G ad2 c2 lim no dn gn gg dg nn pt ln wi := hD2
  refine lv_aload_n hx hb dL_law_57 rfl (lv_at hl 1 rfl) ?_
  refine lv_aload_n hx hb dL_law_58 rfl (lv_at hl 2 rfl) ?_
  refine pz_c2 z (pz_runS (As := [.ref (ad1 0), .ref (ad2 0)]) (rest := []) z ⟨hx, hb, hml, hown, hts⟩ (c_L_areAlike l hsT D G ad1 ad2 N1 N2 c1 c2 hN1 hN2 hD1 hD2 hV) (va_cwS 2 hts gL_law_L_areAlike rfl rfl rfl (by decide +kernel) ⟨Nat.le_of_ble_eq_true rfl, Nat.le_of_ble_eq_true rfl⟩) rfl hl.1 rfl (lv_room (Nat.le_of_ble_eq_true rfl)) dL_law_59 ⟨by show cl + 24 ≤ 672044; omega, by show sl + 72 ≤ 7085491; omega⟩) (fun r_ u H locs hp z => ?_)
  obtain ⟨c3, c4⟩ := u
  obtain ⟨hv, hD3, hD4⟩ := hp
  subst hv
  have z : PZ D G A s (ad1, N1, c3) (ad2, N2, c4) H locs := z
  have hD3 : DK G ad1 c3 lim no dn gn gg dg nn pt ln wi := hD3
  have hD4 : DK G ad2 c4 lim no dn gn gg dg nn pt ln wi := hD4
  refine pz_ifeq (tgt := 101) hx hb dL_law_62 (by decide) ⟨by decide, by decide⟩ (fun hq => absurd hq (by decide)) (fun _ => ?_)
  have low : ∀ {pc : Nat} {x : Int32} {n : Int} {rest : List Value} {ls : Array Slot} {H : Heap} {locs : List Loc} {cl sl : Nat} {c3 : Nat → va_E}, (h0 : 0 < n) → (hn : n < 2147483648) → PZ D G A s (ad1, N1, c3) (ad2, N2, c4) H locs → ls.size = 6 → decode code pc = .ok (.invokestatic 50, 3) → cl ≤ 672044 → sl ≤ 7085491 → (2 * (F0 m pc ls (.int (zI n) :: .int x :: rest)).monitorRoom + (rest.map fun v => v.category).sum ≤ 8) → (∀ (H : Heap) (locs : List Loc), PZ D G A s (ad1, N1, c3) (ad2, N2, c4) H locs → W p l e room_1 s m args below meth k H locs cl sl Q (F0 m (pc + 3) ls (.int (zI (lwF x n)) :: rest))) → W p l e room_1 s m args below meth k H locs cl sl Q (F0 m pc ls (.int (zI n) :: .int x :: rest)) := by
    intro pc x n rest ls H locs cl sl c3 h0 hn z hls hdg hc hs hroom kk
    refine pz_ci (x1 := (ad1, N1, c3)) (x2 := (ad2, N2, c4)) z (pw_runS (As := [.int x, .int (zI n)]) (rest := rest) (show PW D G A s ad1 N1 c3 H locs from z.1) ⟨hx, hb, hml, hown, hts⟩ (c_L_low l D G ad1 N1 c3 (x := x) (n := n) h0 hn) (va_cwS 2 hts gL_law_L_low rfl rfl rfl (by decide +kernel) ⟨Nat.le_of_ble_eq_true rfl, Nat.le_of_ble_eq_true rfl⟩) rfl hls rfl hroom hdg ⟨by show cl + 0 ≤ 672044; omega, by show sl + 0 ≤ 7085491; omega⟩) (fun r_ u H locs hp z => ?_)
    obtain ⟨hv, hu⟩ := hp
    subst hv
    have z : PZ D G A s (ad1, N1, u) (ad2, N2, c4) H locs := z
    rw [show u = c3 from hu] at z
    exact kk H locs z
  refine lv_aload_n hx hb dL_law_65 rfl (lv_at hl 1 rfl) ?_
  refine lv_iload hx hb dL_law_66 (lv_at hl 4 rfl) ?_
  refine lv_iconst (v := zI 3) hx hb dL_law_68 rfl ?_
  refine lv_ishr hx hb dL_law_69 ?_
  refine lv_bipush (v := zI 9) hx hb dL_law_70 (by decide +kernel) ?_
  refine low (by decide) (by decide) z hl.1 dL_law_72 (by omega) (by omega) (lv_room (Nat.le_of_ble_eq_true rfl)) (fun H locs z => ?_)
  obtain ⟨xa, exa⟩ := toN (lwF_bd (v >>> (zI 3 &&& 31)) (n := 9) (by decide) (by decide)).1
  have bxa := (lwF_bd (v >>> (zI 3 &&& 31)) (n := 9) (by decide) (by decide)).2
  rw [exa] at bxa ⊢
  refine lv_iload hx hb dL_law_75 (lv_at hl 4 rfl) ?_
  refine lv_bipush (v := zI 7) hx hb dL_law_77 (by decide +kernel) ?_
  refine lv_ishr hx hb dL_law_79 ?_
  refine lv_bipush (v := zI 9) hx hb dL_law_80 (by decide +kernel) ?_
  refine low (by decide) (by decide) z hl.1 dL_law_82 (by omega) (by omega) (lv_room (Nat.le_of_ble_eq_true rfl)) (fun H locs z => ?_)
  obtain ⟨xb, exb⟩ := toN (lwF_bd (v >>> (zI 7 &&& 31)) (n := 9) (by decide) (by decide)).1
  have bxb := (lwF_bd (v >>> (zI 7 &&& 31)) (n := 9) (by decide) (by decide)).2
  rw [exb] at bxb ⊢
  refine lv_iload hx hb dL_law_85 (lv_at hl 4 rfl) ?_
  refine lv_bipush (v := zI 11) hx hb dL_law_87 (by decide +kernel) ?_
  refine lv_ishr hx hb dL_law_89 ?_
  refine lv_bipush (v := zI 9) hx hb dL_law_90 (by decide +kernel) ?_
  refine low (by decide) (by decide) z hl.1 dL_law_92 (by omega) (by omega) (lv_room (Nat.le_of_ble_eq_true rfl)) (fun H locs z => ?_)
  obtain ⟨xc, exc⟩ := toN (lwF_bd (v >>> (zI 11 &&& 31)) (n := 9) (by decide) (by decide)).1
  have bxc := (lwF_bd (v >>> (zI 11 &&& 31)) (n := 9) (by decide) (by decide)).2
  rw [exc] at bxc ⊢
  refine pz_ci (x1 := (ad1, N1, c3)) (x2 := (ad2, N2, c4)) z (pw_runS (As := [.ref (ad1 0), .int (zI (xa : Int)), .int (zI (xb : Int)), .int (zI (xc : Int))]) (rest := []) (show PW D G A s ad1 N1 c3 H locs from z.1) ⟨hx, hb, hml, hown, hts⟩ (c_L_isMovementSo l D G ad1 N1 c3 hN1 hD3 hV (x := xa) (y := xb) (z := xc) (by omega) (by omega) (by omega)) (va_cwS 4 hts gL_law_L_isMovementSo rfl rfl rfl (by decide +kernel) ⟨Nat.le_of_ble_eq_true rfl, Nat.le_of_ble_eq_true rfl⟩) rfl hl.1 rfl (lv_room (Nat.le_of_ble_eq_true rfl)) dL_law_95 ⟨by show cl + 24 + 0 ≤ 672044; omega, by show sl + 72 + 0 ≤ 7085491; omega⟩) (fun r_ c5 H locs hp z => ?_)
  obtain ⟨hv, hD5⟩ := hp
  subst hv
  have z : PZ D G A s (ad1, N1, c5) (ad2, N2, c4) H locs := z
  refine pz_ifne (tgt := 103) hx hb dL_law_98 (by decide) ⟨by decide, by decide⟩ (fun _ => ?_) (fun hq => absurd hq (by decide))
  refine lv_aload_n hx hb dL_law_103 rfl (lv_at hl 1 rfl) ?_
  refine lv_iload hx hb dL_law_104 (lv_at hl 4 rfl) ?_
  refine lv_iconst (v := zI 5) hx hb dL_law_106 rfl ?_
  refine lv_ishr hx hb dL_law_107 ?_
  refine lv_iconst (v := zI 4) hx hb dL_law_108 rfl ?_
  refine low (by decide) (by decide) z hl.1 dL_law_109 (by omega) (by omega) (lv_room (Nat.le_of_ble_eq_true rfl)) (fun H locs z => ?_)
  obtain ⟨xt, ext⟩ := toN (lwF_bd (v >>> (zI 5 &&& 31)) (n := 4) (by decide) (by decide)).1
  have bxt := (lwF_bd (v >>> (zI 5 &&& 31)) (n := 4) (by decide) (by decide)).2
  rw [ext] at bxt ⊢
  refine pz_ci (x1 := (ad1, N1, c5)) (x2 := (ad2, N2, c4)) z (pw_runS (As := [.ref (ad1 0), .int (zI (xt : Int))]) (rest := []) (show PW D G A s ad1 N1 c5 H locs from z.1) ⟨hx, hb, hml, hown, hts⟩ (c_L_isTuneSo l hsT D G ad1 N1 c5 hN1 hD5 hV (t := xt) (by omega)) (va_cwS 2 hts gL_law_L_isTuneSo rfl rfl rfl (by decide +kernel) ⟨Nat.le_of_ble_eq_true rfl, Nat.le_of_ble_eq_true rfl⟩) rfl hl.1 rfl (lv_room (Nat.le_of_ble_eq_true rfl)) dL_law_112 ⟨by show cl + 24 + 0 + 2 ≤ 672044; omega, by show sl + 72 + 0 + 6 ≤ 7085491; omega⟩) (fun r_ c6 H locs hp z => ?_)
  obtain ⟨hv, hD6⟩ := hp
  subst hv
  have z : PZ D G A s (ad1, N1, c6) (ad2, N2, c4) H locs := z
  refine pz_ifeq (tgt := 134) hx hb dL_law_115 (by decide) ⟨by decide, by decide⟩ (fun hq => absurd hq (by decide)) (fun _ => ?_)
  have go : ∀ (c7 : Nat → va_E) (H : Heap) (locs : List Loc) (cl2 sl2 : Nat), DK G ad1 c7 lim no dn gn gg dg nn pt ln wi → cl2 ≤ 240 + 80 * (r + 1) → sl2 ≤ 1880 + 240 * (r + 1) → PZ D G A s (ad1, N1, c7) (ad2, N2, c4) H locs → W p l e room_1 s m args below meth k H locs cl2 sl2 Q (F0 m 136 ls []) := by
    intro c7 H locs cl2 sl2 hD7 h1 h2 z
    refine pz_iinc (lv' := [(3, .int (zI ((r + 1 : Nat) : Int))), (0, .ref b), (1, .ref (ad1 0)), (2, .ref (ad2 0)), (4, .int v)]) hx hb dL_law_136 hl (j := 3) rfl ((r + 1 : Nat) : Int) (by omega) (by decide) rfl (fun ls hl => ?_)
    refine lv_goto (tgt := 18) hx hb dL_law_139 (by decide) ?_
    exact next (ad1, N1, c7) (ad2, N2, c4) (lim, no, dn, gn, gg, dg, nn, pt, ln, wi) H locs ls cl2 sl2 ⟨hV, ⟨hN1, hD7⟩, hN2, hD4⟩ h1 h2 z (lv_sub hl [1, 2, 3, 0] rfl)
  refine lv_iload_n hx hb dL_law_118 rfl (lv_at hl 3 rfl) ?_
  refine lv_bipush (v := zI 10) hx hb dL_law_119 (by decide +kernel) ?_
  refine lv_irem hx hb dL_law_121 (by decide +kernel) ?_
  refine lv_bipush (v := zI 9) hx hb dL_law_122 (by decide +kernel) ?_
  refine lv_icmp_ne (tgt := 136) hx hb dL_law_124 (by decide) (fun _ => ?_) (fun _ => ?_)
  · exact go c6 H locs _ _ hD6 (by omega) (by omega) z
  · refine lv_aload_n hx hb dL_law_127 rfl (lv_at hl 1 rfl) ?_
    refine pz_ci (x1 := (ad1, N1, c6)) (x2 := (ad2, N2, c4)) z (pw_runS (As := [.ref (ad1 0)]) (rest := []) (show PW D G A s ad1 N1 c6 H locs from z.1) ⟨hx, hb, hml, hown, hts⟩ (c_L_areSetsSo l hsT D G ad1 N1 c6 hN1 hD6 hV) (va_cwS 1 hts gL_law_L_areSetsSo rfl rfl rfl (by decide +kernel) ⟨Nat.le_of_ble_eq_true rfl, Nat.le_of_ble_eq_true rfl⟩) rfl hl.1 rfl (lv_room (Nat.le_of_ble_eq_true rfl)) dL_law_128 ⟨by show cl + 24 + 0 + 2 + 40 ≤ 672044; omega, by show sl + 72 + 0 + 6 + 120 ≤ 7085491; omega⟩) (fun r_ c7 H locs hp z => ?_)
    obtain ⟨hv, hD7⟩ := hp
    subst hv
    refine pz_ifne (tgt := 136) hx hb dL_law_131 (by decide) ⟨by decide, by decide⟩ (fun _ => ?_) (fun hq => absurd hq (by decide))
    exact go c7 H locs _ _ hD7 (by omega) (by omega) z
set_option maxHeartbeats 4000000 in
set_option maxRecDepth 100000 in
theorem lw_loop (C : LX p l s m args k A b L xs) (hL : L ≤ 260) (kend : ∀ (H : Heap) (locs : List Loc) (cells slots : Nat) (ls : Array Slot), va_S A s.heap H locs → cells ≤ 672044 → slots ≤ 7085491 → W p l e room_1 s m args below meth k H locs cells slots Q (F0 m 142 ls [])) :
    ∀ (f r : Nat) (x1 x2 : wX) (P : PT) (H : Heap) (locs : List Loc) (ls : Array Slot) (cl sl : Nat), 60 < f + r → r ≤ 60 → LW2 G x1 x2 P → cl ≤ 240 + 80 * r → sl ≤ 1880 + 240 * r → PZ D G A s x1 x2 H locs → lv_has ls 6 [(0, .ref b), (1, .ref (x1.1 0)), (2, .ref (x2.1 0)), (3, .int (zI (r : Int)))] → W p l e room_1 s m args below meth k H locs cl sl Q (F0 m 18 ls []) := by
  intro f
  induction f with
  | zero => intro r x1 x2 P H locs ls cl sl hf h5; omega
  | succ f ih =>
    intro r x1 x2 P H locs ls cl sl hf h5 hW hcl hsl z hl
    obtain ⟨hx, hb, hts, hown, hml, hX, hbl, hbA, hsT⟩ := id C
    obtain ⟨ad1, N1, c1⟩ := x1
    obtain ⟨ad2, N2, c2⟩ := x2
    have hl : lv_has ls 6 [(0, .ref b), (1, .ref (ad1 0)), (2, .ref (ad2 0)), (3, .int (zI (r : Int)))] := hl
    refine lv_iload_n hx hb dL_law_18 rfl (lv_at hl 3 rfl) ?_
    refine lv_bipush (v := zI 60) hx hb dL_law_19 (by decide +kernel) ?_
    refine pz_icmpge (tgt := 142) hx hb dL_law_21 (by decide) ⟨by omega, by omega⟩ ⟨by decide, by decide⟩ (fun _ => ?_) (fun hlt => ?_)
    · exact kend H locs cl sl ls z.1.2.2.2.1 (by omega) (by omega)
    have hr : r < 60 := by omega
    refine lv_aload_n hx hb dL_law_24 rfl (lv_at hl 0 rfl) ?_
    refine lv_iload_n hx hb dL_law_25 rfl (lv_at hl 3 rfl) ?_
    have hS := z.1.2.2.2.1
    refine va_calli (va_runS (As := [.ref b, .int (zI (r : Int))]) (rest := []) ⟨hx, hb, hml, hown, hts⟩ (c_L_cell l (b := b) (L := L) (xs := xs) hL hr H.size) (va_cwS 2 hts gL_law_L_cell rfl rfl rfl (by decide +kernel) ⟨Nat.le_of_ble_eq_true rfl, Nat.le_of_ble_eq_true rfl⟩) ⟨cPre.blind, fun U hU hWm => ⟨rfl, by rw [hU], by rw [hU]; exact va_X.moved hWm.alike (hX.kept (hS.2.1 b hbl hbA))⟩⟩ rfl rfl hl.1 rfl (lv_room (Nat.le_of_ble_eq_true rfl)) dL_law_26 ⟨by show cl + 0 ≤ 672044; omega, by show sl + 0 ≤ 7085491; omega⟩) hS (fun _ _ h => h.elim) (fun _ h => h.elim) (fun v u t H1 locs1 ht hvm hw hB hz hk hS1 => ?_)
    have z := z.hold (fun q hq => hk q hq (fun h => h)) hS1
    refine lv_istore (lv' := [(4, .int v), (0, .ref b), (1, .ref (ad1 0)), (2, .ref (ad2 0)), (3, .int (zI (r : Int)))]) hx hb dL_law_29 hl (by decide) rfl (fun ls hl => ?_)
    obtain ⟨hV, ⟨hN1, hD1⟩, hN2, hD2⟩ := id hW
    obtain ⟨told, P1, ⟨hbt, hV1, hsame⟩, hM⟩ := act_ok l hsT hV v
    refine lv_aload_n hx hb dL_law_31 rfl (lv_at hl 2 rfl) ?_
    refine lv_iload hx hb dL_law_32 (lv_at hl 0 rfl) ?_
    refine pz_ci (x1 := (ad1, N1, c1)) (x2 := (ad2, N2, c2)) z (pw_runS (As := [.ref (ad1 0), .int v]) (rest := []) (show PW D G A s ad1 N1 c1 H1 locs1 from z.1) ⟨hx, hb, hml, hown, hts⟩ (hM D G ad1 N1 c1 hN1 hD1) (va_cwS 2 hts gL_law_L_act rfl rfl rfl (by decide +kernel) ⟨Nat.le_of_ble_eq_true rfl, Nat.le_of_ble_eq_true rfl⟩) rfl hl.1 rfl (lv_room (Nat.le_of_ble_eq_true rfl)) dL_law_34 ⟨by show cl + 0 + 2 ≤ 672044; omega, by show sl + 0 + 6 ≤ 7085491; omega⟩) (fun r_ u H locs hp z => ?_)
    obtain ⟨ad3, N3, c3⟩ := u
    obtain ⟨hv, hN3, ha3, hD3⟩ := hp
    subst hv
    have z : PZ D G A s (ad3, N3, c3) (ad2, N2, c2) H locs := z
    have ha3 : ad3 0 = ad1 0 := ha3
    rw [← ha3] at hl
    refine lv_istore (lv' := [(5, .int (zI told)), (4, .int v), (0, .ref b), (1, .ref (ad3 0)), (2, .ref (ad2 0)), (3, .int (zI (r : Int)))]) hx hb dL_law_37 hl (by decide) rfl (fun ls hl => ?_)
    have next : ∀ (x1 x2 : wX) (P : PT) (H : Heap) (locs : List Loc) (ls : Array Slot) (cl sl : Nat), LW2 G x1 x2 P → cl ≤ 240 + 80 * (r + 1) → sl ≤ 1880 + 240 * (r + 1) → PZ D G A s x1 x2 H locs → lv_has ls 6 [(0, .ref b), (1, .ref (x1.1 0)), (2, .ref (x2.1 0)), (3, .int (zI ((r + 1 : Nat) : Int)))] → W p l e room_1 s m args below meth k H locs cl sl Q (F0 m 18 ls []) :=
      fun x1 x2 P H locs ls cl sl hW hc hs z hl => ih (r + 1) x1 x2 P H locs ls cl sl (by omega) (by omega) hW hc hs z hl
    refine lv_iload hx hb dL_law_39 (lv_at hl 0 rfl) ?_
    refine lv_ldc hx hb hown (hts _ wd_L_law_k16) dL_law_41 (pz_topI (y := zI (-99999)) (by decide +kernel) ?_)
    refine pz_icmpeq (tgt := 57) hx hb dL_law_43 (by decide) hbt ⟨by decide, by decide⟩ (fun heq => ?_) (fun hne => ?_)
    · have e1 := hsame heq
      subst e1
      exact lw_ask C hr next ⟨hV, ⟨hN3, hD3⟩, hN2, hD2⟩ (by omega) (by omega) z (lv_sub hl [2, 3, 4, 5, 1] rfl)
    · refine lv_aload_n hx hb dL_law_46 rfl (lv_at hl 4 rfl) ?_
      refine lv_iload hx hb dL_law_47 (lv_at hl 1 rfl) ?_
      refine pz_ci (x1 := (ad2, N2, c2)) (x2 := (ad3, N3, c3)) z.symm (pw_runS (As := [.ref (ad2 0), .int v]) (rest := []) (show PW D G A s ad2 N2 c2 H locs from z.2.1) ⟨hx, hb, hml, hown, hts⟩ (hM D G ad2 N2 c2 hN2 hD2) (va_cwS 2 hts gL_law_L_act rfl rfl rfl (by decide +kernel) ⟨Nat.le_of_ble_eq_true rfl, Nat.le_of_ble_eq_true rfl⟩) rfl hl.1 rfl (lv_room (Nat.le_of_ble_eq_true rfl)) dL_law_49 ⟨by show cl + 0 + 2 + 2 ≤ 672044; omega, by show sl + 0 + 6 + 6 ≤ 7085491; omega⟩) (fun r_ u H locs hp z => ?_)
      obtain ⟨ad4, N4, c4⟩ := u
      obtain ⟨hv, hN4, ha4, hD4⟩ := hp
      subst hv
      have z : PZ D G A s (ad3, N3, c3) (ad4, N4, c4) H locs := z.symm
      have ha4 : ad4 0 = ad2 0 := ha4
      rw [← ha4] at hl
      refine lv_iload hx hb dL_law_52 (lv_at hl 0 rfl) ?_
      refine pz_icmpne (tgt := 101) hx hb dL_law_54 (by decide) hbt hbt (fun hq => absurd rfl hq) (fun _ => ?_)
      exact lw_ask C hr next ⟨hV1, ⟨hN3, hD3⟩, hN4, hD4⟩ (by omega) (by omega) z (lv_sub hl [2, 3, 4, 5, 1] rfl)
end LLW
section LST
variable {p : Program} {l : Launch} {e : Env} {s : State} {m : MethodId} {below : List Frame} {meth : Method} {k : Code} {Q : State → Prop} {b L : Nat} {xs : Nat → Int32}
set_option maxHeartbeats 2000000 in
set_option maxRecDepth 100000 in
theorem law_all (hsT : l.stackTraces = false) (hL : L ≤ 260) (hx : p.tables.exec = Jvm.exec) (hb : k.code = code) (hml : k.maxLocals = 6) (hown : s.vm.findClass RL = some m.cls) (hts : ∀ w ∈ lw_tbl, w.before #[Value.ref b] s = true) (hX : va_X b L xs s s.heap) (hbl : b < s.heap.size) (hs : ∀ w ∈ flatC (Jvm.Cond.and given_1 narrow_1), w.before #[Value.ref b] s = true)
    (kend : ∀ (H : Heap) (locs : List Loc) (cells slots : Nat) (ls : Array Slot), va_S (fun q : Nat => s.heap.size ≤ q) s.heap H locs → cells ≤ 672044 → slots ≤ 7085491 → W p l e room_1 s m #[Value.ref b] below meth k H locs cells slots Q (F0 m 142 ls [])) : W p l e room_1 s m #[Value.ref b] below meth k s.heap [] 0 0 Q (entryFrame m ([Value.ref b] : List Value).toArray 6) := by
  have hA : ∀ a : Nat, a < s.heap.size → ¬ (fun q : Nat => s.heap.size ≤ q) a := fun a h => Nat.not_le.mpr h
  obtain ⟨D, hKc⟩ := clsK hts
  obtain ⟨G, hKa⟩ := tysK hts
  have hZZ := zzK (A := fun q : Nat => s.heap.size ≤ q) hts hs hA
  have htl : ∀ w ∈ wsL_law, w.before #[Value.ref b] s = true := fun w h => hts w (wsL_law_in w h)
  have C : LX p l s m #[Value.ref b] k (fun q : Nat => s.heap.size ≤ q) b L xs := ⟨hx, hb, htl, hown, hml, hX, hbl, hA b hbl, hsT⟩
  have w : PW D G (fun q : Nat => s.heap.size ≤ q) s (fun _ => 0) 0 (fun _ => .inr (0, [])) s.heap [] := ⟨⟨hKc, hKa⟩, fun k q h => by simp [wl] at h, ⟨fun i j p q h => by simp [wl] at h, fun k q h => by simp [wl] at h⟩, va_S.rf, fun _ h => h, hZZ⟩
  have hl := lv_entry ([.ref b]) (n := 6) (Nat.le_of_ble_eq_true rfl)
  rw [lg_entry_eq]
  generalize (lg_sl ([.ref b]) ++ List.replicate (6 - (lg_sl ([.ref b])).length) Slot.unset).toArray = ls at hl ⊢
  have hl : lv_has ls 6 [(0, .ref b)] := hl
  refine pw_new (ci := 7) (C := RX7) (T := TX7) (Nf := 5) (fs := [.null, .null, .null, .null, .null]) hx hb w htl inlX7 tyX7 tyX7_ok hown (htl (.classLink RL 9 RX7) (by decide +kernel)) (htl (.instantiable RX7 5) (by decide +kernel)) (htl (.initialized RX7) (by decide +kernel)) rfl (fun j hj => by
    rcases (by omega : j = 0 ∨ j = 1 ∨ j = 2 ∨ j = 3 ∨ j = 4) with h | h | h | h | h <;> subst h <;> rfl) (Nat.le_of_ble_eq_true rfl) (Nat.le_of_ble_eq_true rfl) dL_law_0 (fun H ad1 c1 ha1 hc1 fr1 w => ?_)
  refine lv_dup hx hb dL_law_3 rfl ?_
  refine pw_cv w (pw_runI (b := ad1 0) (As := []) (rest := [.ref (ad1 0)]) w ⟨hx, hb, hml, hown, htl⟩ (c_X7_init l D G ad1 _ c1 (gn := fun _ => 0) (gg := fun _ _ => 0) (pt := fun _ _ => 0) (ln := fun _ _ => 0) (wi := fun _ _ => 0) rfl hc1) (cwI 0 htl gL_law_X7_init rfl rfl rfl (htl (.initialized RX7) (by decide +kernel)) (htl (.methodLink RL 114 yX7_init) (by decide +kernel)) (htl (.instanceMethod yX7_init) (by decide +kernel)) rfl (by decide +kernel) ⟨Nat.le_of_ble_eq_true rfl, Nat.le_of_ble_eq_true rfl⟩) rfl hl.1 rfl (lv_room (Nat.le_of_ble_eq_true rfl)) dL_law_4 ⟨(Nat.le_of_ble_eq_true rfl), (Nat.le_of_ble_eq_true rfl)⟩) (fun u2 H locs hp2 w => ?_)
  obtain ⟨ad2, c2⟩ := u2
  obtain ⟨ha2, hD2⟩ := hp2
  have w : PW D G (fun q : Nat => s.heap.size ≤ q) s ad2 120 c2 H locs := w
  have ha2 : ad2 0 = ad1 0 := ha2
  have hD2 : DK G ad2 c2 3 0 0 (fun _ => 0) (fun _ _ => 0) (fun _ => 0) (fun _ => 0) (fun _ _ => 0) (fun _ _ => 0) (fun _ _ => 0) := hD2
  rw [← ha2]
  refine lv_astore_n (lv' := [(1, .ref (ad2 0)), (0, .ref b)]) hx hb dL_law_7 rfl hl (by decide) rfl (fun ls hl => ?_)
  refine pw_new (ci := 7) (C := RX7) (T := TX7) (Nf := 5) (fs := [.null, .null, .null, .null, .null]) hx hb w htl inlX7 tyX7 tyX7_ok hown (htl (.classLink RL 9 RX7) (by decide +kernel)) (htl (.instantiable RX7 5) (by decide +kernel)) (htl (.initialized RX7) (by decide +kernel)) rfl (fun j hj => by
    rcases (by omega : j = 0 ∨ j = 1 ∨ j = 2 ∨ j = 3 ∨ j = 4) with h | h | h | h | h <;> subst h <;> rfl) (Nat.le_of_ble_eq_true rfl) (Nat.le_of_ble_eq_true rfl) dL_law_8 (fun H ad3 c3 ha3 hc3 fr3 w => ?_)
  have hD3 := hD2.mv0 (ad1 := ad3) (c1 := c3) (fun r hr => ha3 r hr) (fun q hq => fr3 q (by omega))
  have z := w.split
  rw [← ha3 0 (by omega)] at hl
  refine lv_dup hx hb dL_law_11 rfl ?_
  refine pz_cv (x1 := ((fun _ => ad3 120), 1, (fun _ => c3 120))) (x2 := (ad3, 120, c3)) z.symm (pw_runI (b := ad3 120) (As := []) (rest := [.ref (ad3 120)]) (show PW D G (fun q : Nat => s.heap.size ≤ q) s (fun _ => ad3 120) 1 (fun _ => c3 120) H locs from z.2.1) ⟨hx, hb, hml, hown, htl⟩ (c_X7_init l D G (fun _ => ad3 120) 1 (fun _ => c3 120) (gn := fun _ => 0) (gg := fun _ _ => 0) (pt := fun _ _ => 0) (ln := fun _ _ => 0) (wi := fun _ _ => 0) rfl hc3) (cwI 0 htl gL_law_X7_init rfl rfl rfl (htl (.initialized RX7) (by decide +kernel)) (htl (.methodLink RL 114 yX7_init) (by decide +kernel)) (htl (.instanceMethod yX7_init) (by decide +kernel)) rfl (by decide +kernel) ⟨Nat.le_of_ble_eq_true rfl, Nat.le_of_ble_eq_true rfl⟩) rfl hl.1 rfl (lv_room (Nat.le_of_ble_eq_true rfl)) dL_law_12 ⟨(Nat.le_of_ble_eq_true rfl), (Nat.le_of_ble_eq_true rfl)⟩) (fun u4 H locs hp4 z => ?_)
  obtain ⟨ad4, c4⟩ := u4
  obtain ⟨ha4, hD4⟩ := hp4
  have z : PZ D G (fun q : Nat => s.heap.size ≤ q) s (ad3, 120, c3) (ad4, 120, c4) H locs := z.symm
  have ha4 : ad4 0 = ad3 120 := ha4
  have hD4 : DK G ad4 c4 3 0 0 (fun _ => 0) (fun _ _ => 0) (fun _ => 0) (fun _ => 0) (fun _ _ => 0) (fun _ _ => 0) (fun _ _ => 0) := hD4
  rw [← ha4]
  refine lv_astore_n (lv' := [(2, .ref (ad4 0)), (1, .ref (ad3 0)), (0, .ref b)]) hx hb dL_law_15 rfl hl (by decide) rfl (fun ls hl => ?_)
  refine lv_iconst (v := zI ((0 : Nat) : Int)) hx hb dL_law_16 rfl ?_
  refine lv_istore_n (lv' := [(3, .int (zI ((0 : Nat) : Int))), (2, .ref (ad4 0)), (1, .ref (ad3 0)), (0, .ref b)]) hx hb dL_law_17 rfl hl (by decide) rfl (fun ls hl => ?_)
  exact lw_loop C hL kend 61 0 (ad3, 120, c3) (ad4, 120, c4) (3, 0, 0, (fun _ => 0), (fun _ _ => 0), (fun _ => 0), (fun _ => 0), (fun _ _ => 0), (fun _ _ => 0), (fun _ _ => 0)) H locs ls _ _ (by omega) (by omega) ⟨SV.init _ _ _ _ _, ⟨rfl, hD3⟩, rfl, hD4⟩ (by decide) (by decide) z (lv_sub hl [3, 2, 1, 0] rfl)
end LST
