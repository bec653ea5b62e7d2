section AC
variable {p : Program} {l : Launch} {e : Env} {R : Room} {s : State} {m : MethodId} {args : Array Value} {below : List Frame} {meth : Method} {k : Code} {H : Heap} {locs : List Loc} {cells slots : Nat} {Q : State → Prop}
variable {cc : ByteArray} {pc : Nat} {ls : Array Slot} {rest : List Value} {D : va_G} {G : Nat → ClassId} {A : Nat → Prop} {ad : Nat → Nat} {N : Nat} {c : Nat → va_E}
/-- clone of an array of ints -/
theorem pw_clone (hx : p.tables.exec = Jvm.exec) (hb : k.code = cc) (hml : k.maxLocals = ls.size) (w : PW D G A s ad N c H locs) {own : String} {index : Nat} (hown : s.vm.findClass own = some m.cls)
    (hlink : (Cond.methodLink own index ⟨"[I", "clone", "()Ljava/lang/Object;"⟩).before args s = true) (hsame : (Cond.sameMethod "[I" "java/lang/Object" "clone" "()Ljava/lang/Object;").before args s = true)
    (hnat : (Cond.native ⟨"java/lang/Object", "clone", "()Ljava/lang/Object;"⟩).before args s = true) (hinst : (Cond.instanceMethod ⟨"java/lang/Object", "clone", "()Ljava/lang/Object;"⟩).before args s = true)
    (hsel : (Cond.selects "[I" ⟨"[I", "clone", "()Ljava/lang/Object;"⟩ ⟨"java/lang/Object", "clone", "()Ljava/lang/Object;"⟩).before args s = true) {r n : Nat} {g : Nat → Int} (hr : r < N) (hc : isA 0 G (c r) n g)
    (hframes : 1 ≤ R.frames) (hlocals : (rest.map fun v => v.category).sum + 14 ≤ R.locals) (hcells : cells + 1 ≤ R.cells) (hslots : slots + n ≤ R.slots) (hdg : decode cc pc = .ok (.invokevirtual index, 3))
    (kk : ∀ (H1 : Heap) (ad1 : Nat → Nat) (c1 : Nat → va_E), (∀ r, r < N → ad1 r = ad r) → isA 0 G (c1 N) n g → (∀ r, r ≠ N → c1 r = c r) → PW D G A s ad1 (N + 1) c1 H1 locs → W p l e R s m args below meth k H1 locs (cells + 1) (slots + n) Q (F0 m (pc + 3) ls (.ref (ad1 N) :: rest))) : W p l e R s m args below meth k H locs cells slots Q (F0 m pc ls (.ref (ad r) :: rest)) := by
  obtain ⟨f, h1, h2⟩ := hc
  refine va_clone (D := D) (ad := "[I") (ty := .int) (x := (n, .inl f)) hx hb hml hown hlink hsame hnat hinst hsel (w.2.2.2.2.2.2.2.2.2.1 ("[I", "java/lang/Cloneable") (by simp [casts])) w.1 w.2.1 w.2.2.1 w.2.2.2.1 w.2.2.2.2.1 r 0 (wl_get' hr h1) rfl (w.1.2 0 _ rfl).2 (fun i v hv => ?_) hframes hlocals hcells hslots hdg (fun q H1 hK hP hD hS => ?_)
  · rw [vp_cell_i] at hv
    by_cases hi : i < n
    · rw [arrV_read _ _ hi] at hv
      cases hv
      rfl
    · rw [Array.getElem?_eq_none (by rw [arrV_size]; omega)] at hv
      cases hv
  · rw [wl_push] at hP hD
    have h := kk H1 (va_up ad N q) (va_up c N (.inl (G 0, n, .inl f))) (fun r hr => va_up_ne _ _ (by omega)) (by rw [va_up_self]; exact ⟨f, rfl, h2⟩) (fun r hr => va_up_ne _ _ hr) ⟨w.1, hP, hD, hS, w.2.2.2.2.1, w.2.2.2.2.2⟩
    rw [va_up_self] at h
    exact h
end AC

abbrev rm_J7_copyOf_59c91 : Room := { frames := 2, cells := 1, slots := 4, locals := 60 }
set_option maxHeartbeats 1000000 in
set_option maxRecDepth 100000 in
/-- Arrays.copyOf -/
theorem c_J7_copyOf_59c91 (l : Launch) (D : va_G) (G : Nat → ClassId) (ad : Nat → Nat) (N : Nat) (c : Nat → va_E) {o n nz : Nat} {g : Nat → Int} (hoN : o < N) (ha : isA 0 G (c o) nz g) (hn : n ≤ nz) (hnz : nz ≤ 4) : MC l yJ7_copyOf_59c91 wsJ7_copyOf_59c91 rm_J7_copyOf_59c91 [.ref (ad o), .int (zI (n : Int))] D G ad N c (qR D G (fun u : (Nat → Nat) × (Nat → va_E) => (u.1, N + 1, u.2)) (fun v u => v = u.1 N ∧ (∀ r, r < N → u.1 r = ad r) ∧ isA 0 G (u.2 N) n g ∧ ∀ q, q < N → u.2 q = c q)) 1 4 := by
  refine MCr.of (cc := cJ7_copyOf_59c91) (maxL := 3) (by decide) rfl (Or.inr ⟨_, rfl⟩) (Nat.le_of_ble_eq_true rfl) ?_
  intro p e s m args below meth kc A Q hx hb hts hown hml fin H locs w ls hl
  have hown : s.vm.findClass RJ7 = some m.cls := hown
  have hl : lv_has ls 3 [(0, .ref (ad o)), (1, .int (zI (n : Int)))] := hl
  refine lv_iload_n hx hb dJ7_copyOf_59c91_0 rfl (lv_at hl 1 rfl) ?_
  refine lv_aload_n hx hb dJ7_copyOf_59c91_1 rfl (lv_at hl 0 rfl) ?_
  refine pw_len (r := o) hx hb w (by omega) 0 rfl ha dJ7_copyOf_59c91_2 ?_
  refine pz_icmpne (tgt := 14) hx hb dJ7_copyOf_59c91_3 (by decide) (⟨by omega, by omega⟩) (⟨by omega, by omega⟩) (fun hne => ?_) (fun hne => ?_)
  · refine lv_iload_n hx hb dJ7_copyOf_59c91_14 rfl (lv_at hl 1 rfl) ?_
    refine pw_newi 0 (atype := .int) (ty := .int) hx hb w rfl (hts (.arrayClass .int) (by decide +kernel)) (Or.inl ⟨rfl, rfl⟩) (z := (n : Int)) (n := n) rfl (by omega) (by first | (show _ ≤ 1; omega) | (show _ ≤ 4; omega)) (by first | (show _ ≤ 1; omega) | (show _ ≤ 4; omega)) dJ7_copyOf_59c91_15 (fun H ad1 c1 ha1 hc1 fr1 w => ?_)
    rw [← ha1 o (by omega)] at hl
    refine lv_astore_n (lv' := [(2, .ref (ad1 N)), (0, .ref (ad1 o)), (1, .int (zI (n : Int)))]) hx hb dJ7_copyOf_59c91_17 rfl hl (by decide) rfl (fun ls hl => ?_)
    refine lv_aload_n hx hb dJ7_copyOf_59c91_18 rfl (lv_at hl 1 rfl) ?_
    refine lv_iconst (v := zI (0)) hx hb dJ7_copyOf_59c91_19 rfl ?_
    refine lv_aload_n hx hb dJ7_copyOf_59c91_20 rfl (lv_at hl 0 rfl) ?_
    refine lv_iconst (v := zI (0)) hx hb dJ7_copyOf_59c91_21 rfl ?_
    refine lv_aload_n hx hb dJ7_copyOf_59c91_22 rfl (lv_at hl 1 rfl) ?_
    refine pw_len (r := o) hx hb w (by omega) 0 rfl (isA.fr (fr1 o (by omega)) ha) dJ7_copyOf_59c91_23 ?_
    refine lv_iload_n hx hb dJ7_copyOf_59c91_24 rfl (lv_at hl 2 rfl) ?_
    refine pz_min hx hb (by rw [hml]; exact hl.1.symm) hown (hts (.methodLink RJ7 304 Lib.Math.min.name) (by decide +kernel)) (hts (.static Lib.Math.min.name) (by decide +kernel)) (hts (.initialized "java/lang/Math") (by decide +kernel)) (hts (.code Lib.Math.min.name Lib.Math.min.code 2 (some .int)) (by decide +kernel)) (Nat.le_of_ble_eq_true rfl) (Nat.le_of_ble_eq_true rfl) (by first | (show _ ≤ 1; omega) | (show _ ≤ 4; omega)) (by first | (show _ ≤ 1; omega) | (show _ ≤ 4; omega)) ⟨by omega, by omega⟩ ⟨by omega, by omega⟩ dJ7_copyOf_59c91_25 ?_
    refine pz_top (b := (n : Int)) (by omega) ?_
    refine pw_copyi (q0 := o) (q1 := N) (n0 := nz) (n1 := n) (rest := []) hx hb w (by rw [hml]; exact hl.1.symm) hown (hts (.methodLink RJ7 150 arraycopyName) (by decide +kernel)) (hts (.native arraycopyName) (by decide +kernel)) (hts (.static arraycopyName) (by decide +kernel)) (hts (.initialized "java/lang/System") (by decide +kernel)) (by omega) (by omega) (isA.fr (fr1 o (by omega)) ha) hc1 0 0 n (by omega) (by omega) (by omega) (by omega) (Nat.le_of_ble_eq_true rfl) (Nat.le_of_ble_eq_true rfl) dJ7_copyOf_59c91_28 (fun H locs c2 hc2 fr2 w => ?_)
    refine lv_aload_n hx hb dJ7_copyOf_59c91_31 rfl (lv_at hl 0 rfl) ?_
    exact fin (ad1, _, c2) (ad1, c2) _ _ _ _ _ _ _ rfl ⟨rfl, ha1, hc2.to (fun j hj => by simp [hj]), fun q hq => (fr2 q (by omega)).trans (fr1 q (by omega))⟩ w dJ7_copyOf_59c91_32 (Nat.le_of_ble_eq_true rfl) (by show _ ≤ 4; omega)
  · refine lv_aload_n hx hb dJ7_copyOf_59c91_6 rfl (lv_at hl 0 rfl) ?_
    have hnn : n = nz := by omega
    subst hnn
    refine pw_clone (rest := []) hx hb (by rw [hml]; exact hl.1.symm) w hown (hts (.methodLink RJ7 316 ⟨"[I", "clone", "()Ljava/lang/Object;"⟩) (by decide +kernel)) (hts (.sameMethod "[I" "java/lang/Object" "clone" "()Ljava/lang/Object;") (by decide +kernel)) (hts (.native ⟨"java/lang/Object", "clone", "()Ljava/lang/Object;"⟩) (by decide +kernel)) (hts (.instanceMethod ⟨"java/lang/Object", "clone", "()Ljava/lang/Object;"⟩) (by decide +kernel)) (hts (.selects "[I" ⟨"[I", "clone", "()Ljava/lang/Object;"⟩ ⟨"java/lang/Object", "clone", "()Ljava/lang/Object;"⟩) (by decide +kernel)) hoN ha (Nat.le_of_ble_eq_true rfl) (Nat.le_of_ble_eq_true rfl) (by first | (show _ ≤ 1; omega) | (show _ ≤ 4; omega)) (by first | (show _ ≤ 1; omega) | (show _ ≤ 4; omega)) dJ7_copyOf_59c91_7 (fun H ad3 c3 ha3 hc3 fr3 w => ?_)
    rw [← ha3 o (by omega)] at hl
    obtain ⟨f9, hq9, -⟩ := id hc3
    refine va_castA (D := D) hx hb hown (hts (.classLink RJ7 317 "[I") (by decide +kernel)) w.2.1 N (wl_get' (by omega) hq9) (w.1.2 0 _ rfl).2 dJ7_copyOf_59c91_10 ?_
    exact fin (ad3, _, c3) (ad3, c3) _ _ _ _ _ _ _ rfl ⟨rfl, ha3, hc3, fun q hq => fr3 q (by omega)⟩ w dJ7_copyOf_59c91_13 (Nat.le_of_ble_eq_true rfl) (by show _ ≤ 4; omega)
