section AC
variable {p : Program} {l : Launch} {e : Env} {R : Room} {s : State} {m : MethodId} {args : Array Value} {below : List Frame} {meth : Method} {k : Code} {H : Heap} {locs : List Loc} {cells slots : Nat} {Q : State → Prop}
variable {cc : ByteArray} {pc : Nat} {ls : Array Slot} {rest : List Value} {D : va_G} {G : Nat → ClassId} {A : Nat → Prop} {ad : Nat → Nat} {N : Nat} {c : Nat → va_E}
/-- clone of an array of ints -/
theorem pw_clone (hx : p.tables.exec = Jvm.exec) (hb : k.code = cc) (hml : k.maxLocals = ls.size) (w : PW D G A s ad N c H locs) {own : String} {index : Nat} (hown : s.vm.findClass own = some m.cls)
    (hlink : (Cond.methodLink own index ⟨"[I", "clone", "()Ljava/lang/Object;"⟩).before args s = true) (hsame : (Cond.sameMethod "[I" "java/lang/Object" "clone" "()Ljava/lang/Object;").before args s = true)
    (hnat : (Cond.native ⟨"java/lang/Object", "clone", "()Ljava/lang/Object;"⟩).before args s = true) (hinst : (Cond.instanceMethod ⟨"java/lang/Object", "clone", "()Ljava/lang/Object;"⟩).before args s = true)
    (hsel : (Cond.selects "[I" ⟨"[I", "clone", "()Ljava/lang/Object;"⟩ ⟨"java/lang/Object", "clone", "()Ljava/lang/Object;"⟩).before args s = true) {r n : Nat} {g : Nat → Int} (hr : r < N) (hc : isA 0 G (c r) n g)
    (hframes : 1 ≤ R.frames) (hlocals : (rest.map fun v => v.category).sum + 14 ≤ R.locals) (hcells : cells + 1 ≤ R.cells) (hslots : slots + n ≤ R.slots) (hdg : decode cc pc = .ok (.invokevirtual index, 3))
    (kk : ∀ (H1 : Heap) (ad1 : Nat → Nat) (c1 : Nat → va_E), (∀ r, r < N → ad1 r = ad r) → isA 0 G (c1 N) n g → (∀ r, r ≠ N → c1 r = c r) → PW D G A s ad1 (N + 1) c1 H1 locs → W p l e R s m args below meth k H1 locs (cells + 1) (slots + n) Q (F0 m (pc + 3) ls (.ref (ad1 N) :: rest))) : W p l e R s m args below meth k H locs cells slots Q (F0 m pc ls (.ref (ad r) :: rest)) := by
  obtain ⟨f, h1, h2⟩ := hc
  refine va_clone (D := D) (ad := "[I") (ty := .int) (x := (n, .inl f)) hx hb hml hown hlink hsame hnat hinst hsel (w.2.2.2.2.2.2.2.2.2.1 ("[I", "java/lang/Cloneable") (by simp [casts])) w.1 w.2.1 w.2.2.1 w.2.2.2.1 w.2.2.2.2.1 r 0 (wl_get' hr h1) rfl (w.1.2 0 _ rfl).2 (fun i v hv => ?_) hframes hlocals hcells hslots hdg (fun q H1 hK hP hD hS => ?_)
  · rw [vp_cell_i] at hv
    by_cases hi : i < n
    · rw [arrV_read _ _ hi] at hv
      cases hv
      rfl
    · rw [Array.getElem?_eq_none (by rw [arrV_size]; omega)] at hv
      cases hv
  · rw [wl_push] at hP hD
    have h := kk H1 (va_up ad N q) (va_up c N (.inl (G 0, n, .inl f))) (fun r hr => va_up_ne _ _ (by omega)) (by rw [va_up_self]; exact ⟨f, rfl, h2⟩) (fun r hr => va_up_ne _ _ hr) ⟨w.1, hP, hD, hS, w.2.2.2.2.1, w.2.2.2.2.2⟩
    rw [va_up_self] at h
    exact h
end AC
