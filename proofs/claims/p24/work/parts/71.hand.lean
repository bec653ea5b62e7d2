/-! OURS: handlers -/
section LR
variable {p : Program} {l : Launch} {e : Env} {R : Room} {s : State} {m : MethodId} {args : Array Value} {below : List Frame} {meth : Method} {k : Code} {H : Heap} {locs : List Loc} {cells slots : Nat} {Q : State → Prop}
variable {cc : ByteArray} {pc : Nat} {ls : Array Slot} {rest : List Value} {D : va_G} {G : Nat → ClassId} {A : Nat → Prop} {ad : Nat → Nat} {N : Nat} {c : Nat → va_E}
/-- what was thrown is caught by this method's row x -/
theorem pw_catch {own E0 : String} {ce : Cell} {q9 : Addr} (w : PW D G A s ad N c H locs) (hown : s.vm.findClass own = some m.cls) (pre : List ExceptionTableEntry) (x : ExceptionTableEntry) (suf : List ExceptionTableEntry) (hsplit : k.exceptionTable.toList = pre ++ x :: suf)
    (hpass : ∀ z ∈ pre, z.catchType ≠ 0 ∧ ∃ n2 : String, (E0, n2) ∈ ncasts ∧ (Cond.classLink own z.catchType n2).before args s = true) (hx : covers x pc = true) (h0 : x.catchType ≠ 0) (hlink : (Cond.classLink own x.catchType E0).before args s = true) (hcast : (E0, E0) ∈ casts)
    (hcell : H[q9]? = some ce) (hv : ce.vm = .none) (hcl : s.vm.findClass E0 = some ce.cls) (kk : W p l e R s m args below meth k H locs cells slots Q (F0 m x.handlerPc ls [.ref q9])) : vx_W p l e R s m args below meth k H locs cells slots Q (F0 m pc ls rest) q9 :=
  vx_catch hown pre x suf hsplit (fun z hz => Or.inr ⟨(hpass z hz).1, (hpass z hz).2.choose, (hpass z hz).2.choose_spec.2, w.2.2.2.2.2.2.2.2.2.2.1 (E0, (hpass z hz).2.choose) (hpass z hz).2.choose_spec.1⟩) hx h0 hlink (va_Nw.use rfl (w.2.2.2.2.2.2.2.2.2.1 (E0, E0) hcast)) hcell hv hcl kk
end LR
theorem Met.ofWH {l : Launch} {y : MethodName} {ws ws' : List Cond} {rm : Room} {Pc : Array Value → State → Prop} {Qc : Array Value → State → Outcome → State → Prop} {mc ms : Nat} {free : Addr → Prop} {cc : ByteArray} {maxL : Nat} {ret : Option FieldType} {hh : List (Nat × Nat × Nat × Nat)}
    (hy : plainName y.cls = true) (hw : ws = Cond.codeWith y cc maxL ret hh :: ws')
    (body : ∀ p e s m args below meth c s₁, BodyLoose p l y (headSpec ws rm) cc maxL ret e s m args below meth c s₁ → c.maxLocals = maxL → Pc args s →
      W p l e (headSpec ws rm).room s m args below meth c s.heap [] 0 0 (MQ below Qc args s mc ms free) (entryFrame m args maxL)) : Met l y ws rm Pc Qc mc ms free := by
  refine MetFree.of_bodyS (code := cc) (maxLocals := maxL) (ret := ret) hy ?_ ?_
  · intro args s m h hn
    obtain ⟨m9, meth, c, hn9, h1, h2, h3, h4, -, h5, h6, -⟩ := Cond.codeWith_spec (atoms_spec (ws := ws) h _ (by rw [hw]; exact List.mem_cons_self))
    cases hn.symm.trans hn9
    exact ⟨meth, c, h1, h2, h3, h4, h5, h6⟩
  · intro p e s m args below meth c s₁ B hml hP _
    have hh0 : s₁.heap = s.heap := by rw [B.state]; rfl
    obtain ⟨t, a1, o, b1, b2, b3⟩ := body p e s m args below meth c s₁ B hml hP s₁ hh0 (Stand.of_body B)
    exact ⟨t, o, a1, b1, b2, ⟨b3.1, b3.2⟩⟩
section PH
variable {l : Launch} {y : MethodName} {ws ws' : List Cond} {rm : Room} {as : List Value} {D : va_G} {G : Nat → ClassId} {ad : Nat → Nat} {N : Nat} {c : Nat → va_E} {mc ms : Nat} {cc : ByteArray} {maxL : Nat} {hh : List (Nat × Nat × Nat × Nat)}
/-- a contract of a method that answers an int and has a table of handlers -/
theorem MCiH.of {S : Type} {ext : S → wX} {post : Int32 → S → Prop} (hy : plainName y.cls = true) (hw : ws = Cond.codeWith y cc maxL (some .int) hh :: ws') (hlen : (lg_sl as).length ≤ maxL)
    (body : ∀ (p : Program) (e : Env) (s : State) (m : MethodId) (args : Array Value) (below : List Frame) (meth : Method) (k : Code) (A : Nat → Prop) (Q : State → Prop), p.tables.exec = Jvm.exec → k.code = cc → (∀ w ∈ ws, w.before args s = true) → s.vm.findClass y.cls = some m.cls → k.maxLocals = maxL → k.exceptionTable.toList = tableOf hh →
      (∀ (x : wX) (u : S) (v : Int32) (H : Heap) (locs : List Loc) (cells slots pc : Nat) (ls : Array Slot), ext u = x → post v u → PW D G A s x.1 x.2.1 x.2.2 H locs → decode cc pc = .ok (.ireturn, 1) → cells ≤ mc → slots ≤ ms → W p l e rm s m args below meth k H locs cells slots Q (F0 m pc ls [.int v])) →
      ∀ (H : Heap) (locs : List Loc), PW D G A s ad N c H locs → ∀ ls : Array Slot, lv_has ls maxL (lv_args 0 as) → W p l e rm s m args below meth k H locs 0 0 Q (F0 m 0 ls [])) : MC l y ws rm as D G ad N c (qI D G ext post) mc ms := by
  intro sz
  refine Met.ofWH (cc := cc) (maxL := maxL) (ret := some .int) hy hw ?_
  intro p e s m args below meth k s₁ B hml hv
  obtain ⟨rfl, hsz, hP, hK, hD, hZ⟩ := hv
  subst hsz
  have hl := lv_entry as hlen
  rw [lg_entry_eq]
  generalize (lg_sl as ++ List.replicate (maxL - (lg_sl as).length) Slot.unset).toArray = ls at hl ⊢
  have hts := atoms_spec (ws := ws) B.pre
  have hco : (Cond.codeWith y cc maxL (some .int) hh).before as.toArray s = true := hts _ (by rw [hw]; exact List.mem_cons_self)
  exact body p e s m _ below meth k _ _ B.exec B.bytes hts (findClass_of_methodNamed B.named) hml (vx_table (x := y) B hco) (fun x u v H locs cells slots pc ls hu hp w hdg hc hs => pw_iret B.exec B.bytes B.returns B.notSynchronized w u hu hp hc hs hdg) _ _ ⟨hK, hP, hD.self, va_S.rf, fun q h => Or.inr h, hZ⟩ ls hl
end PH
