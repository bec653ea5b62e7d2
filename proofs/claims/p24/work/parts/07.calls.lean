/-! OURS: calls, returns, throws over the world by roles -/
section PC
variable {p : Program} {l : Launch} {e : Env} {R : Room} {s : State} {m : MethodId} {args : Array Value} {below : List Frame} {meth : Method} {k : Code} {H : Heap} {locs : List Loc} {cells slots : Nat} {Q : State → Prop}
variable {cc : ByteArray} {pc : Nat} {ls : Array Slot} {rest st0 : List Value} {D : va_G} {G : Nat → ClassId} {A : Nat → Prop} {ad : Nat → Nat} {N : Nat} {c : Nat → va_E}
theorem PW.back {x : wX} {t : State} {H1 : Heap} {locs1 : List Loc} (w : PW D G A s ad N c H locs) (ht : t.heap = H1) (hvm : s.vm.Alike t.vm) (hB : wAt D G (va_A (wl ad N c) H.size) x t) (hS : va_S A s.heap H1 locs1) : PW D G A s x.1 x.2.1 x.2.2 H1 locs1 := by
  have hsub := w.sub
  obtain ⟨b1, b2, b3⟩ := hB
  rw [ht] at b1
  exact ⟨va_K.moved hvm.symm b2, b1, b3.weaken (fun _ q _ h => hsub q.1 h), hS, w.2.2.2.2.1, w.2.2.2.2.2⟩
theorem pw_runV {own C : String} {index maxL mc ms n nL : Nat} {y : MethodName} {bytes : ByteArray} {ret : Option FieldType} {wsY Ts : List Cond} {rmY : Room} {Qf : (Nat → Prop) → Array Value → State → Outcome → State → Prop} {As : List Value} (w : PW D G A s ad N c H locs) (S : CallFix p m k cc nL s args Ts own) {r ci : Nat} {fs : List Value} {T : u_T} {Nf : Nat} (hM : MC l y wsY rmY (.ref (ad r) :: As) D G ad N c Qf mc ms) (cw : CallW R s args own C index y bytes maxL ret wsY rmY mc ms n) (hr : r < N) (hc : c r = .inr (ci, fs)) (hcl : vwCl[ci]? = some (C, T, Nf)) (hn : As.length = n) (hsize : ls.size = nL) (hst : st0 = As.reverse ++ .ref (ad r) :: rest) (hW : 2 * (F0 m pc ls st0).monitorRoom + (rest.map fun v => v.category).sum ≤ 8) (hdg : decode cc pc = .ok (.invokevirtual index, 3)) (hf : cells + mc ≤ R.cells ∧ slots + ms ≤ R.slots) :
    va_Run p l e R s m args below meth k H locs cells slots mc ms (F0 m pc ls st0) rest (Qf (va_A (wl ad N c) H.size) (Value.ref (ad r) :: As).toArray) (va_A (wl ad N c) H.size) :=
  va_runV S (hM H.size) cw ⟨wPre.blind, va_recv w.1 w.2.1 hcl (wl_get' hr hc), fun U hU hW => ⟨rfl, w.pre hU hW⟩⟩ rfl hn hsize hst hW hdg hf
theorem pw_runS {own : String} {index maxL mc ms n nL : Nat} {y : MethodName} {bytes : ByteArray} {ret : Option FieldType} {wsY Ts : List Cond} {rmY : Room} {Qf : (Nat → Prop) → Array Value → State → Outcome → State → Prop} {As : List Value} (w : PW D G A s ad N c H locs) (S : CallFix p m k cc nL s args Ts own) (hM : MC l y wsY rmY As D G ad N c Qf mc ms) (cw : CallB R s args own index y bytes maxL ret wsY rmY mc ms n ∧ (Cond.static y).before args s = true) (hn : As.length = n) (hsize : ls.size = nL) (hst : st0 = As.reverse ++ rest) (hW : 2 * (F0 m pc ls st0).monitorRoom + (rest.map fun v => v.category).sum ≤ 8) (hdg : decode cc pc = .ok (.invokestatic index, 3)) (hf : cells + mc ≤ R.cells ∧ slots + ms ≤ R.slots) :
    va_Run p l e R s m args below meth k H locs cells slots mc ms (F0 m pc ls st0) rest (Qf (va_A (wl ad N c) H.size) As.toArray) (va_A (wl ad N c) H.size) :=
  va_runS S (hM H.size) cw ⟨wPre.blind, fun U hU hW => ⟨rfl, w.pre hU hW⟩⟩ rfl hn hsize hst hW hdg hf
theorem pw_runSW {own : String} {index maxL mc ms n nL : Nat} {y : MethodName} {bytes : ByteArray} {ret : Option FieldType} {hh : List (Nat × Nat × Nat × Nat)} {wsY Ts : List Cond} {rmY : Room} {Qf : (Nat → Prop) → Array Value → State → Outcome → State → Prop} {As : List Value} (w : PW D G A s ad N c H locs) (S : CallFix p m k cc nL s args Ts own) (hM : MC l y wsY rmY As D G ad N c Qf mc ms) (cw : vx_CSW R s args own index y bytes maxL ret hh wsY rmY mc ms n) (hn : As.length = n) (hsize : ls.size = nL) (hst : st0 = As.reverse ++ rest) (hW : 2 * (F0 m pc ls st0).monitorRoom + (rest.map fun v => v.category).sum ≤ 8) (hdg : decode cc pc = .ok (.invokestatic index, 3)) (hf : cells + mc ≤ R.cells ∧ slots + ms ≤ R.slots) :
    va_Run p l e R s m args below meth k H locs cells slots mc ms (F0 m pc ls st0) rest (Qf (va_A (wl ad N c) H.size) As.toArray) (va_A (wl ad N c) H.size) :=
  vx_runSW S (hM H.size) cw ⟨wPre.blind, fun U hU hW => ⟨rfl, w.pre hU hW⟩⟩ rfl hn hsize hst hW hdg hf
theorem pw_runI {own : String} {index maxL mc ms n nL : Nat} {y : MethodName} {bytes : ByteArray} {wsY Ts : List Cond} {rmY : Room} {Qf : (Nat → Prop) → Array Value → State → Outcome → State → Prop} {As : List Value} {b : Nat} (w : PW D G A s ad N c H locs) (S : CallFix p m k cc nL s args Ts own) (hM : MC l y wsY rmY (.ref b :: As) D G ad N c Qf mc ms) (cw : CallB R s args own index y bytes maxL none wsY rmY mc ms n ∧ y.name = "<init>" ∧ (Cond.instanceMethod y).before args s = true) (hn : As.length = n) (hsize : ls.size = nL) (hst : st0 = As.reverse ++ .ref b :: rest) (hW : 2 * (F0 m pc ls st0).monitorRoom + (rest.map fun v => v.category).sum ≤ 8) (hdg : decode cc pc = .ok (.invokespecial index, 3)) (hf : cells + mc ≤ R.cells ∧ slots + ms ≤ R.slots) :
    va_Run p l e R s m args below meth k H locs cells slots mc ms (F0 m pc ls st0) rest (Qf (va_A (wl ad N c) H.size) (Value.ref b :: As).toArray) (va_A (wl ad N c) H.size) :=
  va_runI S (hM H.size) cw ⟨wPre.blind, fun U hU hW => ⟨rfl, w.pre hU hW⟩⟩ rfl hn hsize hst hW hdg hf
/-- behind a call that answers an int -/
theorem pw_ci {S : Type} {ext : S → wX} {post : Int32 → S → Prop} {mc ms : Nat} {a : Array Value} (w : PW D G A s ad N c H locs) (hr : va_Run p l e R s m args below meth k H locs cells slots mc ms (F0 m pc ls st0) rest (qI D G ext post (va_A (wl ad N c) H.size) a) (va_A (wl ad N c) H.size))
    (kk : ∀ (r : Int32) (u : S) (H1 : Heap) (locs1 : List Loc), post r u → PW D G A s (ext u).1 (ext u).2.1 (ext u).2.2 H1 locs1 → W p l e R s m args below meth k H1 locs1 (cells + mc) (slots + ms) Q (F0 m (pc + 3) ls (.int r :: rest))) : W p l e R s m args below meth k H locs cells slots Q (F0 m pc ls st0) :=
  va_calli hr w.2.2.2.1 (fun q _ h => w.sub q h) w.sub (fun r u t H1 locs1 ht hvm hw hB _ _ hS => kk r u H1 locs1 hw (w.back ht hvm hB hS))
theorem pw_cf {S : Type} {ext : S → wX} {post : UInt32 → S → Prop} {mc ms : Nat} {a : Array Value} (w : PW D G A s ad N c H locs) (hr : va_Run p l e R s m args below meth k H locs cells slots mc ms (F0 m pc ls st0) rest (qF D G ext post (va_A (wl ad N c) H.size) a) (va_A (wl ad N c) H.size))
    (kk : ∀ (r : UInt32) (u : S) (H1 : Heap) (locs1 : List Loc), post r u → PW D G A s (ext u).1 (ext u).2.1 (ext u).2.2 H1 locs1 → W p l e R s m args below meth k H1 locs1 (cells + mc) (slots + ms) Q (F0 m (pc + 3) ls (.float r :: rest))) : W p l e R s m args below meth k H locs cells slots Q (F0 m pc ls st0) :=
  va_callf hr w.2.2.2.1 (fun q _ h => w.sub q h) w.sub (fun r u t H1 locs1 ht hvm hw hB _ _ hS => kk r u H1 locs1 hw (w.back ht hvm hB hS))
theorem pw_cv {S : Type} {ext : S → wX} {post : S → Prop} {mc ms : Nat} {a : Array Value} (w : PW D G A s ad N c H locs) (hr : va_Run p l e R s m args below meth k H locs cells slots mc ms (F0 m pc ls st0) rest (qV D G ext post (va_A (wl ad N c) H.size) a) (va_A (wl ad N c) H.size))
    (kk : ∀ (u : S) (H1 : Heap) (locs1 : List Loc), post u → PW D G A s (ext u).1 (ext u).2.1 (ext u).2.2 H1 locs1 → W p l e R s m args below meth k H1 locs1 (cells + mc) (slots + ms) Q (F0 m (pc + 3) ls rest)) : W p l e R s m args below meth k H locs cells slots Q (F0 m pc ls st0) :=
  va_callv hr w.2.2.2.1 (fun q _ h => w.sub q h) w.sub (fun u t H1 locs1 ht hvm hw hB _ _ hS => kk u H1 locs1 hw (w.back ht hvm hB hS))
theorem pw_cr {S : Type} {ext : S → wX} {post : Nat → S → Prop} {mc ms : Nat} {a : Array Value} (w : PW D G A s ad N c H locs) (hr : va_Run p l e R s m args below meth k H locs cells slots mc ms (F0 m pc ls st0) rest (qR D G ext post (va_A (wl ad N c) H.size) a) (va_A (wl ad N c) H.size))
    (kk : ∀ (ra : Nat) (u : S) (H1 : Heap) (locs1 : List Loc), post ra u → PW D G A s (ext u).1 (ext u).2.1 (ext u).2.2 H1 locs1 → W p l e R s m args below meth k H1 locs1 (cells + mc) (slots + ms) Q (F0 m (pc + 3) ls (.ref ra :: rest))) : W p l e R s m args below meth k H locs cells slots Q (F0 m pc ls st0) :=
  va_callr hr w.2.2.2.1 (fun q _ h => w.sub q h) w.sub (fun u ra t H1 locs1 ht hvm _ hB _ _ hS => kk ra u H1 locs1 hB.1 (w.back ht hvm hB.2 hS))
/-- calls of methods that throw -/
theorem pw_runVX {own C : String} {index maxL mc ms n nL : Nat} {y : MethodName} {bytes : ByteArray} {ret : Option FieldType} {wsY Ts : List Cond} {rmY : Room} {E0 : String} {S0 : Type} {ext : S0 → wX} {px : S0 → Prop} {As : List Value} (w : PW D G A s ad N c H locs) (S : CallFix p m k cc nL s args Ts own) {r ci : Nat} {fs : List Value} {T : u_T} {Nf : Nat} (hM : MX l y wsY rmY (.ref (ad r) :: As) D G ad N c E0 ext px mc ms) (cw : CallW R s args own C index y bytes maxL ret wsY rmY mc ms n) (hr : r < N) (hc : c r = .inr (ci, fs)) (hcl : vwCl[ci]? = some (C, T, Nf)) (hn : As.length = n) (hsize : ls.size = nL) (hst : st0 = As.reverse ++ .ref (ad r) :: rest) (hW : 2 * (F0 m pc ls st0).monitorRoom + (rest.map fun v => v.category).sum ≤ 8) (hdg : decode cc pc = .ok (.invokevirtual index, 3)) (hf : cells + mc ≤ R.cells ∧ slots + ms ≤ R.slots) :
    vx_Run p l e R s m args below meth k H locs cells slots mc ms (F0 m pc ls st0) rest (fun _ _ _ => False) (qX D G E0 ext px (va_A (wl ad N c) H.size)) (va_A (wl ad N c) H.size) :=
  vx_runV S (hM H.size) cw ⟨wPre.blind, va_recv w.1 w.2.1 hcl (wl_get' hr hc), fun U hU hW => ⟨rfl, w.pre hU hW⟩⟩ rfl hn hsize hst hW hdg hf
theorem pw_runSX {own : String} {index maxL mc ms n nL : Nat} {y : MethodName} {bytes : ByteArray} {ret : Option FieldType} {wsY Ts : List Cond} {rmY : Room} {E0 : String} {S0 : Type} {ext : S0 → wX} {px : S0 → Prop} {As : List Value} (w : PW D G A s ad N c H locs) (S : CallFix p m k cc nL s args Ts own) (hM : MX l y wsY rmY As D G ad N c E0 ext px mc ms) (cw : CallB R s args own index y bytes maxL ret wsY rmY mc ms n ∧ (Cond.static y).before args s = true) (hn : As.length = n) (hsize : ls.size = nL) (hst : st0 = As.reverse ++ rest) (hW : 2 * (F0 m pc ls st0).monitorRoom + (rest.map fun v => v.category).sum ≤ 8) (hdg : decode cc pc = .ok (.invokestatic index, 3)) (hf : cells + mc ≤ R.cells ∧ slots + ms ≤ R.slots) :
    vx_Run p l e R s m args below meth k H locs cells slots mc ms (F0 m pc ls st0) rest (fun _ _ _ => False) (qX D G E0 ext px (va_A (wl ad N c) H.size)) (va_A (wl ad N c) H.size) :=
  vx_runS S (hM H.size) cw ⟨wPre.blind, fun U hU hW => ⟨rfl, w.pre hU hW⟩⟩ rfl hn hsize hst hW hdg hf
/-- behind a call that has thrown -/
theorem pw_cx {E0 : String} {S0 : Type} {ext : S0 → wX} {px : S0 → Prop} {mc ms : Nat} (w : PW D G A s ad N c H locs) (hr : vx_Run p l e R s m args below meth k H locs cells slots mc ms (F0 m pc ls st0) rest (fun _ _ _ => False) (qX D G E0 ext px (va_A (wl ad N c) H.size)) (va_A (wl ad N c) H.size))
    (kx : ∀ (u : S0) (ce : Cell) (q9 : Addr) (H1 : Heap) (locs1 : List Loc), px u → PW D G A s (ext u).1 (ext u).2.1 (ext u).2.2 H1 locs1 → H1[q9]? = some ce → ce.vm = .none → s.vm.findClass E0 = some ce.cls → vx_W p l e R s m args below meth k H1 locs1 (cells + mc) (slots + ms) Q (F0 m pc ls rest) q9) : W p l e R s m args below meth k H locs cells slots Q (F0 m pc ls st0) := by
  intro T hT X
  rcases hr T hT X with ⟨v, st₀, t, T', L, h0, X', hL, e1, e2, hq, st⟩ | ⟨q, st₀, t, T', L, E, ce, h0, X', hL, e1, e2, ⟨hE, u, hp, hB, hF⟩, hce, hcv, hcl, st⟩
  · exact hq.elim
  · subst hE
    obtain ⟨k1, k2, k3⟩ := vx_keep h0 e1 w.2.2.2.1 (fun q _ h => w.sub q h) w.sub hL hF
    obtain ⟨t2, a1, b1⟩ := kx u ce q T'.heap (locs ++ L) hp (w.back e1.symm (by rw [← e2]; exact X'.warmed.alike) hB k3) (by rw [e1]; exact hce) hcv hcl T' rfl X'
    exact ⟨t2, st.trans a1, b1⟩
/-- the exception goes on to the caller -/
theorem pw_out {E0 : String} {S0 : Type} {ext : S0 → wX} {px : S0 → Prop} {mc ms : Nat} {x : wX} {ce : Cell} {q : Addr} (hno : ∀ x ∈ k.exceptionTable.toList, False) (hlocks : meth.locks = false) (w : PW D G A s x.1 x.2.1 x.2.2 H locs) (u : S0) (hu : ext u = x) (hp : px u) (hcell : H[q]? = some ce) (hv : ce.vm = .none) (hcl : s.vm.findClass E0 = some ce.cls) (hc : cells ≤ mc) (hs : slots ≤ ms) :
    vx_W p l e R s m args below meth k H locs cells slots (vx_MQ below (fun _ _ _ _ => False) (qX D G E0 ext px A) args s mc ms A) (F0 m pc ls rest) q := by
  refine vx_out (fun x hx => (hno x hx).elim) hlocks hcell hv hcl (fun t ht hal => ?_) w.2.2.2.1.2.2 hc hs
  refine ⟨rfl, u, hp, ?_, w.2.2.2.1.F ht⟩
  show wAt D G A (ext u) t
  rw [hu]
  exact ⟨by rw [ht]; exact w.2.1, va_K.moved hal w.1, w.2.2.1⟩
/-- throw new E0("text") -/
theorem pw_throw {E0 text : String} {S0 : Type} {ext : S0 → wX} {px : S0 → Prop} {mc ms : Nat} {x : wX} {own : String} {names : List String} {ik is ic : Nat} (hx : p.tables.exec = Jvm.exec) (hb : k.code = cc) (hl : l.stackTraces = false) (hno : ∀ x ∈ k.exceptionTable.toList, False) (hlocks : meth.locks = false) (w : PW D G A s x.1 x.2.1 x.2.2 H locs) (u : S0) (hu : ext u = x) (hp : px u)
    (hown : s.vm.findClass own = some m.cls) (ho : own = RX7) (hcls : Bundle.fit E0 = true) (hnames : ∀ n ∈ names, Bundle.fit n = true) (hk : (Cond.classLink own ik E0).before args s = true) (hini : (Cond.initialized E0).before args s = true) (hstr : (is, text) ∈ strs) (hat : ∀ w ∈ (vx_atS own ic E0 names).filter goodWord, w.before args s = true) (hgood : ∀ w ∈ Cond.classLink own ik E0 :: Cond.initialized E0 :: vx_atS own ic E0 names, vx_ot w = true) (hcast : (E0, E0) ∈ casts) (hall : ∀ w ∈ (vx_atS own ic E0 names).filter (fun w => !goodWord w), w ∈ Cond.castable E0 E0 :: decls.map Cond.declares)
    (hsize : ls.size = k.maxLocals)
    (d0 : decode cc pc = .ok (.new ik, 3)) (d3 : decode cc (pc + 3) = .ok (.dup, 1)) (d4 : decode cc (pc + 4) = .ok (.ldc is, 2)) (d6 : decode cc (pc + 6) = .ok (.invokespecial ic, 3)) (d9 : decode cc (pc + 9) = .ok (.athrow, 1))
    (hRframes : names.length + 3 < R.frames) (hRlocals : (rest.map fun v => v.category).sum + (13 * (names.length + 1) + 43) ≤ R.locals) (hRcells : cells + 1 ≤ R.cells) (hRslots : slots + 6 ≤ R.slots) (hc : cells + 1 ≤ mc) (hs : slots + 6 ≤ ms) :
    W p l e R s m args below meth k H locs cells slots (vx_MQ below (fun _ _ _ _ => False) (qX D G E0 ext px A) args s mc ms A) (F0 m pc ls rest) := by
  subst ho
  obtain ⟨sa, hsa⟩ := w.2.2.2.2.2.2.2.1 _ hstr
  have hdc := w.2.2.2.2.2.2.2.2.2.2.2.2.2.2.2
  have hca : (Cond.castable E0 E0).before args s = true := va_Nw.use rfl (w.2.2.2.2.2.2.2.2.2.1 _ hcast)
  refine vx_throwS hx hb hl hown hcls hnames hk hini hsa (vx_hat hat hall (vx_c hca (fun w9 h9 => by
    obtain ⟨y, hy, e⟩ := List.mem_map.mp h9
    rw [← e]
    exact va_Nw.use rfl (hdc y hy)))) hgood w.2.2.2.2.2.2.1.1 w.2.2.2.2.2.2.1.2 w.2.2.2.1 hsize d0 d3 d4 d6 d9 (fun x hx => (hno x hx).elim) hRframes hRlocals hRcells hRslots hlocks (fun t hal hz hk => ?_) w.2.2.2.1.2.2 hc hs
  have hlt : ∀ (j : Nat) (q : Nat × va_E), (wl x.1 x.2.1 x.2.2)[j]? = some q → t.heap[q.1]? = H[q.1]? := fun j q hq => hk q.1 ((w.2.1 j q hq).lt)
  refine ⟨rfl, u, hp, ?_, ?_⟩
  · rw [hu]
    exact ⟨w.2.1.kept hlt, va_K.moved hal w.1, w.2.2.1⟩
  · exact ⟨Nat.le_trans w.2.2.2.1.1 hz, fun q h1 h2 => (hk q (Nat.lt_of_lt_of_le h1 w.2.2.2.1.1)).trans (w.2.2.2.1.2.1 q h1 h2)⟩
/-- the ends -/
theorem pw_iret {S : Type} {ext : S → wX} {post : Int32 → S → Prop} {x : wX} {v : Int32} {mc ms : Nat} (hx : p.tables.exec = Jvm.exec) (hb : k.code = cc) (hr : meth.sig.returnType = some .int) (hlocks : meth.locks = false) (w : PW D G A s x.1 x.2.1 x.2.2 H locs) (u : S) (hu : ext u = x) (hp : post v u) (hc : cells ≤ mc) (hs : slots ≤ ms) (hdg : decode cc pc = .ok (.ireturn, 1)) :
    W p l e R s m args below meth k H locs cells slots (MQ below (qI D G ext post A) args s mc ms A) (F0 m pc ls [.int v]) := by
  refine W.widen hc hs ?_
  refine W.iret hx hb hr (fun t ht hW => ⟨⟨v, u, rfl, hp, ?_⟩, w.2.2.2.1.F ht⟩) w.2.2.2.1.2.2 hdg hlocks
  show wAt D G A (ext u) t
  rw [hu]
  exact ⟨by rw [ht]; exact w.2.1, va_K.moved hW.alike w.1, w.2.2.1⟩
theorem pw_zret {S : Type} {ext : S → wX} {post : Int32 → S → Prop} {x : wX} {v : Int32} {mc ms : Nat} (hx : p.tables.exec = Jvm.exec) (hb : k.code = cc) (hr : meth.sig.returnType = some .boolean) (hlocks : meth.locks = false) (w : PW D G A s x.1 x.2.1 x.2.2 H locs) (u : S) (hu : ext u = x) (hv : v = zI 0 ∨ v = zI 1) (hp : post v u) (hc : cells ≤ mc) (hs : slots ≤ ms) (hdg : decode cc pc = .ok (.ireturn, 1)) :
    W p l e R s m args below meth k H locs cells slots (MQ below (qI D G ext post A) args s mc ms A) (F0 m pc ls [.int v]) := by
  refine W.widen hc hs ?_
  refine W.zret hx hb hr (ty := .boolean) (by rcases hv with h | h <;> (rw [h]; decide +kernel)) (fun t ht hW => ⟨⟨v, u, rfl, hp, ?_⟩, w.2.2.2.1.F ht⟩) w.2.2.2.1.2.2 hdg hlocks
  show wAt D G A (ext u) t
  rw [hu]
  exact ⟨by rw [ht]; exact w.2.1, va_K.moved hW.alike w.1, w.2.2.1⟩
theorem pw_fret {S : Type} {ext : S → wX} {post : UInt32 → S → Prop} {x : wX} {v : UInt32} {mc ms : Nat} (hx : p.tables.exec = Jvm.exec) (hb : k.code = cc) (hr : meth.sig.returnType = some .float) (hlocks : meth.locks = false) (w : PW D G A s x.1 x.2.1 x.2.2 H locs) (u : S) (hu : ext u = x) (hp : post v u) (hc : cells ≤ mc) (hs : slots ≤ ms) (hdg : decode cc pc = .ok (.freturn, 1)) :
    W p l e R s m args below meth k H locs cells slots (MQ below (qF D G ext post A) args s mc ms A) (F0 m pc ls [.float v]) := by
  refine W.widen hc hs ?_
  refine W.fret hx hb hr (fun t ht hW => ⟨⟨v, u, rfl, hp, ?_⟩, w.2.2.2.1.F ht⟩) w.2.2.2.1.2.2 hdg hlocks
  show wAt D G A (ext u) t
  rw [hu]
  exact ⟨by rw [ht]; exact w.2.1, va_K.moved hW.alike w.1, w.2.2.1⟩
theorem pw_vret {S : Type} {ext : S → wX} {post : S → Prop} {x : wX} {mc ms : Nat} (hx : p.tables.exec = Jvm.exec) (hb : k.code = cc) (hr : meth.sig.returnType = none) (hlocks : meth.locks = false) (w : PW D G A s x.1 x.2.1 x.2.2 H locs) (u : S) (hu : ext u = x) (hp : post u) (hc : cells ≤ mc) (hs : slots ≤ ms) (hdg : decode cc pc = .ok (.return_, 1)) :
    W p l e R s m args below meth k H locs cells slots (MQ below (qV D G ext post A) args s mc ms A) (F0 m pc ls []) := by
  refine W.widen hc hs ?_
  refine W.vret hx hb hr (fun t ht hW => ⟨⟨u, rfl, hp, ?_⟩, w.2.2.2.1.F ht⟩) w.2.2.2.1.2.2 hdg hlocks
  show wAt D G A (ext u) t
  rw [hu]
  exact ⟨by rw [ht]; exact w.2.1, va_K.moved hW.alike w.1, w.2.2.1⟩
theorem pw_aret {S : Type} {ext : S → wX} {post : Nat → S → Prop} {x : wX} {a mc ms : Nat} {rt : FieldType} (hx : p.tables.exec = Jvm.exec) (hb : k.code = cc) (hr : meth.sig.returnType = some rt) (hrt : (∃ n, rt = .object n) ∨ ∃ t, rt = .array t) (hlocks : meth.locks = false) (w : PW D G A s x.1 x.2.1 x.2.2 H locs) (u : S) (hu : ext u = x) (hp : post a u) (hc : cells ≤ mc) (hs : slots ≤ ms) (hdg : decode cc pc = .ok (.areturn, 1)) :
    W p l e R s m args below meth k H locs cells slots (MQ below (qR D G ext post A) args s mc ms A) (F0 m pc ls [.ref a]) := by
  refine W.widen hc hs ?_
  refine W.aret hx hb hr hrt (Or.inr ⟨a, rfl⟩) (fun t ht hW => ⟨⟨u, a, rfl, trivial, hp, ?_⟩, w.2.2.2.1.F ht⟩) w.2.2.2.1.2.2 hdg hlocks
  show wAt D G A (ext u) t
  rw [hu]
  exact ⟨by rw [ht]; exact w.2.1, va_K.moved hW.alike w.1, w.2.2.1⟩
end PC
