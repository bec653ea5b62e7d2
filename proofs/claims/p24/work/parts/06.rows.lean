/-! OURS: instructions over the world by roles -/
section PR
variable {p : Program} {l : Launch} {e : Env} {R : Room} {s : State} {m : MethodId} {args : Array Value} {below : List Frame} {meth : Method} {k : Code} {H : Heap} {locs : List Loc} {cells slots : Nat} {Q : State → Prop}
variable {cc : ByteArray} {pc : Nat} {ls : Array Slot} {rest : List Value} {D : va_G} {G : Nat → ClassId} {A : Nat → Prop} {ad : Nat → Nat} {N : Nat} {c : Nat → va_E}
theorem pz_iadd (hx : p.tables.exec = Jvm.exec) (hb : k.code = cc) {a b : Int} (hdg : decode cc pc = .ok (.iadd, 1)) (kk : W p l e R s m args below meth k H locs cells slots Q (F0 m (pc + 1) ls (.int (zI (a + b)) :: rest))) : W p l e R s m args below meth k H locs cells slots Q (F0 m pc ls (.int (zI b) :: .int (zI a) :: rest)) := lv_iadd hx hb hdg (by rw [zI_add]; exact kk)
theorem pz_isub (hx : p.tables.exec = Jvm.exec) (hb : k.code = cc) {a b : Int} (hdg : decode cc pc = .ok (.isub, 1)) (kk : W p l e R s m args below meth k H locs cells slots Q (F0 m (pc + 1) ls (.int (zI (a - b)) :: rest))) : W p l e R s m args below meth k H locs cells slots Q (F0 m pc ls (.int (zI b) :: .int (zI a) :: rest)) := lv_isub hx hb hdg (by rw [zI_sub]; exact kk)
theorem pz_imul (hx : p.tables.exec = Jvm.exec) (hb : k.code = cc) {a b : Int} (hdg : decode cc pc = .ok (.imul, 1)) (kk : W p l e R s m args below meth k H locs cells slots Q (F0 m (pc + 1) ls (.int (zI (a * b)) :: rest))) : W p l e R s m args below meth k H locs cells slots Q (F0 m pc ls (.int (zI b) :: .int (zI a) :: rest)) := lv_imul hx hb hdg (by rw [zI_mul]; exact kk)
/-- the number on top by another name -/
theorem pz_top {a b : Int} (h : a = b) (kk : W p l e R s m args below meth k H locs cells slots Q (F0 m pc ls (.int (zI b) :: rest))) : W p l e R s m args below meth k H locs cells slots Q (F0 m pc ls (.int (zI a) :: rest)) := by rw [h]; exact kk
theorem pz_topI {x y : Int32} (h : x = y) (kk : W p l e R s m args below meth k H locs cells slots Q (F0 m pc ls (.int y :: rest))) : W p l e R s m args below meth k H locs cells slots Q (F0 m pc ls (.int x :: rest)) := by rw [h]; exact kk
theorem pz_ifeq (hx : p.tables.exec = Jvm.exec) (hb : k.code = cc) {a : Int} {off : Int} {tgt : Nat} (hdg : decode cc pc = .ok (.ifCond .eq off, 3)) (ht : (pc : Int) + off = (tgt : Int)) (ha : bnd a) (kt : a = 0 → W p l e R s m args below meth k H locs cells slots Q (F0 m tgt ls rest)) (kf : ¬ a = 0 → W p l e R s m args below meth k H locs cells slots Q (F0 m (pc + 3) ls rest)) : W p l e R s m args below meth k H locs cells slots Q (F0 m pc ls (.int (zI a) :: rest)) :=
  lv_if_eq hx hb hdg ht (fun h => kt ((zI_eq ha bnd_0).mp (by rw [zI_0]; exact h))) (fun h => kf (fun h2 => h (by rw [h2]; exact zI_0)))
theorem pz_ifne (hx : p.tables.exec = Jvm.exec) (hb : k.code = cc) {a : Int} {off : Int} {tgt : Nat} (hdg : decode cc pc = .ok (.ifCond .ne off, 3)) (ht : (pc : Int) + off = (tgt : Int)) (ha : bnd a) (kt : ¬ a = 0 → W p l e R s m args below meth k H locs cells slots Q (F0 m tgt ls rest)) (kf : a = 0 → W p l e R s m args below meth k H locs cells slots Q (F0 m (pc + 3) ls rest)) : W p l e R s m args below meth k H locs cells slots Q (F0 m pc ls (.int (zI a) :: rest)) :=
  lv_if_ne hx hb hdg ht (fun h => kt (fun h2 => h (by rw [h2]; exact zI_0))) (fun h => kf ((zI_eq ha bnd_0).mp (by rw [zI_0]; exact h)))
theorem pz_iflt (hx : p.tables.exec = Jvm.exec) (hb : k.code = cc) {a : Int} {off : Int} {tgt : Nat} (hdg : decode cc pc = .ok (.ifCond .lt off, 3)) (ht : (pc : Int) + off = (tgt : Int)) (ha : bnd a) (kt : a < 0 → W p l e R s m args below meth k H locs cells slots Q (F0 m tgt ls rest)) (kf : 0 ≤ a → W p l e R s m args below meth k H locs cells slots Q (F0 m (pc + 3) ls rest)) : W p l e R s m args below meth k H locs cells slots Q (F0 m pc ls (.int (zI a) :: rest)) :=
  lv_if_lt hx hb hdg ht (fun h => kt ((zI_lt ha bnd_0).mp (by rw [zI_0]; exact h))) (fun h => kf (Int.not_lt.mp (fun h2 => h (by rw [← zI_0]; exact (zI_lt ha bnd_0).mpr h2))))
theorem pz_ifge (hx : p.tables.exec = Jvm.exec) (hb : k.code = cc) {a : Int} {off : Int} {tgt : Nat} (hdg : decode cc pc = .ok (.ifCond .ge off, 3)) (ht : (pc : Int) + off = (tgt : Int)) (ha : bnd a) (kt : 0 ≤ a → W p l e R s m args below meth k H locs cells slots Q (F0 m tgt ls rest)) (kf : a < 0 → W p l e R s m args below meth k H locs cells slots Q (F0 m (pc + 3) ls rest)) : W p l e R s m args below meth k H locs cells slots Q (F0 m pc ls (.int (zI a) :: rest)) :=
  lv_if_ge hx hb hdg ht (fun h => kt ((zI_le bnd_0 ha).mp (by rw [zI_0]; exact h))) (fun h => kf (Int.not_le.mp (fun h2 => h (by rw [← zI_0]; exact (zI_le bnd_0 ha).mpr h2))))
theorem pz_ifgt (hx : p.tables.exec = Jvm.exec) (hb : k.code = cc) {a : Int} {off : Int} {tgt : Nat} (hdg : decode cc pc = .ok (.ifCond .gt off, 3)) (ht : (pc : Int) + off = (tgt : Int)) (ha : bnd a) (kt : 0 < a → W p l e R s m args below meth k H locs cells slots Q (F0 m tgt ls rest)) (kf : a ≤ 0 → W p l e R s m args below meth k H locs cells slots Q (F0 m (pc + 3) ls rest)) : W p l e R s m args below meth k H locs cells slots Q (F0 m pc ls (.int (zI a) :: rest)) :=
  lv_if_gt hx hb hdg ht (fun h => kt ((zI_lt bnd_0 ha).mp (by rw [zI_0]; exact h))) (fun h => kf (Int.not_lt.mp (fun h2 => h (by rw [← zI_0]; exact (zI_lt bnd_0 ha).mpr h2))))
theorem pz_ifle (hx : p.tables.exec = Jvm.exec) (hb : k.code = cc) {a : Int} {off : Int} {tgt : Nat} (hdg : decode cc pc = .ok (.ifCond .le off, 3)) (ht : (pc : Int) + off = (tgt : Int)) (ha : bnd a) (kt : a ≤ 0 → W p l e R s m args below meth k H locs cells slots Q (F0 m tgt ls rest)) (kf : 0 < a → W p l e R s m args below meth k H locs cells slots Q (F0 m (pc + 3) ls rest)) : W p l e R s m args below meth k H locs cells slots Q (F0 m pc ls (.int (zI a) :: rest)) :=
  lv_if_le hx hb hdg ht (fun h => kt ((zI_le ha bnd_0).mp (by rw [zI_0]; exact h))) (fun h => kf (Int.not_le.mp (fun h2 => h (by rw [← zI_0]; exact (zI_le ha bnd_0).mpr h2))))
theorem pz_icmpeq (hx : p.tables.exec = Jvm.exec) (hb : k.code = cc) {a b : Int} {off : Int} {tgt : Nat} (hdg : decode cc pc = .ok (.if_icmp .eq off, 3)) (ht : (pc : Int) + off = (tgt : Int)) (ha : bnd a) (hb2 : bnd b) (kt : a = b → W p l e R s m args below meth k H locs cells slots Q (F0 m tgt ls rest)) (kf : ¬ a = b → W p l e R s m args below meth k H locs cells slots Q (F0 m (pc + 3) ls rest)) : W p l e R s m args below meth k H locs cells slots Q (F0 m pc ls (.int (zI b) :: .int (zI a) :: rest)) :=
  lv_icmp_eq hx hb hdg ht (fun h => kt ((zI_eq ha hb2).mp h)) (fun h => kf (fun h2 => h ((zI_eq ha hb2).mpr h2)))
theorem pz_icmpne (hx : p.tables.exec = Jvm.exec) (hb : k.code = cc) {a b : Int} {off : Int} {tgt : Nat} (hdg : decode cc pc = .ok (.if_icmp .ne off, 3)) (ht : (pc : Int) + off = (tgt : Int)) (ha : bnd a) (hb2 : bnd b) (kt : ¬ a = b → W p l e R s m args below meth k H locs cells slots Q (F0 m tgt ls rest)) (kf : a = b → W p l e R s m args below meth k H locs cells slots Q (F0 m (pc + 3) ls rest)) : W p l e R s m args below meth k H locs cells slots Q (F0 m pc ls (.int (zI b) :: .int (zI a) :: rest)) :=
  lv_icmp_ne hx hb hdg ht (fun h => kt (fun h2 => h ((zI_eq ha hb2).mpr h2))) (fun h => kf ((zI_eq ha hb2).mp h))
theorem pz_icmplt (hx : p.tables.exec = Jvm.exec) (hb : k.code = cc) {a b : Int} {off : Int} {tgt : Nat} (hdg : decode cc pc = .ok (.if_icmp .lt off, 3)) (ht : (pc : Int) + off = (tgt : Int)) (ha : bnd a) (hb2 : bnd b) (kt : a < b → W p l e R s m args below meth k H locs cells slots Q (F0 m tgt ls rest)) (kf : b ≤ a → W p l e R s m args below meth k H locs cells slots Q (F0 m (pc + 3) ls rest)) : W p l e R s m args below meth k H locs cells slots Q (F0 m pc ls (.int (zI b) :: .int (zI a) :: rest)) :=
  lv_icmp_lt hx hb hdg ht (fun h => kt ((zI_lt ha hb2).mp h)) (fun h => kf (Int.not_lt.mp (fun h2 => h ((zI_lt ha hb2).mpr h2))))
theorem pz_icmpge (hx : p.tables.exec = Jvm.exec) (hb : k.code = cc) {a b : Int} {off : Int} {tgt : Nat} (hdg : decode cc pc = .ok (.if_icmp .ge off, 3)) (ht : (pc : Int) + off = (tgt : Int)) (ha : bnd a) (hb2 : bnd b) (kt : b ≤ a → W p l e R s m args below meth k H locs cells slots Q (F0 m tgt ls rest)) (kf : a < b → W p l e R s m args below meth k H locs cells slots Q (F0 m (pc + 3) ls rest)) : W p l e R s m args below meth k H locs cells slots Q (F0 m pc ls (.int (zI b) :: .int (zI a) :: rest)) :=
  lv_icmp_ge hx hb hdg ht (fun h => kt ((zI_le hb2 ha).mp h)) (fun h => kf (Int.not_le.mp (fun h2 => h ((zI_le hb2 ha).mpr h2))))
theorem pz_icmpgt (hx : p.tables.exec = Jvm.exec) (hb : k.code = cc) {a b : Int} {off : Int} {tgt : Nat} (hdg : decode cc pc = .ok (.if_icmp .gt off, 3)) (ht : (pc : Int) + off = (tgt : Int)) (ha : bnd a) (hb2 : bnd b) (kt : b < a → W p l e R s m args below meth k H locs cells slots Q (F0 m tgt ls rest)) (kf : a ≤ b → W p l e R s m args below meth k H locs cells slots Q (F0 m (pc + 3) ls rest)) : W p l e R s m args below meth k H locs cells slots Q (F0 m pc ls (.int (zI b) :: .int (zI a) :: rest)) :=
  lv_icmp_gt hx hb hdg ht (fun h => kt ((zI_lt hb2 ha).mp h)) (fun h => kf (Int.not_lt.mp (fun h2 => h ((zI_lt hb2 ha).mpr h2))))
theorem pz_icmple (hx : p.tables.exec = Jvm.exec) (hb : k.code = cc) {a b : Int} {off : Int} {tgt : Nat} (hdg : decode cc pc = .ok (.if_icmp .le off, 3)) (ht : (pc : Int) + off = (tgt : Int)) (ha : bnd a) (hb2 : bnd b) (kt : a ≤ b → W p l e R s m args below meth k H locs cells slots Q (F0 m tgt ls rest)) (kf : b < a → W p l e R s m args below meth k H locs cells slots Q (F0 m (pc + 3) ls rest)) : W p l e R s m args below meth k H locs cells slots Q (F0 m pc ls (.int (zI b) :: .int (zI a) :: rest)) :=
  lv_icmp_le hx hb hdg ht (fun h => kt ((zI_le ha hb2).mp h)) (fun h => kf (Int.not_le.mp (fun h2 => h ((zI_le ha hb2).mpr h2))))
theorem pz_iinc (hx : p.tables.exec = Jvm.exec) (hb : k.code = cc) {i nL j : Nat} {n x : Int} {lv lv' : List (Nat × Value)} (hdg : decode cc pc = .ok (.iinc i n, 3)) (h : lv_has ls nL lv) (hk : lv[j]? = some (i, .int (zI x))) (v : Int) (hv : x + n = v) (hn : i < nL) (hl : (i, Value.int (zI v)) :: lv.filter (fun q => !(q.1 == i) && !(q.1 + 1 == i && q.2.category == 2)) = lv')
    (kk : ∀ ls' : Array Slot, lv_has ls' nL lv' → W p l e R s m args below meth k H locs cells slots Q (F0 m (pc + 3) ls' rest)) : W p l e R s m args below meth k H locs cells slots Q (F0 m pc ls rest) :=
  lv_iinc (v := zI v) hx hb hdg h hk (by rw [← hv]; exact zI_add x n) hn hl kk
theorem pz_min {own : String} {index : Nat} (hx : p.tables.exec = Jvm.exec) (hb : k.code = cc) (hml : k.maxLocals = ls.size) (hown : s.vm.findClass own = some m.cls) (hlink : (Cond.methodLink own index Lib.Math.min.name).before args s = true) (hstat : (Cond.static Lib.Math.min.name).before args s = true) (hini : (Cond.initialized "java/lang/Math").before args s = true) (hcode : (Cond.code Lib.Math.min.name Lib.Math.min.code 2 (some .int)).before args s = true)
    (hframes : 1 ≤ R.frames) (hlocals : (rest.map fun v => v.category).sum + 13 ≤ R.locals) (hc : cells ≤ R.cells) (hs : slots ≤ R.slots) {a b : Int} (ha : bnd a) (hb2 : bnd b) (hdg : decode cc pc = .ok (.invokestatic index, 3))
    (kk : W p l e R s m args below meth k H locs cells slots Q (F0 m (pc + 3) ls (.int (zI (min a b)) :: rest))) : W p l e R s m args below meth k H locs cells slots Q (F0 m pc ls (.int (zI b) :: .int (zI a) :: rest)) := by
  refine va_mmin hx hb hml hown hlink hstat hini hcode hframes hlocals hc hs hdg ?_
  have e : (if zI b < zI a then zI b else zI a) = zI (min a b) := by
    by_cases h : b < a
    · rw [if_pos ((zI_lt hb2 ha).mpr h)]
      congr 1
      omega
    · rw [if_neg (fun h2 => h ((zI_lt hb2 ha).mp h2))]
      congr 1
      omega
  rw [e]
  exact kk
/-- getfield -/
theorem pw_get {own ref C : String} {T : u_T} {Nf ci index : Nat} {Ts : List Cond} (hx : p.tables.exec = Jvm.exec) (hb : k.code = cc) (w : PW D G A s ad N c H locs) (hts : ∀ w ∈ Ts, w.before args s = true) (hin : ∀ w ∈ u_ws C T Nf, w ∈ Ts) (hown : s.vm.findClass own = some m.cls) {r : Nat} (hr : r < N) {fs : List Value} (hc : c r = .inr (ci, fs)) (hcl : vwCl[ci]? = some (C, T, Nf)) (i : Nat) (hi : i < Nf) (hlink : (Cond.fieldLink own index ref (T i).2.1 (T i).2.2.1).before args s = true) (hsame : ∀ x, s.fieldFound? (T i).1 (T i).2.1 (T i).2.2.1 = some x → s.fieldFound? ref (T i).2.1 (T i).2.2.1 = some x) {v : Value} (hv : fs[i]? = some v) (hdg : decode cc pc = .ok (.getfield index, 3))
    (kk : W p l e R s m args below meth k H locs cells slots Q (F0 m (pc + 3) ls (v :: rest))) : W p l e R s m args below meth k H locs cells slots Q (F0 m pc ls (.ref (ad r) :: rest)) :=
  va_get (D := D) hx hb hts hin hown w.1 w.2.1 r (wl_get' hr hc) hcl i hi hlink hsame hv hdg kk
theorem PW.upd {r : Nat} {e' : va_E} {H1 : Heap} {locs1 : List Loc} (w : PW D G A s ad N c H locs) (hr : r < N) (hP : va_P D vwCl ((wl ad N c).set r (ad r, e')) H1) (hD : va_D A ((wl ad N c).set r (ad r, e'))) (hS : va_S A s.heap H1 locs1) : PW D G A s ad N (va_up c r e') H1 locs1 := by
  rw [wl_set hr] at hP hD
  exact ⟨w.1, hP, hD, hS, w.2.2.2.2.1, w.2.2.2.2.2⟩
/-- putfield -/
theorem pw_put {own ref C : String} {T : u_T} {Nf ci index : Nat} {Ts : List Cond} (hx : p.tables.exec = Jvm.exec) (hb : k.code = cc) (w : PW D G A s ad N c H locs) (hts : ∀ w ∈ Ts, w.before args s = true) (hin : ∀ w ∈ u_ws C T Nf, w ∈ Ts) (ty0 : Nat → FieldType) (hty : ∀ k, k < Nf → parseFieldDescriptor (T k).2.2.1 = some (ty0 k)) (hnm : ∀ a, a < Nf → ∀ b, b < Nf → a ≠ b → (T a).2.1 ≠ (T b).2.1) (hown : s.vm.findClass own = some m.cls) {r : Nat} (hr : r < N) {fs : List Value} (hc : c r = .inr (ci, fs)) (hcl : vwCl[ci]? = some (C, T, Nf)) (i : Nat) (hi : i < Nf) (hlink : (Cond.fieldLink own index ref (T i).2.1 (T i).2.2.1).before args s = true) (hsame : ∀ x, s.fieldFound? (T i).1 (T i).2.1 (T i).2.2.1 = some x → s.fieldFound? ref (T i).2.1 (T i).2.2.1 = some x) (hfin : (T i).2.2.2 = false) {ty : FieldType} {v : Value} (hd : parseFieldDescriptor (T i).2.2.1 = some ty) (hn : narrow ty v = v) (hfit : fits ty v = true) (hl : i < fs.length) (hdg : decode cc pc = .ok (.putfield index, 3))
    (kk : ∀ (H1 : Heap) (locs1 : List Loc), PW D G A s ad N (va_up c r (.inr (ci, fs.set i v))) H1 locs1 → W p l e R s m args below meth k H1 locs1 cells slots Q (F0 m (pc + 3) ls rest)) : W p l e R s m args below meth k H locs cells slots Q (F0 m pc ls (v :: .ref (ad r) :: rest)) :=
  va_put (D := D) hx hb hts hin ty0 hty hnm hown w.1 w.2.1 w.2.2.1 w.2.2.2.1 r (wl_get' hr hc) hcl i hi hlink hsame hfin hd hn hfit hl hdg (fun H1 locs1 hP hD hS => kk H1 locs1 (w.upd hr hP hD hS))
/-- putfield of a final field, in the constructor -/
theorem pw_putF {own ref C : String} {T : u_T} {Nf ci index : Nat} {Ts : List Cond} (hx : p.tables.exec = Jvm.exec) (hb : k.code = cc) (w : PW D G A s ad N c H locs) (hts : ∀ w ∈ Ts, w.before args s = true) (hin : ∀ w ∈ u_ws C T Nf, w ∈ Ts) (ty0 : Nat → FieldType) (hty : ∀ k, k < Nf → parseFieldDescriptor (T k).2.2.1 = some (ty0 k)) (hnm : ∀ a, a < Nf → ∀ b, b < Nf → a ≠ b → (T a).2.1 ≠ (T b).2.1) (hown : s.vm.findClass own = some m.cls) {r : Nat} (hr : r < N) {fs : List Value} (hc : c r = .inr (ci, fs)) (hcl : vwCl[ci]? = some (C, T, Nf)) (i : Nat) (hi : i < Nf) (hlink : (Cond.fieldLink own index ref (T i).2.1 (T i).2.2.1).before args s = true) (hsame : ∀ x, s.fieldFound? (T i).1 (T i).2.1 (T i).2.2.1 = some x → s.fieldFound? ref (T i).2.1 (T i).2.2.1 = some x) (hfin : (T i).2.2.2 = true) (hin2 : meth.name = "<init>") (hdecl : (T i).1 = own) {ty : FieldType} {v : Value} (hd : parseFieldDescriptor (T i).2.2.1 = some ty) (hn : narrow ty v = v) (hfit : fits ty v = true) (hl : i < fs.length) (hdg : decode cc pc = .ok (.putfield index, 3))
    (kk : ∀ (H1 : Heap) (locs1 : List Loc), PW D G A s ad N (va_up c r (.inr (ci, fs.set i v))) H1 locs1 → W p l e R s m args below meth k H1 locs1 cells slots Q (F0 m (pc + 3) ls rest)) : W p l e R s m args below meth k H locs cells slots Q (F0 m pc ls (v :: .ref (ad r) :: rest)) :=
  va_putF (D := D) hx hb hts hin ty0 hty hnm hown w.1 w.2.1 w.2.2.1 w.2.2.2.1 r (wl_get' hr hc) hcl i hi hlink hsame hfin hin2 hdecl hd hn hfit hl hdg (fun H1 locs1 hP hD hS => kk H1 locs1 (w.upd hr hP hD hS))
/-- arraylength -/
theorem pw_len (hx : p.tables.exec = Jvm.exec) (hb : k.code = cc) (w : PW D G A s ad N c H locs) {r : Nat} (hr : r < N) (kd : Nat) {ty : FieldType} (ht : (tysG G)[kd]? = some (G kd, ty)) {n : Nat} {g : Nat → Int} (hc : isA kd G (c r) n g) (hdg : decode cc pc = .ok (.arraylength, 1))
    (kk : W p l e R s m args below meth k H locs cells slots Q (F0 m (pc + 1) ls (.int (zI (n : Int)) :: rest))) : W p l e R s m args below meth k H locs cells slots Q (F0 m pc ls (.ref (ad r) :: rest)) := by
  obtain ⟨f, h1, h2⟩ := hc
  exact va_alen (D := D) hx hb w.1 w.2.1 r kd (wl_get' hr h1) ht (v := zI (n : Int)) (zI_nI n).symm hdg kk
/-- iaload -/
theorem pw_iald (hx : p.tables.exec = Jvm.exec) (hb : k.code = cc) (w : PW D G A s ad N c H locs) {r : Nat} (hr : r < N) {n : Nat} {g : Nat → Int} (hc : isA 0 G (c r) n g) {z : Int} {j : Nat} (hz : z = (j : Int)) (hj : j < n) (hn : n < 2147483648) (hdg : decode cc pc = .ok (.iaload, 1))
    (kk : W p l e R s m args below meth k H locs cells slots Q (F0 m (pc + 1) ls (.int (zI (g j)) :: rest))) : W p l e R s m args below meth k H locs cells slots Q (F0 m pc ls (.int (zI z) :: .ref (ad r) :: rest)) := by
  subst hz
  obtain ⟨f, h1, h2⟩ := hc
  refine va_iald (D := D) hx hb w.1 w.2.1 r 0 (wl_get' hr h1) rfl (zI_in (by omega) (by omega) hn) hdg ?_
  rw [zI_nat (by omega), h2 j hj]
  exact kk
/-- baload of booleans -/
theorem pw_zald (hx : p.tables.exec = Jvm.exec) (hb : k.code = cc) (w : PW D G A s ad N c H locs) {r : Nat} (hr : r < N) {n : Nat} {g : Nat → Int} (hc : isA 1 G (c r) n g) {z : Int} {j : Nat} (hz : z = (j : Int)) (hj : j < n) (hn : n < 2147483648) (hdg : decode cc pc = .ok (.baload, 1))
    (kk : W p l e R s m args below meth k H locs cells slots Q (F0 m (pc + 1) ls (.int (zI (g j)) :: rest))) : W p l e R s m args below meth k H locs cells slots Q (F0 m pc ls (.int (zI z) :: .ref (ad r) :: rest)) := by
  subst hz
  obtain ⟨f, h1, h2⟩ := hc
  refine va_zald (D := D) hx hb w.1 w.2.1 r 1 (wl_get' hr h1) rfl (zI_in (by omega) (by omega) hn) hdg ?_
  rw [zI_nat (by omega), h2 j hj]
  exact kk
/-- what an array holds when v was put at j -/
def upI (g : Nat → Int) (j : Nat) (v : Int) : Nat → Int := fun i => if i = j then v else g i
theorem upI_self (g : Nat → Int) (j : Nat) (v : Int) : upI g j v j = v := if_pos rfl
theorem upI_ne (g : Nat → Int) {j i : Nat} (v : Int) (h : i ≠ j) : upI g j v i = g i := if_neg h
/-- iastore -/
theorem pw_iast (hx : p.tables.exec = Jvm.exec) (hb : k.code = cc) (w : PW D G A s ad N c H locs) {r : Nat} (hr : r < N) {n : Nat} {g : Nat → Int} (hc : isA 0 G (c r) n g) {z v : Int} {j : Nat} (hz : z = (j : Int)) (hj : j < n) (hn : n < 2147483648) (hdg : decode cc pc = .ok (.iastore, 1))
    (kk : ∀ (H1 : Heap) (locs1 : List Loc) (e1 : va_E), isA 0 G e1 n (upI g j v) → PW D G A s ad N (va_up c r e1) H1 locs1 → W p l e R s m args below meth k H1 locs1 cells slots Q (F0 m (pc + 1) ls rest)) : W p l e R s m args below meth k H locs cells slots Q (F0 m pc ls (.int (zI v) :: .int (zI z) :: .ref (ad r) :: rest)) := by
  subst hz
  obtain ⟨f, h1, h2⟩ := hc
  refine va_iast (D := D) hx hb w.1 w.2.1 w.2.2.1 w.2.2.2.1 r 0 (wl_get' hr h1) rfl (zI_in (by omega) (by omega) hn) hdg (fun H1 locs1 hP hD hS => ?_)
  refine kk H1 locs1 _ ⟨_, rfl, fun i hi => ?_⟩ (w.upd hr hP hD hS)
  rw [zI_nat (by omega)]
  unfold upd upI
  by_cases h : i = j
  · simp [h]
  · simp [h, h2 i hi]
theorem pz_nz0 : vp_nar .boolean (zI 0) = zI 0 := by decide +kernel
theorem pz_nz1 : vp_nar .boolean (zI 1) = zI 1 := by decide +kernel
/-- bastore of booleans -/
theorem pw_zast (hx : p.tables.exec = Jvm.exec) (hb : k.code = cc) (w : PW D G A s ad N c H locs) {r : Nat} (hr : r < N) {n : Nat} {g : Nat → Int} (hc : isA 1 G (c r) n g) {z v : Int} {j : Nat} (hz : z = (j : Int)) (hv : v = 0 ∨ v = 1) (hj : j < n) (hn : n < 2147483648) (hdg : decode cc pc = .ok (.bastore, 1))
    (kk : ∀ (H1 : Heap) (locs1 : List Loc) (e1 : va_E), isA 1 G e1 n (upI g j v) → PW D G A s ad N (va_up c r e1) H1 locs1 → W p l e R s m args below meth k H1 locs1 cells slots Q (F0 m (pc + 1) ls rest)) : W p l e R s m args below meth k H locs cells slots Q (F0 m pc ls (.int (zI v) :: .int (zI z) :: .ref (ad r) :: rest)) := by
  subst hz
  obtain ⟨f, h1, h2⟩ := hc
  refine va_zast (D := D) hx hb w.1 w.2.1 w.2.2.1 w.2.2.2.1 r 1 (wl_get' hr h1) rfl (zI_in (by omega) (by omega) hn) hdg (fun H1 locs1 hP hD hS => ?_)
  refine kk H1 locs1 _ ⟨_, rfl, fun i hi => ?_⟩ (w.upd hr hP hD hS)
  rw [zI_nat (by omega)]
  have hnv : vp_nar .boolean (zI v) = zI v := by
    rcases hv with h | h
    · rw [h]; exact pz_nz0
    · rw [h]; exact pz_nz1
  rw [hnv]
  unfold upd upI
  by_cases h : i = j
  · simp [h]
  · simp [h, h2 i hi]
/-- aaload of an array of objects or rows -/
theorem pw_aald (hx : p.tables.exec = Jvm.exec) (hb : k.code = cc) (w : PW D G A s ad N c H locs) {r : Nat} (hr : r < N) {kd n : Nat} {f : Nat → Option Nat} (hc : c r = rfs kd G n f) {ty : FieldType} (ht : (tysG G)[kd]? = some (G kd, ty)) (hty : ty.isReference = true) {z : Int} {j : Nat} (hz : z = (j : Int)) (hj : j < n) (hn : n < 2147483648) (hdg : decode cc pc = .ok (.aaload, 1))
    (kk : W p l e R s m args below meth k H locs cells slots Q (F0 m (pc + 1) ls (va_rf (f j) :: rest))) : W p l e R s m args below meth k H locs cells slots Q (F0 m pc ls (.int (zI z) :: .ref (ad r) :: rest)) := by
  subst hz
  obtain ⟨hK, hP, hD, hS, hA, hZ⟩ := w
  have hin : vp_in (zI (j : Int)) n := zI_in (by omega) (by omega) hn
  have hcl : (zI (j : Int)).toNatClampNeg = j := zI_nat (by omega)
  refine W.aald (v := va_rf (f j)) (ty := ty) hx hb (hP r _ (wl_get' hr hc)) ((hK.2 kd _ ht).1 n (fun j => va_rf (f j))) hty (fun q => by cases q) (by show ¬ (zI (j : Int) < 0 ∨ (arrV _ _ _).slots.size ≤ _); rw [arrV_size]; exact hin) (by show (arrV _ _ _).slots[_]? = _; rw [hcl, arrV_read _ _ hj]) rfl rfl hdg kk
/-- aastore of an object -/
theorem pw_aast (hx : p.tables.exec = Jvm.exec) (hb : k.code = cc) (w : PW D G A s ad N c H locs) {r q ci : Nat} (hr : r < N) (hq : q < N) {kd n : Nat} {f : Nat → Option Nat} (hc : c r = rfs kd G n f) {cr : vw_C} {vs : List Value} (hcq : c q = .inr (ci, vs)) (hcl : vwCl[ci]? = some cr) (ht : (tysG G)[kd]? = some (G kd, .object cr.1)) {z : Int} {j : Nat} (hz : z = (j : Int)) (hj : j < n) (hn : n < 2147483648) (hdg : decode cc pc = .ok (.aastore, 1))
    (kk : ∀ (H1 : Heap) (locs1 : List Loc), PW D G A s ad N (va_up c r (rfs kd G n (va_up f j (some (ad q))))) H1 locs1 → W p l e R s m args below meth k H1 locs1 cells slots Q (F0 m (pc + 1) ls rest)) : W p l e R s m args below meth k H locs cells slots Q (F0 m pc ls (.ref (ad q) :: .int (zI z) :: .ref (ad r) :: rest)) := by
  subst hz
  refine va_astq (D := D) hx hb w.1 w.2.1 w.2.2.1 w.2.2.2.1 r kd q ci (wl_get' hr hc) ht (wl_get' hq hcq) hcl (zI_in (by omega) (by omega) hn) hdg (fun H1 locs1 hP hD hS => ?_)
  rw [zI_nat (by omega)] at hP hD
  exact kk H1 locs1 (w.upd hr hP hD hS)
/-- the statics' array of closed holes -/
theorem pw_closed {own : String} {index : Nat} (hx : p.tables.exec = Jvm.exec) (hb : k.code = cc) (w : PW D G A s ad N c H locs) (hown : s.vm.findClass own = some m.cls) (ho : own = RX0 ∧ index = 20) (hdg : decode cc pc = .ok (.getstatic index, 3))
    (kk : ∀ t : Nat, (∀ (pc : Nat) (ls : Array Slot) (rest : List Value) (z : Int) (j : Nat), z = (j : Int) → j < 9 → decode cc pc = .ok (.iaload, 1) → W p l e R s m args below meth k H locs cells slots Q (F0 m (pc + 1) ls (.int (zI (closedN j)) :: rest)) → W p l e R s m args below meth k H locs cells slots Q (F0 m pc ls (.int (zI z) :: .ref t :: rest))) → W p l e R s m args below meth k H locs cells slots Q (F0 m (pc + 3) ls (.ref t :: rest))) : W p l e R s m args below meth k H locs cells slots Q (F0 m pc ls rest) := by
  obtain ⟨rfl, rfl⟩ := ho
  obtain ⟨hK, hP, hD, hS, hA, ⟨⟨t, hZ, hT⟩, -, -, hN, -⟩⟩ := w
  have K := kk t (fun pc ls rest z j hz hj hdg kk => by
    subst hz
    refine va_ti hx hb hT hS (i := zI (j : Int)) (zI_in (by omega) (by omega) (by decide)) (v := .int (zI (closedN j))) ?_ hdg kk
    rw [zI_nat (by omega)])
  exact va_getsN hx hb hZ hS hown (va_Nw.use rfl hN) (fun _ h9 => h9) hdg K
end PR
