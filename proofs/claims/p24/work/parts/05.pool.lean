/-! OURS: numbers as integers -/
def zI (z : Int) : Int32 := Int32.ofInt z
def bnd (z : Int) : Prop := -2147483648 ≤ z ∧ z < 2147483648
theorem zI_toInt {z : Int} (h : bnd z) : (zI z).toInt = z := Int32.toInt_ofInt_of_le (by have := h.1; omega) (by have := h.2; omega)
theorem zI_add (a b : Int) : zI a + zI b = zI (a + b) := (Int32.ofInt_add a b).symm
theorem zI_sub (a b : Int) : zI a - zI b = zI (a - b) := (Int32.ofInt_sub a b).symm
theorem zI_mul (a b : Int) : zI a * zI b = zI (a * b) := (Int32.ofInt_mul a b).symm
theorem zI_of (x : Int32) : ∃ z, bnd z ∧ x = zI z := ⟨x.toInt, ⟨by have := x.le_toInt; omega, by have := x.toInt_lt; omega⟩, (Int32.ofInt_toInt x).symm⟩
theorem zI_lt {a b : Int} (ha : bnd a) (hb : bnd b) : zI a < zI b ↔ a < b := by rw [Int32.lt_iff_toInt_lt, zI_toInt ha, zI_toInt hb]
theorem zI_le {a b : Int} (ha : bnd a) (hb : bnd b) : zI a ≤ zI b ↔ a ≤ b := by rw [Int32.le_iff_toInt_le, zI_toInt ha, zI_toInt hb]
theorem zI_eq {a b : Int} (ha : bnd a) (hb : bnd b) : zI a = zI b ↔ a = b := ⟨fun h => by have := congrArg Int32.toInt h; rwa [zI_toInt ha, zI_toInt hb] at this, fun h => by rw [h]⟩
theorem zI_0 : zI 0 = 0 := by decide +kernel
theorem bnd_0 : bnd 0 := ⟨by decide, by decide⟩
theorem zI_cl {z : Int} (h : 0 ≤ z) (h2 : z < 2147483648) : (zI z).toNatClampNeg = z.toNat := by
  rw [← Int32.toNat_toInt, zI_toInt ⟨by omega, h2⟩]
theorem zI_nat {n : Nat} (h : n < 2147483648) : (zI (n : Int)).toNatClampNeg = n := by
  rw [zI_cl (by omega) (by omega)]; omega
theorem zI_in {z : Int} {n : Nat} (h : 0 ≤ z) (h2 : z < n) (hn : n < 2147483648) : vp_in (zI z) n := by
  rw [vp_in_iff, zI_toInt ⟨by omega, by omega⟩]; exact ⟨h, h2⟩
theorem zI_nI (n : Nat) : zI (n : Int) = nI n := by
  unfold zI nI
  exact (Int32.ofInt_eq_ofNat (n := n)).trans rfl
/-! OURS: the world as a list of cells by their roles: role r lies at the address ad r and holds c r -/
def wl (ad : Nat → Nat) (N : Nat) (c : Nat → va_E) : va_W := (List.range N).map (fun r => (ad r, c r))
theorem wl_len {ad : Nat → Nat} {N : Nat} {c : Nat → va_E} : (wl ad N c).length = N := by simp [wl]
theorem wl_get {ad : Nat → Nat} {N r : Nat} {c : Nat → va_E} (h : r < N) : (wl ad N c)[r]? = some (ad r, c r) := by simp [wl, h]
theorem wl_get' {ad : Nat → Nat} {N r : Nat} {c : Nat → va_E} {e : va_E} (h : r < N) (he : c r = e) : (wl ad N c)[r]? = some (ad r, e) := by rw [← he]; exact wl_get h
theorem wl_inv {ad : Nat → Nat} {N i : Nat} {c : Nat → va_E} {q : Nat × va_E} (h : (wl ad N c)[i]? = some q) : i < N ∧ q = (ad i, c i) := by
  have hk : i < N := by
    rcases Nat.lt_or_ge i N with h1 | h1
    · exact h1
    · rw [List.getElem?_eq_none (by rw [wl_len]; exact h1)] at h
      cases h
  rw [wl_get hk] at h
  exact ⟨hk, (Option.some.inj h).symm⟩
theorem wl_set {ad : Nat → Nat} {N r : Nat} {c : Nat → va_E} (h : r < N) (e : va_E) : (wl ad N c).set r (ad r, e) = wl ad N (va_up c r e) := by
  apply List.ext_getElem?
  intro i
  by_cases hi : i < N
  · rw [wl_get hi, List.getElem?_set]
    by_cases hr : r = i
    · subst hr
      simp [wl_len, h, va_up]
    · rw [if_neg hr, wl_get hi, va_up_ne _ _ (fun q => hr q.symm)]
  · rw [List.getElem?_eq_none (by rw [List.length_set, wl_len]; omega), List.getElem?_eq_none (by rw [wl_len]; omega)]
theorem wl_push {ad : Nat → Nat} {N q : Nat} {c : Nat → va_E} {e : va_E} : wl ad N c ++ [(q, e)] = wl (va_up ad N q) (N + 1) (va_up c N e) := by
  unfold wl
  rw [List.range_succ, List.map_append]
  congr 1
  · apply List.map_congr_left
    intro r hr
    rw [List.mem_range] at hr
    rw [va_up_ne _ _ (by omega), va_up_ne _ _ (by omega)]
  · simp [va_up]
theorem wl_congr {ad : Nat → Nat} {N : Nat} {c c' : Nat → va_E} (h : ∀ r, r < N → c r = c' r) : wl ad N c = wl ad N c' := by
  unfold wl
  apply List.map_congr_left
  intro r hr
  rw [h r (List.mem_range.mp hr)]
/-- the array classes -/
def tysG (G : Nat → ClassId) : List (ClassId × FieldType) := [(G 0, .int), (G 1, .boolean), (G 2, .array .int), (G 3, .object RX1), (G 4, .object RX2), (G 5, .object RX5)]
/-- an array of ints (booleans: k = 1) that holds the numbers g below n -/
def isA (kd : Nat) (G : Nat → ClassId) (e : va_E) (n : Nat) (g : Nat → Int) : Prop := ∃ f : Nat → Int32, e = .inl (G kd, n, .inl f) ∧ ∀ j, j < n → f j = zI (g j)
theorem isA.to {kd : Nat} {G : Nat → ClassId} {e : va_E} {n : Nat} {g g' : Nat → Int} (h : isA kd G e n g) (hg : ∀ j, j < n → g j = g' j) : isA kd G e n g' := by
  obtain ⟨f, h1, h2⟩ := h
  exact ⟨f, h1, fun j hj => by rw [h2 j hj, hg j hj]⟩
/-- an array of references -/
def rfs (kd : Nat) (G : Nat → ClassId) (n : Nat) (f : Nat → Option Nat) : va_E := .inl (G kd, n, .inr (.inr (.inr (.inr f))))
def closedN : Nat → Int := fun j => ([255, 127, 63, 159, 143, 119, 115, 113, 114] : List Int).getD j 0
abbrev strs : List (Nat × String) := [(58, "limit out of range"), (67, "grace note out of range"), (75, "the draft is full"), (87, "the draft is empty, or there is no room for it"), (113, "the tune is full"), (120, "the tune has no notes"), (134, "no such note"), (169, "no set with a choice"), (175, "no such place"), (180, "pitch out of range"), (182, "length out of range"), (184, "tune out of range"), (186, "no such gap"), (191, "no choice for the tune")]
abbrev xIA : String := "java/lang/IllegalArgumentException"
abbrev xIS : String := "java/lang/IllegalStateException"
abbrev xIO : String := "java/lang/IndexOutOfBoundsException"
abbrev xNS : String := "java/util/NoSuchElementException"
abbrev casts : List (String × String) := [(xIA, xIA), (xIS, xIS), (xIO, xIO), (xNS, xNS), ("[I", "java/lang/Cloneable")]
abbrev ncasts : List (String × String) := [(xIA, xIS), (xIA, xIO), (xIA, xNS), (xIS, xIA), (xIS, xIO), (xIS, xNS), (xIO, xIA), (xIO, xIS), (xIO, xNS), (xNS, xIA), (xNS, xIS), (xNS, xIO)]
theorem va_AOA.moved {t : FieldType} {u U : State} (hvm : u.vm.Alike U.vm) (h : va_AOA t u) : va_AOA t U := over_moved (a := #[]) (a' := #[]) hvm h
abbrev decls : List MethodName := [⟨"java/lang/RuntimeException", "<init>", "(Ljava/lang/String;)V"⟩, ⟨"java/lang/Exception", "<init>", "(Ljava/lang/String;)V"⟩, ⟨"java/lang/Throwable", "<init>", "(Ljava/lang/String;)V"⟩]
/-- what the tables say beyond the good words -/
def ZT (U : State) : Prop := va_Nw (.fieldLinkNest RX0 20 RX7 "CLOSED" "[I" RX7) U ∧ (∀ q ∈ casts, va_Nw (.castable q.1 q.2) U) ∧ (∀ q ∈ ncasts, va_Nc q.1 q.2 U) ∧ va_AO RX1 U ∧ va_AO RX2 U ∧ va_AO RX5 U ∧ va_AOA .int U ∧ ∀ y ∈ decls, va_Nw (.declares y) U
theorem ZT.pass {u U : State} (hW : u.WarmedH U.vm) (h : ZT u) : ZT U := by
  obtain ⟨h1, h2, h3, h4, h5, h6, h7, h8⟩ := h
  have hv := hW.alike
  exact ⟨va_Nw.warmF hW h1, fun q hq => va_Nw.warmC hW (h2 q hq), fun q hq => va_Nc.moved hv (h3 q hq), va_AO.moved hv h4, va_AO.moved hv h5, va_AO.moved hv h6, va_AOA.moved hv h7, fun y hy => va_Nw.warmD hW (h8 y hy)⟩
theorem ZT.same {u U : State} (hv : u.vm = U.vm) (h : ZT u) : ZT U := by
  obtain ⟨h1, h2, h3, h4, h5, h6, h7, h8⟩ := h
  have hal : u.vm.Alike U.vm := by rw [hv]; exact Vm.Alike.refl U.vm
  exact ⟨va_Nw.same rfl hv h1, fun q hq => va_Nw.same rfl hv (h2 q hq), fun q hq => va_Nc.moved hal (h3 q hq), va_AO.moved hal h4, va_AO.moved hal h5, va_AO.moved hal h6, va_AOA.moved hal h7, fun y hy => va_Nw.same rfl hv (h8 y hy)⟩
/-- what nobody writes: the closed holes, two statics of Throwable, the texts -/
def ZZ (A : Nat → Prop) (U : State) (H : Heap) : Prop :=
  (∃ t : Nat, va_Z RX7 "CLOSED" "[I" (.ref t) A U H ∧ va_T .int t 9 (fun j => .int (zI (closedN j))) A U H) ∧
  (vx_Zq Bundle.tN "UNASSIGNED_STACK" Bundle.steD A U H ∧ vx_Zq Bundle.tN "SUPPRESSED_SENTINEL" Bundle.listD A U H) ∧ (∀ q ∈ strs, ∃ a, vk_R RX7 q.1 q.2 a U) ∧ ZT U
theorem ZZ.pass {A B : Nat → Prop} {u U : State} {H H1 : Heap} (hW : u.WarmedH U.vm) (hq : ∀ a : Nat, a < H.size → ¬ A a → H1[a]? = H[a]?) (hAB : ∀ q, B q → A q) (h : ZZ A u H) : ZZ B U H1 := by
  obtain ⟨⟨t, h1, h2⟩, ⟨h3, h4⟩, h5, h6⟩ := h
  have hv := hW.alike
  refine ⟨⟨t, ?_, ?_⟩, ⟨?_, ?_⟩, fun q hq => ?_, h6.pass hW⟩
  · exact va_Z.narrow (va_Z.kept (va_Z.moved hv h1) hq) hAB
  · exact va_T.narrow (va_T.kept (va_T.moved hv h2) hq) hAB
  · exact vx_Zq.narrow (vx_Zq.kept (vx_Zq.moved hv h3) hq) hAB
  · exact vx_Zq.narrow (vx_Zq.kept (vx_Zq.moved hv h4) hq) hAB
  · obtain ⟨a, ha⟩ := h5 q hq
    exact ⟨a, vk_R.warm hW ha⟩
theorem ZZ.calling {A : Nat → Prop} {U : State} {g : JFrame} {mk : MethodId} {a : Array Value} (h : ZZ A U U.heap) : ZZ A (U.calling g mk a) (U.calling g mk a).heap := by
  obtain ⟨⟨t, h1, h2⟩, ⟨h3, h4⟩, h5, h6⟩ := h
  refine ⟨⟨t, ?_, ?_⟩, ⟨?_, ?_⟩, fun q hq => ?_, ZT.same (u := U) rfl h6⟩
  · exact va_Z.moved (u := U) (U := U.calling g mk a) (Vm.Alike.refl U.vm) h1
  · exact va_T.moved (u := U) (U := U.calling g mk a) (Vm.Alike.refl U.vm) h2
  · exact vx_Zq.moved (u := U) (U := U.calling g mk a) (Vm.Alike.refl U.vm) h3
  · exact vx_Zq.moved (u := U) (U := U.calling g mk a) (Vm.Alike.refl U.vm) h4
  · obtain ⟨a, ha⟩ := h5 q hq
    exact ⟨a, vk_R.same (u := U) rfl ha⟩
/-- the world inside a method's body -/
def PW (D : va_G) (G : Nat → ClassId) (A : Nat → Prop) (s : State) (ad : Nat → Nat) (N : Nat) (c : Nat → va_E) (H : Heap) (locs : List Loc) : Prop :=
  va_K D vwCl (tysG G) s ∧ va_P D vwCl (wl ad N c) H ∧ va_D A (wl ad N c) ∧ va_S A s.heap H locs ∧ (∀ q, s.heap.size ≤ q → A q) ∧ ZZ A s s.heap
/-- the world at a method's start, and at its end -/
def wPre (D : va_G) (G : Nat → ClassId) (ad : Nat → Nat) (N : Nat) (c : Nat → va_E) (sz : Nat) : State → Prop := fun U =>
  U.heap.size = sz ∧ va_P D vwCl (wl ad N c) U.heap ∧ va_K D vwCl (tysG G) U ∧ va_D (fun _ => True) (wl ad N c) ∧ ZZ (va_A (wl ad N c) sz) U U.heap
abbrev wX : Type := (Nat → Nat) × Nat × (Nat → va_E)
def wAt (D : va_G) (G : Nat → ClassId) (A : Nat → Prop) (u : wX) (t : State) : Prop :=
  va_P D vwCl (wl u.1 u.2.1 u.2.2) t.heap ∧ va_K D vwCl (tysG G) t ∧ va_D A (wl u.1 u.2.1 u.2.2)
abbrev qI (D : va_G) (G : Nat → ClassId) {S : Type} (ext : S → wX) (post : Int32 → S → Prop) : (Nat → Prop) → Array Value → State → Outcome → State → Prop := fun A => va_Qi post (fun u t => wAt D G A (ext u) t) A
abbrev qF (D : va_G) (G : Nat → ClassId) {S : Type} (ext : S → wX) (post : UInt32 → S → Prop) : (Nat → Prop) → Array Value → State → Outcome → State → Prop := fun A => va_Qf post (fun u t => wAt D G A (ext u) t) A
abbrev qV (D : va_G) (G : Nat → ClassId) {S : Type} (ext : S → wX) (post : S → Prop) : (Nat → Prop) → Array Value → State → Outcome → State → Prop := fun A => va_Qv post (fun u t => wAt D G A (ext u) t) A
abbrev qR (D : va_G) (G : Nat → ClassId) {S : Type} (ext : S → wX) (post : Nat → S → Prop) : (Nat → Prop) → Array Value → State → Outcome → State → Prop := fun A => va_Qr (fun _ => True) (fun u a t => post a u ∧ wAt D G A (ext u) t) A
/-- a method's contract: it returns -/
def MC (l : Launch) (y : MethodName) (ws : List Cond) (rm : Room) (as : List Value) (D : va_G) (G : Nat → ClassId) (ad : Nat → Nat) (N : Nat) (c : Nat → va_E) (Qf : (Nat → Prop) → Array Value → State → Outcome → State → Prop) (mc ms : Nat) : Prop :=
  ∀ sz : Nat, Met l y ws rm (va_Pc as (wPre D G ad N c sz)) (Qf (va_A (wl ad N c) sz)) mc ms (va_A (wl ad N c) sz)
/-- a method's contract: it throws E0 -/
def qX (D : va_G) (G : Nat → ClassId) (E0 : String) {S : Type} (ext : S → wX) (px : S → Prop) (A : Nat → Prop) : String → State → State → Prop := fun E st t => E = E0 ∧ ∃ u : S, px u ∧ wAt D G A (ext u) t ∧ va_F A st t
def MX (l : Launch) (y : MethodName) (ws : List Cond) (rm : Room) (as : List Value) (D : va_G) (G : Nat → ClassId) (ad : Nat → Nat) (N : Nat) (c : Nat → va_E) (E0 : String) {S : Type} (ext : S → wX) (px : S → Prop) (mc ms : Nat) : Prop :=
  ∀ sz : Nat, vx_Met l y ws rm (va_Pc as (wPre D G ad N c sz)) (fun _ _ _ _ => False) (qX D G E0 ext px (va_A (wl ad N c) sz)) mc ms (va_A (wl ad N c) sz)
theorem MC.of {l : Launch} {y : MethodName} {ws ws' : List Cond} {rm : Room} {as : List Value} {D : va_G} {G : Nat → ClassId} {ad : Nat → Nat} {N : Nat} {c : Nat → va_E} {Qf : (Nat → Prop) → Array Value → State → Outcome → State → Prop} {mc ms : Nat} {cc : ByteArray} {maxL : Nat} {ret : Option FieldType}
    (hy : plainName y.cls = true) (hw : ws = Cond.code y cc maxL ret :: ws') (hlen : (lg_sl as).length ≤ maxL)
    (body : ∀ (p : Program) (e : Env) (s : State) (m : MethodId) (below : List Frame) (meth : Method) (k : Code) (A : Nat → Prop), p.tables.exec = Jvm.exec → k.code = cc → meth.sig.returnType = ret → (∀ w ∈ ws, w.before as.toArray s = true) → s.vm.findClass y.cls = some m.cls → k.maxLocals = maxL → meth.locks = false → meth.name = y.name →
      PW D G A s ad N c s.heap [] → ∀ ls : Array Slot, lv_has ls maxL (lv_args 0 as) → W p l e rm s m as.toArray below meth k s.heap [] 0 0 (MQ below (Qf A) as.toArray s mc ms A) (F0 m 0 ls [])) : MC l y ws rm as D G ad N c Qf mc ms := by
  intro sz
  refine Met.ofW (cc := cc) (maxL := maxL) (ret := ret) hy hw ?_
  intro p e s m args below meth k s₁ B hml hv
  obtain ⟨rfl, hsz, hP, hK, hD, hZ⟩ := hv
  subst hsz
  have hl := lv_entry as hlen
  rw [lg_entry_eq]
  generalize (lg_sl as ++ List.replicate (maxL - (lg_sl as).length) Slot.unset).toArray = ls at hl ⊢
  exact body p e s m below meth k _ B.exec B.bytes B.returns (atoms_spec (ws := ws) B.pre) (findClass_of_methodNamed B.named) hml B.notSynchronized (name_of_methodNamed B.named B.method).1 ⟨hK, hP, hD.self, va_S.rf, fun q h => Or.inr h, hZ⟩ ls hl
theorem MX.of {l : Launch} {y : MethodName} {ws ws' : List Cond} {rm : Room} {as : List Value} {D : va_G} {G : Nat → ClassId} {ad : Nat → Nat} {N : Nat} {c : Nat → va_E} {E0 : String} {S : Type} {ext : S → wX} {px : S → Prop} {mc ms : Nat} {cc : ByteArray} {maxL : Nat} {ret : Option FieldType}
    (hy : plainName y.cls = true) (hw : ws = Cond.code y cc maxL ret :: ws') (hlen : (lg_sl as).length ≤ maxL)
    (body : ∀ (p : Program) (e : Env) (s : State) (m : MethodId) (below : List Frame) (meth : Method) (k : Code) (A : Nat → Prop), p.tables.exec = Jvm.exec → k.code = cc → meth.sig.returnType = ret → (∀ w ∈ ws, w.before as.toArray s = true) → s.vm.findClass y.cls = some m.cls → k.maxLocals = maxL → meth.locks = false → (∀ x ∈ k.exceptionTable.toList, False) →
      PW D G A s ad N c s.heap [] → ∀ ls : Array Slot, lv_has ls maxL (lv_args 0 as) → W p l e rm s m as.toArray below meth k s.heap [] 0 0 (vx_MQ below (fun _ _ _ _ => False) (qX D G E0 ext px A) as.toArray s mc ms A) (F0 m 0 ls [])) : MX l y ws rm as D G ad N c E0 ext px mc ms := by
  intro sz
  refine vx_ofW (cc := cc) (maxL := maxL) (ret := ret) hy hw ?_
  intro p e s m args below meth k s₁ B hml hno hv
  obtain ⟨rfl, hsz, hP, hK, hD, hZ⟩ := hv
  subst hsz
  have hl := lv_entry as hlen
  rw [lg_entry_eq]
  generalize (lg_sl as ++ List.replicate (maxL - (lg_sl as).length) Slot.unset).toArray = ls at hl ⊢
  exact body p e s m below meth k _ B.exec B.bytes B.returns (atoms_spec (ws := ws) B.pre) (findClass_of_methodNamed B.named) hml B.notSynchronized hno ⟨hK, hP, hD.self, va_S.rf, fun q h => Or.inr h, hZ⟩ ls hl
theorem wPre.blind {as : List Value} {D : va_G} {G : Nat → ClassId} {ad : Nat → Nat} {N : Nat} {c : Nat → va_E} {sz : Nat} : FrameBlind (va_Pc as (wPre D G ad N c sz)) := by
  intro a U g mk q
  obtain ⟨q0, q1, qP, qK, qD, qZ⟩ := q
  exact ⟨q0, q1, qP, va_K.moved (u := U) (U := U.calling g mk a) (Vm.Alike.refl U.vm) qK, qD, ZZ.calling qZ⟩
theorem PW.sub {D : va_G} {G : Nat → ClassId} {A : Nat → Prop} {s : State} {ad : Nat → Nat} {N : Nat} {c : Nat → va_E} {H : Heap} {locs : List Loc} (w : PW D G A s ad N c H locs) : ∀ q, va_A (wl ad N c) H.size q → A q := by
  obtain ⟨hK, hP, hD, hS, hA, hZ⟩ := w
  rintro q (⟨j, e, h⟩ | h)
  · exact hD.2 j _ h
  · exact hA q (Nat.le_trans hS.1 h)
theorem PW.pre {D : va_G} {G : Nat → ClassId} {A : Nat → Prop} {s U : State} {ad : Nat → Nat} {N : Nat} {c : Nat → va_E} {H : Heap} {locs : List Loc} (w : PW D G A s ad N c H locs) (hU : U.heap = H) (hW : s.WarmedH U.vm) : wPre D G ad N c H.size U := by
  have hsub := w.sub
  obtain ⟨hK, hP, hD, hS, hA, hZ⟩ := w
  exact ⟨by rw [hU], by rw [hU]; exact hP, va_K.moved hW.alike hK, hD.weaken (fun _ _ _ _ => trivial), hZ.pass hW (fun a h1 h2 => by rw [hU]; exact hS.2.1 a h1 h2) hsub⟩
