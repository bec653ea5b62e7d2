/-! OURS: two desks in one heap; numbers of the law -/
/-- a state's numbers: limit, ornaments, draft, graces, notes, wishes -/
abbrev PT : Type := Int × Nat × Nat × (Nat → Nat) × (Nat → Nat → Nat) × (Nat → Nat) × (Nat → Nat) × (Nat → Nat → Nat) × (Nat → Nat → Nat) × (Nat → Nat → Int)
def DKt (G : Nat → ClassId) (ad : Nat → Nat) (c : Nat → va_E) (P : PT) : Prop := DK G ad c P.1 P.2.1 P.2.2.1 P.2.2.2.1 P.2.2.2.2.1 P.2.2.2.2.2.1 P.2.2.2.2.2.2.1 P.2.2.2.2.2.2.2.1 P.2.2.2.2.2.2.2.2.1 P.2.2.2.2.2.2.2.2.2
def SVt (P : PT) : Prop := SV P.1 P.2.1 P.2.2.1 P.2.2.2.1 P.2.2.2.2.1 P.2.2.2.2.2.1 P.2.2.2.2.2.2.1 P.2.2.2.2.2.2.2.1 P.2.2.2.2.2.2.2.2.1 P.2.2.2.2.2.2.2.2.2
/-- what a call leaves: its answer, the desk where it lay, its new numbers -/
def hP (G : Nat → ClassId) (ad : Nat → Nat) (told : Int) (P : PT) : Int32 → wX → Prop := fun v u => v = zI told ∧ u.2.1 = 120 + 2 * P.2.1 ∧ u.1 0 = ad 0 ∧ DKt G u.1 u.2.2 P
abbrev wI : wX → wX := fun u => u
/-- the low bits of a number, by n -/
def lwF (x : Int32) (n : Int) : Int := ((x &&& zI 2147483647) - (x &&& zI 2147483647) / zI n * zI n).toInt
theorem lw_nn (x : Int32) : 0 ≤ (x &&& zI 2147483647).toInt := by
  have h : (x &&& zI 2147483647).toBitVec.msb = false := by
    rw [Int32.toBitVec_and, BitVec.msb_and, show (zI 2147483647).toBitVec.msb = false from by decide, Bool.and_false]
  exact BitVec.toInt_nonneg_of_msb_false h
theorem lwF_bd (x : Int32) {n : Int} (h0 : 0 < n) (hn : n < 2147483648) : 0 ≤ lwF x n ∧ lwF x n < n := by
  unfold lwF
  have hu := lw_nn x
  generalize x &&& zI 2147483647 = u at hu ⊢
  obtain ⟨U, hb, rfl⟩ := zI_of u
  rw [zI_toInt hb] at hu
  have e1 : zI U / zI n = zI (U / n) := by
    have h := Int32.ofInt_tdiv (a := U) (b := n) (by have := hb.1; show (-2147483648 : Int) ≤ U; omega) (by have := hb.2; show U ≤ (2147483647 : Int); omega) (by show (-2147483648 : Int) ≤ n; omega) (by show n ≤ (2147483647 : Int); omega)
    rw [Int.tdiv_eq_ediv_of_nonneg hu] at h
    exact h.symm
  have h1 := Int.emod_nonneg U (show n ≠ 0 by omega)
  have h2 := Int.emod_lt_of_pos U h0
  have h3 : U - U / n * n = U % n := by
    have := Int.emod_add_mul_ediv U n
    rw [Int.mul_comm] at this
    omega
  rw [e1, zI_mul, zI_sub, h3, zI_toInt ⟨by omega, by omega⟩]
  exact ⟨h1, h2⟩
theorem lwF_z (x : Int32) (n : Int) : (x &&& zI 2147483647) - (x &&& zI 2147483647) / zI n * zI n = zI (lwF x n) := (Int32.ofInt_toInt _).symm
theorem zI_n0 {n : Int} (h0 : 0 < n) (hn : n < 2147483648) : ¬ zI n = 0 := fun h => by
  have := (zI_eq (a := n) ⟨by omega, hn⟩ bnd_0).mp (by rw [h, zI_0])
  omega
/-! two worlds, apart -/
section PZS
variable {D : va_G} {G : Nat → ClassId} {A : Nat → Prop} {s : State} {H : Heap} {locs : List Loc}
def PZ (D : va_G) (G : Nat → ClassId) (A : Nat → Prop) (s : State) (x1 x2 : wX) (H : Heap) (locs : List Loc) : Prop :=
  PW D G A s x1.1 x1.2.1 x1.2.2 H locs ∧ PW D G A s x2.1 x2.2.1 x2.2.2 H locs ∧ ∀ i j, i < x1.2.1 → j < x2.2.1 → x1.1 i ≠ x2.1 j
theorem PZ.symm {x1 x2 : wX} (z : PZ D G A s x1 x2 H locs) : PZ D G A s x2 x1 H locs := ⟨z.2.1, z.1, fun i j hi hj h => z.2.2 j i hj hi h.symm⟩
theorem PW.hold {ad : Nat → Nat} {N : Nat} {c : Nat → va_E} {H1 : Heap} {locs1 : List Loc} (w : PW D G A s ad N c H locs) (hk : ∀ j, j < N → H1[ad j]? = H[ad j]?) (hS : va_S A s.heap H1 locs1) : PW D G A s ad N c H1 locs1 := by
  obtain ⟨hK, hP, hD, -, hA, hZ⟩ := w
  exact ⟨hK, hP.kept (fun j q hq => by obtain ⟨hj, rfl⟩ := wl_inv hq; exact hk j hj), hD, hS, hA, hZ⟩
theorem PW.lt {ad : Nat → Nat} {N : Nat} {c : Nat → va_E} (w : PW D G A s ad N c H locs) {j : Nat} (hj : j < N) : ad j < H.size := (w.2.1 j _ (wl_get hj)).lt
theorem PZ.back {x1 x2 x : wX} {t : State} {H1 : Heap} {locs1 : List Loc} (z : PZ D G A s x1 x2 H locs) (ht : t.heap = H1) (hvm : s.vm.Alike t.vm) (hB : wAt D G (va_A (wl x1.1 x1.2.1 x1.2.2) H.size) x t) (hk : ∀ q : Nat, q < H.size → ¬ va_A (wl x1.1 x1.2.1 x1.2.2) H.size q → H1[q]? = H[q]?) (hS : va_S A s.heap H1 locs1) : PZ D G A s x x2 H1 locs1 := by
  obtain ⟨w1, w2, hd⟩ := z
  have hout : ∀ j, j < x2.2.1 → ¬ va_A (wl x1.1 x1.2.1 x1.2.2) H.size (x2.1 j) := by
    intro j hj hA
    rcases hA with ⟨k, e, hk9⟩ | h9
    · obtain ⟨hk1, he⟩ := wl_inv hk9
      exact hd k j hk1 hj (congrArg Prod.fst he).symm
    · exact absurd (w2.lt hj) (Nat.not_lt.mpr h9)
  refine ⟨w1.back ht hvm hB hS, w2.hold (fun j hj => hk _ (w2.lt hj) (hout j hj)) hS, fun i j hi hj h => ?_⟩
  have h1 := hB.2.2.2 i _ (wl_get hi)
  exact hout j hj (by rw [← h]; exact h1)
/-- nothing old is written -/
theorem PZ.hold {x1 x2 : wX} {H1 : Heap} {locs1 : List Loc} (z : PZ D G A s x1 x2 H locs) (hk : ∀ q : Nat, q < H.size → H1[q]? = H[q]?) (hS : va_S A s.heap H1 locs1) : PZ D G A s x1 x2 H1 locs1 :=
  ⟨z.1.hold (fun j hj => hk _ (z.1.lt hj)) hS, z.2.1.hold (fun j hj => hk _ (z.2.1.lt hj)) hS, z.2.2⟩
/-- a world's last cell as a world of its own -/
theorem PW.split {ad : Nat → Nat} {N : Nat} {c : Nat → va_E} (w : PW D G A s ad (N + 1) c H locs) : PZ D G A s (ad, N, c) ((fun _ => ad N), 1, (fun _ => c N)) H locs := by
  obtain ⟨hK, hP, hD, hS, hA, hZ⟩ := w
  have hg : ∀ (k : Nat) (q : Nat × va_E), (wl ad N c)[k]? = some q → (wl ad (N + 1) c)[k]? = some q := fun k q hq => by
    obtain ⟨hk, rfl⟩ := wl_inv hq
    exact wl_get (by omega)
  have hg1 : ∀ (k : Nat) (q : Nat × va_E), (wl (fun _ => ad N) 1 (fun _ => c N))[k]? = some q → (wl ad (N + 1) c)[N]? = some q := fun k q hq => by
    obtain ⟨hk, rfl⟩ := wl_inv hq
    exact wl_get (by omega)
  refine ⟨⟨hK, fun k q hq => hP k q (hg k q hq), ⟨fun i j p q hi hj h => hD.1 i j p q (hg i p hi) (hg j q hj) h, fun k q hq => hD.2 k q (hg k q hq)⟩, hS, hA, hZ⟩, ⟨hK, fun k q hq => hP N q (hg1 k q hq), ⟨fun i j p q hi hj _ => by
    have h1 : i < 1 := (wl_inv hi).1
    have h2 : j < 1 := (wl_inv hj).1
    omega, fun k q hq => hD.2 N q (hg1 k q hq)⟩, hS, hA, hZ⟩, fun i j hi hj h => ?_⟩
  have h1 : i < N := hi
  have := hD.1 i N _ _ (wl_get (show i < N + 1 by omega)) (wl_get (Nat.lt_succ_self N)) h
  omega
end PZS
section PZC
variable {p : Program} {l : Launch} {e : Env} {R : Room} {s : State} {m : MethodId} {args : Array Value} {below : List Frame} {meth : Method} {k : Code} {H : Heap} {locs : List Loc} {cells slots : Nat} {Q : State → Prop}
variable {pc : Nat} {ls : Array Slot} {rest st0 : List Value} {D : va_G} {G : Nat → ClassId} {A : Nat → Prop}
/-- behind a call over the first world -/
theorem pz_ci {S : Type} {ext : S → wX} {post : Int32 → S → Prop} {mc ms : Nat} {a : Array Value} {x1 x2 : wX} (z : PZ D G A s x1 x2 H locs) (hr : va_Run p l e R s m args below meth k H locs cells slots mc ms (F0 m pc ls st0) rest (qI D G ext post (va_A (wl x1.1 x1.2.1 x1.2.2) H.size) a) (va_A (wl x1.1 x1.2.1 x1.2.2) H.size))
    (kk : ∀ (r : Int32) (u : S) (H1 : Heap) (locs1 : List Loc), post r u → PZ D G A s (ext u) x2 H1 locs1 → W p l e R s m args below meth k H1 locs1 (cells + mc) (slots + ms) Q (F0 m (pc + 3) ls (.int r :: rest))) : W p l e R s m args below meth k H locs cells slots Q (F0 m pc ls st0) :=
  va_calli hr z.1.2.2.2.1 (fun q _ h => z.1.sub q h) z.1.sub (fun r u t H1 locs1 ht hvm hw hB _ hk hS => kk r u H1 locs1 hw (z.back ht hvm hB hk hS))
theorem pz_cv {S : Type} {ext : S → wX} {post : S → Prop} {mc ms : Nat} {a : Array Value} {x1 x2 : wX} (z : PZ D G A s x1 x2 H locs) (hr : va_Run p l e R s m args below meth k H locs cells slots mc ms (F0 m pc ls st0) rest (qV D G ext post (va_A (wl x1.1 x1.2.1 x1.2.2) H.size) a) (va_A (wl x1.1 x1.2.1 x1.2.2) H.size))
    (kk : ∀ (u : S) (H1 : Heap) (locs1 : List Loc), post u → PZ D G A s (ext u) x2 H1 locs1 → W p l e R s m args below meth k H1 locs1 (cells + mc) (slots + ms) Q (F0 m (pc + 3) ls rest)) : W p l e R s m args below meth k H locs cells slots Q (F0 m pc ls st0) :=
  va_callv hr z.1.2.2.2.1 (fun q _ h => z.1.sub q h) z.1.sub (fun u t H1 locs1 ht hvm hw hB _ hk hS => kk u H1 locs1 hw (z.back ht hvm hB hk hS))
end PZC
/-! a contract over both worlds -/
def A2 (x1 x2 : wX) (sz : Nat) : Nat → Prop := fun q => va_A (wl x1.1 x1.2.1 x1.2.2) sz q ∨ va_A (wl x2.1 x2.2.1 x2.2.2) sz q
def wPre2 (D : va_G) (G : Nat → ClassId) (x1 x2 : wX) (sz : Nat) : State → Prop := fun U =>
  U.heap.size = sz ∧ va_K D vwCl (tysG G) U ∧ (va_P D vwCl (wl x1.1 x1.2.1 x1.2.2) U.heap ∧ va_D (fun _ => True) (wl x1.1 x1.2.1 x1.2.2)) ∧ (va_P D vwCl (wl x2.1 x2.2.1 x2.2.2) U.heap ∧ va_D (fun _ => True) (wl x2.1 x2.2.1 x2.2.2)) ∧ (∀ i j, i < x1.2.1 → j < x2.2.1 → x1.1 i ≠ x2.1 j) ∧ ZZ (A2 x1 x2 sz) U U.heap
/-- both worlds behind it: the cells may have changed, their places not -/
abbrev cc2 : Type := (Nat → va_E) × (Nat → va_E)
def wAt2 (D : va_G) (G : Nat → ClassId) (x1 x2 : wX) (u : cc2) (t : State) : Prop := va_K D vwCl (tysG G) t ∧ va_P D vwCl (wl x1.1 x1.2.1 u.1) t.heap ∧ va_P D vwCl (wl x2.1 x2.2.1 u.2) t.heap
def MC2 (l : Launch) (y : MethodName) (ws : List Cond) (rm : Room) (as : List Value) (D : va_G) (G : Nat → ClassId) (x1 x2 : wX) (post : Int32 → cc2 → Prop) (mc ms : Nat) : Prop :=
  ∀ sz : Nat, Met l y ws rm (va_Pc as (wPre2 D G x1 x2 sz)) (va_Qi post (fun u t => wAt2 D G x1 x2 u t) (A2 x1 x2 sz)) mc ms (A2 x1 x2 sz)
theorem wPre2.blind {as : List Value} {D : va_G} {G : Nat → ClassId} {x1 x2 : wX} {sz : Nat} : FrameBlind (va_Pc as (wPre2 D G x1 x2 sz)) := by
  intro a U g mk q
  obtain ⟨q0, q1, qK, qP, q2, qd, qZ⟩ := q
  exact ⟨q0, q1, va_K.moved (u := U) (U := U.calling g mk a) (Vm.Alike.refl U.vm) qK, qP, q2, qd, ZZ.calling qZ⟩
theorem PZ.sub2 {D : va_G} {G : Nat → ClassId} {A : Nat → Prop} {s : State} {H : Heap} {locs : List Loc} {x1 x2 : wX} (z : PZ D G A s x1 x2 H locs) : ∀ q, A2 x1 x2 H.size q → A q := fun q h => h.elim (z.1.sub q) (z.2.1.sub q)
theorem PZ.pre {D : va_G} {G : Nat → ClassId} {A : Nat → Prop} {s U : State} {H : Heap} {locs : List Loc} {x1 x2 : wX} (z : PZ D G A s x1 x2 H locs) (hU : U.heap = H) (hW : s.WarmedH U.vm) : wPre2 D G x1 x2 H.size U := by
  have hsub := z.sub2
  obtain ⟨⟨hK, hP, hD, hS, hA, hZ⟩, ⟨-, hP2, hD2, -, -, -⟩, hd⟩ := z
  exact ⟨by rw [hU], va_K.moved hW.alike hK, ⟨by rw [hU]; exact hP, hD.weaken (fun _ _ _ _ => trivial)⟩, ⟨by rw [hU]; exact hP2, hD2.weaken (fun _ _ _ _ => trivial)⟩, hd, hZ.pass hW (fun a h1 h2 => by rw [hU]; exact hS.2.1 a h1 h2) hsub⟩
theorem wl_Dto {A : Nat → Prop} {ad : Nat → Nat} {N : Nat} {c c' : Nat → va_E} (h : va_D A (wl ad N c)) : va_D A (wl ad N c') := by
  refine ⟨fun i j p q hi hj hpq => ?_, fun k q hq => ?_⟩
  · obtain ⟨hi1, rfl⟩ := wl_inv hi
    obtain ⟨hj1, rfl⟩ := wl_inv hj
    exact h.1 i j _ _ (wl_get hi1) (wl_get hj1) hpq
  · obtain ⟨hk1, rfl⟩ := wl_inv hq
    exact h.2 k (ad k, c k) (wl_get hk1)
section PZ2
variable {p : Program} {l : Launch} {e : Env} {R : Room} {s : State} {m : MethodId} {args : Array Value} {below : List Frame} {meth : Method} {k : Code} {H : Heap} {locs : List Loc} {cells slots : Nat} {Q : State → Prop}
variable {cc : ByteArray} {pc : Nat} {ls : Array Slot} {rest st0 : List Value} {D : va_G} {G : Nat → ClassId} {A : Nat → Prop}
theorem pz_runS {own : String} {index maxL mc ms n nL : Nat} {y : MethodName} {bytes : ByteArray} {ret : Option FieldType} {wsY Ts : List Cond} {rmY : Room} {post : Int32 → cc2 → Prop} {As : List Value} {x1 x2 : wX} (z : PZ D G A s x1 x2 H locs) (S : CallFix p m k cc nL s args Ts own) (hM : MC2 l y wsY rmY As D G x1 x2 post mc ms) (cw : CallB R s args own index y bytes maxL ret wsY rmY mc ms n ∧ (Cond.static y).before args s = true) (hn : As.length = n) (hsize : ls.size = nL) (hst : st0 = As.reverse ++ rest) (hW : 2 * (F0 m pc ls st0).monitorRoom + (rest.map fun v => v.category).sum ≤ 8) (hdg : decode cc pc = .ok (.invokestatic index, 3)) (hf : cells + mc ≤ R.cells ∧ slots + ms ≤ R.slots) :
    va_Run p l e R s m args below meth k H locs cells slots mc ms (F0 m pc ls st0) rest (va_Qi post (fun u t => wAt2 D G x1 x2 u t) (A2 x1 x2 H.size) As.toArray) (A2 x1 x2 H.size) :=
  va_runS S (hM H.size) cw ⟨wPre2.blind, fun U hU hW => ⟨rfl, z.pre hU hW⟩⟩ rfl hn hsize hst hW hdg hf
/-- behind a call over both worlds -/
theorem pz_c2 {post : Int32 → cc2 → Prop} {mc ms : Nat} {a : Array Value} {x1 x2 : wX} (z : PZ D G A s x1 x2 H locs) (hr : va_Run p l e R s m args below meth k H locs cells slots mc ms (F0 m pc ls st0) rest (va_Qi post (fun u t => wAt2 D G x1 x2 u t) (A2 x1 x2 H.size) a) (A2 x1 x2 H.size))
    (kk : ∀ (r : Int32) (u : cc2) (H1 : Heap) (locs1 : List Loc), post r u → PZ D G A s (x1.1, x1.2.1, u.1) (x2.1, x2.2.1, u.2) H1 locs1 → W p l e R s m args below meth k H1 locs1 (cells + mc) (slots + ms) Q (F0 m (pc + 3) ls (.int r :: rest))) : W p l e R s m args below meth k H locs cells slots Q (F0 m pc ls st0) :=
  va_calli hr z.1.2.2.2.1 (fun q _ h => z.sub2 q h) z.sub2 (fun r u t H1 locs1 ht hvm hw hB _ _ hS => kk r u H1 locs1 hw (by
    obtain ⟨b1, b2, b3⟩ := hB
    rw [ht] at b2 b3
    exact ⟨⟨va_K.moved hvm.symm b1, b2, wl_Dto z.1.2.2.1, hS, z.1.2.2.2.2.1, z.1.2.2.2.2.2⟩, ⟨va_K.moved hvm.symm b1, b3, wl_Dto z.2.1.2.2.1, hS, z.1.2.2.2.2.1, z.1.2.2.2.2.2⟩, z.2.2⟩))
end PZ2
section PZ3
variable {l : Launch} {y : MethodName} {ws ws' : List Cond} {rm : Room} {as : List Value} {D : va_G} {G : Nat → ClassId} {x1 x2 : wX} {mc ms : Nat} {cc : ByteArray} {maxL : Nat}
theorem MC2.of {post : Int32 → cc2 → Prop} (hy : plainName y.cls = true) (hw : ws = Cond.code y cc maxL (some .boolean) :: ws') (hlen : (lg_sl as).length ≤ maxL)
    (body : ∀ (p : Program) (e : Env) (s : State) (m : MethodId) (args : Array Value) (below : List Frame) (meth : Method) (k : Code) (A : Nat → Prop) (Q : State → Prop), p.tables.exec = Jvm.exec → k.code = cc → (∀ w ∈ ws, w.before args s = true) → s.vm.findClass y.cls = some m.cls → k.maxLocals = maxL →
      (∀ (u : cc2) (v : Int32) (H : Heap) (locs : List Loc) (cells slots pc : Nat) (ls : Array Slot), (v = zI 0 ∨ v = zI 1) → post v u → PZ D G A s (x1.1, x1.2.1, u.1) (x2.1, x2.2.1, u.2) H locs → decode cc pc = .ok (.ireturn, 1) → cells ≤ mc → slots ≤ ms → W p l e rm s m args below meth k H locs cells slots Q (F0 m pc ls [.int v])) →
      ∀ (H : Heap) (locs : List Loc), PZ D G A s x1 x2 H locs → ∀ ls : Array Slot, lv_has ls maxL (lv_args 0 as) → W p l e rm s m args below meth k H locs 0 0 Q (F0 m 0 ls [])) : MC2 l y ws rm as D G x1 x2 post mc ms := by
  intro sz
  refine Met.ofW (cc := cc) (maxL := maxL) (ret := some .boolean) hy hw ?_
  intro p e s m args below meth k s₁ B hml hv
  obtain ⟨rfl, hsz, hK, ⟨hP, hD⟩, ⟨hP2, hD2⟩, hd, hZ⟩ := hv
  subst hsz
  have hl := lv_entry as hlen
  rw [lg_entry_eq]
  generalize (lg_sl as ++ List.replicate (maxL - (lg_sl as).length) Slot.unset).toArray = ls at hl ⊢
  refine body p e s m _ below meth k (A2 x1 x2 s.heap.size) _ B.exec B.bytes (atoms_spec (ws := ws) B.pre) (findClass_of_methodNamed B.named) hml (fun u v H locs cells slots pc ls hv hp z hdg hc hs => ?_) _ _ ⟨⟨hK, hP, hD.self.weaken (fun _ _ _ h => Or.inl h), va_S.rf, fun q h => Or.inl (Or.inr h), hZ⟩, ⟨hK, hP2, hD2.self.weaken (fun _ _ _ h => Or.inr h), va_S.rf, fun q h => Or.inl (Or.inr h), hZ⟩, hd⟩ ls hl
  refine W.widen hc hs ?_
  refine W.zret B.exec B.bytes B.returns (ty := .boolean) (by rcases hv with h | h <;> (rw [h]; decide +kernel)) (fun t ht hW => ⟨⟨v, u, rfl, hp, ?_⟩, z.1.2.2.2.1.F ht⟩) z.1.2.2.2.1.2.2 hdg B.notSynchronized
  exact ⟨va_K.moved hW.alike z.1.1, by rw [ht]; exact z.1.2.1, by rw [ht]; exact z.2.1.2.1⟩
end PZ3
