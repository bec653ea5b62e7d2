/-! OURS: new cells are pushed at N; the addresses of the older ones stay -/
section AL
variable {p : Program} {l : Launch} {e : Env} {R : Room} {s : State} {m : MethodId} {args : Array Value} {below : List Frame} {meth : Method} {k : Code} {H : Heap} {locs : List Loc} {cells slots : Nat} {Q : State → Prop}
variable {cc : ByteArray} {pc : Nat} {ls : Array Slot} {rest : List Value} {D : va_G} {G : Nat → ClassId} {A : Nat → Prop} {ad : Nat → Nat} {N : Nat} {c : Nat → va_E}
theorem pw_new {own C : String} {T : u_T} {Nf ci index : Nat} {Ts : List Cond} (hx : p.tables.exec = Jvm.exec) (hb : k.code = cc) (w : PW D G A s ad N c H locs) (hts : ∀ w ∈ Ts, w.before args s = true) (hin : ∀ w ∈ u_ws C T Nf, w ∈ Ts) (ty0 : Nat → FieldType) (hty : ∀ k, k < Nf → parseFieldDescriptor (T k).2.2.1 = some (ty0 k)) (hown : s.vm.findClass own = some m.cls) (hcl : (Cond.classLink own index C).before args s = true) (hinst : (Cond.instantiable C Nf).before args s = true) (hini : (Cond.initialized C).before args s = true) (hc : vwCl[ci]? = some (C, T, Nf)) {fs : List Value} (hfs : ∀ j, j < Nf → defaultValue (ty0 j) = vp_V fs j) (hcells : cells + 1 ≤ R.cells) (hslots : slots + Nf ≤ R.slots) (hdg : decode cc pc = .ok (.new index, 3))
    (kk : ∀ (H1 : Heap) (ad1 : Nat → Nat) (c1 : Nat → va_E), (∀ r, r < N → ad1 r = ad r) → c1 N = .inr (ci, fs) → (∀ r, r ≠ N → c1 r = c r) → PW D G A s ad1 (N + 1) c1 H1 locs → W p l e R s m args below meth k H1 locs (cells + 1) (slots + Nf) Q (F0 m (pc + 3) ls (.ref (ad1 N) :: rest))) : W p l e R s m args below meth k H locs cells slots Q (F0 m pc ls rest) := by
  refine va_new (D := D) (ci := ci) (fs := fs) hx hb hts hin ty0 hty hown hcl hinst hini w.1 w.2.1 w.2.2.1 w.2.2.2.1 w.2.2.2.2.1 hc hfs hcells hslots hdg (fun q H1 hP hD hS => ?_)
  rw [wl_push] at hP hD
  have h := kk H1 (va_up ad N q) (va_up c N (.inr (ci, fs))) (fun r hr => va_up_ne _ _ (by omega)) (va_up_self _ _ _) (fun r hr => va_up_ne _ _ hr) ⟨w.1, hP, hD, hS, w.2.2.2.2.1, w.2.2.2.2.2⟩
  rw [va_up_self] at h
  exact h
theorem pw_newa (kd : Nat) {atype : ArrayType} {ty : FieldType} (hx : p.tables.exec = Jvm.exec) (hb : k.code = cc) (w : PW D G A s ad N c H locs) (hty : newarray.typeOf atype = ty) (harr : (Cond.arrayClass ty).before args s = true) (ht : (tysG G)[kd]? = some (G kd, ty)) (hra : ∀ cA, va_RA s cA ty → s.vm.findClass ("[" ++ ty.toString) = some cA) {z : Int} {n : Nat} (hz : z = (n : Int)) (hn : n < 100000) {a0 : vp_A} (ha : ∀ cA : ClassId, vp_cell cA (n, a0.2) = arrV cA n (fun _ => defaultValue ty)) (hby : n * componentBytes ty ≤ 536870912) (hcells : cells + 1 ≤ R.cells) (hslots : slots + n ≤ R.slots) (hdg : decode cc pc = .ok (.newarray atype, 2))
    (kk : ∀ (H1 : Heap) (ad1 : Nat → Nat) (c1 : Nat → va_E), (∀ r, r < N → ad1 r = ad r) → c1 N = .inl (G kd, n, a0.2) → (∀ r, r ≠ N → c1 r = c r) → PW D G A s ad1 (N + 1) c1 H1 locs → W p l e R s m args below meth k H1 locs (cells + 1) (slots + n) Q (F0 m (pc + 2) ls (.ref (ad1 N) :: rest))) : W p l e R s m args below meth k H locs cells slots Q (F0 m pc ls (.int (zI z) :: rest)) := by
  subst hz
  have h0 : ¬ zI (n : Int) < 0 := by
    rw [← zI_0]
    intro h
    have := (zI_lt (a := (n : Int)) (b := 0) ⟨by omega, by omega⟩ bnd_0).mp h
    omega
  refine va_newa (D := D) (a0 := (n, a0.2)) hx hb (by rw [hty]; exact harr) hty w.1 w.2.1 w.2.2.1 w.2.2.2.1 w.2.2.2.2.1 ha h0 (zI_nat (by omega)) hby hcells hslots hdg (fun q cA H1 hK hP hD hS => ?_)
  have e1 := hra _ (hK.2 (tysG G).length (cA, ty) (by rw [List.getElem?_append_right (Nat.le_refl _), Nat.sub_self]; rfl)).2
  have e2 := hra _ (w.1.2 kd _ ht).2
  have e3 : cA = G kd := Option.some.inj (e1.symm.trans e2)
  subst e3
  rw [wl_push] at hP hD
  have h := kk H1 (va_up ad N q) (va_up c N (.inl (G kd, n, a0.2))) (fun r hr => va_up_ne _ _ (by omega)) (va_up_self _ _ _) (fun r hr => va_up_ne _ _ hr) ⟨w.1, hP, hD, hS, w.2.2.2.2.1, w.2.2.2.2.2⟩
  rw [va_up_self] at h
  exact h
/-- an array of ints or booleans -/
theorem pw_newi (kd : Nat) {atype : ArrayType} {ty : FieldType} (hx : p.tables.exec = Jvm.exec) (hb : k.code = cc) (w : PW D G A s ad N c H locs) (hty : newarray.typeOf atype = ty) (harr : (Cond.arrayClass ty).before args s = true) (hkd : (kd = 0 ∧ ty = .int) ∨ (kd = 1 ∧ ty = .boolean)) {z : Int} {n : Nat} (hz : z = (n : Int)) (hn : n < 100000) (hcells : cells + 1 ≤ R.cells) (hslots : slots + n ≤ R.slots) (hdg : decode cc pc = .ok (.newarray atype, 2))
    (kk : ∀ (H1 : Heap) (ad1 : Nat → Nat) (c1 : Nat → va_E), (∀ r, r < N → ad1 r = ad r) → isA kd G (c1 N) n (fun _ => 0) → (∀ r, r ≠ N → c1 r = c r) → PW D G A s ad1 (N + 1) c1 H1 locs → W p l e R s m args below meth k H1 locs (cells + 1) (slots + n) Q (F0 m (pc + 2) ls (.ref (ad1 N) :: rest))) : W p l e R s m args below meth k H locs cells slots Q (F0 m pc ls (.int (zI z) :: rest)) := by
  rcases hkd with ⟨rfl, rfl⟩ | ⟨rfl, rfl⟩
  · exact pw_newa 0 (a0 := (n, .inl (fun _ => zI 0))) hx hb w hty harr rfl (fun _ h => h) hz hn (fun cA => by rw [vp_cell_i, zI_0]; rfl) (by show n * 4 ≤ _; omega) hcells hslots hdg (fun H1 ad1 c1 h1 h2 h3 w1 => kk H1 ad1 c1 h1 ⟨_, h2, fun _ _ => rfl⟩ h3 w1)
  · exact pw_newa 1 (a0 := (n, .inl (fun _ => zI 0))) hx hb w hty harr rfl (fun _ h => h) hz hn (fun cA => by rw [vp_cell_i, zI_0]; rfl) (by show n * 1 ≤ _; omega) hcells hslots hdg (fun H1 ad1 c1 h1 h2 h3 w1 => kk H1 ad1 c1 h1 ⟨_, h2, fun _ _ => rfl⟩ h3 w1)
/-- an array of references -/
theorem pw_newq (kd : Nat) {own C : String} {index : Nat} (hx : p.tables.exec = Jvm.exec) (hb : k.code = cc) (w : PW D G A s ad N c H locs) (hown : s.vm.findClass own = some m.cls) (hcl : (Cond.classLink own index C).before args s = true) (hao : va_AO C s) (ht : (tysG G)[kd]? = some (G kd, .object C)) {z : Int} {n : Nat} (hz : z = (n : Int)) (hn : n < 100000) (hcells : cells + 1 ≤ R.cells) (hslots : slots + n ≤ R.slots) (hdg : decode cc pc = .ok (.anewarray index, 3))
    (kk : ∀ (H1 : Heap) (ad1 : Nat → Nat) (c1 : Nat → va_E), (∀ r, r < N → ad1 r = ad r) → c1 N = rfs kd G n (fun _ => none) → (∀ r, r ≠ N → c1 r = c r) → PW D G A s ad1 (N + 1) c1 H1 locs → W p l e R s m args below meth k H1 locs (cells + 1) (slots + n) Q (F0 m (pc + 3) ls (.ref (ad1 N) :: rest))) : W p l e R s m args below meth k H locs cells slots Q (F0 m pc ls (.int (zI z) :: rest)) := by
  subst hz
  have h0 : ¬ zI (n : Int) < 0 := by
    rw [← zI_0]
    intro h
    have := (zI_lt (a := (n : Int)) (b := 0) ⟨by omega, by omega⟩ bnd_0).mp h
    omega
  refine va_newq (D := D) hx hb hown hcl hao w.1 w.2.1 w.2.2.1 w.2.2.2.1 w.2.2.2.2.1 h0 (zI_nat (by omega)) (by omega) hcells hslots hdg (fun q cA H1 hK hP hD hS => ?_)
  obtain ⟨-, -, -, -, -, e1⟩ := (hK.2 (tysG G).length (cA, .object C) (by rw [List.getElem?_append_right (Nat.le_refl _), Nat.sub_self]; rfl)).2
  obtain ⟨-, -, -, -, -, e2⟩ := (w.1.2 kd _ ht).2
  have e3 : cA = G kd := Option.some.inj (e1.symm.trans e2)
  subst e3
  rw [wl_push] at hP hD
  have h := kk H1 (va_up ad N q) (va_up c N (rfs kd G n (fun _ => none))) (fun r hr => va_up_ne _ _ (by omega)) (va_up_self _ _ _) (fun r hr => va_up_ne _ _ hr) ⟨w.1, hP, hD, hS, w.2.2.2.2.1, w.2.2.2.2.2⟩
  rw [va_up_self] at h
  exact h
/-- an array of rows of ints -/
theorem pw_mna {own : String} {index : Nat} (hx : p.tables.exec = Jvm.exec) (hb : k.code = cc) (w : PW D G A s ad N c H locs) (hown : s.vm.findClass own = some m.cls) (hcl : (Cond.classLink own index "[[I").before args s = true) (harr : (Cond.arrayClass .int).before args s = true) {z y : Int} {n r : Nat} (hz : z = (n : Int)) (hy : y = (r : Int)) (hn : n < 1000) (hr : r < 1000) (hcells : cells + (1 + n) ≤ R.cells) (hslots : slots + (n + n * r) ≤ R.slots) (hdg : decode cc pc = .ok (.multianewarray index 2, 4))
    (kk : ∀ (H1 : Heap) (ad1 : Nat → Nat) (c1 : Nat → va_E), (∀ q, q < N → ad1 q = ad q) → (∃ f : Nat → Option Nat, c1 N = rfs 2 G n f ∧ ∀ i, i < n → f i = some (ad1 (N + 1 + i))) → (∀ i, i < n → isA 0 G (c1 (N + 1 + i)) r (fun _ => 0)) → (∀ q, q < N → c1 q = c q) → PW D G A s ad1 (N + 1 + n) c1 H1 locs → W p l e R s m args below meth k H1 locs (cells + 1 + n) (slots + n + n * r) Q (F0 m (pc + 4) ls (.ref (ad1 N) :: rest))) : W p l e R s m args below meth k H locs cells slots Q (F0 m pc ls (.int (zI y) :: .int (zI z) :: rest)) := by
  subst hz
  subst hy
  have hz0 : ∀ n : Nat, n < 1000 → ¬ zI (n : Int) < 0 := fun n hn => by
    rw [← zI_0]
    intro h
    have := (zI_lt (a := (n : Int)) (b := 0) ⟨by omega, by omega⟩ bnd_0).mp h
    omega
  have hcy : s.vm.findClass (FieldType.array .int).toString = some (G 0) := (w.1.2 0 _ rfl).2
  have hw0 : wl ad N c = wl ad N c ++ va_pl [] (fun _ => .inl (G 0, 0, .inl (fun _ => 0))) := (List.append_nil _).symm
  have hP0 := w.2.1
  have hD0 := w.2.2.1
  rw [hw0] at hP0 hD0
  refine va_mna (D := D) (ty := .int) (z := (r, .inl (fun _ => zI 0))) hx hb hown hcl w.2.2.2.2.2.2.2.2.2.2.2.2.2.2.1 harr hcy w.1 hP0 hD0 w.2.2.2.1 w.2.2.2.2.1 (hz0 n hn) (hz0 r hr) (zI_nat (by omega)) (zI_nat (by omega)) (by omega) (by show r * 4 ≤ _; omega) (by omega) rfl rfl hcells hslots (fun cA => by rw [vp_cell_i, zI_0]; exact arrV_new _ _ _) hdg (fun q rr cA H1 hinj hnl hK hP hD hS => ?_)
  have e1 := (hK.2 (tysG G).length (cA, .array .int) (by rw [List.getElem?_append_right (Nat.le_refl _), Nat.sub_self]; rfl)).2
  have e2 := (w.1.2 2 _ rfl).2
  have e3 : cA = G 2 := Option.some.inj (e1.symm.trans e2)
  subst e3
  have hcat : (wl ad N c ++ [(q, .inl (G 2, n, .inr (.inr (.inr (.inr (fun i => if i < n then some (rr i) else none))))))]) ++ va_pl ([] ++ (List.range n).map rr) (vr_up (fun _ => .inl (G 0, 0, .inl (fun _ => 0))) ((List.range n).map rr) (.inl (G 0, r, .inl (fun _ => zI 0)))) = wl (fun x => if x < N then ad x else if x = N then q else rr (x - (N + 1))) (N + 1 + n) (fun x => if x < N then c x else if x = N then .inl (G 2, n, .inr (.inr (.inr (.inr (fun i => if i < n then some (rr i) else none))))) else .inl (G 0, r, .inl (fun _ => zI 0))) := by
    unfold wl va_pl
    rw [List.nil_append, List.range_add, List.map_append, List.range_succ, List.map_append, List.map_map, List.map_map]
    congr 1
    · congr 1
      · refine List.map_congr_left (fun x hx => ?_)
        have hlt := List.mem_range.mp hx
        simp only [if_pos hlt]
      · simp
    · refine List.map_congr_left (fun x hx => ?_)
      have hlt := List.mem_range.mp hx
      show (rr x, vr_up _ _ _ (rr x)) = (if N + 1 + x < N then _ else if N + 1 + x = N then _ else rr (N + 1 + x - (N + 1)), if N + 1 + x < N then _ else if N + 1 + x = N then _ else _)
      rw [if_neg (by omega), if_neg (by omega), if_neg (by omega), if_neg (by omega), vr_up_in (List.mem_map.mpr ⟨x, hx, rfl⟩), show N + 1 + x - (N + 1) = x from by omega]
  rw [hcat] at hP hD
  have h := kk H1 _ _ (fun x hx => if_pos hx) ⟨_, (if_neg (Nat.lt_irrefl N)).trans (if_pos rfl), fun i hi => by
    show (if i < n then some (rr i) else none) = some (if N + 1 + i < N then ad (N + 1 + i) else if N + 1 + i = N then q else rr (N + 1 + i - (N + 1)))
    rw [if_pos hi, if_neg (by omega), if_neg (by omega), show N + 1 + i - (N + 1) = i from by omega]⟩ (fun i hi => ⟨_, (if_neg (by omega)).trans (if_neg (by omega)), fun _ _ => rfl⟩) (fun x hx => if_pos hx) ⟨w.1, hP, hD, hS, w.2.2.2.2.1, w.2.2.2.2.2⟩
  rw [if_neg (Nat.lt_irrefl N), if_pos rfl] at h
  exact h
end AL
