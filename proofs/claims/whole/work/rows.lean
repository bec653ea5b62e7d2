section
-- ===== PART A: goes FIRST, ahead of the names: the tables' words, and 'selects' of the private methods out of them =====
/-- a private method of a class that the tables say can be made, by its rows of tables_1 -/
def lw_okq (q : MethodName × Nat) : Prop := (q.1.cls ≠ "java/lang/invoke/MethodHandle" ∧ q.1.cls ≠ "java/lang/invoke/VarHandle") ∧ Cond.instantiable q.1.cls q.2 ∈ tables_1 ∧ Cond.privateMethod q.1 ∈ tables_1 ∧ Cond.instanceMethod q.1 ∈ tables_1
theorem lw_p0 : lw_okq (⟨"PipersDesk", "trySets", "()I"⟩, 5) := ⟨⟨by decide +kernel, by decide +kernel⟩, List.mem_of_getElem? (i := 22) (by decide +kernel), List.mem_of_getElem? (i := 194) (by decide +kernel), List.mem_of_getElem? (i := 195) (by decide +kernel)⟩
theorem lw_p1 : lw_okq (⟨"PipersDesk$SetSearch", "startOrder", "([LPipersDesk$Tune;)V"⟩, 6) := ⟨⟨by decide +kernel, by decide +kernel⟩, List.mem_of_getElem? (i := 138) (by decide +kernel), List.mem_of_getElem? (i := 248) (by decide +kernel), List.mem_of_getElem? (i := 249) (by decide +kernel)⟩
theorem lw_p2 : lw_okq (⟨"PipersDesk$SetSearch", "costOfOrder", "([LPipersDesk$Tune;)I"⟩, 6) := ⟨⟨by decide +kernel, by decide +kernel⟩, List.mem_of_getElem? (i := 138) (by decide +kernel), List.mem_of_getElem? (i := 253) (by decide +kernel), List.mem_of_getElem? (i := 254) (by decide +kernel)⟩
theorem lw_p3 : lw_okq (⟨"PipersDesk$SetSearch", "keepIfLess", "(I)V"⟩, 6) := ⟨⟨by decide +kernel, by decide +kernel⟩, List.mem_of_getElem? (i := 138) (by decide +kernel), List.mem_of_getElem? (i := 286) (by decide +kernel), List.mem_of_getElem? (i := 287) (by decide +kernel)⟩
theorem lw_p4 : lw_okq (⟨"PipersDesk$SetSearch", "goToNextOrder", "()Z"⟩, 6) := ⟨⟨by decide +kernel, by decide +kernel⟩, List.mem_of_getElem? (i := 138) (by decide +kernel), List.mem_of_getElem? (i := 293) (by decide +kernel), List.mem_of_getElem? (i := 294) (by decide +kernel)⟩
theorem lw_p5 : lw_okq (⟨"PipersDesk$SetSearch", "exchange", "(II)V"⟩, 6) := ⟨⟨by decide +kernel, by decide +kernel⟩, List.mem_of_getElem? (i := 138) (by decide +kernel), List.mem_of_getElem? (i := 297) (by decide +kernel), List.mem_of_getElem? (i := 298) (by decide +kernel)⟩
theorem lw_p6 : lw_okq (⟨"java/lang/Throwable", "fillInStackTrace", "(I)Ljava/lang/Throwable;"⟩, 6) := ⟨⟨by decide +kernel, by decide +kernel⟩, List.mem_of_getElem? (i := 351) (by decide +kernel), List.mem_of_getElem? (i := 349) (by decide +kernel), List.mem_of_getElem? (i := 350) (by decide +kernel)⟩
theorem lw_p7 : lw_okq (⟨"PipersDesk", "checkGap", "(II)V"⟩, 5) := ⟨⟨by decide +kernel, by decide +kernel⟩, List.mem_of_getElem? (i := 22) (by decide +kernel), List.mem_of_getElem? (i := 558) (by decide +kernel), List.mem_of_getElem? (i := 559) (by decide +kernel)⟩
theorem lw_p8 : lw_okq (⟨"PipersDesk", "solve", "(I)I"⟩, 5) := ⟨⟨by decide +kernel, by decide +kernel⟩, List.mem_of_getElem? (i := 22) (by decide +kernel), List.mem_of_getElem? (i := 583) (by decide +kernel), List.mem_of_getElem? (i := 584) (by decide +kernel)⟩
theorem lw_p9 : lw_okq (⟨"PipersDesk$TuneChoices", "countWithGap", "([II)I"⟩, 4) := ⟨⟨by decide +kernel, by decide +kernel⟩, List.mem_of_getElem? (i := 108) (by decide +kernel), List.mem_of_getElem? (i := 631) (by decide +kernel), List.mem_of_getElem? (i := 632) (by decide +kernel)⟩
theorem lw_p10 : lw_okq (⟨"PipersDeskModel", "goesWell", "(I)Z"⟩, 21) := ⟨⟨by decide +kernel, by decide +kernel⟩, List.mem_of_getElem? (i := 696) (by decide +kernel), List.mem_of_getElem? (i := 780) (by decide +kernel), List.mem_of_getElem? (i := 781) (by decide +kernel)⟩
theorem lw_p11 : lw_okq (⟨"PipersDeskModel", "costOf", "(II)I"⟩, 21) := ⟨⟨by decide +kernel, by decide +kernel⟩, List.mem_of_getElem? (i := 696) (by decide +kernel), List.mem_of_getElem? (i := 784) (by decide +kernel), List.mem_of_getElem? (i := 785) (by decide +kernel)⟩
theorem lw_p12 : lw_okq (⟨"PipersDeskModel", "bars", "(II)Z"⟩, 21) := ⟨⟨by decide +kernel, by decide +kernel⟩, List.mem_of_getElem? (i := 696) (by decide +kernel), List.mem_of_getElem? (i := 792) (by decide +kernel), List.mem_of_getElem? (i := 793) (by decide +kernel)⟩
theorem lw_p13 : lw_okq (⟨"PipersDeskModel", "between", "(IIII)I"⟩, 21) := ⟨⟨by decide +kernel, by decide +kernel⟩, List.mem_of_getElem? (i := 696) (by decide +kernel), List.mem_of_getElem? (i := 816) (by decide +kernel), List.mem_of_getElem? (i := 817) (by decide +kernel)⟩
theorem lw_p14 : lw_okq (⟨"PipersDeskModel", "moves", "(II)I"⟩, 21) := ⟨⟨by decide +kernel, by decide +kernel⟩, List.mem_of_getElem? (i := 696) (by decide +kernel), List.mem_of_getElem? (i := 820) (by decide +kernel), List.mem_of_getElem? (i := 821) (by decide +kernel)⟩
theorem lw_p15 : lw_okq (⟨"PipersDeskModel", "isGap", "(II)Z"⟩, 21) := ⟨⟨by decide +kernel, by decide +kernel⟩, List.mem_of_getElem? (i := 696) (by decide +kernel), List.mem_of_getElem? (i := 840) (by decide +kernel), List.mem_of_getElem? (i := 841) (by decide +kernel)⟩
def lw_privs_1 : List (MethodName × Nat) := [(⟨"PipersDesk", "trySets", "()I"⟩, 5), (⟨"PipersDesk$SetSearch", "startOrder", "([LPipersDesk$Tune;)V"⟩, 6), (⟨"PipersDesk$SetSearch", "costOfOrder", "([LPipersDesk$Tune;)I"⟩, 6), (⟨"PipersDesk$SetSearch", "keepIfLess", "(I)V"⟩, 6), (⟨"PipersDesk$SetSearch", "goToNextOrder", "()Z"⟩, 6), (⟨"PipersDesk$SetSearch", "exchange", "(II)V"⟩, 6), (⟨"java/lang/Throwable", "fillInStackTrace", "(I)Ljava/lang/Throwable;"⟩, 6), (⟨"PipersDesk", "checkGap", "(II)V"⟩, 5), (⟨"PipersDesk", "solve", "(I)I"⟩, 5), (⟨"PipersDesk$TuneChoices", "countWithGap", "([II)I"⟩, 4), (⟨"PipersDeskModel", "goesWell", "(I)Z"⟩, 21), (⟨"PipersDeskModel", "costOf", "(II)I"⟩, 21), (⟨"PipersDeskModel", "bars", "(II)Z"⟩, 21), (⟨"PipersDeskModel", "between", "(IIII)I"⟩, 21), (⟨"PipersDeskModel", "moves", "(II)I"⟩, 21), (⟨"PipersDeskModel", "isGap", "(II)Z"⟩, 21)]
theorem lw_r1 : ∀ q ∈ lw_privs_1, lw_okq q := List.forall_mem_cons.mpr ⟨lw_p0, List.forall_mem_cons.mpr ⟨lw_p1, List.forall_mem_cons.mpr ⟨lw_p2, List.forall_mem_cons.mpr ⟨lw_p3, List.forall_mem_cons.mpr ⟨lw_p4, List.forall_mem_cons.mpr ⟨lw_p5, List.forall_mem_cons.mpr ⟨lw_p6, List.forall_mem_cons.mpr ⟨lw_p7, List.forall_mem_cons.mpr ⟨lw_p8, List.forall_mem_cons.mpr ⟨lw_p9, List.forall_mem_cons.mpr ⟨lw_p10, List.forall_mem_cons.mpr ⟨lw_p11, List.forall_mem_cons.mpr ⟨lw_p12, List.forall_mem_cons.mpr ⟨lw_p13, List.forall_mem_cons.mpr ⟨lw_p14, List.forall_mem_cons.mpr ⟨lw_p15, fun _ h => absurd h List.not_mem_nil⟩⟩⟩⟩⟩⟩⟩⟩⟩⟩⟩⟩⟩⟩⟩⟩
theorem lw_p16 : lw_okq (⟨"PipersDeskModel", "faultOf", "(IZ)I"⟩, 21) := ⟨⟨by decide +kernel, by decide +kernel⟩, List.mem_of_getElem? (i := 696) (by decide +kernel), List.mem_of_getElem? (i := 852) (by decide +kernel), List.mem_of_getElem? (i := 853) (by decide +kernel)⟩
theorem lw_p17 : lw_okq (⟨"PipersDeskModel", "layTune", "(I)V"⟩, 21) := ⟨⟨by decide +kernel, by decide +kernel⟩, List.mem_of_getElem? (i := 696) (by decide +kernel), List.mem_of_getElem? (i := 856) (by decide +kernel), List.mem_of_getElem? (i := 857) (by decide +kernel)⟩
theorem lw_p18 : lw_okq (⟨"PipersDeskModel", "append", "(I)V"⟩, 21) := ⟨⟨by decide +kernel, by decide +kernel⟩, List.mem_of_getElem? (i := 696) (by decide +kernel), List.mem_of_getElem? (i := 860) (by decide +kernel), List.mem_of_getElem? (i := 861) (by decide +kernel)⟩
theorem lw_p19 : lw_okq (⟨"PipersDeskModel", "count", "()V"⟩, 21) := ⟨⟨by decide +kernel, by decide +kernel⟩, List.mem_of_getElem? (i := 696) (by decide +kernel), List.mem_of_getElem? (i := 864) (by decide +kernel), List.mem_of_getElem? (i := 865) (by decide +kernel)⟩
theorem lw_p20 : lw_okq (⟨"PipersDeskModel", "countAt", "(II)V"⟩, 21) := ⟨⟨by decide +kernel, by decide +kernel⟩, List.mem_of_getElem? (i := 696) (by decide +kernel), List.mem_of_getElem? (i := 868) (by decide +kernel), List.mem_of_getElem? (i := 869) (by decide +kernel)⟩
theorem lw_p21 : lw_okq (⟨"PipersDeskModel", "at", "(II)I"⟩, 21) := ⟨⟨by decide +kernel, by decide +kernel⟩, List.mem_of_getElem? (i := 696) (by decide +kernel), List.mem_of_getElem? (i := 873) (by decide +kernel), List.mem_of_getElem? (i := 874) (by decide +kernel)⟩
theorem lw_p22 : lw_okq (⟨"PipersDeskModel", "chosenAt", "(I)I"⟩, 21) := ⟨⟨by decide +kernel, by decide +kernel⟩, List.mem_of_getElem? (i := 696) (by decide +kernel), List.mem_of_getElem? (i := 878) (by decide +kernel), List.mem_of_getElem? (i := 879) (by decide +kernel)⟩
theorem lw_p23 : lw_okq (⟨"PipersDeskModel", "isFirst", "(III)Z"⟩, 21) := ⟨⟨by decide +kernel, by decide +kernel⟩, List.mem_of_getElem? (i := 696) (by decide +kernel), List.mem_of_getElem? (i := 882) (by decide +kernel), List.mem_of_getElem? (i := 883) (by decide +kernel)⟩
theorem lw_p24 : lw_okq (⟨"PipersDeskModel", "faultOfTune", "(I)I"⟩, 21) := ⟨⟨by decide +kernel, by decide +kernel⟩, List.mem_of_getElem? (i := 696) (by decide +kernel), List.mem_of_getElem? (i := 898) (by decide +kernel), List.mem_of_getElem? (i := 899) (by decide +kernel)⟩
theorem lw_p25 : lw_okq (⟨"PipersDeskModel", "goThrough", "(Z)I"⟩, 21) := ⟨⟨by decide +kernel, by decide +kernel⟩, List.mem_of_getElem? (i := 696) (by decide +kernel), List.mem_of_getElem? (i := 918) (by decide +kernel), List.mem_of_getElem? (i := 919) (by decide +kernel)⟩
theorem lw_p26 : lw_okq (⟨"PipersDeskModel", "layOrder", "(I)Z"⟩, 21) := ⟨⟨by decide +kernel, by decide +kernel⟩, List.mem_of_getElem? (i := 696) (by decide +kernel), List.mem_of_getElem? (i := 922) (by decide +kernel), List.mem_of_getElem? (i := 923) (by decide +kernel)⟩
def lw_privs_2 : List (MethodName × Nat) := [(⟨"PipersDeskModel", "faultOf", "(IZ)I"⟩, 21), (⟨"PipersDeskModel", "layTune", "(I)V"⟩, 21), (⟨"PipersDeskModel", "append", "(I)V"⟩, 21), (⟨"PipersDeskModel", "count", "()V"⟩, 21), (⟨"PipersDeskModel", "countAt", "(II)V"⟩, 21), (⟨"PipersDeskModel", "at", "(II)I"⟩, 21), (⟨"PipersDeskModel", "chosenAt", "(I)I"⟩, 21), (⟨"PipersDeskModel", "isFirst", "(III)Z"⟩, 21), (⟨"PipersDeskModel", "faultOfTune", "(I)I"⟩, 21), (⟨"PipersDeskModel", "goThrough", "(Z)I"⟩, 21), (⟨"PipersDeskModel", "layOrder", "(I)Z"⟩, 21)]
theorem lw_r2 : ∀ q ∈ lw_privs_2, lw_okq q := List.forall_mem_cons.mpr ⟨lw_p16, List.forall_mem_cons.mpr ⟨lw_p17, List.forall_mem_cons.mpr ⟨lw_p18, List.forall_mem_cons.mpr ⟨lw_p19, List.forall_mem_cons.mpr ⟨lw_p20, List.forall_mem_cons.mpr ⟨lw_p21, List.forall_mem_cons.mpr ⟨lw_p22, List.forall_mem_cons.mpr ⟨lw_p23, List.forall_mem_cons.mpr ⟨lw_p24, List.forall_mem_cons.mpr ⟨lw_p25, List.forall_mem_cons.mpr ⟨lw_p26, fun _ h => absurd h List.not_mem_nil⟩⟩⟩⟩⟩⟩⟩⟩⟩⟩⟩
def lw_privs : List (MethodName × Nat) := lw_privs_1 ++ (lw_privs_2)
def lw_tbl : List Cond := k2_sels lw_privs ++ tables_1
theorem lw_privs_ok : ∀ q ∈ lw_privs, lw_okq q := by
  show ∀ q ∈ lw_privs_1 ++ (lw_privs_2), lw_okq q
  exact List.forall_mem_append.mpr ⟨lw_r1, lw_r2⟩
/-- the streams that the claim lets the run draw from -/
abbrev lw_cs : List Choice := [Jvm.Choice.named "NaN.bits"]
theorem lw_bits : nanBits ∈ lw_cs := by first | decide | exact List.mem_cons_self | simp [lw_cs, nanBits]
end
section
/-! ours: a word that the printed text below uses and does not bring along -/
def va_AOA (t : FieldType) (U : State) : Prop := (Cond.arrayOver (.array t)).before #[] U = true
theorem va_AOA.use {t : FieldType} {A : Array Value} {U : State} (h : va_AOA t U) : (Cond.arrayOver (.array t)).before A U = true := h
/-! ===== BEGIN words of one list among another's, by their places ===== -/
theorem goodIn_r {big : List Cond} (ws : List Cond) (ps : List Nat) (hp : ws = ps.filterMap (fun i => big[i]?)) (h : ws.all goodWord = true) : GoodIn big ws := by
  intro w hw
  have h1 := List.all_eq_true.mp h w hw
  rw [hp] at hw
  obtain ⟨i, -, hi⟩ := List.mem_filterMap.mp hw
  have hm : w ∈ big := by first | exact List.mem_of_getElem? hi | exact List.getElem?_mem hi
  exact ⟨hm, good_of_word h1⟩
theorem goodIn_app {big a b : List Cond} (ha : GoodIn big a) (hb : GoodIn big b) : GoodIn big (a ++ b) := fun w h => (List.mem_append.mp h).elim (ha w) (hb w)
theorem goodIn_ca {big a b : List Cond} {c : Cond} (ha : GoodIn big (c :: a)) (hb : GoodIn big b) : GoodIn big (c :: (a ++ b)) := fun w h => (List.mem_cons.mp h).elim (fun e => ha w (List.mem_cons.mpr (Or.inl e))) (fun h => (List.mem_append.mp h).elim (fun h => ha w (List.mem_cons.mpr (Or.inr h))) (hb w))
theorem goodIn_sub {big ws : List Cond} (hm : ∀ w ∈ ws, w ∈ big) (h : ws.all goodWord = true) : GoodIn big ws := fun w hw => ⟨hm w hw, good_of_word (List.all_eq_true.mp h w hw)⟩
/-! ===== END ===== -/

/-! ===== BEGIN new T[n][m]: the outer array a place, the inner ones among the pooled ===== -/
/-- f, but v at every address of l -/
def vr_up {α : Type} (f : Nat → α) (l : List Nat) (v : α) : Nat → α := fun a => if a ∈ l then v else f a
theorem vr_up_in {α : Type} {f : Nat → α} {l : List Nat} {v : α} {a : Nat} (h : a ∈ l) : vr_up f l v a = v := if_pos h
theorem vr_up_ne {α : Type} {f : Nat → α} {l : List Nat} {v : α} {a : Nat} (h : a ∉ l) : vr_up f l v a = f a := if_neg h
theorem vr_rows {L l : List Nat} {f : Nat → va_E} {e : va_E} (h : ∀ a, a ∈ l → a ∉ L) : va_pl L f ++ l.map (fun a => (a, e)) = va_pl (L ++ l) (vr_up f l e) := by
  unfold va_pl
  rw [List.map_append]
  congr 1
  · apply List.map_congr_left
    intro a ha
    rw [vr_up_ne (fun q => h a q ha)]
  · apply List.map_congr_left
    intro a ha
    rw [vr_up_in ha]
theorem vr_lay {X rows : va_W} {x : Nat × va_E} {pl : va_W} {D : va_G} {cl : List vw_C} {H : Heap} (hP : va_P D cl (((X ++ pl) ++ [x]) ++ rows) H) : va_P D cl ((X ++ [x]) ++ (pl ++ rows)) H := by
  rw [List.append_assoc (X ++ pl)] at hP
  have h := va_P.swap hP
  rw [← List.append_assoc X] at h
  have h2 := va_P.swap h
  rw [List.append_assoc (X ++ [x])] at h2
  exact h2
theorem vr_layD {X rows : va_W} {x : Nat × va_E} {pl : va_W} {A : Nat → Prop} (hD : va_D A (((X ++ pl) ++ [x]) ++ rows)) : va_D A ((X ++ [x]) ++ (pl ++ rows)) := by
  rw [List.append_assoc (X ++ pl)] at hD
  have h := va_D.swap hD
  rw [← List.append_assoc X] at h
  have h2 := va_D.swap h
  rw [List.append_assoc (X ++ [x])] at h2
  exact h2
theorem vr_outer (c : ClassId) (N h0 : Nat) : ∀ i : Nat, Jvm.Free.Multi.outerC c N h0 i = arrV c N (fun j => va_rf (if j < i then some (h0 + 1 + j) else none))
  | 0 => by
    show ({ cls := c, slots := Array.replicate N .null, vm := .none } : Cell) = _
    rw [arrV_new]
    refine congrArg (arrV c N) (funext fun j => ?_)
    simp [va_rf]
  | i + 1 => by
    show (Jvm.Free.Multi.outerC c N h0 i).setSlot i (.ref (h0 + 1 + i)) = _
    rw [vr_outer c N h0 i, arrV_store]
    refine congrArg (arrV c N) (funext fun j => ?_)
    by_cases e : j = i
    · subst e
      simp [updV, va_rf]
    · by_cases h : j < i
      · simp [updV, e, h, Nat.lt_succ_of_lt h]
      · simp [updV, e, h, show ¬ j < i + 1 by omega]
section VGM
variable {p : Program} {l : Launch} {e : Env} {R : Room} {s : State} {m : MethodId} {args : Array Value} {below : List Frame} {meth : Method} {c : Code} {H : Heap} {locs : List Loc} {cells slots : Nat} {Q : State → Prop}
variable {cc : ByteArray} {pc : Nat} {ls : Array Slot} {rest : List Value} {D : va_G} {cl : List vw_C} {A : Nat → Prop} {a : Nat} {tys : List (ClassId × FieldType)} {ws : va_W} {H0 : Heap}
theorem va_mna {X : va_W} {L : List Nat} {f : Nat → va_E} {cc : ByteArray} (hexec : p.tables.exec = Jvm.exec) (hb : c.code = cc) {own : String} {index : Nat} {ty : FieldType} {cy : ClassId} (hown : s.vm.findClass own = some m.cls) (hclink : (Cond.classLink own index ("[" ++ (FieldType.array ty).toString)).before args s = true) (hover : va_AOA ty s) (harr : (Cond.arrayClass ty).before args s = true) (hcy : s.vm.findClass (FieldType.array ty).toString = some cy)
    (hK : va_K D cl tys s) (hP : va_P D cl (X ++ va_pl L f) H) (hD : va_D A (X ++ va_pl L f)) (hS : va_S A H0 H locs) (hA : ∀ q, H0.size ≤ q → A q) {n k : Int32} {N' K' : Nat} {z : vp_A} (hn : ¬ n < 0) (hk : ¬ k < 0) (hN : n.toNatClampNeg = N') (hM : k.toNatClampNeg = K')
    (hb1 : N' * 4 ≤ 536870912) (hb2 : K' * componentBytes ty ≤ 536870912) (hb3 : K' ≤ 536870912) (hdf : fits ty (defaultValue ty) = true) (hdd : (defaultValue ty).isDefault = true) (hcells : cells + (1 + N') ≤ R.cells) (hslots : slots + (N' + N' * K') ≤ R.slots) (hz : ∀ c : ClassId, Jvm.Free.Multi.innerC c K' (defaultValue ty) = vp_cell c z) (hdg : decode cc pc = .ok (.multianewarray index 2, 4))
    (kk : ∀ (q : Nat) (r : Nat → Nat) (cA : ClassId) (H1 : Heap), (∀ i j : Nat, i < N' → j < N' → r i = r j → i = j) → (∀ i : Nat, i < N' → r i ∉ L) → va_K D cl (tys ++ [(cA, .array ty)]) s →
      va_P D cl ((X ++ [(q, .inl (cA, N', .inr (.inr (.inr (.inr (fun i => if i < N' then some (r i) else none))))))]) ++ va_pl (L ++ (List.range N').map r) (vr_up f ((List.range N').map r) (.inl (cy, z)))) H1 → va_D A ((X ++ [(q, .inl (cA, N', .inr (.inr (.inr (.inr (fun i => if i < N' then some (r i) else none))))))]) ++ va_pl (L ++ (List.range N').map r) (vr_up f ((List.range N').map r) (.inl (cy, z)))) → va_S A H0 H1 locs →
      W p l e R s m args below meth c H1 locs (cells + 1 + N') (slots + N' + N' * K') Q (F0 m (pc + 4) ls (.ref q :: rest))) : W p l e R s m args below meth c H locs cells slots Q (F0 m pc ls (.int k :: .int n :: rest)) := by
  subst hN
  subst hM
  intro T hT Xs
  obtain ⟨vm₁, cA, comp, -, fA, fC, hO, -, X', step⟩ := Xs.multianewarray2F hexec hown hclink (va_AOA.use hover) harr (g := F0 m pc ls (.int k :: .int n :: rest)) rfl (by rw [hb]; exact hdg) rfl hn hk hb1 hb2 hb3 hdf hdd hcells hslots
  have ec : some cy = some comp := hcy.symm.trans fC
  cases ec
  generalize hF : Jvm.Free.Multi.fill (T.setVm vm₁) cA cy n.toNatClampNeg k.toNatClampNeg (defaultValue ty) n.toNatClampNeg = F at X' step
  have hTh : (T.setVm vm₁).heap = H := hT
  obtain ⟨f1, f2, -, -⟩ := Jvm.Free.Multi.fill_facts (T.setVm vm₁) cA cy n.toNatClampNeg k.toNatClampNeg (defaultValue ty) n.toNatClampNeg
  rw [hF, hTh] at f1 f2
  have hold : ∀ x : Nat, x < H.size → F.heap[x]? = H[x]? := fun x hx => by
    have := Jvm.Free.Multi.fill_old (T.setVm vm₁) cA cy n.toNatClampNeg k.toNatClampNeg (defaultValue ty) (a := x) (by rw [hTh]; exact hx) n.toNatClampNeg
    rw [hF, hTh] at this
    exact this
  have hrow : ∀ j : Nat, j < n.toNatClampNeg → F.heap[H.size + 1 + j]? = some (vp_cell cy z) := fun j hj => by
    have := Jvm.Free.Multi.fill_inner (T.setVm vm₁) cA cy n.toNatClampNeg k.toNatClampNeg (defaultValue ty) n.toNatClampNeg j hj
    rw [hF, hTh, hz] at this
    exact this
  have hout : Jvm.Free.Multi.outerC cA n.toNatClampNeg H.size n.toNatClampNeg = vp_cell cA (n.toNatClampNeg, .inr (.inr (.inr (.inr (fun i => if i < n.toNatClampNeg then some (H.size + 1 + i) else none))))) := by
    rw [vp_cell_q]
    exact vr_outer cA n.toNatClampNeg H.size n.toNatClampNeg
  rw [hout] at f2
  have hlt : ∀ a, a ∈ L → a < H.size := fun a ha => by
    obtain ⟨k9, hk9⟩ := va_pl_get (X := X) (f := f) ha
    exact (hP k9 _ hk9).lt
  have hnl : ∀ i : Nat, i < n.toNatClampNeg → H.size + 1 + i ∉ L := fun i _ h => by
    have := hlt _ h
    omega
  have hnm : ∀ a, a ∈ (List.range n.toNatClampNeg).map (fun i => H.size + 1 + i) → a ∉ L := fun a ha h => by
    obtain ⟨i, -, rfl⟩ := List.mem_map.mp ha
    have := hlt _ h
    omega
  have hP0 : va_P D cl (X ++ va_pl L f) F.heap := hP.kept (fun k9 x hx => hold x.1 ((hP k9 x hx).lt))
  have hP1 : va_P D cl ((X ++ va_pl L f) ++ [(H.size, .inl (cA, n.toNatClampNeg, .inr (.inr (.inr (.inr (fun i => if i < n.toNatClampNeg then some (H.size + 1 + i) else none))))))]) F.heap := hP0.app (fun k9 x hx => by
    have h0 : k9 < 1 := (List.getElem?_eq_some_iff.mp hx).1
    rw [show k9 = 0 by omega] at hx
    cases hx
    exact f2)
  have hP2 : va_P D cl (((X ++ va_pl L f) ++ [(H.size, .inl (cA, n.toNatClampNeg, .inr (.inr (.inr (.inr (fun i => if i < n.toNatClampNeg then some (H.size + 1 + i) else none))))))]) ++ ((List.range n.toNatClampNeg).map (fun i => H.size + 1 + i)).map (fun a => (a, .inl (cy, z)))) F.heap := hP1.app (fun k9 x hx => by
    obtain ⟨a, ha, rfl⟩ := List.mem_map.mp (List.mem_of_getElem? hx)
    obtain ⟨i, hi, rfl⟩ := List.mem_map.mp ha
    exact hrow i (List.mem_range.mp hi))
  have hD2 : va_D A (((X ++ va_pl L f) ++ [(H.size, .inl (cA, n.toNatClampNeg, .inr (.inr (.inr (.inr (fun i => if i < n.toNatClampNeg then some (H.size + 1 + i) else none))))))]) ++ ((List.range n.toNatClampNeg).map (fun i => H.size + 1 + i)).map (fun a => (a, .inl (cy, z)))) := by
    have hD1 := hD.push (e := .inl (cA, n.toNatClampNeg, .inr (.inr (.inr (.inr (fun i => if i < n.toNatClampNeg then some (H.size + 1 + i) else none)))))) hP rfl (hA _ hS.1)
    generalize hW1 : (X ++ va_pl L f) ++ [(H.size, .inl (cA, n.toNatClampNeg, .inr (.inr (.inr (.inr (fun i => if i < n.toNatClampNeg then some (H.size + 1 + i) else none))))))] = W1 at hD1 hP1 ⊢
    have hle : ∀ (k9 : Nat) (x : Nat × va_E), W1[k9]? = some x → x.1 ≤ H.size := fun k9 x hx => by
      rw [← hW1] at hx
      by_cases hl : k9 < (X ++ va_pl L f).length
      · rw [List.getElem?_append_left hl] at hx
        exact Nat.le_of_lt ((hP k9 x hx).lt)
      · rw [List.getElem?_append_right (by omega)] at hx
        have h0 : k9 - (X ++ va_pl L f).length < 1 := (List.getElem?_eq_some_iff.mp hx).1
        rw [show k9 - (X ++ va_pl L f).length = 0 by omega] at hx
        cases hx
        exact Nat.le_refl _
    have hr : ∀ (k9 : Nat) (x : Nat × va_E), (((List.range n.toNatClampNeg).map (fun i => H.size + 1 + i)).map (fun a => ((a, .inl (cy, z)) : Nat × va_E)))[k9]? = some x → x.1 = H.size + 1 + k9 := fun k9 x hx => by
      rw [List.getElem?_map, List.getElem?_map] at hx
      by_cases h9 : k9 < n.toNatClampNeg
      · rw [List.getElem?_range h9] at hx
        cases hx
        rfl
      · have hn0 : (List.range n.toNatClampNeg)[k9]? = none := List.getElem?_eq_none (by rw [List.length_range]; omega)
        rw [hn0] at hx
        cases hx
    refine ⟨fun i j x y hi hj hxy => ?_, fun k9 x hx => ?_⟩
    · by_cases h1 : i < W1.length <;> by_cases h2 : j < W1.length
      · rw [List.getElem?_append_left h1] at hi
        rw [List.getElem?_append_left h2] at hj
        exact hD1.1 i j x y hi hj hxy
      · rw [List.getElem?_append_left h1] at hi
        rw [List.getElem?_append_right (by omega)] at hj
        have := hle _ _ hi
        have := hr _ _ hj
        omega
      · rw [List.getElem?_append_right (by omega)] at hi
        rw [List.getElem?_append_left h2] at hj
        have := hle _ _ hj
        have := hr _ _ hi
        omega
      · rw [List.getElem?_append_right (by omega)] at hi hj
        have := hr _ _ hi
        have := hr _ _ hj
        omega
    · by_cases h1 : k9 < W1.length
      · rw [List.getElem?_append_left h1] at hx
        exact hD1.2 k9 x hx
      · rw [List.getElem?_append_right (by omega)] at hx
        have := hr _ _ hx
        exact hA _ (by have := hS.1; omega)
  have hAr : ArrOfT s cA (.array ty) := fun N9 z9 => by
    obtain ⟨-, k9, hk9, cm9, hkk9⟩ := (hO 0 0 0).1
    exact ⟨(fun q hq => by cases hq), k9, hk9, cm9, hkk9⟩
  have hK2 : va_K D cl (tys ++ [(cA, .array ty)]) s := ⟨hK.1, fun k9 x hx => by
    by_cases hl : k9 < tys.length
    · rw [List.getElem?_append_left hl] at hx
      exact hK.2 k9 x hx
    · rw [List.getElem?_append_right (by omega)] at hx
      have h0 : k9 - tys.length < 1 := (List.getElem?_eq_some_iff.mp hx).1
      rw [show k9 - tys.length = 0 by omega] at hx
      cases hx
      exact ⟨hAr, fA⟩⟩
  obtain ⟨t, a1, b1⟩ := kk H.size (fun i => H.size + 1 + i) cA F.heap (fun i j _ _ h => by have h9 : H.size + 1 + i = H.size + 1 + j := h; omega) hnl hK2 (by rw [← vr_rows hnm]; exact vr_lay hP2) (by rw [← vr_rows hnm]; exact vr_layD hD2) ⟨by rw [f1]; have := hS.1; omega, fun x h1 h2 => (hold x (Nat.lt_of_lt_of_le h1 hS.1)).trans (hS.2.1 x h1 h2), hS.2.2⟩ F rfl X'
  refine ⟨t, step t ?_, b1⟩
  have e : T.heap.size = H.size := by rw [hT]
  rw [e]
  exact a1
end VGM
/-! ===== END ===== -/

/-! ===== BEGIN exceptions that leave a method, and their catching by the caller (launches without stack traces) ===== -/
section VXA
/-! The laws vx_back, vx_callV, vx_callS, vx_callSW, vx_throw0, vx_throwS follow proofs of the library, with one case more: JvmDerived/Free/Laws.lean (Back.of_free), Shelf42/LK1.lean (callV, callS), Shelf/KitTraced.lean (throwNew0V, throwNewS). -/
/-- where a method has thrown q: the class by its name, the cell, what was written, the world -/
def vx_T (XC : String → State → State → Prop) (st : State) (q : Addr) (t : State) (mc ms : Nat) (free : Addr → Prop) : Prop :=
  ∃ (E : String) (ce : Cell) (L : List Loc), XC E st t ∧ t.heap[q]? = some ce ∧ ce.vm = .none ∧ st.vm.findClass E = some ce.cls ∧ st.WarmedH t.vm ∧ st.sameButNew ({ t with vm := st.vm } : State) L mc ms ∧ ∀ z ∈ L, free z.base
def vx_Q (Qc : Array Value → State → Outcome → State → Prop) (XC : String → State → State → Prop) (mc ms : Nat) (free : Addr → Prop) : Array Value → State → Outcome → State → Prop := fun a st o t =>
  (Qc a st o t ∧ ∃ L, FrameEnd st o t L mc ms ∧ ∀ q ∈ L, free q.base) ∨ ∃ q, o = .threw q ∧ vx_T XC st q t mc ms free
/-- a callee that returns or throws -/
def vx_Met (l : Launch) (y : MethodName) (ws : List Cond) (rm : Room) (Pc : Array Value → State → Prop) (Qc : Array Value → State → Outcome → State → Prop) (XC : String → State → State → Prop) (mc ms : Nat) (free : Addr → Prop) : Prop :=
  MetFree l y (headSpec ws rm) Pc (fun _ _ _ _ _ => True) (vx_Q Qc XC mc ms free)
def vx_Post (XC : String → State → State → Prop) (mc ms : Nat) (free : Addr → Prop) : Pt → Array Value → Addr → Pt → Prop := fun A a q B =>
  ∃ (g : JFrame) (mk : MethodId) (t : State) (L : List Loc) (E : String) (ce : Cell), B.U.heap = t.heap ∧ B.U.vm = t.vm ∧ XC E (A.U.calling g mk a) t ∧ t.heap[q]? = some ce ∧ ce.vm = .none ∧ A.U.vm.findClass E = some ce.cls ∧ B.locs = A.locs ++ L ∧ (∀ z ∈ L, free z.base) ∧ B.cells = A.cells + mc ∧ B.slots = A.slots + ms
def vx_Back (l : Launch) (R : Room) (p : Program) (e : Env) (below : List Frame) (s : State) (sargs : Array Value) (y : MethodName) (len W9 : Nat)
    (Pre : Pt → Array Value → Prop) (Post : Pt → Array Value → Option Value → Pt → Prop) (PostX : Pt → Array Value → Addr → Pt → Prop) : Prop :=
  ∀ (m : MethodId) (meth : Method) (c : Code) (A : Pt) (g : JFrame) (ig : Instr) (mk : MethodId) (a : Array Value),
    Stand p l e R s m sargs below meth c A.U A.locs A.cells A.slots → g.method = m → g.locals.size = c.maxLocals → decode c.code g.pc = .ok (ig, len) →
    2 * g.monitorRoom + (g.stack.map fun v => v.category).sum ≤ W9 → A.U.methodNamed? y = some mk → Pre A a →
    (∃ (v : Option Value) (B : Pt), Stand p l e R s m sargs below meth c B.U B.locs B.cells B.slots ∧ Post A a v B ∧
      Steps p.tables e below (doInvoke e (A.U.setTop g) [] mk a).1 (B.U.setTop { g with pc := g.pc + len, stack := v.toList ++ g.stack })) ∨
    (∃ (q : Addr) (B : Pt), Stand p l e R s m sargs below meth c B.U B.locs B.cells B.slots ∧ PostX A a q B ∧
      Steps p.tables e below (doInvoke e (A.U.setTop g) [] mk a).1 ((B.U.setTop g).pushFrame (.throwing q)))
section Payer
variable {l : Launch} {R : Room} {p : Program} {e : Env} {below : List Frame} {s : State} {sargs : Array Value} {y : MethodName} {len W9 : Nat}
theorem vx_back {ws : List Cond} {rm : Room} {Pc : Array Value → State → Prop} {Qc : Array Value → State → Outcome → State → Prop} {XC : String → State → State → Prop} {mc ms : Nat} {free : Addr → Prop} {bytes : ByteArray} {maxL : Nat} {ret : Option FieldType}
    (hM : vx_Met l y ws rm Pc Qc XC mc ms free) (hblind : FrameBlind Pc) (hrc : rm.cells = mc) (hrs : rm.slots = ms)
    (hframes : rm.frames + 1 ≤ R.frames) (hlocals : W9 + (maxL + 11) + rm.locals ≤ R.locals)
    (hws : ∀ w ∈ ws, ∀ a' U, s.WarmedH U.vm → w.before a' U = true) (hcode : Cond.code y bytes maxL ret ∈ ws) (hinit : ∀ a' U, s.WarmedH U.vm → (Cond.initialized y.cls).before a' U = true) :
    vx_Back l R p e below s sargs y len W9 (PreOf R mc ms Pc) (PostOf Qc mc ms free) (vx_Post XC mc ms free) := by
  intro m meth c A g ig mk a X hg hsize hdg hW hn hp
  have h1 : (headSpec ws rm).pre.before a A.U = true := atoms_intro fun w hw => hws w hw _ _ X.warmed
  have h2 : (Cond.code y bytes maxL ret).before a A.U = true := hws _ hcode _ _ X.warmed
  have h3 : (Cond.initialized y.cls).before a A.U = true := hinit _ _ X.warmed
  have h4 : A.cells + (headSpec ws rm).room.cells ≤ R.cells := by rw [show (headSpec ws rm).room.cells = mc from hrc]; exact hp.1
  have h5 : A.slots + (headSpec ws rm).room.slots ≤ R.slots := by rw [show (headSpec ws rm).room.slots = ms from hrs]; exact hp.2.1
  have hPc : Pc a (A.U.calling g mk a) := hblind _ _ _ _ hp.2.2
  obtain ⟨U, Ls, c0, s0⟩ := A
  dsimp only [Pt.U, Pt.locs, Pt.cells, Pt.slots] at h1 h2 h3 h4 h5 X hn hPc ⊢
  obtain ⟨methY, cY, hmY, hcY, -, hlY, -, -, -, -⟩ := Cond.code_spec hn h2
  obtain ⟨kY, hkY, -⟩ := className_of_methodNamed hn
  have hinitY : kY.init = .initialized := Cond.initialized_spec (findClass_of_methodNamed hn) hkY h3
  have h : At U g.method c below := by rw [hg]; exact X.here
  have hlocals9 : W9 + (maxL + 11) + (headSpec ws rm).room.locals ≤ R.locals := hlocals
  have happ : (headSpec ws rm).appliesLoose y e.platform (U.calling g mk a) = true :=
    Spec.appliesLoose_calling (g := g) h hdg hn hkY hinitY
      (X.room_calling (g := g) (R' := (headSpec ws rm).room) hsize hmY hcY hframes (by rw [hlY]; omega) h4 h5) h1
  obtain ⟨mid, hmid⟩ := h.above
  have hfr : (U.setTop g).frames = (.java g :: mid) ++ below := by rw [State.frames_setTop' g h.top, hmid]; rfl
  obtain ⟨o, s₂, hsteps, -, hend, hq⟩ := Steps.callFree hM p X.admits X.cas X.clock (acts := []) hfr happ hPc trivial
  have hq' : vx_Q Qc XC mc ms free a (U.calling g mk a) o s₂ := hq
  rw [State.frames_setTop' g h.top] at hend
  obtain ⟨g₀, hg0⟩ := Option.isSome_iff_exists.mp h.top
  obtain ⟨r, hr⟩ := State.topJava?_eq_some.mp hg0
  have hr' : (({ U with heap := s₂.heap, slotsUsed := s₂.slotsUsed } : State).setVm s₂.vm).frames = .java g₀ :: r := hr
  rcases hq' with ⟨hqc, L, hfe, hL⟩ | ⟨q, rfl, E, ce, L, hx, hce, hcv, hcl, hW₂, hsm, hL⟩
  · obtain ⟨⟨v, rfl⟩, hW₂, e2, q2, q3, q4, q5, q6⟩ := id hfe
    have e3 : s₂ = ({ (U.calling g mk a).setFrames s₂.frames with heap := s₂.heap, slotsUsed := s₂.slotsUsed } : State).setVm s₂.vm := by
      have : s₂ = ({ s₂ with vm := (U.calling g mk a).vm } : State).setVm s₂.vm := rfl
      rw [e2] at this
      exact this
    obtain ⟨c₂, i₂, len₂, hc₂, hd₂, hf₂⟩ := hend
    have hW' : U.WarmedH s₂.vm := hW₂
    have hcc : c₂ = c := by
      have h1 : s₂.code? g.method = U.code? g.method := by
        rw [State.code?_eq, State.code?_eq, hW'.alike.method?]
      exact Option.some.inj (hc₂.symm.trans (h1.trans h.code))
    subst hcc
    have hlen : len₂ = len := by rw [hdg] at hd₂; cases hd₂; rfl
    subst hlen
    have hs₂ : s₂ = (({ U with heap := s₂.heap, slotsUsed := s₂.slotsUsed } : State).setVm s₂.vm).setTop { g with pc := g.pc + len₂, stack := v.toList ++ g.stack } := by
      refine e3.trans ?_
      rw [hf₂, State.calling_eq h.top, State.setFrames_setFrames, State.setTop_of_frames _ hr', hr]
      rfl
    have hsame : U.sameButNew ({ U with heap := s₂.heap, slotsUsed := s₂.slotsUsed } : State) L mc ms := by
      refine ⟨?_, q2, q3, q4, q5, q6⟩
      obtain ⟨t, ht, -⟩ := State.frames_cons hr
      show ({ U with heap := s₂.heap, slotsUsed := s₂.slotsUsed } : State) = { U.setFrames U.frames with heap := s₂.heap, slotsUsed := s₂.slotsUsed }
      rw [State.setFrames_self ht]
    subst hg
    refine Or.inl ⟨v, ⟨(({ U with heap := s₂.heap, slotsUsed := s₂.slotsUsed } : State).setVm s₂.vm), Ls ++ L, c0 + mc, s0 + ms⟩,
      ⟨X.admits, X.cas, X.clock, X.frames, X.room, X.hears, X.method, X.code, (X.here.setHeapUsed s₂.heap s₂.slotsUsed).setVm hW'.alike, X.tail, State.WarmedH.trans X.warmed hW', X.limits, X.bytes, X.same.trans (hsame.setVm s.vm)⟩,
      ⟨g, mk, s₂, L, rfl, rfl, hqc, rfl, hL, rfl, rfl⟩, ?_⟩
    show Steps p.tables e below _ ((({ U with heap := s₂.heap, slotsUsed := s₂.slotsUsed } : State).setVm s₂.vm).setTop { g with pc := g.pc + len₂, stack := v.toList ++ g.stack })
    rw [← hs₂]
    exact hsteps
  · obtain ⟨e2, q2, q3, q4, q5, q6⟩ := id hsm
    have e3 : s₂ = ({ (U.calling g mk a).setFrames s₂.frames with heap := s₂.heap, slotsUsed := s₂.slotsUsed } : State).setVm s₂.vm := by
      have : s₂ = ({ s₂ with vm := (U.calling g mk a).vm } : State).setVm s₂.vm := rfl
      rw [e2] at this
      exact this
    have hf₂ : s₂.frames = .throwing q :: .java g :: U.frames.tail := hend
    have hW' : U.WarmedH s₂.vm := hW₂
    have hs₂ : s₂ = ((({ U with heap := s₂.heap, slotsUsed := s₂.slotsUsed } : State).setVm s₂.vm).setTop g).pushFrame (.throwing q) := by
      refine e3.trans ?_
      rw [hf₂, State.calling_eq h.top, State.setFrames_setFrames, State.pushFrame, State.frames_setTop _ hr', State.setTop_of_frames _ hr', State.setFrames_setFrames, hr]
      rfl
    have hsame : U.sameButNew ({ U with heap := s₂.heap, slotsUsed := s₂.slotsUsed } : State) L mc ms := by
      refine ⟨?_, q2, q3, q4, q5, q6⟩
      obtain ⟨t, ht, -⟩ := State.frames_cons hr
      show ({ U with heap := s₂.heap, slotsUsed := s₂.slotsUsed } : State) = { U.setFrames U.frames with heap := s₂.heap, slotsUsed := s₂.slotsUsed }
      rw [State.setFrames_self ht]
    subst hg
    refine Or.inr ⟨q, ⟨(({ U with heap := s₂.heap, slotsUsed := s₂.slotsUsed } : State).setVm s₂.vm), Ls ++ L, c0 + mc, s0 + ms⟩,
      ⟨X.admits, X.cas, X.clock, X.frames, X.room, X.hears, X.method, X.code, (X.here.setHeapUsed s₂.heap s₂.slotsUsed).setVm hW'.alike, X.tail, State.WarmedH.trans X.warmed hW', X.limits, X.bytes, X.same.trans (hsame.setVm s.vm)⟩,
      ⟨g, mk, s₂, L, E, ce, rfl, rfl, hx, hce, hcv, hcl, rfl, hL, rfl, rfl⟩, ?_⟩
    show Steps p.tables e below _ (((({ U with heap := s₂.heap, slotsUsed := s₂.slotsUsed } : State).setVm s₂.vm).setTop g).pushFrame (.throwing q))
    rw [← hs₂]
    exact hsteps
end Payer
section Calls
variable {p : Program} {l : Launch} {e : Env} {R : Room} {s : State} {m : MethodId} {args : Array Value} {below : List Frame} {meth : Method} {c : Code} {T : State} {locs : List Loc} {cells slots : Nat}
theorem vx_callV (X : Stand p l e R s m args below meth c T locs cells slots) (hexec : p.tables.exec = Jvm.exec) {own C : String} {index : Nat} {y : MethodName} {bytes : ByteArray} {maxL : Nat} {ret : Option FieldType}
    (hown : s.vm.findClass own = some m.cls) (hlink : (Cond.methodLink own index y).before args s = true) (hinst : (Cond.instanceMethod y).before args s = true) (hsel : (Cond.selects C y y).before args s = true)
    (hcode : (Cond.code y bytes maxL ret).before args s = true) (hy : y.cls ≠ "java/lang/invoke/MethodHandle" ∧ y.cls ≠ "java/lang/invoke/VarHandle")
    {W9 : Nat} {Pre : Pt → Array Value → Prop} {Post : Pt → Array Value → Option Value → Pt → Prop} {PostX : Pt → Array Value → Addr → Pt → Prop} (hK : vx_Back l R p e below s args y 3 W9 Pre Post PostX)
    {b : Addr} {cellB : Cell} (hcell : T.heap[b]? = some cellB) (hobj : cellB.vm.isStatics = false) (hcls : s.vm.findClass C = some cellB.cls)
    {g : JFrame} (hg : g.method = m) (hsize : g.locals.size = c.maxLocals) {argsL rest : List Value} (hlen : ∀ sig, parseMethodDescriptor y.desc = some sig → argsL.length = sig.parameters.length)
    (hstack : g.stack = argsL.reverse ++ .ref b :: rest) (hW : 2 * g.monitorRoom + (rest.map fun v => v.category).sum ≤ W9) (hdg : decode c.code g.pc = .ok (.invokevirtual index, 3))
    (hpre : ∀ vm₁, s.WarmedH vm₁ → Pre ⟨T.setVm vm₁, locs, cells, slots⟩ (Value.ref b :: argsL).toArray) :
    (∃ (v : Option Value) (vm₁ : Vm) (B : Pt), s.WarmedH vm₁ ∧ Stand p l e R s m args below meth c B.U B.locs B.cells B.slots ∧ Post ⟨T.setVm vm₁, locs, cells, slots⟩ (Value.ref b :: argsL).toArray v B ∧
      ∀ target, Steps p.tables e below (B.U.setTop { g with pc := g.pc + 3, stack := v.toList ++ rest }) target → Steps p.tables e below (T.setTop g) target) ∨
    (∃ (q : Addr) (vm₁ : Vm) (B : Pt), s.WarmedH vm₁ ∧ Stand p l e R s m args below meth c B.U B.locs B.cells B.slots ∧ PostX ⟨T.setVm vm₁, locs, cells, slots⟩ (Value.ref b :: argsL).toArray q B ∧
      Steps p.tables e below (T.setTop g) ((B.U.setTop { g with stack := rest }).pushFrame (.throwing q))) := by
  obtain ⟨mk, methM, hnamed, hmethM, hstM, habM⟩ := Cond.instanceMethod_spec hinst
  obtain ⟨methM', cM, hmethM', -, -, -, -, -, -, hsigM⟩ := Cond.code_spec hnamed hcode
  cases hmethM.symm.trans hmethM'
  obtain ⟨c2, r2, m2, q1, q2, q3, q4, kP, hkP, hkPi⟩ := Cond.selects_spec hsel
  cases hcls.symm.trans q1
  cases (State.methodFound?_of_named hnamed hy).symm.trans q2
  cases hnamed.symm.trans q3
  have hselP : selectMethod e.platform s.vm cellB.cls mk = .method mk := by rw [Launch.admits_selectMethod X.admits]; exact q4
  obtain ⟨vm₁, X₁, hstep₁⟩ := X.invokevirtual hexec hown hlink hnamed hmethM hstM hkP hkPi hy (a := b) (cell := cellB) hcell
    (fun z h => by rw [h] at hobj; cases hobj) hselP hmethM habM hkP hkPi (g := g) hg (argsL := argsL) (rest := rest) (hlen _ hsigM) hstack hdg
  rcases hK m meth c ⟨T.setVm vm₁, locs, cells, slots⟩ { g with stack := rest } (.invokevirtual index) mk (Value.ref b :: argsL).toArray X₁ hg hsize hdg hW (X₁.named hnamed) (hpre vm₁ X₁.warmed) with ⟨v, B, X', hpost, hsteps⟩ | ⟨q, B, X', hpost, hsteps⟩
  · exact Or.inl ⟨v, vm₁, B, X₁.warmed, X', hpost, fun target h => hstep₁ _ fun acts => by rw [doInvoke_state]; exact hsteps.trans h⟩
  · exact Or.inr ⟨q, vm₁, B, X₁.warmed, X', hpost, hstep₁ _ fun acts => by rw [doInvoke_state]; exact hsteps⟩
theorem vx_callS (X : Stand p l e R s m args below meth c T locs cells slots) (hexec : p.tables.exec = Jvm.exec) {own : String} {index : Nat} {y : MethodName} {bytes : ByteArray} {maxL : Nat} {ret : Option FieldType}
    (hown : s.vm.findClass own = some m.cls) (hlink : (Cond.methodLink own index y).before args s = true) (hstat : (Cond.static y).before args s = true) (hinit : (Cond.initialized y.cls).before args s = true)
    (hcode : (Cond.code y bytes maxL ret).before args s = true) (hy : y.cls ≠ "java/lang/invoke/MethodHandle" ∧ y.cls ≠ "java/lang/invoke/VarHandle")
    {W9 : Nat} {Pre : Pt → Array Value → Prop} {Post : Pt → Array Value → Option Value → Pt → Prop} {PostX : Pt → Array Value → Addr → Pt → Prop} (hK : vx_Back l R p e below s args y 3 W9 Pre Post PostX)
    {g : JFrame} (hg : g.method = m) (hsize : g.locals.size = c.maxLocals) {argsL rest : List Value} (hlen : ∀ sig, parseMethodDescriptor y.desc = some sig → argsL.length = sig.parameters.length)
    (hstack : g.stack = argsL.reverse ++ rest) (hW : 2 * g.monitorRoom + (rest.map fun v => v.category).sum ≤ W9) (hdg : decode c.code g.pc = .ok (.invokestatic index, 3))
    (hpre : ∀ vm₁, s.WarmedH vm₁ → Pre ⟨T.setVm vm₁, locs, cells, slots⟩ argsL.toArray) :
    (∃ (v : Option Value) (vm₁ : Vm) (B : Pt), s.WarmedH vm₁ ∧ Stand p l e R s m args below meth c B.U B.locs B.cells B.slots ∧ Post ⟨T.setVm vm₁, locs, cells, slots⟩ argsL.toArray v B ∧
      ∀ target, Steps p.tables e below (B.U.setTop { g with pc := g.pc + 3, stack := v.toList ++ rest }) target → Steps p.tables e below (T.setTop g) target) ∨
    (∃ (q : Addr) (vm₁ : Vm) (B : Pt), s.WarmedH vm₁ ∧ Stand p l e R s m args below meth c B.U B.locs B.cells B.slots ∧ PostX ⟨T.setVm vm₁, locs, cells, slots⟩ argsL.toArray q B ∧
      Steps p.tables e below (T.setTop g) ((B.U.setTop { g with stack := rest }).pushFrame (.throwing q))) := by
  obtain ⟨mk, hnamed⟩ := Cond.code_named hcode
  obtain ⟨methM, cM, hmethM, -, -, -, -, -, -, hsigM⟩ := Cond.code_spec hnamed hcode
  have hstatic : methM.isStatic = true := Cond.static_spec hnamed hmethM hstat
  obtain ⟨kP, hkP, -⟩ := className_of_methodNamed hnamed
  have hinitP : kP.init = .initialized := Cond.initialized_spec (findClass_of_methodNamed hnamed) hkP hinit
  obtain ⟨vm₁, X₁, hstep₁⟩ := X.invokestatic hexec hown hlink hnamed hmethM hstatic hkP hinitP hy (g := g) hg (argsL := argsL) (rest := rest) (hlen _ hsigM) hstack hdg
  rcases hK m meth c ⟨T.setVm vm₁, locs, cells, slots⟩ { g with stack := rest } (.invokestatic index) mk argsL.toArray X₁ hg hsize hdg hW (X₁.named hnamed) (hpre vm₁ X₁.warmed) with ⟨v, B, X', hpost, hsteps⟩ | ⟨q, B, X', hpost, hsteps⟩
  · exact Or.inl ⟨v, vm₁, B, X₁.warmed, X', hpost, fun target h => hstep₁ _ fun acts => by rw [doInvoke_state]; exact hsteps.trans h⟩
  · exact Or.inr ⟨q, vm₁, B, X₁.warmed, X', hpost, hstep₁ _ fun acts => by rw [doInvoke_state]; exact hsteps⟩
end Calls
theorem vx_cls {s : State} {T : State} {vm₁ : Vm} {E : String} {k : ClassId} (hW : s.WarmedH vm₁) (h : (T.setVm vm₁).vm.findClass E = some k) : s.vm.findClass E = some k := by
  have h1 : vm₁.findClass E = some k := h
  rw [hW.alike.findClass] at h1
  exact h1
/-- the method's frame g, with q thrown over it -/
def vx_W (p : Program) (l : Launch) (e : Env) (R : Room) (s : State) (m : MethodId) (args : Array Value) (below : List Frame) (meth : Method) (c : Code) (H : Heap) (locs : List Loc) (cells slots : Nat) (Q : State → Prop) (g : JFrame) (q : Addr) : Prop :=
  ∀ T : State, T.heap = H → Stand p l e R s m args below meth c T locs cells slots → ∃ t, Steps p.tables e below ((T.setTop g).pushFrame (.throwing q)) t ∧ Q t
def vx_Run (p : Program) (l : Launch) (e : Env) (R : Room) (s : State) (m : MethodId) (args : Array Value) (below : List Frame) (meth : Method) (c : Code) (H : Heap) (locs : List Loc) (cells slots mc ms : Nat) (g : JFrame) (rest : List Value) (Qa : State → Outcome → State → Prop) (XC : String → State → State → Prop) (free : Addr → Prop) : Prop :=
  ∀ T : State, T.heap = H → Stand p l e R s m args below meth c T locs cells slots →
    (∃ (v : Option Value) (st₀ t T' : State) (L : List Loc), st₀.heap = H ∧ Stand p l e R s m args below meth c T' (locs ++ L) (cells + mc) (slots + ms) ∧ (∀ q ∈ L, free q.base) ∧ T'.heap = t.heap ∧ T'.vm = t.vm ∧ Qa st₀ (.returned v) t ∧
      Goes p e below T g T' { g with pc := g.pc + 3, stack := v.toList ++ rest }) ∨
    (∃ (q : Addr) (st₀ t T' : State) (L : List Loc) (E : String) (ce : Cell), st₀.heap = H ∧ Stand p l e R s m args below meth c T' (locs ++ L) (cells + mc) (slots + ms) ∧ (∀ z ∈ L, free z.base) ∧ T'.heap = t.heap ∧ T'.vm = t.vm ∧ XC E st₀ t ∧ t.heap[q]? = some ce ∧ ce.vm = .none ∧ s.vm.findClass E = some ce.cls ∧
      Steps p.tables e below (T.setTop g) ((T'.setTop { g with stack := rest }).pushFrame (.throwing q)))
def vx_X {S : Type} (px : S → Prop) (B : String → S → State → Prop) (A : Nat → Prop) : String → State → State → Prop := fun E st t => ∃ u : S, px u ∧ B E u t ∧ va_F A st t
section Runs
variable {p : Program} {l : Launch} {e : Env} {R : Room} {s : State} {m : MethodId} {args : Array Value} {below : List Frame} {meth : Method} {c : Code} {H : Heap} {locs : List Loc} {cells slots : Nat}
variable {y : MethodName} {bytes cc : ByteArray} {maxL nL mc ms n index : Nat} {ret : Option FieldType} {ws : List Cond} {rm : Room} {Pc : Array Value → State → Prop} {Qc : Array Value → State → Outcome → State → Prop} {XC : String → State → State → Prop} {free : Addr → Prop} {Ts : List Cond} {own C : String} {b : Addr} {As rest : List Value} {g : JFrame}
theorem vx_callBack (cb : CallB R s args own index y bytes maxL ret ws rm mc ms n) (hM : vx_Met l y ws rm Pc Qc XC mc ms free) (hbl : FrameBlind Pc) : vx_Back l R p e below s args y 3 8 (PreOf R mc ms Pc) (PostOf Qc mc ms free) (vx_Post XC mc ms free) := by
  obtain ⟨hrc, hrs, hfr, hlo, hws, hcw, -, hini, -⟩ := cb
  exact vx_back (bytes := bytes) (maxL := maxL) (ret := ret) hM hbl hrc hrs hfr hlo hws hcw (fun a' U hW => word_at hW (Or.inl (by first | rfl | simp [Cond.onTables, Cond.keeps, Cond.steady])) hini)
theorem vx_runV (S : CallFix p m c cc nL s args Ts own) (hM : vx_Met l y ws rm Pc Qc XC mc ms free) (cw : CallW R s args own C index y bytes maxL ret ws rm mc ms n) (hp : PreV s H C b Pc As)
    (hg : g.method = m) (hn : As.length = n) (hsize : g.locals.size = nL) (hstack : g.stack = As.reverse ++ .ref b :: rest) (hW : 2 * g.monitorRoom + (rest.map fun v => v.category).sum ≤ 8) (hdg : decode cc g.pc = .ok (.invokevirtual index, 3)) (hf : cells + mc ≤ R.cells ∧ slots + ms ≤ R.slots) :
    vx_Run p l e R s m args below meth c H locs cells slots mc ms g rest (Qc (Value.ref b :: As).toArray) XC free := by
  have hK : vx_Back l R p e below s args y 3 8 (PreOf R mc ms Pc) (PostOf Qc mc ms free) (vx_Post XC mc ms free) := vx_callBack cw.1 hM hp.1
  obtain ⟨⟨-, -, -, -, -, -, hcode, -, hy, hlen, hl⟩, hin, hse⟩ := cw
  obtain ⟨hx, hb, hml, ho, -⟩ := S
  obtain ⟨-, ⟨cellB, hcB, hoB, hclB⟩, hPc⟩ := hp
  intro T hT X
  rcases vx_callV X hx (C := C) (bytes := bytes) (maxL := maxL) (ret := ret) ho hl hin hse hcode hy hK (by rw [hT]; exact hcB) hoB hclB hg (hsize.trans hml.symm) (argsL := As) (rest := rest) (fun sig h => hn.trans (hlen sig h)) hstack hW (by rw [hb]; exact hdg)
    (fun vm₁ hW₁ => ⟨hf.1, hf.2, hPc (T.setVm vm₁) hT hW₁⟩) with ⟨v, vm₁, ⟨U', l2, c2, s2⟩, hW₁, X', ⟨g', mk, t, L, e1, e2, hq, h1, hL, h2, h3⟩, st⟩ | ⟨q, vm₁, ⟨U', l2, c2, s2⟩, hW₁, X', ⟨g', mk, t, L, E, ce, e1, e2, hq, hce, hcv, hcl, h1, hL, h2, h3⟩, st⟩
  · dsimp only [Pt.U, Pt.locs, Pt.cells, Pt.slots] at X' e1 e2 h1 h2 h3 st
    subst h1; subst h2; subst h3
    exact Or.inl ⟨v, (T.setVm vm₁).calling g' mk (Value.ref b :: As).toArray, t, U', L, hT, X', hL, e1, e2, hq, st⟩
  · dsimp only [Pt.U, Pt.locs, Pt.cells, Pt.slots] at X' e1 e2 h1 h2 h3 st hcl
    subst h1; subst h2; subst h3
    exact Or.inr ⟨q, (T.setVm vm₁).calling g' mk (Value.ref b :: As).toArray, t, U', L, E, ce, hT, X', hL, e1, e2, hq, hce, hcv, vx_cls hW₁ hcl, st⟩
theorem vx_runS (S : CallFix p m c cc nL s args Ts own) (hM : vx_Met l y ws rm Pc Qc XC mc ms free) (cw : CallB R s args own index y bytes maxL ret ws rm mc ms n ∧ (Cond.static y).before args s = true) (hp : PreS s H Pc As)
    (hg : g.method = m) (hn : As.length = n) (hsize : g.locals.size = nL) (hstack : g.stack = As.reverse ++ rest) (hW : 2 * g.monitorRoom + (rest.map fun v => v.category).sum ≤ 8) (hdg : decode cc g.pc = .ok (.invokestatic index, 3)) (hf : cells + mc ≤ R.cells ∧ slots + ms ≤ R.slots) :
    vx_Run p l e R s m args below meth c H locs cells slots mc ms g rest (Qc As.toArray) XC free := by
  have hK : vx_Back l R p e below s args y 3 8 (PreOf R mc ms Pc) (PostOf Qc mc ms free) (vx_Post XC mc ms free) := vx_callBack cw.1 hM hp.1
  obtain ⟨⟨-, -, -, -, -, -, hcode, hini, hy, hlen, hl⟩, hstt⟩ := cw
  obtain ⟨hx, hb, hml, ho, -⟩ := S
  intro T hT X
  rcases vx_callS X hx (bytes := bytes) (maxL := maxL) (ret := ret) ho hl hstt hini hcode hy hK hg (hsize.trans hml.symm) (argsL := As) (rest := rest) (fun sig h => hn.trans (hlen sig h)) hstack hW (by rw [hb]; exact hdg)
    (fun vm₁ hW₁ => ⟨hf.1, hf.2, hp.2 (T.setVm vm₁) hT hW₁⟩) with ⟨v, vm₁, ⟨U', l2, c2, s2⟩, hW₁, X', ⟨g', mk, t, L, e1, e2, hq, h1, hL, h2, h3⟩, st⟩ | ⟨q, vm₁, ⟨U', l2, c2, s2⟩, hW₁, X', ⟨g', mk, t, L, E, ce, e1, e2, hq, hce, hcv, hcl, h1, hL, h2, h3⟩, st⟩
  · dsimp only [Pt.U, Pt.locs, Pt.cells, Pt.slots] at X' e1 e2 h1 h2 h3 st
    subst h1; subst h2; subst h3
    exact Or.inl ⟨v, (T.setVm vm₁).calling g' mk As.toArray, t, U', L, hT, X', hL, e1, e2, hq, st⟩
  · dsimp only [Pt.U, Pt.locs, Pt.cells, Pt.slots] at X' e1 e2 h1 h2 h3 st hcl
    subst h1; subst h2; subst h3
    exact Or.inr ⟨q, (T.setVm vm₁).calling g' mk As.toArray, t, U', L, E, ce, hT, X', hL, e1, e2, hq, hce, hcv, vx_cls hW₁ hcl, st⟩
end Runs
section Rows
variable {p : Program} {l : Launch} {e : Env} {R : Room} {s : State} {m : MethodId} {args : Array Value} {below : List Frame} {meth : Method} {c : Code} {H : Heap} {locs : List Loc} {cells slots : Nat} {Q : State → Prop}
variable {mc ms : Nat} {free : Addr → Prop} {A0 A1 : Nat → Prop} {H0 : Heap} {a : Array Value} {pc : Nat} {ls : Array Slot} {st0 rest : List Value}
theorem vx_keep {st₀ t T' : State} {L : List Loc} (h0 : st₀.heap = H) (e1 : T'.heap = t.heap) (hS : va_S A0 H0 H locs) (hA : ∀ q, q < H.size → A1 q → A0 q) (hf : ∀ q, free q → A0 q) (hL : ∀ q ∈ L, free q.base) (hF : va_F A1 st₀ t) :
    H.size ≤ T'.heap.size ∧ (∀ q : Nat, q < H.size → ¬ A1 q → T'.heap[q]? = H[q]?) ∧ va_S A0 H0 T'.heap (locs ++ L) := by
  obtain ⟨hz, hk⟩ := hF
  rw [h0] at hz hk
  exact ⟨by rw [e1]; exact hz, fun q h1 h2 => by rw [e1]; exact hk q h1 h2,
    ⟨Nat.le_trans hS.1 (by rw [e1]; exact hz), fun q h1 h2 => by rw [e1, hk q (Nat.lt_of_lt_of_le h1 hS.1) (fun z => h2 (hA q (Nat.lt_of_lt_of_le h1 hS.1) z))]; exact hS.2.1 q h1 h2, fun q hq => by
      rcases List.mem_append.mp hq with h | h
      · exact hS.2.2 q h
      · exact hf _ (hL q h)⟩⟩
theorem vx_calli {S SX : Type} {post : Int32 → S → Prop} {px : SX → Prop} {B : S → State → Prop} {BX : String → SX → State → Prop} {AX : Nat → Prop} (hr : vx_Run p l e R s m args below meth c H locs cells slots mc ms (F0 m pc ls st0) rest (va_Qi post B A1 a) (vx_X px BX AX) free) (hS : va_S A0 H0 H locs) (hA : ∀ q, q < H.size → A1 q → A0 q) (hf : ∀ q, free q → A0 q) (hAX : ∀ q, q < H.size → AX q → A0 q)
    (kx : ∀ (E : String) (ce : Cell) (q9 : Addr) (u : SX) (t : State) (H1 : Heap) (locs1 : List Loc), t.heap = H1 → s.vm.Alike t.vm → px u → BX E u t → H.size ≤ H1.size → (∀ q : Nat, q < H.size → ¬ AX q → H1[q]? = H[q]?) → va_S A0 H0 H1 locs1 → H1[q9]? = some ce → ce.vm = .none → s.vm.findClass E = some ce.cls → vx_W p l e R s m args below meth c H1 locs1 (cells + mc) (slots + ms) Q (F0 m pc ls rest) q9)
    (kk : ∀ (r : Int32) (u : S) (t : State) (H1 : Heap) (locs1 : List Loc), t.heap = H1 → s.vm.Alike t.vm → post r u → B u t → H.size ≤ H1.size → (∀ q : Nat, q < H.size → ¬ A1 q → H1[q]? = H[q]?) → va_S A0 H0 H1 locs1 → W p l e R s m args below meth c H1 locs1 (cells + mc) (slots + ms) Q (F0 m (pc + 3) ls (.int r :: rest))) : W p l e R s m args below meth c H locs cells slots Q (F0 m pc ls st0) := by
  intro T hT X
  rcases hr T hT X with ⟨v, st₀, t, T', L, h0, X', hL, e1, e2, ⟨⟨r, u, hv, hp, hb⟩, hF⟩, st⟩ | ⟨q, st₀, t, T', L, E, ce, h0, X', hL, e1, e2, ⟨u, hp, hb, hF⟩, hce, hcv, hcl, st⟩
  · cases hv
    obtain ⟨k1, k2, k3⟩ := vx_keep h0 e1 hS hA hf hL hF
    obtain ⟨t2, a1, b1⟩ := kk r u t T'.heap (locs ++ L) e1.symm (by rw [← e2]; exact X'.warmed.alike) hp hb k1 k2 k3 T' rfl X'
    exact ⟨t2, st t2 a1, b1⟩
  · obtain ⟨k1, k2, k3⟩ := vx_keep h0 e1 hS hAX hf hL hF
    obtain ⟨t2, a1, b1⟩ := kx E ce q u t T'.heap (locs ++ L) e1.symm (by rw [← e2]; exact X'.warmed.alike) hp hb k1 k2 k3 (by rw [e1]; exact hce) hcv hcl T' rfl X'
    exact ⟨t2, st.trans a1, b1⟩
theorem vx_calll {S SX : Type} {post : Int64 → S → Prop} {px : SX → Prop} {B : S → State → Prop} {BX : String → SX → State → Prop} {AX : Nat → Prop} (hr : vx_Run p l e R s m args below meth c H locs cells slots mc ms (F0 m pc ls st0) rest (va_Ql post B A1 a) (vx_X px BX AX) free) (hS : va_S A0 H0 H locs) (hA : ∀ q, q < H.size → A1 q → A0 q) (hf : ∀ q, free q → A0 q) (hAX : ∀ q, q < H.size → AX q → A0 q)
    (kx : ∀ (E : String) (ce : Cell) (q9 : Addr) (u : SX) (t : State) (H1 : Heap) (locs1 : List Loc), t.heap = H1 → s.vm.Alike t.vm → px u → BX E u t → H.size ≤ H1.size → (∀ q : Nat, q < H.size → ¬ AX q → H1[q]? = H[q]?) → va_S A0 H0 H1 locs1 → H1[q9]? = some ce → ce.vm = .none → s.vm.findClass E = some ce.cls → vx_W p l e R s m args below meth c H1 locs1 (cells + mc) (slots + ms) Q (F0 m pc ls rest) q9)
    (kk : ∀ (r : Int64) (u : S) (t : State) (H1 : Heap) (locs1 : List Loc), t.heap = H1 → s.vm.Alike t.vm → post r u → B u t → H.size ≤ H1.size → (∀ q : Nat, q < H.size → ¬ A1 q → H1[q]? = H[q]?) → va_S A0 H0 H1 locs1 → W p l e R s m args below meth c H1 locs1 (cells + mc) (slots + ms) Q (F0 m (pc + 3) ls (.long r :: rest))) : W p l e R s m args below meth c H locs cells slots Q (F0 m pc ls st0) := by
  intro T hT X
  rcases hr T hT X with ⟨v, st₀, t, T', L, h0, X', hL, e1, e2, ⟨⟨r, u, hv, hp, hb⟩, hF⟩, st⟩ | ⟨q, st₀, t, T', L, E, ce, h0, X', hL, e1, e2, ⟨u, hp, hb, hF⟩, hce, hcv, hcl, st⟩
  · cases hv
    obtain ⟨k1, k2, k3⟩ := vx_keep h0 e1 hS hA hf hL hF
    obtain ⟨t2, a1, b1⟩ := kk r u t T'.heap (locs ++ L) e1.symm (by rw [← e2]; exact X'.warmed.alike) hp hb k1 k2 k3 T' rfl X'
    exact ⟨t2, st t2 a1, b1⟩
  · obtain ⟨k1, k2, k3⟩ := vx_keep h0 e1 hS hAX hf hL hF
    obtain ⟨t2, a1, b1⟩ := kx E ce q u t T'.heap (locs ++ L) e1.symm (by rw [← e2]; exact X'.warmed.alike) hp hb k1 k2 k3 (by rw [e1]; exact hce) hcv hcl T' rfl X'
    exact ⟨t2, st.trans a1, b1⟩
theorem vx_callf {S SX : Type} {post : UInt32 → S → Prop} {px : SX → Prop} {B : S → State → Prop} {BX : String → SX → State → Prop} {AX : Nat → Prop} (hr : vx_Run p l e R s m args below meth c H locs cells slots mc ms (F0 m pc ls st0) rest (va_Qf post B A1 a) (vx_X px BX AX) free) (hS : va_S A0 H0 H locs) (hA : ∀ q, q < H.size → A1 q → A0 q) (hf : ∀ q, free q → A0 q) (hAX : ∀ q, q < H.size → AX q → A0 q)
    (kx : ∀ (E : String) (ce : Cell) (q9 : Addr) (u : SX) (t : State) (H1 : Heap) (locs1 : List Loc), t.heap = H1 → s.vm.Alike t.vm → px u → BX E u t → H.size ≤ H1.size → (∀ q : Nat, q < H.size → ¬ AX q → H1[q]? = H[q]?) → va_S A0 H0 H1 locs1 → H1[q9]? = some ce → ce.vm = .none → s.vm.findClass E = some ce.cls → vx_W p l e R s m args below meth c H1 locs1 (cells + mc) (slots + ms) Q (F0 m pc ls rest) q9)
    (kk : ∀ (r : UInt32) (u : S) (t : State) (H1 : Heap) (locs1 : List Loc), t.heap = H1 → s.vm.Alike t.vm → post r u → B u t → H.size ≤ H1.size → (∀ q : Nat, q < H.size → ¬ A1 q → H1[q]? = H[q]?) → va_S A0 H0 H1 locs1 → W p l e R s m args below meth c H1 locs1 (cells + mc) (slots + ms) Q (F0 m (pc + 3) ls (.float r :: rest))) : W p l e R s m args below meth c H locs cells slots Q (F0 m pc ls st0) := by
  intro T hT X
  rcases hr T hT X with ⟨v, st₀, t, T', L, h0, X', hL, e1, e2, ⟨⟨r, u, hv, hp, hb⟩, hF⟩, st⟩ | ⟨q, st₀, t, T', L, E, ce, h0, X', hL, e1, e2, ⟨u, hp, hb, hF⟩, hce, hcv, hcl, st⟩
  · cases hv
    obtain ⟨k1, k2, k3⟩ := vx_keep h0 e1 hS hA hf hL hF
    obtain ⟨t2, a1, b1⟩ := kk r u t T'.heap (locs ++ L) e1.symm (by rw [← e2]; exact X'.warmed.alike) hp hb k1 k2 k3 T' rfl X'
    exact ⟨t2, st t2 a1, b1⟩
  · obtain ⟨k1, k2, k3⟩ := vx_keep h0 e1 hS hAX hf hL hF
    obtain ⟨t2, a1, b1⟩ := kx E ce q u t T'.heap (locs ++ L) e1.symm (by rw [← e2]; exact X'.warmed.alike) hp hb k1 k2 k3 (by rw [e1]; exact hce) hcv hcl T' rfl X'
    exact ⟨t2, st.trans a1, b1⟩
theorem vx_calld {S SX : Type} {post : UInt64 → S → Prop} {px : SX → Prop} {B : S → State → Prop} {BX : String → SX → State → Prop} {AX : Nat → Prop} (hr : vx_Run p l e R s m args below meth c H locs cells slots mc ms (F0 m pc ls st0) rest (va_Qd post B A1 a) (vx_X px BX AX) free) (hS : va_S A0 H0 H locs) (hA : ∀ q, q < H.size → A1 q → A0 q) (hf : ∀ q, free q → A0 q) (hAX : ∀ q, q < H.size → AX q → A0 q)
    (kx : ∀ (E : String) (ce : Cell) (q9 : Addr) (u : SX) (t : State) (H1 : Heap) (locs1 : List Loc), t.heap = H1 → s.vm.Alike t.vm → px u → BX E u t → H.size ≤ H1.size → (∀ q : Nat, q < H.size → ¬ AX q → H1[q]? = H[q]?) → va_S A0 H0 H1 locs1 → H1[q9]? = some ce → ce.vm = .none → s.vm.findClass E = some ce.cls → vx_W p l e R s m args below meth c H1 locs1 (cells + mc) (slots + ms) Q (F0 m pc ls rest) q9)
    (kk : ∀ (r : UInt64) (u : S) (t : State) (H1 : Heap) (locs1 : List Loc), t.heap = H1 → s.vm.Alike t.vm → post r u → B u t → H.size ≤ H1.size → (∀ q : Nat, q < H.size → ¬ A1 q → H1[q]? = H[q]?) → va_S A0 H0 H1 locs1 → W p l e R s m args below meth c H1 locs1 (cells + mc) (slots + ms) Q (F0 m (pc + 3) ls (.double r :: rest))) : W p l e R s m args below meth c H locs cells slots Q (F0 m pc ls st0) := by
  intro T hT X
  rcases hr T hT X with ⟨v, st₀, t, T', L, h0, X', hL, e1, e2, ⟨⟨r, u, hv, hp, hb⟩, hF⟩, st⟩ | ⟨q, st₀, t, T', L, E, ce, h0, X', hL, e1, e2, ⟨u, hp, hb, hF⟩, hce, hcv, hcl, st⟩
  · cases hv
    obtain ⟨k1, k2, k3⟩ := vx_keep h0 e1 hS hA hf hL hF
    obtain ⟨t2, a1, b1⟩ := kk r u t T'.heap (locs ++ L) e1.symm (by rw [← e2]; exact X'.warmed.alike) hp hb k1 k2 k3 T' rfl X'
    exact ⟨t2, st t2 a1, b1⟩
  · obtain ⟨k1, k2, k3⟩ := vx_keep h0 e1 hS hAX hf hL hF
    obtain ⟨t2, a1, b1⟩ := kx E ce q u t T'.heap (locs ++ L) e1.symm (by rw [← e2]; exact X'.warmed.alike) hp hb k1 k2 k3 (by rw [e1]; exact hce) hcv hcl T' rfl X'
    exact ⟨t2, st.trans a1, b1⟩
theorem vx_callv {S SX : Type} {post : S → Prop} {px : SX → Prop} {B : S → State → Prop} {BX : String → SX → State → Prop} {AX : Nat → Prop} (hr : vx_Run p l e R s m args below meth c H locs cells slots mc ms (F0 m pc ls st0) rest (va_Qv post B A1 a) (vx_X px BX AX) free) (hS : va_S A0 H0 H locs) (hA : ∀ q, q < H.size → A1 q → A0 q) (hf : ∀ q, free q → A0 q) (hAX : ∀ q, q < H.size → AX q → A0 q)
    (kx : ∀ (E : String) (ce : Cell) (q9 : Addr) (u : SX) (t : State) (H1 : Heap) (locs1 : List Loc), t.heap = H1 → s.vm.Alike t.vm → px u → BX E u t → H.size ≤ H1.size → (∀ q : Nat, q < H.size → ¬ AX q → H1[q]? = H[q]?) → va_S A0 H0 H1 locs1 → H1[q9]? = some ce → ce.vm = .none → s.vm.findClass E = some ce.cls → vx_W p l e R s m args below meth c H1 locs1 (cells + mc) (slots + ms) Q (F0 m pc ls rest) q9)
    (kk : ∀ (u : S) (t : State) (H1 : Heap) (locs1 : List Loc), t.heap = H1 → s.vm.Alike t.vm → post u → B u t → H.size ≤ H1.size → (∀ q : Nat, q < H.size → ¬ A1 q → H1[q]? = H[q]?) → va_S A0 H0 H1 locs1 → W p l e R s m args below meth c H1 locs1 (cells + mc) (slots + ms) Q (F0 m (pc + 3) ls (rest))) : W p l e R s m args below meth c H locs cells slots Q (F0 m pc ls st0) := by
  intro T hT X
  rcases hr T hT X with ⟨v, st₀, t, T', L, h0, X', hL, e1, e2, ⟨⟨u, hv, hp, hb⟩, hF⟩, st⟩ | ⟨q, st₀, t, T', L, E, ce, h0, X', hL, e1, e2, ⟨u, hp, hb, hF⟩, hce, hcv, hcl, st⟩
  · cases hv
    obtain ⟨k1, k2, k3⟩ := vx_keep h0 e1 hS hA hf hL hF
    obtain ⟨t2, a1, b1⟩ := kk u t T'.heap (locs ++ L) e1.symm (by rw [← e2]; exact X'.warmed.alike) hp hb k1 k2 k3 T' rfl X'
    exact ⟨t2, st t2 a1, b1⟩
  · obtain ⟨k1, k2, k3⟩ := vx_keep h0 e1 hS hAX hf hL hF
    obtain ⟨t2, a1, b1⟩ := kx E ce q u t T'.heap (locs ++ L) e1.symm (by rw [← e2]; exact X'.warmed.alike) hp hb k1 k2 k3 (by rw [e1]; exact hce) hcv hcl T' rfl X'
    exact ⟨t2, st.trans a1, b1⟩
/-- caught by the row x of this method's table; the rows ahead don't take it -/
theorem vx_catch {own name : String} {E : String} {ce : Cell} {q : Addr} (hown : s.vm.findClass own = some m.cls) (pre : List ExceptionTableEntry) (x : ExceptionTableEntry) (suf : List ExceptionTableEntry) (hsplit : c.exceptionTable.toList = pre ++ x :: suf)
    (hpass : ∀ z ∈ pre, covers z pc = false ∨ (z.catchType ≠ 0 ∧ ∃ nm : String, (Cond.classLink own z.catchType nm).before args s = true ∧ va_Nc E nm s)) (hx : covers x pc = true) (h0 : x.catchType ≠ 0)
    (hlink : (Cond.classLink own x.catchType name).before args s = true) (hcast : (Cond.castable E name).before args s = true) (hcell : H[q]? = some ce) (hv : ce.vm = .none) (hcl : s.vm.findClass E = some ce.cls)
    (kk : W p l e R s m args below meth c H locs cells slots Q (F0 m x.handlerPc ls [.ref q])) : vx_W p l e R s m args below meth c H locs cells slots Q (F0 m pc ls rest) q := by
  intro T hT X
  have hpl : e.platform.magicAccessors = ({} : Platform).magicAccessors := by rw [X.admits.platform]
  obtain ⟨c3, c4, hc3, hc4, hasg⟩ := Cond.castable_spec hcast
  cases Option.some.inj (hc3.symm.trans hcl)
  obtain ⟨c5, hc5, hcl5⟩ := Cond.classLink_spec hown hlink e.platform hpl
  cases Option.some.inj (hc4.symm.trans hc5)
  obtain ⟨vm', X', st⟩ := X.thenCaughtThrough q (g := F0 m pc ls rest) rfl (Steps.refl _) (by rw [hT]; exact hcell) (by rw [hv]; rfl) (by obtain ⟨k9, h9, -⟩ := Vm.findClass_spec hcl; exact ⟨k9, h9⟩) pre x suf hsplit
    (fun z hz => by
      rcases hpass z hz with h | ⟨hz0, nm, hl1, hn1⟩
      · exact Or.inl h
      · obtain ⟨c6, hc6, hcl6⟩ := Cond.classLink_spec hown hl1 e.platform hpl
        obtain ⟨a8, b8, h1, h2, h3⟩ := hn1
        cases Option.some.inj (h1.symm.trans hcl)
        cases Option.some.inj (h2.symm.trans hc6)
        exact Or.inr ⟨hz0, _, hcl6, h3⟩) hx (Or.inr ⟨h0, c4, hcl5, hasg⟩)
  obtain ⟨t, a1, b1⟩ := kk (T.setVm vm') hT X'
  exact ⟨t, st.trans a1, b1⟩
end Rows
section Ends
variable {p : Program} {l : Launch} {e : Env} {R : Room} {s : State} {m : MethodId} {args : Array Value} {below : List Frame} {meth : Method} {c : Code} {H : Heap} {locs : List Loc} {cells slots : Nat} {Q : State → Prop}
variable {mc ms : Nat} {free : Addr → Prop} {A0 A1 : Nat → Prop} {H0 : Heap} {a : Array Value} {ls : Array Slot} {st0 rest : List Value}
variable {Qc : Array Value → State → Outcome → State → Prop} {XC : String → State → State → Prop}
/-- what a body that may throw owes at its end -/
def vx_MQ (below : List Frame) (Qc : Array Value → State → Outcome → State → Prop) (XC : String → State → State → Prop) (a : Array Value) (s : State) (mc ms : Nat) (free : Addr → Prop) : State → Prop := fun t =>
  ∃ o, t.status = .running ∧ Ended t below o ∧ vx_Q Qc XC mc ms free a s o t
theorem vx_ret {g : JFrame} {mc ms : Nat} (k : W p l e R s m args below meth c H locs cells slots (MQ below Qc args s mc ms free) g) : W p l e R s m args below meth c H locs cells slots (vx_MQ below Qc XC args s mc ms free) g := by
  intro T hT X
  obtain ⟨t, a1, o, b1, b2, b3, b4⟩ := k T hT X
  exact ⟨t, a1, o, b1, b2, Or.inl ⟨b3, b4⟩⟩
/-- not caught here: it goes on to the caller -/
theorem vx_widen {g : JFrame} {q : Addr} {k n : Nat} (h1 : cells ≤ k) (h2 : slots ≤ n) (kk : vx_W p l e R s m args below meth c H locs k n Q g q) : vx_W p l e R s m args below meth c H locs cells slots Q g q := fun T hT X => kk T hT (stand_widen X h1 h2)
theorem vx_out {pc : Nat} {E : String} {ce : Cell} {q : Addr} {mc ms : Nat} (hout : ∀ x ∈ c.exceptionTable.toList, covers x pc = false) (hlocks : meth.locks = false) (hcell : H[q]? = some ce) (hv : ce.vm = .none) (hcl : s.vm.findClass E = some ce.cls)
    (hx : ∀ t : State, t.heap = H → s.vm.Alike t.vm → XC E s t) (hf : ∀ z ∈ locs, free z.base) (hc : cells ≤ mc) (hs : slots ≤ ms) :
    vx_W p l e R s m args below meth c H locs cells slots (vx_MQ below Qc XC args s mc ms free) (F0 m pc ls rest) q := by
  intro T hT X
  obtain ⟨st1, hrun, hend, hW, hsm⟩ := X.leaveThrown q (g := F0 m pc ls rest) rfl rfl rfl hout hlocks
  have hcell9 : (T.setFrames (.throwing q :: below)).heap[q]? = some ce := by
    show T.heap[q]? = some ce
    rw [hT]; exact hcell
  exact ⟨_, st1, .threw q, hrun, hend, Or.inr ⟨q, rfl, E, ce, locs, hx _ hT hW.alike, hcell9, hv, hcl, hW, hsm.mono hc hs, hf⟩⟩
theorem vx_frame {U : State} {k n : Nat} (h : s.sameButNew ({ U with vm := s.vm } : State) locs k n) : s.heap.size ≤ U.heap.size ∧ ∀ q : Nat, q < s.heap.size → (∀ z ∈ locs, z.base ≠ q) → U.heap[q]? = s.heap[q]? := by
  obtain ⟨-, h2, -, -, -, h6⟩ := h
  refine ⟨h2, fun q hq hz => ?_⟩
  obtain ⟨c9, e1, e2, e3, e4⟩ := h6 q _ (Array.getElem?_eq_getElem hq)
  have hs : c9.slots = (s.heap[q]).slots := Array.ext_getElem? fun i => e4 i fun hm => hz _ hm rfl
  have h9 : c9 = s.heap[q] := by
    rw [hs] at e2
    exact e2
  have e5 : U.heap[q]? = some c9 := e1
  rw [e5, h9, Array.getElem?_eq_getElem hq]
/-- the words of a throw but the four that speak of the heap -/
def vx_no (w : Cond) : Bool := decide (w ≠ .isRef (.static Bundle.tN "UNASSIGNED_STACK" Bundle.steD)) && decide (w ≠ .isRef (.static Bundle.tN "SUPPRESSED_SENTINEL" Bundle.listD)) && decide (w ≠ .laysStatic Bundle.tN "UNASSIGNED_STACK" Bundle.steD) && decide (w ≠ .laysStatic Bundle.tN "SUPPRESSED_SENTINEL" Bundle.listD)
def vx_at0 (own : String) (ic : Nat) (X : String) (names : List String) : List Cond := (Bundle.ownAtoms0 own ic X names).filter vx_no
def vx_atS (own : String) (ic : Nat) (X : String) (names : List String) : List Cond := (Bundle.ownAtoms own ic X names).filter vx_no
/-- a word that the tables alone decide, or a good one -/
def vx_ot (w : Cond) : Bool := w.onTables || goodWord w
theorem vx_ot_at {args a' : Array Value} {s U : State} {w : Cond} (hW : s.WarmedH U.vm) (hvm : s.vm = U.vm) (hg : vx_ot w = true) (h : w.before args s = true) : w.before a' U = true := by
  simp only [vx_ot, Bool.or_eq_true] at hg
  rcases hg with hg | hg
  · exact va_tabs hg hvm h
  · exact word_at hW (good_of_word hg) h
/-- a list's words: the good ones out of the method's own list, the others by premises of their own -/
theorem vx_hat {args : Array Value} {s : State} {L B : List Cond} (h1 : ∀ w ∈ L.filter goodWord, w.before args s = true) (h2 : ∀ w ∈ L.filter (fun w => !goodWord w), w ∈ B) (h3 : ∀ w ∈ B, w.before args s = true) : ∀ w ∈ L, w.before args s = true := by
  intro w hw
  by_cases g : goodWord w = true
  · exact h1 w (List.mem_filter.mpr ⟨hw, g⟩)
  · refine h3 w (h2 w (List.mem_filter.mpr ⟨hw, ?_⟩))
    show (!goodWord w) = true
    cases hgw : goodWord w
    · rfl
    · exact absurd hgw g
theorem vx_c {args : Array Value} {s : State} {w : Cond} {B : List Cond} (h : w.before args s = true) (t : ∀ w ∈ B, w.before args s = true) : ∀ w' ∈ w :: B, w'.before args s = true := fun w' h' => (List.mem_cons.mp h').elim (fun e => by rw [e]; exact h) (t w')
theorem vx_n {args : Array Value} {s : State} : ∀ w ∈ ([] : List Cond), w.before args s = true := fun _ h => nomatch h
theorem vx_own {args : Array Value} {s : State} {L : List Cond} (h1 : ∀ w ∈ L.filter vx_no, w.before args s = true)
    (hU : (Cond.isRef (.static Bundle.tN "UNASSIGNED_STACK" Bundle.steD)).before args s = true) (hN : (Cond.isRef (.static Bundle.tN "SUPPRESSED_SENTINEL" Bundle.listD)).before args s = true)
    (lU : (Cond.laysStatic Bundle.tN "UNASSIGNED_STACK" Bundle.steD).before args s = true) (lN : (Cond.laysStatic Bundle.tN "SUPPRESSED_SENTINEL" Bundle.listD).before args s = true) : ∀ w ∈ L, w.before args s = true := by
  intro w hw
  by_cases e1 : w = .isRef (.static Bundle.tN "UNASSIGNED_STACK" Bundle.steD)
  · rw [e1]; exact hU
  · by_cases e2 : w = .isRef (.static Bundle.tN "SUPPRESSED_SENTINEL" Bundle.listD)
    · rw [e2]; exact hN
    · by_cases e3 : w = .laysStatic Bundle.tN "UNASSIGNED_STACK" Bundle.steD
      · rw [e3]; exact lU
      · by_cases e4 : w = .laysStatic Bundle.tN "SUPPRESSED_SENTINEL" Bundle.listD
        · rw [e4]; exact lN
        · exact h1 w (List.mem_filter.mpr ⟨hw, by unfold vx_no; rw [decide_eq_true e1, decide_eq_true e2, decide_eq_true e3, decide_eq_true e4]; rfl⟩)
/-- where a static field lies, its class's statics cell in H -/
def vx_L (C n d : String) (A : Nat → Prop) (U : State) (H : Heap) : Prop := ∃ (c : ClassId) (k : Class) (i : Nat) (f : Field) (a : Nat) (cell : Cell), U.vm.findClass C = some c ∧ U.fieldFound? C n d = some (c, k, i, f) ∧ f.isStatic = true ∧ k.statics = some a ∧ H[a]? = some cell ∧ cell.vm.isStatics = true ∧ cell.cls = c ∧ f.slot < cell.slots.size ∧ k.staticTypes[f.slot]? = some f.type ∧ ¬ A a
theorem vx_L.moved {C n d : String} {A : Nat → Prop} {u U : State} {H : Heap} (hvm : u.vm.Alike U.vm) (h : vx_L C n d A u H) : vx_L C n d A U H := by
  obtain ⟨c, k, i, f, a, cell, h1, h2, h3, h4, h5, h6, h7, h8, h9, h10⟩ := h
  obtain ⟨k', hi', he⟩ := State.fieldFound?_setVm hvm h2
  exact ⟨c, k', i, f, a, cell, by rw [hvm.findClass]; exact h1, hi', h3, by rw [he]; exact h4, h5, h6, h7, h8, by rw [he]; exact h9, h10⟩
theorem vx_L.kept {C n d : String} {A : Nat → Prop} {U : State} {H H1 : Heap} (h : vx_L C n d A U H) (hq : ∀ a : Nat, a < H.size → ¬ A a → H1[a]? = H[a]?) : vx_L C n d A U H1 := by
  obtain ⟨c, k, i, f, a, cell, h1, h2, h3, h4, h5, h6, h7, h8, h9, h10⟩ := h
  exact ⟨c, k, i, f, a, cell, h1, h2, h3, h4, by rw [hq a (Array.getElem?_eq_some_iff.mp h5).1 h10]; exact h5, h6, h7, h8, h9, h10⟩
theorem vx_L.narrow {C n d : String} {A B : Nat → Prop} {U : State} {H : Heap} (h : vx_L C n d A U H) (hAB : ∀ q, B q → A q) : vx_L C n d B U H := by
  obtain ⟨c, k, i, f, a, cell, h1, h2, h3, h4, h5, h6, h7, h8, h9, h10⟩ := h
  exact ⟨c, k, i, f, a, cell, h1, h2, h3, h4, h5, h6, h7, h8, h9, fun z => h10 (hAB _ z)⟩
theorem vx_L.word {C n d : String} {A : Nat → Prop} {s : State} {args : Array Value} (h : vx_L C n d A s s.heap) : (Cond.laysStatic C n d).before args s = true := by
  obtain ⟨c, k, i, f, a, cell, h1, h2, h3, h4, h5, h6, h7, h8, h9, -⟩ := h
  show (Cond.laysStatic C n d).holds args s none s [] = true
  exact Cond.laysStatic_of h1 h2 h3 h4 h5 h6 h7 h8 h9
/-- .. and what it holds: null or some reference -/
def vx_Zq (C n d : String) (A : Nat → Prop) (U : State) (H : Heap) : Prop := va_Zq C n d A U H ∧ vx_L C n d A U H
theorem vx_Zq.moved {C n d : String} {A : Nat → Prop} {u U : State} {H : Heap} (hvm : u.vm.Alike U.vm) (h : vx_Zq C n d A u H) : vx_Zq C n d A U H := ⟨va_Zq.moved hvm h.1, vx_L.moved hvm h.2⟩
theorem vx_Zq.kept {C n d : String} {A : Nat → Prop} {U : State} {H H1 : Heap} (h : vx_Zq C n d A U H) (hq : ∀ a : Nat, a < H.size → ¬ A a → H1[a]? = H[a]?) : vx_Zq C n d A U H1 := ⟨va_Zq.kept h.1 hq, vx_L.kept h.2 hq⟩
theorem vx_Zq.narrow {C n d : String} {A B : Nat → Prop} {U : State} {H : Heap} (h : vx_Zq C n d A U H) (hAB : ∀ q, B q → A q) : vx_Zq C n d B U H := ⟨va_Zq.narrow h.1 hAB, vx_L.narrow h.2 hAB⟩
theorem vx_Zqof {args : Array Value} {s : State} {C n d : String} {A : Nat → Prop} (hl : (Cond.laysStatic C n d).before args s = true) (hini : (Cond.initialized C).before args s = true) (h : (Cond.isRef (.static C n d)).before args s = true) (hA : ∀ a : Nat, a < s.heap.size → ¬ A a) : vx_Zq C n d A s s.heap := by
  refine ⟨va_Zqof hl hini h hA, ?_⟩
  obtain ⟨c, k, i, f, a, cell, h1, h2, h3, h4, h5, h6, h7, h8, h9⟩ := Cond.laysStatic_spec hl
  exact ⟨c, k, i, f, a, cell, h1, h2, h3, h4, h5, h6, h7, h8, h9, hA a (Array.getElem?_eq_some_iff.mp h5).1⟩
theorem vx_isRef {C n d : String} {v : Value} {A : Nat → Prop} {s : State} {args : Array Value} (h : va_Z C n d v A s s.heap) (hv : v.isRef = true) : (Cond.isRef (.static C n d)).before args s = true := by
  obtain ⟨cf, kf, fi, f, a, cell, h1, h2, h3, h4, h5, h6, h7, -⟩ := h
  have he : (Term.static C n d).eval args s none [] s = some v := by
    simp [Term.eval, State.fieldNamed?, h1, h2, h4, h5, h6, h7]
  simp only [Cond.before, Cond.holds, Cond.value, he]
  cases v <;> simp_all [Value.isRef]
theorem vx_isRefq {C n d : String} {A : Nat → Prop} {s : State} {args : Array Value} (h : va_Zq C n d A s s.heap) : (Cond.isRef (.static C n d)).before args s = true := by
  rcases h with h | ⟨t, h⟩
  · exact vx_isRef h rfl
  · exact vx_isRef h rfl
/-- the same frame, seen from here: as if the method were called anew in this heap -/
theorem vx_rebase {T : State} (X : Stand p l e R s m args below meth c T locs cells slots) {R' : Room} (hf : R'.frames ≤ R.frames) (hl : R'.locals ≤ R.locals) (hc : cells + R'.cells ≤ R.cells) (hs : slots + R'.slots ≤ R.slots) :
    Stand p l e R' ((T.setVm s.vm).setFrames (.invoking m args :: below)) m args below meth c T [] 0 0 := by
  have htop : (T.setVm s.vm).topJava?.isSome := X.here.top
  have hF : ((T.setVm s.vm).setFrames (.invoking m args :: below)).frames = .invoking m args :: below := State.frames_setFrames _ (State.cur_lt_of_top htop)
  obtain ⟨g₀, hg0⟩ := Option.isSome_iff_exists.mp htop
  obtain ⟨r, hr⟩ := State.topJava?_eq_some.mp hg0
  have hl9 : e.platform.stackLimits (T.setVm s.vm).me = e.platform.stackLimits s.me := X.limits
  have hb9 : (T.setVm s.vm).me.stackBytes = s.me.stackBytes := X.bytes
  refine ⟨X.admits, X.cas, X.clock, hF, ?_, X.hears, X.method, X.code, X.here, X.tail, X.warmed, ?_, ?_, ?_⟩
  · have h := X.room
    have hU : ((T.setVm s.vm).setFrames (.invoking m args :: below)).localsInUse = s.localsInUse := by
      rw [State.localsInUse_invoking hF (meth := meth) (c := c) X.method X.code, State.localsInUse_invoking X.frames X.method X.code]
    simp only [State.hasRoom, Bool.and_eq_true, decide_eq_true_eq] at h ⊢
    obtain ⟨⟨⟨⟨h1, h2, h3, h4, h5, h6⟩, h7⟩, h8⟩, h9⟩ := h
    rw [X.frames, List.length_cons] at h2 h3
    have q1 := X.heapSize
    have q2 := X.used
    simp only [hF, hU, List.length_cons, State.stackLimits_setFrames, State.stackBytes_setFrames, hl9, hb9]
    refine ⟨⟨⟨⟨by omega, by omega, by omega, by omega, by omega, h6⟩, ?_⟩, ?_⟩, X.book⟩
    · show T.heap.size + R'.cells ≤ e.platform.maxCells
      omega
    · show T.slotsUsed + R'.slots ≤ e.platform.maxSlots
      omega
  · rw [State.stackLimits_setFrames]; rfl
  · rw [State.stackBytes_setFrames]; rfl
  · refine ⟨?_, Nat.le_refl _, Nat.le_refl _, ?_, ?_, fun a c9 h9 => ⟨c9, h9, rfl, rfl, fun _ _ => rfl⟩⟩
    · obtain ⟨t, ht, -⟩ := State.frames_cons hr
      show T.setVm s.vm = { ((T.setVm s.vm).setFrames (.invoking m args :: below)).setFrames (T.setVm s.vm).frames with heap := T.heap, slotsUsed := T.slotsUsed }
      rw [State.setFrames_setFrames, State.setFrames_self ht]
      rfl
    · show T.slotsUsed = T.slotsUsed + ((T.heap.toList.drop T.heap.size).map (·.slots.size)).sum
      rw [List.drop_eq_nil_of_le (Nat.le_of_eq Array.length_toList)]
      rfl
    · show ((T.heap.toList.drop T.heap.size).map (·.slots.size)).sum ≤ 0
      rw [List.drop_eq_nil_of_le (Nat.le_of_eq Array.length_toList)]
      exact Nat.le_refl _
/-- 'throw new E()': new; dup; invokespecial; athrow -/
theorem vx_throw0 {cc : ByteArray} {pc : Nat} (hexec : p.tables.exec = Jvm.exec) (hb : c.code = cc) (hl : l.stackTraces = false) {own cls : String} {names : List String} {ik ic mc ms : Nat} {A : Nat → Prop}
    (hown : s.vm.findClass own = some m.cls) (hcls : Bundle.fit cls = true) (hnames : ∀ n ∈ names, Bundle.fit n = true)
    (hk : (Cond.classLink own ik cls).before args s = true) (hini : (Cond.initialized cls).before args s = true) (hat : ∀ w ∈ vx_at0 own ic cls names, w.before args s = true)
    (hgood : ∀ w ∈ Cond.classLink own ik cls :: Cond.initialized cls :: vx_at0 own ic cls names, vx_ot w = true)
    (hU : vx_Zq Bundle.tN "UNASSIGNED_STACK" Bundle.steD A s s.heap) (hN : vx_Zq Bundle.tN "SUPPRESSED_SENTINEL" Bundle.listD A s s.heap) (hS : va_S A s.heap H locs) (hsize : ls.size = c.maxLocals)
    (d0 : decode cc pc = .ok (.new ik, 3)) (d3 : decode cc (pc + 3) = .ok (.dup, 1)) (d4 : decode cc (pc + 4) = .ok (.invokespecial ic, 3)) (d7 : decode cc (pc + 7) = .ok (.athrow, 1))
    (hout : ∀ x ∈ c.exceptionTable.toList, covers x (pc + 7) = false)
    (hRframes : names.length + 3 < R.frames) (hRlocals : (rest.map fun v => v.category).sum + (13 * (names.length + 1) + 42) ≤ R.locals) (hRcells : cells + 1 ≤ R.cells) (hRslots : slots + 6 ≤ R.slots) (hlocks : meth.locks = false)
    (hx : ∀ t : State, s.vm.Alike t.vm → H.size ≤ t.heap.size → (∀ q : Nat, q < H.size → t.heap[q]? = H[q]?) → XC cls s t)
    (hf : ∀ z ∈ locs, free z.base) (hc : cells + 1 ≤ mc) (hs : slots + 6 ≤ ms) :
    W p l e R s m args below meth c H locs cells slots (vx_MQ below Qc XC args s mc ms free) (F0 m pc ls rest) := by
  intro T hT X
  have htr : e.platform.stackTraces = false := (show e.platform.stackTraces = l.stackTraces by rw [X.admits.platform]).trans hl
  have Y := vx_rebase X (R' := { frames := R.frames, locals := R.locals, cells := 1, slots := 6 }) (Nat.le_refl _) (Nat.le_refl _) hRcells hRslots
  obtain ⟨s', hA⟩ : ∃ z, z = (T.setVm s.vm).setFrames (.invoking m args :: below) := ⟨_, rfl⟩
  rw [← hA] at Y
  have hvm : s'.vm = s.vm := by rw [hA]; rfl
  have hhp : s'.heap = H := by rw [hA]; exact hT
  have hW0 : s.WarmedH s'.vm := by rw [hvm]; exact State.WarmedH.refl s
  have hat' : ∀ w ∈ vx_at0 own ic cls names, w.before args s' = true := fun w hw => vx_ot_at hW0 hvm.symm (hgood w (List.mem_cons_of_mem _ (List.mem_cons_of_mem _ hw))) (hat w hw)
  have hk' : (Cond.classLink own ik cls).before args s' = true := vx_ot_at hW0 hvm.symm (hgood _ List.mem_cons_self) hk
  have hini' : (Cond.initialized cls).before args s' = true := vx_ot_at hW0 hvm.symm (hgood _ (List.mem_cons_of_mem _ List.mem_cons_self)) hini
  have hU' : vx_Zq Bundle.tN "UNASSIGNED_STACK" Bundle.steD A s' s'.heap := by rw [hhp]; exact vx_Zq.moved hW0.alike (hU.kept hS.2.1)
  have hN' : vx_Zq Bundle.tN "SUPPRESSED_SENTINEL" Bundle.listD A s' s'.heap := by rw [hhp]; exact vx_Zq.moved hW0.alike (hN.kept hS.2.1)
  have h : ∀ w ∈ Bundle.ownAtoms0 own ic cls names, w.before args s' = true := vx_own hat' (vx_isRefq hU'.1) (vx_isRefq hN'.1) hU'.2.word hN'.2.word
  have hown' : s'.vm.findClass own = some m.cls := by rw [hvm]; exact hown
  have hins : (Cond.instantiable cls 6).before args s' = true := h _ (by simp [Bundle.ownAtoms0])
  obtain ⟨vm₁, cX, kX, hfX, hkX, -, -, X₁, st1⟩ := Y.newCold hexec (own := own) (C := cls) (index := ik) (n := 6) hown' hk' hins hini'
    (g := F0 m pc ls rest) rfl (by rw [hb]; exact d0) (Nat.le_refl _) (Nat.le_refl _)
  generalize hT1 : (T.setVm vm₁).pushCell { cls := cX, slots := kX.instanceTypes.map defaultValue, vm := .none } = T1 at X₁ st1
  have hcat : (Value.ref T.heap.size).category = 1 := rfl
  have hcellA : T1.heap[T.heap.size]? = some (freshCell cX kX) := by rw [← hT1]; exact State.heap_pushCell_size _ _
  have d3' : decode c.code (pc + 3) = .ok (.dup, 1) := by rw [hb]; exact d3
  obtain ⟨U, hsteps, hrun, hend, hW, hsame, ce, hce, hO⟩ := X₁.ctorThrow0 hexec htr (own := own) (cls := cls) (names := names) (ic := ic) hown' hcls hnames h (fun x hx => nomatch hx) hfX hkX hcellA (by rw [hhp, hT]; exact Nat.le_refl _)
    (g := { method := m, pc := pc + 4, locals := ls, stack := .ref T.heap.size :: .ref T.heap.size :: rest, locked := none }) rfl hsize rfl rfl (rest := rest) rfl
    (by rw [hb]; exact d4) (by rw [hb]; exact d7) hout hRframes (by simp only [List.map_cons, List.sum_cons, hcat]; omega) hlocks
  obtain ⟨f1, f2⟩ := vx_frame hsame
  rw [hhp] at f1 f2
  have hWs : s.WarmedH U.vm := State.WarmedH.trans hW0 hW
  have hcl : s.vm.findClass cls = some ce.cls := by
    have h9 := hO.cls
    rw [hvm] at h9
    exact h9
  have hall : s.sameButNew ({ U with vm := s.vm } : State) locs mc ms := by
    subst hA
    obtain ⟨e1, e2⟩ := hsame
    rw [State.setFrames_setFrames] at e1
    have h2 : (T.setVm s.vm).sameButNew ({ U with vm := s.vm } : State) [] (0 + 1) (0 + 6) := ⟨e1, e2⟩
    have h3 := X.same.trans h2
    rw [List.append_nil] at h3
    exact h3.mono hc hs
  refine ⟨U, ?_, .threw T.heap.size, hrun, hend, Or.inr ⟨T.heap.size, rfl, cls, ce, locs, hx U hWs.alike f1 (fun q hq => f2 q hq (fun z hz => nomatch hz)), hce, hO.vm, hcl, hWs, hall, hf⟩⟩
  refine st1 _ ?_
  show Steps p.tables e below (T1.setTop { method := m, pc := pc + 3, locals := ls, stack := .ref T.heap.size :: rest, locked := none }) _
  jvm_step X₁.here [X₁.here.top, hexec, d3', Value.category]
  exact hsteps
/-- 'throw new E("text")': new; dup; ldc; invokespecial; athrow -/
theorem vx_throwS {cc : ByteArray} {pc : Nat} (hexec : p.tables.exec = Jvm.exec) (hb : c.code = cc) (hl : l.stackTraces = false) {own cls text : String} {names : List String} {ik is ic mc ms sa : Nat} {A : Nat → Prop}
    (hown : s.vm.findClass own = some m.cls) (hcls : Bundle.fit cls = true) (hnames : ∀ n ∈ names, Bundle.fit n = true)
    (hk : (Cond.classLink own ik cls).before args s = true) (hini : (Cond.initialized cls).before args s = true) (hstr : vk_R own is text sa s) (hat : ∀ w ∈ vx_atS own ic cls names, w.before args s = true)
    (hgood : ∀ w ∈ Cond.classLink own ik cls :: Cond.initialized cls :: vx_atS own ic cls names, vx_ot w = true)
    (hU : vx_Zq Bundle.tN "UNASSIGNED_STACK" Bundle.steD A s s.heap) (hN : vx_Zq Bundle.tN "SUPPRESSED_SENTINEL" Bundle.listD A s s.heap) (hS : va_S A s.heap H locs) (hsize : ls.size = c.maxLocals)
    (d0 : decode cc pc = .ok (.new ik, 3)) (d3 : decode cc (pc + 3) = .ok (.dup, 1)) (d4 : decode cc (pc + 4) = .ok (.ldc is, 2)) (d6 : decode cc (pc + 6) = .ok (.invokespecial ic, 3)) (d9 : decode cc (pc + 9) = .ok (.athrow, 1))
    (hout : ∀ x ∈ c.exceptionTable.toList, covers x (pc + 9) = false)
    (hRframes : names.length + 3 < R.frames) (hRlocals : (rest.map fun v => v.category).sum + (13 * (names.length + 1) + 43) ≤ R.locals) (hRcells : cells + 1 ≤ R.cells) (hRslots : slots + 6 ≤ R.slots) (hlocks : meth.locks = false)
    (hx : ∀ t : State, s.vm.Alike t.vm → H.size ≤ t.heap.size → (∀ q : Nat, q < H.size → t.heap[q]? = H[q]?) → XC cls s t)
    (hf : ∀ z ∈ locs, free z.base) (hc : cells + 1 ≤ mc) (hs : slots + 6 ≤ ms) :
    W p l e R s m args below meth c H locs cells slots (vx_MQ below Qc XC args s mc ms free) (F0 m pc ls rest) := by
  intro T hT X
  have htr : e.platform.stackTraces = false := (show e.platform.stackTraces = l.stackTraces by rw [X.admits.platform]).trans hl
  have Y := vx_rebase X (R' := { frames := R.frames, locals := R.locals, cells := 1, slots := 6 }) (Nat.le_refl _) (Nat.le_refl _) hRcells hRslots
  obtain ⟨s', hA⟩ : ∃ z, z = (T.setVm s.vm).setFrames (.invoking m args :: below) := ⟨_, rfl⟩
  rw [← hA] at Y
  have hvm : s'.vm = s.vm := by rw [hA]; rfl
  have hhp : s'.heap = H := by rw [hA]; exact hT
  have hW0 : s.WarmedH s'.vm := by rw [hvm]; exact State.WarmedH.refl s
  have hat' : ∀ w ∈ vx_atS own ic cls names, w.before args s' = true := fun w hw => vx_ot_at hW0 hvm.symm (hgood w (List.mem_cons_of_mem _ (List.mem_cons_of_mem _ hw))) (hat w hw)
  have hk' : (Cond.classLink own ik cls).before args s' = true := vx_ot_at hW0 hvm.symm (hgood _ List.mem_cons_self) hk
  have hini' : (Cond.initialized cls).before args s' = true := vx_ot_at hW0 hvm.symm (hgood _ (List.mem_cons_of_mem _ List.mem_cons_self)) hini
  have hU' : vx_Zq Bundle.tN "UNASSIGNED_STACK" Bundle.steD A s' s'.heap := by rw [hhp]; exact vx_Zq.moved hW0.alike (hU.kept hS.2.1)
  have hN' : vx_Zq Bundle.tN "SUPPRESSED_SENTINEL" Bundle.listD A s' s'.heap := by rw [hhp]; exact vx_Zq.moved hW0.alike (hN.kept hS.2.1)
  have h : ∀ w ∈ Bundle.ownAtoms own ic cls names, w.before args s' = true := vx_own hat' (vx_isRefq hU'.1) (vx_isRefq hN'.1) hU'.2.word hN'.2.word
  have hown' : s'.vm.findClass own = some m.cls := by rw [hvm]; exact hown
  have hins : (Cond.instantiable cls 6).before args s' = true := h _ (by simp [Bundle.ownAtoms])
  obtain ⟨vm₁, cX, kX, hfX, hkX, -, -, X₁, st1⟩ := Y.newCold hexec (own := own) (C := cls) (index := ik) (n := 6) hown' hk' hins hini'
    (g := F0 m pc ls rest) rfl (by rw [hb]; exact d0) (Nat.le_refl _) (Nat.le_refl _)
  generalize hT1 : (T.setVm vm₁).pushCell { cls := cX, slots := kX.instanceTypes.map defaultValue, vm := .none } = T1 at X₁ st1
  have hcat : (Value.ref T.heap.size).category = 1 := rfl
  have hcellA : T1.heap[T.heap.size]? = some (freshCell cX kX) := by rw [← hT1]; exact State.heap_pushCell_size _ _
  have d3' : decode c.code (pc + 3) = .ok (.dup, 1) := by rw [hb]; exact d3
  have d4' : decode c.code (pc + 4) = .ok (.ldc is, 2) := by rw [hb]; exact d4
  have hstr' : vk_R own is text sa s' := vk_R.warm hW0 hstr
  obtain ⟨U, hsteps, hrun, hend, hW, hsame, ce, hce, hO⟩ := X₁.ctorThrowS hexec htr (own := own) (cls := cls) (names := names) (ic := ic) hown' hcls hnames h (fun x hx => nomatch hx) hfX hkX hcellA (by rw [hhp, hT]; exact Nat.le_refl _) (msg := .ref sa) rfl
    (g := { method := m, pc := pc + 6, locals := ls, stack := .ref sa :: .ref T.heap.size :: .ref T.heap.size :: rest, locked := none }) rfl hsize rfl rfl (rest := rest) rfl
    (by rw [hb]; exact d6) (by rw [hb]; exact d9) hout hRframes (by simp only [List.map_cons, List.sum_cons, hcat]; omega) hlocks
  obtain ⟨f1, f2⟩ := vx_frame hsame
  rw [hhp] at f1 f2
  have hWs : s.WarmedH U.vm := State.WarmedH.trans hW0 hW
  have hcl : s.vm.findClass cls = some ce.cls := by
    have h9 := hO.cls
    rw [hvm] at h9
    exact h9
  have hall : s.sameButNew ({ U with vm := s.vm } : State) locs mc ms := by
    subst hA
    obtain ⟨e1, e2⟩ := hsame
    rw [State.setFrames_setFrames] at e1
    have h2 : (T.setVm s.vm).sameButNew ({ U with vm := s.vm } : State) [] (0 + 1) (0 + 6) := ⟨e1, e2⟩
    have h3 := X.same.trans h2
    rw [List.append_nil] at h3
    exact h3.mono hc hs
  refine ⟨U, ?_, .threw T.heap.size, hrun, hend, Or.inr ⟨T.heap.size, rfl, cls, ce, locs, hx U hWs.alike f1 (fun q hq => f2 q hq (fun z hz => nomatch hz)), hce, hO.vm, hcl, hWs, hall, hf⟩⟩
  refine st1 _ ?_
  show Steps p.tables e below (T1.setTop { method := m, pc := pc + 3, locals := ls, stack := .ref T.heap.size :: rest, locked := none }) _
  jvm_step X₁.here [X₁.here.top, hexec, d3', Value.category]
  exact X₁.ldcString hexec (own := own) (text := text) (index := is) (a := sa) hown' hstr'.1 hstr'.2
    (g := { method := m, pc := pc + 4, locals := ls, stack := .ref T.heap.size :: .ref T.heap.size :: rest, locked := none }) rfl d4' _ hsteps
/-- 'throw new E("text")', the text by a wide index -/
theorem vx_throwSW {cc : ByteArray} {pc : Nat} (hexec : p.tables.exec = Jvm.exec) (hb : c.code = cc) (hl : l.stackTraces = false) {own cls text : String} {names : List String} {ik is ic mc ms sa : Nat} {A : Nat → Prop}
    (hown : s.vm.findClass own = some m.cls) (hcls : Bundle.fit cls = true) (hnames : ∀ n ∈ names, Bundle.fit n = true)
    (hk : (Cond.classLink own ik cls).before args s = true) (hini : (Cond.initialized cls).before args s = true) (hstr : vk_R own is text sa s) (hat : ∀ w ∈ vx_atS own ic cls names, w.before args s = true)
    (hgood : ∀ w ∈ Cond.classLink own ik cls :: Cond.initialized cls :: vx_atS own ic cls names, vx_ot w = true)
    (hU : vx_Zq Bundle.tN "UNASSIGNED_STACK" Bundle.steD A s s.heap) (hN : vx_Zq Bundle.tN "SUPPRESSED_SENTINEL" Bundle.listD A s s.heap) (hS : va_S A s.heap H locs) (hsize : ls.size = c.maxLocals)
    (d0 : decode cc pc = .ok (.new ik, 3)) (d3 : decode cc (pc + 3) = .ok (.dup, 1)) (d4 : decode cc (pc + 4) = .ok (.ldc_w is, 3)) (d7 : decode cc (pc + 7) = .ok (.invokespecial ic, 3)) (d10 : decode cc (pc + 10) = .ok (.athrow, 1))
    (hout : ∀ x ∈ c.exceptionTable.toList, covers x (pc + 10) = false)
    (hRframes : names.length + 3 < R.frames) (hRlocals : (rest.map fun v => v.category).sum + (13 * (names.length + 1) + 43) ≤ R.locals) (hRcells : cells + 1 ≤ R.cells) (hRslots : slots + 6 ≤ R.slots) (hlocks : meth.locks = false)
    (hx : ∀ t : State, s.vm.Alike t.vm → H.size ≤ t.heap.size → (∀ q : Nat, q < H.size → t.heap[q]? = H[q]?) → XC cls s t)
    (hf : ∀ z ∈ locs, free z.base) (hc : cells + 1 ≤ mc) (hs : slots + 6 ≤ ms) :
    W p l e R s m args below meth c H locs cells slots (vx_MQ below Qc XC args s mc ms free) (F0 m pc ls rest) := by
  intro T hT X
  have htr : e.platform.stackTraces = false := (show e.platform.stackTraces = l.stackTraces by rw [X.admits.platform]).trans hl
  have Y := vx_rebase X (R' := { frames := R.frames, locals := R.locals, cells := 1, slots := 6 }) (Nat.le_refl _) (Nat.le_refl _) hRcells hRslots
  obtain ⟨s', hA⟩ : ∃ z, z = (T.setVm s.vm).setFrames (.invoking m args :: below) := ⟨_, rfl⟩
  rw [← hA] at Y
  have hvm : s'.vm = s.vm := by rw [hA]; rfl
  have hhp : s'.heap = H := by rw [hA]; exact hT
  have hW0 : s.WarmedH s'.vm := by rw [hvm]; exact State.WarmedH.refl s
  have hat' : ∀ w ∈ vx_atS own ic cls names, w.before args s' = true := fun w hw => vx_ot_at hW0 hvm.symm (hgood w (List.mem_cons_of_mem _ (List.mem_cons_of_mem _ hw))) (hat w hw)
  have hk' : (Cond.classLink own ik cls).before args s' = true := vx_ot_at hW0 hvm.symm (hgood _ List.mem_cons_self) hk
  have hini' : (Cond.initialized cls).before args s' = true := vx_ot_at hW0 hvm.symm (hgood _ (List.mem_cons_of_mem _ List.mem_cons_self)) hini
  have hU' : vx_Zq Bundle.tN "UNASSIGNED_STACK" Bundle.steD A s' s'.heap := by rw [hhp]; exact vx_Zq.moved hW0.alike (hU.kept hS.2.1)
  have hN' : vx_Zq Bundle.tN "SUPPRESSED_SENTINEL" Bundle.listD A s' s'.heap := by rw [hhp]; exact vx_Zq.moved hW0.alike (hN.kept hS.2.1)
  have h : ∀ w ∈ Bundle.ownAtoms own ic cls names, w.before args s' = true := vx_own hat' (vx_isRefq hU'.1) (vx_isRefq hN'.1) hU'.2.word hN'.2.word
  have hown' : s'.vm.findClass own = some m.cls := by rw [hvm]; exact hown
  have hins : (Cond.instantiable cls 6).before args s' = true := h _ (by simp [Bundle.ownAtoms])
  obtain ⟨vm₁, cX, kX, hfX, hkX, -, -, X₁, st1⟩ := Y.newCold hexec (own := own) (C := cls) (index := ik) (n := 6) hown' hk' hins hini'
    (g := F0 m pc ls rest) rfl (by rw [hb]; exact d0) (Nat.le_refl _) (Nat.le_refl _)
  generalize hT1 : (T.setVm vm₁).pushCell { cls := cX, slots := kX.instanceTypes.map defaultValue, vm := .none } = T1 at X₁ st1
  have hcat : (Value.ref T.heap.size).category = 1 := rfl
  have hcellA : T1.heap[T.heap.size]? = some (freshCell cX kX) := by rw [← hT1]; exact State.heap_pushCell_size _ _
  have d3' : decode c.code (pc + 3) = .ok (.dup, 1) := by rw [hb]; exact d3
  have d4' : decode c.code (pc + 4) = .ok (.ldc_w is, 3) := by rw [hb]; exact d4
  have hstr' : vk_R own is text sa s' := vk_R.warm hW0 hstr
  obtain ⟨U, hsteps, hrun, hend, hW, hsame, ce, hce, hO⟩ := X₁.ctorThrowS hexec htr (own := own) (cls := cls) (names := names) (ic := ic) hown' hcls hnames h (fun x hx => nomatch hx) hfX hkX hcellA (by rw [hhp, hT]; exact Nat.le_refl _) (msg := .ref sa) rfl
    (g := { method := m, pc := pc + 7, locals := ls, stack := .ref sa :: .ref T.heap.size :: .ref T.heap.size :: rest, locked := none }) rfl hsize rfl rfl (rest := rest) rfl
    (by rw [hb]; exact d7) (by rw [hb]; exact d10) hout hRframes (by simp only [List.map_cons, List.sum_cons, hcat]; omega) hlocks
  obtain ⟨f1, f2⟩ := vx_frame hsame
  rw [hhp] at f1 f2
  have hWs : s.WarmedH U.vm := State.WarmedH.trans hW0 hW
  have hcl : s.vm.findClass cls = some ce.cls := by
    have h9 := hO.cls
    rw [hvm] at h9
    exact h9
  have hall : s.sameButNew ({ U with vm := s.vm } : State) locs mc ms := by
    subst hA
    obtain ⟨e1, e2⟩ := hsame
    rw [State.setFrames_setFrames] at e1
    have h2 : (T.setVm s.vm).sameButNew ({ U with vm := s.vm } : State) [] (0 + 1) (0 + 6) := ⟨e1, e2⟩
    have h3 := X.same.trans h2
    rw [List.append_nil] at h3
    exact h3.mono hc hs
  refine ⟨U, ?_, .threw T.heap.size, hrun, hend, Or.inr ⟨T.heap.size, rfl, cls, ce, locs, hx U hWs.alike f1 (fun q hq => f2 q hq (fun z hz => nomatch hz)), hce, hO.vm, hcl, hWs, hall, hf⟩⟩
  refine st1 _ ?_
  show Steps p.tables e below (T1.setTop { method := m, pc := pc + 3, locals := ls, stack := .ref T.heap.size :: rest, locked := none }) _
  jvm_step X₁.here [X₁.here.top, hexec, d3', Value.category]
  exact X₁.ldcStringW hexec (own := own) (text := text) (index := is) (a := sa) hown' hstr'.1 hstr'.2
    (g := { method := m, pc := pc + 4, locals := ls, stack := .ref T.heap.size :: .ref T.heap.size :: rest, locked := none }) rfl d4' _ hsteps
end Ends
section Bodies
variable {l : Launch}
theorem vx_ofW {y : MethodName} {ws ws' : List Cond} {rm : Room} {Pc : Array Value → State → Prop} {Qc : Array Value → State → Outcome → State → Prop} {XC : String → State → State → Prop} {mc ms : Nat} {free : Addr → Prop} {cc : ByteArray} {maxL : Nat} {ret : Option FieldType}
    (hy : plainName y.cls = true) (hw : ws = Cond.code y cc maxL ret :: ws')
    (body : ∀ p e s m args below meth c s₁, BodyLoose p l y (headSpec ws rm) cc maxL ret e s m args below meth c s₁ → c.maxLocals = maxL → (∀ x ∈ c.exceptionTable.toList, False) → Pc args s →
      W p l e (headSpec ws rm).room s m args below meth c s.heap [] 0 0 (vx_MQ below Qc XC args s mc ms free) (entryFrame m args maxL)) : vx_Met l y ws rm Pc Qc XC mc ms free := by
  refine MetFree.of_bodyS (code := cc) (maxLocals := maxL) (ret := ret) hy ?_ ?_
  · intro args s m h hn
    obtain ⟨meth, c, h1, h2, h3, h4, h5, h6, -, -⟩ := Cond.code_spec hn (atoms_spec (ws := ws) h _ (by rw [hw]; exact List.mem_cons_self))
    exact ⟨meth, c, h1, h2, h3, h4, h5, h6⟩
  · intro p e s m args below meth c s₁ B hml hP _
    have hh0 : s₁.heap = s.heap := by rw [B.state]; rfl
    have ht : ∀ x ∈ c.exceptionTable.toList, False := by
      obtain ⟨meth9, c9, h1, h2, -, -, -, -, h7, -⟩ := Cond.code_spec B.named (atoms_spec (ws := ws) B.pre _ (by rw [hw]; exact List.mem_cons_self))
      cases Option.some.inj (h1.symm.trans B.method)
      cases Option.some.inj (h2.symm.trans (Stand.of_body B).code)
      intro x hx
      rw [Array.isEmpty_iff.mp h7] at hx
      cases hx
    obtain ⟨t, a1, o, b1, b2, b3⟩ := body p e s m args below meth c s₁ B hml ht hP s₁ hh0 (Stand.of_body B)
    exact ⟨t, o, a1, b1, b2, b3⟩
/-- the table of a body with handlers -/
theorem vx_table {p : Program} {x y : MethodName} {S : Spec} {cc bytes : ByteArray} {maxL maxL' : Nat} {ret ret' : Option FieldType} {e : Env} {s s₁ : State} {m : MethodId} {args : Array Value} {below : List Frame} {meth : Method} {c : Code} {hh : List (Nat × Nat × Nat × Nat)}
    (B : BodyLoose p l y S cc maxL ret e s m args below meth c s₁) (h : (Cond.codeWith y bytes maxL' ret' hh).before args s = true) : c.exceptionTable.toList = tableOf hh := by
  obtain ⟨m9, meth9, c9, hn9, h1, h2, -, -, h6, -⟩ := Cond.codeWith_spec h
  cases Option.some.inj (hn9.symm.trans B.named)
  cases Option.some.inj (h1.symm.trans B.method)
  cases Option.some.inj (h2.symm.trans (Stand.of_body B).code)
  rw [← h6, table_eq]
end Bodies
end VXA
/-! ===== END ===== -/
/-! ===== BEGIN a static call of a method with an exception table ===== -/
section VXS
variable {p : Program} {l : Launch} {e : Env} {R : Room} {s : State} {m : MethodId} {args : Array Value} {below : List Frame} {meth : Method} {c : Code} {T : State} {H : Heap} {locs : List Loc} {cells slots : Nat}
abbrev vx_CSW (R : Room) (s : State) (args : Array Value) (own : String) (index : Nat) (y : MethodName) (bytes : ByteArray) (maxL : Nat) (ret : Option FieldType) (hh : List (Nat × Nat × Nat × Nat)) (ws : List Cond) (rm : Room) (mc ms n : Nat) : Prop :=
  (rm.cells = mc ∧ rm.slots = ms ∧ rm.frames + 1 ≤ R.frames ∧ 8 + (maxL + 11) + rm.locals ≤ R.locals ∧ (∀ w ∈ ws, ∀ (a' : Array Value) (U : State), s.WarmedH U.vm → w.before a' U = true) ∧ Cond.codeWith y bytes maxL ret hh ∈ ws) ∧
  (Cond.codeWith y bytes maxL ret hh).before args s = true ∧ (Cond.initialized y.cls).before args s = true ∧ (y.cls ≠ "java/lang/invoke/MethodHandle" ∧ y.cls ≠ "java/lang/invoke/VarHandle") ∧
  (∀ sig, parseMethodDescriptor y.desc = some sig → n = sig.parameters.length) ∧ (Cond.methodLink own index y).before args s = true ∧ (Cond.static y).before args s = true
theorem vx_cwSW {own : String} {index maxL mc ms : Nat} {y : MethodName} {bytes : ByteArray} {ret : Option FieldType} {hh : List (Nat × Nat × Nat × Nat)} {Ts ws ws' : List Cond} {rm : Room} (n : Nat) (ht : ∀ w ∈ Ts, w.before args s = true) (hT : GoodIn Ts (va_wsS own index y ws)) (hw : ws = Cond.codeWith y bytes maxL ret hh :: ws') (hrc : rm.cells = mc) (hrs : rm.slots = ms)
    (hd : y.cls ≠ "java/lang/invoke/MethodHandle" ∧ y.cls ≠ "java/lang/invoke/VarHandle" ∧ (parseMethodDescriptor y.desc).map (fun d => d.parameters.length) = some n) (hR : rm.frames + 1 ≤ R.frames ∧ 8 + (maxL + 11) + rm.locals ≤ R.locals) :
    vx_CSW R s args own index y bytes maxL ret hh ws rm mc ms n := by
  have ok : ∀ w ∈ va_wsS own index y ws, w.before args s = true := fun w h => ht w (hT w h).1
  have hG : GoodIn Ts ws := fun w h => hT w (by unfold va_wsS; exact List.mem_append_right _ h)
  have hc : Cond.codeWith y bytes maxL ret hh ∈ ws := by rw [hw]; exact List.mem_cons_self
  refine ⟨⟨hrc, hrs, hR.1, hR.2, pay_in ht hG, hc⟩, ht _ (hG _ hc).1, ok _ (by simp [va_wsS]), ⟨hd.1, hd.2.1⟩, fun sig h => ?_, ok _ (by simp [va_wsS]), ok _ (by simp [va_wsS])⟩
  have h2 := hd.2.2
  rw [h] at h2
  exact (Option.some.inj h2).symm
theorem vx_callSW (X : Stand p l e R s m args below meth c T locs cells slots) (hexec : p.tables.exec = Jvm.exec) {own : String} {index : Nat} {y : MethodName} {bytes : ByteArray} {maxL : Nat} {ret : Option FieldType} {hh : List (Nat × Nat × Nat × Nat)}
    (hown : s.vm.findClass own = some m.cls) (hlink : (Cond.methodLink own index y).before args s = true) (hstat : (Cond.static y).before args s = true) (hinit : (Cond.initialized y.cls).before args s = true)
    (hcode : (Cond.codeWith y bytes maxL ret hh).before args s = true) (hy : y.cls ≠ "java/lang/invoke/MethodHandle" ∧ y.cls ≠ "java/lang/invoke/VarHandle")
    {W9 : Nat} {Pre : Pt → Array Value → Prop} {Post : Pt → Array Value → Option Value → Pt → Prop} (hK : Back l R p e below s args y 3 W9 Pre Post)
    {g : JFrame} (hg : g.method = m) (hsize : g.locals.size = c.maxLocals) {argsL rest : List Value} (hlen : ∀ sig, parseMethodDescriptor y.desc = some sig → argsL.length = sig.parameters.length)
    (hstack : g.stack = argsL.reverse ++ rest) (hW : 2 * g.monitorRoom + (rest.map fun v => v.category).sum ≤ W9) (hdg : decode c.code g.pc = .ok (.invokestatic index, 3))
    (hpre : ∀ vm₁, s.WarmedH vm₁ → Pre ⟨T.setVm vm₁, locs, cells, slots⟩ argsL.toArray) :
    ∃ (v : Option Value) (vm₁ : Vm) (B : Pt), s.WarmedH vm₁ ∧ Stand p l e R s m args below meth c B.U B.locs B.cells B.slots ∧ Post ⟨T.setVm vm₁, locs, cells, slots⟩ argsL.toArray v B ∧
      ∀ target, Steps p.tables e below (B.U.setTop { g with pc := g.pc + 3, stack := v.toList ++ rest }) target → Steps p.tables e below (T.setTop g) target := by
  obtain ⟨mk, methM, cM, hnamed, hmethM, -, -, -, -, -, -, hsigM⟩ := Cond.codeWith_spec hcode
  have hstatic : methM.isStatic = true := Cond.static_spec hnamed hmethM hstat
  obtain ⟨kP, hkP, -⟩ := className_of_methodNamed hnamed
  have hinitP : kP.init = .initialized := Cond.initialized_spec (findClass_of_methodNamed hnamed) hkP hinit
  obtain ⟨vm₁, X₁, hstep₁⟩ := X.invokestatic hexec hown hlink hnamed hmethM hstatic hkP hinitP hy (g := g) hg (argsL := argsL) (rest := rest) (hlen _ hsigM) hstack hdg
  obtain ⟨v, B, X', hpost, hsteps⟩ := hK m meth c ⟨T.setVm vm₁, locs, cells, slots⟩ { g with stack := rest } (.invokestatic index) mk argsL.toArray X₁ hg hsize hdg hW (X₁.named hnamed) (hpre vm₁ X₁.warmed)
  exact ⟨v, vm₁, B, X₁.warmed, X', hpost, fun target h => hstep₁ _ fun acts => by rw [doInvoke_state]; exact hsteps.trans h⟩
theorem vx_runSW {y : MethodName} {bytes cc : ByteArray} {maxL nL mc ms n index : Nat} {ret : Option FieldType} {hh : List (Nat × Nat × Nat × Nat)} {ws : List Cond} {rm : Room} {Pc : Array Value → State → Prop} {Qc : Array Value → State → Outcome → State → Prop} {free : Addr → Prop} {Ts : List Cond} {own : String} {As rest : List Value} {g : JFrame}
    (S : CallFix p m c cc nL s args Ts own) (hM : Met l y ws rm Pc Qc mc ms free) (cw : vx_CSW R s args own index y bytes maxL ret hh ws rm mc ms n) (hp : PreS s H Pc As)
    (hg : g.method = m) (hn : As.length = n) (hsize : g.locals.size = nL) (hstack : g.stack = As.reverse ++ rest) (hW : 2 * g.monitorRoom + (rest.map fun v => v.category).sum ≤ 8) (hdg : decode cc g.pc = .ok (.invokestatic index, 3)) (hf : cells + mc ≤ R.cells ∧ slots + ms ≤ R.slots) :
    va_Run p l e R s m args below meth c H locs cells slots mc ms g rest (Qc As.toArray) (free) := by
  obtain ⟨⟨hrc, hrs, hfr, hlo, hws, hcw⟩, hcode, hini, hy, hlen, hl, hstt⟩ := cw
  have hK : Back l R p e below s args y 3 8 (PreOf R mc ms Pc) (PostOf Qc mc ms free) := va_backW (hh := hh) (bytes := bytes) (maxL := maxL) (ret := ret) hM hp.1 hrc hrs hfr hlo hws hcw (fun a' U hW => word_at hW (Or.inl (by first | rfl | simp [Cond.onTables, Cond.keeps, Cond.steady])) hini)
  obtain ⟨hx, hb, hml, ho, -⟩ := S
  intro T hT X
  obtain ⟨v, vm₁, ⟨U', l2, c2, s2⟩, hW₁, X', ⟨g', mk, t, L, e1, e2, hq, h1, hL, h2, h3⟩, st⟩ := vx_callSW X hx (hh := hh) (bytes := bytes) (maxL := maxL) (ret := ret) ho hl hstt hini hcode hy hK hg (hsize.trans hml.symm) (argsL := As) (rest := rest) (fun sig h => hn.trans (hlen sig h)) hstack hW (by rw [hb]; exact hdg)
    (fun vm₁ hW₁ => ⟨hf.1, hf.2, hp.2 (T.setVm vm₁) hT hW₁⟩)
  dsimp only [Pt.U, Pt.locs, Pt.cells, Pt.slots] at X' e1 e2 h1 h2 h3 st
  subst h1; subst h2; subst h3
  exact ⟨v, (T.setVm vm₁).calling g' mk As.toArray, t, U', L, hT, X', hL, e1, e2, hq, st⟩
/-- not caught here, past rows that name other classes: it goes on to the caller -/
theorem vx_outP {p : Program} {l : Launch} {e : Env} {R : Room} {s : State} {m : MethodId} {args : Array Value} {below : List Frame} {meth : Method} {c : Code} {H : Heap} {locs : List Loc} {cells slots : Nat} {free : Addr → Prop} {ls : Array Slot} {rest : List Value} {Qc : Array Value → State → Outcome → State → Prop} {XC : String → State → State → Prop}
    {pc : Nat} {own E : String} {ce : Cell} {q : Addr} {mc ms : Nat} (hown : s.vm.findClass own = some m.cls) (hlocks : meth.locks = false)
    (hpass : ∀ z ∈ c.exceptionTable.toList, covers z pc = false ∨ (z.catchType ≠ 0 ∧ ∃ nm : String, (Cond.classLink own z.catchType nm).before args s = true ∧ va_Nc E nm s)) (hcell : H[q]? = some ce) (hv : ce.vm = .none) (hcl : s.vm.findClass E = some ce.cls)
    (hx : ∀ t : State, t.heap = H → s.vm.Alike t.vm → XC E s t) (hf : ∀ z ∈ locs, free z.base) (hc : cells ≤ mc) (hs : slots ≤ ms) :
    vx_W p l e R s m args below meth c H locs cells slots (vx_MQ below Qc XC args s mc ms free) (F0 m pc ls rest) q := by
  intro T hT X
  have hpl : e.platform.magicAccessors = ({} : Platform).magicAccessors := by rw [X.admits.platform]
  obtain ⟨vm', hW', X', st⟩ := X.outThrough hlocks q (g := F0 m pc ls rest) rfl rfl rfl (cell := ce) (by rw [hT]; exact hcell) (by rw [hv]; rfl)
    (by obtain ⟨k9, h9, -⟩ := Vm.findClass_spec hcl; exact ⟨k9, h9⟩) (fun z hz => by
      rcases hpass z hz with h | ⟨hz0, nm, hl1, hn1⟩
      · exact Or.inl h
      · obtain ⟨c6, hc6, hcl6⟩ := Cond.classLink_spec hown hl1 e.platform hpl
        obtain ⟨a8, b8, h1, h2, h3⟩ := hn1
        cases Option.some.inj (h1.symm.trans hcl)
        cases Option.some.inj (h2.symm.trans hc6)
        exact Or.inr ⟨hz0, _, hcl6, h3⟩)
  obtain ⟨g₀, hfr⟩ := X'.frames_eq
  have hcell9 : ((T.setVm vm').setFrames (.throwing q :: below)).heap[q]? = some ce := by
    show T.heap[q]? = some ce
    rw [hT]; exact hcell
  have hend : Ended ((T.setVm vm').setFrames (.throwing q :: below)) below (.threw q) := State.frames_setFrames _ (State.cur_lt_of_frames hfr)
  refine ⟨(T.setVm vm').setFrames (.throwing q :: below), ?_, .threw q, X'.here.running, hend, Or.inr ⟨q, rfl, E, ce, locs, hx _ hT (X'.ends _).1.alike, hcell9, hv, hcl, (X'.ends _).1, (X'.ends _).2.mono hc hs, hf⟩⟩
  rw [X.pushThrowing_eq]
  exact st
/-- a thing of a world lies in the heap -/
theorem vx_lt {D : va_G} {cl : List vw_C} {ws : va_W} {H1 : Heap} (h : va_P D cl ws H1) {k : Nat} {q : Nat × va_E} (hk : ws[k]? = some q) : q.1 < H1.size := (h k q hk).lt
end VXS
/-! ===== END ===== -/
/-! ===== BEGIN methods with a table of their own: called by a name, returning or throwing ===== -/
section VXH
/-! vx_backW, vx_callVX, vx_callSX, vx_callVW, vx_runVW, vx_runVX, vx_runSX, vx_ofWH follow the same proofs as their sisters above (Free/Laws.lean, Shelf42/LK1.lean); vx_outP calls Shelf42/NT130.lean (outThrough). -/
section
variable {l : Launch} {R : Room} {p : Program} {e : Env} {below : List Frame} {s : State} {sargs : Array Value} {y : MethodName} {len W9 : Nat}
theorem vx_backW {ws : List Cond} {rm : Room} {Pc : Array Value → State → Prop} {Qc : Array Value → State → Outcome → State → Prop} {XC : String → State → State → Prop} {mc ms : Nat} {free : Addr → Prop} {bytes : ByteArray} {maxL : Nat} {ret : Option FieldType} {hh : List (Nat × Nat × Nat × Nat)}
    (hM : vx_Met l y ws rm Pc Qc XC mc ms free) (hblind : FrameBlind Pc) (hrc : rm.cells = mc) (hrs : rm.slots = ms)
    (hframes : rm.frames + 1 ≤ R.frames) (hlocals : W9 + (maxL + 11) + rm.locals ≤ R.locals)
    (hws : ∀ w ∈ ws, ∀ a' U, s.WarmedH U.vm → w.before a' U = true) (hcode : Cond.codeWith y bytes maxL ret hh ∈ ws) (hinit : ∀ a' U, s.WarmedH U.vm → (Cond.initialized y.cls).before a' U = true) :
    vx_Back l R p e below s sargs y len W9 (PreOf R mc ms Pc) (PostOf Qc mc ms free) (vx_Post XC mc ms free) := by
  intro m meth c A g ig mk a X hg hsize hdg hW hn hp
  have h1 : (headSpec ws rm).pre.before a A.U = true := atoms_intro fun w hw => hws w hw _ _ X.warmed
  have h2 : (Cond.codeWith y bytes maxL ret hh).before a A.U = true := hws _ hcode _ _ X.warmed
  have h3 : (Cond.initialized y.cls).before a A.U = true := hinit _ _ X.warmed
  have h4 : A.cells + (headSpec ws rm).room.cells ≤ R.cells := by rw [show (headSpec ws rm).room.cells = mc from hrc]; exact hp.1
  have h5 : A.slots + (headSpec ws rm).room.slots ≤ R.slots := by rw [show (headSpec ws rm).room.slots = ms from hrs]; exact hp.2.1
  have hPc : Pc a (A.U.calling g mk a) := hblind _ _ _ _ hp.2.2
  obtain ⟨U, Ls, c0, s0⟩ := A
  dsimp only [Pt.U, Pt.locs, Pt.cells, Pt.slots] at h1 h2 h3 h4 h5 X hn hPc ⊢
  obtain ⟨m9, methY, cY, hn9, hmY, hcY, -, hlY, -⟩ := Cond.codeWith_spec h2
  cases Option.some.inj (hn9.symm.trans hn)
  obtain ⟨kY, hkY, -⟩ := className_of_methodNamed hn
  have hinitY : kY.init = .initialized := Cond.initialized_spec (findClass_of_methodNamed hn) hkY h3
  have h : At U g.method c below := by rw [hg]; exact X.here
  have hlocals9 : W9 + (maxL + 11) + (headSpec ws rm).room.locals ≤ R.locals := hlocals
  have happ : (headSpec ws rm).appliesLoose y e.platform (U.calling g mk a) = true :=
    Spec.appliesLoose_calling (g := g) h hdg hn hkY hinitY
      (X.room_calling (g := g) (R' := (headSpec ws rm).room) hsize hmY hcY hframes (by rw [hlY]; omega) h4 h5) h1
  obtain ⟨mid, hmid⟩ := h.above
  have hfr : (U.setTop g).frames = (.java g :: mid) ++ below := by rw [State.frames_setTop' g h.top, hmid]; rfl
  obtain ⟨o, s₂, hsteps, -, hend, hq⟩ := Steps.callFree hM p X.admits X.cas X.clock (acts := []) hfr happ hPc trivial
  have hq' : vx_Q Qc XC mc ms free a (U.calling g mk a) o s₂ := hq
  rw [State.frames_setTop' g h.top] at hend
  obtain ⟨g₀, hg0⟩ := Option.isSome_iff_exists.mp h.top
  obtain ⟨r, hr⟩ := State.topJava?_eq_some.mp hg0
  have hr' : (({ U with heap := s₂.heap, slotsUsed := s₂.slotsUsed } : State).setVm s₂.vm).frames = .java g₀ :: r := hr
  rcases hq' with ⟨hqc, L, hfe, hL⟩ | ⟨q, rfl, E, ce, L, hx, hce, hcv, hcl, hW₂, hsm, hL⟩
  · obtain ⟨⟨v, rfl⟩, hW₂, e2, q2, q3, q4, q5, q6⟩ := id hfe
    have e3 : s₂ = ({ (U.calling g mk a).setFrames s₂.frames with heap := s₂.heap, slotsUsed := s₂.slotsUsed } : State).setVm s₂.vm := by
      have : s₂ = ({ s₂ with vm := (U.calling g mk a).vm } : State).setVm s₂.vm := rfl
      rw [e2] at this
      exact this
    obtain ⟨c₂, i₂, len₂, hc₂, hd₂, hf₂⟩ := hend
    have hW' : U.WarmedH s₂.vm := hW₂
    have hcc : c₂ = c := by
      have h1 : s₂.code? g.method = U.code? g.method := by
        rw [State.code?_eq, State.code?_eq, hW'.alike.method?]
      exact Option.some.inj (hc₂.symm.trans (h1.trans h.code))
    subst hcc
    have hlen : len₂ = len := by rw [hdg] at hd₂; cases hd₂; rfl
    subst hlen
    have hs₂ : s₂ = (({ U with heap := s₂.heap, slotsUsed := s₂.slotsUsed } : State).setVm s₂.vm).setTop { g with pc := g.pc + len₂, stack := v.toList ++ g.stack } := by
      refine e3.trans ?_
      rw [hf₂, State.calling_eq h.top, State.setFrames_setFrames, State.setTop_of_frames _ hr', hr]
      rfl
    have hsame : U.sameButNew ({ U with heap := s₂.heap, slotsUsed := s₂.slotsUsed } : State) L mc ms := by
      refine ⟨?_, q2, q3, q4, q5, q6⟩
      obtain ⟨t, ht, -⟩ := State.frames_cons hr
      show ({ U with heap := s₂.heap, slotsUsed := s₂.slotsUsed } : State) = { U.setFrames U.frames with heap := s₂.heap, slotsUsed := s₂.slotsUsed }
      rw [State.setFrames_self ht]
    subst hg
    refine Or.inl ⟨v, ⟨(({ U with heap := s₂.heap, slotsUsed := s₂.slotsUsed } : State).setVm s₂.vm), Ls ++ L, c0 + mc, s0 + ms⟩,
      ⟨X.admits, X.cas, X.clock, X.frames, X.room, X.hears, X.method, X.code, (X.here.setHeapUsed s₂.heap s₂.slotsUsed).setVm hW'.alike, X.tail, State.WarmedH.trans X.warmed hW', X.limits, X.bytes, X.same.trans (hsame.setVm s.vm)⟩,
      ⟨g, mk, s₂, L, rfl, rfl, hqc, rfl, hL, rfl, rfl⟩, ?_⟩
    show Steps p.tables e below _ ((({ U with heap := s₂.heap, slotsUsed := s₂.slotsUsed } : State).setVm s₂.vm).setTop { g with pc := g.pc + len₂, stack := v.toList ++ g.stack })
    rw [← hs₂]
    exact hsteps
  · obtain ⟨e2, q2, q3, q4, q5, q6⟩ := id hsm
    have e3 : s₂ = ({ (U.calling g mk a).setFrames s₂.frames with heap := s₂.heap, slotsUsed := s₂.slotsUsed } : State).setVm s₂.vm := by
      have : s₂ = ({ s₂ with vm := (U.calling g mk a).vm } : State).setVm s₂.vm := rfl
      rw [e2] at this
      exact this
    have hf₂ : s₂.frames = .throwing q :: .java g :: U.frames.tail := hend
    have hW' : U.WarmedH s₂.vm := hW₂
    have hs₂ : s₂ = ((({ U with heap := s₂.heap, slotsUsed := s₂.slotsUsed } : State).setVm s₂.vm).setTop g).pushFrame (.throwing q) := by
      refine e3.trans ?_
      rw [hf₂, State.calling_eq h.top, State.setFrames_setFrames, State.pushFrame, State.frames_setTop _ hr', State.setTop_of_frames _ hr', State.setFrames_setFrames, hr]
      rfl
    have hsame : U.sameButNew ({ U with heap := s₂.heap, slotsUsed := s₂.slotsUsed } : State) L mc ms := by
      refine ⟨?_, q2, q3, q4, q5, q6⟩
      obtain ⟨t, ht, -⟩ := State.frames_cons hr
      show ({ U with heap := s₂.heap, slotsUsed := s₂.slotsUsed } : State) = { U.setFrames U.frames with heap := s₂.heap, slotsUsed := s₂.slotsUsed }
      rw [State.setFrames_self ht]
    subst hg
    refine Or.inr ⟨q, ⟨(({ U with heap := s₂.heap, slotsUsed := s₂.slotsUsed } : State).setVm s₂.vm), Ls ++ L, c0 + mc, s0 + ms⟩,
      ⟨X.admits, X.cas, X.clock, X.frames, X.room, X.hears, X.method, X.code, (X.here.setHeapUsed s₂.heap s₂.slotsUsed).setVm hW'.alike, X.tail, State.WarmedH.trans X.warmed hW', X.limits, X.bytes, X.same.trans (hsame.setVm s.vm)⟩,
      ⟨g, mk, s₂, L, E, ce, rfl, rfl, hx, hce, hcv, hcl, rfl, hL, rfl, rfl⟩, ?_⟩
    show Steps p.tables e below _ (((({ U with heap := s₂.heap, slotsUsed := s₂.slotsUsed } : State).setVm s₂.vm).setTop g).pushFrame (.throwing q))
    rw [← hs₂]
    exact hsteps
end
variable {p : Program} {l : Launch} {e : Env} {R : Room} {s : State} {m : MethodId} {args : Array Value} {below : List Frame} {meth : Method} {c : Code} {T : State} {H : Heap} {locs : List Loc} {cells slots : Nat}
theorem vx_callVX (X : Stand p l e R s m args below meth c T locs cells slots) (hexec : p.tables.exec = Jvm.exec) {own C : String} {index : Nat} {y : MethodName} {bytes : ByteArray} {maxL : Nat} {ret : Option FieldType} {hh : List (Nat × Nat × Nat × Nat)}
    (hown : s.vm.findClass own = some m.cls) (hlink : (Cond.methodLink own index y).before args s = true) (hinst : (Cond.instanceMethod y).before args s = true) (hsel : (Cond.selects C y y).before args s = true)
    (hcode : (Cond.codeWith y bytes maxL ret hh).before args s = true) (hy : y.cls ≠ "java/lang/invoke/MethodHandle" ∧ y.cls ≠ "java/lang/invoke/VarHandle")
    {W9 : Nat} {Pre : Pt → Array Value → Prop} {Post : Pt → Array Value → Option Value → Pt → Prop} {PostX : Pt → Array Value → Addr → Pt → Prop} (hK : vx_Back l R p e below s args y 3 W9 Pre Post PostX)
    {b : Addr} {cellB : Cell} (hcell : T.heap[b]? = some cellB) (hobj : cellB.vm.isStatics = false) (hcls : s.vm.findClass C = some cellB.cls)
    {g : JFrame} (hg : g.method = m) (hsize : g.locals.size = c.maxLocals) {argsL rest : List Value} (hlen : ∀ sig, parseMethodDescriptor y.desc = some sig → argsL.length = sig.parameters.length)
    (hstack : g.stack = argsL.reverse ++ .ref b :: rest) (hW : 2 * g.monitorRoom + (rest.map fun v => v.category).sum ≤ W9) (hdg : decode c.code g.pc = .ok (.invokevirtual index, 3))
    (hpre : ∀ vm₁, s.WarmedH vm₁ → Pre ⟨T.setVm vm₁, locs, cells, slots⟩ (Value.ref b :: argsL).toArray) :
    (∃ (v : Option Value) (vm₁ : Vm) (B : Pt), s.WarmedH vm₁ ∧ Stand p l e R s m args below meth c B.U B.locs B.cells B.slots ∧ Post ⟨T.setVm vm₁, locs, cells, slots⟩ (Value.ref b :: argsL).toArray v B ∧
      ∀ target, Steps p.tables e below (B.U.setTop { g with pc := g.pc + 3, stack := v.toList ++ rest }) target → Steps p.tables e below (T.setTop g) target) ∨
    (∃ (q : Addr) (vm₁ : Vm) (B : Pt), s.WarmedH vm₁ ∧ Stand p l e R s m args below meth c B.U B.locs B.cells B.slots ∧ PostX ⟨T.setVm vm₁, locs, cells, slots⟩ (Value.ref b :: argsL).toArray q B ∧
      Steps p.tables e below (T.setTop g) ((B.U.setTop { g with stack := rest }).pushFrame (.throwing q))) := by
  obtain ⟨mk, methM, hnamed, hmethM, hstM, habM⟩ := Cond.instanceMethod_spec hinst
  obtain ⟨m8, methM', cM, hn8, hmethM', -, -, -, -, -, -, hsigM⟩ := Cond.codeWith_spec hcode
  cases Option.some.inj (hn8.symm.trans hnamed)
  cases hmethM.symm.trans hmethM'
  obtain ⟨c2, r2, m2, q1, q2, q3, q4, kP, hkP, hkPi⟩ := Cond.selects_spec hsel
  cases hcls.symm.trans q1
  cases (State.methodFound?_of_named hnamed hy).symm.trans q2
  cases hnamed.symm.trans q3
  have hselP : selectMethod e.platform s.vm cellB.cls mk = .method mk := by rw [Launch.admits_selectMethod X.admits]; exact q4
  obtain ⟨vm₁, X₁, hstep₁⟩ := X.invokevirtual hexec hown hlink hnamed hmethM hstM hkP hkPi hy (a := b) (cell := cellB) hcell
    (fun z h => by rw [h] at hobj; cases hobj) hselP hmethM habM hkP hkPi (g := g) hg (argsL := argsL) (rest := rest) (hlen _ hsigM) hstack hdg
  rcases hK m meth c ⟨T.setVm vm₁, locs, cells, slots⟩ { g with stack := rest } (.invokevirtual index) mk (Value.ref b :: argsL).toArray X₁ hg hsize hdg hW (X₁.named hnamed) (hpre vm₁ X₁.warmed) with ⟨v, B, X', hpost, hsteps⟩ | ⟨q, B, X', hpost, hsteps⟩
  · exact Or.inl ⟨v, vm₁, B, X₁.warmed, X', hpost, fun target h => hstep₁ _ fun acts => by rw [doInvoke_state]; exact hsteps.trans h⟩
  · exact Or.inr ⟨q, vm₁, B, X₁.warmed, X', hpost, hstep₁ _ fun acts => by rw [doInvoke_state]; exact hsteps⟩
theorem vx_callSX (X : Stand p l e R s m args below meth c T locs cells slots) (hexec : p.tables.exec = Jvm.exec) {own : String} {index : Nat} {y : MethodName} {bytes : ByteArray} {maxL : Nat} {ret : Option FieldType} {hh : List (Nat × Nat × Nat × Nat)}
    (hown : s.vm.findClass own = some m.cls) (hlink : (Cond.methodLink own index y).before args s = true) (hstat : (Cond.static y).before args s = true) (hinit : (Cond.initialized y.cls).before args s = true)
    (hcode : (Cond.codeWith y bytes maxL ret hh).before args s = true) (hy : y.cls ≠ "java/lang/invoke/MethodHandle" ∧ y.cls ≠ "java/lang/invoke/VarHandle")
    {W9 : Nat} {Pre : Pt → Array Value → Prop} {Post : Pt → Array Value → Option Value → Pt → Prop} {PostX : Pt → Array Value → Addr → Pt → Prop} (hK : vx_Back l R p e below s args y 3 W9 Pre Post PostX)
    {g : JFrame} (hg : g.method = m) (hsize : g.locals.size = c.maxLocals) {argsL rest : List Value} (hlen : ∀ sig, parseMethodDescriptor y.desc = some sig → argsL.length = sig.parameters.length)
    (hstack : g.stack = argsL.reverse ++ rest) (hW : 2 * g.monitorRoom + (rest.map fun v => v.category).sum ≤ W9) (hdg : decode c.code g.pc = .ok (.invokestatic index, 3))
    (hpre : ∀ vm₁, s.WarmedH vm₁ → Pre ⟨T.setVm vm₁, locs, cells, slots⟩ argsL.toArray) :
    (∃ (v : Option Value) (vm₁ : Vm) (B : Pt), s.WarmedH vm₁ ∧ Stand p l e R s m args below meth c B.U B.locs B.cells B.slots ∧ Post ⟨T.setVm vm₁, locs, cells, slots⟩ argsL.toArray v B ∧
      ∀ target, Steps p.tables e below (B.U.setTop { g with pc := g.pc + 3, stack := v.toList ++ rest }) target → Steps p.tables e below (T.setTop g) target) ∨
    (∃ (q : Addr) (vm₁ : Vm) (B : Pt), s.WarmedH vm₁ ∧ Stand p l e R s m args below meth c B.U B.locs B.cells B.slots ∧ PostX ⟨T.setVm vm₁, locs, cells, slots⟩ argsL.toArray q B ∧
      Steps p.tables e below (T.setTop g) ((B.U.setTop { g with stack := rest }).pushFrame (.throwing q))) := by
  obtain ⟨mk, methM, cM, hnamed, hmethM, -, -, -, -, -, -, hsigM⟩ := Cond.codeWith_spec hcode
  have hstatic : methM.isStatic = true := Cond.static_spec hnamed hmethM hstat
  obtain ⟨kP, hkP, -⟩ := className_of_methodNamed hnamed
  have hinitP : kP.init = .initialized := Cond.initialized_spec (findClass_of_methodNamed hnamed) hkP hinit
  obtain ⟨vm₁, X₁, hstep₁⟩ := X.invokestatic hexec hown hlink hnamed hmethM hstatic hkP hinitP hy (g := g) hg (argsL := argsL) (rest := rest) (hlen _ hsigM) hstack hdg
  rcases hK m meth c ⟨T.setVm vm₁, locs, cells, slots⟩ { g with stack := rest } (.invokestatic index) mk argsL.toArray X₁ hg hsize hdg hW (X₁.named hnamed) (hpre vm₁ X₁.warmed) with ⟨v, B, X', hpost, hsteps⟩ | ⟨q, B, X', hpost, hsteps⟩
  · exact Or.inl ⟨v, vm₁, B, X₁.warmed, X', hpost, fun target h => hstep₁ _ fun acts => by rw [doInvoke_state]; exact hsteps.trans h⟩
  · exact Or.inr ⟨q, vm₁, B, X₁.warmed, X', hpost, hstep₁ _ fun acts => by rw [doInvoke_state]; exact hsteps⟩
theorem vx_callVW (X : Stand p l e R s m args below meth c T locs cells slots) (hexec : p.tables.exec = Jvm.exec) {own C : String} {index : Nat} {y : MethodName} {bytes : ByteArray} {maxL : Nat} {ret : Option FieldType} {hh : List (Nat × Nat × Nat × Nat)}
    (hown : s.vm.findClass own = some m.cls) (hlink : (Cond.methodLink own index y).before args s = true) (hinst : (Cond.instanceMethod y).before args s = true) (hsel : (Cond.selects C y y).before args s = true)
    (hcode : (Cond.codeWith y bytes maxL ret hh).before args s = true) (hy : y.cls ≠ "java/lang/invoke/MethodHandle" ∧ y.cls ≠ "java/lang/invoke/VarHandle")
    {W9 : Nat} {Pre : Pt → Array Value → Prop} {Post : Pt → Array Value → Option Value → Pt → Prop} (hK : Back l R p e below s args y 3 W9 Pre Post)
    {b : Addr} {cellB : Cell} (hcell : T.heap[b]? = some cellB) (hobj : cellB.vm.isStatics = false) (hcls : s.vm.findClass C = some cellB.cls)
    {g : JFrame} (hg : g.method = m) (hsize : g.locals.size = c.maxLocals) {argsL rest : List Value} (hlen : ∀ sig, parseMethodDescriptor y.desc = some sig → argsL.length = sig.parameters.length)
    (hstack : g.stack = argsL.reverse ++ .ref b :: rest) (hW : 2 * g.monitorRoom + (rest.map fun v => v.category).sum ≤ W9) (hdg : decode c.code g.pc = .ok (.invokevirtual index, 3))
    (hpre : ∀ vm₁, s.WarmedH vm₁ → Pre ⟨T.setVm vm₁, locs, cells, slots⟩ (Value.ref b :: argsL).toArray) :
    ∃ (v : Option Value) (vm₁ : Vm) (B : Pt), s.WarmedH vm₁ ∧ Stand p l e R s m args below meth c B.U B.locs B.cells B.slots ∧ Post ⟨T.setVm vm₁, locs, cells, slots⟩ (Value.ref b :: argsL).toArray v B ∧
      ∀ target, Steps p.tables e below (B.U.setTop { g with pc := g.pc + 3, stack := v.toList ++ rest }) target → Steps p.tables e below (T.setTop g) target := by
  obtain ⟨mk, methM, hnamed, hmethM, hstM, habM⟩ := Cond.instanceMethod_spec hinst
  obtain ⟨m8, methM', cM, hn8, hmethM', -, -, -, -, -, -, hsigM⟩ := Cond.codeWith_spec hcode
  cases Option.some.inj (hn8.symm.trans hnamed)
  cases hmethM.symm.trans hmethM'
  obtain ⟨c2, r2, m2, q1, q2, q3, q4, kP, hkP, hkPi⟩ := Cond.selects_spec hsel
  cases hcls.symm.trans q1
  cases (State.methodFound?_of_named hnamed hy).symm.trans q2
  cases hnamed.symm.trans q3
  have hselP : selectMethod e.platform s.vm cellB.cls mk = .method mk := by rw [Launch.admits_selectMethod X.admits]; exact q4
  obtain ⟨vm₁, X₁, hstep₁⟩ := X.invokevirtual hexec hown hlink hnamed hmethM hstM hkP hkPi hy (a := b) (cell := cellB) hcell
    (fun z h => by rw [h] at hobj; cases hobj) hselP hmethM habM hkP hkPi (g := g) hg (argsL := argsL) (rest := rest) (hlen _ hsigM) hstack hdg
  obtain ⟨v, B, X', hpost, hsteps⟩ := hK m meth c ⟨T.setVm vm₁, locs, cells, slots⟩ { g with stack := rest } (.invokevirtual index) mk (Value.ref b :: argsL).toArray X₁ hg hsize hdg hW (X₁.named hnamed) (hpre vm₁ X₁.warmed)
  exact ⟨v, vm₁, B, X₁.warmed, X', hpost, fun target h => hstep₁ _ fun acts => by rw [doInvoke_state]; exact hsteps.trans h⟩
abbrev vx_CVW (R : Room) (s : State) (args : Array Value) (own C : String) (index : Nat) (y : MethodName) (bytes : ByteArray) (maxL : Nat) (ret : Option FieldType) (hh : List (Nat × Nat × Nat × Nat)) (ws : List Cond) (rm : Room) (mc ms n : Nat) : Prop :=
  (rm.cells = mc ∧ rm.slots = ms ∧ rm.frames + 1 ≤ R.frames ∧ 8 + (maxL + 11) + rm.locals ≤ R.locals ∧ (∀ w ∈ ws, ∀ (a' : Array Value) (U : State), s.WarmedH U.vm → w.before a' U = true) ∧ Cond.codeWith y bytes maxL ret hh ∈ ws) ∧
  (Cond.codeWith y bytes maxL ret hh).before args s = true ∧ (Cond.initialized y.cls).before args s = true ∧ (y.cls ≠ "java/lang/invoke/MethodHandle" ∧ y.cls ≠ "java/lang/invoke/VarHandle") ∧
  (∀ sig, parseMethodDescriptor y.desc = some sig → n = sig.parameters.length) ∧ (Cond.methodLink own index y).before args s = true ∧ (Cond.instanceMethod y).before args s = true ∧ (Cond.selects C y y).before args s = true
theorem vx_cwVW {own C : String} {index maxL mc ms : Nat} {y : MethodName} {bytes : ByteArray} {ret : Option FieldType} {hh : List (Nat × Nat × Nat × Nat)} {Ts ws ws' : List Cond} {rm : Room} (n : Nat) (ht : ∀ w ∈ Ts, w.before args s = true) (hT : GoodIn Ts (wsV own index C y ws)) (hw : ws = Cond.codeWith y bytes maxL ret hh :: ws') (hrc : rm.cells = mc) (hrs : rm.slots = ms)
    (hd : y.cls = C ∧ y.cls ≠ "java/lang/invoke/MethodHandle" ∧ y.cls ≠ "java/lang/invoke/VarHandle" ∧ (parseMethodDescriptor y.desc).map (fun d => d.parameters.length) = some n) (hR : rm.frames + 1 ≤ R.frames ∧ 8 + (maxL + 11) + rm.locals ≤ R.locals) :
    vx_CVW R s args own C index y bytes maxL ret hh ws rm mc ms n := by
  obtain ⟨hC, hd⟩ := hd
  subst hC
  have ok : ∀ w ∈ wsV own index y.cls y ws, w.before args s = true := fun w h => ht w (hT w h).1
  have hG : GoodIn Ts ws := fun w h => hT w (by unfold wsV; exact List.mem_append_right _ h)
  have hc : Cond.codeWith y bytes maxL ret hh ∈ ws := by rw [hw]; exact List.mem_cons_self
  refine ⟨⟨hrc, hrs, hR.1, hR.2, pay_in ht hG, hc⟩, ht _ (hG _ hc).1, ok _ (by simp [wsV]), ⟨hd.1, hd.2.1⟩, fun sig h => ?_, ok _ (by simp [wsV]), ok _ (by simp [wsV]), ok _ (by simp [wsV])⟩
  have h2 := hd.2.2
  rw [h] at h2
  exact (Option.some.inj h2).symm
theorem vx_runVW {y : MethodName} {bytes cc : ByteArray} {maxL nL mc ms n index : Nat} {ret : Option FieldType} {hh : List (Nat × Nat × Nat × Nat)} {ws : List Cond} {rm : Room} {Pc : Array Value → State → Prop} {Qc : Array Value → State → Outcome → State → Prop} {free : Addr → Prop} {Ts : List Cond} {own C : String} {b : Addr} {As rest : List Value} {g : JFrame}
    (S : CallFix p m c cc nL s args Ts own) (hM : Met l y ws rm Pc Qc mc ms free) (cw : vx_CVW R s args own C index y bytes maxL ret hh ws rm mc ms n) (hp : PreV s H C b Pc As)
    (hg : g.method = m) (hn : As.length = n) (hsize : g.locals.size = nL) (hstack : g.stack = As.reverse ++ .ref b :: rest) (hW : 2 * g.monitorRoom + (rest.map fun v => v.category).sum ≤ 8) (hdg : decode cc g.pc = .ok (.invokevirtual index, 3)) (hf : cells + mc ≤ R.cells ∧ slots + ms ≤ R.slots) :
    va_Run p l e R s m args below meth c H locs cells slots mc ms g rest (Qc (Value.ref b :: As).toArray) free := by
  obtain ⟨⟨hrc, hrs, hfr, hlo, hws, hcw⟩, hcode, hini, hy, hlen, hl, hin, hse⟩ := cw
  have hK : Back l R p e below s args y 3 8 (PreOf R mc ms Pc) (PostOf Qc mc ms free) := va_backW (hh := hh) (bytes := bytes) (maxL := maxL) (ret := ret) hM hp.1 hrc hrs hfr hlo hws hcw (fun a' U hW => word_at hW (Or.inl (by first | rfl | simp [Cond.onTables, Cond.keeps, Cond.steady])) hini)
  obtain ⟨hx, hb, hml, ho, -⟩ := S
  obtain ⟨-, ⟨cellB, hcB, hoB, hclB⟩, hPc⟩ := hp
  intro T hT X
  obtain ⟨v, vm₁, ⟨U', l2, c2, s2⟩, hW₁, X', ⟨g', mk, t, L, e1, e2, hq, h1, hL, h2, h3⟩, st⟩ := vx_callVW X hx (C := C) (hh := hh) (bytes := bytes) (maxL := maxL) (ret := ret) ho hl hin hse hcode hy hK (by rw [hT]; exact hcB) hoB hclB hg (hsize.trans hml.symm) (argsL := As) (rest := rest) (fun sig h => hn.trans (hlen sig h)) hstack hW (by rw [hb]; exact hdg)
    (fun vm₁ hW₁ => ⟨hf.1, hf.2, hPc (T.setVm vm₁) hT hW₁⟩)
  dsimp only [Pt.U, Pt.locs, Pt.cells, Pt.slots] at X' e1 e2 h1 h2 h3 st
  subst h1; subst h2; subst h3
  exact ⟨v, (T.setVm vm₁).calling g' mk (Value.ref b :: As).toArray, t, U', L, hT, X', hL, e1, e2, hq, st⟩
section
variable {y : MethodName} {bytes cc : ByteArray} {maxL nL mc ms n index : Nat} {ret : Option FieldType} {ws : List Cond} {rm : Room} {Pc : Array Value → State → Prop} {Qc : Array Value → State → Outcome → State → Prop} {XC : String → State → State → Prop} {free : Addr → Prop} {Ts : List Cond} {own C : String} {b : Addr} {As rest : List Value} {g : JFrame}
theorem vx_runVX {hh : List (Nat × Nat × Nat × Nat)} (S : CallFix p m c cc nL s args Ts own) (hM : vx_Met l y ws rm Pc Qc XC mc ms free) (cw : vx_CVW R s args own C index y bytes maxL ret hh ws rm mc ms n) (hp : PreV s H C b Pc As)
    (hg : g.method = m) (hn : As.length = n) (hsize : g.locals.size = nL) (hstack : g.stack = As.reverse ++ .ref b :: rest) (hW : 2 * g.monitorRoom + (rest.map fun v => v.category).sum ≤ 8) (hdg : decode cc g.pc = .ok (.invokevirtual index, 3)) (hf : cells + mc ≤ R.cells ∧ slots + ms ≤ R.slots) :
    vx_Run p l e R s m args below meth c H locs cells slots mc ms g rest (Qc (Value.ref b :: As).toArray) XC free := by
  obtain ⟨⟨hrc, hrs, hfr, hlo, hws, hcw⟩, hcode, hini, hy, hlen, hl, hin, hse⟩ := cw
  have hK : vx_Back l R p e below s args y 3 8 (PreOf R mc ms Pc) (PostOf Qc mc ms free) (vx_Post XC mc ms free) := vx_backW (hh := hh) (bytes := bytes) (maxL := maxL) (ret := ret) hM hp.1 hrc hrs hfr hlo hws hcw (fun a' U hW => word_at hW (Or.inl (by first | rfl | simp [Cond.onTables, Cond.keeps, Cond.steady])) hini)
  obtain ⟨hx, hb, hml, ho, -⟩ := S
  obtain ⟨-, ⟨cellB, hcB, hoB, hclB⟩, hPc⟩ := hp
  intro T hT X
  rcases vx_callVX X hx (C := C) (hh := hh) (bytes := bytes) (maxL := maxL) (ret := ret) ho hl hin hse hcode hy hK (by rw [hT]; exact hcB) hoB hclB hg (hsize.trans hml.symm) (argsL := As) (rest := rest) (fun sig h => hn.trans (hlen sig h)) hstack hW (by rw [hb]; exact hdg)
    (fun vm₁ hW₁ => ⟨hf.1, hf.2, hPc (T.setVm vm₁) hT hW₁⟩) with ⟨v, vm₁, ⟨U', l2, c2, s2⟩, hW₁, X', ⟨g', mk, t, L, e1, e2, hq, h1, hL, h2, h3⟩, st⟩ | ⟨q, vm₁, ⟨U', l2, c2, s2⟩, hW₁, X', ⟨g', mk, t, L, E, ce, e1, e2, hq, hce, hcv, hcl, h1, hL, h2, h3⟩, st⟩
  · dsimp only [Pt.U, Pt.locs, Pt.cells, Pt.slots] at X' e1 e2 h1 h2 h3 st
    subst h1; subst h2; subst h3
    exact Or.inl ⟨v, (T.setVm vm₁).calling g' mk (Value.ref b :: As).toArray, t, U', L, hT, X', hL, e1, e2, hq, st⟩
  · dsimp only [Pt.U, Pt.locs, Pt.cells, Pt.slots] at X' e1 e2 h1 h2 h3 st hcl
    subst h1; subst h2; subst h3
    exact Or.inr ⟨q, (T.setVm vm₁).calling g' mk (Value.ref b :: As).toArray, t, U', L, E, ce, hT, X', hL, e1, e2, hq, hce, hcv, vx_cls hW₁ hcl, st⟩
theorem vx_runSX {hh : List (Nat × Nat × Nat × Nat)} (S : CallFix p m c cc nL s args Ts own) (hM : vx_Met l y ws rm Pc Qc XC mc ms free) (cw : vx_CSW R s args own index y bytes maxL ret hh ws rm mc ms n) (hp : PreS s H Pc As)
    (hg : g.method = m) (hn : As.length = n) (hsize : g.locals.size = nL) (hstack : g.stack = As.reverse ++ rest) (hW : 2 * g.monitorRoom + (rest.map fun v => v.category).sum ≤ 8) (hdg : decode cc g.pc = .ok (.invokestatic index, 3)) (hf : cells + mc ≤ R.cells ∧ slots + ms ≤ R.slots) :
    vx_Run p l e R s m args below meth c H locs cells slots mc ms g rest (Qc As.toArray) XC free := by
  obtain ⟨⟨hrc, hrs, hfr, hlo, hws, hcw⟩, hcode, hini, hy, hlen, hl, hstt⟩ := cw
  have hK : vx_Back l R p e below s args y 3 8 (PreOf R mc ms Pc) (PostOf Qc mc ms free) (vx_Post XC mc ms free) := vx_backW (hh := hh) (bytes := bytes) (maxL := maxL) (ret := ret) hM hp.1 hrc hrs hfr hlo hws hcw (fun a' U hW => word_at hW (Or.inl (by first | rfl | simp [Cond.onTables, Cond.keeps, Cond.steady])) hini)
  obtain ⟨hx, hb, hml, ho, -⟩ := S
  intro T hT X
  rcases vx_callSX X hx (hh := hh) (bytes := bytes) (maxL := maxL) (ret := ret) ho hl hstt hini hcode hy hK hg (hsize.trans hml.symm) (argsL := As) (rest := rest) (fun sig h => hn.trans (hlen sig h)) hstack hW (by rw [hb]; exact hdg)
    (fun vm₁ hW₁ => ⟨hf.1, hf.2, hp.2 (T.setVm vm₁) hT hW₁⟩) with ⟨v, vm₁, ⟨U', l2, c2, s2⟩, hW₁, X', ⟨g', mk, t, L, e1, e2, hq, h1, hL, h2, h3⟩, st⟩ | ⟨q, vm₁, ⟨U', l2, c2, s2⟩, hW₁, X', ⟨g', mk, t, L, E, ce, e1, e2, hq, hce, hcv, hcl, h1, hL, h2, h3⟩, st⟩
  · dsimp only [Pt.U, Pt.locs, Pt.cells, Pt.slots] at X' e1 e2 h1 h2 h3 st
    subst h1; subst h2; subst h3
    exact Or.inl ⟨v, (T.setVm vm₁).calling g' mk As.toArray, t, U', L, hT, X', hL, e1, e2, hq, st⟩
  · dsimp only [Pt.U, Pt.locs, Pt.cells, Pt.slots] at X' e1 e2 h1 h2 h3 st hcl
    subst h1; subst h2; subst h3
    exact Or.inr ⟨q, (T.setVm vm₁).calling g' mk As.toArray, t, U', L, E, ce, hT, X', hL, e1, e2, hq, hce, hcv, vx_cls hW₁ hcl, st⟩
end
end VXH
theorem vx_ofWH {l : Launch} {y : MethodName} {ws ws' : List Cond} {rm : Room} {Pc : Array Value → State → Prop} {Qc : Array Value → State → Outcome → State → Prop} {XC : String → State → State → Prop} {mc ms : Nat} {free : Addr → Prop} {cc : ByteArray} {maxL : Nat} {ret : Option FieldType} {hh : List (Nat × Nat × Nat × Nat)}
    (hy : plainName y.cls = true) (hw : ws = Cond.codeWith y cc maxL ret hh :: ws')
    (body : ∀ p e s m args below meth c s₁, BodyLoose p l y (headSpec ws rm) cc maxL ret e s m args below meth c s₁ → c.maxLocals = maxL → Pc args s →
      W p l e (headSpec ws rm).room s m args below meth c s.heap [] 0 0 (vx_MQ below Qc XC args s mc ms free) (entryFrame m args maxL)) : vx_Met l y ws rm Pc Qc XC mc ms free := by
  refine MetFree.of_bodyS (code := cc) (maxLocals := maxL) (ret := ret) hy ?_ ?_
  · intro args s m h hn
    obtain ⟨m9, meth, c, hn9, h1, h2, h3, h4, -, h5, h6, -⟩ := Cond.codeWith_spec (atoms_spec (ws := ws) h _ (by rw [hw]; exact List.mem_cons_self))
    cases hn.symm.trans hn9
    exact ⟨meth, c, h1, h2, h3, h4, h5, h6⟩
  · intro p e s m args below meth c s₁ B hml hP _
    have hh0 : s₁.heap = s.heap := by rw [B.state]; rfl
    obtain ⟨t, a1, o, b1, b2, b3⟩ := body p e s m args below meth c s₁ B hml hP s₁ hh0 (Stand.of_body B)
    exact ⟨t, o, a1, b1, b2, b3⟩
/-! ===== END ===== -/
end
section
/-! ===== BEGIN printed: names, fields, word lists, decode rows ===== -/
def RX0 : String := "PipersDesk$Fingers"
def TX0 : u_T := fun k => match k with
  | _ => ("PipersDesk$Fingers", "stepCosts", "[[I", true)
def tyX0 : Nat → FieldType := fun k => match k with
  | _ => .array (.array .int)
abbrev wsX00 : List Cond := u_ws RX0 TX0 1
theorem nmX0 : ∀ a, a < 1 → ∀ b, b < 1 → a ≠ b → (TX0 a).2.1 ≠ (TX0 b).2.1 := by decide +kernel
theorem tyX0_ok : ∀ k, k < 1 → parseFieldDescriptor (TX0 k).2.2.1 = some (tyX0 k) := by decide +kernel
abbrev cX0_init : ByteArray := prog_2_method_1_code
def yX0_init : MethodName := ⟨RX0, "<init>", "()V"⟩
abbrev cX0_holesMoved : ByteArray := prog_2_method_2_code
def yX0_holesMoved : MethodName := ⟨RX0, "holesMoved", "(II)I"⟩
abbrev cX0_crosses : ByteArray := prog_2_method_3_code
def yX0_crosses : MethodName := ⟨RX0, "crosses", "(II)Z"⟩
abbrev cX0_limitTo : ByteArray := prog_2_method_4_code
def yX0_limitTo : MethodName := ⟨RX0, "limitTo", "(I)I"⟩
abbrev cX0_bars : ByteArray := prog_2_method_5_code
def yX0_bars : MethodName := ⟨RX0, "bars", "(II)Z"⟩
abbrev cX0_stepCost : ByteArray := prog_2_method_6_code
def yX0_stepCost : MethodName := ⟨RX0, "stepCost", "(II)I"⟩
def RX1 : String := "PipersDesk$Leasts"
def TX1 : u_T := fun k => match k with
  | _ => ("PipersDesk$Leasts", "costs", "[I", true)
def tyX1 : Nat → FieldType := fun k => match k with
  | _ => .array .int
abbrev wsX10 : List Cond := u_ws RX1 TX1 1
theorem nmX1 : ∀ a, a < 1 → ∀ b, b < 1 → a ≠ b → (TX1 a).2.1 ≠ (TX1 b).2.1 := by decide +kernel
theorem tyX1_ok : ∀ k, k < 1 → parseFieldDescriptor (TX1 k).2.2.1 = some (tyX1 k) := by decide +kernel
abbrev cX1_init : ByteArray := prog_3_method_1_code
def yX1_init : MethodName := ⟨RX1, "<init>", "()V"⟩
abbrev cX1_startRow : ByteArray := prog_3_method_2_code
def yX1_startRow : MethodName := ⟨RX1, "startRow", "()V"⟩
abbrev cX1_growFrom : ByteArray := prog_3_method_3_code
def yX1_growFrom : MethodName := ⟨RX1, "growFrom", "(LPipersDesk$Leasts;[I)V"⟩
abbrev cX1_firstLeastBeside : ByteArray := prog_3_method_4_code
def yX1_firstLeastBeside : MethodName := ⟨RX1, "firstLeastBeside", "(I)I"⟩
abbrev cX1_leastOfAll : ByteArray := prog_3_method_5_code
def yX1_leastOfAll : MethodName := ⟨RX1, "leastOfAll", "()I"⟩
def RX2 : String := "PipersDesk$Ornament"
def TX2 : u_T := fun k => match k with
  | _ => ("PipersDesk$Ornament", "graces", "[I", true)
def tyX2 : Nat → FieldType := fun k => match k with
  | _ => .array .int
abbrev wsX20 : List Cond := u_ws RX2 TX2 1
theorem nmX2 : ∀ a, a < 1 → ∀ b, b < 1 → a ≠ b → (TX2 a).2.1 ≠ (TX2 b).2.1 := by decide +kernel
theorem tyX2_ok : ∀ k, k < 1 → parseFieldDescriptor (TX2 k).2.2.1 = some (tyX2 k) := by decide +kernel
abbrev cX2_init : ByteArray := prog_4_method_1_code
def yX2_init : MethodName := ⟨RX2, "<init>", "([I)V"⟩
abbrev cX2_size : ByteArray := prog_4_method_2_code
def yX2_size : MethodName := ⟨RX2, "size", "()I"⟩
abbrev cX2_costBetween : ByteArray := prog_4_method_3_code
def yX2_costBetween : MethodName := ⟨RX2, "costBetween", "(LPipersDesk$Fingers;III)I"⟩
abbrev cX2_soundOf : ByteArray := prog_4_method_4_code
def yX2_soundOf : MethodName := ⟨RX2, "soundOf", "(III)I"⟩
def RX3 : String := "PipersDesk$OrnamentBook"
def TX3 : u_T := fun k => match k with
  | 0 => ("PipersDesk$OrnamentBook", "entries", "[LPipersDesk$Ornament;", true)
  | 1 => ("PipersDesk$OrnamentBook", "draft", "[I", true)
  | 2 => ("PipersDesk$OrnamentBook", "size", "I", false)
  | _ => ("PipersDesk$OrnamentBook", "draftSize", "I", false)
def tyX3 : Nat → FieldType := fun k => match k with
  | 0 => .array (.object "PipersDesk$Ornament")
  | 1 => .array .int
  | 2 => .int
  | _ => .int
abbrev wsX30 : List Cond := u_ws RX3 TX3 4
theorem nmX3 : ∀ a, a < 4 → ∀ b, b < 4 → a ≠ b → (TX3 a).2.1 ≠ (TX3 b).2.1 := by decide +kernel
theorem tyX3_ok : ∀ k, k < 4 → parseFieldDescriptor (TX3 k).2.2.1 = some (tyX3 k) := by decide +kernel
abbrev cX3_init : ByteArray := prog_5_method_1_code
def yX3_init : MethodName := ⟨RX3, "<init>", "()V"⟩
abbrev cX3_size : ByteArray := prog_5_method_2_code
def yX3_size : MethodName := ⟨RX3, "size", "()I"⟩
abbrev cX3_isFull : ByteArray := prog_5_method_3_code
def yX3_isFull : MethodName := ⟨RX3, "isFull", "()Z"⟩
abbrev cX3_isDraftEmpty : ByteArray := prog_5_method_4_code
def yX3_isDraftEmpty : MethodName := ⟨RX3, "isDraftEmpty", "()Z"⟩
abbrev cX3_isDraftFull : ByteArray := prog_5_method_5_code
def yX3_isDraftFull : MethodName := ⟨RX3, "isDraftFull", "()Z"⟩
abbrev cX3_addToDraft : ByteArray := prog_5_method_6_code
def yX3_addToDraft : MethodName := ⟨RX3, "addToDraft", "(I)I"⟩
abbrev cX3_enterDraft : ByteArray := prog_5_method_7_code
def yX3_enterDraft : MethodName := ⟨RX3, "enterDraft", "()I"⟩
abbrev cX3_costOf : ByteArray := prog_5_method_8_code
def yX3_costOf : MethodName := ⟨RX3, "costOf", "(ILPipersDesk$Fingers;III)I"⟩
abbrev cX3_gracesOf : ByteArray := prog_5_method_9_code
def yX3_gracesOf : MethodName := ⟨RX3, "gracesOf", "(I)I"⟩
abbrev cX3_weigh : ByteArray := prog_5_method_10_code
def yX3_weigh : MethodName := ⟨RX3, "weigh", "(LPipersDesk$Fingers;IIIZ[I)V"⟩
def RX4 : String := "PipersDesk$SetSearch"
def TX4 : u_T := fun k => match k with
  | 0 => ("PipersDesk$SetSearch", "joinCosts", "[[I", true)
  | 1 => ("PipersDesk$SetSearch", "row", "LPipersDesk$Leasts;", true)
  | 2 => ("PipersDesk$SetSearch", "order", "[I", true)
  | 3 => ("PipersDesk$SetSearch", "best", "[I", true)
  | 4 => ("PipersDesk$SetSearch", "size", "I", false)
  | _ => ("PipersDesk$SetSearch", "leastCost", "I", false)
def tyX4 : Nat → FieldType := fun k => match k with
  | 0 => .array (.array .int)
  | 1 => .object "PipersDesk$Leasts"
  | 2 => .array .int
  | 3 => .array .int
  | 4 => .int
  | _ => .int
abbrev wsX40 : List Cond := u_ws RX4 TX4 6
theorem nmX4 : ∀ a, a < 6 → ∀ b, b < 6 → a ≠ b → (TX4 a).2.1 ≠ (TX4 b).2.1 := by decide +kernel
theorem tyX4_ok : ∀ k, k < 6 → parseFieldDescriptor (TX4 k).2.2.1 = some (tyX4 k) := by decide +kernel
abbrev cX4_init : ByteArray := prog_6_method_1_code
def yX4_init : MethodName := ⟨RX4, "<init>", "()V"⟩
abbrev cX4_size : ByteArray := prog_6_method_2_code
def yX4_size : MethodName := ⟨RX4, "size", "()I"⟩
abbrev cX4_leastCost : ByteArray := prog_6_method_3_code
def yX4_leastCost : MethodName := ⟨RX4, "leastCost", "()I"⟩
abbrev cX4_bestAt : ByteArray := prog_6_method_4_code
def yX4_bestAt : MethodName := ⟨RX4, "bestAt", "(I)I"⟩
abbrev cX4_weighJoins : ByteArray := prog_6_method_5_code
def yX4_weighJoins : MethodName := ⟨RX4, "weighJoins", "([LPipersDesk$Tune;LPipersDesk$Fingers;LPipersDesk$OrnamentBook;)V"⟩
abbrev cX4_tryAllOrders : ByteArray := prog_6_method_6_code
def yX4_tryAllOrders : MethodName := ⟨RX4, "tryAllOrders", "([LPipersDesk$Tune;)I"⟩
abbrev cX4_startOrder : ByteArray := prog_6_method_7_code
def yX4_startOrder : MethodName := ⟨RX4, "startOrder", "([LPipersDesk$Tune;)V"⟩
abbrev cX4_keepIfLess : ByteArray := prog_6_method_8_code
def yX4_keepIfLess : MethodName := ⟨RX4, "keepIfLess", "(I)V"⟩
abbrev cX4_costOfOrder : ByteArray := prog_6_method_9_code
def yX4_costOfOrder : MethodName := ⟨RX4, "costOfOrder", "([LPipersDesk$Tune;)I"⟩
abbrev cX4_goToNextOrder : ByteArray := prog_6_method_10_code
def yX4_goToNextOrder : MethodName := ⟨RX4, "goToNextOrder", "()Z"⟩
abbrev cX4_exchange : ByteArray := prog_6_method_11_code
def yX4_exchange : MethodName := ⟨RX4, "exchange", "(II)V"⟩
def RX5 : String := "PipersDesk$Tune"
def TX5 : u_T := fun k => match k with
  | 0 => ("PipersDesk$Tune", "pitches", "[I", true)
  | 1 => ("PipersDesk$Tune", "lengths", "[I", true)
  | 2 => ("PipersDesk$Tune", "wishes", "[Z", true)
  | 3 => ("PipersDesk$Tune", "gapCosts", "[[I", true)
  | _ => ("PipersDesk$Tune", "size", "I", false)
def tyX5 : Nat → FieldType := fun k => match k with
  | 0 => .array .int
  | 1 => .array .int
  | 2 => .array .boolean
  | 3 => .array (.array .int)
  | _ => .int
abbrev wsX50 : List Cond := u_ws RX5 TX5 5
theorem nmX5 : ∀ a, a < 5 → ∀ b, b < 5 → a ≠ b → (TX5 a).2.1 ≠ (TX5 b).2.1 := by decide +kernel
theorem tyX5_ok : ∀ k, k < 5 → parseFieldDescriptor (TX5 k).2.2.1 = some (tyX5 k) := by decide +kernel
abbrev cX5_init : ByteArray := prog_7_method_1_code
def yX5_init : MethodName := ⟨RX5, "<init>", "()V"⟩
abbrev cX5_size : ByteArray := prog_7_method_2_code
def yX5_size : MethodName := ⟨RX5, "size", "()I"⟩
abbrev cX5_gaps : ByteArray := prog_7_method_3_code
def yX5_gaps : MethodName := ⟨RX5, "gaps", "()I"⟩
abbrev cX5_pitchOf : ByteArray := prog_7_method_4_code
def yX5_pitchOf : MethodName := ⟨RX5, "pitchOf", "(I)I"⟩
abbrev cX5_lengthOf : ByteArray := prog_7_method_5_code
def yX5_lengthOf : MethodName := ⟨RX5, "lengthOf", "(I)I"⟩
abbrev cX5_append : ByteArray := prog_7_method_6_code
def yX5_append : MethodName := ⟨RX5, "append", "(II)I"⟩
abbrev cX5_dropLast : ByteArray := prog_7_method_7_code
def yX5_dropLast : MethodName := ⟨RX5, "dropLast", "()I"⟩
abbrev cX5_replaceWish : ByteArray := prog_7_method_8_code
def yX5_replaceWish : MethodName := ⟨RX5, "replaceWish", "(IZ)Z"⟩
abbrev cX5_weighGaps : ByteArray := prog_7_method_9_code
def yX5_weighGaps : MethodName := ⟨RX5, "weighGaps", "(LPipersDesk$Fingers;LPipersDesk$OrnamentBook;)V"⟩
abbrev cX5_costsAt : ByteArray := prog_7_method_10_code
def yX5_costsAt : MethodName := ⟨RX5, "costsAt", "(I)[I"⟩
def RX6 : String := "PipersDesk$TuneChoices"
def TX6 : u_T := fun k => match k with
  | 0 => ("PipersDesk$TuneChoices", "rows", "[LPipersDesk$Leasts;", true)
  | 1 => ("PipersDesk$TuneChoices", "empties", "LPipersDesk$Leasts;", true)
  | 2 => ("PipersDesk$TuneChoices", "emptyCosts", "[I", true)
  | _ => ("PipersDesk$TuneChoices", "counts", "[I", true)
def tyX6 : Nat → FieldType := fun k => match k with
  | 0 => .array (.object "PipersDesk$Leasts")
  | 1 => .object "PipersDesk$Leasts"
  | 2 => .array .int
  | _ => .array .int
abbrev wsX60 : List Cond := u_ws RX6 TX6 4
theorem nmX6 : ∀ a, a < 4 → ∀ b, b < 4 → a ≠ b → (TX6 a).2.1 ≠ (TX6 b).2.1 := by decide +kernel
theorem tyX6_ok : ∀ k, k < 4 → parseFieldDescriptor (TX6 k).2.2.1 = some (tyX6 k) := by decide +kernel
abbrev cX6_init : ByteArray := prog_8_method_1_code
def yX6_init : MethodName := ⟨RX6, "<init>", "()V"⟩
abbrev cX6_solveFor : ByteArray := prog_8_method_2_code
def yX6_solveFor : MethodName := ⟨RX6, "solveFor", "(LPipersDesk$Tune;)I"⟩
abbrev cX6_firstAt : ByteArray := prog_8_method_3_code
def yX6_firstAt : MethodName := ⟨RX6, "firstAt", "(I)I"⟩
abbrev cX6_fewestEmptyGaps : ByteArray := prog_8_method_4_code
def yX6_fewestEmptyGaps : MethodName := ⟨RX6, "fewestEmptyGaps", "(LPipersDesk$Tune;)I"⟩
abbrev cX6_countFor : ByteArray := prog_8_method_5_code
def yX6_countFor : MethodName := ⟨RX6, "countFor", "(LPipersDesk$Tune;)I"⟩
abbrev cX6_countWithGap : ByteArray := prog_8_method_6_code
def yX6_countWithGap : MethodName := ⟨RX6, "countWithGap", "([II)I"⟩
def RX7 : String := "PipersDesk"
def TX7 : u_T := fun k => match k with
  | 0 => ("PipersDesk", "fingers", "LPipersDesk$Fingers;", true)
  | 1 => ("PipersDesk", "book", "LPipersDesk$OrnamentBook;", true)
  | 2 => ("PipersDesk", "tunes", "[LPipersDesk$Tune;", true)
  | 3 => ("PipersDesk", "tuneChoices", "LPipersDesk$TuneChoices;", true)
  | _ => ("PipersDesk", "setSearch", "LPipersDesk$SetSearch;", true)
def tyX7 : Nat → FieldType := fun k => match k with
  | 0 => .object "PipersDesk$Fingers"
  | 1 => .object "PipersDesk$OrnamentBook"
  | 2 => .array (.object "PipersDesk$Tune")
  | 3 => .object "PipersDesk$TuneChoices"
  | _ => .object "PipersDesk$SetSearch"
abbrev wsX70 : List Cond := u_ws RX7 TX7 5
theorem nmX7 : ∀ a, a < 5 → ∀ b, b < 5 → a ≠ b → (TX7 a).2.1 ≠ (TX7 b).2.1 := by decide +kernel
theorem tyX7_ok : ∀ k, k < 5 → parseFieldDescriptor (TX7 k).2.2.1 = some (tyX7 k) := by decide +kernel
abbrev cX7_init : ByteArray := prog_1_method_1_code
def yX7_init : MethodName := ⟨RX7, "<init>", "()V"⟩
abbrev cX7_cost : ByteArray := prog_1_method_2_code
def yX7_cost : MethodName := ⟨RX7, "cost", "(II)I"⟩
abbrev cX7_isBarred : ByteArray := prog_1_method_3_code
def yX7_isBarred : MethodName := ⟨RX7, "isBarred", "(II)Z"⟩
abbrev cX7_setLimit : ByteArray := prog_1_method_4_code
def yX7_setLimit : MethodName := ⟨RX7, "setLimit", "(I)I"⟩
abbrev cX7_grace : ByteArray := prog_1_method_5_code
def yX7_grace : MethodName := ⟨RX7, "grace", "(I)I"⟩
abbrev cX7_enter : ByteArray := prog_1_method_6_code
def yX7_enter : MethodName := ⟨RX7, "enter", "()I"⟩
abbrev cX7_ornaments : ByteArray := prog_1_method_7_code
def yX7_ornaments : MethodName := ⟨RX7, "ornaments", "()I"⟩
abbrev cX7_fits : ByteArray := prog_1_method_8_code
def yX7_fits : MethodName := ⟨RX7, "fits", "(IIII)Z"⟩
abbrev cX7_addNote : ByteArray := prog_1_method_9_code
def yX7_addNote : MethodName := ⟨RX7, "addNote", "(III)I"⟩
abbrev cX7_removeNote : ByteArray := prog_1_method_10_code
def yX7_removeNote : MethodName := ⟨RX7, "removeNote", "(I)I"⟩
abbrev cX7_setWish : ByteArray := prog_1_method_11_code
def yX7_setWish : MethodName := ⟨RX7, "setWish", "(IIZ)Z"⟩
abbrev cX7_notes : ByteArray := prog_1_method_12_code
def yX7_notes : MethodName := ⟨RX7, "notes", "(I)I"⟩
abbrev cX7_time : ByteArray := prog_1_method_13_code
def yX7_time : MethodName := ⟨RX7, "time", "(II)I"⟩
abbrev cX7_fitting : ByteArray := prog_1_method_14_code
def yX7_fitting : MethodName := ⟨RX7, "fitting", "(II)I"⟩
abbrev cX7_choices : ByteArray := prog_1_method_15_code
def yX7_choices : MethodName := ⟨RX7, "choices", "(I)I"⟩
abbrev cX7_least : ByteArray := prog_1_method_16_code
def yX7_least : MethodName := ⟨RX7, "least", "(I)I"⟩
abbrev cX7_chosen : ByteArray := prog_1_method_17_code
def yX7_chosen : MethodName := ⟨RX7, "chosen", "(II)I"⟩
abbrev cX7_mostOrnaments : ByteArray := prog_1_method_18_code
def yX7_mostOrnaments : MethodName := ⟨RX7, "mostOrnaments", "(I)I"⟩
abbrev cX7_average : ByteArray := prog_1_method_19_code
def yX7_average : MethodName := ⟨RX7, "average", "(I)F"⟩
abbrev cX7_leastSet : ByteArray := prog_1_method_20_code
def yX7_leastSet : MethodName := ⟨RX7, "leastSet", "()I"⟩
abbrev cX7_tuneAt : ByteArray := prog_1_method_21_code
def yX7_tuneAt : MethodName := ⟨RX7, "tuneAt", "(I)I"⟩
abbrev cX7_sets : ByteArray := prog_1_method_22_code
def yX7_sets : MethodName := ⟨RX7, "sets", "()I"⟩
abbrev cX7_checkPitch : ByteArray := prog_1_method_23_code
def yX7_checkPitch : MethodName := ⟨RX7, "checkPitch", "(I)V"⟩
abbrev cX7_checkLength : ByteArray := prog_1_method_24_code
def yX7_checkLength : MethodName := ⟨RX7, "checkLength", "(I)V"⟩
abbrev cX7_checkTune : ByteArray := prog_1_method_25_code
def yX7_checkTune : MethodName := ⟨RX7, "checkTune", "(I)V"⟩
abbrev cX7_checkGap : ByteArray := prog_1_method_26_code
def yX7_checkGap : MethodName := ⟨RX7, "checkGap", "(II)V"⟩
abbrev cX7_solve : ByteArray := prog_1_method_27_code
def yX7_solve : MethodName := ⟨RX7, "solve", "(I)I"⟩
abbrev cX7_trySets : ByteArray := prog_1_method_28_code
def yX7_trySets : MethodName := ⟨RX7, "trySets", "()I"⟩
def RX8 : String := "PipersDeskModel"
def TX8 : u_T := fun k => match k with
  | 0 => ("PipersDeskModel", "thrown", "I", false)
  | 1 => ("PipersDeskModel", "holes", "[I", true)
  | 2 => ("PipersDeskModel", "limit", "I", false)
  | 3 => ("PipersDeskModel", "graces", "[I", true)
  | 4 => ("PipersDeskModel", "graceMany", "[I", true)
  | 5 => ("PipersDeskModel", "ornaments", "I", false)
  | 6 => ("PipersDeskModel", "draft", "[I", true)
  | 7 => ("PipersDeskModel", "drafted", "I", false)
  | 8 => ("PipersDeskModel", "pitches", "[I", true)
  | 9 => ("PipersDeskModel", "lengths", "[I", true)
  | 10 => ("PipersDeskModel", "wishes", "[Z", true)
  | 11 => ("PipersDeskModel", "noteMany", "[I", true)
  | 12 => ("PipersDeskModel", "rowPitches", "[I", true)
  | 13 => ("PipersDeskModel", "rowLengths", "[I", true)
  | 14 => ("PipersDeskModel", "rowWishes", "[Z", true)
  | 15 => ("PipersDeskModel", "row", "I", false)
  | 16 => ("PipersDeskModel", "least", "[I", true)
  | 17 => ("PipersDeskModel", "ways", "[I", true)
  | 18 => ("PipersDeskModel", "most", "[I", true)
  | 19 => ("PipersDeskModel", "order", "[I", true)
  | _ => ("PipersDeskModel", "bestOrder", "[I", true)
def tyX8 : Nat → FieldType := fun k => match k with
  | 0 => .int
  | 1 => .array .int
  | 2 => .int
  | 3 => .array .int
  | 4 => .array .int
  | 5 => .int
  | 6 => .array .int
  | 7 => .int
  | 8 => .array .int
  | 9 => .array .int
  | 10 => .array .boolean
  | 11 => .array .int
  | 12 => .array .int
  | 13 => .array .int
  | 14 => .array .boolean
  | 15 => .int
  | 16 => .array .int
  | 17 => .array .int
  | 18 => .array .int
  | 19 => .array .int
  | _ => .array .int
abbrev wsX80 : List Cond := u_ws RX8 TX8 21
theorem nmX8 : ∀ a, a < 21 → ∀ b, b < 21 → a ≠ b → (TX8 a).2.1 ≠ (TX8 b).2.1 := by decide +kernel
theorem tyX8_ok : ∀ k, k < 21 → parseFieldDescriptor (TX8 k).2.2.1 = some (tyX8 k) := by decide +kernel
abbrev cX8_init : ByteArray := prog_10_method_1_code
def yX8_init : MethodName := ⟨RX8, "<init>", "()V"⟩
abbrev cX8_thrown : ByteArray := prog_10_method_2_code
def yX8_thrown : MethodName := ⟨RX8, "thrown", "()I"⟩
abbrev cX8_goesWell : ByteArray := prog_10_method_3_code
def yX8_goesWell : MethodName := ⟨RX8, "goesWell", "(I)Z"⟩
abbrev cX8_in : ByteArray := prog_10_method_4_code
def yX8_in : MethodName := ⟨RX8, "in", "(III)Z"⟩
abbrev cX8_isPitch : ByteArray := prog_10_method_5_code
def yX8_isPitch : MethodName := ⟨RX8, "isPitch", "(I)Z"⟩
abbrev cX8_costOf : ByteArray := prog_10_method_6_code
def yX8_costOf : MethodName := ⟨RX8, "costOf", "(II)I"⟩
abbrev cX8_bars : ByteArray := prog_10_method_7_code
def yX8_bars : MethodName := ⟨RX8, "bars", "(II)Z"⟩
abbrev cX8_cost : ByteArray := prog_10_method_8_code
def yX8_cost : MethodName := ⟨RX8, "cost", "(II)I"⟩
abbrev cX8_isBarred : ByteArray := prog_10_method_9_code
def yX8_isBarred : MethodName := ⟨RX8, "isBarred", "(II)Z"⟩
abbrev cX8_setLimit : ByteArray := prog_10_method_10_code
def yX8_setLimit : MethodName := ⟨RX8, "setLimit", "(I)I"⟩
abbrev cX8_grace : ByteArray := prog_10_method_11_code
def yX8_grace : MethodName := ⟨RX8, "grace", "(I)I"⟩
abbrev cX8_enter : ByteArray := prog_10_method_12_code
def yX8_enter : MethodName := ⟨RX8, "enter", "()I"⟩
abbrev cX8_ornaments : ByteArray := prog_10_method_13_code
def yX8_ornaments : MethodName := ⟨RX8, "ornaments", "()I"⟩
abbrev cX8_moves : ByteArray := prog_10_method_14_code
def yX8_moves : MethodName := ⟨RX8, "moves", "(II)I"⟩
abbrev cX8_between : ByteArray := prog_10_method_15_code
def yX8_between : MethodName := ⟨RX8, "between", "(IIII)I"⟩
abbrev cX8_fits : ByteArray := prog_10_method_16_code
def yX8_fits : MethodName := ⟨RX8, "fits", "(IIII)Z"⟩
abbrev cX8_isTune : ByteArray := prog_10_method_17_code
def yX8_isTune : MethodName := ⟨RX8, "isTune", "(I)Z"⟩
abbrev cX8_addNote : ByteArray := prog_10_method_18_code
def yX8_addNote : MethodName := ⟨RX8, "addNote", "(III)I"⟩
abbrev cX8_removeNote : ByteArray := prog_10_method_19_code
def yX8_removeNote : MethodName := ⟨RX8, "removeNote", "(I)I"⟩
abbrev cX8_isGap : ByteArray := prog_10_method_20_code
def yX8_isGap : MethodName := ⟨RX8, "isGap", "(II)Z"⟩
abbrev cX8_setWish : ByteArray := prog_10_method_21_code
def yX8_setWish : MethodName := ⟨RX8, "setWish", "(IIZ)Z"⟩
abbrev cX8_notes : ByteArray := prog_10_method_22_code
def yX8_notes : MethodName := ⟨RX8, "notes", "(I)I"⟩
abbrev cX8_append : ByteArray := prog_10_method_23_code
def yX8_append : MethodName := ⟨RX8, "append", "(I)V"⟩
abbrev cX8_at : ByteArray := prog_10_method_24_code
def yX8_at : MethodName := ⟨RX8, "at", "(II)I"⟩
abbrev cX8_count : ByteArray := prog_10_method_25_code
def yX8_count : MethodName := ⟨RX8, "count", "()V"⟩
abbrev cX8_countAt : ByteArray := prog_10_method_26_code
def yX8_countAt : MethodName := ⟨RX8, "countAt", "(II)V"⟩
abbrev cX8_layTune : ByteArray := prog_10_method_27_code
def yX8_layTune : MethodName := ⟨RX8, "layTune", "(I)V"⟩
abbrev cX8_chosenAt : ByteArray := prog_10_method_28_code
def yX8_chosenAt : MethodName := ⟨RX8, "chosenAt", "(I)I"⟩
abbrev cX8_isFirst : ByteArray := prog_10_method_29_code
def yX8_isFirst : MethodName := ⟨RX8, "isFirst", "(III)Z"⟩
abbrev cX8_faultOf : ByteArray := prog_10_method_30_code
def yX8_faultOf : MethodName := ⟨RX8, "faultOf", "(IZ)I"⟩
abbrev cX8_time : ByteArray := prog_10_method_31_code
def yX8_time : MethodName := ⟨RX8, "time", "(II)I"⟩
abbrev cX8_fitting : ByteArray := prog_10_method_32_code
def yX8_fitting : MethodName := ⟨RX8, "fitting", "(II)I"⟩
abbrev cX8_choices : ByteArray := prog_10_method_33_code
def yX8_choices : MethodName := ⟨RX8, "choices", "(I)I"⟩
abbrev cX8_faultOfTune : ByteArray := prog_10_method_34_code
def yX8_faultOfTune : MethodName := ⟨RX8, "faultOfTune", "(I)I"⟩
abbrev cX8_least : ByteArray := prog_10_method_35_code
def yX8_least : MethodName := ⟨RX8, "least", "(I)I"⟩
abbrev cX8_chosen : ByteArray := prog_10_method_36_code
def yX8_chosen : MethodName := ⟨RX8, "chosen", "(II)I"⟩
abbrev cX8_mostOrnaments : ByteArray := prog_10_method_37_code
def yX8_mostOrnaments : MethodName := ⟨RX8, "mostOrnaments", "(I)I"⟩
abbrev cX8_average : ByteArray := prog_10_method_38_code
def yX8_average : MethodName := ⟨RX8, "average", "(I)F"⟩
abbrev cX8_layOrder : ByteArray := prog_10_method_39_code
def yX8_layOrder : MethodName := ⟨RX8, "layOrder", "(I)Z"⟩
abbrev cX8_goThrough : ByteArray := prog_10_method_40_code
def yX8_goThrough : MethodName := ⟨RX8, "goThrough", "(Z)I"⟩
abbrev cX8_leastSet : ByteArray := prog_10_method_41_code
def yX8_leastSet : MethodName := ⟨RX8, "leastSet", "()I"⟩
abbrev cX8_tuneAt : ByteArray := prog_10_method_42_code
def yX8_tuneAt : MethodName := ⟨RX8, "tuneAt", "(I)I"⟩
abbrev cX8_sets : ByteArray := prog_10_method_43_code
def yX8_sets : MethodName := ⟨RX8, "sets", "()I"⟩
def RJx145de : String := "java/io/Serializable"
def TJx145de : u_T := fun k => match k with
  | _ => ("", "", "", false)
def tyJx145de : Nat → FieldType := fun k => match k with
  | _ => .int
abbrev wsJx145de0 : List Cond := u_ws RJx145de TJx145de 0
theorem nmJx145de : ∀ a, a < 0 → ∀ b, b < 0 → a ≠ b → (TJx145de a).2.1 ≠ (TJx145de b).2.1 := by decide +kernel
theorem tyJx145de_ok : ∀ k, k < 0 → parseFieldDescriptor (TJx145de k).2.2.1 = some (tyJx145de k) := by decide +kernel
def RJx8e188 : String := "java/lang/Cloneable"
def TJx8e188 : u_T := fun k => match k with
  | _ => ("", "", "", false)
def tyJx8e188 : Nat → FieldType := fun k => match k with
  | _ => .int
abbrev wsJx8e1880 : List Cond := u_ws RJx8e188 TJx8e188 0
theorem nmJx8e188 : ∀ a, a < 0 → ∀ b, b < 0 → a ≠ b → (TJx8e188 a).2.1 ≠ (TJx8e188 b).2.1 := by decide +kernel
theorem tyJx8e188_ok : ∀ k, k < 0 → parseFieldDescriptor (TJx8e188 k).2.2.1 = some (tyJx8e188 k) := by decide +kernel
def RJ6 : String := "java/lang/Integer"
def TJ6 : u_T := fun k => match k with
  | _ => ("", "", "", false)
def tyJ6 : Nat → FieldType := fun k => match k with
  | _ => .int
abbrev wsJ60 : List Cond := u_ws RJ6 TJ6 0
theorem nmJ6 : ∀ a, a < 0 → ∀ b, b < 0 → a ≠ b → (TJ6 a).2.1 ≠ (TJ6 b).2.1 := by decide +kernel
theorem tyJ6_ok : ∀ k, k < 0 → parseFieldDescriptor (TJ6 k).2.2.1 = some (tyJ6 k) := by decide +kernel
abbrev cJ6_bitCount_0f7a4 : ByteArray := prog_17_method_49_code
def yJ6_bitCount_0f7a4 : MethodName := ⟨RJ6, "bitCount", "(I)I"⟩
def RJ9 : String := "java/lang/Math"
def TJ9 : u_T := fun k => match k with
  | _ => ("", "", "", false)
def tyJ9 : Nat → FieldType := fun k => match k with
  | _ => .int
abbrev wsJ90 : List Cond := u_ws RJ9 TJ9 0
theorem nmJ9 : ∀ a, a < 0 → ∀ b, b < 0 → a ≠ b → (TJ9 a).2.1 ≠ (TJ9 b).2.1 := by decide +kernel
theorem tyJ9_ok : ∀ k, k < 0 → parseFieldDescriptor (TJ9 k).2.2.1 = some (tyJ9 k) := by decide +kernel
abbrev cJ9_min_7cf53 : ByteArray := prog_18_method_69_code
def yJ9_min_7cf53 : MethodName := ⟨RJ9, "min", "(II)I"⟩
def RJ0 : String := "java/lang/String"
def TJ0 : u_T := fun k => match k with
  | _ => ("", "", "", false)
def tyJ0 : Nat → FieldType := fun k => match k with
  | _ => .int
abbrev wsJ00 : List Cond := u_ws RJ0 TJ0 0
theorem nmJ0 : ∀ a, a < 0 → ∀ b, b < 0 → a ≠ b → (TJ0 a).2.1 ≠ (TJ0 b).2.1 := by decide +kernel
theorem tyJ0_ok : ∀ k, k < 0 → parseFieldDescriptor (TJ0 k).2.2.1 = some (tyJ0 k) := by decide +kernel
def RJ10 : String := "java/lang/System"
def TJ10 : u_T := fun k => match k with
  | _ => ("", "", "", false)
def tyJ10 : Nat → FieldType := fun k => match k with
  | _ => .int
abbrev wsJ100 : List Cond := u_ws RJ10 TJ10 0
theorem nmJ10 : ∀ a, a < 0 → ∀ b, b < 0 → a ≠ b → (TJ10 a).2.1 ≠ (TJ10 b).2.1 := by decide +kernel
theorem tyJ10_ok : ∀ k, k < 0 → parseFieldDescriptor (TJ10 k).2.2.1 = some (tyJ10 k) := by decide +kernel
def RJ7 : String := "java/util/Arrays"
def TJ7 : u_T := fun k => match k with
  | _ => ("", "", "", false)
def tyJ7 : Nat → FieldType := fun k => match k with
  | _ => .int
abbrev wsJ70 : List Cond := u_ws RJ7 TJ7 0
theorem nmJ7 : ∀ a, a < 0 → ∀ b, b < 0 → a ≠ b → (TJ7 a).2.1 ≠ (TJ7 b).2.1 := by decide +kernel
theorem tyJ7_ok : ∀ k, k < 0 → parseFieldDescriptor (TJ7 k).2.2.1 = some (tyJ7 k) := by decide +kernel
abbrev cJ7_fill_53178 : ByteArray := prog_23_method_103_code
def yJ7_fill_53178 : MethodName := ⟨RJ7, "fill", "([II)V"⟩
abbrev cJ7_copyOf_59c91 : ByteArray := prog_23_method_123_code
def yJ7_copyOf_59c91 : MethodName := ⟨RJ7, "copyOf", "([II)[I"⟩
def RL : String := "PipersDeskLaw"
abbrev cL_cost : ByteArray := method_3_code
def yL_cost : MethodName := ⟨RL, "cost", "(LPipersDesk;II[J)I"⟩
abbrev cL_isBarred : ByteArray := method_4_code
def yL_isBarred : MethodName := ⟨RL, "isBarred", "(LPipersDesk;II[J)I"⟩
abbrev cL_setLimit : ByteArray := method_5_code
def yL_setLimit : MethodName := ⟨RL, "setLimit", "(LPipersDesk;I[J)I"⟩
abbrev cL_grace : ByteArray := method_6_code
def yL_grace : MethodName := ⟨RL, "grace", "(LPipersDesk;I[J)I"⟩
abbrev cL_enter : ByteArray := method_7_code
def yL_enter : MethodName := ⟨RL, "enter", "(LPipersDesk;[J)I"⟩
abbrev cL_fits : ByteArray := method_8_code
def yL_fits : MethodName := ⟨RL, "fits", "(LPipersDesk;IIII[J)I"⟩
abbrev cL_addNote : ByteArray := method_9_code
def yL_addNote : MethodName := ⟨RL, "addNote", "(LPipersDesk;III[J)I"⟩
abbrev cL_removeNote : ByteArray := method_10_code
def yL_removeNote : MethodName := ⟨RL, "removeNote", "(LPipersDesk;I[J)I"⟩
abbrev cL_setWish : ByteArray := method_11_code
def yL_setWish : MethodName := ⟨RL, "setWish", "(LPipersDesk;IIZ[J)I"⟩
abbrev cL_notes : ByteArray := method_12_code
def yL_notes : MethodName := ⟨RL, "notes", "(LPipersDesk;I[J)I"⟩
abbrev cL_time : ByteArray := method_13_code
def yL_time : MethodName := ⟨RL, "time", "(LPipersDesk;II[J)I"⟩
abbrev cL_fitting : ByteArray := method_14_code
def yL_fitting : MethodName := ⟨RL, "fitting", "(LPipersDesk;II[J)I"⟩
abbrev cL_choices : ByteArray := method_15_code
def yL_choices : MethodName := ⟨RL, "choices", "(LPipersDesk;I[J)I"⟩
abbrev cL_least : ByteArray := method_16_code
def yL_least : MethodName := ⟨RL, "least", "(LPipersDesk;I[J)I"⟩
abbrev cL_chosen : ByteArray := method_17_code
def yL_chosen : MethodName := ⟨RL, "chosen", "(LPipersDesk;II[J)I"⟩
abbrev cL_mostOrnaments : ByteArray := method_18_code
def yL_mostOrnaments : MethodName := ⟨RL, "mostOrnaments", "(LPipersDesk;I[J)I"⟩
abbrev cL_average : ByteArray := method_19_code
def yL_average : MethodName := ⟨RL, "average", "(LPipersDesk;I[D)I"⟩
abbrev cL_leastSet : ByteArray := method_20_code
def yL_leastSet : MethodName := ⟨RL, "leastSet", "(LPipersDesk;[J)I"⟩
abbrev cL_tuneAt : ByteArray := method_21_code
def yL_tuneAt : MethodName := ⟨RL, "tuneAt", "(LPipersDesk;I[J)I"⟩
abbrev cL_law : ByteArray := code
def yL_law : MethodName := ⟨RL, "law", "([I)Z"⟩
def wsJ6_bitCount_0f7a4 : List Cond := .code yJ6_bitCount_0f7a4 cJ6_bitCount_0f7a4 1 (some .int) :: ([.constant RJ6 265 (1431655765), .constant RJ6 266 (858993459), .constant RJ6 267 (252645135)])
def wsX0_holesMoved : List Cond := .code yX0_holesMoved cX0_holesMoved 2 (some .int) :: ([.methodLink RX0 24 yJ6_bitCount_0f7a4, .static yJ6_bitCount_0f7a4, .initialized RJ6, .code yJ6_bitCount_0f7a4 cJ6_bitCount_0f7a4 1 (some .int), .constant RJ6 265 (1431655765), .constant RJ6 266 (858993459), .constant RJ6 267 (252645135)])
def wsX0_crosses : List Cond := .code yX0_crosses cX0_crosses 4 (some .boolean) :: ([])
def wsX0_limitTo : List Cond := .code yX0_limitTo cX0_limitTo 7 (some .int) :: ([.fieldLink RX0 11 "PipersDesk$Fingers" "stepCosts" "[[I", .constant RX0 37 (1000000), .methodLink RX0 29 yX0_holesMoved, .static yX0_holesMoved, .initialized RX0, .code yX0_holesMoved cX0_holesMoved 2 (some .int), .methodLink RX0 24 yJ6_bitCount_0f7a4, .static yJ6_bitCount_0f7a4, .initialized RJ6, .code yJ6_bitCount_0f7a4 cJ6_bitCount_0f7a4 1 (some .int), .constant RJ6 265 (1431655765), .constant RJ6 266 (858993459), .constant RJ6 267 (252645135), .methodLink RX0 33 yX0_crosses, .static yX0_crosses, .code yX0_crosses cX0_crosses 4 (some .boolean)] ++ wsX00)
def wsX0_init_r1 : List Cond := [Cond.methodLink RX0 3 objectInit, Cond.instanceMethod objectInit, Cond.code objectInit ⟨#[0xb1]⟩ 1 none, Cond.classLink RX0 9 "[[I", Cond.arrayClass .int, Cond.fieldLink RX0 11 "PipersDesk$Fingers" "stepCosts" "[[I", Cond.methodLink RX0 16 yX0_limitTo, Cond.instanceMethod yX0_limitTo, Cond.selects RX0 yX0_limitTo yX0_limitTo, Cond.initialized RX0, Cond.code yX0_limitTo cX0_limitTo 7 (some .int), Cond.constant RX0 37 (1000000), Cond.methodLink RX0 29 yX0_holesMoved, Cond.static yX0_holesMoved, Cond.code yX0_holesMoved cX0_holesMoved 2 (some .int), Cond.methodLink RX0 24 yJ6_bitCount_0f7a4, Cond.static yJ6_bitCount_0f7a4, Cond.initialized RJ6, Cond.code yJ6_bitCount_0f7a4 cJ6_bitCount_0f7a4 1 (some .int), Cond.constant RJ6 265 (1431655765), Cond.constant RJ6 266 (858993459), Cond.constant RJ6 267 (252645135), Cond.methodLink RX0 33 yX0_crosses, Cond.static yX0_crosses]
def wsX0_init_r2 : List Cond := [Cond.code yX0_crosses cX0_crosses 4 (some .boolean)]
def wsX0_init : List Cond := .code yX0_init cX0_init 1 none :: ((wsX0_init_r1 ++ wsX0_init_r2) ++ wsX00)
def wsX0_bars : List Cond := .code yX0_bars cX0_bars 3 (some .boolean) :: ([.fieldLink RX0 11 "PipersDesk$Fingers" "stepCosts" "[[I", .constant RX0 37 (1000000)] ++ wsX00)
def wsX0_stepCost : List Cond := .code yX0_stepCost cX0_stepCost 3 (some .int) :: ([.fieldLink RX0 11 "PipersDesk$Fingers" "stepCosts" "[[I"] ++ wsX00)
def wsX1_init : List Cond := .code yX1_init cX1_init 1 none :: ([.methodLink RX1 3 objectInit, .instanceMethod objectInit, .code objectInit ⟨#[0xb1]⟩ 1 none, .arrayClass .int, .fieldLink RX1 9 "PipersDesk$Leasts" "costs" "[I"] ++ wsX10)
def wsJ7_fill_53178 : List Cond := .code yJ7_fill_53178 cJ7_fill_53178 4 none :: ([])
def wsX1_startRow : List Cond := .code yX1_startRow cX1_startRow 1 none :: ([.fieldLink RX1 9 "PipersDesk$Leasts" "costs" "[I", .constant RX1 15 (1000000), .methodLink RX1 16 yJ7_fill_53178, .static yJ7_fill_53178, .initialized RJ7, .code yJ7_fill_53178 cJ7_fill_53178 4 none] ++ wsX10)
def wsX1_firstLeastBeside : List Cond := .code yX1_firstLeastBeside cX1_firstLeastBeside 4 (some .int) :: ([.fieldLink RX1 9 "PipersDesk$Leasts" "costs" "[I"] ++ wsX10)
def wsX1_growFrom : List Cond := .code yX1_growFrom cX1_growFrom 8 none :: ([.fieldLink RX1 9 "PipersDesk$Leasts" "costs" "[I", .constant RX1 15 (1000000), .methodLink RX1 26 Lib.Math.min.name, .static Lib.Math.min.name, .initialized "java/lang/Math", .code Lib.Math.min.name Lib.Math.min.code 2 (some .int), .methodLink RX1 22 yX1_firstLeastBeside, .instanceMethod yX1_firstLeastBeside, .selects RX1 yX1_firstLeastBeside yX1_firstLeastBeside, .initialized RX1, .code yX1_firstLeastBeside cX1_firstLeastBeside 4 (some .int)] ++ wsX10)
def wsX1_leastOfAll : List Cond := .code yX1_leastOfAll cX1_leastOfAll 1 (some .int) :: ([.fieldLink RX1 9 "PipersDesk$Leasts" "costs" "[I", .methodLink RX1 22 yX1_firstLeastBeside, .instanceMethod yX1_firstLeastBeside, .selects RX1 yX1_firstLeastBeside yX1_firstLeastBeside, .initialized RX1, .code yX1_firstLeastBeside cX1_firstLeastBeside 4 (some .int)] ++ wsX10)
def wsX2_init : List Cond := .code yX2_init cX2_init 2 none :: ([.methodLink RX2 3 objectInit, .instanceMethod objectInit, .code objectInit ⟨#[0xb1]⟩ 1 none, .fieldLink RX2 9 "PipersDesk$Ornament" "graces" "[I"] ++ wsX20)
def wsX2_size : List Cond := .code yX2_size cX2_size 1 (some .int) :: ([.fieldLink RX2 9 "PipersDesk$Ornament" "graces" "[I"] ++ wsX20)
def wsX2_soundOf : List Cond := .code yX2_soundOf cX2_soundOf 3 (some .int) :: ([])
def wsX2_costBetween : List Cond := .code yX2_costBetween cX2_costBetween 9 (some .int) :: ([.fieldLink RX2 9 "PipersDesk$Ornament" "graces" "[I", .constant RX2 15 (1000000), .methodLink RX2 26 Lib.Math.min.name, .static Lib.Math.min.name, .initialized "java/lang/Math", .code Lib.Math.min.name Lib.Math.min.code 2 (some .int), .methodLink RX2 16 yX2_soundOf, .static yX2_soundOf, .initialized RX2, .code yX2_soundOf cX2_soundOf 3 (some .int), .methodLink RX2 20 yX0_stepCost, .instanceMethod yX0_stepCost, .selects RX0 yX0_stepCost yX0_stepCost, .initialized RX0, .code yX0_stepCost cX0_stepCost 3 (some .int), .fieldLink RX0 11 "PipersDesk$Fingers" "stepCosts" "[[I"] ++ wsX20 ++ wsX00)
def wsX3_init : List Cond := .code yX3_init cX3_init 1 none :: ([.methodLink RX3 3 objectInit, .instanceMethod objectInit, .code objectInit ⟨#[0xb1]⟩ 1 none, .classLink RX3 9 RX2, .fieldLink RX3 11 "PipersDesk$OrnamentBook" "entries" "[LPipersDesk$Ornament;", .arrayClass .int, .fieldLink RX3 17 "PipersDesk$OrnamentBook" "draft" "[I"] ++ wsX30)
def wsX3_size : List Cond := .code yX3_size cX3_size 1 (some .int) :: ([.fieldLink RX3 21 "PipersDesk$OrnamentBook" "size" "I"] ++ wsX30)
def wsX3_isFull : List Cond := .code yX3_isFull cX3_isFull 1 (some .boolean) :: ([.fieldLink RX3 21 "PipersDesk$OrnamentBook" "size" "I"] ++ wsX30)
def wsX3_isDraftEmpty : List Cond := .code yX3_isDraftEmpty cX3_isDraftEmpty 1 (some .boolean) :: ([.fieldLink RX3 25 "PipersDesk$OrnamentBook" "draftSize" "I"] ++ wsX30)
def wsX3_isDraftFull : List Cond := .code yX3_isDraftFull cX3_isDraftFull 1 (some .boolean) :: ([.fieldLink RX3 25 "PipersDesk$OrnamentBook" "draftSize" "I"] ++ wsX30)
def wsX3_addToDraft : List Cond := .code yX3_addToDraft cX3_addToDraft 2 (some .int) :: ([.fieldLink RX3 17 "PipersDesk$OrnamentBook" "draft" "[I", .fieldLink RX3 25 "PipersDesk$OrnamentBook" "draftSize" "I"] ++ wsX30)
def wsJ7_copyOf_59c91 : List Cond := .code yJ7_copyOf_59c91 cJ7_copyOf_59c91 3 (some (.array .int)) :: ([.methodLink RJ7 316 ⟨"[I", "clone", "()Ljava/lang/Object;"⟩, .sameMethod "[I" "java/lang/Object" "clone" "()Ljava/lang/Object;", .native ⟨"java/lang/Object", "clone", "()Ljava/lang/Object;"⟩, .instanceMethod ⟨"java/lang/Object", "clone", "()Ljava/lang/Object;"⟩, .selects "[I" ⟨"[I", "clone", "()Ljava/lang/Object;"⟩ ⟨"java/lang/Object", "clone", "()Ljava/lang/Object;"⟩, .classLink RJ7 317 "[I", .arrayClass .int, .methodLink RJ7 304 Lib.Math.min.name, .static Lib.Math.min.name, .initialized "java/lang/Math", .code Lib.Math.min.name Lib.Math.min.code 2 (some .int), .methodLink RJ7 150 arraycopyName, .native arraycopyName, .static arraycopyName, .initialized "java/lang/System"])
def wsX3_enterDraft_r1 : List Cond := [Cond.fieldLink RX3 11 "PipersDesk$OrnamentBook" "entries" "[LPipersDesk$Ornament;", Cond.fieldLink RX3 21 "PipersDesk$OrnamentBook" "size" "I", Cond.classLink RX3 9 RX2, Cond.instantiable RX2 1, Cond.initialized RX2, Cond.fieldLink RX3 17 "PipersDesk$OrnamentBook" "draft" "[I", Cond.fieldLink RX3 25 "PipersDesk$OrnamentBook" "draftSize" "I", Cond.methodLink RX3 28 yJ7_copyOf_59c91, Cond.static yJ7_copyOf_59c91, Cond.initialized RJ7, Cond.code yJ7_copyOf_59c91 cJ7_copyOf_59c91 3 (some (.array .int)), Cond.methodLink RJ7 316 ⟨"[I", "clone", "()Ljava/lang/Object;"⟩, Cond.sameMethod "[I" "java/lang/Object" "clone" "()Ljava/lang/Object;", Cond.native ⟨"java/lang/Object", "clone", "()Ljava/lang/Object;"⟩, Cond.instanceMethod ⟨"java/lang/Object", "clone", "()Ljava/lang/Object;"⟩, Cond.selects "[I" ⟨"[I", "clone", "()Ljava/lang/Object;"⟩ ⟨"java/lang/Object", "clone", "()Ljava/lang/Object;"⟩, Cond.classLink RJ7 317 "[I", Cond.arrayClass .int, Cond.methodLink RJ7 304 Lib.Math.min.name, Cond.static Lib.Math.min.name, Cond.initialized "java/lang/Math", Cond.code Lib.Math.min.name Lib.Math.min.code 2 (some .int), Cond.methodLink RJ7 150 arraycopyName, Cond.native arraycopyName]
def wsX3_enterDraft_r2 : List Cond := [Cond.static arraycopyName, Cond.initialized "java/lang/System", Cond.methodLink RX3 34 yX2_init, Cond.instanceMethod yX2_init, Cond.code yX2_init cX2_init 2 none, Cond.methodLink RX2 3 objectInit, Cond.instanceMethod objectInit, Cond.code objectInit ⟨#[0xb1]⟩ 1 none, Cond.fieldLink RX2 9 "PipersDesk$Ornament" "graces" "[I"]
def wsX3_enterDraft : List Cond := .code yX3_enterDraft cX3_enterDraft 1 (some .int) :: ((wsX3_enterDraft_r1 ++ wsX3_enterDraft_r2) ++ wsX30 ++ wsX20)
def wsX3_costOf : List Cond := .code yX3_costOf cX3_costOf 7 (some .int) :: ([.fieldLink RX3 11 "PipersDesk$OrnamentBook" "entries" "[LPipersDesk$Ornament;", .constant RX3 37 (1000000), .methodLink RX3 38 yX2_costBetween, .instanceMethod yX2_costBetween, .selects RX2 yX2_costBetween yX2_costBetween, .initialized RX2, .code yX2_costBetween cX2_costBetween 9 (some .int), .fieldLink RX2 9 "PipersDesk$Ornament" "graces" "[I", .constant RX2 15 (1000000), .methodLink RX2 26 Lib.Math.min.name, .static Lib.Math.min.name, .initialized "java/lang/Math", .code Lib.Math.min.name Lib.Math.min.code 2 (some .int), .methodLink RX2 16 yX2_soundOf, .static yX2_soundOf, .code yX2_soundOf cX2_soundOf 3 (some .int), .methodLink RX2 20 yX0_stepCost, .instanceMethod yX0_stepCost, .selects RX0 yX0_stepCost yX0_stepCost, .initialized RX0, .code yX0_stepCost cX0_stepCost 3 (some .int), .fieldLink RX0 11 "PipersDesk$Fingers" "stepCosts" "[[I"] ++ wsX30 ++ wsX20 ++ wsX00)
def wsX3_gracesOf : List Cond := .code yX3_gracesOf cX3_gracesOf 3 (some .int) :: ([.fieldLink RX3 11 "PipersDesk$OrnamentBook" "entries" "[LPipersDesk$Ornament;", .methodLink RX3 42 yX2_size, .instanceMethod yX2_size, .selects RX2 yX2_size yX2_size, .initialized RX2, .code yX2_size cX2_size 1 (some .int), .fieldLink RX2 9 "PipersDesk$Ornament" "graces" "[I"] ++ wsX30 ++ wsX20)
def wsX3_weigh_r1 : List Cond := [Cond.constant RX3 37 (1000000), Cond.methodLink RX3 45 yX0_stepCost, Cond.instanceMethod yX0_stepCost, Cond.selects RX0 yX0_stepCost yX0_stepCost, Cond.initialized RX0, Cond.code yX0_stepCost cX0_stepCost 3 (some .int), Cond.fieldLink RX0 11 "PipersDesk$Fingers" "stepCosts" "[[I", Cond.methodLink RX3 51 yX3_costOf, Cond.instanceMethod yX3_costOf, Cond.selects RX3 yX3_costOf yX3_costOf, Cond.initialized RX3, Cond.code yX3_costOf cX3_costOf 7 (some .int), Cond.fieldLink RX3 11 "PipersDesk$OrnamentBook" "entries" "[LPipersDesk$Ornament;", Cond.methodLink RX3 38 yX2_costBetween, Cond.instanceMethod yX2_costBetween, Cond.selects RX2 yX2_costBetween yX2_costBetween, Cond.initialized RX2, Cond.code yX2_costBetween cX2_costBetween 9 (some .int), Cond.fieldLink RX2 9 "PipersDesk$Ornament" "graces" "[I", Cond.constant RX2 15 (1000000), Cond.methodLink RX2 26 Lib.Math.min.name, Cond.static Lib.Math.min.name, Cond.initialized "java/lang/Math", Cond.code Lib.Math.min.name Lib.Math.min.code 2 (some .int)]
def wsX3_weigh_r2 : List Cond := [Cond.methodLink RX2 16 yX2_soundOf, Cond.static yX2_soundOf, Cond.code yX2_soundOf cX2_soundOf 3 (some .int), Cond.methodLink RX2 20 yX0_stepCost]
def wsX3_weigh : List Cond := .code yX3_weigh cX3_weigh 8 none :: ((wsX3_weigh_r1 ++ wsX3_weigh_r2) ++ wsX00 ++ wsX30 ++ wsX20)
def wsX4_init : List Cond := .code yX4_init cX4_init 1 none :: ([.methodLink RX4 3 objectInit, .instanceMethod objectInit, .code objectInit ⟨#[0xb1]⟩ 1 none, .classLink RX4 9 "[[I", .arrayClass .int, .fieldLink RX4 11 "PipersDesk$SetSearch" "joinCosts" "[[I", .classLink RX4 16 RX1, .instantiable RX1 1, .initialized RX1, .fieldLink RX4 19 "PipersDesk$SetSearch" "row" "LPipersDesk$Leasts;", .fieldLink RX4 23 "PipersDesk$SetSearch" "order" "[I", .fieldLink RX4 27 "PipersDesk$SetSearch" "best" "[I", .methodLink RX4 18 yX1_init, .instanceMethod yX1_init, .code yX1_init cX1_init 1 none, .methodLink RX1 3 objectInit, .fieldLink RX1 9 "PipersDesk$Leasts" "costs" "[I"] ++ wsX40 ++ wsX10)
def wsX4_size : List Cond := .code yX4_size cX4_size 1 (some .int) :: ([.fieldLink RX4 30 "PipersDesk$SetSearch" "size" "I"] ++ wsX40)
def wsX4_leastCost : List Cond := .code yX4_leastCost cX4_leastCost 1 (some .int) :: ([.fieldLink RX4 34 "PipersDesk$SetSearch" "leastCost" "I"] ++ wsX40)
def wsX4_bestAt : List Cond := .code yX4_bestAt cX4_bestAt 2 (some .int) :: ([.fieldLink RX4 27 "PipersDesk$SetSearch" "best" "[I"] ++ wsX40)
def wsX5_size : List Cond := .code yX5_size cX5_size 1 (some .int) :: ([.fieldLink RX5 27 "PipersDesk$Tune" "size" "I"] ++ wsX50)
def wsX5_pitchOf : List Cond := .code yX5_pitchOf cX5_pitchOf 2 (some .int) :: ([.fieldLink RX5 9 "PipersDesk$Tune" "pitches" "[I"] ++ wsX50)
def wsX5_lengthOf : List Cond := .code yX5_lengthOf cX5_lengthOf 2 (some .int) :: ([.fieldLink RX5 15 "PipersDesk$Tune" "lengths" "[I"] ++ wsX50)
def wsX4_weighJoins_r1 : List Cond := [Cond.fieldLink RX4 11 "PipersDesk$SetSearch" "joinCosts" "[[I", Cond.methodLink RX4 37 yX5_size, Cond.instanceMethod yX5_size, Cond.selects RX5 yX5_size yX5_size, Cond.initialized RX5, Cond.code yX5_size cX5_size 1 (some .int), Cond.fieldLink RX5 27 "PipersDesk$Tune" "size" "I", Cond.methodLink RX4 42 yX5_pitchOf, Cond.instanceMethod yX5_pitchOf, Cond.selects RX5 yX5_pitchOf yX5_pitchOf, Cond.code yX5_pitchOf cX5_pitchOf 2 (some .int), Cond.fieldLink RX5 9 "PipersDesk$Tune" "pitches" "[I", Cond.methodLink RX4 46 yX5_lengthOf, Cond.instanceMethod yX5_lengthOf, Cond.selects RX5 yX5_lengthOf yX5_lengthOf, Cond.code yX5_lengthOf cX5_lengthOf 2 (some .int), Cond.fieldLink RX5 15 "PipersDesk$Tune" "lengths" "[I", Cond.methodLink RX4 49 yX3_weigh, Cond.instanceMethod yX3_weigh, Cond.selects RX3 yX3_weigh yX3_weigh, Cond.initialized RX3, Cond.code yX3_weigh cX3_weigh 8 none, Cond.constant RX3 37 (1000000), Cond.methodLink RX3 45 yX0_stepCost]
def wsX4_weighJoins_r2 : List Cond := [Cond.instanceMethod yX0_stepCost, Cond.selects RX0 yX0_stepCost yX0_stepCost, Cond.initialized RX0, Cond.code yX0_stepCost cX0_stepCost 3 (some .int), Cond.fieldLink RX0 11 "PipersDesk$Fingers" "stepCosts" "[[I", Cond.methodLink RX3 51 yX3_costOf, Cond.instanceMethod yX3_costOf, Cond.selects RX3 yX3_costOf yX3_costOf, Cond.code yX3_costOf cX3_costOf 7 (some .int), Cond.fieldLink RX3 11 "PipersDesk$OrnamentBook" "entries" "[LPipersDesk$Ornament;", Cond.methodLink RX3 38 yX2_costBetween, Cond.instanceMethod yX2_costBetween, Cond.selects RX2 yX2_costBetween yX2_costBetween, Cond.initialized RX2, Cond.code yX2_costBetween cX2_costBetween 9 (some .int), Cond.fieldLink RX2 9 "PipersDesk$Ornament" "graces" "[I", Cond.constant RX2 15 (1000000), Cond.methodLink RX2 26 Lib.Math.min.name, Cond.static Lib.Math.min.name, Cond.initialized "java/lang/Math", Cond.code Lib.Math.min.name Lib.Math.min.code 2 (some .int), Cond.methodLink RX2 16 yX2_soundOf, Cond.static yX2_soundOf, Cond.code yX2_soundOf cX2_soundOf 3 (some .int)]
def wsX4_weighJoins_r3 : List Cond := [Cond.methodLink RX2 20 yX0_stepCost]
def wsX4_weighJoins : List Cond := .code yX4_weighJoins cX4_weighJoins 11 none :: ((wsX4_weighJoins_r1 ++ (wsX4_weighJoins_r2 ++ wsX4_weighJoins_r3)) ++ wsX40 ++ wsX50 ++ wsX00 ++ wsX30 ++ wsX20)
def wsX4_startOrder : List Cond := .code yX4_startOrder cX4_startOrder 3 none :: ([.fieldLink RX4 30 "PipersDesk$SetSearch" "size" "I", .fieldLink RX4 23 "PipersDesk$SetSearch" "order" "[I", .methodLink RX4 37 yX5_size, .instanceMethod yX5_size, .selects RX5 yX5_size yX5_size, .initialized RX5, .code yX5_size cX5_size 1 (some .int), .fieldLink RX5 27 "PipersDesk$Tune" "size" "I"] ++ wsX40 ++ wsX50)
def wsX5_gaps : List Cond := .code yX5_gaps cX5_gaps 1 (some .int) :: ([.fieldLink RX5 27 "PipersDesk$Tune" "size" "I"] ++ wsX50)
def wsX5_costsAt : List Cond := .code yX5_costsAt cX5_costsAt 2 (some (.array .int)) :: ([.fieldLink RX5 24 "PipersDesk$Tune" "gapCosts" "[[I"] ++ wsX50)
def wsX4_costOfOrder_r1 : List Cond := [Cond.fieldLink RX4 19 "PipersDesk$SetSearch" "row" "LPipersDesk$Leasts;", Cond.fieldLink RX4 30 "PipersDesk$SetSearch" "size" "I", Cond.fieldLink RX4 23 "PipersDesk$SetSearch" "order" "[I", Cond.fieldLink RX4 11 "PipersDesk$SetSearch" "joinCosts" "[[I", Cond.methodLink RX4 78 yX1_startRow, Cond.instanceMethod yX1_startRow, Cond.selects RX1 yX1_startRow yX1_startRow, Cond.initialized RX1, Cond.code yX1_startRow cX1_startRow 1 none, Cond.fieldLink RX1 9 "PipersDesk$Leasts" "costs" "[I", Cond.constant RX1 15 (1000000), Cond.methodLink RX1 16 yJ7_fill_53178, Cond.static yJ7_fill_53178, Cond.initialized RJ7, Cond.code yJ7_fill_53178 cJ7_fill_53178 4 none, Cond.methodLink RX4 81 yX1_growFrom, Cond.instanceMethod yX1_growFrom, Cond.selects RX1 yX1_growFrom yX1_growFrom, Cond.code yX1_growFrom cX1_growFrom 8 none, Cond.methodLink RX1 26 Lib.Math.min.name, Cond.static Lib.Math.min.name, Cond.initialized "java/lang/Math", Cond.code Lib.Math.min.name Lib.Math.min.code 2 (some .int), Cond.methodLink RX1 22 yX1_firstLeastBeside]
def wsX4_costOfOrder_r2 : List Cond := [Cond.instanceMethod yX1_firstLeastBeside, Cond.selects RX1 yX1_firstLeastBeside yX1_firstLeastBeside, Cond.code yX1_firstLeastBeside cX1_firstLeastBeside 4 (some .int), Cond.methodLink RX4 85 yX5_gaps, Cond.instanceMethod yX5_gaps, Cond.selects RX5 yX5_gaps yX5_gaps, Cond.initialized RX5, Cond.code yX5_gaps cX5_gaps 1 (some .int), Cond.fieldLink RX5 27 "PipersDesk$Tune" "size" "I", Cond.methodLink RX4 88 yX5_costsAt, Cond.instanceMethod yX5_costsAt, Cond.selects RX5 yX5_costsAt yX5_costsAt, Cond.code yX5_costsAt cX5_costsAt 2 (some (.array .int)), Cond.fieldLink RX5 24 "PipersDesk$Tune" "gapCosts" "[[I", Cond.methodLink RX4 92 yX1_leastOfAll, Cond.instanceMethod yX1_leastOfAll, Cond.selects RX1 yX1_leastOfAll yX1_leastOfAll, Cond.code yX1_leastOfAll cX1_leastOfAll 1 (some .int)]
def wsX4_costOfOrder : List Cond := .code yX4_costOfOrder cX4_costOfOrder 5 (some .int) :: ((wsX4_costOfOrder_r1 ++ wsX4_costOfOrder_r2) ++ wsX40 ++ wsX10 ++ wsX50)
def wsX4_keepIfLess : List Cond := .code yX4_keepIfLess cX4_keepIfLess 2 none :: ([.fieldLink RX4 34 "PipersDesk$SetSearch" "leastCost" "I", .fieldLink RX4 23 "PipersDesk$SetSearch" "order" "[I", .fieldLink RX4 27 "PipersDesk$SetSearch" "best" "[I", .fieldLink RX4 30 "PipersDesk$SetSearch" "size" "I", .methodLink RX4 72 arraycopyName, .native arraycopyName, .static arraycopyName, .initialized "java/lang/System"] ++ wsX40)
def wsX4_exchange : List Cond := .code yX4_exchange cX4_exchange 4 none :: ([.fieldLink RX4 23 "PipersDesk$SetSearch" "order" "[I"] ++ wsX40)
def wsX4_goToNextOrder : List Cond := .code yX4_goToNextOrder cX4_goToNextOrder 5 (some .boolean) :: ([.fieldLink RX4 30 "PipersDesk$SetSearch" "size" "I", .fieldLink RX4 23 "PipersDesk$SetSearch" "order" "[I", .methodLink RX4 95 yX4_exchange, .instanceMethod yX4_exchange, .selects RX4 yX4_exchange yX4_exchange, .initialized RX4, .code yX4_exchange cX4_exchange 4 none] ++ wsX40)
def wsX4_tryAllOrders_r1 : List Cond := [Cond.constant RX4 59 (1000000), Cond.fieldLink RX4 34 "PipersDesk$SetSearch" "leastCost" "I", Cond.methodLink RX4 55 yX4_startOrder, Cond.instanceMethod yX4_startOrder, Cond.selects RX4 yX4_startOrder yX4_startOrder, Cond.initialized RX4, Cond.code yX4_startOrder cX4_startOrder 3 none, Cond.fieldLink RX4 30 "PipersDesk$SetSearch" "size" "I", Cond.fieldLink RX4 23 "PipersDesk$SetSearch" "order" "[I", Cond.methodLink RX4 37 yX5_size, Cond.instanceMethod yX5_size, Cond.selects RX5 yX5_size yX5_size, Cond.initialized RX5, Cond.code yX5_size cX5_size 1 (some .int), Cond.fieldLink RX5 27 "PipersDesk$Tune" "size" "I", Cond.methodLink RX4 60 yX4_costOfOrder, Cond.instanceMethod yX4_costOfOrder, Cond.selects RX4 yX4_costOfOrder yX4_costOfOrder, Cond.code yX4_costOfOrder cX4_costOfOrder 5 (some .int), Cond.fieldLink RX4 19 "PipersDesk$SetSearch" "row" "LPipersDesk$Leasts;", Cond.fieldLink RX4 11 "PipersDesk$SetSearch" "joinCosts" "[[I", Cond.methodLink RX4 78 yX1_startRow, Cond.instanceMethod yX1_startRow, Cond.selects RX1 yX1_startRow yX1_startRow]
def wsX4_tryAllOrders_r2 : List Cond := [Cond.initialized RX1, Cond.code yX1_startRow cX1_startRow 1 none, Cond.fieldLink RX1 9 "PipersDesk$Leasts" "costs" "[I", Cond.constant RX1 15 (1000000), Cond.methodLink RX1 16 yJ7_fill_53178, Cond.static yJ7_fill_53178, Cond.initialized RJ7, Cond.code yJ7_fill_53178 cJ7_fill_53178 4 none, Cond.methodLink RX4 81 yX1_growFrom, Cond.instanceMethod yX1_growFrom, Cond.selects RX1 yX1_growFrom yX1_growFrom, Cond.code yX1_growFrom cX1_growFrom 8 none, Cond.methodLink RX1 26 Lib.Math.min.name, Cond.static Lib.Math.min.name, Cond.initialized "java/lang/Math", Cond.code Lib.Math.min.name Lib.Math.min.code 2 (some .int), Cond.methodLink RX1 22 yX1_firstLeastBeside, Cond.instanceMethod yX1_firstLeastBeside, Cond.selects RX1 yX1_firstLeastBeside yX1_firstLeastBeside, Cond.code yX1_firstLeastBeside cX1_firstLeastBeside 4 (some .int), Cond.methodLink RX4 85 yX5_gaps, Cond.instanceMethod yX5_gaps, Cond.selects RX5 yX5_gaps yX5_gaps, Cond.code yX5_gaps cX5_gaps 1 (some .int)]
def wsX4_tryAllOrders_r3 : List Cond := [Cond.methodLink RX4 88 yX5_costsAt, Cond.instanceMethod yX5_costsAt, Cond.selects RX5 yX5_costsAt yX5_costsAt, Cond.code yX5_costsAt cX5_costsAt 2 (some (.array .int)), Cond.fieldLink RX5 24 "PipersDesk$Tune" "gapCosts" "[[I", Cond.methodLink RX4 92 yX1_leastOfAll, Cond.instanceMethod yX1_leastOfAll, Cond.selects RX1 yX1_leastOfAll yX1_leastOfAll, Cond.code yX1_leastOfAll cX1_leastOfAll 1 (some .int), Cond.methodLink RX4 64 yX4_keepIfLess, Cond.instanceMethod yX4_keepIfLess, Cond.selects RX4 yX4_keepIfLess yX4_keepIfLess, Cond.code yX4_keepIfLess cX4_keepIfLess 2 none, Cond.fieldLink RX4 27 "PipersDesk$SetSearch" "best" "[I", Cond.methodLink RX4 72 arraycopyName, Cond.native arraycopyName, Cond.static arraycopyName, Cond.initialized "java/lang/System", Cond.methodLink RX4 68 yX4_goToNextOrder, Cond.instanceMethod yX4_goToNextOrder, Cond.selects RX4 yX4_goToNextOrder yX4_goToNextOrder, Cond.code yX4_goToNextOrder cX4_goToNextOrder 5 (some .boolean), Cond.methodLink RX4 95 yX4_exchange, Cond.instanceMethod yX4_exchange]
def wsX4_tryAllOrders_r4 : List Cond := [Cond.selects RX4 yX4_exchange yX4_exchange, Cond.code yX4_exchange cX4_exchange 4 none]
def wsX4_tryAllOrders : List Cond := .code yX4_tryAllOrders cX4_tryAllOrders 6 (some .int) :: ((wsX4_tryAllOrders_r1 ++ (wsX4_tryAllOrders_r2 ++ (wsX4_tryAllOrders_r3 ++ wsX4_tryAllOrders_r4))) ++ wsX40 ++ wsX50 ++ wsX10)
def wsX5_init : List Cond := .code yX5_init cX5_init 1 none :: ([.methodLink RX5 3 objectInit, .instanceMethod objectInit, .code objectInit ⟨#[0xb1]⟩ 1 none, .arrayClass .int, .fieldLink RX5 9 "PipersDesk$Tune" "pitches" "[I", .fieldLink RX5 15 "PipersDesk$Tune" "lengths" "[I", .arrayClass .boolean, .fieldLink RX5 18 "PipersDesk$Tune" "wishes" "[Z", .classLink RX5 22 "[[I", .fieldLink RX5 24 "PipersDesk$Tune" "gapCosts" "[[I"] ++ wsX50)
def wsX5_append : List Cond := .code yX5_append cX5_append 3 (some .int) :: ([.fieldLink RX5 27 "PipersDesk$Tune" "size" "I", .fieldLink RX5 18 "PipersDesk$Tune" "wishes" "[Z", .fieldLink RX5 9 "PipersDesk$Tune" "pitches" "[I", .fieldLink RX5 15 "PipersDesk$Tune" "lengths" "[I"] ++ wsX50)
def wsX5_dropLast : List Cond := .code yX5_dropLast cX5_dropLast 1 (some .int) :: ([.fieldLink RX5 27 "PipersDesk$Tune" "size" "I", .fieldLink RX5 9 "PipersDesk$Tune" "pitches" "[I"] ++ wsX50)
def wsX5_replaceWish : List Cond := .code yX5_replaceWish cX5_replaceWish 4 (some .boolean) :: ([.fieldLink RX5 18 "PipersDesk$Tune" "wishes" "[Z"] ++ wsX50)
def wsX5_weighGaps_r1 : List Cond := [Cond.fieldLink RX5 27 "PipersDesk$Tune" "size" "I", Cond.fieldLink RX5 9 "PipersDesk$Tune" "pitches" "[I", Cond.fieldLink RX5 15 "PipersDesk$Tune" "lengths" "[I", Cond.fieldLink RX5 18 "PipersDesk$Tune" "wishes" "[Z", Cond.fieldLink RX5 24 "PipersDesk$Tune" "gapCosts" "[[I", Cond.methodLink RX5 31 yX3_weigh, Cond.instanceMethod yX3_weigh, Cond.selects RX3 yX3_weigh yX3_weigh, Cond.initialized RX3, Cond.code yX3_weigh cX3_weigh 8 none, Cond.constant RX3 37 (1000000), Cond.methodLink RX3 45 yX0_stepCost, Cond.instanceMethod yX0_stepCost, Cond.selects RX0 yX0_stepCost yX0_stepCost, Cond.initialized RX0, Cond.code yX0_stepCost cX0_stepCost 3 (some .int), Cond.fieldLink RX0 11 "PipersDesk$Fingers" "stepCosts" "[[I", Cond.methodLink RX3 51 yX3_costOf, Cond.instanceMethod yX3_costOf, Cond.selects RX3 yX3_costOf yX3_costOf, Cond.code yX3_costOf cX3_costOf 7 (some .int), Cond.fieldLink RX3 11 "PipersDesk$OrnamentBook" "entries" "[LPipersDesk$Ornament;", Cond.methodLink RX3 38 yX2_costBetween, Cond.instanceMethod yX2_costBetween]
def wsX5_weighGaps_r2 : List Cond := [Cond.selects RX2 yX2_costBetween yX2_costBetween, Cond.initialized RX2, Cond.code yX2_costBetween cX2_costBetween 9 (some .int), Cond.fieldLink RX2 9 "PipersDesk$Ornament" "graces" "[I", Cond.constant RX2 15 (1000000), Cond.methodLink RX2 26 Lib.Math.min.name, Cond.static Lib.Math.min.name, Cond.initialized "java/lang/Math", Cond.code Lib.Math.min.name Lib.Math.min.code 2 (some .int), Cond.methodLink RX2 16 yX2_soundOf, Cond.static yX2_soundOf, Cond.code yX2_soundOf cX2_soundOf 3 (some .int), Cond.methodLink RX2 20 yX0_stepCost]
def wsX5_weighGaps : List Cond := .code yX5_weighGaps cX5_weighGaps 5 none :: ((wsX5_weighGaps_r1 ++ wsX5_weighGaps_r2) ++ wsX50 ++ wsX00 ++ wsX30 ++ wsX20)
def wsX6_init : List Cond := .code yX6_init cX6_init 2 none :: ([.methodLink RX6 3 objectInit, .instanceMethod objectInit, .code objectInit ⟨#[0xb1]⟩ 1 none, .classLink RX6 9 RX1, .fieldLink RX6 11 "PipersDesk$TuneChoices" "rows" "[LPipersDesk$Leasts;", .instantiable RX1 1, .initialized RX1, .fieldLink RX6 18 "PipersDesk$TuneChoices" "empties" "LPipersDesk$Leasts;", .arrayClass .int, .fieldLink RX6 22 "PipersDesk$TuneChoices" "emptyCosts" "[I", .fieldLink RX6 26 "PipersDesk$TuneChoices" "counts" "[I", .methodLink RX6 17 yX1_init, .instanceMethod yX1_init, .code yX1_init cX1_init 1 none, .methodLink RX1 3 objectInit, .fieldLink RX1 9 "PipersDesk$Leasts" "costs" "[I"] ++ wsX60 ++ wsX10)
def wsX6_solveFor_r1 : List Cond := [Cond.fieldLink RX6 11 "PipersDesk$TuneChoices" "rows" "[LPipersDesk$Leasts;", Cond.methodLink RX6 29 yX5_gaps, Cond.instanceMethod yX5_gaps, Cond.selects RX5 yX5_gaps yX5_gaps, Cond.initialized RX5, Cond.code yX5_gaps cX5_gaps 1 (some .int), Cond.fieldLink RX5 27 "PipersDesk$Tune" "size" "I", Cond.methodLink RX6 35 yX1_startRow, Cond.instanceMethod yX1_startRow, Cond.selects RX1 yX1_startRow yX1_startRow, Cond.initialized RX1, Cond.code yX1_startRow cX1_startRow 1 none, Cond.fieldLink RX1 9 "PipersDesk$Leasts" "costs" "[I", Cond.constant RX1 15 (1000000), Cond.methodLink RX1 16 yJ7_fill_53178, Cond.static yJ7_fill_53178, Cond.initialized RJ7, Cond.code yJ7_fill_53178 cJ7_fill_53178 4 none, Cond.methodLink RX6 38 yX5_costsAt, Cond.instanceMethod yX5_costsAt, Cond.selects RX5 yX5_costsAt yX5_costsAt, Cond.code yX5_costsAt cX5_costsAt 2 (some (.array .int)), Cond.fieldLink RX5 24 "PipersDesk$Tune" "gapCosts" "[[I", Cond.methodLink RX6 42 yX1_growFrom]
def wsX6_solveFor_r2 : List Cond := [Cond.instanceMethod yX1_growFrom, Cond.selects RX1 yX1_growFrom yX1_growFrom, Cond.code yX1_growFrom cX1_growFrom 8 none, Cond.methodLink RX1 26 Lib.Math.min.name, Cond.static Lib.Math.min.name, Cond.initialized "java/lang/Math", Cond.code Lib.Math.min.name Lib.Math.min.code 2 (some .int), Cond.methodLink RX1 22 yX1_firstLeastBeside, Cond.instanceMethod yX1_firstLeastBeside, Cond.selects RX1 yX1_firstLeastBeside yX1_firstLeastBeside, Cond.code yX1_firstLeastBeside cX1_firstLeastBeside 4 (some .int), Cond.methodLink RX6 46 yX1_leastOfAll, Cond.instanceMethod yX1_leastOfAll, Cond.selects RX1 yX1_leastOfAll yX1_leastOfAll, Cond.code yX1_leastOfAll cX1_leastOfAll 1 (some .int)]
def wsX6_solveFor : List Cond := .code yX6_solveFor cX6_solveFor 3 (some .int) :: ((wsX6_solveFor_r1 ++ wsX6_solveFor_r2) ++ wsX60 ++ wsX50 ++ wsX10)
def wsX6_firstAt : List Cond := .code yX6_firstAt cX6_firstAt 4 (some .int) :: ([.fieldLink RX6 11 "PipersDesk$TuneChoices" "rows" "[LPipersDesk$Leasts;", .methodLink RX6 49 yX1_firstLeastBeside, .instanceMethod yX1_firstLeastBeside, .selects RX1 yX1_firstLeastBeside yX1_firstLeastBeside, .initialized RX1, .code yX1_firstLeastBeside cX1_firstLeastBeside 4 (some .int), .fieldLink RX1 9 "PipersDesk$Leasts" "costs" "[I"] ++ wsX60 ++ wsX10)
def wsX6_fewestEmptyGaps_r1 : List Cond := [Cond.fieldLink RX6 18 "PipersDesk$TuneChoices" "empties" "LPipersDesk$Leasts;", Cond.fieldLink RX6 22 "PipersDesk$TuneChoices" "emptyCosts" "[I", Cond.constant RX6 53 (1000000), Cond.methodLink RX6 35 yX1_startRow, Cond.instanceMethod yX1_startRow, Cond.selects RX1 yX1_startRow yX1_startRow, Cond.initialized RX1, Cond.code yX1_startRow cX1_startRow 1 none, Cond.fieldLink RX1 9 "PipersDesk$Leasts" "costs" "[I", Cond.constant RX1 15 (1000000), Cond.methodLink RX1 16 yJ7_fill_53178, Cond.static yJ7_fill_53178, Cond.initialized RJ7, Cond.code yJ7_fill_53178 cJ7_fill_53178 4 none, Cond.methodLink RX6 29 yX5_gaps, Cond.instanceMethod yX5_gaps, Cond.selects RX5 yX5_gaps yX5_gaps, Cond.initialized RX5, Cond.code yX5_gaps cX5_gaps 1 (some .int), Cond.fieldLink RX5 27 "PipersDesk$Tune" "size" "I", Cond.methodLink RX6 38 yX5_costsAt, Cond.instanceMethod yX5_costsAt, Cond.selects RX5 yX5_costsAt yX5_costsAt, Cond.code yX5_costsAt cX5_costsAt 2 (some (.array .int))]
def wsX6_fewestEmptyGaps_r2 : List Cond := [Cond.fieldLink RX5 24 "PipersDesk$Tune" "gapCosts" "[[I", Cond.methodLink RX6 42 yX1_growFrom, Cond.instanceMethod yX1_growFrom, Cond.selects RX1 yX1_growFrom yX1_growFrom, Cond.code yX1_growFrom cX1_growFrom 8 none, Cond.methodLink RX1 26 Lib.Math.min.name, Cond.static Lib.Math.min.name, Cond.initialized "java/lang/Math", Cond.code Lib.Math.min.name Lib.Math.min.code 2 (some .int), Cond.methodLink RX1 22 yX1_firstLeastBeside, Cond.instanceMethod yX1_firstLeastBeside, Cond.selects RX1 yX1_firstLeastBeside yX1_firstLeastBeside, Cond.code yX1_firstLeastBeside cX1_firstLeastBeside 4 (some .int), Cond.methodLink RX6 46 yX1_leastOfAll, Cond.instanceMethod yX1_leastOfAll, Cond.selects RX1 yX1_leastOfAll yX1_leastOfAll, Cond.code yX1_leastOfAll cX1_leastOfAll 1 (some .int)]
def wsX6_fewestEmptyGaps : List Cond := .code yX6_fewestEmptyGaps cX6_fewestEmptyGaps 6 (some .int) :: ((wsX6_fewestEmptyGaps_r1 ++ wsX6_fewestEmptyGaps_r2) ++ wsX60 ++ wsX10 ++ wsX50)
def wsX6_countWithGap : List Cond := .code yX6_countWithGap cX6_countWithGap 6 (some .int) :: ([.fieldLink RX6 26 "PipersDesk$TuneChoices" "counts" "[I", .constant RX6 53 (1000000)] ++ wsX60)
def wsX6_countFor : List Cond := .code yX6_countFor cX6_countFor 4 (some .int) :: ([.fieldLink RX6 26 "PipersDesk$TuneChoices" "counts" "[I", .methodLink RX6 54 yJ7_fill_53178, .static yJ7_fill_53178, .initialized RJ7, .code yJ7_fill_53178 cJ7_fill_53178 4 none, .methodLink RX6 29 yX5_gaps, .instanceMethod yX5_gaps, .selects RX5 yX5_gaps yX5_gaps, .initialized RX5, .code yX5_gaps cX5_gaps 1 (some .int), .fieldLink RX5 27 "PipersDesk$Tune" "size" "I", .methodLink RX6 38 yX5_costsAt, .instanceMethod yX5_costsAt, .selects RX5 yX5_costsAt yX5_costsAt, .code yX5_costsAt cX5_costsAt 2 (some (.array .int)), .fieldLink RX5 24 "PipersDesk$Tune" "gapCosts" "[[I", .methodLink RX6 60 yX6_countWithGap, .instanceMethod yX6_countWithGap, .selects RX6 yX6_countWithGap yX6_countWithGap, .initialized RX6, .code yX6_countWithGap cX6_countWithGap 6 (some .int), .constant RX6 53 (1000000)] ++ wsX60 ++ wsX50)
def wsX7_init_r1 : List Cond := [Cond.methodLink RX7 3 objectInit, Cond.instanceMethod objectInit, Cond.code objectInit ⟨#[0xb1]⟩ 1 none, Cond.classLink RX7 9 RX0, Cond.instantiable RX0 1, Cond.initialized RX0, Cond.fieldLink RX7 12 "PipersDesk" "fingers" "LPipersDesk$Fingers;", Cond.classLink RX7 16 RX3, Cond.instantiable RX3 4, Cond.initialized RX3, Cond.fieldLink RX7 19 "PipersDesk" "book" "LPipersDesk$OrnamentBook;", Cond.classLink RX7 23 RX5, Cond.fieldLink RX7 25 "PipersDesk" "tunes" "[LPipersDesk$Tune;", Cond.instantiable RX5 5, Cond.initialized RX5, Cond.classLink RX7 30 RX6, Cond.instantiable RX6 4, Cond.initialized RX6, Cond.fieldLink RX7 33 "PipersDesk" "tuneChoices" "LPipersDesk$TuneChoices;", Cond.classLink RX7 37 RX4, Cond.instantiable RX4 6, Cond.initialized RX4, Cond.fieldLink RX7 40 "PipersDesk" "setSearch" "LPipersDesk$SetSearch;", Cond.methodLink RX7 11 yX0_init]
def wsX7_init_r2 : List Cond := [Cond.instanceMethod yX0_init, Cond.code yX0_init cX0_init 1 none, Cond.methodLink RX0 3 objectInit, Cond.classLink RX0 9 "[[I", Cond.arrayClass .int, Cond.fieldLink RX0 11 "PipersDesk$Fingers" "stepCosts" "[[I", Cond.methodLink RX0 16 yX0_limitTo, Cond.instanceMethod yX0_limitTo, Cond.selects RX0 yX0_limitTo yX0_limitTo, Cond.code yX0_limitTo cX0_limitTo 7 (some .int), Cond.constant RX0 37 (1000000), Cond.methodLink RX0 29 yX0_holesMoved, Cond.static yX0_holesMoved, Cond.code yX0_holesMoved cX0_holesMoved 2 (some .int), Cond.methodLink RX0 24 yJ6_bitCount_0f7a4, Cond.static yJ6_bitCount_0f7a4, Cond.initialized RJ6, Cond.code yJ6_bitCount_0f7a4 cJ6_bitCount_0f7a4 1 (some .int), Cond.constant RJ6 265 (1431655765), Cond.constant RJ6 266 (858993459), Cond.constant RJ6 267 (252645135), Cond.methodLink RX0 33 yX0_crosses, Cond.static yX0_crosses, Cond.code yX0_crosses cX0_crosses 4 (some .boolean)]
def wsX7_init_r3 : List Cond := [Cond.methodLink RX7 18 yX3_init, Cond.instanceMethod yX3_init, Cond.code yX3_init cX3_init 1 none, Cond.methodLink RX3 3 objectInit, Cond.classLink RX3 9 RX2, Cond.fieldLink RX3 11 "PipersDesk$OrnamentBook" "entries" "[LPipersDesk$Ornament;", Cond.fieldLink RX3 17 "PipersDesk$OrnamentBook" "draft" "[I", Cond.methodLink RX7 29 yX5_init, Cond.instanceMethod yX5_init, Cond.code yX5_init cX5_init 1 none, Cond.methodLink RX5 3 objectInit, Cond.fieldLink RX5 9 "PipersDesk$Tune" "pitches" "[I", Cond.fieldLink RX5 15 "PipersDesk$Tune" "lengths" "[I", Cond.arrayClass .boolean, Cond.fieldLink RX5 18 "PipersDesk$Tune" "wishes" "[Z", Cond.classLink RX5 22 "[[I", Cond.fieldLink RX5 24 "PipersDesk$Tune" "gapCosts" "[[I", Cond.methodLink RX7 32 yX6_init, Cond.instanceMethod yX6_init, Cond.code yX6_init cX6_init 2 none, Cond.methodLink RX6 3 objectInit, Cond.classLink RX6 9 RX1, Cond.fieldLink RX6 11 "PipersDesk$TuneChoices" "rows" "[LPipersDesk$Leasts;", Cond.instantiable RX1 1]
def wsX7_init_r4 : List Cond := [Cond.initialized RX1, Cond.fieldLink RX6 18 "PipersDesk$TuneChoices" "empties" "LPipersDesk$Leasts;", Cond.fieldLink RX6 22 "PipersDesk$TuneChoices" "emptyCosts" "[I", Cond.fieldLink RX6 26 "PipersDesk$TuneChoices" "counts" "[I", Cond.methodLink RX6 17 yX1_init, Cond.instanceMethod yX1_init, Cond.code yX1_init cX1_init 1 none, Cond.methodLink RX1 3 objectInit, Cond.fieldLink RX1 9 "PipersDesk$Leasts" "costs" "[I", Cond.methodLink RX7 39 yX4_init, Cond.instanceMethod yX4_init, Cond.code yX4_init cX4_init 1 none, Cond.methodLink RX4 3 objectInit, Cond.classLink RX4 9 "[[I", Cond.fieldLink RX4 11 "PipersDesk$SetSearch" "joinCosts" "[[I", Cond.classLink RX4 16 RX1, Cond.fieldLink RX4 19 "PipersDesk$SetSearch" "row" "LPipersDesk$Leasts;", Cond.fieldLink RX4 23 "PipersDesk$SetSearch" "order" "[I", Cond.fieldLink RX4 27 "PipersDesk$SetSearch" "best" "[I", Cond.methodLink RX4 18 yX1_init]
def wsX7_init : List Cond := .code yX7_init cX7_init 2 none :: ((wsX7_init_r1 ++ (wsX7_init_r2 ++ (wsX7_init_r3 ++ wsX7_init_r4))) ++ wsX00 ++ wsX70 ++ wsX30 ++ wsX50 ++ wsX60 ++ wsX40 ++ wsX10)
def wsX7_checkPitch : List Cond := .code yX7_checkPitch cX7_checkPitch 1 none :: ([.classLink RX7 56 "java/lang/IllegalArgumentException", .initialized "java/lang/IllegalArgumentException"] ++ (vx_atS RX7 60 "java/lang/IllegalArgumentException" ["java/lang/RuntimeException", "java/lang/Exception"]).filter goodWord)
def wsX7_cost : List Cond := .code yX7_cost cX7_cost 3 (some .int) :: ([.methodLink RX7 44 yX7_checkPitch, .static yX7_checkPitch, .initialized RX7, .code yX7_checkPitch cX7_checkPitch 1 none, .classLink RX7 56 "java/lang/IllegalArgumentException", .initialized "java/lang/IllegalArgumentException", .methodLink RX7 48 yX0_holesMoved, .static yX0_holesMoved, .initialized RX0, .code yX0_holesMoved cX0_holesMoved 2 (some .int), .methodLink RX0 24 yJ6_bitCount_0f7a4, .static yJ6_bitCount_0f7a4, .initialized RJ6, .code yJ6_bitCount_0f7a4 cJ6_bitCount_0f7a4 1 (some .int), .constant RJ6 265 (1431655765), .constant RJ6 266 (858993459), .constant RJ6 267 (252645135)] ++ (vx_atS RX7 60 "java/lang/IllegalArgumentException" ["java/lang/RuntimeException", "java/lang/Exception"]).filter goodWord)
def wsX7_isBarred : List Cond := .code yX7_isBarred cX7_isBarred 3 (some .boolean) :: ([.fieldLink RX7 12 "PipersDesk" "fingers" "LPipersDesk$Fingers;", .methodLink RX7 44 yX7_checkPitch, .static yX7_checkPitch, .initialized RX7, .code yX7_checkPitch cX7_checkPitch 1 none, .classLink RX7 56 "java/lang/IllegalArgumentException", .initialized "java/lang/IllegalArgumentException", .methodLink RX7 52 yX0_bars, .instanceMethod yX0_bars, .selects RX0 yX0_bars yX0_bars, .initialized RX0, .code yX0_bars cX0_bars 3 (some .boolean), .fieldLink RX0 11 "PipersDesk$Fingers" "stepCosts" "[[I", .constant RX0 37 (1000000)] ++ wsX70 ++ wsX00 ++ (vx_atS RX7 60 "java/lang/IllegalArgumentException" ["java/lang/RuntimeException", "java/lang/Exception"]).filter goodWord)
def wsX7_setLimit : List Cond := .code yX7_setLimit cX7_setLimit 2 (some .int) :: ([.classLink RX7 56 "java/lang/IllegalArgumentException", .initialized "java/lang/IllegalArgumentException", .fieldLink RX7 12 "PipersDesk" "fingers" "LPipersDesk$Fingers;", .methodLink RX7 63 yX0_limitTo, .instanceMethod yX0_limitTo, .selects RX0 yX0_limitTo yX0_limitTo, .initialized RX0, .code yX0_limitTo cX0_limitTo 7 (some .int), .fieldLink RX0 11 "PipersDesk$Fingers" "stepCosts" "[[I", .constant RX0 37 (1000000), .methodLink RX0 29 yX0_holesMoved, .static yX0_holesMoved, .code yX0_holesMoved cX0_holesMoved 2 (some .int), .methodLink RX0 24 yJ6_bitCount_0f7a4, .static yJ6_bitCount_0f7a4, .initialized RJ6, .code yJ6_bitCount_0f7a4 cJ6_bitCount_0f7a4 1 (some .int), .constant RJ6 265 (1431655765), .constant RJ6 266 (858993459), .constant RJ6 267 (252645135), .methodLink RX0 33 yX0_crosses, .static yX0_crosses, .code yX0_crosses cX0_crosses 4 (some .boolean)] ++ wsX70 ++ wsX00 ++ (vx_atS RX7 60 "java/lang/IllegalArgumentException" ["java/lang/RuntimeException", "java/lang/Exception"]).filter goodWord)
def wsX7_grace : List Cond := .code yX7_grace cX7_grace 2 (some .int) :: ([.classLink RX7 56 "java/lang/IllegalArgumentException", .initialized "java/lang/IllegalArgumentException", .classLink RX7 73 "java/lang/IllegalStateException", .initialized "java/lang/IllegalStateException", .fieldLink RX7 19 "PipersDesk" "book" "LPipersDesk$OrnamentBook;", .methodLink RX7 69 yX3_isDraftFull, .instanceMethod yX3_isDraftFull, .selects RX3 yX3_isDraftFull yX3_isDraftFull, .initialized RX3, .code yX3_isDraftFull cX3_isDraftFull 1 (some .boolean), .fieldLink RX3 25 "PipersDesk$OrnamentBook" "draftSize" "I", .methodLink RX7 78 yX3_addToDraft, .instanceMethod yX3_addToDraft, .selects RX3 yX3_addToDraft yX3_addToDraft, .code yX3_addToDraft cX3_addToDraft 2 (some .int), .fieldLink RX3 17 "PipersDesk$OrnamentBook" "draft" "[I"] ++ wsX70 ++ wsX30 ++ (vx_atS RX7 60 "java/lang/IllegalArgumentException" ["java/lang/RuntimeException", "java/lang/Exception"]).filter goodWord ++ (vx_atS RX7 77 "java/lang/IllegalStateException" ["java/lang/RuntimeException", "java/lang/Exception"]).filter goodWord)
def wsX7_enter_r1 : List Cond := [Cond.classLink RX7 73 "java/lang/IllegalStateException", Cond.initialized "java/lang/IllegalStateException", Cond.fieldLink RX7 19 "PipersDesk" "book" "LPipersDesk$OrnamentBook;", Cond.methodLink RX7 81 yX3_isDraftEmpty, Cond.instanceMethod yX3_isDraftEmpty, Cond.selects RX3 yX3_isDraftEmpty yX3_isDraftEmpty, Cond.initialized RX3, Cond.code yX3_isDraftEmpty cX3_isDraftEmpty 1 (some .boolean), Cond.fieldLink RX3 25 "PipersDesk$OrnamentBook" "draftSize" "I", Cond.methodLink RX7 84 yX3_isFull, Cond.instanceMethod yX3_isFull, Cond.selects RX3 yX3_isFull yX3_isFull, Cond.code yX3_isFull cX3_isFull 1 (some .boolean), Cond.fieldLink RX3 21 "PipersDesk$OrnamentBook" "size" "I", Cond.methodLink RX7 89 yX3_enterDraft, Cond.instanceMethod yX3_enterDraft, Cond.selects RX3 yX3_enterDraft yX3_enterDraft, Cond.code yX3_enterDraft cX3_enterDraft 1 (some .int), Cond.fieldLink RX3 11 "PipersDesk$OrnamentBook" "entries" "[LPipersDesk$Ornament;", Cond.classLink RX3 9 RX2, Cond.instantiable RX2 1, Cond.initialized RX2, Cond.fieldLink RX3 17 "PipersDesk$OrnamentBook" "draft" "[I", Cond.methodLink RX3 28 yJ7_copyOf_59c91]
def wsX7_enter_r2 : List Cond := [Cond.static yJ7_copyOf_59c91, Cond.initialized RJ7, Cond.code yJ7_copyOf_59c91 cJ7_copyOf_59c91 3 (some (.array .int)), Cond.methodLink RJ7 316 ⟨"[I", "clone", "()Ljava/lang/Object;"⟩, Cond.sameMethod "[I" "java/lang/Object" "clone" "()Ljava/lang/Object;", Cond.native ⟨"java/lang/Object", "clone", "()Ljava/lang/Object;"⟩, Cond.instanceMethod ⟨"java/lang/Object", "clone", "()Ljava/lang/Object;"⟩, Cond.selects "[I" ⟨"[I", "clone", "()Ljava/lang/Object;"⟩ ⟨"java/lang/Object", "clone", "()Ljava/lang/Object;"⟩, Cond.classLink RJ7 317 "[I", Cond.arrayClass .int, Cond.methodLink RJ7 304 Lib.Math.min.name, Cond.static Lib.Math.min.name, Cond.initialized "java/lang/Math", Cond.code Lib.Math.min.name Lib.Math.min.code 2 (some .int), Cond.methodLink RJ7 150 arraycopyName, Cond.native arraycopyName, Cond.static arraycopyName, Cond.initialized "java/lang/System", Cond.methodLink RX3 34 yX2_init, Cond.instanceMethod yX2_init, Cond.code yX2_init cX2_init 2 none, Cond.methodLink RX2 3 objectInit, Cond.instanceMethod objectInit, Cond.code objectInit ⟨#[0xb1]⟩ 1 none]
def wsX7_enter_r3 : List Cond := [Cond.fieldLink RX2 9 "PipersDesk$Ornament" "graces" "[I"]
def wsX7_enter : List Cond := .code yX7_enter cX7_enter 1 (some .int) :: ((wsX7_enter_r1 ++ (wsX7_enter_r2 ++ wsX7_enter_r3)) ++ wsX70 ++ wsX30 ++ wsX20 ++ (vx_atS RX7 77 "java/lang/IllegalStateException" ["java/lang/RuntimeException", "java/lang/Exception"]).filter goodWord)
def wsX7_ornaments : List Cond := .code yX7_ornaments cX7_ornaments 1 (some .int) :: ([.fieldLink RX7 19 "PipersDesk" "book" "LPipersDesk$OrnamentBook;", .methodLink RX7 93 yX3_size, .instanceMethod yX3_size, .selects RX3 yX3_size yX3_size, .initialized RX3, .code yX3_size cX3_size 1 (some .int), .fieldLink RX3 21 "PipersDesk$OrnamentBook" "size" "I"] ++ wsX70 ++ wsX30)
def wsX7_checkLength : List Cond := .code yX7_checkLength cX7_checkLength 1 none :: ([.classLink RX7 56 "java/lang/IllegalArgumentException", .initialized "java/lang/IllegalArgumentException"] ++ (vx_atS RX7 60 "java/lang/IllegalArgumentException" ["java/lang/RuntimeException", "java/lang/Exception"]).filter goodWord)
def wsX7_fits_r1 : List Cond := [Cond.classLink RX7 96 "java/lang/IndexOutOfBoundsException", Cond.initialized "java/lang/IndexOutOfBoundsException", Cond.fieldLink RX7 19 "PipersDesk" "book" "LPipersDesk$OrnamentBook;", Cond.fieldLink RX7 12 "PipersDesk" "fingers" "LPipersDesk$Fingers;", Cond.constant RX7 108 (1000000), Cond.methodLink RX7 93 yX3_size, Cond.instanceMethod yX3_size, Cond.selects RX3 yX3_size yX3_size, Cond.initialized RX3, Cond.code yX3_size cX3_size 1 (some .int), Cond.fieldLink RX3 21 "PipersDesk$OrnamentBook" "size" "I", Cond.methodLink RX7 44 yX7_checkPitch, Cond.static yX7_checkPitch, Cond.initialized RX7, Cond.code yX7_checkPitch cX7_checkPitch 1 none, Cond.classLink RX7 56 "java/lang/IllegalArgumentException", Cond.initialized "java/lang/IllegalArgumentException", Cond.methodLink RX7 101 yX7_checkLength, Cond.static yX7_checkLength, Cond.code yX7_checkLength cX7_checkLength 1 none, Cond.methodLink RX7 104 yX3_costOf, Cond.instanceMethod yX3_costOf, Cond.selects RX3 yX3_costOf yX3_costOf, Cond.code yX3_costOf cX3_costOf 7 (some .int)]
def wsX7_fits_r2 : List Cond := [Cond.fieldLink RX3 11 "PipersDesk$OrnamentBook" "entries" "[LPipersDesk$Ornament;", Cond.constant RX3 37 (1000000), Cond.methodLink RX3 38 yX2_costBetween, Cond.instanceMethod yX2_costBetween, Cond.selects RX2 yX2_costBetween yX2_costBetween, Cond.initialized RX2, Cond.code yX2_costBetween cX2_costBetween 9 (some .int), Cond.fieldLink RX2 9 "PipersDesk$Ornament" "graces" "[I", Cond.constant RX2 15 (1000000), Cond.methodLink RX2 26 Lib.Math.min.name, Cond.static Lib.Math.min.name, Cond.initialized "java/lang/Math", Cond.code Lib.Math.min.name Lib.Math.min.code 2 (some .int), Cond.methodLink RX2 16 yX2_soundOf, Cond.static yX2_soundOf, Cond.code yX2_soundOf cX2_soundOf 3 (some .int), Cond.methodLink RX2 20 yX0_stepCost, Cond.instanceMethod yX0_stepCost, Cond.selects RX0 yX0_stepCost yX0_stepCost, Cond.initialized RX0, Cond.code yX0_stepCost cX0_stepCost 3 (some .int), Cond.fieldLink RX0 11 "PipersDesk$Fingers" "stepCosts" "[[I"]
def wsX7_fits : List Cond := .code yX7_fits cX7_fits 5 (some .boolean) :: ((wsX7_fits_r1 ++ wsX7_fits_r2) ++ wsX70 ++ wsX30 ++ wsX20 ++ wsX00 ++ (vx_atS RX7 100 "java/lang/IndexOutOfBoundsException" ["java/lang/RuntimeException", "java/lang/Exception"]).filter goodWord ++ (vx_atS RX7 60 "java/lang/IllegalArgumentException" ["java/lang/RuntimeException", "java/lang/Exception"]).filter goodWord)
def wsX7_checkTune : List Cond := .code yX7_checkTune cX7_checkTune 1 none :: ([.classLink RX7 56 "java/lang/IllegalArgumentException", .initialized "java/lang/IllegalArgumentException"] ++ (vx_atS RX7 60 "java/lang/IllegalArgumentException" ["java/lang/RuntimeException", "java/lang/Exception"]).filter goodWord)
def wsX7_addNote_r1 : List Cond := [Cond.classLink RX7 73 "java/lang/IllegalStateException", Cond.initialized "java/lang/IllegalStateException", Cond.fieldLink RX7 25 "PipersDesk" "tunes" "[LPipersDesk$Tune;", Cond.methodLink RX7 109 yX7_checkTune, Cond.static yX7_checkTune, Cond.initialized RX7, Cond.code yX7_checkTune cX7_checkTune 1 none, Cond.classLink RX7 56 "java/lang/IllegalArgumentException", Cond.initialized "java/lang/IllegalArgumentException", Cond.methodLink RX7 44 yX7_checkPitch, Cond.static yX7_checkPitch, Cond.code yX7_checkPitch cX7_checkPitch 1 none, Cond.methodLink RX7 101 yX7_checkLength, Cond.static yX7_checkLength, Cond.code yX7_checkLength cX7_checkLength 1 none, Cond.methodLink RX7 112 yX5_size, Cond.instanceMethod yX5_size, Cond.selects RX5 yX5_size yX5_size, Cond.initialized RX5, Cond.code yX5_size cX5_size 1 (some .int), Cond.fieldLink RX5 27 "PipersDesk$Tune" "size" "I", Cond.methodLink RX7 115 yX5_append, Cond.instanceMethod yX5_append, Cond.selects RX5 yX5_append yX5_append]
def wsX7_addNote_r2 : List Cond := [Cond.code yX5_append cX5_append 3 (some .int), Cond.fieldLink RX5 18 "PipersDesk$Tune" "wishes" "[Z", Cond.fieldLink RX5 9 "PipersDesk$Tune" "pitches" "[I", Cond.fieldLink RX5 15 "PipersDesk$Tune" "lengths" "[I"]
def wsX7_addNote : List Cond := .code yX7_addNote cX7_addNote 4 (some .int) :: ((wsX7_addNote_r1 ++ wsX7_addNote_r2) ++ wsX70 ++ wsX50 ++ (vx_atS RX7 77 "java/lang/IllegalStateException" ["java/lang/RuntimeException", "java/lang/Exception"]).filter goodWord ++ (vx_atS RX7 60 "java/lang/IllegalArgumentException" ["java/lang/RuntimeException", "java/lang/Exception"]).filter goodWord)
/-! ours: the words of new NoSuchElementException("text"); its constructor names RuntimeException's by its pool's place 13 -/
def nsX : String := "java/util/NoSuchElementException"
def nsI : MethodName := ⟨nsX, "<init>", "(Ljava/lang/String;)V"⟩
def nsC : ByteArray := ⟨#[0x2a, 0x2b, 0xb7, 0x00, 0x0d, 0xb1]⟩
def nsAll : List Cond := Bundle.throwableAtoms ++ Bundle.throwableSAtoms ++ Bundle.passSAtoms nsX "java/lang/RuntimeException" 13 nsC ++ Bundle.chainSAtoms "java/lang/RuntimeException" ["java/lang/Exception"] ++
  [.methodLink RX7 122 nsI, .instantiable nsX 6, .castable nsX nsX, .selects nsX Bundle.tFill0 Bundle.tFill0, .selects nsX Bundle.tFill Bundle.tFill,
   .lays nsX Bundle.tN "cause" "Ljava/lang/Throwable;", .lays nsX Bundle.tN "stackTrace" Bundle.steD, .lays nsX Bundle.tN "suppressedExceptions" Bundle.listD, .lays nsX Bundle.tN "detailMessage" "Ljava/lang/String;",
   .isRef (.static Bundle.tN "UNASSIGNED_STACK" Bundle.steD), .isRef (.static Bundle.tN "SUPPRESSED_SENTINEL" Bundle.listD),
   .fieldLink Bundle.tN 198 Bundle.tN "backtrace" "Ljava/lang/Object;", .lays Bundle.tN Bundle.tN "backtrace" "Ljava/lang/Object;", .lays nsX Bundle.tN "backtrace" "Ljava/lang/Object;"]
def nsW : List Cond := (nsAll.filter vx_no).filter goodWord
def wsX7_removeNote : List Cond := .code yX7_removeNote cX7_removeNote 2 (some .int) :: ([.classLink RX7 118 "java/util/NoSuchElementException", .initialized "java/util/NoSuchElementException", .fieldLink RX7 25 "PipersDesk" "tunes" "[LPipersDesk$Tune;", .methodLink RX7 109 yX7_checkTune, .static yX7_checkTune, .initialized RX7, .code yX7_checkTune cX7_checkTune 1 none, .classLink RX7 56 "java/lang/IllegalArgumentException", .initialized "java/lang/IllegalArgumentException", .methodLink RX7 112 yX5_size, .instanceMethod yX5_size, .selects RX5 yX5_size yX5_size, .initialized RX5, .code yX5_size cX5_size 1 (some .int), .fieldLink RX5 27 "PipersDesk$Tune" "size" "I", .methodLink RX7 123 yX5_dropLast, .instanceMethod yX5_dropLast, .selects RX5 yX5_dropLast yX5_dropLast, .code yX5_dropLast cX5_dropLast 1 (some .int), .fieldLink RX5 9 "PipersDesk$Tune" "pitches" "[I"] ++ wsX70 ++ wsX50 ++ nsW ++ (vx_atS RX7 60 "java/lang/IllegalArgumentException" ["java/lang/RuntimeException", "java/lang/Exception"]).filter goodWord)
def wsX7_checkGap : List Cond := .code yX7_checkGap cX7_checkGap 3 none :: ([.classLink RX7 96 "java/lang/IndexOutOfBoundsException", .initialized "java/lang/IndexOutOfBoundsException", .fieldLink RX7 25 "PipersDesk" "tunes" "[LPipersDesk$Tune;", .methodLink RX7 142 yX5_gaps, .instanceMethod yX5_gaps, .selects RX5 yX5_gaps yX5_gaps, .initialized RX5, .code yX5_gaps cX5_gaps 1 (some .int), .fieldLink RX5 27 "PipersDesk$Tune" "size" "I"] ++ wsX70 ++ wsX50 ++ (vx_atS RX7 100 "java/lang/IndexOutOfBoundsException" ["java/lang/RuntimeException", "java/lang/Exception"]).filter goodWord)
def wsX7_setWish : List Cond := .code yX7_setWish cX7_setWish 4 (some .boolean) :: ([.fieldLink RX7 25 "PipersDesk" "tunes" "[LPipersDesk$Tune;", .methodLink RX7 109 yX7_checkTune, .static yX7_checkTune, .initialized RX7, .code yX7_checkTune cX7_checkTune 1 none, .classLink RX7 56 "java/lang/IllegalArgumentException", .initialized "java/lang/IllegalArgumentException", .methodLink RX7 126 yX7_checkGap, .instanceMethod yX7_checkGap, .selects RX7 yX7_checkGap yX7_checkGap, .code yX7_checkGap cX7_checkGap 3 none, .classLink RX7 96 "java/lang/IndexOutOfBoundsException", .initialized "java/lang/IndexOutOfBoundsException", .methodLink RX7 142 yX5_gaps, .instanceMethod yX5_gaps, .selects RX5 yX5_gaps yX5_gaps, .initialized RX5, .code yX5_gaps cX5_gaps 1 (some .int), .fieldLink RX5 27 "PipersDesk$Tune" "size" "I", .methodLink RX7 130 yX5_replaceWish, .instanceMethod yX5_replaceWish, .selects RX5 yX5_replaceWish yX5_replaceWish, .code yX5_replaceWish cX5_replaceWish 4 (some .boolean), .fieldLink RX5 18 "PipersDesk$Tune" "wishes" "[Z"] ++ wsX70 ++ wsX50 ++ (vx_atS RX7 60 "java/lang/IllegalArgumentException" ["java/lang/RuntimeException", "java/lang/Exception"]).filter goodWord ++ (vx_atS RX7 100 "java/lang/IndexOutOfBoundsException" ["java/lang/RuntimeException", "java/lang/Exception"]).filter goodWord)
def wsX7_notes : List Cond := .code yX7_notes cX7_notes 2 (some .int) :: ([.fieldLink RX7 25 "PipersDesk" "tunes" "[LPipersDesk$Tune;", .methodLink RX7 109 yX7_checkTune, .static yX7_checkTune, .initialized RX7, .code yX7_checkTune cX7_checkTune 1 none, .classLink RX7 56 "java/lang/IllegalArgumentException", .initialized "java/lang/IllegalArgumentException", .methodLink RX7 112 yX5_size, .instanceMethod yX5_size, .selects RX5 yX5_size yX5_size, .initialized RX5, .code yX5_size cX5_size 1 (some .int), .fieldLink RX5 27 "PipersDesk$Tune" "size" "I"] ++ wsX70 ++ wsX50 ++ (vx_atS RX7 60 "java/lang/IllegalArgumentException" ["java/lang/RuntimeException", "java/lang/Exception"]).filter goodWord)
def wsX7_solve_r1 : List Cond := [Cond.classLink RX7 73 "java/lang/IllegalStateException", Cond.initialized "java/lang/IllegalStateException", Cond.fieldLink RX7 25 "PipersDesk" "tunes" "[LPipersDesk$Tune;", Cond.fieldLink RX7 12 "PipersDesk" "fingers" "LPipersDesk$Fingers;", Cond.fieldLink RX7 19 "PipersDesk" "book" "LPipersDesk$OrnamentBook;", Cond.fieldLink RX7 33 "PipersDesk" "tuneChoices" "LPipersDesk$TuneChoices;", Cond.constant RX7 108 (1000000), Cond.methodLink RX7 151 yX5_weighGaps, Cond.instanceMethod yX5_weighGaps, Cond.selects RX5 yX5_weighGaps yX5_weighGaps, Cond.initialized RX5, Cond.code yX5_weighGaps cX5_weighGaps 5 none, Cond.fieldLink RX5 27 "PipersDesk$Tune" "size" "I", Cond.fieldLink RX5 9 "PipersDesk$Tune" "pitches" "[I", Cond.fieldLink RX5 15 "PipersDesk$Tune" "lengths" "[I", Cond.fieldLink RX5 18 "PipersDesk$Tune" "wishes" "[Z", Cond.fieldLink RX5 24 "PipersDesk$Tune" "gapCosts" "[[I", Cond.methodLink RX5 31 yX3_weigh, Cond.instanceMethod yX3_weigh, Cond.selects RX3 yX3_weigh yX3_weigh, Cond.initialized RX3, Cond.code yX3_weigh cX3_weigh 8 none, Cond.constant RX3 37 (1000000), Cond.methodLink RX3 45 yX0_stepCost]
def wsX7_solve_r2 : List Cond := [Cond.instanceMethod yX0_stepCost, Cond.selects RX0 yX0_stepCost yX0_stepCost, Cond.initialized RX0, Cond.code yX0_stepCost cX0_stepCost 3 (some .int), Cond.fieldLink RX0 11 "PipersDesk$Fingers" "stepCosts" "[[I", Cond.methodLink RX3 51 yX3_costOf, Cond.instanceMethod yX3_costOf, Cond.selects RX3 yX3_costOf yX3_costOf, Cond.code yX3_costOf cX3_costOf 7 (some .int), Cond.fieldLink RX3 11 "PipersDesk$OrnamentBook" "entries" "[LPipersDesk$Ornament;", Cond.methodLink RX3 38 yX2_costBetween, Cond.instanceMethod yX2_costBetween, Cond.selects RX2 yX2_costBetween yX2_costBetween, Cond.initialized RX2, Cond.code yX2_costBetween cX2_costBetween 9 (some .int), Cond.fieldLink RX2 9 "PipersDesk$Ornament" "graces" "[I", Cond.constant RX2 15 (1000000), Cond.methodLink RX2 26 Lib.Math.min.name, Cond.static Lib.Math.min.name, Cond.initialized "java/lang/Math", Cond.code Lib.Math.min.name Lib.Math.min.code 2 (some .int), Cond.methodLink RX2 16 yX2_soundOf, Cond.static yX2_soundOf, Cond.code yX2_soundOf cX2_soundOf 3 (some .int)]
def wsX7_solve_r3 : List Cond := [Cond.methodLink RX2 20 yX0_stepCost, Cond.methodLink RX7 188 yX6_solveFor, Cond.instanceMethod yX6_solveFor, Cond.selects RX6 yX6_solveFor yX6_solveFor, Cond.initialized RX6, Cond.code yX6_solveFor cX6_solveFor 3 (some .int), Cond.fieldLink RX6 11 "PipersDesk$TuneChoices" "rows" "[LPipersDesk$Leasts;", Cond.methodLink RX6 29 yX5_gaps, Cond.instanceMethod yX5_gaps, Cond.selects RX5 yX5_gaps yX5_gaps, Cond.code yX5_gaps cX5_gaps 1 (some .int), Cond.methodLink RX6 35 yX1_startRow, Cond.instanceMethod yX1_startRow, Cond.selects RX1 yX1_startRow yX1_startRow, Cond.initialized RX1, Cond.code yX1_startRow cX1_startRow 1 none, Cond.fieldLink RX1 9 "PipersDesk$Leasts" "costs" "[I", Cond.constant RX1 15 (1000000), Cond.methodLink RX1 16 yJ7_fill_53178, Cond.static yJ7_fill_53178, Cond.initialized RJ7, Cond.code yJ7_fill_53178 cJ7_fill_53178 4 none, Cond.methodLink RX6 38 yX5_costsAt, Cond.instanceMethod yX5_costsAt]
def wsX7_solve_r4 : List Cond := [Cond.selects RX5 yX5_costsAt yX5_costsAt, Cond.code yX5_costsAt cX5_costsAt 2 (some (.array .int)), Cond.methodLink RX6 42 yX1_growFrom, Cond.instanceMethod yX1_growFrom, Cond.selects RX1 yX1_growFrom yX1_growFrom, Cond.code yX1_growFrom cX1_growFrom 8 none, Cond.methodLink RX1 26 Lib.Math.min.name, Cond.methodLink RX1 22 yX1_firstLeastBeside, Cond.instanceMethod yX1_firstLeastBeside, Cond.selects RX1 yX1_firstLeastBeside yX1_firstLeastBeside, Cond.code yX1_firstLeastBeside cX1_firstLeastBeside 4 (some .int), Cond.methodLink RX6 46 yX1_leastOfAll, Cond.instanceMethod yX1_leastOfAll, Cond.selects RX1 yX1_leastOfAll yX1_leastOfAll, Cond.code yX1_leastOfAll cX1_leastOfAll 1 (some .int)]
def wsX7_solve : List Cond := .code yX7_solve cX7_solve 3 (some .int) :: ((wsX7_solve_r1 ++ (wsX7_solve_r2 ++ (wsX7_solve_r3 ++ wsX7_solve_r4))) ++ wsX70 ++ wsX50 ++ wsX00 ++ wsX30 ++ wsX20 ++ wsX60 ++ wsX10 ++ (vx_atS RX7 77 "java/lang/IllegalStateException" ["java/lang/RuntimeException", "java/lang/Exception"]).filter goodWord)
def wsX7_time_r1 : List Cond := [Cond.classLink RX7 96 "java/lang/IndexOutOfBoundsException", Cond.initialized "java/lang/IndexOutOfBoundsException", Cond.fieldLink RX7 25 "PipersDesk" "tunes" "[LPipersDesk$Tune;", Cond.fieldLink RX7 19 "PipersDesk" "book" "LPipersDesk$OrnamentBook;", Cond.fieldLink RX7 33 "PipersDesk" "tuneChoices" "LPipersDesk$TuneChoices;", Cond.methodLink RX7 109 yX7_checkTune, Cond.static yX7_checkTune, Cond.initialized RX7, Cond.code yX7_checkTune cX7_checkTune 1 none, Cond.classLink RX7 56 "java/lang/IllegalArgumentException", Cond.initialized "java/lang/IllegalArgumentException", Cond.methodLink RX7 112 yX5_size, Cond.instanceMethod yX5_size, Cond.selects RX5 yX5_size yX5_size, Cond.initialized RX5, Cond.code yX5_size cX5_size 1 (some .int), Cond.fieldLink RX5 27 "PipersDesk$Tune" "size" "I", Cond.methodLink RX7 136 yX7_solve, Cond.instanceMethod yX7_solve, Cond.selects RX7 yX7_solve yX7_solve, Cond.code yX7_solve cX7_solve 3 (some .int), Cond.classLink RX7 73 "java/lang/IllegalStateException", Cond.initialized "java/lang/IllegalStateException", Cond.fieldLink RX7 12 "PipersDesk" "fingers" "LPipersDesk$Fingers;"]
def wsX7_time_r2 : List Cond := [Cond.constant RX7 108 (1000000), Cond.methodLink RX7 151 yX5_weighGaps, Cond.instanceMethod yX5_weighGaps, Cond.selects RX5 yX5_weighGaps yX5_weighGaps, Cond.code yX5_weighGaps cX5_weighGaps 5 none, Cond.fieldLink RX5 9 "PipersDesk$Tune" "pitches" "[I", Cond.fieldLink RX5 15 "PipersDesk$Tune" "lengths" "[I", Cond.fieldLink RX5 18 "PipersDesk$Tune" "wishes" "[Z", Cond.fieldLink RX5 24 "PipersDesk$Tune" "gapCosts" "[[I", Cond.methodLink RX5 31 yX3_weigh, Cond.instanceMethod yX3_weigh, Cond.selects RX3 yX3_weigh yX3_weigh, Cond.initialized RX3, Cond.code yX3_weigh cX3_weigh 8 none, Cond.constant RX3 37 (1000000), Cond.methodLink RX3 45 yX0_stepCost, Cond.instanceMethod yX0_stepCost, Cond.selects RX0 yX0_stepCost yX0_stepCost, Cond.initialized RX0, Cond.code yX0_stepCost cX0_stepCost 3 (some .int), Cond.fieldLink RX0 11 "PipersDesk$Fingers" "stepCosts" "[[I", Cond.methodLink RX3 51 yX3_costOf, Cond.instanceMethod yX3_costOf, Cond.selects RX3 yX3_costOf yX3_costOf]
def wsX7_time_r3 : List Cond := [Cond.code yX3_costOf cX3_costOf 7 (some .int), Cond.fieldLink RX3 11 "PipersDesk$OrnamentBook" "entries" "[LPipersDesk$Ornament;", Cond.methodLink RX3 38 yX2_costBetween, Cond.instanceMethod yX2_costBetween, Cond.selects RX2 yX2_costBetween yX2_costBetween, Cond.initialized RX2, Cond.code yX2_costBetween cX2_costBetween 9 (some .int), Cond.fieldLink RX2 9 "PipersDesk$Ornament" "graces" "[I", Cond.constant RX2 15 (1000000), Cond.methodLink RX2 26 Lib.Math.min.name, Cond.static Lib.Math.min.name, Cond.initialized "java/lang/Math", Cond.code Lib.Math.min.name Lib.Math.min.code 2 (some .int), Cond.methodLink RX2 16 yX2_soundOf, Cond.static yX2_soundOf, Cond.code yX2_soundOf cX2_soundOf 3 (some .int), Cond.methodLink RX2 20 yX0_stepCost, Cond.methodLink RX7 188 yX6_solveFor, Cond.instanceMethod yX6_solveFor, Cond.selects RX6 yX6_solveFor yX6_solveFor, Cond.initialized RX6, Cond.code yX6_solveFor cX6_solveFor 3 (some .int), Cond.fieldLink RX6 11 "PipersDesk$TuneChoices" "rows" "[LPipersDesk$Leasts;", Cond.methodLink RX6 29 yX5_gaps]
def wsX7_time_r4 : List Cond := [Cond.instanceMethod yX5_gaps, Cond.selects RX5 yX5_gaps yX5_gaps, Cond.code yX5_gaps cX5_gaps 1 (some .int), Cond.methodLink RX6 35 yX1_startRow, Cond.instanceMethod yX1_startRow, Cond.selects RX1 yX1_startRow yX1_startRow, Cond.initialized RX1, Cond.code yX1_startRow cX1_startRow 1 none, Cond.fieldLink RX1 9 "PipersDesk$Leasts" "costs" "[I", Cond.constant RX1 15 (1000000), Cond.methodLink RX1 16 yJ7_fill_53178, Cond.static yJ7_fill_53178, Cond.initialized RJ7, Cond.code yJ7_fill_53178 cJ7_fill_53178 4 none, Cond.methodLink RX6 38 yX5_costsAt, Cond.instanceMethod yX5_costsAt, Cond.selects RX5 yX5_costsAt yX5_costsAt, Cond.code yX5_costsAt cX5_costsAt 2 (some (.array .int)), Cond.methodLink RX6 42 yX1_growFrom, Cond.instanceMethod yX1_growFrom, Cond.selects RX1 yX1_growFrom yX1_growFrom, Cond.code yX1_growFrom cX1_growFrom 8 none, Cond.methodLink RX1 26 Lib.Math.min.name, Cond.methodLink RX1 22 yX1_firstLeastBeside]
def wsX7_time_r5 : List Cond := [Cond.instanceMethod yX1_firstLeastBeside, Cond.selects RX1 yX1_firstLeastBeside yX1_firstLeastBeside, Cond.code yX1_firstLeastBeside cX1_firstLeastBeside 4 (some .int), Cond.methodLink RX6 46 yX1_leastOfAll, Cond.instanceMethod yX1_leastOfAll, Cond.selects RX1 yX1_leastOfAll yX1_leastOfAll, Cond.code yX1_leastOfAll cX1_leastOfAll 1 (some .int), Cond.methodLink RX7 139 yX5_lengthOf, Cond.instanceMethod yX5_lengthOf, Cond.selects RX5 yX5_lengthOf yX5_lengthOf, Cond.code yX5_lengthOf cX5_lengthOf 2 (some .int), Cond.methodLink RX7 142 yX5_gaps, Cond.methodLink RX7 145 yX6_firstAt, Cond.instanceMethod yX6_firstAt, Cond.selects RX6 yX6_firstAt yX6_firstAt, Cond.code yX6_firstAt cX6_firstAt 4 (some .int), Cond.methodLink RX6 49 yX1_firstLeastBeside, Cond.methodLink RX7 148 yX3_gracesOf, Cond.instanceMethod yX3_gracesOf, Cond.selects RX3 yX3_gracesOf yX3_gracesOf, Cond.code yX3_gracesOf cX3_gracesOf 3 (some .int), Cond.methodLink RX3 42 yX2_size, Cond.instanceMethod yX2_size, Cond.selects RX2 yX2_size yX2_size]
def wsX7_time_r6 : List Cond := [Cond.code yX2_size cX2_size 1 (some .int)]
def wsX7_time : List Cond := .code yX7_time cX7_time 4 (some .int) :: ((wsX7_time_r1 ++ (wsX7_time_r2 ++ (wsX7_time_r3 ++ (wsX7_time_r4 ++ (wsX7_time_r5 ++ wsX7_time_r6))))) ++ wsX70 ++ wsX50 ++ wsX00 ++ wsX30 ++ wsX20 ++ wsX60 ++ wsX10 ++ (vx_atS RX7 100 "java/lang/IndexOutOfBoundsException" ["java/lang/RuntimeException", "java/lang/Exception"]).filter goodWord ++ (vx_atS RX7 60 "java/lang/IllegalArgumentException" ["java/lang/RuntimeException", "java/lang/Exception"]).filter goodWord ++ (vx_atS RX7 77 "java/lang/IllegalStateException" ["java/lang/RuntimeException", "java/lang/Exception"]).filter goodWord)
def wsX7_fitting_r1 : List Cond := [Cond.fieldLink RX7 25 "PipersDesk" "tunes" "[LPipersDesk$Tune;", Cond.fieldLink RX7 12 "PipersDesk" "fingers" "LPipersDesk$Fingers;", Cond.fieldLink RX7 19 "PipersDesk" "book" "LPipersDesk$OrnamentBook;", Cond.constant RX7 108 (1000000), Cond.methodLink RX7 109 yX7_checkTune, Cond.static yX7_checkTune, Cond.initialized RX7, Cond.code yX7_checkTune cX7_checkTune 1 none, Cond.classLink RX7 56 "java/lang/IllegalArgumentException", Cond.initialized "java/lang/IllegalArgumentException", Cond.methodLink RX7 126 yX7_checkGap, Cond.instanceMethod yX7_checkGap, Cond.selects RX7 yX7_checkGap yX7_checkGap, Cond.code yX7_checkGap cX7_checkGap 3 none, Cond.classLink RX7 96 "java/lang/IndexOutOfBoundsException", Cond.initialized "java/lang/IndexOutOfBoundsException", Cond.methodLink RX7 142 yX5_gaps, Cond.instanceMethod yX5_gaps, Cond.selects RX5 yX5_gaps yX5_gaps, Cond.initialized RX5, Cond.code yX5_gaps cX5_gaps 1 (some .int), Cond.fieldLink RX5 27 "PipersDesk$Tune" "size" "I", Cond.methodLink RX7 151 yX5_weighGaps, Cond.instanceMethod yX5_weighGaps]
def wsX7_fitting_r2 : List Cond := [Cond.selects RX5 yX5_weighGaps yX5_weighGaps, Cond.code yX5_weighGaps cX5_weighGaps 5 none, Cond.fieldLink RX5 9 "PipersDesk$Tune" "pitches" "[I", Cond.fieldLink RX5 15 "PipersDesk$Tune" "lengths" "[I", Cond.fieldLink RX5 18 "PipersDesk$Tune" "wishes" "[Z", Cond.fieldLink RX5 24 "PipersDesk$Tune" "gapCosts" "[[I", Cond.methodLink RX5 31 yX3_weigh, Cond.instanceMethod yX3_weigh, Cond.selects RX3 yX3_weigh yX3_weigh, Cond.initialized RX3, Cond.code yX3_weigh cX3_weigh 8 none, Cond.constant RX3 37 (1000000), Cond.methodLink RX3 45 yX0_stepCost, Cond.instanceMethod yX0_stepCost, Cond.selects RX0 yX0_stepCost yX0_stepCost, Cond.initialized RX0, Cond.code yX0_stepCost cX0_stepCost 3 (some .int), Cond.fieldLink RX0 11 "PipersDesk$Fingers" "stepCosts" "[[I", Cond.methodLink RX3 51 yX3_costOf, Cond.instanceMethod yX3_costOf, Cond.selects RX3 yX3_costOf yX3_costOf, Cond.code yX3_costOf cX3_costOf 7 (some .int), Cond.fieldLink RX3 11 "PipersDesk$OrnamentBook" "entries" "[LPipersDesk$Ornament;", Cond.methodLink RX3 38 yX2_costBetween]
def wsX7_fitting_r3 : List Cond := [Cond.instanceMethod yX2_costBetween, Cond.selects RX2 yX2_costBetween yX2_costBetween, Cond.initialized RX2, Cond.code yX2_costBetween cX2_costBetween 9 (some .int), Cond.fieldLink RX2 9 "PipersDesk$Ornament" "graces" "[I", Cond.constant RX2 15 (1000000), Cond.methodLink RX2 26 Lib.Math.min.name, Cond.static Lib.Math.min.name, Cond.initialized "java/lang/Math", Cond.code Lib.Math.min.name Lib.Math.min.code 2 (some .int), Cond.methodLink RX2 16 yX2_soundOf, Cond.static yX2_soundOf, Cond.code yX2_soundOf cX2_soundOf 3 (some .int), Cond.methodLink RX2 20 yX0_stepCost, Cond.methodLink RX7 155 yX5_costsAt, Cond.instanceMethod yX5_costsAt, Cond.selects RX5 yX5_costsAt yX5_costsAt, Cond.code yX5_costsAt cX5_costsAt 2 (some (.array .int))]
def wsX7_fitting : List Cond := .code yX7_fitting cX7_fitting 6 (some .int) :: ((wsX7_fitting_r1 ++ (wsX7_fitting_r2 ++ wsX7_fitting_r3)) ++ wsX70 ++ wsX50 ++ wsX00 ++ wsX30 ++ wsX20 ++ (vx_atS RX7 60 "java/lang/IllegalArgumentException" ["java/lang/RuntimeException", "java/lang/Exception"]).filter goodWord ++ (vx_atS RX7 100 "java/lang/IndexOutOfBoundsException" ["java/lang/RuntimeException", "java/lang/Exception"]).filter goodWord)
def wsX7_choices_r1 : List Cond := [Cond.fieldLink RX7 25 "PipersDesk" "tunes" "[LPipersDesk$Tune;", Cond.fieldLink RX7 12 "PipersDesk" "fingers" "LPipersDesk$Fingers;", Cond.fieldLink RX7 19 "PipersDesk" "book" "LPipersDesk$OrnamentBook;", Cond.fieldLink RX7 33 "PipersDesk" "tuneChoices" "LPipersDesk$TuneChoices;", Cond.methodLink RX7 109 yX7_checkTune, Cond.static yX7_checkTune, Cond.initialized RX7, Cond.code yX7_checkTune cX7_checkTune 1 none, Cond.classLink RX7 56 "java/lang/IllegalArgumentException", Cond.initialized "java/lang/IllegalArgumentException", Cond.methodLink RX7 151 yX5_weighGaps, Cond.instanceMethod yX5_weighGaps, Cond.selects RX5 yX5_weighGaps yX5_weighGaps, Cond.initialized RX5, Cond.code yX5_weighGaps cX5_weighGaps 5 none, Cond.fieldLink RX5 27 "PipersDesk$Tune" "size" "I", Cond.fieldLink RX5 9 "PipersDesk$Tune" "pitches" "[I", Cond.fieldLink RX5 15 "PipersDesk$Tune" "lengths" "[I", Cond.fieldLink RX5 18 "PipersDesk$Tune" "wishes" "[Z", Cond.fieldLink RX5 24 "PipersDesk$Tune" "gapCosts" "[[I", Cond.methodLink RX5 31 yX3_weigh, Cond.instanceMethod yX3_weigh, Cond.selects RX3 yX3_weigh yX3_weigh, Cond.initialized RX3]
def wsX7_choices_r2 : List Cond := [Cond.code yX3_weigh cX3_weigh 8 none, Cond.constant RX3 37 (1000000), Cond.methodLink RX3 45 yX0_stepCost, Cond.instanceMethod yX0_stepCost, Cond.selects RX0 yX0_stepCost yX0_stepCost, Cond.initialized RX0, Cond.code yX0_stepCost cX0_stepCost 3 (some .int), Cond.fieldLink RX0 11 "PipersDesk$Fingers" "stepCosts" "[[I", Cond.methodLink RX3 51 yX3_costOf, Cond.instanceMethod yX3_costOf, Cond.selects RX3 yX3_costOf yX3_costOf, Cond.code yX3_costOf cX3_costOf 7 (some .int), Cond.fieldLink RX3 11 "PipersDesk$OrnamentBook" "entries" "[LPipersDesk$Ornament;", Cond.methodLink RX3 38 yX2_costBetween, Cond.instanceMethod yX2_costBetween, Cond.selects RX2 yX2_costBetween yX2_costBetween, Cond.initialized RX2, Cond.code yX2_costBetween cX2_costBetween 9 (some .int), Cond.fieldLink RX2 9 "PipersDesk$Ornament" "graces" "[I", Cond.constant RX2 15 (1000000), Cond.methodLink RX2 26 Lib.Math.min.name, Cond.static Lib.Math.min.name, Cond.initialized "java/lang/Math", Cond.code Lib.Math.min.name Lib.Math.min.code 2 (some .int)]
def wsX7_choices_r3 : List Cond := [Cond.methodLink RX2 16 yX2_soundOf, Cond.static yX2_soundOf, Cond.code yX2_soundOf cX2_soundOf 3 (some .int), Cond.methodLink RX2 20 yX0_stepCost, Cond.methodLink RX7 159 yX6_countFor, Cond.instanceMethod yX6_countFor, Cond.selects RX6 yX6_countFor yX6_countFor, Cond.initialized RX6, Cond.code yX6_countFor cX6_countFor 4 (some .int), Cond.fieldLink RX6 26 "PipersDesk$TuneChoices" "counts" "[I", Cond.methodLink RX6 54 yJ7_fill_53178, Cond.static yJ7_fill_53178, Cond.initialized RJ7, Cond.code yJ7_fill_53178 cJ7_fill_53178 4 none, Cond.methodLink RX6 29 yX5_gaps, Cond.instanceMethod yX5_gaps, Cond.selects RX5 yX5_gaps yX5_gaps, Cond.code yX5_gaps cX5_gaps 1 (some .int), Cond.methodLink RX6 38 yX5_costsAt, Cond.instanceMethod yX5_costsAt, Cond.selects RX5 yX5_costsAt yX5_costsAt, Cond.code yX5_costsAt cX5_costsAt 2 (some (.array .int)), Cond.methodLink RX6 60 yX6_countWithGap, Cond.instanceMethod yX6_countWithGap]
def wsX7_choices_r4 : List Cond := [Cond.selects RX6 yX6_countWithGap yX6_countWithGap, Cond.code yX6_countWithGap cX6_countWithGap 6 (some .int), Cond.constant RX6 53 (1000000)]
def wsX7_choices : List Cond := .code yX7_choices cX7_choices 2 (some .int) :: ((wsX7_choices_r1 ++ (wsX7_choices_r2 ++ (wsX7_choices_r3 ++ wsX7_choices_r4))) ++ wsX70 ++ wsX50 ++ wsX00 ++ wsX30 ++ wsX20 ++ wsX60 ++ (vx_atS RX7 60 "java/lang/IllegalArgumentException" ["java/lang/RuntimeException", "java/lang/Exception"]).filter goodWord)
def wsX7_least_r1 : List Cond := [Cond.methodLink RX7 109 yX7_checkTune, Cond.static yX7_checkTune, Cond.initialized RX7, Cond.code yX7_checkTune cX7_checkTune 1 none, Cond.classLink RX7 56 "java/lang/IllegalArgumentException", Cond.initialized "java/lang/IllegalArgumentException", Cond.methodLink RX7 136 yX7_solve, Cond.instanceMethod yX7_solve, Cond.selects RX7 yX7_solve yX7_solve, Cond.code yX7_solve cX7_solve 3 (some .int), Cond.classLink RX7 73 "java/lang/IllegalStateException", Cond.initialized "java/lang/IllegalStateException", Cond.fieldLink RX7 25 "PipersDesk" "tunes" "[LPipersDesk$Tune;", Cond.fieldLink RX7 12 "PipersDesk" "fingers" "LPipersDesk$Fingers;", Cond.fieldLink RX7 19 "PipersDesk" "book" "LPipersDesk$OrnamentBook;", Cond.fieldLink RX7 33 "PipersDesk" "tuneChoices" "LPipersDesk$TuneChoices;", Cond.constant RX7 108 (1000000), Cond.methodLink RX7 151 yX5_weighGaps, Cond.instanceMethod yX5_weighGaps, Cond.selects RX5 yX5_weighGaps yX5_weighGaps, Cond.initialized RX5, Cond.code yX5_weighGaps cX5_weighGaps 5 none, Cond.fieldLink RX5 27 "PipersDesk$Tune" "size" "I", Cond.fieldLink RX5 9 "PipersDesk$Tune" "pitches" "[I"]
def wsX7_least_r2 : List Cond := [Cond.fieldLink RX5 15 "PipersDesk$Tune" "lengths" "[I", Cond.fieldLink RX5 18 "PipersDesk$Tune" "wishes" "[Z", Cond.fieldLink RX5 24 "PipersDesk$Tune" "gapCosts" "[[I", Cond.methodLink RX5 31 yX3_weigh, Cond.instanceMethod yX3_weigh, Cond.selects RX3 yX3_weigh yX3_weigh, Cond.initialized RX3, Cond.code yX3_weigh cX3_weigh 8 none, Cond.constant RX3 37 (1000000), Cond.methodLink RX3 45 yX0_stepCost, Cond.instanceMethod yX0_stepCost, Cond.selects RX0 yX0_stepCost yX0_stepCost, Cond.initialized RX0, Cond.code yX0_stepCost cX0_stepCost 3 (some .int), Cond.fieldLink RX0 11 "PipersDesk$Fingers" "stepCosts" "[[I", Cond.methodLink RX3 51 yX3_costOf, Cond.instanceMethod yX3_costOf, Cond.selects RX3 yX3_costOf yX3_costOf, Cond.code yX3_costOf cX3_costOf 7 (some .int), Cond.fieldLink RX3 11 "PipersDesk$OrnamentBook" "entries" "[LPipersDesk$Ornament;", Cond.methodLink RX3 38 yX2_costBetween, Cond.instanceMethod yX2_costBetween, Cond.selects RX2 yX2_costBetween yX2_costBetween, Cond.initialized RX2]
def wsX7_least_r3 : List Cond := [Cond.code yX2_costBetween cX2_costBetween 9 (some .int), Cond.fieldLink RX2 9 "PipersDesk$Ornament" "graces" "[I", Cond.constant RX2 15 (1000000), Cond.methodLink RX2 26 Lib.Math.min.name, Cond.static Lib.Math.min.name, Cond.initialized "java/lang/Math", Cond.code Lib.Math.min.name Lib.Math.min.code 2 (some .int), Cond.methodLink RX2 16 yX2_soundOf, Cond.static yX2_soundOf, Cond.code yX2_soundOf cX2_soundOf 3 (some .int), Cond.methodLink RX2 20 yX0_stepCost, Cond.methodLink RX7 188 yX6_solveFor, Cond.instanceMethod yX6_solveFor, Cond.selects RX6 yX6_solveFor yX6_solveFor, Cond.initialized RX6, Cond.code yX6_solveFor cX6_solveFor 3 (some .int), Cond.fieldLink RX6 11 "PipersDesk$TuneChoices" "rows" "[LPipersDesk$Leasts;", Cond.methodLink RX6 29 yX5_gaps, Cond.instanceMethod yX5_gaps, Cond.selects RX5 yX5_gaps yX5_gaps, Cond.code yX5_gaps cX5_gaps 1 (some .int), Cond.methodLink RX6 35 yX1_startRow, Cond.instanceMethod yX1_startRow, Cond.selects RX1 yX1_startRow yX1_startRow]
def wsX7_least_r4 : List Cond := [Cond.initialized RX1, Cond.code yX1_startRow cX1_startRow 1 none, Cond.fieldLink RX1 9 "PipersDesk$Leasts" "costs" "[I", Cond.constant RX1 15 (1000000), Cond.methodLink RX1 16 yJ7_fill_53178, Cond.static yJ7_fill_53178, Cond.initialized RJ7, Cond.code yJ7_fill_53178 cJ7_fill_53178 4 none, Cond.methodLink RX6 38 yX5_costsAt, Cond.instanceMethod yX5_costsAt, Cond.selects RX5 yX5_costsAt yX5_costsAt, Cond.code yX5_costsAt cX5_costsAt 2 (some (.array .int)), Cond.methodLink RX6 42 yX1_growFrom, Cond.instanceMethod yX1_growFrom, Cond.selects RX1 yX1_growFrom yX1_growFrom, Cond.code yX1_growFrom cX1_growFrom 8 none, Cond.methodLink RX1 26 Lib.Math.min.name, Cond.methodLink RX1 22 yX1_firstLeastBeside, Cond.instanceMethod yX1_firstLeastBeside, Cond.selects RX1 yX1_firstLeastBeside yX1_firstLeastBeside, Cond.code yX1_firstLeastBeside cX1_firstLeastBeside 4 (some .int), Cond.methodLink RX6 46 yX1_leastOfAll, Cond.instanceMethod yX1_leastOfAll, Cond.selects RX1 yX1_leastOfAll yX1_leastOfAll]
def wsX7_least_r5 : List Cond := [Cond.code yX1_leastOfAll cX1_leastOfAll 1 (some .int)]
def wsX7_least : List Cond := .code yX7_least cX7_least 2 (some .int) :: ((wsX7_least_r1 ++ (wsX7_least_r2 ++ (wsX7_least_r3 ++ (wsX7_least_r4 ++ wsX7_least_r5)))) ++ wsX70 ++ wsX50 ++ wsX00 ++ wsX30 ++ wsX20 ++ wsX60 ++ wsX10 ++ (vx_atS RX7 60 "java/lang/IllegalArgumentException" ["java/lang/RuntimeException", "java/lang/Exception"]).filter goodWord ++ (vx_atS RX7 77 "java/lang/IllegalStateException" ["java/lang/RuntimeException", "java/lang/Exception"]).filter goodWord)
def wsX7_chosen_r1 : List Cond := [Cond.fieldLink RX7 33 "PipersDesk" "tuneChoices" "LPipersDesk$TuneChoices;", Cond.methodLink RX7 109 yX7_checkTune, Cond.static yX7_checkTune, Cond.initialized RX7, Cond.code yX7_checkTune cX7_checkTune 1 none, Cond.classLink RX7 56 "java/lang/IllegalArgumentException", Cond.initialized "java/lang/IllegalArgumentException", Cond.methodLink RX7 126 yX7_checkGap, Cond.instanceMethod yX7_checkGap, Cond.selects RX7 yX7_checkGap yX7_checkGap, Cond.code yX7_checkGap cX7_checkGap 3 none, Cond.classLink RX7 96 "java/lang/IndexOutOfBoundsException", Cond.initialized "java/lang/IndexOutOfBoundsException", Cond.fieldLink RX7 25 "PipersDesk" "tunes" "[LPipersDesk$Tune;", Cond.methodLink RX7 142 yX5_gaps, Cond.instanceMethod yX5_gaps, Cond.selects RX5 yX5_gaps yX5_gaps, Cond.initialized RX5, Cond.code yX5_gaps cX5_gaps 1 (some .int), Cond.fieldLink RX5 27 "PipersDesk$Tune" "size" "I", Cond.methodLink RX7 136 yX7_solve, Cond.instanceMethod yX7_solve, Cond.selects RX7 yX7_solve yX7_solve, Cond.code yX7_solve cX7_solve 3 (some .int)]
def wsX7_chosen_r2 : List Cond := [Cond.classLink RX7 73 "java/lang/IllegalStateException", Cond.initialized "java/lang/IllegalStateException", Cond.fieldLink RX7 12 "PipersDesk" "fingers" "LPipersDesk$Fingers;", Cond.fieldLink RX7 19 "PipersDesk" "book" "LPipersDesk$OrnamentBook;", Cond.constant RX7 108 (1000000), Cond.methodLink RX7 151 yX5_weighGaps, Cond.instanceMethod yX5_weighGaps, Cond.selects RX5 yX5_weighGaps yX5_weighGaps, Cond.code yX5_weighGaps cX5_weighGaps 5 none, Cond.fieldLink RX5 9 "PipersDesk$Tune" "pitches" "[I", Cond.fieldLink RX5 15 "PipersDesk$Tune" "lengths" "[I", Cond.fieldLink RX5 18 "PipersDesk$Tune" "wishes" "[Z", Cond.fieldLink RX5 24 "PipersDesk$Tune" "gapCosts" "[[I", Cond.methodLink RX5 31 yX3_weigh, Cond.instanceMethod yX3_weigh, Cond.selects RX3 yX3_weigh yX3_weigh, Cond.initialized RX3, Cond.code yX3_weigh cX3_weigh 8 none, Cond.constant RX3 37 (1000000), Cond.methodLink RX3 45 yX0_stepCost, Cond.instanceMethod yX0_stepCost, Cond.selects RX0 yX0_stepCost yX0_stepCost, Cond.initialized RX0, Cond.code yX0_stepCost cX0_stepCost 3 (some .int)]
def wsX7_chosen_r3 : List Cond := [Cond.fieldLink RX0 11 "PipersDesk$Fingers" "stepCosts" "[[I", Cond.methodLink RX3 51 yX3_costOf, Cond.instanceMethod yX3_costOf, Cond.selects RX3 yX3_costOf yX3_costOf, Cond.code yX3_costOf cX3_costOf 7 (some .int), Cond.fieldLink RX3 11 "PipersDesk$OrnamentBook" "entries" "[LPipersDesk$Ornament;", Cond.methodLink RX3 38 yX2_costBetween, Cond.instanceMethod yX2_costBetween, Cond.selects RX2 yX2_costBetween yX2_costBetween, Cond.initialized RX2, Cond.code yX2_costBetween cX2_costBetween 9 (some .int), Cond.fieldLink RX2 9 "PipersDesk$Ornament" "graces" "[I", Cond.constant RX2 15 (1000000), Cond.methodLink RX2 26 Lib.Math.min.name, Cond.static Lib.Math.min.name, Cond.initialized "java/lang/Math", Cond.code Lib.Math.min.name Lib.Math.min.code 2 (some .int), Cond.methodLink RX2 16 yX2_soundOf, Cond.static yX2_soundOf, Cond.code yX2_soundOf cX2_soundOf 3 (some .int), Cond.methodLink RX2 20 yX0_stepCost, Cond.methodLink RX7 188 yX6_solveFor, Cond.instanceMethod yX6_solveFor, Cond.selects RX6 yX6_solveFor yX6_solveFor]
def wsX7_chosen_r4 : List Cond := [Cond.initialized RX6, Cond.code yX6_solveFor cX6_solveFor 3 (some .int), Cond.fieldLink RX6 11 "PipersDesk$TuneChoices" "rows" "[LPipersDesk$Leasts;", Cond.methodLink RX6 29 yX5_gaps, Cond.methodLink RX6 35 yX1_startRow, Cond.instanceMethod yX1_startRow, Cond.selects RX1 yX1_startRow yX1_startRow, Cond.initialized RX1, Cond.code yX1_startRow cX1_startRow 1 none, Cond.fieldLink RX1 9 "PipersDesk$Leasts" "costs" "[I", Cond.constant RX1 15 (1000000), Cond.methodLink RX1 16 yJ7_fill_53178, Cond.static yJ7_fill_53178, Cond.initialized RJ7, Cond.code yJ7_fill_53178 cJ7_fill_53178 4 none, Cond.methodLink RX6 38 yX5_costsAt, Cond.instanceMethod yX5_costsAt, Cond.selects RX5 yX5_costsAt yX5_costsAt, Cond.code yX5_costsAt cX5_costsAt 2 (some (.array .int)), Cond.methodLink RX6 42 yX1_growFrom, Cond.instanceMethod yX1_growFrom, Cond.selects RX1 yX1_growFrom yX1_growFrom, Cond.code yX1_growFrom cX1_growFrom 8 none, Cond.methodLink RX1 26 Lib.Math.min.name]
def wsX7_chosen_r5 : List Cond := [Cond.methodLink RX1 22 yX1_firstLeastBeside, Cond.instanceMethod yX1_firstLeastBeside, Cond.selects RX1 yX1_firstLeastBeside yX1_firstLeastBeside, Cond.code yX1_firstLeastBeside cX1_firstLeastBeside 4 (some .int), Cond.methodLink RX6 46 yX1_leastOfAll, Cond.instanceMethod yX1_leastOfAll, Cond.selects RX1 yX1_leastOfAll yX1_leastOfAll, Cond.code yX1_leastOfAll cX1_leastOfAll 1 (some .int), Cond.methodLink RX7 145 yX6_firstAt, Cond.instanceMethod yX6_firstAt, Cond.selects RX6 yX6_firstAt yX6_firstAt, Cond.code yX6_firstAt cX6_firstAt 4 (some .int), Cond.methodLink RX6 49 yX1_firstLeastBeside]
def wsX7_chosen : List Cond := .code yX7_chosen cX7_chosen 3 (some .int) :: ((wsX7_chosen_r1 ++ (wsX7_chosen_r2 ++ (wsX7_chosen_r3 ++ (wsX7_chosen_r4 ++ wsX7_chosen_r5)))) ++ wsX70 ++ wsX50 ++ wsX00 ++ wsX30 ++ wsX20 ++ wsX60 ++ wsX10 ++ (vx_atS RX7 60 "java/lang/IllegalArgumentException" ["java/lang/RuntimeException", "java/lang/Exception"]).filter goodWord ++ (vx_atS RX7 100 "java/lang/IndexOutOfBoundsException" ["java/lang/RuntimeException", "java/lang/Exception"]).filter goodWord ++ (vx_atS RX7 77 "java/lang/IllegalStateException" ["java/lang/RuntimeException", "java/lang/Exception"]).filter goodWord)
def wsX7_mostOrnaments_r1 : List Cond := [Cond.fieldLink RX7 25 "PipersDesk" "tunes" "[LPipersDesk$Tune;", Cond.fieldLink RX7 33 "PipersDesk" "tuneChoices" "LPipersDesk$TuneChoices;", Cond.methodLink RX7 109 yX7_checkTune, Cond.static yX7_checkTune, Cond.initialized RX7, Cond.code yX7_checkTune cX7_checkTune 1 none, Cond.classLink RX7 56 "java/lang/IllegalArgumentException", Cond.initialized "java/lang/IllegalArgumentException", Cond.methodLink RX7 136 yX7_solve, Cond.instanceMethod yX7_solve, Cond.selects RX7 yX7_solve yX7_solve, Cond.code yX7_solve cX7_solve 3 (some .int), Cond.classLink RX7 73 "java/lang/IllegalStateException", Cond.initialized "java/lang/IllegalStateException", Cond.fieldLink RX7 12 "PipersDesk" "fingers" "LPipersDesk$Fingers;", Cond.fieldLink RX7 19 "PipersDesk" "book" "LPipersDesk$OrnamentBook;", Cond.constant RX7 108 (1000000), Cond.methodLink RX7 151 yX5_weighGaps, Cond.instanceMethod yX5_weighGaps, Cond.selects RX5 yX5_weighGaps yX5_weighGaps, Cond.initialized RX5, Cond.code yX5_weighGaps cX5_weighGaps 5 none, Cond.fieldLink RX5 27 "PipersDesk$Tune" "size" "I", Cond.fieldLink RX5 9 "PipersDesk$Tune" "pitches" "[I"]
def wsX7_mostOrnaments_r2 : List Cond := [Cond.fieldLink RX5 15 "PipersDesk$Tune" "lengths" "[I", Cond.fieldLink RX5 18 "PipersDesk$Tune" "wishes" "[Z", Cond.fieldLink RX5 24 "PipersDesk$Tune" "gapCosts" "[[I", Cond.methodLink RX5 31 yX3_weigh, Cond.instanceMethod yX3_weigh, Cond.selects RX3 yX3_weigh yX3_weigh, Cond.initialized RX3, Cond.code yX3_weigh cX3_weigh 8 none, Cond.constant RX3 37 (1000000), Cond.methodLink RX3 45 yX0_stepCost, Cond.instanceMethod yX0_stepCost, Cond.selects RX0 yX0_stepCost yX0_stepCost, Cond.initialized RX0, Cond.code yX0_stepCost cX0_stepCost 3 (some .int), Cond.fieldLink RX0 11 "PipersDesk$Fingers" "stepCosts" "[[I", Cond.methodLink RX3 51 yX3_costOf, Cond.instanceMethod yX3_costOf, Cond.selects RX3 yX3_costOf yX3_costOf, Cond.code yX3_costOf cX3_costOf 7 (some .int), Cond.fieldLink RX3 11 "PipersDesk$OrnamentBook" "entries" "[LPipersDesk$Ornament;", Cond.methodLink RX3 38 yX2_costBetween, Cond.instanceMethod yX2_costBetween, Cond.selects RX2 yX2_costBetween yX2_costBetween, Cond.initialized RX2]
def wsX7_mostOrnaments_r3 : List Cond := [Cond.code yX2_costBetween cX2_costBetween 9 (some .int), Cond.fieldLink RX2 9 "PipersDesk$Ornament" "graces" "[I", Cond.constant RX2 15 (1000000), Cond.methodLink RX2 26 Lib.Math.min.name, Cond.static Lib.Math.min.name, Cond.initialized "java/lang/Math", Cond.code Lib.Math.min.name Lib.Math.min.code 2 (some .int), Cond.methodLink RX2 16 yX2_soundOf, Cond.static yX2_soundOf, Cond.code yX2_soundOf cX2_soundOf 3 (some .int), Cond.methodLink RX2 20 yX0_stepCost, Cond.methodLink RX7 188 yX6_solveFor, Cond.instanceMethod yX6_solveFor, Cond.selects RX6 yX6_solveFor yX6_solveFor, Cond.initialized RX6, Cond.code yX6_solveFor cX6_solveFor 3 (some .int), Cond.fieldLink RX6 11 "PipersDesk$TuneChoices" "rows" "[LPipersDesk$Leasts;", Cond.methodLink RX6 29 yX5_gaps, Cond.instanceMethod yX5_gaps, Cond.selects RX5 yX5_gaps yX5_gaps, Cond.code yX5_gaps cX5_gaps 1 (some .int), Cond.methodLink RX6 35 yX1_startRow, Cond.instanceMethod yX1_startRow, Cond.selects RX1 yX1_startRow yX1_startRow]
def wsX7_mostOrnaments_r4 : List Cond := [Cond.initialized RX1, Cond.code yX1_startRow cX1_startRow 1 none, Cond.fieldLink RX1 9 "PipersDesk$Leasts" "costs" "[I", Cond.constant RX1 15 (1000000), Cond.methodLink RX1 16 yJ7_fill_53178, Cond.static yJ7_fill_53178, Cond.initialized RJ7, Cond.code yJ7_fill_53178 cJ7_fill_53178 4 none, Cond.methodLink RX6 38 yX5_costsAt, Cond.instanceMethod yX5_costsAt, Cond.selects RX5 yX5_costsAt yX5_costsAt, Cond.code yX5_costsAt cX5_costsAt 2 (some (.array .int)), Cond.methodLink RX6 42 yX1_growFrom, Cond.instanceMethod yX1_growFrom, Cond.selects RX1 yX1_growFrom yX1_growFrom, Cond.code yX1_growFrom cX1_growFrom 8 none, Cond.methodLink RX1 26 Lib.Math.min.name, Cond.methodLink RX1 22 yX1_firstLeastBeside, Cond.instanceMethod yX1_firstLeastBeside, Cond.selects RX1 yX1_firstLeastBeside yX1_firstLeastBeside, Cond.code yX1_firstLeastBeside cX1_firstLeastBeside 4 (some .int), Cond.methodLink RX6 46 yX1_leastOfAll, Cond.instanceMethod yX1_leastOfAll, Cond.selects RX1 yX1_leastOfAll yX1_leastOfAll]
def wsX7_mostOrnaments_r5 : List Cond := [Cond.code yX1_leastOfAll cX1_leastOfAll 1 (some .int), Cond.methodLink RX7 142 yX5_gaps, Cond.methodLink RX7 163 yX6_fewestEmptyGaps, Cond.instanceMethod yX6_fewestEmptyGaps, Cond.selects RX6 yX6_fewestEmptyGaps yX6_fewestEmptyGaps, Cond.code yX6_fewestEmptyGaps cX6_fewestEmptyGaps 6 (some .int), Cond.fieldLink RX6 18 "PipersDesk$TuneChoices" "empties" "LPipersDesk$Leasts;", Cond.fieldLink RX6 22 "PipersDesk$TuneChoices" "emptyCosts" "[I", Cond.constant RX6 53 (1000000)]
def wsX7_mostOrnaments : List Cond := .code yX7_mostOrnaments cX7_mostOrnaments 2 (some .int) :: ((wsX7_mostOrnaments_r1 ++ (wsX7_mostOrnaments_r2 ++ (wsX7_mostOrnaments_r3 ++ (wsX7_mostOrnaments_r4 ++ wsX7_mostOrnaments_r5)))) ++ wsX70 ++ wsX50 ++ wsX00 ++ wsX30 ++ wsX20 ++ wsX60 ++ wsX10 ++ (vx_atS RX7 60 "java/lang/IllegalArgumentException" ["java/lang/RuntimeException", "java/lang/Exception"]).filter goodWord ++ (vx_atS RX7 77 "java/lang/IllegalStateException" ["java/lang/RuntimeException", "java/lang/Exception"]).filter goodWord)
def wsX7_average_r1 : List Cond := [Cond.fieldLink RX7 25 "PipersDesk" "tunes" "[LPipersDesk$Tune;", Cond.methodLink RX7 109 yX7_checkTune, Cond.static yX7_checkTune, Cond.initialized RX7, Cond.code yX7_checkTune cX7_checkTune 1 none, Cond.classLink RX7 56 "java/lang/IllegalArgumentException", Cond.initialized "java/lang/IllegalArgumentException", Cond.methodLink RX7 136 yX7_solve, Cond.instanceMethod yX7_solve, Cond.selects RX7 yX7_solve yX7_solve, Cond.code yX7_solve cX7_solve 3 (some .int), Cond.classLink RX7 73 "java/lang/IllegalStateException", Cond.initialized "java/lang/IllegalStateException", Cond.fieldLink RX7 12 "PipersDesk" "fingers" "LPipersDesk$Fingers;", Cond.fieldLink RX7 19 "PipersDesk" "book" "LPipersDesk$OrnamentBook;", Cond.fieldLink RX7 33 "PipersDesk" "tuneChoices" "LPipersDesk$TuneChoices;", Cond.constant RX7 108 (1000000), Cond.methodLink RX7 151 yX5_weighGaps, Cond.instanceMethod yX5_weighGaps, Cond.selects RX5 yX5_weighGaps yX5_weighGaps, Cond.initialized RX5, Cond.code yX5_weighGaps cX5_weighGaps 5 none, Cond.fieldLink RX5 27 "PipersDesk$Tune" "size" "I", Cond.fieldLink RX5 9 "PipersDesk$Tune" "pitches" "[I"]
def wsX7_average_r2 : List Cond := [Cond.fieldLink RX5 15 "PipersDesk$Tune" "lengths" "[I", Cond.fieldLink RX5 18 "PipersDesk$Tune" "wishes" "[Z", Cond.fieldLink RX5 24 "PipersDesk$Tune" "gapCosts" "[[I", Cond.methodLink RX5 31 yX3_weigh, Cond.instanceMethod yX3_weigh, Cond.selects RX3 yX3_weigh yX3_weigh, Cond.initialized RX3, Cond.code yX3_weigh cX3_weigh 8 none, Cond.constant RX3 37 (1000000), Cond.methodLink RX3 45 yX0_stepCost, Cond.instanceMethod yX0_stepCost, Cond.selects RX0 yX0_stepCost yX0_stepCost, Cond.initialized RX0, Cond.code yX0_stepCost cX0_stepCost 3 (some .int), Cond.fieldLink RX0 11 "PipersDesk$Fingers" "stepCosts" "[[I", Cond.methodLink RX3 51 yX3_costOf, Cond.instanceMethod yX3_costOf, Cond.selects RX3 yX3_costOf yX3_costOf, Cond.code yX3_costOf cX3_costOf 7 (some .int), Cond.fieldLink RX3 11 "PipersDesk$OrnamentBook" "entries" "[LPipersDesk$Ornament;", Cond.methodLink RX3 38 yX2_costBetween, Cond.instanceMethod yX2_costBetween, Cond.selects RX2 yX2_costBetween yX2_costBetween, Cond.initialized RX2]
def wsX7_average_r3 : List Cond := [Cond.code yX2_costBetween cX2_costBetween 9 (some .int), Cond.fieldLink RX2 9 "PipersDesk$Ornament" "graces" "[I", Cond.constant RX2 15 (1000000), Cond.methodLink RX2 26 Lib.Math.min.name, Cond.static Lib.Math.min.name, Cond.initialized "java/lang/Math", Cond.code Lib.Math.min.name Lib.Math.min.code 2 (some .int), Cond.methodLink RX2 16 yX2_soundOf, Cond.static yX2_soundOf, Cond.code yX2_soundOf cX2_soundOf 3 (some .int), Cond.methodLink RX2 20 yX0_stepCost, Cond.methodLink RX7 188 yX6_solveFor, Cond.instanceMethod yX6_solveFor, Cond.selects RX6 yX6_solveFor yX6_solveFor, Cond.initialized RX6, Cond.code yX6_solveFor cX6_solveFor 3 (some .int), Cond.fieldLink RX6 11 "PipersDesk$TuneChoices" "rows" "[LPipersDesk$Leasts;", Cond.methodLink RX6 29 yX5_gaps, Cond.instanceMethod yX5_gaps, Cond.selects RX5 yX5_gaps yX5_gaps, Cond.code yX5_gaps cX5_gaps 1 (some .int), Cond.methodLink RX6 35 yX1_startRow, Cond.instanceMethod yX1_startRow, Cond.selects RX1 yX1_startRow yX1_startRow]
def wsX7_average_r4 : List Cond := [Cond.initialized RX1, Cond.code yX1_startRow cX1_startRow 1 none, Cond.fieldLink RX1 9 "PipersDesk$Leasts" "costs" "[I", Cond.constant RX1 15 (1000000), Cond.methodLink RX1 16 yJ7_fill_53178, Cond.static yJ7_fill_53178, Cond.initialized RJ7, Cond.code yJ7_fill_53178 cJ7_fill_53178 4 none, Cond.methodLink RX6 38 yX5_costsAt, Cond.instanceMethod yX5_costsAt, Cond.selects RX5 yX5_costsAt yX5_costsAt, Cond.code yX5_costsAt cX5_costsAt 2 (some (.array .int)), Cond.methodLink RX6 42 yX1_growFrom, Cond.instanceMethod yX1_growFrom, Cond.selects RX1 yX1_growFrom yX1_growFrom, Cond.code yX1_growFrom cX1_growFrom 8 none, Cond.methodLink RX1 26 Lib.Math.min.name, Cond.methodLink RX1 22 yX1_firstLeastBeside, Cond.instanceMethod yX1_firstLeastBeside, Cond.selects RX1 yX1_firstLeastBeside yX1_firstLeastBeside, Cond.code yX1_firstLeastBeside cX1_firstLeastBeside 4 (some .int), Cond.methodLink RX6 46 yX1_leastOfAll, Cond.instanceMethod yX1_leastOfAll, Cond.selects RX1 yX1_leastOfAll yX1_leastOfAll]
def wsX7_average_r5 : List Cond := [Cond.code yX1_leastOfAll cX1_leastOfAll 1 (some .int), Cond.methodLink RX7 142 yX5_gaps]
def wsX7_average : List Cond := .code yX7_average cX7_average 4 (some .float) :: ((wsX7_average_r1 ++ (wsX7_average_r2 ++ (wsX7_average_r3 ++ (wsX7_average_r4 ++ wsX7_average_r5)))) ++ wsX70 ++ wsX50 ++ wsX00 ++ wsX30 ++ wsX20 ++ wsX60 ++ wsX10 ++ (vx_atS RX7 60 "java/lang/IllegalArgumentException" ["java/lang/RuntimeException", "java/lang/Exception"]).filter goodWord ++ (vx_atS RX7 77 "java/lang/IllegalStateException" ["java/lang/RuntimeException", "java/lang/Exception"]).filter goodWord)
def wsX7_trySets_r1 : List Cond := [Cond.fieldLink RX7 25 "PipersDesk" "tunes" "[LPipersDesk$Tune;", Cond.fieldLink RX7 12 "PipersDesk" "fingers" "LPipersDesk$Fingers;", Cond.fieldLink RX7 19 "PipersDesk" "book" "LPipersDesk$OrnamentBook;", Cond.fieldLink RX7 40 "PipersDesk" "setSearch" "LPipersDesk$SetSearch;", Cond.methodLink RX7 151 yX5_weighGaps, Cond.instanceMethod yX5_weighGaps, Cond.selects RX5 yX5_weighGaps yX5_weighGaps, Cond.initialized RX5, Cond.code yX5_weighGaps cX5_weighGaps 5 none, Cond.fieldLink RX5 27 "PipersDesk$Tune" "size" "I", Cond.fieldLink RX5 9 "PipersDesk$Tune" "pitches" "[I", Cond.fieldLink RX5 15 "PipersDesk$Tune" "lengths" "[I", Cond.fieldLink RX5 18 "PipersDesk$Tune" "wishes" "[Z", Cond.fieldLink RX5 24 "PipersDesk$Tune" "gapCosts" "[[I", Cond.methodLink RX5 31 yX3_weigh, Cond.instanceMethod yX3_weigh, Cond.selects RX3 yX3_weigh yX3_weigh, Cond.initialized RX3, Cond.code yX3_weigh cX3_weigh 8 none, Cond.constant RX3 37 (1000000), Cond.methodLink RX3 45 yX0_stepCost, Cond.instanceMethod yX0_stepCost, Cond.selects RX0 yX0_stepCost yX0_stepCost, Cond.initialized RX0]
def wsX7_trySets_r2 : List Cond := [Cond.code yX0_stepCost cX0_stepCost 3 (some .int), Cond.fieldLink RX0 11 "PipersDesk$Fingers" "stepCosts" "[[I", Cond.methodLink RX3 51 yX3_costOf, Cond.instanceMethod yX3_costOf, Cond.selects RX3 yX3_costOf yX3_costOf, Cond.code yX3_costOf cX3_costOf 7 (some .int), Cond.fieldLink RX3 11 "PipersDesk$OrnamentBook" "entries" "[LPipersDesk$Ornament;", Cond.methodLink RX3 38 yX2_costBetween, Cond.instanceMethod yX2_costBetween, Cond.selects RX2 yX2_costBetween yX2_costBetween, Cond.initialized RX2, Cond.code yX2_costBetween cX2_costBetween 9 (some .int), Cond.fieldLink RX2 9 "PipersDesk$Ornament" "graces" "[I", Cond.constant RX2 15 (1000000), Cond.methodLink RX2 26 Lib.Math.min.name, Cond.static Lib.Math.min.name, Cond.initialized "java/lang/Math", Cond.code Lib.Math.min.name Lib.Math.min.code 2 (some .int), Cond.methodLink RX2 16 yX2_soundOf, Cond.static yX2_soundOf, Cond.code yX2_soundOf cX2_soundOf 3 (some .int), Cond.methodLink RX2 20 yX0_stepCost, Cond.methodLink RX7 193 yX4_weighJoins, Cond.instanceMethod yX4_weighJoins]
def wsX7_trySets_r3 : List Cond := [Cond.selects RX4 yX4_weighJoins yX4_weighJoins, Cond.initialized RX4, Cond.code yX4_weighJoins cX4_weighJoins 11 none, Cond.fieldLink RX4 11 "PipersDesk$SetSearch" "joinCosts" "[[I", Cond.methodLink RX4 37 yX5_size, Cond.instanceMethod yX5_size, Cond.selects RX5 yX5_size yX5_size, Cond.code yX5_size cX5_size 1 (some .int), Cond.methodLink RX4 42 yX5_pitchOf, Cond.instanceMethod yX5_pitchOf, Cond.selects RX5 yX5_pitchOf yX5_pitchOf, Cond.code yX5_pitchOf cX5_pitchOf 2 (some .int), Cond.methodLink RX4 46 yX5_lengthOf, Cond.instanceMethod yX5_lengthOf, Cond.selects RX5 yX5_lengthOf yX5_lengthOf, Cond.code yX5_lengthOf cX5_lengthOf 2 (some .int), Cond.methodLink RX4 49 yX3_weigh, Cond.methodLink RX7 197 yX4_tryAllOrders, Cond.instanceMethod yX4_tryAllOrders, Cond.selects RX4 yX4_tryAllOrders yX4_tryAllOrders, Cond.code yX4_tryAllOrders cX4_tryAllOrders 6 (some .int), Cond.constant RX4 59 (1000000), Cond.fieldLink RX4 34 "PipersDesk$SetSearch" "leastCost" "I", Cond.methodLink RX4 55 yX4_startOrder]
def wsX7_trySets_r4 : List Cond := [Cond.instanceMethod yX4_startOrder, Cond.selects RX4 yX4_startOrder yX4_startOrder, Cond.code yX4_startOrder cX4_startOrder 3 none, Cond.fieldLink RX4 30 "PipersDesk$SetSearch" "size" "I", Cond.fieldLink RX4 23 "PipersDesk$SetSearch" "order" "[I", Cond.methodLink RX4 60 yX4_costOfOrder, Cond.instanceMethod yX4_costOfOrder, Cond.selects RX4 yX4_costOfOrder yX4_costOfOrder, Cond.code yX4_costOfOrder cX4_costOfOrder 5 (some .int), Cond.fieldLink RX4 19 "PipersDesk$SetSearch" "row" "LPipersDesk$Leasts;", Cond.methodLink RX4 78 yX1_startRow, Cond.instanceMethod yX1_startRow, Cond.selects RX1 yX1_startRow yX1_startRow, Cond.initialized RX1, Cond.code yX1_startRow cX1_startRow 1 none, Cond.fieldLink RX1 9 "PipersDesk$Leasts" "costs" "[I", Cond.constant RX1 15 (1000000), Cond.methodLink RX1 16 yJ7_fill_53178, Cond.static yJ7_fill_53178, Cond.initialized RJ7, Cond.code yJ7_fill_53178 cJ7_fill_53178 4 none, Cond.methodLink RX4 81 yX1_growFrom, Cond.instanceMethod yX1_growFrom, Cond.selects RX1 yX1_growFrom yX1_growFrom]
def wsX7_trySets_r5 : List Cond := [Cond.code yX1_growFrom cX1_growFrom 8 none, Cond.methodLink RX1 26 Lib.Math.min.name, Cond.methodLink RX1 22 yX1_firstLeastBeside, Cond.instanceMethod yX1_firstLeastBeside, Cond.selects RX1 yX1_firstLeastBeside yX1_firstLeastBeside, Cond.code yX1_firstLeastBeside cX1_firstLeastBeside 4 (some .int), Cond.methodLink RX4 85 yX5_gaps, Cond.instanceMethod yX5_gaps, Cond.selects RX5 yX5_gaps yX5_gaps, Cond.code yX5_gaps cX5_gaps 1 (some .int), Cond.methodLink RX4 88 yX5_costsAt, Cond.instanceMethod yX5_costsAt, Cond.selects RX5 yX5_costsAt yX5_costsAt, Cond.code yX5_costsAt cX5_costsAt 2 (some (.array .int)), Cond.methodLink RX4 92 yX1_leastOfAll, Cond.instanceMethod yX1_leastOfAll, Cond.selects RX1 yX1_leastOfAll yX1_leastOfAll, Cond.code yX1_leastOfAll cX1_leastOfAll 1 (some .int), Cond.methodLink RX4 64 yX4_keepIfLess, Cond.instanceMethod yX4_keepIfLess, Cond.selects RX4 yX4_keepIfLess yX4_keepIfLess, Cond.code yX4_keepIfLess cX4_keepIfLess 2 none, Cond.fieldLink RX4 27 "PipersDesk$SetSearch" "best" "[I", Cond.methodLink RX4 72 arraycopyName]
def wsX7_trySets_r6 : List Cond := [Cond.native arraycopyName, Cond.static arraycopyName, Cond.initialized "java/lang/System", Cond.methodLink RX4 68 yX4_goToNextOrder, Cond.instanceMethod yX4_goToNextOrder, Cond.selects RX4 yX4_goToNextOrder yX4_goToNextOrder, Cond.code yX4_goToNextOrder cX4_goToNextOrder 5 (some .boolean), Cond.methodLink RX4 95 yX4_exchange, Cond.instanceMethod yX4_exchange, Cond.selects RX4 yX4_exchange yX4_exchange, Cond.code yX4_exchange cX4_exchange 4 none]
def wsX7_trySets : List Cond := .code yX7_trySets cX7_trySets 2 (some .int) :: ((wsX7_trySets_r1 ++ (wsX7_trySets_r2 ++ (wsX7_trySets_r3 ++ (wsX7_trySets_r4 ++ (wsX7_trySets_r5 ++ wsX7_trySets_r6))))) ++ wsX70 ++ wsX50 ++ wsX00 ++ wsX30 ++ wsX20 ++ wsX40 ++ wsX10)
def wsX7_leastSet_r1 : List Cond := [Cond.classLink RX7 73 "java/lang/IllegalStateException", Cond.initialized "java/lang/IllegalStateException", Cond.fieldLink RX7 40 "PipersDesk" "setSearch" "LPipersDesk$SetSearch;", Cond.methodLink RX7 166 yX7_trySets, Cond.instanceMethod yX7_trySets, Cond.selects RX7 yX7_trySets yX7_trySets, Cond.initialized RX7, Cond.code yX7_trySets cX7_trySets 2 (some .int), Cond.fieldLink RX7 25 "PipersDesk" "tunes" "[LPipersDesk$Tune;", Cond.fieldLink RX7 12 "PipersDesk" "fingers" "LPipersDesk$Fingers;", Cond.fieldLink RX7 19 "PipersDesk" "book" "LPipersDesk$OrnamentBook;", Cond.methodLink RX7 151 yX5_weighGaps, Cond.instanceMethod yX5_weighGaps, Cond.selects RX5 yX5_weighGaps yX5_weighGaps, Cond.initialized RX5, Cond.code yX5_weighGaps cX5_weighGaps 5 none, Cond.fieldLink RX5 27 "PipersDesk$Tune" "size" "I", Cond.fieldLink RX5 9 "PipersDesk$Tune" "pitches" "[I", Cond.fieldLink RX5 15 "PipersDesk$Tune" "lengths" "[I", Cond.fieldLink RX5 18 "PipersDesk$Tune" "wishes" "[Z", Cond.fieldLink RX5 24 "PipersDesk$Tune" "gapCosts" "[[I", Cond.methodLink RX5 31 yX3_weigh, Cond.instanceMethod yX3_weigh, Cond.selects RX3 yX3_weigh yX3_weigh]
def wsX7_leastSet_r2 : List Cond := [Cond.initialized RX3, Cond.code yX3_weigh cX3_weigh 8 none, Cond.constant RX3 37 (1000000), Cond.methodLink RX3 45 yX0_stepCost, Cond.instanceMethod yX0_stepCost, Cond.selects RX0 yX0_stepCost yX0_stepCost, Cond.initialized RX0, Cond.code yX0_stepCost cX0_stepCost 3 (some .int), Cond.fieldLink RX0 11 "PipersDesk$Fingers" "stepCosts" "[[I", Cond.methodLink RX3 51 yX3_costOf, Cond.instanceMethod yX3_costOf, Cond.selects RX3 yX3_costOf yX3_costOf, Cond.code yX3_costOf cX3_costOf 7 (some .int), Cond.fieldLink RX3 11 "PipersDesk$OrnamentBook" "entries" "[LPipersDesk$Ornament;", Cond.methodLink RX3 38 yX2_costBetween, Cond.instanceMethod yX2_costBetween, Cond.selects RX2 yX2_costBetween yX2_costBetween, Cond.initialized RX2, Cond.code yX2_costBetween cX2_costBetween 9 (some .int), Cond.fieldLink RX2 9 "PipersDesk$Ornament" "graces" "[I", Cond.constant RX2 15 (1000000), Cond.methodLink RX2 26 Lib.Math.min.name, Cond.static Lib.Math.min.name, Cond.initialized "java/lang/Math"]
def wsX7_leastSet_r3 : List Cond := [Cond.code Lib.Math.min.name Lib.Math.min.code 2 (some .int), Cond.methodLink RX2 16 yX2_soundOf, Cond.static yX2_soundOf, Cond.code yX2_soundOf cX2_soundOf 3 (some .int), Cond.methodLink RX2 20 yX0_stepCost, Cond.methodLink RX7 193 yX4_weighJoins, Cond.instanceMethod yX4_weighJoins, Cond.selects RX4 yX4_weighJoins yX4_weighJoins, Cond.initialized RX4, Cond.code yX4_weighJoins cX4_weighJoins 11 none, Cond.fieldLink RX4 11 "PipersDesk$SetSearch" "joinCosts" "[[I", Cond.methodLink RX4 37 yX5_size, Cond.instanceMethod yX5_size, Cond.selects RX5 yX5_size yX5_size, Cond.code yX5_size cX5_size 1 (some .int), Cond.methodLink RX4 42 yX5_pitchOf, Cond.instanceMethod yX5_pitchOf, Cond.selects RX5 yX5_pitchOf yX5_pitchOf, Cond.code yX5_pitchOf cX5_pitchOf 2 (some .int), Cond.methodLink RX4 46 yX5_lengthOf, Cond.instanceMethod yX5_lengthOf, Cond.selects RX5 yX5_lengthOf yX5_lengthOf, Cond.code yX5_lengthOf cX5_lengthOf 2 (some .int), Cond.methodLink RX4 49 yX3_weigh]
def wsX7_leastSet_r4 : List Cond := [Cond.methodLink RX7 197 yX4_tryAllOrders, Cond.instanceMethod yX4_tryAllOrders, Cond.selects RX4 yX4_tryAllOrders yX4_tryAllOrders, Cond.code yX4_tryAllOrders cX4_tryAllOrders 6 (some .int), Cond.constant RX4 59 (1000000), Cond.fieldLink RX4 34 "PipersDesk$SetSearch" "leastCost" "I", Cond.methodLink RX4 55 yX4_startOrder, Cond.instanceMethod yX4_startOrder, Cond.selects RX4 yX4_startOrder yX4_startOrder, Cond.code yX4_startOrder cX4_startOrder 3 none, Cond.fieldLink RX4 30 "PipersDesk$SetSearch" "size" "I", Cond.fieldLink RX4 23 "PipersDesk$SetSearch" "order" "[I", Cond.methodLink RX4 60 yX4_costOfOrder, Cond.instanceMethod yX4_costOfOrder, Cond.selects RX4 yX4_costOfOrder yX4_costOfOrder, Cond.code yX4_costOfOrder cX4_costOfOrder 5 (some .int), Cond.fieldLink RX4 19 "PipersDesk$SetSearch" "row" "LPipersDesk$Leasts;", Cond.methodLink RX4 78 yX1_startRow, Cond.instanceMethod yX1_startRow, Cond.selects RX1 yX1_startRow yX1_startRow, Cond.initialized RX1, Cond.code yX1_startRow cX1_startRow 1 none, Cond.fieldLink RX1 9 "PipersDesk$Leasts" "costs" "[I", Cond.constant RX1 15 (1000000)]
def wsX7_leastSet_r5 : List Cond := [Cond.methodLink RX1 16 yJ7_fill_53178, Cond.static yJ7_fill_53178, Cond.initialized RJ7, Cond.code yJ7_fill_53178 cJ7_fill_53178 4 none, Cond.methodLink RX4 81 yX1_growFrom, Cond.instanceMethod yX1_growFrom, Cond.selects RX1 yX1_growFrom yX1_growFrom, Cond.code yX1_growFrom cX1_growFrom 8 none, Cond.methodLink RX1 26 Lib.Math.min.name, Cond.methodLink RX1 22 yX1_firstLeastBeside, Cond.instanceMethod yX1_firstLeastBeside, Cond.selects RX1 yX1_firstLeastBeside yX1_firstLeastBeside, Cond.code yX1_firstLeastBeside cX1_firstLeastBeside 4 (some .int), Cond.methodLink RX4 85 yX5_gaps, Cond.instanceMethod yX5_gaps, Cond.selects RX5 yX5_gaps yX5_gaps, Cond.code yX5_gaps cX5_gaps 1 (some .int), Cond.methodLink RX4 88 yX5_costsAt, Cond.instanceMethod yX5_costsAt, Cond.selects RX5 yX5_costsAt yX5_costsAt, Cond.code yX5_costsAt cX5_costsAt 2 (some (.array .int)), Cond.methodLink RX4 92 yX1_leastOfAll, Cond.instanceMethod yX1_leastOfAll, Cond.selects RX1 yX1_leastOfAll yX1_leastOfAll]
def wsX7_leastSet_r6 : List Cond := [Cond.code yX1_leastOfAll cX1_leastOfAll 1 (some .int), Cond.methodLink RX4 64 yX4_keepIfLess, Cond.instanceMethod yX4_keepIfLess, Cond.selects RX4 yX4_keepIfLess yX4_keepIfLess, Cond.code yX4_keepIfLess cX4_keepIfLess 2 none, Cond.fieldLink RX4 27 "PipersDesk$SetSearch" "best" "[I", Cond.methodLink RX4 72 arraycopyName, Cond.native arraycopyName, Cond.static arraycopyName, Cond.initialized "java/lang/System", Cond.methodLink RX4 68 yX4_goToNextOrder, Cond.instanceMethod yX4_goToNextOrder, Cond.selects RX4 yX4_goToNextOrder yX4_goToNextOrder, Cond.code yX4_goToNextOrder cX4_goToNextOrder 5 (some .boolean), Cond.methodLink RX4 95 yX4_exchange, Cond.instanceMethod yX4_exchange, Cond.selects RX4 yX4_exchange yX4_exchange, Cond.code yX4_exchange cX4_exchange 4 none, Cond.methodLink RX7 171 yX4_leastCost, Cond.instanceMethod yX4_leastCost, Cond.selects RX4 yX4_leastCost yX4_leastCost, Cond.code yX4_leastCost cX4_leastCost 1 (some .int)]
def wsX7_leastSet : List Cond := .code yX7_leastSet cX7_leastSet 1 (some .int) :: ((wsX7_leastSet_r1 ++ (wsX7_leastSet_r2 ++ (wsX7_leastSet_r3 ++ (wsX7_leastSet_r4 ++ (wsX7_leastSet_r5 ++ wsX7_leastSet_r6))))) ++ wsX70 ++ wsX50 ++ wsX00 ++ wsX30 ++ wsX20 ++ wsX40 ++ wsX10 ++ (vx_atS RX7 77 "java/lang/IllegalStateException" ["java/lang/RuntimeException", "java/lang/Exception"]).filter goodWord)
def wsX7_tuneAt_r1 : List Cond := [Cond.classLink RX7 73 "java/lang/IllegalStateException", Cond.initialized "java/lang/IllegalStateException", Cond.classLink RX7 96 "java/lang/IndexOutOfBoundsException", Cond.initialized "java/lang/IndexOutOfBoundsException", Cond.fieldLink RX7 40 "PipersDesk" "setSearch" "LPipersDesk$SetSearch;", Cond.methodLink RX7 166 yX7_trySets, Cond.instanceMethod yX7_trySets, Cond.selects RX7 yX7_trySets yX7_trySets, Cond.initialized RX7, Cond.code yX7_trySets cX7_trySets 2 (some .int), Cond.fieldLink RX7 25 "PipersDesk" "tunes" "[LPipersDesk$Tune;", Cond.fieldLink RX7 12 "PipersDesk" "fingers" "LPipersDesk$Fingers;", Cond.fieldLink RX7 19 "PipersDesk" "book" "LPipersDesk$OrnamentBook;", Cond.methodLink RX7 151 yX5_weighGaps, Cond.instanceMethod yX5_weighGaps, Cond.selects RX5 yX5_weighGaps yX5_weighGaps, Cond.initialized RX5, Cond.code yX5_weighGaps cX5_weighGaps 5 none, Cond.fieldLink RX5 27 "PipersDesk$Tune" "size" "I", Cond.fieldLink RX5 9 "PipersDesk$Tune" "pitches" "[I", Cond.fieldLink RX5 15 "PipersDesk$Tune" "lengths" "[I", Cond.fieldLink RX5 18 "PipersDesk$Tune" "wishes" "[Z", Cond.fieldLink RX5 24 "PipersDesk$Tune" "gapCosts" "[[I", Cond.methodLink RX5 31 yX3_weigh]
def wsX7_tuneAt_r2 : List Cond := [Cond.instanceMethod yX3_weigh, Cond.selects RX3 yX3_weigh yX3_weigh, Cond.initialized RX3, Cond.code yX3_weigh cX3_weigh 8 none, Cond.constant RX3 37 (1000000), Cond.methodLink RX3 45 yX0_stepCost, Cond.instanceMethod yX0_stepCost, Cond.selects RX0 yX0_stepCost yX0_stepCost, Cond.initialized RX0, Cond.code yX0_stepCost cX0_stepCost 3 (some .int), Cond.fieldLink RX0 11 "PipersDesk$Fingers" "stepCosts" "[[I", Cond.methodLink RX3 51 yX3_costOf, Cond.instanceMethod yX3_costOf, Cond.selects RX3 yX3_costOf yX3_costOf, Cond.code yX3_costOf cX3_costOf 7 (some .int), Cond.fieldLink RX3 11 "PipersDesk$OrnamentBook" "entries" "[LPipersDesk$Ornament;", Cond.methodLink RX3 38 yX2_costBetween, Cond.instanceMethod yX2_costBetween, Cond.selects RX2 yX2_costBetween yX2_costBetween, Cond.initialized RX2, Cond.code yX2_costBetween cX2_costBetween 9 (some .int), Cond.fieldLink RX2 9 "PipersDesk$Ornament" "graces" "[I", Cond.constant RX2 15 (1000000), Cond.methodLink RX2 26 Lib.Math.min.name]
def wsX7_tuneAt_r3 : List Cond := [Cond.static Lib.Math.min.name, Cond.initialized "java/lang/Math", Cond.code Lib.Math.min.name Lib.Math.min.code 2 (some .int), Cond.methodLink RX2 16 yX2_soundOf, Cond.static yX2_soundOf, Cond.code yX2_soundOf cX2_soundOf 3 (some .int), Cond.methodLink RX2 20 yX0_stepCost, Cond.methodLink RX7 193 yX4_weighJoins, Cond.instanceMethod yX4_weighJoins, Cond.selects RX4 yX4_weighJoins yX4_weighJoins, Cond.initialized RX4, Cond.code yX4_weighJoins cX4_weighJoins 11 none, Cond.fieldLink RX4 11 "PipersDesk$SetSearch" "joinCosts" "[[I", Cond.methodLink RX4 37 yX5_size, Cond.instanceMethod yX5_size, Cond.selects RX5 yX5_size yX5_size, Cond.code yX5_size cX5_size 1 (some .int), Cond.methodLink RX4 42 yX5_pitchOf, Cond.instanceMethod yX5_pitchOf, Cond.selects RX5 yX5_pitchOf yX5_pitchOf, Cond.code yX5_pitchOf cX5_pitchOf 2 (some .int), Cond.methodLink RX4 46 yX5_lengthOf, Cond.instanceMethod yX5_lengthOf, Cond.selects RX5 yX5_lengthOf yX5_lengthOf]
def wsX7_tuneAt_r4 : List Cond := [Cond.code yX5_lengthOf cX5_lengthOf 2 (some .int), Cond.methodLink RX4 49 yX3_weigh, Cond.methodLink RX7 197 yX4_tryAllOrders, Cond.instanceMethod yX4_tryAllOrders, Cond.selects RX4 yX4_tryAllOrders yX4_tryAllOrders, Cond.code yX4_tryAllOrders cX4_tryAllOrders 6 (some .int), Cond.constant RX4 59 (1000000), Cond.fieldLink RX4 34 "PipersDesk$SetSearch" "leastCost" "I", Cond.methodLink RX4 55 yX4_startOrder, Cond.instanceMethod yX4_startOrder, Cond.selects RX4 yX4_startOrder yX4_startOrder, Cond.code yX4_startOrder cX4_startOrder 3 none, Cond.fieldLink RX4 30 "PipersDesk$SetSearch" "size" "I", Cond.fieldLink RX4 23 "PipersDesk$SetSearch" "order" "[I", Cond.methodLink RX4 60 yX4_costOfOrder, Cond.instanceMethod yX4_costOfOrder, Cond.selects RX4 yX4_costOfOrder yX4_costOfOrder, Cond.code yX4_costOfOrder cX4_costOfOrder 5 (some .int), Cond.fieldLink RX4 19 "PipersDesk$SetSearch" "row" "LPipersDesk$Leasts;", Cond.methodLink RX4 78 yX1_startRow, Cond.instanceMethod yX1_startRow, Cond.selects RX1 yX1_startRow yX1_startRow, Cond.initialized RX1, Cond.code yX1_startRow cX1_startRow 1 none]
def wsX7_tuneAt_r5 : List Cond := [Cond.fieldLink RX1 9 "PipersDesk$Leasts" "costs" "[I", Cond.constant RX1 15 (1000000), Cond.methodLink RX1 16 yJ7_fill_53178, Cond.static yJ7_fill_53178, Cond.initialized RJ7, Cond.code yJ7_fill_53178 cJ7_fill_53178 4 none, Cond.methodLink RX4 81 yX1_growFrom, Cond.instanceMethod yX1_growFrom, Cond.selects RX1 yX1_growFrom yX1_growFrom, Cond.code yX1_growFrom cX1_growFrom 8 none, Cond.methodLink RX1 26 Lib.Math.min.name, Cond.methodLink RX1 22 yX1_firstLeastBeside, Cond.instanceMethod yX1_firstLeastBeside, Cond.selects RX1 yX1_firstLeastBeside yX1_firstLeastBeside, Cond.code yX1_firstLeastBeside cX1_firstLeastBeside 4 (some .int), Cond.methodLink RX4 85 yX5_gaps, Cond.instanceMethod yX5_gaps, Cond.selects RX5 yX5_gaps yX5_gaps, Cond.code yX5_gaps cX5_gaps 1 (some .int), Cond.methodLink RX4 88 yX5_costsAt, Cond.instanceMethod yX5_costsAt, Cond.selects RX5 yX5_costsAt yX5_costsAt, Cond.code yX5_costsAt cX5_costsAt 2 (some (.array .int)), Cond.methodLink RX4 92 yX1_leastOfAll]
def wsX7_tuneAt_r6 : List Cond := [Cond.instanceMethod yX1_leastOfAll, Cond.selects RX1 yX1_leastOfAll yX1_leastOfAll, Cond.code yX1_leastOfAll cX1_leastOfAll 1 (some .int), Cond.methodLink RX4 64 yX4_keepIfLess, Cond.instanceMethod yX4_keepIfLess, Cond.selects RX4 yX4_keepIfLess yX4_keepIfLess, Cond.code yX4_keepIfLess cX4_keepIfLess 2 none, Cond.fieldLink RX4 27 "PipersDesk$SetSearch" "best" "[I", Cond.methodLink RX4 72 arraycopyName, Cond.native arraycopyName, Cond.static arraycopyName, Cond.initialized "java/lang/System", Cond.methodLink RX4 68 yX4_goToNextOrder, Cond.instanceMethod yX4_goToNextOrder, Cond.selects RX4 yX4_goToNextOrder yX4_goToNextOrder, Cond.code yX4_goToNextOrder cX4_goToNextOrder 5 (some .boolean), Cond.methodLink RX4 95 yX4_exchange, Cond.instanceMethod yX4_exchange, Cond.selects RX4 yX4_exchange yX4_exchange, Cond.code yX4_exchange cX4_exchange 4 none, Cond.methodLink RX7 174 yX4_size, Cond.instanceMethod yX4_size, Cond.selects RX4 yX4_size yX4_size, Cond.code yX4_size cX4_size 1 (some .int)]
def wsX7_tuneAt_r7 : List Cond := [Cond.methodLink RX7 177 yX4_bestAt, Cond.instanceMethod yX4_bestAt, Cond.selects RX4 yX4_bestAt yX4_bestAt, Cond.code yX4_bestAt cX4_bestAt 2 (some .int)]
def wsX7_tuneAt : List Cond := .code yX7_tuneAt cX7_tuneAt 2 (some .int) :: ((wsX7_tuneAt_r1 ++ (wsX7_tuneAt_r2 ++ (wsX7_tuneAt_r3 ++ (wsX7_tuneAt_r4 ++ (wsX7_tuneAt_r5 ++ (wsX7_tuneAt_r6 ++ wsX7_tuneAt_r7)))))) ++ wsX70 ++ wsX50 ++ wsX00 ++ wsX30 ++ wsX20 ++ wsX40 ++ wsX10 ++ (vx_atS RX7 77 "java/lang/IllegalStateException" ["java/lang/RuntimeException", "java/lang/Exception"]).filter goodWord ++ (vx_atS RX7 100 "java/lang/IndexOutOfBoundsException" ["java/lang/RuntimeException", "java/lang/Exception"]).filter goodWord)
def wsX7_sets_r1 : List Cond := [Cond.methodLink RX7 166 yX7_trySets, Cond.instanceMethod yX7_trySets, Cond.selects RX7 yX7_trySets yX7_trySets, Cond.initialized RX7, Cond.code yX7_trySets cX7_trySets 2 (some .int), Cond.fieldLink RX7 25 "PipersDesk" "tunes" "[LPipersDesk$Tune;", Cond.fieldLink RX7 12 "PipersDesk" "fingers" "LPipersDesk$Fingers;", Cond.fieldLink RX7 19 "PipersDesk" "book" "LPipersDesk$OrnamentBook;", Cond.fieldLink RX7 40 "PipersDesk" "setSearch" "LPipersDesk$SetSearch;", Cond.methodLink RX7 151 yX5_weighGaps, Cond.instanceMethod yX5_weighGaps, Cond.selects RX5 yX5_weighGaps yX5_weighGaps, Cond.initialized RX5, Cond.code yX5_weighGaps cX5_weighGaps 5 none, Cond.fieldLink RX5 27 "PipersDesk$Tune" "size" "I", Cond.fieldLink RX5 9 "PipersDesk$Tune" "pitches" "[I", Cond.fieldLink RX5 15 "PipersDesk$Tune" "lengths" "[I", Cond.fieldLink RX5 18 "PipersDesk$Tune" "wishes" "[Z", Cond.fieldLink RX5 24 "PipersDesk$Tune" "gapCosts" "[[I", Cond.methodLink RX5 31 yX3_weigh, Cond.instanceMethod yX3_weigh, Cond.selects RX3 yX3_weigh yX3_weigh, Cond.initialized RX3, Cond.code yX3_weigh cX3_weigh 8 none]
def wsX7_sets_r2 : List Cond := [Cond.constant RX3 37 (1000000), Cond.methodLink RX3 45 yX0_stepCost, Cond.instanceMethod yX0_stepCost, Cond.selects RX0 yX0_stepCost yX0_stepCost, Cond.initialized RX0, Cond.code yX0_stepCost cX0_stepCost 3 (some .int), Cond.fieldLink RX0 11 "PipersDesk$Fingers" "stepCosts" "[[I", Cond.methodLink RX3 51 yX3_costOf, Cond.instanceMethod yX3_costOf, Cond.selects RX3 yX3_costOf yX3_costOf, Cond.code yX3_costOf cX3_costOf 7 (some .int), Cond.fieldLink RX3 11 "PipersDesk$OrnamentBook" "entries" "[LPipersDesk$Ornament;", Cond.methodLink RX3 38 yX2_costBetween, Cond.instanceMethod yX2_costBetween, Cond.selects RX2 yX2_costBetween yX2_costBetween, Cond.initialized RX2, Cond.code yX2_costBetween cX2_costBetween 9 (some .int), Cond.fieldLink RX2 9 "PipersDesk$Ornament" "graces" "[I", Cond.constant RX2 15 (1000000), Cond.methodLink RX2 26 Lib.Math.min.name, Cond.static Lib.Math.min.name, Cond.initialized "java/lang/Math", Cond.code Lib.Math.min.name Lib.Math.min.code 2 (some .int), Cond.methodLink RX2 16 yX2_soundOf]
def wsX7_sets_r3 : List Cond := [Cond.static yX2_soundOf, Cond.code yX2_soundOf cX2_soundOf 3 (some .int), Cond.methodLink RX2 20 yX0_stepCost, Cond.methodLink RX7 193 yX4_weighJoins, Cond.instanceMethod yX4_weighJoins, Cond.selects RX4 yX4_weighJoins yX4_weighJoins, Cond.initialized RX4, Cond.code yX4_weighJoins cX4_weighJoins 11 none, Cond.fieldLink RX4 11 "PipersDesk$SetSearch" "joinCosts" "[[I", Cond.methodLink RX4 37 yX5_size, Cond.instanceMethod yX5_size, Cond.selects RX5 yX5_size yX5_size, Cond.code yX5_size cX5_size 1 (some .int), Cond.methodLink RX4 42 yX5_pitchOf, Cond.instanceMethod yX5_pitchOf, Cond.selects RX5 yX5_pitchOf yX5_pitchOf, Cond.code yX5_pitchOf cX5_pitchOf 2 (some .int), Cond.methodLink RX4 46 yX5_lengthOf, Cond.instanceMethod yX5_lengthOf, Cond.selects RX5 yX5_lengthOf yX5_lengthOf, Cond.code yX5_lengthOf cX5_lengthOf 2 (some .int), Cond.methodLink RX4 49 yX3_weigh, Cond.methodLink RX7 197 yX4_tryAllOrders, Cond.instanceMethod yX4_tryAllOrders]
def wsX7_sets_r4 : List Cond := [Cond.selects RX4 yX4_tryAllOrders yX4_tryAllOrders, Cond.code yX4_tryAllOrders cX4_tryAllOrders 6 (some .int), Cond.constant RX4 59 (1000000), Cond.fieldLink RX4 34 "PipersDesk$SetSearch" "leastCost" "I", Cond.methodLink RX4 55 yX4_startOrder, Cond.instanceMethod yX4_startOrder, Cond.selects RX4 yX4_startOrder yX4_startOrder, Cond.code yX4_startOrder cX4_startOrder 3 none, Cond.fieldLink RX4 30 "PipersDesk$SetSearch" "size" "I", Cond.fieldLink RX4 23 "PipersDesk$SetSearch" "order" "[I", Cond.methodLink RX4 60 yX4_costOfOrder, Cond.instanceMethod yX4_costOfOrder, Cond.selects RX4 yX4_costOfOrder yX4_costOfOrder, Cond.code yX4_costOfOrder cX4_costOfOrder 5 (some .int), Cond.fieldLink RX4 19 "PipersDesk$SetSearch" "row" "LPipersDesk$Leasts;", Cond.methodLink RX4 78 yX1_startRow, Cond.instanceMethod yX1_startRow, Cond.selects RX1 yX1_startRow yX1_startRow, Cond.initialized RX1, Cond.code yX1_startRow cX1_startRow 1 none, Cond.fieldLink RX1 9 "PipersDesk$Leasts" "costs" "[I", Cond.constant RX1 15 (1000000), Cond.methodLink RX1 16 yJ7_fill_53178, Cond.static yJ7_fill_53178]
def wsX7_sets_r5 : List Cond := [Cond.initialized RJ7, Cond.code yJ7_fill_53178 cJ7_fill_53178 4 none, Cond.methodLink RX4 81 yX1_growFrom, Cond.instanceMethod yX1_growFrom, Cond.selects RX1 yX1_growFrom yX1_growFrom, Cond.code yX1_growFrom cX1_growFrom 8 none, Cond.methodLink RX1 26 Lib.Math.min.name, Cond.methodLink RX1 22 yX1_firstLeastBeside, Cond.instanceMethod yX1_firstLeastBeside, Cond.selects RX1 yX1_firstLeastBeside yX1_firstLeastBeside, Cond.code yX1_firstLeastBeside cX1_firstLeastBeside 4 (some .int), Cond.methodLink RX4 85 yX5_gaps, Cond.instanceMethod yX5_gaps, Cond.selects RX5 yX5_gaps yX5_gaps, Cond.code yX5_gaps cX5_gaps 1 (some .int), Cond.methodLink RX4 88 yX5_costsAt, Cond.instanceMethod yX5_costsAt, Cond.selects RX5 yX5_costsAt yX5_costsAt, Cond.code yX5_costsAt cX5_costsAt 2 (some (.array .int)), Cond.methodLink RX4 92 yX1_leastOfAll, Cond.instanceMethod yX1_leastOfAll, Cond.selects RX1 yX1_leastOfAll yX1_leastOfAll, Cond.code yX1_leastOfAll cX1_leastOfAll 1 (some .int), Cond.methodLink RX4 64 yX4_keepIfLess]
def wsX7_sets_r6 : List Cond := [Cond.instanceMethod yX4_keepIfLess, Cond.selects RX4 yX4_keepIfLess yX4_keepIfLess, Cond.code yX4_keepIfLess cX4_keepIfLess 2 none, Cond.fieldLink RX4 27 "PipersDesk$SetSearch" "best" "[I", Cond.methodLink RX4 72 arraycopyName, Cond.native arraycopyName, Cond.static arraycopyName, Cond.initialized "java/lang/System", Cond.methodLink RX4 68 yX4_goToNextOrder, Cond.instanceMethod yX4_goToNextOrder, Cond.selects RX4 yX4_goToNextOrder yX4_goToNextOrder, Cond.code yX4_goToNextOrder cX4_goToNextOrder 5 (some .boolean), Cond.methodLink RX4 95 yX4_exchange, Cond.instanceMethod yX4_exchange, Cond.selects RX4 yX4_exchange yX4_exchange, Cond.code yX4_exchange cX4_exchange 4 none]
def wsX7_sets : List Cond := .code yX7_sets cX7_sets 1 (some .int) :: ((wsX7_sets_r1 ++ (wsX7_sets_r2 ++ (wsX7_sets_r3 ++ (wsX7_sets_r4 ++ (wsX7_sets_r5 ++ wsX7_sets_r6))))) ++ wsX70 ++ wsX50 ++ wsX00 ++ wsX30 ++ wsX20 ++ wsX40 ++ wsX10)
def wsX8_init : List Cond := .code yX8_init cX8_init 1 none :: ([.methodLink RX8 1 objectInit, .instanceMethod objectInit, .code objectInit ⟨#[0xb1]⟩ 1 none, .arrayClass .int, .fieldLink RX8 7 "PipersDeskModel" "holes" "[I", .fieldLink RX8 13 "PipersDeskModel" "limit" "I", .fieldLink RX8 17 "PipersDeskModel" "graces" "[I", .fieldLink RX8 20 "PipersDeskModel" "graceMany" "[I", .fieldLink RX8 23 "PipersDeskModel" "draft" "[I", .fieldLink RX8 26 "PipersDeskModel" "pitches" "[I", .fieldLink RX8 29 "PipersDeskModel" "lengths" "[I", .arrayClass .boolean, .fieldLink RX8 32 "PipersDeskModel" "wishes" "[Z", .fieldLink RX8 36 "PipersDeskModel" "noteMany" "[I", .fieldLink RX8 39 "PipersDeskModel" "rowPitches" "[I", .fieldLink RX8 42 "PipersDeskModel" "rowLengths" "[I", .fieldLink RX8 45 "PipersDeskModel" "rowWishes" "[Z", .fieldLink RX8 48 "PipersDeskModel" "least" "[I", .fieldLink RX8 51 "PipersDeskModel" "ways" "[I", .fieldLink RX8 54 "PipersDeskModel" "most" "[I", .fieldLink RX8 57 "PipersDeskModel" "order" "[I", .fieldLink RX8 60 "PipersDeskModel" "bestOrder" "[I"] ++ wsX80)
def wsX8_thrown : List Cond := .code yX8_thrown cX8_thrown 1 (some .int) :: ([.fieldLink RX8 63 "PipersDeskModel" "thrown" "I"] ++ wsX80)
def wsX8_goesWell : List Cond := .code yX8_goesWell cX8_goesWell 2 (some .boolean) :: ([.fieldLink RX8 63 "PipersDeskModel" "thrown" "I"] ++ wsX80)
def wsX8_in : List Cond := .code yX8_in cX8_in 3 (some .boolean) :: ([])
def wsX8_isPitch : List Cond := .code yX8_isPitch cX8_isPitch 1 (some .boolean) :: ([.methodLink RX8 66 yX8_in, .static yX8_in, .initialized RX8, .code yX8_in cX8_in 3 (some .boolean)])
def wsX8_costOf : List Cond := .code yX8_costOf cX8_costOf 5 (some .int) :: ([.fieldLink RX8 7 "PipersDeskModel" "holes" "[I"] ++ wsX80)
def wsX8_bars : List Cond := .code yX8_bars cX8_bars 5 (some .boolean) :: ([.fieldLink RX8 7 "PipersDeskModel" "holes" "[I", .fieldLink RX8 13 "PipersDeskModel" "limit" "I", .methodLink RX8 70 yX8_costOf, .instanceMethod yX8_costOf, .selects RX8 yX8_costOf yX8_costOf, .initialized RX8, .code yX8_costOf cX8_costOf 5 (some .int)] ++ wsX80)
def wsX8_cost : List Cond := .code yX8_cost cX8_cost 3 (some .int) :: ([.methodLink RX8 74 yX8_isPitch, .static yX8_isPitch, .initialized RX8, .code yX8_isPitch cX8_isPitch 1 (some .boolean), .methodLink RX8 66 yX8_in, .static yX8_in, .code yX8_in cX8_in 3 (some .boolean), .methodLink RX8 78 yX8_goesWell, .instanceMethod yX8_goesWell, .selects RX8 yX8_goesWell yX8_goesWell, .code yX8_goesWell cX8_goesWell 2 (some .boolean), .fieldLink RX8 63 "PipersDeskModel" "thrown" "I", .methodLink RX8 70 yX8_costOf, .instanceMethod yX8_costOf, .selects RX8 yX8_costOf yX8_costOf, .code yX8_costOf cX8_costOf 5 (some .int), .fieldLink RX8 7 "PipersDeskModel" "holes" "[I"] ++ wsX80)
def wsX8_isBarred : List Cond := .code yX8_isBarred cX8_isBarred 3 (some .boolean) :: ([.methodLink RX8 74 yX8_isPitch, .static yX8_isPitch, .initialized RX8, .code yX8_isPitch cX8_isPitch 1 (some .boolean), .methodLink RX8 66 yX8_in, .static yX8_in, .code yX8_in cX8_in 3 (some .boolean), .methodLink RX8 78 yX8_goesWell, .instanceMethod yX8_goesWell, .selects RX8 yX8_goesWell yX8_goesWell, .code yX8_goesWell cX8_goesWell 2 (some .boolean), .fieldLink RX8 63 "PipersDeskModel" "thrown" "I", .methodLink RX8 81 yX8_bars, .instanceMethod yX8_bars, .selects RX8 yX8_bars yX8_bars, .code yX8_bars cX8_bars 5 (some .boolean), .fieldLink RX8 7 "PipersDeskModel" "holes" "[I", .fieldLink RX8 13 "PipersDeskModel" "limit" "I", .methodLink RX8 70 yX8_costOf, .instanceMethod yX8_costOf, .selects RX8 yX8_costOf yX8_costOf, .code yX8_costOf cX8_costOf 5 (some .int)] ++ wsX80)
def wsX8_setLimit : List Cond := .code yX8_setLimit cX8_setLimit 5 (some .int) :: ([.fieldLink RX8 13 "PipersDeskModel" "limit" "I", .methodLink RX8 66 yX8_in, .static yX8_in, .initialized RX8, .code yX8_in cX8_in 3 (some .boolean), .methodLink RX8 78 yX8_goesWell, .instanceMethod yX8_goesWell, .selects RX8 yX8_goesWell yX8_goesWell, .code yX8_goesWell cX8_goesWell 2 (some .boolean), .fieldLink RX8 63 "PipersDeskModel" "thrown" "I", .methodLink RX8 81 yX8_bars, .instanceMethod yX8_bars, .selects RX8 yX8_bars yX8_bars, .code yX8_bars cX8_bars 5 (some .boolean), .fieldLink RX8 7 "PipersDeskModel" "holes" "[I", .methodLink RX8 70 yX8_costOf, .instanceMethod yX8_costOf, .selects RX8 yX8_costOf yX8_costOf, .code yX8_costOf cX8_costOf 5 (some .int)] ++ wsX80)
def wsX8_grace : List Cond := .code yX8_grace cX8_grace 2 (some .int) :: ([.fieldLink RX8 85 "PipersDeskModel" "drafted" "I", .fieldLink RX8 23 "PipersDeskModel" "draft" "[I", .methodLink RX8 66 yX8_in, .static yX8_in, .initialized RX8, .code yX8_in cX8_in 3 (some .boolean), .methodLink RX8 78 yX8_goesWell, .instanceMethod yX8_goesWell, .selects RX8 yX8_goesWell yX8_goesWell, .code yX8_goesWell cX8_goesWell 2 (some .boolean), .fieldLink RX8 63 "PipersDeskModel" "thrown" "I"] ++ wsX80)
def wsX8_enter : List Cond := .code yX8_enter cX8_enter 2 (some .int) :: ([.fieldLink RX8 85 "PipersDeskModel" "drafted" "I", .fieldLink RX8 88 "PipersDeskModel" "ornaments" "I", .fieldLink RX8 17 "PipersDeskModel" "graces" "[I", .fieldLink RX8 23 "PipersDeskModel" "draft" "[I", .fieldLink RX8 20 "PipersDeskModel" "graceMany" "[I", .methodLink RX8 78 yX8_goesWell, .instanceMethod yX8_goesWell, .selects RX8 yX8_goesWell yX8_goesWell, .initialized RX8, .code yX8_goesWell cX8_goesWell 2 (some .boolean), .fieldLink RX8 63 "PipersDeskModel" "thrown" "I"] ++ wsX80)
def wsX8_ornaments : List Cond := .code yX8_ornaments cX8_ornaments 1 (some .int) :: ([.fieldLink RX8 63 "PipersDeskModel" "thrown" "I", .fieldLink RX8 88 "PipersDeskModel" "ornaments" "I"] ++ wsX80)
def wsX8_moves : List Cond := .code yX8_moves cX8_moves 3 (some .int) :: ([.constant RX8 91 (1000000), .methodLink RX8 81 yX8_bars, .instanceMethod yX8_bars, .selects RX8 yX8_bars yX8_bars, .initialized RX8, .code yX8_bars cX8_bars 5 (some .boolean), .fieldLink RX8 7 "PipersDeskModel" "holes" "[I", .fieldLink RX8 13 "PipersDeskModel" "limit" "I", .methodLink RX8 70 yX8_costOf, .instanceMethod yX8_costOf, .selects RX8 yX8_costOf yX8_costOf, .code yX8_costOf cX8_costOf 5 (some .int)] ++ wsX80)
def wsX8_between : List Cond := .code yX8_between cX8_between 10 (some .int) :: ([.fieldLink RX8 20 "PipersDeskModel" "graceMany" "[I", .constant RX8 91 (1000000), .fieldLink RX8 17 "PipersDeskModel" "graces" "[I", .methodLink RX8 92 yX8_moves, .instanceMethod yX8_moves, .selects RX8 yX8_moves yX8_moves, .initialized RX8, .code yX8_moves cX8_moves 3 (some .int), .methodLink RX8 81 yX8_bars, .instanceMethod yX8_bars, .selects RX8 yX8_bars yX8_bars, .code yX8_bars cX8_bars 5 (some .boolean), .fieldLink RX8 7 "PipersDeskModel" "holes" "[I", .fieldLink RX8 13 "PipersDeskModel" "limit" "I", .methodLink RX8 70 yX8_costOf, .instanceMethod yX8_costOf, .selects RX8 yX8_costOf yX8_costOf, .code yX8_costOf cX8_costOf 5 (some .int)] ++ wsX80)
def wsX8_fits_r1 : List Cond := [Cond.fieldLink RX8 88 "PipersDeskModel" "ornaments" "I", Cond.constant RX8 91 (1000000), Cond.methodLink RX8 74 yX8_isPitch, Cond.static yX8_isPitch, Cond.initialized RX8, Cond.code yX8_isPitch cX8_isPitch 1 (some .boolean), Cond.methodLink RX8 66 yX8_in, Cond.static yX8_in, Cond.code yX8_in cX8_in 3 (some .boolean), Cond.methodLink RX8 78 yX8_goesWell, Cond.instanceMethod yX8_goesWell, Cond.selects RX8 yX8_goesWell yX8_goesWell, Cond.code yX8_goesWell cX8_goesWell 2 (some .boolean), Cond.fieldLink RX8 63 "PipersDeskModel" "thrown" "I", Cond.methodLink RX8 95 yX8_between, Cond.instanceMethod yX8_between, Cond.selects RX8 yX8_between yX8_between, Cond.code yX8_between cX8_between 10 (some .int), Cond.fieldLink RX8 20 "PipersDeskModel" "graceMany" "[I", Cond.fieldLink RX8 17 "PipersDeskModel" "graces" "[I", Cond.methodLink RX8 92 yX8_moves, Cond.instanceMethod yX8_moves, Cond.selects RX8 yX8_moves yX8_moves, Cond.code yX8_moves cX8_moves 3 (some .int)]
def wsX8_fits_r2 : List Cond := [Cond.methodLink RX8 81 yX8_bars, Cond.instanceMethod yX8_bars, Cond.selects RX8 yX8_bars yX8_bars, Cond.code yX8_bars cX8_bars 5 (some .boolean), Cond.fieldLink RX8 7 "PipersDeskModel" "holes" "[I", Cond.fieldLink RX8 13 "PipersDeskModel" "limit" "I", Cond.methodLink RX8 70 yX8_costOf, Cond.instanceMethod yX8_costOf, Cond.selects RX8 yX8_costOf yX8_costOf, Cond.code yX8_costOf cX8_costOf 5 (some .int)]
def wsX8_fits : List Cond := .code yX8_fits cX8_fits 6 (some .boolean) :: ((wsX8_fits_r1 ++ wsX8_fits_r2) ++ wsX80)
def wsX8_isTune : List Cond := .code yX8_isTune cX8_isTune 1 (some .boolean) :: ([.methodLink RX8 66 yX8_in, .static yX8_in, .initialized RX8, .code yX8_in cX8_in 3 (some .boolean)])
def wsX8_addNote : List Cond := .code yX8_addNote cX8_addNote 6 (some .int) :: ([.fieldLink RX8 36 "PipersDeskModel" "noteMany" "[I", .fieldLink RX8 26 "PipersDeskModel" "pitches" "[I", .fieldLink RX8 29 "PipersDeskModel" "lengths" "[I", .fieldLink RX8 32 "PipersDeskModel" "wishes" "[Z", .methodLink RX8 99 yX8_isTune, .static yX8_isTune, .initialized RX8, .code yX8_isTune cX8_isTune 1 (some .boolean), .methodLink RX8 66 yX8_in, .static yX8_in, .code yX8_in cX8_in 3 (some .boolean), .methodLink RX8 74 yX8_isPitch, .static yX8_isPitch, .code yX8_isPitch cX8_isPitch 1 (some .boolean), .methodLink RX8 78 yX8_goesWell, .instanceMethod yX8_goesWell, .selects RX8 yX8_goesWell yX8_goesWell, .code yX8_goesWell cX8_goesWell 2 (some .boolean), .fieldLink RX8 63 "PipersDeskModel" "thrown" "I"] ++ wsX80)
def wsX8_removeNote : List Cond := .code yX8_removeNote cX8_removeNote 2 (some .int) :: ([.fieldLink RX8 36 "PipersDeskModel" "noteMany" "[I", .fieldLink RX8 26 "PipersDeskModel" "pitches" "[I", .methodLink RX8 99 yX8_isTune, .static yX8_isTune, .initialized RX8, .code yX8_isTune cX8_isTune 1 (some .boolean), .methodLink RX8 66 yX8_in, .static yX8_in, .code yX8_in cX8_in 3 (some .boolean), .methodLink RX8 78 yX8_goesWell, .instanceMethod yX8_goesWell, .selects RX8 yX8_goesWell yX8_goesWell, .code yX8_goesWell cX8_goesWell 2 (some .boolean), .fieldLink RX8 63 "PipersDeskModel" "thrown" "I"] ++ wsX80)
def wsX8_isGap : List Cond := .code yX8_isGap cX8_isGap 3 (some .boolean) :: ([.fieldLink RX8 36 "PipersDeskModel" "noteMany" "[I", .methodLink RX8 66 yX8_in, .static yX8_in, .initialized RX8, .code yX8_in cX8_in 3 (some .boolean)] ++ wsX80)
def wsX8_setWish : List Cond := .code yX8_setWish cX8_setWish 5 (some .boolean) :: ([.fieldLink RX8 32 "PipersDeskModel" "wishes" "[Z", .methodLink RX8 99 yX8_isTune, .static yX8_isTune, .initialized RX8, .code yX8_isTune cX8_isTune 1 (some .boolean), .methodLink RX8 66 yX8_in, .static yX8_in, .code yX8_in cX8_in 3 (some .boolean), .methodLink RX8 102 yX8_isGap, .instanceMethod yX8_isGap, .selects RX8 yX8_isGap yX8_isGap, .code yX8_isGap cX8_isGap 3 (some .boolean), .fieldLink RX8 36 "PipersDeskModel" "noteMany" "[I", .methodLink RX8 78 yX8_goesWell, .instanceMethod yX8_goesWell, .selects RX8 yX8_goesWell yX8_goesWell, .code yX8_goesWell cX8_goesWell 2 (some .boolean), .fieldLink RX8 63 "PipersDeskModel" "thrown" "I"] ++ wsX80)
def wsX8_notes : List Cond := .code yX8_notes cX8_notes 2 (some .int) :: ([.fieldLink RX8 36 "PipersDeskModel" "noteMany" "[I", .methodLink RX8 99 yX8_isTune, .static yX8_isTune, .initialized RX8, .code yX8_isTune cX8_isTune 1 (some .boolean), .methodLink RX8 66 yX8_in, .static yX8_in, .code yX8_in cX8_in 3 (some .boolean), .methodLink RX8 78 yX8_goesWell, .instanceMethod yX8_goesWell, .selects RX8 yX8_goesWell yX8_goesWell, .code yX8_goesWell cX8_goesWell 2 (some .boolean), .fieldLink RX8 63 "PipersDeskModel" "thrown" "I"] ++ wsX80)
def wsX8_append : List Cond := .code yX8_append cX8_append 3 none :: ([.fieldLink RX8 36 "PipersDeskModel" "noteMany" "[I", .fieldLink RX8 39 "PipersDeskModel" "rowPitches" "[I", .fieldLink RX8 105 "PipersDeskModel" "row" "I", .fieldLink RX8 26 "PipersDeskModel" "pitches" "[I", .fieldLink RX8 42 "PipersDeskModel" "rowLengths" "[I", .fieldLink RX8 29 "PipersDeskModel" "lengths" "[I", .fieldLink RX8 45 "PipersDeskModel" "rowWishes" "[Z", .fieldLink RX8 32 "PipersDeskModel" "wishes" "[Z"] ++ wsX80)
def wsX8_at_r1 : List Cond := [Cond.fieldLink RX8 39 "PipersDeskModel" "rowPitches" "[I", Cond.fieldLink RX8 42 "PipersDeskModel" "rowLengths" "[I", Cond.fieldLink RX8 45 "PipersDeskModel" "rowWishes" "[Z", Cond.constant RX8 91 (1000000), Cond.methodLink RX8 95 yX8_between, Cond.instanceMethod yX8_between, Cond.selects RX8 yX8_between yX8_between, Cond.initialized RX8, Cond.code yX8_between cX8_between 10 (some .int), Cond.fieldLink RX8 20 "PipersDeskModel" "graceMany" "[I", Cond.fieldLink RX8 17 "PipersDeskModel" "graces" "[I", Cond.methodLink RX8 92 yX8_moves, Cond.instanceMethod yX8_moves, Cond.selects RX8 yX8_moves yX8_moves, Cond.code yX8_moves cX8_moves 3 (some .int), Cond.methodLink RX8 81 yX8_bars, Cond.instanceMethod yX8_bars, Cond.selects RX8 yX8_bars yX8_bars, Cond.code yX8_bars cX8_bars 5 (some .boolean), Cond.fieldLink RX8 7 "PipersDeskModel" "holes" "[I", Cond.fieldLink RX8 13 "PipersDeskModel" "limit" "I", Cond.methodLink RX8 70 yX8_costOf, Cond.instanceMethod yX8_costOf, Cond.selects RX8 yX8_costOf yX8_costOf]
def wsX8_at_r2 : List Cond := [Cond.code yX8_costOf cX8_costOf 5 (some .int)]
def wsX8_at : List Cond := .code yX8_at cX8_at 4 (some .int) :: ((wsX8_at_r1 ++ wsX8_at_r2) ++ wsX80)
def wsX8_countAt_r1 : List Cond := [Cond.constant RX8 91 (1000000), Cond.constant RX8 112 (-1000000), Cond.fieldLink RX8 88 "PipersDeskModel" "ornaments" "I", Cond.fieldLink RX8 51 "PipersDeskModel" "ways" "[I", Cond.fieldLink RX8 48 "PipersDeskModel" "least" "[I", Cond.constant RX8 116 (500000000), Cond.fieldLink RX8 54 "PipersDeskModel" "most" "[I", Cond.methodLink RX8 113 yX8_at, Cond.instanceMethod yX8_at, Cond.selects RX8 yX8_at yX8_at, Cond.initialized RX8, Cond.code yX8_at cX8_at 4 (some .int), Cond.fieldLink RX8 39 "PipersDeskModel" "rowPitches" "[I", Cond.fieldLink RX8 42 "PipersDeskModel" "rowLengths" "[I", Cond.fieldLink RX8 45 "PipersDeskModel" "rowWishes" "[Z", Cond.methodLink RX8 95 yX8_between, Cond.instanceMethod yX8_between, Cond.selects RX8 yX8_between yX8_between, Cond.code yX8_between cX8_between 10 (some .int), Cond.fieldLink RX8 20 "PipersDeskModel" "graceMany" "[I", Cond.fieldLink RX8 17 "PipersDeskModel" "graces" "[I", Cond.methodLink RX8 92 yX8_moves, Cond.instanceMethod yX8_moves, Cond.selects RX8 yX8_moves yX8_moves]
def wsX8_countAt_r2 : List Cond := [Cond.code yX8_moves cX8_moves 3 (some .int), Cond.methodLink RX8 81 yX8_bars, Cond.instanceMethod yX8_bars, Cond.selects RX8 yX8_bars yX8_bars, Cond.code yX8_bars cX8_bars 5 (some .boolean), Cond.fieldLink RX8 7 "PipersDeskModel" "holes" "[I", Cond.fieldLink RX8 13 "PipersDeskModel" "limit" "I", Cond.methodLink RX8 70 yX8_costOf, Cond.instanceMethod yX8_costOf, Cond.selects RX8 yX8_costOf yX8_costOf, Cond.code yX8_costOf cX8_costOf 5 (some .int)]
def wsX8_countAt : List Cond := .code yX8_countAt cX8_countAt 11 none :: ((wsX8_countAt_r1 ++ wsX8_countAt_r2) ++ wsX80)
def wsX8_count_r1 : List Cond := [Cond.fieldLink RX8 105 "PipersDeskModel" "row" "I", Cond.fieldLink RX8 48 "PipersDeskModel" "least" "[I", Cond.fieldLink RX8 51 "PipersDeskModel" "ways" "[I", Cond.fieldLink RX8 54 "PipersDeskModel" "most" "[I", Cond.methodLink RX8 108 yX8_countAt, Cond.instanceMethod yX8_countAt, Cond.selects RX8 yX8_countAt yX8_countAt, Cond.initialized RX8, Cond.code yX8_countAt cX8_countAt 11 none, Cond.constant RX8 91 (1000000), Cond.constant RX8 112 (-1000000), Cond.fieldLink RX8 88 "PipersDeskModel" "ornaments" "I", Cond.constant RX8 116 (500000000), Cond.methodLink RX8 113 yX8_at, Cond.instanceMethod yX8_at, Cond.selects RX8 yX8_at yX8_at, Cond.code yX8_at cX8_at 4 (some .int), Cond.fieldLink RX8 39 "PipersDeskModel" "rowPitches" "[I", Cond.fieldLink RX8 42 "PipersDeskModel" "rowLengths" "[I", Cond.fieldLink RX8 45 "PipersDeskModel" "rowWishes" "[Z", Cond.methodLink RX8 95 yX8_between, Cond.instanceMethod yX8_between, Cond.selects RX8 yX8_between yX8_between, Cond.code yX8_between cX8_between 10 (some .int)]
def wsX8_count_r2 : List Cond := [Cond.fieldLink RX8 20 "PipersDeskModel" "graceMany" "[I", Cond.fieldLink RX8 17 "PipersDeskModel" "graces" "[I", Cond.methodLink RX8 92 yX8_moves, Cond.instanceMethod yX8_moves, Cond.selects RX8 yX8_moves yX8_moves, Cond.code yX8_moves cX8_moves 3 (some .int), Cond.methodLink RX8 81 yX8_bars, Cond.instanceMethod yX8_bars, Cond.selects RX8 yX8_bars yX8_bars, Cond.code yX8_bars cX8_bars 5 (some .boolean), Cond.fieldLink RX8 7 "PipersDeskModel" "holes" "[I", Cond.fieldLink RX8 13 "PipersDeskModel" "limit" "I", Cond.methodLink RX8 70 yX8_costOf, Cond.instanceMethod yX8_costOf, Cond.selects RX8 yX8_costOf yX8_costOf, Cond.code yX8_costOf cX8_costOf 5 (some .int)]
def wsX8_count : List Cond := .code yX8_count cX8_count 4 none :: ((wsX8_count_r1 ++ wsX8_count_r2) ++ wsX80)
def wsX8_layTune_r1 : List Cond := [Cond.fieldLink RX8 105 "PipersDeskModel" "row" "I", Cond.methodLink RX8 117 yX8_append, Cond.instanceMethod yX8_append, Cond.selects RX8 yX8_append yX8_append, Cond.initialized RX8, Cond.code yX8_append cX8_append 3 none, Cond.fieldLink RX8 36 "PipersDeskModel" "noteMany" "[I", Cond.fieldLink RX8 39 "PipersDeskModel" "rowPitches" "[I", Cond.fieldLink RX8 26 "PipersDeskModel" "pitches" "[I", Cond.fieldLink RX8 42 "PipersDeskModel" "rowLengths" "[I", Cond.fieldLink RX8 29 "PipersDeskModel" "lengths" "[I", Cond.fieldLink RX8 45 "PipersDeskModel" "rowWishes" "[Z", Cond.fieldLink RX8 32 "PipersDeskModel" "wishes" "[Z", Cond.methodLink RX8 121 yX8_count, Cond.instanceMethod yX8_count, Cond.selects RX8 yX8_count yX8_count, Cond.code yX8_count cX8_count 4 none, Cond.fieldLink RX8 48 "PipersDeskModel" "least" "[I", Cond.fieldLink RX8 51 "PipersDeskModel" "ways" "[I", Cond.fieldLink RX8 54 "PipersDeskModel" "most" "[I", Cond.methodLink RX8 108 yX8_countAt, Cond.instanceMethod yX8_countAt, Cond.selects RX8 yX8_countAt yX8_countAt, Cond.code yX8_countAt cX8_countAt 11 none]
def wsX8_layTune_r2 : List Cond := [Cond.constant RX8 91 (1000000), Cond.constant RX8 112 (-1000000), Cond.fieldLink RX8 88 "PipersDeskModel" "ornaments" "I", Cond.constant RX8 116 (500000000), Cond.methodLink RX8 113 yX8_at, Cond.instanceMethod yX8_at, Cond.selects RX8 yX8_at yX8_at, Cond.code yX8_at cX8_at 4 (some .int), Cond.methodLink RX8 95 yX8_between, Cond.instanceMethod yX8_between, Cond.selects RX8 yX8_between yX8_between, Cond.code yX8_between cX8_between 10 (some .int), Cond.fieldLink RX8 20 "PipersDeskModel" "graceMany" "[I", Cond.fieldLink RX8 17 "PipersDeskModel" "graces" "[I", Cond.methodLink RX8 92 yX8_moves, Cond.instanceMethod yX8_moves, Cond.selects RX8 yX8_moves yX8_moves, Cond.code yX8_moves cX8_moves 3 (some .int), Cond.methodLink RX8 81 yX8_bars, Cond.instanceMethod yX8_bars, Cond.selects RX8 yX8_bars yX8_bars, Cond.code yX8_bars cX8_bars 5 (some .boolean), Cond.fieldLink RX8 7 "PipersDeskModel" "holes" "[I", Cond.fieldLink RX8 13 "PipersDeskModel" "limit" "I"]
def wsX8_layTune_r3 : List Cond := [Cond.methodLink RX8 70 yX8_costOf, Cond.instanceMethod yX8_costOf, Cond.selects RX8 yX8_costOf yX8_costOf, Cond.code yX8_costOf cX8_costOf 5 (some .int)]
def wsX8_layTune : List Cond := .code yX8_layTune cX8_layTune 2 none :: ((wsX8_layTune_r1 ++ (wsX8_layTune_r2 ++ wsX8_layTune_r3)) ++ wsX80)
def wsX8_isFirst_r1 : List Cond := [Cond.fieldLink RX8 51 "PipersDeskModel" "ways" "[I", Cond.fieldLink RX8 48 "PipersDeskModel" "least" "[I", Cond.methodLink RX8 113 yX8_at, Cond.instanceMethod yX8_at, Cond.selects RX8 yX8_at yX8_at, Cond.initialized RX8, Cond.code yX8_at cX8_at 4 (some .int), Cond.fieldLink RX8 39 "PipersDeskModel" "rowPitches" "[I", Cond.fieldLink RX8 42 "PipersDeskModel" "rowLengths" "[I", Cond.fieldLink RX8 45 "PipersDeskModel" "rowWishes" "[Z", Cond.constant RX8 91 (1000000), Cond.methodLink RX8 95 yX8_between, Cond.instanceMethod yX8_between, Cond.selects RX8 yX8_between yX8_between, Cond.code yX8_between cX8_between 10 (some .int), Cond.fieldLink RX8 20 "PipersDeskModel" "graceMany" "[I", Cond.fieldLink RX8 17 "PipersDeskModel" "graces" "[I", Cond.methodLink RX8 92 yX8_moves, Cond.instanceMethod yX8_moves, Cond.selects RX8 yX8_moves yX8_moves, Cond.code yX8_moves cX8_moves 3 (some .int), Cond.methodLink RX8 81 yX8_bars, Cond.instanceMethod yX8_bars, Cond.selects RX8 yX8_bars yX8_bars]
def wsX8_isFirst_r2 : List Cond := [Cond.code yX8_bars cX8_bars 5 (some .boolean), Cond.fieldLink RX8 7 "PipersDeskModel" "holes" "[I", Cond.fieldLink RX8 13 "PipersDeskModel" "limit" "I", Cond.methodLink RX8 70 yX8_costOf, Cond.instanceMethod yX8_costOf, Cond.selects RX8 yX8_costOf yX8_costOf, Cond.code yX8_costOf cX8_costOf 5 (some .int)]
def wsX8_isFirst : List Cond := .code yX8_isFirst cX8_isFirst 6 (some .boolean) :: ((wsX8_isFirst_r1 ++ wsX8_isFirst_r2) ++ wsX80)
def wsX8_chosenAt_r1 : List Cond := [Cond.methodLink RX8 124 yX8_isFirst, Cond.instanceMethod yX8_isFirst, Cond.selects RX8 yX8_isFirst yX8_isFirst, Cond.initialized RX8, Cond.code yX8_isFirst cX8_isFirst 6 (some .boolean), Cond.fieldLink RX8 51 "PipersDeskModel" "ways" "[I", Cond.fieldLink RX8 48 "PipersDeskModel" "least" "[I", Cond.methodLink RX8 113 yX8_at, Cond.instanceMethod yX8_at, Cond.selects RX8 yX8_at yX8_at, Cond.code yX8_at cX8_at 4 (some .int), Cond.fieldLink RX8 39 "PipersDeskModel" "rowPitches" "[I", Cond.fieldLink RX8 42 "PipersDeskModel" "rowLengths" "[I", Cond.fieldLink RX8 45 "PipersDeskModel" "rowWishes" "[Z", Cond.constant RX8 91 (1000000), Cond.methodLink RX8 95 yX8_between, Cond.instanceMethod yX8_between, Cond.selects RX8 yX8_between yX8_between, Cond.code yX8_between cX8_between 10 (some .int), Cond.fieldLink RX8 20 "PipersDeskModel" "graceMany" "[I", Cond.fieldLink RX8 17 "PipersDeskModel" "graces" "[I", Cond.methodLink RX8 92 yX8_moves, Cond.instanceMethod yX8_moves, Cond.selects RX8 yX8_moves yX8_moves]
def wsX8_chosenAt_r2 : List Cond := [Cond.code yX8_moves cX8_moves 3 (some .int), Cond.methodLink RX8 81 yX8_bars, Cond.instanceMethod yX8_bars, Cond.selects RX8 yX8_bars yX8_bars, Cond.code yX8_bars cX8_bars 5 (some .boolean), Cond.fieldLink RX8 7 "PipersDeskModel" "holes" "[I", Cond.fieldLink RX8 13 "PipersDeskModel" "limit" "I", Cond.methodLink RX8 70 yX8_costOf, Cond.instanceMethod yX8_costOf, Cond.selects RX8 yX8_costOf yX8_costOf, Cond.code yX8_costOf cX8_costOf 5 (some .int)]
def wsX8_chosenAt : List Cond := .code yX8_chosenAt cX8_chosenAt 5 (some .int) :: ((wsX8_chosenAt_r1 ++ wsX8_chosenAt_r2) ++ wsX80)
def wsX8_faultOf_r1 : List Cond := [Cond.fieldLink RX8 51 "PipersDeskModel" "ways" "[I", Cond.methodLink RX8 99 yX8_isTune, Cond.static yX8_isTune, Cond.initialized RX8, Cond.code yX8_isTune cX8_isTune 1 (some .boolean), Cond.methodLink RX8 66 yX8_in, Cond.static yX8_in, Cond.code yX8_in cX8_in 3 (some .boolean), Cond.methodLink RX8 127 yX8_layTune, Cond.instanceMethod yX8_layTune, Cond.selects RX8 yX8_layTune yX8_layTune, Cond.code yX8_layTune cX8_layTune 2 none, Cond.fieldLink RX8 105 "PipersDeskModel" "row" "I", Cond.methodLink RX8 117 yX8_append, Cond.instanceMethod yX8_append, Cond.selects RX8 yX8_append yX8_append, Cond.code yX8_append cX8_append 3 none, Cond.fieldLink RX8 36 "PipersDeskModel" "noteMany" "[I", Cond.fieldLink RX8 39 "PipersDeskModel" "rowPitches" "[I", Cond.fieldLink RX8 26 "PipersDeskModel" "pitches" "[I", Cond.fieldLink RX8 42 "PipersDeskModel" "rowLengths" "[I", Cond.fieldLink RX8 29 "PipersDeskModel" "lengths" "[I", Cond.fieldLink RX8 45 "PipersDeskModel" "rowWishes" "[Z", Cond.fieldLink RX8 32 "PipersDeskModel" "wishes" "[Z"]
def wsX8_faultOf_r2 : List Cond := [Cond.methodLink RX8 121 yX8_count, Cond.instanceMethod yX8_count, Cond.selects RX8 yX8_count yX8_count, Cond.code yX8_count cX8_count 4 none, Cond.fieldLink RX8 48 "PipersDeskModel" "least" "[I", Cond.fieldLink RX8 54 "PipersDeskModel" "most" "[I", Cond.methodLink RX8 108 yX8_countAt, Cond.instanceMethod yX8_countAt, Cond.selects RX8 yX8_countAt yX8_countAt, Cond.code yX8_countAt cX8_countAt 11 none, Cond.constant RX8 91 (1000000), Cond.constant RX8 112 (-1000000), Cond.fieldLink RX8 88 "PipersDeskModel" "ornaments" "I", Cond.constant RX8 116 (500000000), Cond.methodLink RX8 113 yX8_at, Cond.instanceMethod yX8_at, Cond.selects RX8 yX8_at yX8_at, Cond.code yX8_at cX8_at 4 (some .int), Cond.methodLink RX8 95 yX8_between, Cond.instanceMethod yX8_between, Cond.selects RX8 yX8_between yX8_between, Cond.code yX8_between cX8_between 10 (some .int), Cond.fieldLink RX8 20 "PipersDeskModel" "graceMany" "[I", Cond.fieldLink RX8 17 "PipersDeskModel" "graces" "[I"]
def wsX8_faultOf_r3 : List Cond := [Cond.methodLink RX8 92 yX8_moves, Cond.instanceMethod yX8_moves, Cond.selects RX8 yX8_moves yX8_moves, Cond.code yX8_moves cX8_moves 3 (some .int), Cond.methodLink RX8 81 yX8_bars, Cond.instanceMethod yX8_bars, Cond.selects RX8 yX8_bars yX8_bars, Cond.code yX8_bars cX8_bars 5 (some .boolean), Cond.fieldLink RX8 7 "PipersDeskModel" "holes" "[I", Cond.fieldLink RX8 13 "PipersDeskModel" "limit" "I", Cond.methodLink RX8 70 yX8_costOf, Cond.instanceMethod yX8_costOf, Cond.selects RX8 yX8_costOf yX8_costOf, Cond.code yX8_costOf cX8_costOf 5 (some .int)]
def wsX8_faultOf : List Cond := .code yX8_faultOf cX8_faultOf 3 (some .int) :: ((wsX8_faultOf_r1 ++ (wsX8_faultOf_r2 ++ wsX8_faultOf_r3)) ++ wsX80)
def wsX8_time_r1 : List Cond := [Cond.fieldLink RX8 36 "PipersDeskModel" "noteMany" "[I", Cond.fieldLink RX8 105 "PipersDeskModel" "row" "I", Cond.fieldLink RX8 42 "PipersDeskModel" "rowLengths" "[I", Cond.fieldLink RX8 20 "PipersDeskModel" "graceMany" "[I", Cond.methodLink RX8 99 yX8_isTune, Cond.static yX8_isTune, Cond.initialized RX8, Cond.code yX8_isTune cX8_isTune 1 (some .boolean), Cond.methodLink RX8 66 yX8_in, Cond.static yX8_in, Cond.code yX8_in cX8_in 3 (some .boolean), Cond.methodLink RX8 130 yX8_faultOf, Cond.instanceMethod yX8_faultOf, Cond.selects RX8 yX8_faultOf yX8_faultOf, Cond.code yX8_faultOf cX8_faultOf 3 (some .int), Cond.fieldLink RX8 51 "PipersDeskModel" "ways" "[I", Cond.methodLink RX8 127 yX8_layTune, Cond.instanceMethod yX8_layTune, Cond.selects RX8 yX8_layTune yX8_layTune, Cond.code yX8_layTune cX8_layTune 2 none, Cond.methodLink RX8 117 yX8_append, Cond.instanceMethod yX8_append, Cond.selects RX8 yX8_append yX8_append, Cond.code yX8_append cX8_append 3 none]
def wsX8_time_r2 : List Cond := [Cond.fieldLink RX8 39 "PipersDeskModel" "rowPitches" "[I", Cond.fieldLink RX8 26 "PipersDeskModel" "pitches" "[I", Cond.fieldLink RX8 29 "PipersDeskModel" "lengths" "[I", Cond.fieldLink RX8 45 "PipersDeskModel" "rowWishes" "[Z", Cond.fieldLink RX8 32 "PipersDeskModel" "wishes" "[Z", Cond.methodLink RX8 121 yX8_count, Cond.instanceMethod yX8_count, Cond.selects RX8 yX8_count yX8_count, Cond.code yX8_count cX8_count 4 none, Cond.fieldLink RX8 48 "PipersDeskModel" "least" "[I", Cond.fieldLink RX8 54 "PipersDeskModel" "most" "[I", Cond.methodLink RX8 108 yX8_countAt, Cond.instanceMethod yX8_countAt, Cond.selects RX8 yX8_countAt yX8_countAt, Cond.code yX8_countAt cX8_countAt 11 none, Cond.constant RX8 91 (1000000), Cond.constant RX8 112 (-1000000), Cond.fieldLink RX8 88 "PipersDeskModel" "ornaments" "I", Cond.constant RX8 116 (500000000), Cond.methodLink RX8 113 yX8_at, Cond.instanceMethod yX8_at, Cond.selects RX8 yX8_at yX8_at, Cond.code yX8_at cX8_at 4 (some .int), Cond.methodLink RX8 95 yX8_between]
def wsX8_time_r3 : List Cond := [Cond.instanceMethod yX8_between, Cond.selects RX8 yX8_between yX8_between, Cond.code yX8_between cX8_between 10 (some .int), Cond.fieldLink RX8 17 "PipersDeskModel" "graces" "[I", Cond.methodLink RX8 92 yX8_moves, Cond.instanceMethod yX8_moves, Cond.selects RX8 yX8_moves yX8_moves, Cond.code yX8_moves cX8_moves 3 (some .int), Cond.methodLink RX8 81 yX8_bars, Cond.instanceMethod yX8_bars, Cond.selects RX8 yX8_bars yX8_bars, Cond.code yX8_bars cX8_bars 5 (some .boolean), Cond.fieldLink RX8 7 "PipersDeskModel" "holes" "[I", Cond.fieldLink RX8 13 "PipersDeskModel" "limit" "I", Cond.methodLink RX8 70 yX8_costOf, Cond.instanceMethod yX8_costOf, Cond.selects RX8 yX8_costOf yX8_costOf, Cond.code yX8_costOf cX8_costOf 5 (some .int), Cond.methodLink RX8 78 yX8_goesWell, Cond.instanceMethod yX8_goesWell, Cond.selects RX8 yX8_goesWell yX8_goesWell, Cond.code yX8_goesWell cX8_goesWell 2 (some .boolean), Cond.fieldLink RX8 63 "PipersDeskModel" "thrown" "I", Cond.methodLink RX8 134 yX8_chosenAt]
def wsX8_time_r4 : List Cond := [Cond.instanceMethod yX8_chosenAt, Cond.selects RX8 yX8_chosenAt yX8_chosenAt, Cond.code yX8_chosenAt cX8_chosenAt 5 (some .int), Cond.methodLink RX8 124 yX8_isFirst, Cond.instanceMethod yX8_isFirst, Cond.selects RX8 yX8_isFirst yX8_isFirst, Cond.code yX8_isFirst cX8_isFirst 6 (some .boolean)]
def wsX8_time : List Cond := .code yX8_time cX8_time 4 (some .int) :: ((wsX8_time_r1 ++ (wsX8_time_r2 ++ (wsX8_time_r3 ++ wsX8_time_r4))) ++ wsX80)
def wsX8_fitting_r1 : List Cond := [Cond.fieldLink RX8 88 "PipersDeskModel" "ornaments" "I", Cond.constant RX8 91 (1000000), Cond.methodLink RX8 99 yX8_isTune, Cond.static yX8_isTune, Cond.initialized RX8, Cond.code yX8_isTune cX8_isTune 1 (some .boolean), Cond.methodLink RX8 66 yX8_in, Cond.static yX8_in, Cond.code yX8_in cX8_in 3 (some .boolean), Cond.methodLink RX8 102 yX8_isGap, Cond.instanceMethod yX8_isGap, Cond.selects RX8 yX8_isGap yX8_isGap, Cond.code yX8_isGap cX8_isGap 3 (some .boolean), Cond.fieldLink RX8 36 "PipersDeskModel" "noteMany" "[I", Cond.methodLink RX8 78 yX8_goesWell, Cond.instanceMethod yX8_goesWell, Cond.selects RX8 yX8_goesWell yX8_goesWell, Cond.code yX8_goesWell cX8_goesWell 2 (some .boolean), Cond.fieldLink RX8 63 "PipersDeskModel" "thrown" "I", Cond.methodLink RX8 127 yX8_layTune, Cond.instanceMethod yX8_layTune, Cond.selects RX8 yX8_layTune yX8_layTune, Cond.code yX8_layTune cX8_layTune 2 none, Cond.fieldLink RX8 105 "PipersDeskModel" "row" "I"]
def wsX8_fitting_r2 : List Cond := [Cond.methodLink RX8 117 yX8_append, Cond.instanceMethod yX8_append, Cond.selects RX8 yX8_append yX8_append, Cond.code yX8_append cX8_append 3 none, Cond.fieldLink RX8 39 "PipersDeskModel" "rowPitches" "[I", Cond.fieldLink RX8 26 "PipersDeskModel" "pitches" "[I", Cond.fieldLink RX8 42 "PipersDeskModel" "rowLengths" "[I", Cond.fieldLink RX8 29 "PipersDeskModel" "lengths" "[I", Cond.fieldLink RX8 45 "PipersDeskModel" "rowWishes" "[Z", Cond.fieldLink RX8 32 "PipersDeskModel" "wishes" "[Z", Cond.methodLink RX8 121 yX8_count, Cond.instanceMethod yX8_count, Cond.selects RX8 yX8_count yX8_count, Cond.code yX8_count cX8_count 4 none, Cond.fieldLink RX8 48 "PipersDeskModel" "least" "[I", Cond.fieldLink RX8 51 "PipersDeskModel" "ways" "[I", Cond.fieldLink RX8 54 "PipersDeskModel" "most" "[I", Cond.methodLink RX8 108 yX8_countAt, Cond.instanceMethod yX8_countAt, Cond.selects RX8 yX8_countAt yX8_countAt, Cond.code yX8_countAt cX8_countAt 11 none, Cond.constant RX8 112 (-1000000), Cond.constant RX8 116 (500000000), Cond.methodLink RX8 113 yX8_at]
def wsX8_fitting_r3 : List Cond := [Cond.instanceMethod yX8_at, Cond.selects RX8 yX8_at yX8_at, Cond.code yX8_at cX8_at 4 (some .int), Cond.methodLink RX8 95 yX8_between, Cond.instanceMethod yX8_between, Cond.selects RX8 yX8_between yX8_between, Cond.code yX8_between cX8_between 10 (some .int), Cond.fieldLink RX8 20 "PipersDeskModel" "graceMany" "[I", Cond.fieldLink RX8 17 "PipersDeskModel" "graces" "[I", Cond.methodLink RX8 92 yX8_moves, Cond.instanceMethod yX8_moves, Cond.selects RX8 yX8_moves yX8_moves, Cond.code yX8_moves cX8_moves 3 (some .int), Cond.methodLink RX8 81 yX8_bars, Cond.instanceMethod yX8_bars, Cond.selects RX8 yX8_bars yX8_bars, Cond.code yX8_bars cX8_bars 5 (some .boolean), Cond.fieldLink RX8 7 "PipersDeskModel" "holes" "[I", Cond.fieldLink RX8 13 "PipersDeskModel" "limit" "I", Cond.methodLink RX8 70 yX8_costOf, Cond.instanceMethod yX8_costOf, Cond.selects RX8 yX8_costOf yX8_costOf, Cond.code yX8_costOf cX8_costOf 5 (some .int)]
def wsX8_fitting : List Cond := .code yX8_fitting cX8_fitting 5 (some .int) :: ((wsX8_fitting_r1 ++ (wsX8_fitting_r2 ++ wsX8_fitting_r3)) ++ wsX80)
def wsX8_choices_r1 : List Cond := [Cond.fieldLink RX8 51 "PipersDeskModel" "ways" "[I", Cond.methodLink RX8 99 yX8_isTune, Cond.static yX8_isTune, Cond.initialized RX8, Cond.code yX8_isTune cX8_isTune 1 (some .boolean), Cond.methodLink RX8 66 yX8_in, Cond.static yX8_in, Cond.code yX8_in cX8_in 3 (some .boolean), Cond.methodLink RX8 78 yX8_goesWell, Cond.instanceMethod yX8_goesWell, Cond.selects RX8 yX8_goesWell yX8_goesWell, Cond.code yX8_goesWell cX8_goesWell 2 (some .boolean), Cond.fieldLink RX8 63 "PipersDeskModel" "thrown" "I", Cond.methodLink RX8 127 yX8_layTune, Cond.instanceMethod yX8_layTune, Cond.selects RX8 yX8_layTune yX8_layTune, Cond.code yX8_layTune cX8_layTune 2 none, Cond.fieldLink RX8 105 "PipersDeskModel" "row" "I", Cond.methodLink RX8 117 yX8_append, Cond.instanceMethod yX8_append, Cond.selects RX8 yX8_append yX8_append, Cond.code yX8_append cX8_append 3 none, Cond.fieldLink RX8 36 "PipersDeskModel" "noteMany" "[I", Cond.fieldLink RX8 39 "PipersDeskModel" "rowPitches" "[I"]
def wsX8_choices_r2 : List Cond := [Cond.fieldLink RX8 26 "PipersDeskModel" "pitches" "[I", Cond.fieldLink RX8 42 "PipersDeskModel" "rowLengths" "[I", Cond.fieldLink RX8 29 "PipersDeskModel" "lengths" "[I", Cond.fieldLink RX8 45 "PipersDeskModel" "rowWishes" "[Z", Cond.fieldLink RX8 32 "PipersDeskModel" "wishes" "[Z", Cond.methodLink RX8 121 yX8_count, Cond.instanceMethod yX8_count, Cond.selects RX8 yX8_count yX8_count, Cond.code yX8_count cX8_count 4 none, Cond.fieldLink RX8 48 "PipersDeskModel" "least" "[I", Cond.fieldLink RX8 54 "PipersDeskModel" "most" "[I", Cond.methodLink RX8 108 yX8_countAt, Cond.instanceMethod yX8_countAt, Cond.selects RX8 yX8_countAt yX8_countAt, Cond.code yX8_countAt cX8_countAt 11 none, Cond.constant RX8 91 (1000000), Cond.constant RX8 112 (-1000000), Cond.fieldLink RX8 88 "PipersDeskModel" "ornaments" "I", Cond.constant RX8 116 (500000000), Cond.methodLink RX8 113 yX8_at, Cond.instanceMethod yX8_at, Cond.selects RX8 yX8_at yX8_at, Cond.code yX8_at cX8_at 4 (some .int), Cond.methodLink RX8 95 yX8_between]
def wsX8_choices_r3 : List Cond := [Cond.instanceMethod yX8_between, Cond.selects RX8 yX8_between yX8_between, Cond.code yX8_between cX8_between 10 (some .int), Cond.fieldLink RX8 20 "PipersDeskModel" "graceMany" "[I", Cond.fieldLink RX8 17 "PipersDeskModel" "graces" "[I", Cond.methodLink RX8 92 yX8_moves, Cond.instanceMethod yX8_moves, Cond.selects RX8 yX8_moves yX8_moves, Cond.code yX8_moves cX8_moves 3 (some .int), Cond.methodLink RX8 81 yX8_bars, Cond.instanceMethod yX8_bars, Cond.selects RX8 yX8_bars yX8_bars, Cond.code yX8_bars cX8_bars 5 (some .boolean), Cond.fieldLink RX8 7 "PipersDeskModel" "holes" "[I", Cond.fieldLink RX8 13 "PipersDeskModel" "limit" "I", Cond.methodLink RX8 70 yX8_costOf, Cond.instanceMethod yX8_costOf, Cond.selects RX8 yX8_costOf yX8_costOf, Cond.code yX8_costOf cX8_costOf 5 (some .int)]
def wsX8_choices : List Cond := .code yX8_choices cX8_choices 2 (some .int) :: ((wsX8_choices_r1 ++ (wsX8_choices_r2 ++ wsX8_choices_r3)) ++ wsX80)
def wsX8_faultOfTune_r1 : List Cond := [Cond.methodLink RX8 130 yX8_faultOf, Cond.instanceMethod yX8_faultOf, Cond.selects RX8 yX8_faultOf yX8_faultOf, Cond.initialized RX8, Cond.code yX8_faultOf cX8_faultOf 3 (some .int), Cond.fieldLink RX8 51 "PipersDeskModel" "ways" "[I", Cond.methodLink RX8 99 yX8_isTune, Cond.static yX8_isTune, Cond.code yX8_isTune cX8_isTune 1 (some .boolean), Cond.methodLink RX8 66 yX8_in, Cond.static yX8_in, Cond.code yX8_in cX8_in 3 (some .boolean), Cond.methodLink RX8 127 yX8_layTune, Cond.instanceMethod yX8_layTune, Cond.selects RX8 yX8_layTune yX8_layTune, Cond.code yX8_layTune cX8_layTune 2 none, Cond.fieldLink RX8 105 "PipersDeskModel" "row" "I", Cond.methodLink RX8 117 yX8_append, Cond.instanceMethod yX8_append, Cond.selects RX8 yX8_append yX8_append, Cond.code yX8_append cX8_append 3 none, Cond.fieldLink RX8 36 "PipersDeskModel" "noteMany" "[I", Cond.fieldLink RX8 39 "PipersDeskModel" "rowPitches" "[I", Cond.fieldLink RX8 26 "PipersDeskModel" "pitches" "[I"]
def wsX8_faultOfTune_r2 : List Cond := [Cond.fieldLink RX8 42 "PipersDeskModel" "rowLengths" "[I", Cond.fieldLink RX8 29 "PipersDeskModel" "lengths" "[I", Cond.fieldLink RX8 45 "PipersDeskModel" "rowWishes" "[Z", Cond.fieldLink RX8 32 "PipersDeskModel" "wishes" "[Z", Cond.methodLink RX8 121 yX8_count, Cond.instanceMethod yX8_count, Cond.selects RX8 yX8_count yX8_count, Cond.code yX8_count cX8_count 4 none, Cond.fieldLink RX8 48 "PipersDeskModel" "least" "[I", Cond.fieldLink RX8 54 "PipersDeskModel" "most" "[I", Cond.methodLink RX8 108 yX8_countAt, Cond.instanceMethod yX8_countAt, Cond.selects RX8 yX8_countAt yX8_countAt, Cond.code yX8_countAt cX8_countAt 11 none, Cond.constant RX8 91 (1000000), Cond.constant RX8 112 (-1000000), Cond.fieldLink RX8 88 "PipersDeskModel" "ornaments" "I", Cond.constant RX8 116 (500000000), Cond.methodLink RX8 113 yX8_at, Cond.instanceMethod yX8_at, Cond.selects RX8 yX8_at yX8_at, Cond.code yX8_at cX8_at 4 (some .int), Cond.methodLink RX8 95 yX8_between, Cond.instanceMethod yX8_between]
def wsX8_faultOfTune_r3 : List Cond := [Cond.selects RX8 yX8_between yX8_between, Cond.code yX8_between cX8_between 10 (some .int), Cond.fieldLink RX8 20 "PipersDeskModel" "graceMany" "[I", Cond.fieldLink RX8 17 "PipersDeskModel" "graces" "[I", Cond.methodLink RX8 92 yX8_moves, Cond.instanceMethod yX8_moves, Cond.selects RX8 yX8_moves yX8_moves, Cond.code yX8_moves cX8_moves 3 (some .int), Cond.methodLink RX8 81 yX8_bars, Cond.instanceMethod yX8_bars, Cond.selects RX8 yX8_bars yX8_bars, Cond.code yX8_bars cX8_bars 5 (some .boolean), Cond.fieldLink RX8 7 "PipersDeskModel" "holes" "[I", Cond.fieldLink RX8 13 "PipersDeskModel" "limit" "I", Cond.methodLink RX8 70 yX8_costOf, Cond.instanceMethod yX8_costOf, Cond.selects RX8 yX8_costOf yX8_costOf, Cond.code yX8_costOf cX8_costOf 5 (some .int)]
def wsX8_faultOfTune : List Cond := .code yX8_faultOfTune cX8_faultOfTune 3 (some .int) :: ((wsX8_faultOfTune_r1 ++ (wsX8_faultOfTune_r2 ++ wsX8_faultOfTune_r3)) ++ wsX80)
def wsX8_least_r1 : List Cond := [Cond.fieldLink RX8 48 "PipersDeskModel" "least" "[I", Cond.methodLink RX8 138 yX8_faultOfTune, Cond.instanceMethod yX8_faultOfTune, Cond.selects RX8 yX8_faultOfTune yX8_faultOfTune, Cond.initialized RX8, Cond.code yX8_faultOfTune cX8_faultOfTune 3 (some .int), Cond.methodLink RX8 130 yX8_faultOf, Cond.instanceMethod yX8_faultOf, Cond.selects RX8 yX8_faultOf yX8_faultOf, Cond.code yX8_faultOf cX8_faultOf 3 (some .int), Cond.fieldLink RX8 51 "PipersDeskModel" "ways" "[I", Cond.methodLink RX8 99 yX8_isTune, Cond.static yX8_isTune, Cond.code yX8_isTune cX8_isTune 1 (some .boolean), Cond.methodLink RX8 66 yX8_in, Cond.static yX8_in, Cond.code yX8_in cX8_in 3 (some .boolean), Cond.methodLink RX8 127 yX8_layTune, Cond.instanceMethod yX8_layTune, Cond.selects RX8 yX8_layTune yX8_layTune, Cond.code yX8_layTune cX8_layTune 2 none, Cond.fieldLink RX8 105 "PipersDeskModel" "row" "I", Cond.methodLink RX8 117 yX8_append, Cond.instanceMethod yX8_append]
def wsX8_least_r2 : List Cond := [Cond.selects RX8 yX8_append yX8_append, Cond.code yX8_append cX8_append 3 none, Cond.fieldLink RX8 36 "PipersDeskModel" "noteMany" "[I", Cond.fieldLink RX8 39 "PipersDeskModel" "rowPitches" "[I", Cond.fieldLink RX8 26 "PipersDeskModel" "pitches" "[I", Cond.fieldLink RX8 42 "PipersDeskModel" "rowLengths" "[I", Cond.fieldLink RX8 29 "PipersDeskModel" "lengths" "[I", Cond.fieldLink RX8 45 "PipersDeskModel" "rowWishes" "[Z", Cond.fieldLink RX8 32 "PipersDeskModel" "wishes" "[Z", Cond.methodLink RX8 121 yX8_count, Cond.instanceMethod yX8_count, Cond.selects RX8 yX8_count yX8_count, Cond.code yX8_count cX8_count 4 none, Cond.fieldLink RX8 54 "PipersDeskModel" "most" "[I", Cond.methodLink RX8 108 yX8_countAt, Cond.instanceMethod yX8_countAt, Cond.selects RX8 yX8_countAt yX8_countAt, Cond.code yX8_countAt cX8_countAt 11 none, Cond.constant RX8 91 (1000000), Cond.constant RX8 112 (-1000000), Cond.fieldLink RX8 88 "PipersDeskModel" "ornaments" "I", Cond.constant RX8 116 (500000000), Cond.methodLink RX8 113 yX8_at, Cond.instanceMethod yX8_at]
def wsX8_least_r3 : List Cond := [Cond.selects RX8 yX8_at yX8_at, Cond.code yX8_at cX8_at 4 (some .int), Cond.methodLink RX8 95 yX8_between, Cond.instanceMethod yX8_between, Cond.selects RX8 yX8_between yX8_between, Cond.code yX8_between cX8_between 10 (some .int), Cond.fieldLink RX8 20 "PipersDeskModel" "graceMany" "[I", Cond.fieldLink RX8 17 "PipersDeskModel" "graces" "[I", Cond.methodLink RX8 92 yX8_moves, Cond.instanceMethod yX8_moves, Cond.selects RX8 yX8_moves yX8_moves, Cond.code yX8_moves cX8_moves 3 (some .int), Cond.methodLink RX8 81 yX8_bars, Cond.instanceMethod yX8_bars, Cond.selects RX8 yX8_bars yX8_bars, Cond.code yX8_bars cX8_bars 5 (some .boolean), Cond.fieldLink RX8 7 "PipersDeskModel" "holes" "[I", Cond.fieldLink RX8 13 "PipersDeskModel" "limit" "I", Cond.methodLink RX8 70 yX8_costOf, Cond.instanceMethod yX8_costOf, Cond.selects RX8 yX8_costOf yX8_costOf, Cond.code yX8_costOf cX8_costOf 5 (some .int), Cond.methodLink RX8 78 yX8_goesWell, Cond.instanceMethod yX8_goesWell]
def wsX8_least_r4 : List Cond := [Cond.selects RX8 yX8_goesWell yX8_goesWell, Cond.code yX8_goesWell cX8_goesWell 2 (some .boolean), Cond.fieldLink RX8 63 "PipersDeskModel" "thrown" "I"]
def wsX8_least : List Cond := .code yX8_least cX8_least 2 (some .int) :: ((wsX8_least_r1 ++ (wsX8_least_r2 ++ (wsX8_least_r3 ++ wsX8_least_r4))) ++ wsX80)
def wsX8_chosen_r1 : List Cond := [Cond.methodLink RX8 99 yX8_isTune, Cond.static yX8_isTune, Cond.initialized RX8, Cond.code yX8_isTune cX8_isTune 1 (some .boolean), Cond.methodLink RX8 66 yX8_in, Cond.static yX8_in, Cond.code yX8_in cX8_in 3 (some .boolean), Cond.methodLink RX8 102 yX8_isGap, Cond.instanceMethod yX8_isGap, Cond.selects RX8 yX8_isGap yX8_isGap, Cond.code yX8_isGap cX8_isGap 3 (some .boolean), Cond.fieldLink RX8 36 "PipersDeskModel" "noteMany" "[I", Cond.methodLink RX8 130 yX8_faultOf, Cond.instanceMethod yX8_faultOf, Cond.selects RX8 yX8_faultOf yX8_faultOf, Cond.code yX8_faultOf cX8_faultOf 3 (some .int), Cond.fieldLink RX8 51 "PipersDeskModel" "ways" "[I", Cond.methodLink RX8 127 yX8_layTune, Cond.instanceMethod yX8_layTune, Cond.selects RX8 yX8_layTune yX8_layTune, Cond.code yX8_layTune cX8_layTune 2 none, Cond.fieldLink RX8 105 "PipersDeskModel" "row" "I", Cond.methodLink RX8 117 yX8_append, Cond.instanceMethod yX8_append]
def wsX8_chosen_r2 : List Cond := [Cond.selects RX8 yX8_append yX8_append, Cond.code yX8_append cX8_append 3 none, Cond.fieldLink RX8 39 "PipersDeskModel" "rowPitches" "[I", Cond.fieldLink RX8 26 "PipersDeskModel" "pitches" "[I", Cond.fieldLink RX8 42 "PipersDeskModel" "rowLengths" "[I", Cond.fieldLink RX8 29 "PipersDeskModel" "lengths" "[I", Cond.fieldLink RX8 45 "PipersDeskModel" "rowWishes" "[Z", Cond.fieldLink RX8 32 "PipersDeskModel" "wishes" "[Z", Cond.methodLink RX8 121 yX8_count, Cond.instanceMethod yX8_count, Cond.selects RX8 yX8_count yX8_count, Cond.code yX8_count cX8_count 4 none, Cond.fieldLink RX8 48 "PipersDeskModel" "least" "[I", Cond.fieldLink RX8 54 "PipersDeskModel" "most" "[I", Cond.methodLink RX8 108 yX8_countAt, Cond.instanceMethod yX8_countAt, Cond.selects RX8 yX8_countAt yX8_countAt, Cond.code yX8_countAt cX8_countAt 11 none, Cond.constant RX8 91 (1000000), Cond.constant RX8 112 (-1000000), Cond.fieldLink RX8 88 "PipersDeskModel" "ornaments" "I", Cond.constant RX8 116 (500000000), Cond.methodLink RX8 113 yX8_at, Cond.instanceMethod yX8_at]
def wsX8_chosen_r3 : List Cond := [Cond.selects RX8 yX8_at yX8_at, Cond.code yX8_at cX8_at 4 (some .int), Cond.methodLink RX8 95 yX8_between, Cond.instanceMethod yX8_between, Cond.selects RX8 yX8_between yX8_between, Cond.code yX8_between cX8_between 10 (some .int), Cond.fieldLink RX8 20 "PipersDeskModel" "graceMany" "[I", Cond.fieldLink RX8 17 "PipersDeskModel" "graces" "[I", Cond.methodLink RX8 92 yX8_moves, Cond.instanceMethod yX8_moves, Cond.selects RX8 yX8_moves yX8_moves, Cond.code yX8_moves cX8_moves 3 (some .int), Cond.methodLink RX8 81 yX8_bars, Cond.instanceMethod yX8_bars, Cond.selects RX8 yX8_bars yX8_bars, Cond.code yX8_bars cX8_bars 5 (some .boolean), Cond.fieldLink RX8 7 "PipersDeskModel" "holes" "[I", Cond.fieldLink RX8 13 "PipersDeskModel" "limit" "I", Cond.methodLink RX8 70 yX8_costOf, Cond.instanceMethod yX8_costOf, Cond.selects RX8 yX8_costOf yX8_costOf, Cond.code yX8_costOf cX8_costOf 5 (some .int), Cond.methodLink RX8 78 yX8_goesWell, Cond.instanceMethod yX8_goesWell]
def wsX8_chosen_r4 : List Cond := [Cond.selects RX8 yX8_goesWell yX8_goesWell, Cond.code yX8_goesWell cX8_goesWell 2 (some .boolean), Cond.fieldLink RX8 63 "PipersDeskModel" "thrown" "I", Cond.methodLink RX8 134 yX8_chosenAt, Cond.instanceMethod yX8_chosenAt, Cond.selects RX8 yX8_chosenAt yX8_chosenAt, Cond.code yX8_chosenAt cX8_chosenAt 5 (some .int), Cond.methodLink RX8 124 yX8_isFirst, Cond.instanceMethod yX8_isFirst, Cond.selects RX8 yX8_isFirst yX8_isFirst, Cond.code yX8_isFirst cX8_isFirst 6 (some .boolean)]
def wsX8_chosen : List Cond := .code yX8_chosen cX8_chosen 3 (some .int) :: ((wsX8_chosen_r1 ++ (wsX8_chosen_r2 ++ (wsX8_chosen_r3 ++ wsX8_chosen_r4))) ++ wsX80)
def wsX8_mostOrnaments_r1 : List Cond := [Cond.fieldLink RX8 54 "PipersDeskModel" "most" "[I", Cond.methodLink RX8 138 yX8_faultOfTune, Cond.instanceMethod yX8_faultOfTune, Cond.selects RX8 yX8_faultOfTune yX8_faultOfTune, Cond.initialized RX8, Cond.code yX8_faultOfTune cX8_faultOfTune 3 (some .int), Cond.methodLink RX8 130 yX8_faultOf, Cond.instanceMethod yX8_faultOf, Cond.selects RX8 yX8_faultOf yX8_faultOf, Cond.code yX8_faultOf cX8_faultOf 3 (some .int), Cond.fieldLink RX8 51 "PipersDeskModel" "ways" "[I", Cond.methodLink RX8 99 yX8_isTune, Cond.static yX8_isTune, Cond.code yX8_isTune cX8_isTune 1 (some .boolean), Cond.methodLink RX8 66 yX8_in, Cond.static yX8_in, Cond.code yX8_in cX8_in 3 (some .boolean), Cond.methodLink RX8 127 yX8_layTune, Cond.instanceMethod yX8_layTune, Cond.selects RX8 yX8_layTune yX8_layTune, Cond.code yX8_layTune cX8_layTune 2 none, Cond.fieldLink RX8 105 "PipersDeskModel" "row" "I", Cond.methodLink RX8 117 yX8_append, Cond.instanceMethod yX8_append]
def wsX8_mostOrnaments_r2 : List Cond := [Cond.selects RX8 yX8_append yX8_append, Cond.code yX8_append cX8_append 3 none, Cond.fieldLink RX8 36 "PipersDeskModel" "noteMany" "[I", Cond.fieldLink RX8 39 "PipersDeskModel" "rowPitches" "[I", Cond.fieldLink RX8 26 "PipersDeskModel" "pitches" "[I", Cond.fieldLink RX8 42 "PipersDeskModel" "rowLengths" "[I", Cond.fieldLink RX8 29 "PipersDeskModel" "lengths" "[I", Cond.fieldLink RX8 45 "PipersDeskModel" "rowWishes" "[Z", Cond.fieldLink RX8 32 "PipersDeskModel" "wishes" "[Z", Cond.methodLink RX8 121 yX8_count, Cond.instanceMethod yX8_count, Cond.selects RX8 yX8_count yX8_count, Cond.code yX8_count cX8_count 4 none, Cond.fieldLink RX8 48 "PipersDeskModel" "least" "[I", Cond.methodLink RX8 108 yX8_countAt, Cond.instanceMethod yX8_countAt, Cond.selects RX8 yX8_countAt yX8_countAt, Cond.code yX8_countAt cX8_countAt 11 none, Cond.constant RX8 91 (1000000), Cond.constant RX8 112 (-1000000), Cond.fieldLink RX8 88 "PipersDeskModel" "ornaments" "I", Cond.constant RX8 116 (500000000), Cond.methodLink RX8 113 yX8_at, Cond.instanceMethod yX8_at]
def wsX8_mostOrnaments_r3 : List Cond := [Cond.selects RX8 yX8_at yX8_at, Cond.code yX8_at cX8_at 4 (some .int), Cond.methodLink RX8 95 yX8_between, Cond.instanceMethod yX8_between, Cond.selects RX8 yX8_between yX8_between, Cond.code yX8_between cX8_between 10 (some .int), Cond.fieldLink RX8 20 "PipersDeskModel" "graceMany" "[I", Cond.fieldLink RX8 17 "PipersDeskModel" "graces" "[I", Cond.methodLink RX8 92 yX8_moves, Cond.instanceMethod yX8_moves, Cond.selects RX8 yX8_moves yX8_moves, Cond.code yX8_moves cX8_moves 3 (some .int), Cond.methodLink RX8 81 yX8_bars, Cond.instanceMethod yX8_bars, Cond.selects RX8 yX8_bars yX8_bars, Cond.code yX8_bars cX8_bars 5 (some .boolean), Cond.fieldLink RX8 7 "PipersDeskModel" "holes" "[I", Cond.fieldLink RX8 13 "PipersDeskModel" "limit" "I", Cond.methodLink RX8 70 yX8_costOf, Cond.instanceMethod yX8_costOf, Cond.selects RX8 yX8_costOf yX8_costOf, Cond.code yX8_costOf cX8_costOf 5 (some .int), Cond.methodLink RX8 78 yX8_goesWell, Cond.instanceMethod yX8_goesWell]
def wsX8_mostOrnaments_r4 : List Cond := [Cond.selects RX8 yX8_goesWell yX8_goesWell, Cond.code yX8_goesWell cX8_goesWell 2 (some .boolean), Cond.fieldLink RX8 63 "PipersDeskModel" "thrown" "I"]
def wsX8_mostOrnaments : List Cond := .code yX8_mostOrnaments cX8_mostOrnaments 2 (some .int) :: ((wsX8_mostOrnaments_r1 ++ (wsX8_mostOrnaments_r2 ++ (wsX8_mostOrnaments_r3 ++ wsX8_mostOrnaments_r4))) ++ wsX80)
def wsX8_average_r1 : List Cond := [Cond.fieldLink RX8 105 "PipersDeskModel" "row" "I", Cond.fieldLink RX8 48 "PipersDeskModel" "least" "[I", Cond.methodLink RX8 138 yX8_faultOfTune, Cond.instanceMethod yX8_faultOfTune, Cond.selects RX8 yX8_faultOfTune yX8_faultOfTune, Cond.initialized RX8, Cond.code yX8_faultOfTune cX8_faultOfTune 3 (some .int), Cond.methodLink RX8 130 yX8_faultOf, Cond.instanceMethod yX8_faultOf, Cond.selects RX8 yX8_faultOf yX8_faultOf, Cond.code yX8_faultOf cX8_faultOf 3 (some .int), Cond.fieldLink RX8 51 "PipersDeskModel" "ways" "[I", Cond.methodLink RX8 99 yX8_isTune, Cond.static yX8_isTune, Cond.code yX8_isTune cX8_isTune 1 (some .boolean), Cond.methodLink RX8 66 yX8_in, Cond.static yX8_in, Cond.code yX8_in cX8_in 3 (some .boolean), Cond.methodLink RX8 127 yX8_layTune, Cond.instanceMethod yX8_layTune, Cond.selects RX8 yX8_layTune yX8_layTune, Cond.code yX8_layTune cX8_layTune 2 none, Cond.methodLink RX8 117 yX8_append, Cond.instanceMethod yX8_append]
def wsX8_average_r2 : List Cond := [Cond.selects RX8 yX8_append yX8_append, Cond.code yX8_append cX8_append 3 none, Cond.fieldLink RX8 36 "PipersDeskModel" "noteMany" "[I", Cond.fieldLink RX8 39 "PipersDeskModel" "rowPitches" "[I", Cond.fieldLink RX8 26 "PipersDeskModel" "pitches" "[I", Cond.fieldLink RX8 42 "PipersDeskModel" "rowLengths" "[I", Cond.fieldLink RX8 29 "PipersDeskModel" "lengths" "[I", Cond.fieldLink RX8 45 "PipersDeskModel" "rowWishes" "[Z", Cond.fieldLink RX8 32 "PipersDeskModel" "wishes" "[Z", Cond.methodLink RX8 121 yX8_count, Cond.instanceMethod yX8_count, Cond.selects RX8 yX8_count yX8_count, Cond.code yX8_count cX8_count 4 none, Cond.fieldLink RX8 54 "PipersDeskModel" "most" "[I", Cond.methodLink RX8 108 yX8_countAt, Cond.instanceMethod yX8_countAt, Cond.selects RX8 yX8_countAt yX8_countAt, Cond.code yX8_countAt cX8_countAt 11 none, Cond.constant RX8 91 (1000000), Cond.constant RX8 112 (-1000000), Cond.fieldLink RX8 88 "PipersDeskModel" "ornaments" "I", Cond.constant RX8 116 (500000000), Cond.methodLink RX8 113 yX8_at, Cond.instanceMethod yX8_at]
def wsX8_average_r3 : List Cond := [Cond.selects RX8 yX8_at yX8_at, Cond.code yX8_at cX8_at 4 (some .int), Cond.methodLink RX8 95 yX8_between, Cond.instanceMethod yX8_between, Cond.selects RX8 yX8_between yX8_between, Cond.code yX8_between cX8_between 10 (some .int), Cond.fieldLink RX8 20 "PipersDeskModel" "graceMany" "[I", Cond.fieldLink RX8 17 "PipersDeskModel" "graces" "[I", Cond.methodLink RX8 92 yX8_moves, Cond.instanceMethod yX8_moves, Cond.selects RX8 yX8_moves yX8_moves, Cond.code yX8_moves cX8_moves 3 (some .int), Cond.methodLink RX8 81 yX8_bars, Cond.instanceMethod yX8_bars, Cond.selects RX8 yX8_bars yX8_bars, Cond.code yX8_bars cX8_bars 5 (some .boolean), Cond.fieldLink RX8 7 "PipersDeskModel" "holes" "[I", Cond.fieldLink RX8 13 "PipersDeskModel" "limit" "I", Cond.methodLink RX8 70 yX8_costOf, Cond.instanceMethod yX8_costOf, Cond.selects RX8 yX8_costOf yX8_costOf, Cond.code yX8_costOf cX8_costOf 5 (some .int), Cond.methodLink RX8 78 yX8_goesWell, Cond.instanceMethod yX8_goesWell]
def wsX8_average_r4 : List Cond := [Cond.selects RX8 yX8_goesWell yX8_goesWell, Cond.code yX8_goesWell cX8_goesWell 2 (some .boolean), Cond.fieldLink RX8 63 "PipersDeskModel" "thrown" "I"]
def wsX8_average : List Cond := .code yX8_average cX8_average 2 (some .float) :: ((wsX8_average_r1 ++ (wsX8_average_r2 ++ (wsX8_average_r3 ++ wsX8_average_r4))) ++ wsX80)
def wsX8_layOrder : List Cond := .code yX8_layOrder cX8_layOrder 9 (some .boolean) :: ([.fieldLink RX8 57 "PipersDeskModel" "order" "[I", .fieldLink RX8 36 "PipersDeskModel" "noteMany" "[I"] ++ wsX80)
def wsX8_goThrough_r1 : List Cond := [Cond.constant RX8 91 (1000000), Cond.fieldLink RX8 105 "PipersDeskModel" "row" "I", Cond.fieldLink RX8 57 "PipersDeskModel" "order" "[I", Cond.fieldLink RX8 51 "PipersDeskModel" "ways" "[I", Cond.fieldLink RX8 48 "PipersDeskModel" "least" "[I", Cond.fieldLink RX8 60 "PipersDeskModel" "bestOrder" "[I", Cond.methodLink RX8 141 yX8_layOrder, Cond.instanceMethod yX8_layOrder, Cond.selects RX8 yX8_layOrder yX8_layOrder, Cond.initialized RX8, Cond.code yX8_layOrder cX8_layOrder 9 (some .boolean), Cond.fieldLink RX8 36 "PipersDeskModel" "noteMany" "[I", Cond.methodLink RX8 117 yX8_append, Cond.instanceMethod yX8_append, Cond.selects RX8 yX8_append yX8_append, Cond.code yX8_append cX8_append 3 none, Cond.fieldLink RX8 39 "PipersDeskModel" "rowPitches" "[I", Cond.fieldLink RX8 26 "PipersDeskModel" "pitches" "[I", Cond.fieldLink RX8 42 "PipersDeskModel" "rowLengths" "[I", Cond.fieldLink RX8 29 "PipersDeskModel" "lengths" "[I", Cond.fieldLink RX8 45 "PipersDeskModel" "rowWishes" "[Z", Cond.fieldLink RX8 32 "PipersDeskModel" "wishes" "[Z", Cond.methodLink RX8 121 yX8_count, Cond.instanceMethod yX8_count]
def wsX8_goThrough_r2 : List Cond := [Cond.selects RX8 yX8_count yX8_count, Cond.code yX8_count cX8_count 4 none, Cond.fieldLink RX8 54 "PipersDeskModel" "most" "[I", Cond.methodLink RX8 108 yX8_countAt, Cond.instanceMethod yX8_countAt, Cond.selects RX8 yX8_countAt yX8_countAt, Cond.code yX8_countAt cX8_countAt 11 none, Cond.constant RX8 112 (-1000000), Cond.fieldLink RX8 88 "PipersDeskModel" "ornaments" "I", Cond.constant RX8 116 (500000000), Cond.methodLink RX8 113 yX8_at, Cond.instanceMethod yX8_at, Cond.selects RX8 yX8_at yX8_at, Cond.code yX8_at cX8_at 4 (some .int), Cond.methodLink RX8 95 yX8_between, Cond.instanceMethod yX8_between, Cond.selects RX8 yX8_between yX8_between, Cond.code yX8_between cX8_between 10 (some .int), Cond.fieldLink RX8 20 "PipersDeskModel" "graceMany" "[I", Cond.fieldLink RX8 17 "PipersDeskModel" "graces" "[I", Cond.methodLink RX8 92 yX8_moves, Cond.instanceMethod yX8_moves, Cond.selects RX8 yX8_moves yX8_moves, Cond.code yX8_moves cX8_moves 3 (some .int)]
def wsX8_goThrough_r3 : List Cond := [Cond.methodLink RX8 81 yX8_bars, Cond.instanceMethod yX8_bars, Cond.selects RX8 yX8_bars yX8_bars, Cond.code yX8_bars cX8_bars 5 (some .boolean), Cond.fieldLink RX8 7 "PipersDeskModel" "holes" "[I", Cond.fieldLink RX8 13 "PipersDeskModel" "limit" "I", Cond.methodLink RX8 70 yX8_costOf, Cond.instanceMethod yX8_costOf, Cond.selects RX8 yX8_costOf yX8_costOf, Cond.code yX8_costOf cX8_costOf 5 (some .int)]
def wsX8_goThrough : List Cond := .code yX8_goThrough cX8_goThrough 6 (some .int) :: ((wsX8_goThrough_r1 ++ (wsX8_goThrough_r2 ++ wsX8_goThrough_r3)) ++ wsX80)
def wsX8_leastSet_r1 : List Cond := [Cond.constant RX8 91 (1000000), Cond.methodLink RX8 144 yX8_goThrough, Cond.instanceMethod yX8_goThrough, Cond.selects RX8 yX8_goThrough yX8_goThrough, Cond.initialized RX8, Cond.code yX8_goThrough cX8_goThrough 6 (some .int), Cond.fieldLink RX8 105 "PipersDeskModel" "row" "I", Cond.fieldLink RX8 57 "PipersDeskModel" "order" "[I", Cond.fieldLink RX8 51 "PipersDeskModel" "ways" "[I", Cond.fieldLink RX8 48 "PipersDeskModel" "least" "[I", Cond.fieldLink RX8 60 "PipersDeskModel" "bestOrder" "[I", Cond.methodLink RX8 141 yX8_layOrder, Cond.instanceMethod yX8_layOrder, Cond.selects RX8 yX8_layOrder yX8_layOrder, Cond.code yX8_layOrder cX8_layOrder 9 (some .boolean), Cond.fieldLink RX8 36 "PipersDeskModel" "noteMany" "[I", Cond.methodLink RX8 117 yX8_append, Cond.instanceMethod yX8_append, Cond.selects RX8 yX8_append yX8_append, Cond.code yX8_append cX8_append 3 none, Cond.fieldLink RX8 39 "PipersDeskModel" "rowPitches" "[I", Cond.fieldLink RX8 26 "PipersDeskModel" "pitches" "[I", Cond.fieldLink RX8 42 "PipersDeskModel" "rowLengths" "[I", Cond.fieldLink RX8 29 "PipersDeskModel" "lengths" "[I"]
def wsX8_leastSet_r2 : List Cond := [Cond.fieldLink RX8 45 "PipersDeskModel" "rowWishes" "[Z", Cond.fieldLink RX8 32 "PipersDeskModel" "wishes" "[Z", Cond.methodLink RX8 121 yX8_count, Cond.instanceMethod yX8_count, Cond.selects RX8 yX8_count yX8_count, Cond.code yX8_count cX8_count 4 none, Cond.fieldLink RX8 54 "PipersDeskModel" "most" "[I", Cond.methodLink RX8 108 yX8_countAt, Cond.instanceMethod yX8_countAt, Cond.selects RX8 yX8_countAt yX8_countAt, Cond.code yX8_countAt cX8_countAt 11 none, Cond.constant RX8 112 (-1000000), Cond.fieldLink RX8 88 "PipersDeskModel" "ornaments" "I", Cond.constant RX8 116 (500000000), Cond.methodLink RX8 113 yX8_at, Cond.instanceMethod yX8_at, Cond.selects RX8 yX8_at yX8_at, Cond.code yX8_at cX8_at 4 (some .int), Cond.methodLink RX8 95 yX8_between, Cond.instanceMethod yX8_between, Cond.selects RX8 yX8_between yX8_between, Cond.code yX8_between cX8_between 10 (some .int), Cond.fieldLink RX8 20 "PipersDeskModel" "graceMany" "[I", Cond.fieldLink RX8 17 "PipersDeskModel" "graces" "[I"]
def wsX8_leastSet_r3 : List Cond := [Cond.methodLink RX8 92 yX8_moves, Cond.instanceMethod yX8_moves, Cond.selects RX8 yX8_moves yX8_moves, Cond.code yX8_moves cX8_moves 3 (some .int), Cond.methodLink RX8 81 yX8_bars, Cond.instanceMethod yX8_bars, Cond.selects RX8 yX8_bars yX8_bars, Cond.code yX8_bars cX8_bars 5 (some .boolean), Cond.fieldLink RX8 7 "PipersDeskModel" "holes" "[I", Cond.fieldLink RX8 13 "PipersDeskModel" "limit" "I", Cond.methodLink RX8 70 yX8_costOf, Cond.instanceMethod yX8_costOf, Cond.selects RX8 yX8_costOf yX8_costOf, Cond.code yX8_costOf cX8_costOf 5 (some .int), Cond.methodLink RX8 78 yX8_goesWell, Cond.instanceMethod yX8_goesWell, Cond.selects RX8 yX8_goesWell yX8_goesWell, Cond.code yX8_goesWell cX8_goesWell 2 (some .boolean), Cond.fieldLink RX8 63 "PipersDeskModel" "thrown" "I"]
def wsX8_leastSet : List Cond := .code yX8_leastSet cX8_leastSet 2 (some .int) :: ((wsX8_leastSet_r1 ++ (wsX8_leastSet_r2 ++ wsX8_leastSet_r3)) ++ wsX80)
def wsX8_tuneAt_r1 : List Cond := [Cond.constant RX8 91 (1000000), Cond.fieldLink RX8 36 "PipersDeskModel" "noteMany" "[I", Cond.fieldLink RX8 60 "PipersDeskModel" "bestOrder" "[I", Cond.methodLink RX8 144 yX8_goThrough, Cond.instanceMethod yX8_goThrough, Cond.selects RX8 yX8_goThrough yX8_goThrough, Cond.initialized RX8, Cond.code yX8_goThrough cX8_goThrough 6 (some .int), Cond.fieldLink RX8 105 "PipersDeskModel" "row" "I", Cond.fieldLink RX8 57 "PipersDeskModel" "order" "[I", Cond.fieldLink RX8 51 "PipersDeskModel" "ways" "[I", Cond.fieldLink RX8 48 "PipersDeskModel" "least" "[I", Cond.methodLink RX8 141 yX8_layOrder, Cond.instanceMethod yX8_layOrder, Cond.selects RX8 yX8_layOrder yX8_layOrder, Cond.code yX8_layOrder cX8_layOrder 9 (some .boolean), Cond.methodLink RX8 117 yX8_append, Cond.instanceMethod yX8_append, Cond.selects RX8 yX8_append yX8_append, Cond.code yX8_append cX8_append 3 none, Cond.fieldLink RX8 39 "PipersDeskModel" "rowPitches" "[I", Cond.fieldLink RX8 26 "PipersDeskModel" "pitches" "[I", Cond.fieldLink RX8 42 "PipersDeskModel" "rowLengths" "[I", Cond.fieldLink RX8 29 "PipersDeskModel" "lengths" "[I"]
def wsX8_tuneAt_r2 : List Cond := [Cond.fieldLink RX8 45 "PipersDeskModel" "rowWishes" "[Z", Cond.fieldLink RX8 32 "PipersDeskModel" "wishes" "[Z", Cond.methodLink RX8 121 yX8_count, Cond.instanceMethod yX8_count, Cond.selects RX8 yX8_count yX8_count, Cond.code yX8_count cX8_count 4 none, Cond.fieldLink RX8 54 "PipersDeskModel" "most" "[I", Cond.methodLink RX8 108 yX8_countAt, Cond.instanceMethod yX8_countAt, Cond.selects RX8 yX8_countAt yX8_countAt, Cond.code yX8_countAt cX8_countAt 11 none, Cond.constant RX8 112 (-1000000), Cond.fieldLink RX8 88 "PipersDeskModel" "ornaments" "I", Cond.constant RX8 116 (500000000), Cond.methodLink RX8 113 yX8_at, Cond.instanceMethod yX8_at, Cond.selects RX8 yX8_at yX8_at, Cond.code yX8_at cX8_at 4 (some .int), Cond.methodLink RX8 95 yX8_between, Cond.instanceMethod yX8_between, Cond.selects RX8 yX8_between yX8_between, Cond.code yX8_between cX8_between 10 (some .int), Cond.fieldLink RX8 20 "PipersDeskModel" "graceMany" "[I", Cond.fieldLink RX8 17 "PipersDeskModel" "graces" "[I"]
def wsX8_tuneAt_r3 : List Cond := [Cond.methodLink RX8 92 yX8_moves, Cond.instanceMethod yX8_moves, Cond.selects RX8 yX8_moves yX8_moves, Cond.code yX8_moves cX8_moves 3 (some .int), Cond.methodLink RX8 81 yX8_bars, Cond.instanceMethod yX8_bars, Cond.selects RX8 yX8_bars yX8_bars, Cond.code yX8_bars cX8_bars 5 (some .boolean), Cond.fieldLink RX8 7 "PipersDeskModel" "holes" "[I", Cond.fieldLink RX8 13 "PipersDeskModel" "limit" "I", Cond.methodLink RX8 70 yX8_costOf, Cond.instanceMethod yX8_costOf, Cond.selects RX8 yX8_costOf yX8_costOf, Cond.code yX8_costOf cX8_costOf 5 (some .int), Cond.methodLink RX8 66 yX8_in, Cond.static yX8_in, Cond.code yX8_in cX8_in 3 (some .boolean), Cond.methodLink RX8 78 yX8_goesWell, Cond.instanceMethod yX8_goesWell, Cond.selects RX8 yX8_goesWell yX8_goesWell, Cond.code yX8_goesWell cX8_goesWell 2 (some .boolean), Cond.fieldLink RX8 63 "PipersDeskModel" "thrown" "I"]
def wsX8_tuneAt : List Cond := .code yX8_tuneAt cX8_tuneAt 5 (some .int) :: ((wsX8_tuneAt_r1 ++ (wsX8_tuneAt_r2 ++ wsX8_tuneAt_r3)) ++ wsX80)
def wsX8_sets_r1 : List Cond := [Cond.fieldLink RX8 63 "PipersDeskModel" "thrown" "I", Cond.methodLink RX8 144 yX8_goThrough, Cond.instanceMethod yX8_goThrough, Cond.selects RX8 yX8_goThrough yX8_goThrough, Cond.initialized RX8, Cond.code yX8_goThrough cX8_goThrough 6 (some .int), Cond.constant RX8 91 (1000000), Cond.fieldLink RX8 105 "PipersDeskModel" "row" "I", Cond.fieldLink RX8 57 "PipersDeskModel" "order" "[I", Cond.fieldLink RX8 51 "PipersDeskModel" "ways" "[I", Cond.fieldLink RX8 48 "PipersDeskModel" "least" "[I", Cond.fieldLink RX8 60 "PipersDeskModel" "bestOrder" "[I", Cond.methodLink RX8 141 yX8_layOrder, Cond.instanceMethod yX8_layOrder, Cond.selects RX8 yX8_layOrder yX8_layOrder, Cond.code yX8_layOrder cX8_layOrder 9 (some .boolean), Cond.fieldLink RX8 36 "PipersDeskModel" "noteMany" "[I", Cond.methodLink RX8 117 yX8_append, Cond.instanceMethod yX8_append, Cond.selects RX8 yX8_append yX8_append, Cond.code yX8_append cX8_append 3 none, Cond.fieldLink RX8 39 "PipersDeskModel" "rowPitches" "[I", Cond.fieldLink RX8 26 "PipersDeskModel" "pitches" "[I", Cond.fieldLink RX8 42 "PipersDeskModel" "rowLengths" "[I"]
def wsX8_sets_r2 : List Cond := [Cond.fieldLink RX8 29 "PipersDeskModel" "lengths" "[I", Cond.fieldLink RX8 45 "PipersDeskModel" "rowWishes" "[Z", Cond.fieldLink RX8 32 "PipersDeskModel" "wishes" "[Z", Cond.methodLink RX8 121 yX8_count, Cond.instanceMethod yX8_count, Cond.selects RX8 yX8_count yX8_count, Cond.code yX8_count cX8_count 4 none, Cond.fieldLink RX8 54 "PipersDeskModel" "most" "[I", Cond.methodLink RX8 108 yX8_countAt, Cond.instanceMethod yX8_countAt, Cond.selects RX8 yX8_countAt yX8_countAt, Cond.code yX8_countAt cX8_countAt 11 none, Cond.constant RX8 112 (-1000000), Cond.fieldLink RX8 88 "PipersDeskModel" "ornaments" "I", Cond.constant RX8 116 (500000000), Cond.methodLink RX8 113 yX8_at, Cond.instanceMethod yX8_at, Cond.selects RX8 yX8_at yX8_at, Cond.code yX8_at cX8_at 4 (some .int), Cond.methodLink RX8 95 yX8_between, Cond.instanceMethod yX8_between, Cond.selects RX8 yX8_between yX8_between, Cond.code yX8_between cX8_between 10 (some .int), Cond.fieldLink RX8 20 "PipersDeskModel" "graceMany" "[I"]
def wsX8_sets_r3 : List Cond := [Cond.fieldLink RX8 17 "PipersDeskModel" "graces" "[I", Cond.methodLink RX8 92 yX8_moves, Cond.instanceMethod yX8_moves, Cond.selects RX8 yX8_moves yX8_moves, Cond.code yX8_moves cX8_moves 3 (some .int), Cond.methodLink RX8 81 yX8_bars, Cond.instanceMethod yX8_bars, Cond.selects RX8 yX8_bars yX8_bars, Cond.code yX8_bars cX8_bars 5 (some .boolean), Cond.fieldLink RX8 7 "PipersDeskModel" "holes" "[I", Cond.fieldLink RX8 13 "PipersDeskModel" "limit" "I", Cond.methodLink RX8 70 yX8_costOf, Cond.instanceMethod yX8_costOf, Cond.selects RX8 yX8_costOf yX8_costOf, Cond.code yX8_costOf cX8_costOf 5 (some .int)]
def wsX8_sets : List Cond := .code yX8_sets cX8_sets 1 (some .int) :: ((wsX8_sets_r1 ++ (wsX8_sets_r2 ++ wsX8_sets_r3)) ++ wsX80)
def wsJ9_min_7cf53 : List Cond := .code yJ9_min_7cf53 cJ9_min_7cf53 2 (some .int) :: ([])
def wsL_cost : List Cond := .codeWith yL_cost cL_cost 5 (some .int) [(0, 10, 13, 13)] :: ([.classLink RL 13 "java/lang/IllegalArgumentException", .methodLink RL 7 yX7_cost, .instanceMethod yX7_cost, .selects RX7 yX7_cost yX7_cost, .initialized RX7, .code yX7_cost cX7_cost 3 (some .int), .methodLink RX7 44 yX7_checkPitch, .static yX7_checkPitch, .code yX7_checkPitch cX7_checkPitch 1 none, .classLink RX7 56 "java/lang/IllegalArgumentException", .initialized "java/lang/IllegalArgumentException", .methodLink RX7 48 yX0_holesMoved, .static yX0_holesMoved, .initialized RX0, .code yX0_holesMoved cX0_holesMoved 2 (some .int), .methodLink RX0 24 yJ6_bitCount_0f7a4, .static yJ6_bitCount_0f7a4, .initialized RJ6, .code yJ6_bitCount_0f7a4 cJ6_bitCount_0f7a4 1 (some .int), .constant RJ6 265 (1431655765), .constant RJ6 266 (858993459), .constant RJ6 267 (252645135)] ++ (vx_atS RX7 60 "java/lang/IllegalArgumentException" ["java/lang/RuntimeException", "java/lang/Exception"]).filter goodWord)
def wsL_isBarred : List Cond := .codeWith yL_isBarred cL_isBarred 5 (some .int) [(0, 17, 20, 13)] :: ([.classLink RL 13 "java/lang/IllegalArgumentException", .methodLink RL 15 yX7_isBarred, .instanceMethod yX7_isBarred, .selects RX7 yX7_isBarred yX7_isBarred, .initialized RX7, .code yX7_isBarred cX7_isBarred 3 (some .boolean), .fieldLink RX7 12 "PipersDesk" "fingers" "LPipersDesk$Fingers;", .methodLink RX7 44 yX7_checkPitch, .static yX7_checkPitch, .code yX7_checkPitch cX7_checkPitch 1 none, .classLink RX7 56 "java/lang/IllegalArgumentException", .initialized "java/lang/IllegalArgumentException", .methodLink RX7 52 yX0_bars, .instanceMethod yX0_bars, .selects RX0 yX0_bars yX0_bars, .initialized RX0, .code yX0_bars cX0_bars 3 (some .boolean), .fieldLink RX0 11 "PipersDesk$Fingers" "stepCosts" "[[I", .constant RX0 37 (1000000)] ++ wsX70 ++ wsX00 ++ (vx_atS RX7 60 "java/lang/IllegalArgumentException" ["java/lang/RuntimeException", "java/lang/Exception"]).filter goodWord)
def wsL_setLimit_r1 : List Cond := [Cond.classLink RL 13 "java/lang/IllegalArgumentException", Cond.methodLink RL 19 yX7_setLimit, Cond.instanceMethod yX7_setLimit, Cond.selects RX7 yX7_setLimit yX7_setLimit, Cond.initialized RX7, Cond.code yX7_setLimit cX7_setLimit 2 (some .int), Cond.classLink RX7 56 "java/lang/IllegalArgumentException", Cond.initialized "java/lang/IllegalArgumentException", Cond.fieldLink RX7 12 "PipersDesk" "fingers" "LPipersDesk$Fingers;", Cond.methodLink RX7 63 yX0_limitTo, Cond.instanceMethod yX0_limitTo, Cond.selects RX0 yX0_limitTo yX0_limitTo, Cond.initialized RX0, Cond.code yX0_limitTo cX0_limitTo 7 (some .int), Cond.fieldLink RX0 11 "PipersDesk$Fingers" "stepCosts" "[[I", Cond.constant RX0 37 (1000000), Cond.methodLink RX0 29 yX0_holesMoved, Cond.static yX0_holesMoved, Cond.code yX0_holesMoved cX0_holesMoved 2 (some .int), Cond.methodLink RX0 24 yJ6_bitCount_0f7a4, Cond.static yJ6_bitCount_0f7a4, Cond.initialized RJ6, Cond.code yJ6_bitCount_0f7a4 cJ6_bitCount_0f7a4 1 (some .int), Cond.constant RJ6 265 (1431655765)]
def wsL_setLimit_r2 : List Cond := [Cond.constant RJ6 266 (858993459), Cond.constant RJ6 267 (252645135), Cond.methodLink RX0 33 yX0_crosses, Cond.static yX0_crosses, Cond.code yX0_crosses cX0_crosses 4 (some .boolean)]
def wsL_setLimit : List Cond := .codeWith yL_setLimit cL_setLimit 4 (some .int) [(0, 9, 12, 13)] :: ((wsL_setLimit_r1 ++ wsL_setLimit_r2) ++ wsX70 ++ wsX00 ++ (vx_atS RX7 60 "java/lang/IllegalArgumentException" ["java/lang/RuntimeException", "java/lang/Exception"]).filter goodWord)
def wsL_grace : List Cond := .codeWith yL_grace cL_grace 4 (some .int) [(0, 9, 12, 13), (0, 9, 15, 26)] :: ([.classLink RL 13 "java/lang/IllegalArgumentException", .classLink RL 26 "java/lang/IllegalStateException", .methodLink RL 23 yX7_grace, .instanceMethod yX7_grace, .selects RX7 yX7_grace yX7_grace, .initialized RX7, .code yX7_grace cX7_grace 2 (some .int), .classLink RX7 56 "java/lang/IllegalArgumentException", .initialized "java/lang/IllegalArgumentException", .classLink RX7 73 "java/lang/IllegalStateException", .initialized "java/lang/IllegalStateException", .fieldLink RX7 19 "PipersDesk" "book" "LPipersDesk$OrnamentBook;", .methodLink RX7 69 yX3_isDraftFull, .instanceMethod yX3_isDraftFull, .selects RX3 yX3_isDraftFull yX3_isDraftFull, .initialized RX3, .code yX3_isDraftFull cX3_isDraftFull 1 (some .boolean), .fieldLink RX3 25 "PipersDesk$OrnamentBook" "draftSize" "I", .methodLink RX7 78 yX3_addToDraft, .instanceMethod yX3_addToDraft, .selects RX3 yX3_addToDraft yX3_addToDraft, .code yX3_addToDraft cX3_addToDraft 2 (some .int), .fieldLink RX3 17 "PipersDesk$OrnamentBook" "draft" "[I"] ++ wsX70 ++ wsX30 ++ (vx_atS RX7 60 "java/lang/IllegalArgumentException" ["java/lang/RuntimeException", "java/lang/Exception"]).filter goodWord ++ (vx_atS RX7 77 "java/lang/IllegalStateException" ["java/lang/RuntimeException", "java/lang/Exception"]).filter goodWord)
def wsL_enter_r1 : List Cond := [Cond.classLink RL 26 "java/lang/IllegalStateException", Cond.methodLink RL 28 yX7_enter, Cond.instanceMethod yX7_enter, Cond.selects RX7 yX7_enter yX7_enter, Cond.initialized RX7, Cond.code yX7_enter cX7_enter 1 (some .int), Cond.classLink RX7 73 "java/lang/IllegalStateException", Cond.initialized "java/lang/IllegalStateException", Cond.fieldLink RX7 19 "PipersDesk" "book" "LPipersDesk$OrnamentBook;", Cond.methodLink RX7 81 yX3_isDraftEmpty, Cond.instanceMethod yX3_isDraftEmpty, Cond.selects RX3 yX3_isDraftEmpty yX3_isDraftEmpty, Cond.initialized RX3, Cond.code yX3_isDraftEmpty cX3_isDraftEmpty 1 (some .boolean), Cond.fieldLink RX3 25 "PipersDesk$OrnamentBook" "draftSize" "I", Cond.methodLink RX7 84 yX3_isFull, Cond.instanceMethod yX3_isFull, Cond.selects RX3 yX3_isFull yX3_isFull, Cond.code yX3_isFull cX3_isFull 1 (some .boolean), Cond.fieldLink RX3 21 "PipersDesk$OrnamentBook" "size" "I", Cond.methodLink RX7 89 yX3_enterDraft, Cond.instanceMethod yX3_enterDraft, Cond.selects RX3 yX3_enterDraft yX3_enterDraft, Cond.code yX3_enterDraft cX3_enterDraft 1 (some .int)]
def wsL_enter_r2 : List Cond := [Cond.fieldLink RX3 11 "PipersDesk$OrnamentBook" "entries" "[LPipersDesk$Ornament;", Cond.classLink RX3 9 RX2, Cond.instantiable RX2 1, Cond.initialized RX2, Cond.fieldLink RX3 17 "PipersDesk$OrnamentBook" "draft" "[I", Cond.methodLink RX3 28 yJ7_copyOf_59c91, Cond.static yJ7_copyOf_59c91, Cond.initialized RJ7, Cond.code yJ7_copyOf_59c91 cJ7_copyOf_59c91 3 (some (.array .int)), Cond.methodLink RJ7 316 ⟨"[I", "clone", "()Ljava/lang/Object;"⟩, Cond.sameMethod "[I" "java/lang/Object" "clone" "()Ljava/lang/Object;", Cond.native ⟨"java/lang/Object", "clone", "()Ljava/lang/Object;"⟩, Cond.instanceMethod ⟨"java/lang/Object", "clone", "()Ljava/lang/Object;"⟩, Cond.selects "[I" ⟨"[I", "clone", "()Ljava/lang/Object;"⟩ ⟨"java/lang/Object", "clone", "()Ljava/lang/Object;"⟩, Cond.classLink RJ7 317 "[I", Cond.arrayClass .int, Cond.methodLink RJ7 304 Lib.Math.min.name, Cond.static Lib.Math.min.name, Cond.initialized "java/lang/Math", Cond.code Lib.Math.min.name Lib.Math.min.code 2 (some .int), Cond.methodLink RJ7 150 arraycopyName, Cond.native arraycopyName, Cond.static arraycopyName, Cond.initialized "java/lang/System"]
def wsL_enter_r3 : List Cond := [Cond.methodLink RX3 34 yX2_init, Cond.instanceMethod yX2_init, Cond.code yX2_init cX2_init 2 none, Cond.methodLink RX2 3 objectInit, Cond.instanceMethod objectInit, Cond.code objectInit ⟨#[0xb1]⟩ 1 none, Cond.fieldLink RX2 9 "PipersDesk$Ornament" "graces" "[I"]
def wsL_enter : List Cond := .codeWith yL_enter cL_enter 3 (some .int) [(0, 8, 11, 26)] :: ((wsL_enter_r1 ++ (wsL_enter_r2 ++ wsL_enter_r3)) ++ wsX70 ++ wsX30 ++ wsX20 ++ (vx_atS RX7 77 "java/lang/IllegalStateException" ["java/lang/RuntimeException", "java/lang/Exception"]).filter goodWord)
def wsL_fits_r1 : List Cond := [Cond.classLink RL 36 "java/lang/IndexOutOfBoundsException", Cond.classLink RL 13 "java/lang/IllegalArgumentException", Cond.methodLink RL 32 yX7_fits, Cond.instanceMethod yX7_fits, Cond.selects RX7 yX7_fits yX7_fits, Cond.initialized RX7, Cond.code yX7_fits cX7_fits 5 (some .boolean), Cond.classLink RX7 96 "java/lang/IndexOutOfBoundsException", Cond.initialized "java/lang/IndexOutOfBoundsException", Cond.fieldLink RX7 19 "PipersDesk" "book" "LPipersDesk$OrnamentBook;", Cond.fieldLink RX7 12 "PipersDesk" "fingers" "LPipersDesk$Fingers;", Cond.constant RX7 108 (1000000), Cond.methodLink RX7 93 yX3_size, Cond.instanceMethod yX3_size, Cond.selects RX3 yX3_size yX3_size, Cond.initialized RX3, Cond.code yX3_size cX3_size 1 (some .int), Cond.fieldLink RX3 21 "PipersDesk$OrnamentBook" "size" "I", Cond.methodLink RX7 44 yX7_checkPitch, Cond.static yX7_checkPitch, Cond.code yX7_checkPitch cX7_checkPitch 1 none, Cond.classLink RX7 56 "java/lang/IllegalArgumentException", Cond.initialized "java/lang/IllegalArgumentException", Cond.methodLink RX7 101 yX7_checkLength]
def wsL_fits_r2 : List Cond := [Cond.static yX7_checkLength, Cond.code yX7_checkLength cX7_checkLength 1 none, Cond.methodLink RX7 104 yX3_costOf, Cond.instanceMethod yX3_costOf, Cond.selects RX3 yX3_costOf yX3_costOf, Cond.code yX3_costOf cX3_costOf 7 (some .int), Cond.fieldLink RX3 11 "PipersDesk$OrnamentBook" "entries" "[LPipersDesk$Ornament;", Cond.constant RX3 37 (1000000), Cond.methodLink RX3 38 yX2_costBetween, Cond.instanceMethod yX2_costBetween, Cond.selects RX2 yX2_costBetween yX2_costBetween, Cond.initialized RX2, Cond.code yX2_costBetween cX2_costBetween 9 (some .int), Cond.fieldLink RX2 9 "PipersDesk$Ornament" "graces" "[I", Cond.constant RX2 15 (1000000), Cond.methodLink RX2 26 Lib.Math.min.name, Cond.static Lib.Math.min.name, Cond.initialized "java/lang/Math", Cond.code Lib.Math.min.name Lib.Math.min.code 2 (some .int), Cond.methodLink RX2 16 yX2_soundOf, Cond.static yX2_soundOf, Cond.code yX2_soundOf cX2_soundOf 3 (some .int), Cond.methodLink RX2 20 yX0_stepCost, Cond.instanceMethod yX0_stepCost]
def wsL_fits_r3 : List Cond := [Cond.selects RX0 yX0_stepCost yX0_stepCost, Cond.initialized RX0, Cond.code yX0_stepCost cX0_stepCost 3 (some .int), Cond.fieldLink RX0 11 "PipersDesk$Fingers" "stepCosts" "[[I"]
def wsL_fits : List Cond := .codeWith yL_fits cL_fits 7 (some .int) [(0, 21, 24, 36), (0, 21, 28, 13)] :: ((wsL_fits_r1 ++ (wsL_fits_r2 ++ wsL_fits_r3)) ++ wsX70 ++ wsX30 ++ wsX20 ++ wsX00 ++ (vx_atS RX7 100 "java/lang/IndexOutOfBoundsException" ["java/lang/RuntimeException", "java/lang/Exception"]).filter goodWord ++ (vx_atS RX7 60 "java/lang/IllegalArgumentException" ["java/lang/RuntimeException", "java/lang/Exception"]).filter goodWord)
def wsL_addNote_r1 : List Cond := [Cond.classLink RL 13 "java/lang/IllegalArgumentException", Cond.classLink RL 26 "java/lang/IllegalStateException", Cond.methodLink RL 38 yX7_addNote, Cond.instanceMethod yX7_addNote, Cond.selects RX7 yX7_addNote yX7_addNote, Cond.initialized RX7, Cond.code yX7_addNote cX7_addNote 4 (some .int), Cond.classLink RX7 73 "java/lang/IllegalStateException", Cond.initialized "java/lang/IllegalStateException", Cond.fieldLink RX7 25 "PipersDesk" "tunes" "[LPipersDesk$Tune;", Cond.methodLink RX7 109 yX7_checkTune, Cond.static yX7_checkTune, Cond.code yX7_checkTune cX7_checkTune 1 none, Cond.classLink RX7 56 "java/lang/IllegalArgumentException", Cond.initialized "java/lang/IllegalArgumentException", Cond.methodLink RX7 44 yX7_checkPitch, Cond.static yX7_checkPitch, Cond.code yX7_checkPitch cX7_checkPitch 1 none, Cond.methodLink RX7 101 yX7_checkLength, Cond.static yX7_checkLength, Cond.code yX7_checkLength cX7_checkLength 1 none, Cond.methodLink RX7 112 yX5_size, Cond.instanceMethod yX5_size, Cond.selects RX5 yX5_size yX5_size]
def wsL_addNote_r2 : List Cond := [Cond.initialized RX5, Cond.code yX5_size cX5_size 1 (some .int), Cond.fieldLink RX5 27 "PipersDesk$Tune" "size" "I", Cond.methodLink RX7 115 yX5_append, Cond.instanceMethod yX5_append, Cond.selects RX5 yX5_append yX5_append, Cond.code yX5_append cX5_append 3 (some .int), Cond.fieldLink RX5 18 "PipersDesk$Tune" "wishes" "[Z", Cond.fieldLink RX5 9 "PipersDesk$Tune" "pitches" "[I", Cond.fieldLink RX5 15 "PipersDesk$Tune" "lengths" "[I"]
def wsL_addNote : List Cond := .codeWith yL_addNote cL_addNote 6 (some .int) [(0, 12, 15, 13), (0, 12, 19, 26)] :: ((wsL_addNote_r1 ++ wsL_addNote_r2) ++ wsX70 ++ wsX50 ++ (vx_atS RX7 77 "java/lang/IllegalStateException" ["java/lang/RuntimeException", "java/lang/Exception"]).filter goodWord ++ (vx_atS RX7 60 "java/lang/IllegalArgumentException" ["java/lang/RuntimeException", "java/lang/Exception"]).filter goodWord)
def wsL_removeNote_r1 : List Cond := [Cond.classLink RL 13 "java/lang/IllegalArgumentException", Cond.classLink RL 45 "java/util/NoSuchElementException", Cond.methodLink RL 42 yX7_removeNote, Cond.instanceMethod yX7_removeNote, Cond.selects RX7 yX7_removeNote yX7_removeNote, Cond.initialized RX7, Cond.code yX7_removeNote cX7_removeNote 2 (some .int), Cond.classLink RX7 118 "java/util/NoSuchElementException", Cond.initialized "java/util/NoSuchElementException", Cond.fieldLink RX7 25 "PipersDesk" "tunes" "[LPipersDesk$Tune;", Cond.methodLink RX7 109 yX7_checkTune, Cond.static yX7_checkTune, Cond.code yX7_checkTune cX7_checkTune 1 none, Cond.classLink RX7 56 "java/lang/IllegalArgumentException", Cond.initialized "java/lang/IllegalArgumentException", Cond.methodLink RX7 112 yX5_size, Cond.instanceMethod yX5_size, Cond.selects RX5 yX5_size yX5_size, Cond.initialized RX5, Cond.code yX5_size cX5_size 1 (some .int), Cond.fieldLink RX5 27 "PipersDesk$Tune" "size" "I", Cond.methodLink RX7 123 yX5_dropLast, Cond.instanceMethod yX5_dropLast, Cond.selects RX5 yX5_dropLast yX5_dropLast]
def wsL_removeNote_r2 : List Cond := [Cond.code yX5_dropLast cX5_dropLast 1 (some .int), Cond.fieldLink RX5 9 "PipersDesk$Tune" "pitches" "[I"]
def wsL_removeNote : List Cond := .codeWith yL_removeNote cL_removeNote 4 (some .int) [(0, 9, 12, 13), (0, 9, 15, 45)] :: ((wsL_removeNote_r1 ++ wsL_removeNote_r2) ++ wsX70 ++ wsX50 ++ nsW ++ (vx_atS RX7 60 "java/lang/IllegalArgumentException" ["java/lang/RuntimeException", "java/lang/Exception"]).filter goodWord)
def wsL_setWish_r1 : List Cond := [Cond.classLink RL 13 "java/lang/IllegalArgumentException", Cond.classLink RL 36 "java/lang/IndexOutOfBoundsException", Cond.methodLink RL 47 yX7_setWish, Cond.instanceMethod yX7_setWish, Cond.selects RX7 yX7_setWish yX7_setWish, Cond.initialized RX7, Cond.code yX7_setWish cX7_setWish 4 (some .boolean), Cond.fieldLink RX7 25 "PipersDesk" "tunes" "[LPipersDesk$Tune;", Cond.methodLink RX7 109 yX7_checkTune, Cond.static yX7_checkTune, Cond.code yX7_checkTune cX7_checkTune 1 none, Cond.classLink RX7 56 "java/lang/IllegalArgumentException", Cond.initialized "java/lang/IllegalArgumentException", Cond.methodLink RX7 126 yX7_checkGap, Cond.instanceMethod yX7_checkGap, Cond.selects RX7 yX7_checkGap yX7_checkGap, Cond.code yX7_checkGap cX7_checkGap 3 none, Cond.classLink RX7 96 "java/lang/IndexOutOfBoundsException", Cond.initialized "java/lang/IndexOutOfBoundsException", Cond.methodLink RX7 142 yX5_gaps, Cond.instanceMethod yX5_gaps, Cond.selects RX5 yX5_gaps yX5_gaps, Cond.initialized RX5, Cond.code yX5_gaps cX5_gaps 1 (some .int)]
def wsL_setWish_r2 : List Cond := [Cond.fieldLink RX5 27 "PipersDesk$Tune" "size" "I", Cond.methodLink RX7 130 yX5_replaceWish, Cond.instanceMethod yX5_replaceWish, Cond.selects RX5 yX5_replaceWish yX5_replaceWish, Cond.code yX5_replaceWish cX5_replaceWish 4 (some .boolean), Cond.fieldLink RX5 18 "PipersDesk$Tune" "wishes" "[Z"]
def wsL_setWish : List Cond := .codeWith yL_setWish cL_setWish 6 (some .int) [(0, 19, 22, 13), (0, 19, 26, 36)] :: ((wsL_setWish_r1 ++ wsL_setWish_r2) ++ wsX70 ++ wsX50 ++ (vx_atS RX7 60 "java/lang/IllegalArgumentException" ["java/lang/RuntimeException", "java/lang/Exception"]).filter goodWord ++ (vx_atS RX7 100 "java/lang/IndexOutOfBoundsException" ["java/lang/RuntimeException", "java/lang/Exception"]).filter goodWord)
def wsL_notes : List Cond := .codeWith yL_notes cL_notes 4 (some .int) [(0, 9, 12, 13)] :: ([.classLink RL 13 "java/lang/IllegalArgumentException", .methodLink RL 51 yX7_notes, .instanceMethod yX7_notes, .selects RX7 yX7_notes yX7_notes, .initialized RX7, .code yX7_notes cX7_notes 2 (some .int), .fieldLink RX7 25 "PipersDesk" "tunes" "[LPipersDesk$Tune;", .methodLink RX7 109 yX7_checkTune, .static yX7_checkTune, .code yX7_checkTune cX7_checkTune 1 none, .classLink RX7 56 "java/lang/IllegalArgumentException", .initialized "java/lang/IllegalArgumentException", .methodLink RX7 112 yX5_size, .instanceMethod yX5_size, .selects RX5 yX5_size yX5_size, .initialized RX5, .code yX5_size cX5_size 1 (some .int), .fieldLink RX5 27 "PipersDesk$Tune" "size" "I"] ++ wsX70 ++ wsX50 ++ (vx_atS RX7 60 "java/lang/IllegalArgumentException" ["java/lang/RuntimeException", "java/lang/Exception"]).filter goodWord)
def wsL_time_r1 : List Cond := [Cond.classLink RL 13 "java/lang/IllegalArgumentException", Cond.classLink RL 36 "java/lang/IndexOutOfBoundsException", Cond.classLink RL 26 "java/lang/IllegalStateException", Cond.methodLink RL 54 yX7_time, Cond.instanceMethod yX7_time, Cond.selects RX7 yX7_time yX7_time, Cond.initialized RX7, Cond.code yX7_time cX7_time 4 (some .int), Cond.classLink RX7 96 "java/lang/IndexOutOfBoundsException", Cond.initialized "java/lang/IndexOutOfBoundsException", Cond.fieldLink RX7 25 "PipersDesk" "tunes" "[LPipersDesk$Tune;", Cond.fieldLink RX7 19 "PipersDesk" "book" "LPipersDesk$OrnamentBook;", Cond.fieldLink RX7 33 "PipersDesk" "tuneChoices" "LPipersDesk$TuneChoices;", Cond.methodLink RX7 109 yX7_checkTune, Cond.static yX7_checkTune, Cond.code yX7_checkTune cX7_checkTune 1 none, Cond.classLink RX7 56 "java/lang/IllegalArgumentException", Cond.initialized "java/lang/IllegalArgumentException", Cond.methodLink RX7 112 yX5_size, Cond.instanceMethod yX5_size, Cond.selects RX5 yX5_size yX5_size, Cond.initialized RX5, Cond.code yX5_size cX5_size 1 (some .int), Cond.fieldLink RX5 27 "PipersDesk$Tune" "size" "I"]
def wsL_time_r2 : List Cond := [Cond.methodLink RX7 136 yX7_solve, Cond.instanceMethod yX7_solve, Cond.selects RX7 yX7_solve yX7_solve, Cond.code yX7_solve cX7_solve 3 (some .int), Cond.classLink RX7 73 "java/lang/IllegalStateException", Cond.initialized "java/lang/IllegalStateException", Cond.fieldLink RX7 12 "PipersDesk" "fingers" "LPipersDesk$Fingers;", Cond.constant RX7 108 (1000000), Cond.methodLink RX7 151 yX5_weighGaps, Cond.instanceMethod yX5_weighGaps, Cond.selects RX5 yX5_weighGaps yX5_weighGaps, Cond.code yX5_weighGaps cX5_weighGaps 5 none, Cond.fieldLink RX5 9 "PipersDesk$Tune" "pitches" "[I", Cond.fieldLink RX5 15 "PipersDesk$Tune" "lengths" "[I", Cond.fieldLink RX5 18 "PipersDesk$Tune" "wishes" "[Z", Cond.fieldLink RX5 24 "PipersDesk$Tune" "gapCosts" "[[I", Cond.methodLink RX5 31 yX3_weigh, Cond.instanceMethod yX3_weigh, Cond.selects RX3 yX3_weigh yX3_weigh, Cond.initialized RX3, Cond.code yX3_weigh cX3_weigh 8 none, Cond.constant RX3 37 (1000000), Cond.methodLink RX3 45 yX0_stepCost, Cond.instanceMethod yX0_stepCost]
def wsL_time_r3 : List Cond := [Cond.selects RX0 yX0_stepCost yX0_stepCost, Cond.initialized RX0, Cond.code yX0_stepCost cX0_stepCost 3 (some .int), Cond.fieldLink RX0 11 "PipersDesk$Fingers" "stepCosts" "[[I", Cond.methodLink RX3 51 yX3_costOf, Cond.instanceMethod yX3_costOf, Cond.selects RX3 yX3_costOf yX3_costOf, Cond.code yX3_costOf cX3_costOf 7 (some .int), Cond.fieldLink RX3 11 "PipersDesk$OrnamentBook" "entries" "[LPipersDesk$Ornament;", Cond.methodLink RX3 38 yX2_costBetween, Cond.instanceMethod yX2_costBetween, Cond.selects RX2 yX2_costBetween yX2_costBetween, Cond.initialized RX2, Cond.code yX2_costBetween cX2_costBetween 9 (some .int), Cond.fieldLink RX2 9 "PipersDesk$Ornament" "graces" "[I", Cond.constant RX2 15 (1000000), Cond.methodLink RX2 26 Lib.Math.min.name, Cond.static Lib.Math.min.name, Cond.initialized "java/lang/Math", Cond.code Lib.Math.min.name Lib.Math.min.code 2 (some .int), Cond.methodLink RX2 16 yX2_soundOf, Cond.static yX2_soundOf, Cond.code yX2_soundOf cX2_soundOf 3 (some .int), Cond.methodLink RX2 20 yX0_stepCost]
def wsL_time_r4 : List Cond := [Cond.methodLink RX7 188 yX6_solveFor, Cond.instanceMethod yX6_solveFor, Cond.selects RX6 yX6_solveFor yX6_solveFor, Cond.initialized RX6, Cond.code yX6_solveFor cX6_solveFor 3 (some .int), Cond.fieldLink RX6 11 "PipersDesk$TuneChoices" "rows" "[LPipersDesk$Leasts;", Cond.methodLink RX6 29 yX5_gaps, Cond.instanceMethod yX5_gaps, Cond.selects RX5 yX5_gaps yX5_gaps, Cond.code yX5_gaps cX5_gaps 1 (some .int), Cond.methodLink RX6 35 yX1_startRow, Cond.instanceMethod yX1_startRow, Cond.selects RX1 yX1_startRow yX1_startRow, Cond.initialized RX1, Cond.code yX1_startRow cX1_startRow 1 none, Cond.fieldLink RX1 9 "PipersDesk$Leasts" "costs" "[I", Cond.constant RX1 15 (1000000), Cond.methodLink RX1 16 yJ7_fill_53178, Cond.static yJ7_fill_53178, Cond.initialized RJ7, Cond.code yJ7_fill_53178 cJ7_fill_53178 4 none, Cond.methodLink RX6 38 yX5_costsAt, Cond.instanceMethod yX5_costsAt, Cond.selects RX5 yX5_costsAt yX5_costsAt]
def wsL_time_r5 : List Cond := [Cond.code yX5_costsAt cX5_costsAt 2 (some (.array .int)), Cond.methodLink RX6 42 yX1_growFrom, Cond.instanceMethod yX1_growFrom, Cond.selects RX1 yX1_growFrom yX1_growFrom, Cond.code yX1_growFrom cX1_growFrom 8 none, Cond.methodLink RX1 26 Lib.Math.min.name, Cond.methodLink RX1 22 yX1_firstLeastBeside, Cond.instanceMethod yX1_firstLeastBeside, Cond.selects RX1 yX1_firstLeastBeside yX1_firstLeastBeside, Cond.code yX1_firstLeastBeside cX1_firstLeastBeside 4 (some .int), Cond.methodLink RX6 46 yX1_leastOfAll, Cond.instanceMethod yX1_leastOfAll, Cond.selects RX1 yX1_leastOfAll yX1_leastOfAll, Cond.code yX1_leastOfAll cX1_leastOfAll 1 (some .int), Cond.methodLink RX7 139 yX5_lengthOf, Cond.instanceMethod yX5_lengthOf, Cond.selects RX5 yX5_lengthOf yX5_lengthOf, Cond.code yX5_lengthOf cX5_lengthOf 2 (some .int), Cond.methodLink RX7 142 yX5_gaps, Cond.methodLink RX7 145 yX6_firstAt, Cond.instanceMethod yX6_firstAt, Cond.selects RX6 yX6_firstAt yX6_firstAt, Cond.code yX6_firstAt cX6_firstAt 4 (some .int), Cond.methodLink RX6 49 yX1_firstLeastBeside]
def wsL_time_r6 : List Cond := [Cond.methodLink RX7 148 yX3_gracesOf, Cond.instanceMethod yX3_gracesOf, Cond.selects RX3 yX3_gracesOf yX3_gracesOf, Cond.code yX3_gracesOf cX3_gracesOf 3 (some .int), Cond.methodLink RX3 42 yX2_size, Cond.instanceMethod yX2_size, Cond.selects RX2 yX2_size yX2_size, Cond.code yX2_size cX2_size 1 (some .int)]
def wsL_time : List Cond := .codeWith yL_time cL_time 5 (some .int) [(0, 10, 13, 13), (0, 10, 17, 36), (0, 10, 21, 26)] :: ((wsL_time_r1 ++ (wsL_time_r2 ++ (wsL_time_r3 ++ (wsL_time_r4 ++ (wsL_time_r5 ++ wsL_time_r6))))) ++ wsX70 ++ wsX50 ++ wsX00 ++ wsX30 ++ wsX20 ++ wsX60 ++ wsX10 ++ (vx_atS RX7 100 "java/lang/IndexOutOfBoundsException" ["java/lang/RuntimeException", "java/lang/Exception"]).filter goodWord ++ (vx_atS RX7 60 "java/lang/IllegalArgumentException" ["java/lang/RuntimeException", "java/lang/Exception"]).filter goodWord ++ (vx_atS RX7 77 "java/lang/IllegalStateException" ["java/lang/RuntimeException", "java/lang/Exception"]).filter goodWord)
def wsL_fitting_r1 : List Cond := [Cond.classLink RL 13 "java/lang/IllegalArgumentException", Cond.classLink RL 36 "java/lang/IndexOutOfBoundsException", Cond.methodLink RL 57 yX7_fitting, Cond.instanceMethod yX7_fitting, Cond.selects RX7 yX7_fitting yX7_fitting, Cond.initialized RX7, Cond.code yX7_fitting cX7_fitting 6 (some .int), Cond.fieldLink RX7 25 "PipersDesk" "tunes" "[LPipersDesk$Tune;", Cond.fieldLink RX7 12 "PipersDesk" "fingers" "LPipersDesk$Fingers;", Cond.fieldLink RX7 19 "PipersDesk" "book" "LPipersDesk$OrnamentBook;", Cond.constant RX7 108 (1000000), Cond.methodLink RX7 109 yX7_checkTune, Cond.static yX7_checkTune, Cond.code yX7_checkTune cX7_checkTune 1 none, Cond.classLink RX7 56 "java/lang/IllegalArgumentException", Cond.initialized "java/lang/IllegalArgumentException", Cond.methodLink RX7 126 yX7_checkGap, Cond.instanceMethod yX7_checkGap, Cond.selects RX7 yX7_checkGap yX7_checkGap, Cond.code yX7_checkGap cX7_checkGap 3 none, Cond.classLink RX7 96 "java/lang/IndexOutOfBoundsException", Cond.initialized "java/lang/IndexOutOfBoundsException", Cond.methodLink RX7 142 yX5_gaps, Cond.instanceMethod yX5_gaps]
def wsL_fitting_r2 : List Cond := [Cond.selects RX5 yX5_gaps yX5_gaps, Cond.initialized RX5, Cond.code yX5_gaps cX5_gaps 1 (some .int), Cond.fieldLink RX5 27 "PipersDesk$Tune" "size" "I", Cond.methodLink RX7 151 yX5_weighGaps, Cond.instanceMethod yX5_weighGaps, Cond.selects RX5 yX5_weighGaps yX5_weighGaps, Cond.code yX5_weighGaps cX5_weighGaps 5 none, Cond.fieldLink RX5 9 "PipersDesk$Tune" "pitches" "[I", Cond.fieldLink RX5 15 "PipersDesk$Tune" "lengths" "[I", Cond.fieldLink RX5 18 "PipersDesk$Tune" "wishes" "[Z", Cond.fieldLink RX5 24 "PipersDesk$Tune" "gapCosts" "[[I", Cond.methodLink RX5 31 yX3_weigh, Cond.instanceMethod yX3_weigh, Cond.selects RX3 yX3_weigh yX3_weigh, Cond.initialized RX3, Cond.code yX3_weigh cX3_weigh 8 none, Cond.constant RX3 37 (1000000), Cond.methodLink RX3 45 yX0_stepCost, Cond.instanceMethod yX0_stepCost, Cond.selects RX0 yX0_stepCost yX0_stepCost, Cond.initialized RX0, Cond.code yX0_stepCost cX0_stepCost 3 (some .int), Cond.fieldLink RX0 11 "PipersDesk$Fingers" "stepCosts" "[[I"]
def wsL_fitting_r3 : List Cond := [Cond.methodLink RX3 51 yX3_costOf, Cond.instanceMethod yX3_costOf, Cond.selects RX3 yX3_costOf yX3_costOf, Cond.code yX3_costOf cX3_costOf 7 (some .int), Cond.fieldLink RX3 11 "PipersDesk$OrnamentBook" "entries" "[LPipersDesk$Ornament;", Cond.methodLink RX3 38 yX2_costBetween, Cond.instanceMethod yX2_costBetween, Cond.selects RX2 yX2_costBetween yX2_costBetween, Cond.initialized RX2, Cond.code yX2_costBetween cX2_costBetween 9 (some .int), Cond.fieldLink RX2 9 "PipersDesk$Ornament" "graces" "[I", Cond.constant RX2 15 (1000000), Cond.methodLink RX2 26 Lib.Math.min.name, Cond.static Lib.Math.min.name, Cond.initialized "java/lang/Math", Cond.code Lib.Math.min.name Lib.Math.min.code 2 (some .int), Cond.methodLink RX2 16 yX2_soundOf, Cond.static yX2_soundOf, Cond.code yX2_soundOf cX2_soundOf 3 (some .int), Cond.methodLink RX2 20 yX0_stepCost, Cond.methodLink RX7 155 yX5_costsAt, Cond.instanceMethod yX5_costsAt, Cond.selects RX5 yX5_costsAt yX5_costsAt, Cond.code yX5_costsAt cX5_costsAt 2 (some (.array .int))]
def wsL_fitting : List Cond := .codeWith yL_fitting cL_fitting 5 (some .int) [(0, 10, 13, 13), (0, 10, 17, 36)] :: ((wsL_fitting_r1 ++ (wsL_fitting_r2 ++ wsL_fitting_r3)) ++ wsX70 ++ wsX50 ++ wsX00 ++ wsX30 ++ wsX20 ++ (vx_atS RX7 60 "java/lang/IllegalArgumentException" ["java/lang/RuntimeException", "java/lang/Exception"]).filter goodWord ++ (vx_atS RX7 100 "java/lang/IndexOutOfBoundsException" ["java/lang/RuntimeException", "java/lang/Exception"]).filter goodWord)
def wsL_choices_r1 : List Cond := [Cond.classLink RL 13 "java/lang/IllegalArgumentException", Cond.methodLink RL 60 yX7_choices, Cond.instanceMethod yX7_choices, Cond.selects RX7 yX7_choices yX7_choices, Cond.initialized RX7, Cond.code yX7_choices cX7_choices 2 (some .int), Cond.fieldLink RX7 25 "PipersDesk" "tunes" "[LPipersDesk$Tune;", Cond.fieldLink RX7 12 "PipersDesk" "fingers" "LPipersDesk$Fingers;", Cond.fieldLink RX7 19 "PipersDesk" "book" "LPipersDesk$OrnamentBook;", Cond.fieldLink RX7 33 "PipersDesk" "tuneChoices" "LPipersDesk$TuneChoices;", Cond.methodLink RX7 109 yX7_checkTune, Cond.static yX7_checkTune, Cond.code yX7_checkTune cX7_checkTune 1 none, Cond.classLink RX7 56 "java/lang/IllegalArgumentException", Cond.initialized "java/lang/IllegalArgumentException", Cond.methodLink RX7 151 yX5_weighGaps, Cond.instanceMethod yX5_weighGaps, Cond.selects RX5 yX5_weighGaps yX5_weighGaps, Cond.initialized RX5, Cond.code yX5_weighGaps cX5_weighGaps 5 none, Cond.fieldLink RX5 27 "PipersDesk$Tune" "size" "I", Cond.fieldLink RX5 9 "PipersDesk$Tune" "pitches" "[I", Cond.fieldLink RX5 15 "PipersDesk$Tune" "lengths" "[I", Cond.fieldLink RX5 18 "PipersDesk$Tune" "wishes" "[Z"]
def wsL_choices_r2 : List Cond := [Cond.fieldLink RX5 24 "PipersDesk$Tune" "gapCosts" "[[I", Cond.methodLink RX5 31 yX3_weigh, Cond.instanceMethod yX3_weigh, Cond.selects RX3 yX3_weigh yX3_weigh, Cond.initialized RX3, Cond.code yX3_weigh cX3_weigh 8 none, Cond.constant RX3 37 (1000000), Cond.methodLink RX3 45 yX0_stepCost, Cond.instanceMethod yX0_stepCost, Cond.selects RX0 yX0_stepCost yX0_stepCost, Cond.initialized RX0, Cond.code yX0_stepCost cX0_stepCost 3 (some .int), Cond.fieldLink RX0 11 "PipersDesk$Fingers" "stepCosts" "[[I", Cond.methodLink RX3 51 yX3_costOf, Cond.instanceMethod yX3_costOf, Cond.selects RX3 yX3_costOf yX3_costOf, Cond.code yX3_costOf cX3_costOf 7 (some .int), Cond.fieldLink RX3 11 "PipersDesk$OrnamentBook" "entries" "[LPipersDesk$Ornament;", Cond.methodLink RX3 38 yX2_costBetween, Cond.instanceMethod yX2_costBetween, Cond.selects RX2 yX2_costBetween yX2_costBetween, Cond.initialized RX2, Cond.code yX2_costBetween cX2_costBetween 9 (some .int), Cond.fieldLink RX2 9 "PipersDesk$Ornament" "graces" "[I"]
def wsL_choices_r3 : List Cond := [Cond.constant RX2 15 (1000000), Cond.methodLink RX2 26 Lib.Math.min.name, Cond.static Lib.Math.min.name, Cond.initialized "java/lang/Math", Cond.code Lib.Math.min.name Lib.Math.min.code 2 (some .int), Cond.methodLink RX2 16 yX2_soundOf, Cond.static yX2_soundOf, Cond.code yX2_soundOf cX2_soundOf 3 (some .int), Cond.methodLink RX2 20 yX0_stepCost, Cond.methodLink RX7 159 yX6_countFor, Cond.instanceMethod yX6_countFor, Cond.selects RX6 yX6_countFor yX6_countFor, Cond.initialized RX6, Cond.code yX6_countFor cX6_countFor 4 (some .int), Cond.fieldLink RX6 26 "PipersDesk$TuneChoices" "counts" "[I", Cond.methodLink RX6 54 yJ7_fill_53178, Cond.static yJ7_fill_53178, Cond.initialized RJ7, Cond.code yJ7_fill_53178 cJ7_fill_53178 4 none, Cond.methodLink RX6 29 yX5_gaps, Cond.instanceMethod yX5_gaps, Cond.selects RX5 yX5_gaps yX5_gaps, Cond.code yX5_gaps cX5_gaps 1 (some .int), Cond.methodLink RX6 38 yX5_costsAt]
def wsL_choices_r4 : List Cond := [Cond.instanceMethod yX5_costsAt, Cond.selects RX5 yX5_costsAt yX5_costsAt, Cond.code yX5_costsAt cX5_costsAt 2 (some (.array .int)), Cond.methodLink RX6 60 yX6_countWithGap, Cond.instanceMethod yX6_countWithGap, Cond.selects RX6 yX6_countWithGap yX6_countWithGap, Cond.code yX6_countWithGap cX6_countWithGap 6 (some .int), Cond.constant RX6 53 (1000000)]
def wsL_choices : List Cond := .codeWith yL_choices cL_choices 4 (some .int) [(0, 9, 12, 13)] :: ((wsL_choices_r1 ++ (wsL_choices_r2 ++ (wsL_choices_r3 ++ wsL_choices_r4))) ++ wsX70 ++ wsX50 ++ wsX00 ++ wsX30 ++ wsX20 ++ wsX60 ++ (vx_atS RX7 60 "java/lang/IllegalArgumentException" ["java/lang/RuntimeException", "java/lang/Exception"]).filter goodWord)
def wsL_least_r1 : List Cond := [Cond.classLink RL 13 "java/lang/IllegalArgumentException", Cond.classLink RL 26 "java/lang/IllegalStateException", Cond.methodLink RL 63 yX7_least, Cond.instanceMethod yX7_least, Cond.selects RX7 yX7_least yX7_least, Cond.initialized RX7, Cond.code yX7_least cX7_least 2 (some .int), Cond.methodLink RX7 109 yX7_checkTune, Cond.static yX7_checkTune, Cond.code yX7_checkTune cX7_checkTune 1 none, Cond.classLink RX7 56 "java/lang/IllegalArgumentException", Cond.initialized "java/lang/IllegalArgumentException", Cond.methodLink RX7 136 yX7_solve, Cond.instanceMethod yX7_solve, Cond.selects RX7 yX7_solve yX7_solve, Cond.code yX7_solve cX7_solve 3 (some .int), Cond.classLink RX7 73 "java/lang/IllegalStateException", Cond.initialized "java/lang/IllegalStateException", Cond.fieldLink RX7 25 "PipersDesk" "tunes" "[LPipersDesk$Tune;", Cond.fieldLink RX7 12 "PipersDesk" "fingers" "LPipersDesk$Fingers;", Cond.fieldLink RX7 19 "PipersDesk" "book" "LPipersDesk$OrnamentBook;", Cond.fieldLink RX7 33 "PipersDesk" "tuneChoices" "LPipersDesk$TuneChoices;", Cond.constant RX7 108 (1000000), Cond.methodLink RX7 151 yX5_weighGaps]
def wsL_least_r2 : List Cond := [Cond.instanceMethod yX5_weighGaps, Cond.selects RX5 yX5_weighGaps yX5_weighGaps, Cond.initialized RX5, Cond.code yX5_weighGaps cX5_weighGaps 5 none, Cond.fieldLink RX5 27 "PipersDesk$Tune" "size" "I", Cond.fieldLink RX5 9 "PipersDesk$Tune" "pitches" "[I", Cond.fieldLink RX5 15 "PipersDesk$Tune" "lengths" "[I", Cond.fieldLink RX5 18 "PipersDesk$Tune" "wishes" "[Z", Cond.fieldLink RX5 24 "PipersDesk$Tune" "gapCosts" "[[I", Cond.methodLink RX5 31 yX3_weigh, Cond.instanceMethod yX3_weigh, Cond.selects RX3 yX3_weigh yX3_weigh, Cond.initialized RX3, Cond.code yX3_weigh cX3_weigh 8 none, Cond.constant RX3 37 (1000000), Cond.methodLink RX3 45 yX0_stepCost, Cond.instanceMethod yX0_stepCost, Cond.selects RX0 yX0_stepCost yX0_stepCost, Cond.initialized RX0, Cond.code yX0_stepCost cX0_stepCost 3 (some .int), Cond.fieldLink RX0 11 "PipersDesk$Fingers" "stepCosts" "[[I", Cond.methodLink RX3 51 yX3_costOf, Cond.instanceMethod yX3_costOf, Cond.selects RX3 yX3_costOf yX3_costOf]
def wsL_least_r3 : List Cond := [Cond.code yX3_costOf cX3_costOf 7 (some .int), Cond.fieldLink RX3 11 "PipersDesk$OrnamentBook" "entries" "[LPipersDesk$Ornament;", Cond.methodLink RX3 38 yX2_costBetween, Cond.instanceMethod yX2_costBetween, Cond.selects RX2 yX2_costBetween yX2_costBetween, Cond.initialized RX2, Cond.code yX2_costBetween cX2_costBetween 9 (some .int), Cond.fieldLink RX2 9 "PipersDesk$Ornament" "graces" "[I", Cond.constant RX2 15 (1000000), Cond.methodLink RX2 26 Lib.Math.min.name, Cond.static Lib.Math.min.name, Cond.initialized "java/lang/Math", Cond.code Lib.Math.min.name Lib.Math.min.code 2 (some .int), Cond.methodLink RX2 16 yX2_soundOf, Cond.static yX2_soundOf, Cond.code yX2_soundOf cX2_soundOf 3 (some .int), Cond.methodLink RX2 20 yX0_stepCost, Cond.methodLink RX7 188 yX6_solveFor, Cond.instanceMethod yX6_solveFor, Cond.selects RX6 yX6_solveFor yX6_solveFor, Cond.initialized RX6, Cond.code yX6_solveFor cX6_solveFor 3 (some .int), Cond.fieldLink RX6 11 "PipersDesk$TuneChoices" "rows" "[LPipersDesk$Leasts;", Cond.methodLink RX6 29 yX5_gaps]
def wsL_least_r4 : List Cond := [Cond.instanceMethod yX5_gaps, Cond.selects RX5 yX5_gaps yX5_gaps, Cond.code yX5_gaps cX5_gaps 1 (some .int), Cond.methodLink RX6 35 yX1_startRow, Cond.instanceMethod yX1_startRow, Cond.selects RX1 yX1_startRow yX1_startRow, Cond.initialized RX1, Cond.code yX1_startRow cX1_startRow 1 none, Cond.fieldLink RX1 9 "PipersDesk$Leasts" "costs" "[I", Cond.constant RX1 15 (1000000), Cond.methodLink RX1 16 yJ7_fill_53178, Cond.static yJ7_fill_53178, Cond.initialized RJ7, Cond.code yJ7_fill_53178 cJ7_fill_53178 4 none, Cond.methodLink RX6 38 yX5_costsAt, Cond.instanceMethod yX5_costsAt, Cond.selects RX5 yX5_costsAt yX5_costsAt, Cond.code yX5_costsAt cX5_costsAt 2 (some (.array .int)), Cond.methodLink RX6 42 yX1_growFrom, Cond.instanceMethod yX1_growFrom, Cond.selects RX1 yX1_growFrom yX1_growFrom, Cond.code yX1_growFrom cX1_growFrom 8 none, Cond.methodLink RX1 26 Lib.Math.min.name, Cond.methodLink RX1 22 yX1_firstLeastBeside]
def wsL_least_r5 : List Cond := [Cond.instanceMethod yX1_firstLeastBeside, Cond.selects RX1 yX1_firstLeastBeside yX1_firstLeastBeside, Cond.code yX1_firstLeastBeside cX1_firstLeastBeside 4 (some .int), Cond.methodLink RX6 46 yX1_leastOfAll, Cond.instanceMethod yX1_leastOfAll, Cond.selects RX1 yX1_leastOfAll yX1_leastOfAll, Cond.code yX1_leastOfAll cX1_leastOfAll 1 (some .int)]
def wsL_least : List Cond := .codeWith yL_least cL_least 4 (some .int) [(0, 9, 12, 13), (0, 9, 15, 26)] :: ((wsL_least_r1 ++ (wsL_least_r2 ++ (wsL_least_r3 ++ (wsL_least_r4 ++ wsL_least_r5)))) ++ wsX70 ++ wsX50 ++ wsX00 ++ wsX30 ++ wsX20 ++ wsX60 ++ wsX10 ++ (vx_atS RX7 60 "java/lang/IllegalArgumentException" ["java/lang/RuntimeException", "java/lang/Exception"]).filter goodWord ++ (vx_atS RX7 77 "java/lang/IllegalStateException" ["java/lang/RuntimeException", "java/lang/Exception"]).filter goodWord)
def wsL_chosen_r1 : List Cond := [Cond.classLink RL 13 "java/lang/IllegalArgumentException", Cond.classLink RL 36 "java/lang/IndexOutOfBoundsException", Cond.classLink RL 26 "java/lang/IllegalStateException", Cond.methodLink RL 66 yX7_chosen, Cond.instanceMethod yX7_chosen, Cond.selects RX7 yX7_chosen yX7_chosen, Cond.initialized RX7, Cond.code yX7_chosen cX7_chosen 3 (some .int), Cond.fieldLink RX7 33 "PipersDesk" "tuneChoices" "LPipersDesk$TuneChoices;", Cond.methodLink RX7 109 yX7_checkTune, Cond.static yX7_checkTune, Cond.code yX7_checkTune cX7_checkTune 1 none, Cond.classLink RX7 56 "java/lang/IllegalArgumentException", Cond.initialized "java/lang/IllegalArgumentException", Cond.methodLink RX7 126 yX7_checkGap, Cond.instanceMethod yX7_checkGap, Cond.selects RX7 yX7_checkGap yX7_checkGap, Cond.code yX7_checkGap cX7_checkGap 3 none, Cond.classLink RX7 96 "java/lang/IndexOutOfBoundsException", Cond.initialized "java/lang/IndexOutOfBoundsException", Cond.fieldLink RX7 25 "PipersDesk" "tunes" "[LPipersDesk$Tune;", Cond.methodLink RX7 142 yX5_gaps, Cond.instanceMethod yX5_gaps, Cond.selects RX5 yX5_gaps yX5_gaps]
def wsL_chosen_r2 : List Cond := [Cond.initialized RX5, Cond.code yX5_gaps cX5_gaps 1 (some .int), Cond.fieldLink RX5 27 "PipersDesk$Tune" "size" "I", Cond.methodLink RX7 136 yX7_solve, Cond.instanceMethod yX7_solve, Cond.selects RX7 yX7_solve yX7_solve, Cond.code yX7_solve cX7_solve 3 (some .int), Cond.classLink RX7 73 "java/lang/IllegalStateException", Cond.initialized "java/lang/IllegalStateException", Cond.fieldLink RX7 12 "PipersDesk" "fingers" "LPipersDesk$Fingers;", Cond.fieldLink RX7 19 "PipersDesk" "book" "LPipersDesk$OrnamentBook;", Cond.constant RX7 108 (1000000), Cond.methodLink RX7 151 yX5_weighGaps, Cond.instanceMethod yX5_weighGaps, Cond.selects RX5 yX5_weighGaps yX5_weighGaps, Cond.code yX5_weighGaps cX5_weighGaps 5 none, Cond.fieldLink RX5 9 "PipersDesk$Tune" "pitches" "[I", Cond.fieldLink RX5 15 "PipersDesk$Tune" "lengths" "[I", Cond.fieldLink RX5 18 "PipersDesk$Tune" "wishes" "[Z", Cond.fieldLink RX5 24 "PipersDesk$Tune" "gapCosts" "[[I", Cond.methodLink RX5 31 yX3_weigh, Cond.instanceMethod yX3_weigh, Cond.selects RX3 yX3_weigh yX3_weigh, Cond.initialized RX3]
def wsL_chosen_r3 : List Cond := [Cond.code yX3_weigh cX3_weigh 8 none, Cond.constant RX3 37 (1000000), Cond.methodLink RX3 45 yX0_stepCost, Cond.instanceMethod yX0_stepCost, Cond.selects RX0 yX0_stepCost yX0_stepCost, Cond.initialized RX0, Cond.code yX0_stepCost cX0_stepCost 3 (some .int), Cond.fieldLink RX0 11 "PipersDesk$Fingers" "stepCosts" "[[I", Cond.methodLink RX3 51 yX3_costOf, Cond.instanceMethod yX3_costOf, Cond.selects RX3 yX3_costOf yX3_costOf, Cond.code yX3_costOf cX3_costOf 7 (some .int), Cond.fieldLink RX3 11 "PipersDesk$OrnamentBook" "entries" "[LPipersDesk$Ornament;", Cond.methodLink RX3 38 yX2_costBetween, Cond.instanceMethod yX2_costBetween, Cond.selects RX2 yX2_costBetween yX2_costBetween, Cond.initialized RX2, Cond.code yX2_costBetween cX2_costBetween 9 (some .int), Cond.fieldLink RX2 9 "PipersDesk$Ornament" "graces" "[I", Cond.constant RX2 15 (1000000), Cond.methodLink RX2 26 Lib.Math.min.name, Cond.static Lib.Math.min.name, Cond.initialized "java/lang/Math", Cond.code Lib.Math.min.name Lib.Math.min.code 2 (some .int)]
def wsL_chosen_r4 : List Cond := [Cond.methodLink RX2 16 yX2_soundOf, Cond.static yX2_soundOf, Cond.code yX2_soundOf cX2_soundOf 3 (some .int), Cond.methodLink RX2 20 yX0_stepCost, Cond.methodLink RX7 188 yX6_solveFor, Cond.instanceMethod yX6_solveFor, Cond.selects RX6 yX6_solveFor yX6_solveFor, Cond.initialized RX6, Cond.code yX6_solveFor cX6_solveFor 3 (some .int), Cond.fieldLink RX6 11 "PipersDesk$TuneChoices" "rows" "[LPipersDesk$Leasts;", Cond.methodLink RX6 29 yX5_gaps, Cond.methodLink RX6 35 yX1_startRow, Cond.instanceMethod yX1_startRow, Cond.selects RX1 yX1_startRow yX1_startRow, Cond.initialized RX1, Cond.code yX1_startRow cX1_startRow 1 none, Cond.fieldLink RX1 9 "PipersDesk$Leasts" "costs" "[I", Cond.constant RX1 15 (1000000), Cond.methodLink RX1 16 yJ7_fill_53178, Cond.static yJ7_fill_53178, Cond.initialized RJ7, Cond.code yJ7_fill_53178 cJ7_fill_53178 4 none, Cond.methodLink RX6 38 yX5_costsAt, Cond.instanceMethod yX5_costsAt]
def wsL_chosen_r5 : List Cond := [Cond.selects RX5 yX5_costsAt yX5_costsAt, Cond.code yX5_costsAt cX5_costsAt 2 (some (.array .int)), Cond.methodLink RX6 42 yX1_growFrom, Cond.instanceMethod yX1_growFrom, Cond.selects RX1 yX1_growFrom yX1_growFrom, Cond.code yX1_growFrom cX1_growFrom 8 none, Cond.methodLink RX1 26 Lib.Math.min.name, Cond.methodLink RX1 22 yX1_firstLeastBeside, Cond.instanceMethod yX1_firstLeastBeside, Cond.selects RX1 yX1_firstLeastBeside yX1_firstLeastBeside, Cond.code yX1_firstLeastBeside cX1_firstLeastBeside 4 (some .int), Cond.methodLink RX6 46 yX1_leastOfAll, Cond.instanceMethod yX1_leastOfAll, Cond.selects RX1 yX1_leastOfAll yX1_leastOfAll, Cond.code yX1_leastOfAll cX1_leastOfAll 1 (some .int), Cond.methodLink RX7 145 yX6_firstAt, Cond.instanceMethod yX6_firstAt, Cond.selects RX6 yX6_firstAt yX6_firstAt, Cond.code yX6_firstAt cX6_firstAt 4 (some .int), Cond.methodLink RX6 49 yX1_firstLeastBeside]
def wsL_chosen : List Cond := .codeWith yL_chosen cL_chosen 5 (some .int) [(0, 10, 13, 13), (0, 10, 17, 36), (0, 10, 21, 26)] :: ((wsL_chosen_r1 ++ (wsL_chosen_r2 ++ (wsL_chosen_r3 ++ (wsL_chosen_r4 ++ wsL_chosen_r5)))) ++ wsX70 ++ wsX50 ++ wsX00 ++ wsX30 ++ wsX20 ++ wsX60 ++ wsX10 ++ (vx_atS RX7 60 "java/lang/IllegalArgumentException" ["java/lang/RuntimeException", "java/lang/Exception"]).filter goodWord ++ (vx_atS RX7 100 "java/lang/IndexOutOfBoundsException" ["java/lang/RuntimeException", "java/lang/Exception"]).filter goodWord ++ (vx_atS RX7 77 "java/lang/IllegalStateException" ["java/lang/RuntimeException", "java/lang/Exception"]).filter goodWord)
def wsL_mostOrnaments_r1 : List Cond := [Cond.classLink RL 13 "java/lang/IllegalArgumentException", Cond.classLink RL 26 "java/lang/IllegalStateException", Cond.methodLink RL 69 yX7_mostOrnaments, Cond.instanceMethod yX7_mostOrnaments, Cond.selects RX7 yX7_mostOrnaments yX7_mostOrnaments, Cond.initialized RX7, Cond.code yX7_mostOrnaments cX7_mostOrnaments 2 (some .int), Cond.fieldLink RX7 25 "PipersDesk" "tunes" "[LPipersDesk$Tune;", Cond.fieldLink RX7 33 "PipersDesk" "tuneChoices" "LPipersDesk$TuneChoices;", Cond.methodLink RX7 109 yX7_checkTune, Cond.static yX7_checkTune, Cond.code yX7_checkTune cX7_checkTune 1 none, Cond.classLink RX7 56 "java/lang/IllegalArgumentException", Cond.initialized "java/lang/IllegalArgumentException", Cond.methodLink RX7 136 yX7_solve, Cond.instanceMethod yX7_solve, Cond.selects RX7 yX7_solve yX7_solve, Cond.code yX7_solve cX7_solve 3 (some .int), Cond.classLink RX7 73 "java/lang/IllegalStateException", Cond.initialized "java/lang/IllegalStateException", Cond.fieldLink RX7 12 "PipersDesk" "fingers" "LPipersDesk$Fingers;", Cond.fieldLink RX7 19 "PipersDesk" "book" "LPipersDesk$OrnamentBook;", Cond.constant RX7 108 (1000000), Cond.methodLink RX7 151 yX5_weighGaps]
def wsL_mostOrnaments_r2 : List Cond := [Cond.instanceMethod yX5_weighGaps, Cond.selects RX5 yX5_weighGaps yX5_weighGaps, Cond.initialized RX5, Cond.code yX5_weighGaps cX5_weighGaps 5 none, Cond.fieldLink RX5 27 "PipersDesk$Tune" "size" "I", Cond.fieldLink RX5 9 "PipersDesk$Tune" "pitches" "[I", Cond.fieldLink RX5 15 "PipersDesk$Tune" "lengths" "[I", Cond.fieldLink RX5 18 "PipersDesk$Tune" "wishes" "[Z", Cond.fieldLink RX5 24 "PipersDesk$Tune" "gapCosts" "[[I", Cond.methodLink RX5 31 yX3_weigh, Cond.instanceMethod yX3_weigh, Cond.selects RX3 yX3_weigh yX3_weigh, Cond.initialized RX3, Cond.code yX3_weigh cX3_weigh 8 none, Cond.constant RX3 37 (1000000), Cond.methodLink RX3 45 yX0_stepCost, Cond.instanceMethod yX0_stepCost, Cond.selects RX0 yX0_stepCost yX0_stepCost, Cond.initialized RX0, Cond.code yX0_stepCost cX0_stepCost 3 (some .int), Cond.fieldLink RX0 11 "PipersDesk$Fingers" "stepCosts" "[[I", Cond.methodLink RX3 51 yX3_costOf, Cond.instanceMethod yX3_costOf, Cond.selects RX3 yX3_costOf yX3_costOf]
def wsL_mostOrnaments_r3 : List Cond := [Cond.code yX3_costOf cX3_costOf 7 (some .int), Cond.fieldLink RX3 11 "PipersDesk$OrnamentBook" "entries" "[LPipersDesk$Ornament;", Cond.methodLink RX3 38 yX2_costBetween, Cond.instanceMethod yX2_costBetween, Cond.selects RX2 yX2_costBetween yX2_costBetween, Cond.initialized RX2, Cond.code yX2_costBetween cX2_costBetween 9 (some .int), Cond.fieldLink RX2 9 "PipersDesk$Ornament" "graces" "[I", Cond.constant RX2 15 (1000000), Cond.methodLink RX2 26 Lib.Math.min.name, Cond.static Lib.Math.min.name, Cond.initialized "java/lang/Math", Cond.code Lib.Math.min.name Lib.Math.min.code 2 (some .int), Cond.methodLink RX2 16 yX2_soundOf, Cond.static yX2_soundOf, Cond.code yX2_soundOf cX2_soundOf 3 (some .int), Cond.methodLink RX2 20 yX0_stepCost, Cond.methodLink RX7 188 yX6_solveFor, Cond.instanceMethod yX6_solveFor, Cond.selects RX6 yX6_solveFor yX6_solveFor, Cond.initialized RX6, Cond.code yX6_solveFor cX6_solveFor 3 (some .int), Cond.fieldLink RX6 11 "PipersDesk$TuneChoices" "rows" "[LPipersDesk$Leasts;", Cond.methodLink RX6 29 yX5_gaps]
def wsL_mostOrnaments_r4 : List Cond := [Cond.instanceMethod yX5_gaps, Cond.selects RX5 yX5_gaps yX5_gaps, Cond.code yX5_gaps cX5_gaps 1 (some .int), Cond.methodLink RX6 35 yX1_startRow, Cond.instanceMethod yX1_startRow, Cond.selects RX1 yX1_startRow yX1_startRow, Cond.initialized RX1, Cond.code yX1_startRow cX1_startRow 1 none, Cond.fieldLink RX1 9 "PipersDesk$Leasts" "costs" "[I", Cond.constant RX1 15 (1000000), Cond.methodLink RX1 16 yJ7_fill_53178, Cond.static yJ7_fill_53178, Cond.initialized RJ7, Cond.code yJ7_fill_53178 cJ7_fill_53178 4 none, Cond.methodLink RX6 38 yX5_costsAt, Cond.instanceMethod yX5_costsAt, Cond.selects RX5 yX5_costsAt yX5_costsAt, Cond.code yX5_costsAt cX5_costsAt 2 (some (.array .int)), Cond.methodLink RX6 42 yX1_growFrom, Cond.instanceMethod yX1_growFrom, Cond.selects RX1 yX1_growFrom yX1_growFrom, Cond.code yX1_growFrom cX1_growFrom 8 none, Cond.methodLink RX1 26 Lib.Math.min.name, Cond.methodLink RX1 22 yX1_firstLeastBeside]
def wsL_mostOrnaments_r5 : List Cond := [Cond.instanceMethod yX1_firstLeastBeside, Cond.selects RX1 yX1_firstLeastBeside yX1_firstLeastBeside, Cond.code yX1_firstLeastBeside cX1_firstLeastBeside 4 (some .int), Cond.methodLink RX6 46 yX1_leastOfAll, Cond.instanceMethod yX1_leastOfAll, Cond.selects RX1 yX1_leastOfAll yX1_leastOfAll, Cond.code yX1_leastOfAll cX1_leastOfAll 1 (some .int), Cond.methodLink RX7 142 yX5_gaps, Cond.methodLink RX7 163 yX6_fewestEmptyGaps, Cond.instanceMethod yX6_fewestEmptyGaps, Cond.selects RX6 yX6_fewestEmptyGaps yX6_fewestEmptyGaps, Cond.code yX6_fewestEmptyGaps cX6_fewestEmptyGaps 6 (some .int), Cond.fieldLink RX6 18 "PipersDesk$TuneChoices" "empties" "LPipersDesk$Leasts;", Cond.fieldLink RX6 22 "PipersDesk$TuneChoices" "emptyCosts" "[I", Cond.constant RX6 53 (1000000)]
def wsL_mostOrnaments : List Cond := .codeWith yL_mostOrnaments cL_mostOrnaments 4 (some .int) [(0, 9, 12, 13), (0, 9, 15, 26)] :: ((wsL_mostOrnaments_r1 ++ (wsL_mostOrnaments_r2 ++ (wsL_mostOrnaments_r3 ++ (wsL_mostOrnaments_r4 ++ wsL_mostOrnaments_r5)))) ++ wsX70 ++ wsX50 ++ wsX00 ++ wsX30 ++ wsX20 ++ wsX60 ++ wsX10 ++ (vx_atS RX7 60 "java/lang/IllegalArgumentException" ["java/lang/RuntimeException", "java/lang/Exception"]).filter goodWord ++ (vx_atS RX7 77 "java/lang/IllegalStateException" ["java/lang/RuntimeException", "java/lang/Exception"]).filter goodWord)
def wsL_average_r1 : List Cond := [Cond.classLink RL 13 "java/lang/IllegalArgumentException", Cond.classLink RL 26 "java/lang/IllegalStateException", Cond.methodLink RL 72 yX7_average, Cond.instanceMethod yX7_average, Cond.selects RX7 yX7_average yX7_average, Cond.initialized RX7, Cond.code yX7_average cX7_average 4 (some .float), Cond.fieldLink RX7 25 "PipersDesk" "tunes" "[LPipersDesk$Tune;", Cond.methodLink RX7 109 yX7_checkTune, Cond.static yX7_checkTune, Cond.code yX7_checkTune cX7_checkTune 1 none, Cond.classLink RX7 56 "java/lang/IllegalArgumentException", Cond.initialized "java/lang/IllegalArgumentException", Cond.methodLink RX7 136 yX7_solve, Cond.instanceMethod yX7_solve, Cond.selects RX7 yX7_solve yX7_solve, Cond.code yX7_solve cX7_solve 3 (some .int), Cond.classLink RX7 73 "java/lang/IllegalStateException", Cond.initialized "java/lang/IllegalStateException", Cond.fieldLink RX7 12 "PipersDesk" "fingers" "LPipersDesk$Fingers;", Cond.fieldLink RX7 19 "PipersDesk" "book" "LPipersDesk$OrnamentBook;", Cond.fieldLink RX7 33 "PipersDesk" "tuneChoices" "LPipersDesk$TuneChoices;", Cond.constant RX7 108 (1000000), Cond.methodLink RX7 151 yX5_weighGaps]
def wsL_average_r2 : List Cond := [Cond.instanceMethod yX5_weighGaps, Cond.selects RX5 yX5_weighGaps yX5_weighGaps, Cond.initialized RX5, Cond.code yX5_weighGaps cX5_weighGaps 5 none, Cond.fieldLink RX5 27 "PipersDesk$Tune" "size" "I", Cond.fieldLink RX5 9 "PipersDesk$Tune" "pitches" "[I", Cond.fieldLink RX5 15 "PipersDesk$Tune" "lengths" "[I", Cond.fieldLink RX5 18 "PipersDesk$Tune" "wishes" "[Z", Cond.fieldLink RX5 24 "PipersDesk$Tune" "gapCosts" "[[I", Cond.methodLink RX5 31 yX3_weigh, Cond.instanceMethod yX3_weigh, Cond.selects RX3 yX3_weigh yX3_weigh, Cond.initialized RX3, Cond.code yX3_weigh cX3_weigh 8 none, Cond.constant RX3 37 (1000000), Cond.methodLink RX3 45 yX0_stepCost, Cond.instanceMethod yX0_stepCost, Cond.selects RX0 yX0_stepCost yX0_stepCost, Cond.initialized RX0, Cond.code yX0_stepCost cX0_stepCost 3 (some .int), Cond.fieldLink RX0 11 "PipersDesk$Fingers" "stepCosts" "[[I", Cond.methodLink RX3 51 yX3_costOf, Cond.instanceMethod yX3_costOf, Cond.selects RX3 yX3_costOf yX3_costOf]
def wsL_average_r3 : List Cond := [Cond.code yX3_costOf cX3_costOf 7 (some .int), Cond.fieldLink RX3 11 "PipersDesk$OrnamentBook" "entries" "[LPipersDesk$Ornament;", Cond.methodLink RX3 38 yX2_costBetween, Cond.instanceMethod yX2_costBetween, Cond.selects RX2 yX2_costBetween yX2_costBetween, Cond.initialized RX2, Cond.code yX2_costBetween cX2_costBetween 9 (some .int), Cond.fieldLink RX2 9 "PipersDesk$Ornament" "graces" "[I", Cond.constant RX2 15 (1000000), Cond.methodLink RX2 26 Lib.Math.min.name, Cond.static Lib.Math.min.name, Cond.initialized "java/lang/Math", Cond.code Lib.Math.min.name Lib.Math.min.code 2 (some .int), Cond.methodLink RX2 16 yX2_soundOf, Cond.static yX2_soundOf, Cond.code yX2_soundOf cX2_soundOf 3 (some .int), Cond.methodLink RX2 20 yX0_stepCost, Cond.methodLink RX7 188 yX6_solveFor, Cond.instanceMethod yX6_solveFor, Cond.selects RX6 yX6_solveFor yX6_solveFor, Cond.initialized RX6, Cond.code yX6_solveFor cX6_solveFor 3 (some .int), Cond.fieldLink RX6 11 "PipersDesk$TuneChoices" "rows" "[LPipersDesk$Leasts;", Cond.methodLink RX6 29 yX5_gaps]
def wsL_average_r4 : List Cond := [Cond.instanceMethod yX5_gaps, Cond.selects RX5 yX5_gaps yX5_gaps, Cond.code yX5_gaps cX5_gaps 1 (some .int), Cond.methodLink RX6 35 yX1_startRow, Cond.instanceMethod yX1_startRow, Cond.selects RX1 yX1_startRow yX1_startRow, Cond.initialized RX1, Cond.code yX1_startRow cX1_startRow 1 none, Cond.fieldLink RX1 9 "PipersDesk$Leasts" "costs" "[I", Cond.constant RX1 15 (1000000), Cond.methodLink RX1 16 yJ7_fill_53178, Cond.static yJ7_fill_53178, Cond.initialized RJ7, Cond.code yJ7_fill_53178 cJ7_fill_53178 4 none, Cond.methodLink RX6 38 yX5_costsAt, Cond.instanceMethod yX5_costsAt, Cond.selects RX5 yX5_costsAt yX5_costsAt, Cond.code yX5_costsAt cX5_costsAt 2 (some (.array .int)), Cond.methodLink RX6 42 yX1_growFrom, Cond.instanceMethod yX1_growFrom, Cond.selects RX1 yX1_growFrom yX1_growFrom, Cond.code yX1_growFrom cX1_growFrom 8 none, Cond.methodLink RX1 26 Lib.Math.min.name, Cond.methodLink RX1 22 yX1_firstLeastBeside]
def wsL_average_r5 : List Cond := [Cond.instanceMethod yX1_firstLeastBeside, Cond.selects RX1 yX1_firstLeastBeside yX1_firstLeastBeside, Cond.code yX1_firstLeastBeside cX1_firstLeastBeside 4 (some .int), Cond.methodLink RX6 46 yX1_leastOfAll, Cond.instanceMethod yX1_leastOfAll, Cond.selects RX1 yX1_leastOfAll yX1_leastOfAll, Cond.code yX1_leastOfAll cX1_leastOfAll 1 (some .int), Cond.methodLink RX7 142 yX5_gaps]
def wsL_average : List Cond := .codeWith yL_average cL_average 4 (some .int) [(0, 9, 12, 13), (0, 9, 15, 26)] :: ((wsL_average_r1 ++ (wsL_average_r2 ++ (wsL_average_r3 ++ (wsL_average_r4 ++ wsL_average_r5)))) ++ wsX70 ++ wsX50 ++ wsX00 ++ wsX30 ++ wsX20 ++ wsX60 ++ wsX10 ++ (vx_atS RX7 60 "java/lang/IllegalArgumentException" ["java/lang/RuntimeException", "java/lang/Exception"]).filter goodWord ++ (vx_atS RX7 77 "java/lang/IllegalStateException" ["java/lang/RuntimeException", "java/lang/Exception"]).filter goodWord)
def wsL_leastSet_r1 : List Cond := [Cond.classLink RL 26 "java/lang/IllegalStateException", Cond.methodLink RL 76 yX7_leastSet, Cond.instanceMethod yX7_leastSet, Cond.selects RX7 yX7_leastSet yX7_leastSet, Cond.initialized RX7, Cond.code yX7_leastSet cX7_leastSet 1 (some .int), Cond.classLink RX7 73 "java/lang/IllegalStateException", Cond.initialized "java/lang/IllegalStateException", Cond.fieldLink RX7 40 "PipersDesk" "setSearch" "LPipersDesk$SetSearch;", Cond.methodLink RX7 166 yX7_trySets, Cond.instanceMethod yX7_trySets, Cond.selects RX7 yX7_trySets yX7_trySets, Cond.code yX7_trySets cX7_trySets 2 (some .int), Cond.fieldLink RX7 25 "PipersDesk" "tunes" "[LPipersDesk$Tune;", Cond.fieldLink RX7 12 "PipersDesk" "fingers" "LPipersDesk$Fingers;", Cond.fieldLink RX7 19 "PipersDesk" "book" "LPipersDesk$OrnamentBook;", Cond.methodLink RX7 151 yX5_weighGaps, Cond.instanceMethod yX5_weighGaps, Cond.selects RX5 yX5_weighGaps yX5_weighGaps, Cond.initialized RX5, Cond.code yX5_weighGaps cX5_weighGaps 5 none, Cond.fieldLink RX5 27 "PipersDesk$Tune" "size" "I", Cond.fieldLink RX5 9 "PipersDesk$Tune" "pitches" "[I", Cond.fieldLink RX5 15 "PipersDesk$Tune" "lengths" "[I"]
def wsL_leastSet_r2 : List Cond := [Cond.fieldLink RX5 18 "PipersDesk$Tune" "wishes" "[Z", Cond.fieldLink RX5 24 "PipersDesk$Tune" "gapCosts" "[[I", Cond.methodLink RX5 31 yX3_weigh, Cond.instanceMethod yX3_weigh, Cond.selects RX3 yX3_weigh yX3_weigh, Cond.initialized RX3, Cond.code yX3_weigh cX3_weigh 8 none, Cond.constant RX3 37 (1000000), Cond.methodLink RX3 45 yX0_stepCost, Cond.instanceMethod yX0_stepCost, Cond.selects RX0 yX0_stepCost yX0_stepCost, Cond.initialized RX0, Cond.code yX0_stepCost cX0_stepCost 3 (some .int), Cond.fieldLink RX0 11 "PipersDesk$Fingers" "stepCosts" "[[I", Cond.methodLink RX3 51 yX3_costOf, Cond.instanceMethod yX3_costOf, Cond.selects RX3 yX3_costOf yX3_costOf, Cond.code yX3_costOf cX3_costOf 7 (some .int), Cond.fieldLink RX3 11 "PipersDesk$OrnamentBook" "entries" "[LPipersDesk$Ornament;", Cond.methodLink RX3 38 yX2_costBetween, Cond.instanceMethod yX2_costBetween, Cond.selects RX2 yX2_costBetween yX2_costBetween, Cond.initialized RX2, Cond.code yX2_costBetween cX2_costBetween 9 (some .int)]
def wsL_leastSet_r3 : List Cond := [Cond.fieldLink RX2 9 "PipersDesk$Ornament" "graces" "[I", Cond.constant RX2 15 (1000000), Cond.methodLink RX2 26 Lib.Math.min.name, Cond.static Lib.Math.min.name, Cond.initialized "java/lang/Math", Cond.code Lib.Math.min.name Lib.Math.min.code 2 (some .int), Cond.methodLink RX2 16 yX2_soundOf, Cond.static yX2_soundOf, Cond.code yX2_soundOf cX2_soundOf 3 (some .int), Cond.methodLink RX2 20 yX0_stepCost, Cond.methodLink RX7 193 yX4_weighJoins, Cond.instanceMethod yX4_weighJoins, Cond.selects RX4 yX4_weighJoins yX4_weighJoins, Cond.initialized RX4, Cond.code yX4_weighJoins cX4_weighJoins 11 none, Cond.fieldLink RX4 11 "PipersDesk$SetSearch" "joinCosts" "[[I", Cond.methodLink RX4 37 yX5_size, Cond.instanceMethod yX5_size, Cond.selects RX5 yX5_size yX5_size, Cond.code yX5_size cX5_size 1 (some .int), Cond.methodLink RX4 42 yX5_pitchOf, Cond.instanceMethod yX5_pitchOf, Cond.selects RX5 yX5_pitchOf yX5_pitchOf, Cond.code yX5_pitchOf cX5_pitchOf 2 (some .int)]
def wsL_leastSet_r4 : List Cond := [Cond.methodLink RX4 46 yX5_lengthOf, Cond.instanceMethod yX5_lengthOf, Cond.selects RX5 yX5_lengthOf yX5_lengthOf, Cond.code yX5_lengthOf cX5_lengthOf 2 (some .int), Cond.methodLink RX4 49 yX3_weigh, Cond.methodLink RX7 197 yX4_tryAllOrders, Cond.instanceMethod yX4_tryAllOrders, Cond.selects RX4 yX4_tryAllOrders yX4_tryAllOrders, Cond.code yX4_tryAllOrders cX4_tryAllOrders 6 (some .int), Cond.constant RX4 59 (1000000), Cond.fieldLink RX4 34 "PipersDesk$SetSearch" "leastCost" "I", Cond.methodLink RX4 55 yX4_startOrder, Cond.instanceMethod yX4_startOrder, Cond.selects RX4 yX4_startOrder yX4_startOrder, Cond.code yX4_startOrder cX4_startOrder 3 none, Cond.fieldLink RX4 30 "PipersDesk$SetSearch" "size" "I", Cond.fieldLink RX4 23 "PipersDesk$SetSearch" "order" "[I", Cond.methodLink RX4 60 yX4_costOfOrder, Cond.instanceMethod yX4_costOfOrder, Cond.selects RX4 yX4_costOfOrder yX4_costOfOrder, Cond.code yX4_costOfOrder cX4_costOfOrder 5 (some .int), Cond.fieldLink RX4 19 "PipersDesk$SetSearch" "row" "LPipersDesk$Leasts;", Cond.methodLink RX4 78 yX1_startRow, Cond.instanceMethod yX1_startRow]
def wsL_leastSet_r5 : List Cond := [Cond.selects RX1 yX1_startRow yX1_startRow, Cond.initialized RX1, Cond.code yX1_startRow cX1_startRow 1 none, Cond.fieldLink RX1 9 "PipersDesk$Leasts" "costs" "[I", Cond.constant RX1 15 (1000000), Cond.methodLink RX1 16 yJ7_fill_53178, Cond.static yJ7_fill_53178, Cond.initialized RJ7, Cond.code yJ7_fill_53178 cJ7_fill_53178 4 none, Cond.methodLink RX4 81 yX1_growFrom, Cond.instanceMethod yX1_growFrom, Cond.selects RX1 yX1_growFrom yX1_growFrom, Cond.code yX1_growFrom cX1_growFrom 8 none, Cond.methodLink RX1 26 Lib.Math.min.name, Cond.methodLink RX1 22 yX1_firstLeastBeside, Cond.instanceMethod yX1_firstLeastBeside, Cond.selects RX1 yX1_firstLeastBeside yX1_firstLeastBeside, Cond.code yX1_firstLeastBeside cX1_firstLeastBeside 4 (some .int), Cond.methodLink RX4 85 yX5_gaps, Cond.instanceMethod yX5_gaps, Cond.selects RX5 yX5_gaps yX5_gaps, Cond.code yX5_gaps cX5_gaps 1 (some .int), Cond.methodLink RX4 88 yX5_costsAt, Cond.instanceMethod yX5_costsAt]
def wsL_leastSet_r6 : List Cond := [Cond.selects RX5 yX5_costsAt yX5_costsAt, Cond.code yX5_costsAt cX5_costsAt 2 (some (.array .int)), Cond.methodLink RX4 92 yX1_leastOfAll, Cond.instanceMethod yX1_leastOfAll, Cond.selects RX1 yX1_leastOfAll yX1_leastOfAll, Cond.code yX1_leastOfAll cX1_leastOfAll 1 (some .int), Cond.methodLink RX4 64 yX4_keepIfLess, Cond.instanceMethod yX4_keepIfLess, Cond.selects RX4 yX4_keepIfLess yX4_keepIfLess, Cond.code yX4_keepIfLess cX4_keepIfLess 2 none, Cond.fieldLink RX4 27 "PipersDesk$SetSearch" "best" "[I", Cond.methodLink RX4 72 arraycopyName, Cond.native arraycopyName, Cond.static arraycopyName, Cond.initialized "java/lang/System", Cond.methodLink RX4 68 yX4_goToNextOrder, Cond.instanceMethod yX4_goToNextOrder, Cond.selects RX4 yX4_goToNextOrder yX4_goToNextOrder, Cond.code yX4_goToNextOrder cX4_goToNextOrder 5 (some .boolean), Cond.methodLink RX4 95 yX4_exchange, Cond.instanceMethod yX4_exchange, Cond.selects RX4 yX4_exchange yX4_exchange, Cond.code yX4_exchange cX4_exchange 4 none, Cond.methodLink RX7 171 yX4_leastCost]
def wsL_leastSet_r7 : List Cond := [Cond.instanceMethod yX4_leastCost, Cond.selects RX4 yX4_leastCost yX4_leastCost, Cond.code yX4_leastCost cX4_leastCost 1 (some .int)]
def wsL_leastSet : List Cond := .codeWith yL_leastSet cL_leastSet 3 (some .int) [(0, 8, 11, 26)] :: ((wsL_leastSet_r1 ++ (wsL_leastSet_r2 ++ (wsL_leastSet_r3 ++ (wsL_leastSet_r4 ++ (wsL_leastSet_r5 ++ (wsL_leastSet_r6 ++ wsL_leastSet_r7)))))) ++ wsX70 ++ wsX50 ++ wsX00 ++ wsX30 ++ wsX20 ++ wsX40 ++ wsX10 ++ (vx_atS RX7 77 "java/lang/IllegalStateException" ["java/lang/RuntimeException", "java/lang/Exception"]).filter goodWord)
def wsL_tuneAt_r1 : List Cond := [Cond.classLink RL 26 "java/lang/IllegalStateException", Cond.classLink RL 36 "java/lang/IndexOutOfBoundsException", Cond.methodLink RL 79 yX7_tuneAt, Cond.instanceMethod yX7_tuneAt, Cond.selects RX7 yX7_tuneAt yX7_tuneAt, Cond.initialized RX7, Cond.code yX7_tuneAt cX7_tuneAt 2 (some .int), Cond.classLink RX7 73 "java/lang/IllegalStateException", Cond.initialized "java/lang/IllegalStateException", Cond.classLink RX7 96 "java/lang/IndexOutOfBoundsException", Cond.initialized "java/lang/IndexOutOfBoundsException", Cond.fieldLink RX7 40 "PipersDesk" "setSearch" "LPipersDesk$SetSearch;", Cond.methodLink RX7 166 yX7_trySets, Cond.instanceMethod yX7_trySets, Cond.selects RX7 yX7_trySets yX7_trySets, Cond.code yX7_trySets cX7_trySets 2 (some .int), Cond.fieldLink RX7 25 "PipersDesk" "tunes" "[LPipersDesk$Tune;", Cond.fieldLink RX7 12 "PipersDesk" "fingers" "LPipersDesk$Fingers;", Cond.fieldLink RX7 19 "PipersDesk" "book" "LPipersDesk$OrnamentBook;", Cond.methodLink RX7 151 yX5_weighGaps, Cond.instanceMethod yX5_weighGaps, Cond.selects RX5 yX5_weighGaps yX5_weighGaps, Cond.initialized RX5, Cond.code yX5_weighGaps cX5_weighGaps 5 none]
def wsL_tuneAt_r2 : List Cond := [Cond.fieldLink RX5 27 "PipersDesk$Tune" "size" "I", Cond.fieldLink RX5 9 "PipersDesk$Tune" "pitches" "[I", Cond.fieldLink RX5 15 "PipersDesk$Tune" "lengths" "[I", Cond.fieldLink RX5 18 "PipersDesk$Tune" "wishes" "[Z", Cond.fieldLink RX5 24 "PipersDesk$Tune" "gapCosts" "[[I", Cond.methodLink RX5 31 yX3_weigh, Cond.instanceMethod yX3_weigh, Cond.selects RX3 yX3_weigh yX3_weigh, Cond.initialized RX3, Cond.code yX3_weigh cX3_weigh 8 none, Cond.constant RX3 37 (1000000), Cond.methodLink RX3 45 yX0_stepCost, Cond.instanceMethod yX0_stepCost, Cond.selects RX0 yX0_stepCost yX0_stepCost, Cond.initialized RX0, Cond.code yX0_stepCost cX0_stepCost 3 (some .int), Cond.fieldLink RX0 11 "PipersDesk$Fingers" "stepCosts" "[[I", Cond.methodLink RX3 51 yX3_costOf, Cond.instanceMethod yX3_costOf, Cond.selects RX3 yX3_costOf yX3_costOf, Cond.code yX3_costOf cX3_costOf 7 (some .int), Cond.fieldLink RX3 11 "PipersDesk$OrnamentBook" "entries" "[LPipersDesk$Ornament;", Cond.methodLink RX3 38 yX2_costBetween, Cond.instanceMethod yX2_costBetween]
def wsL_tuneAt_r3 : List Cond := [Cond.selects RX2 yX2_costBetween yX2_costBetween, Cond.initialized RX2, Cond.code yX2_costBetween cX2_costBetween 9 (some .int), Cond.fieldLink RX2 9 "PipersDesk$Ornament" "graces" "[I", Cond.constant RX2 15 (1000000), Cond.methodLink RX2 26 Lib.Math.min.name, Cond.static Lib.Math.min.name, Cond.initialized "java/lang/Math", Cond.code Lib.Math.min.name Lib.Math.min.code 2 (some .int), Cond.methodLink RX2 16 yX2_soundOf, Cond.static yX2_soundOf, Cond.code yX2_soundOf cX2_soundOf 3 (some .int), Cond.methodLink RX2 20 yX0_stepCost, Cond.methodLink RX7 193 yX4_weighJoins, Cond.instanceMethod yX4_weighJoins, Cond.selects RX4 yX4_weighJoins yX4_weighJoins, Cond.initialized RX4, Cond.code yX4_weighJoins cX4_weighJoins 11 none, Cond.fieldLink RX4 11 "PipersDesk$SetSearch" "joinCosts" "[[I", Cond.methodLink RX4 37 yX5_size, Cond.instanceMethod yX5_size, Cond.selects RX5 yX5_size yX5_size, Cond.code yX5_size cX5_size 1 (some .int), Cond.methodLink RX4 42 yX5_pitchOf]
def wsL_tuneAt_r4 : List Cond := [Cond.instanceMethod yX5_pitchOf, Cond.selects RX5 yX5_pitchOf yX5_pitchOf, Cond.code yX5_pitchOf cX5_pitchOf 2 (some .int), Cond.methodLink RX4 46 yX5_lengthOf, Cond.instanceMethod yX5_lengthOf, Cond.selects RX5 yX5_lengthOf yX5_lengthOf, Cond.code yX5_lengthOf cX5_lengthOf 2 (some .int), Cond.methodLink RX4 49 yX3_weigh, Cond.methodLink RX7 197 yX4_tryAllOrders, Cond.instanceMethod yX4_tryAllOrders, Cond.selects RX4 yX4_tryAllOrders yX4_tryAllOrders, Cond.code yX4_tryAllOrders cX4_tryAllOrders 6 (some .int), Cond.constant RX4 59 (1000000), Cond.fieldLink RX4 34 "PipersDesk$SetSearch" "leastCost" "I", Cond.methodLink RX4 55 yX4_startOrder, Cond.instanceMethod yX4_startOrder, Cond.selects RX4 yX4_startOrder yX4_startOrder, Cond.code yX4_startOrder cX4_startOrder 3 none, Cond.fieldLink RX4 30 "PipersDesk$SetSearch" "size" "I", Cond.fieldLink RX4 23 "PipersDesk$SetSearch" "order" "[I", Cond.methodLink RX4 60 yX4_costOfOrder, Cond.instanceMethod yX4_costOfOrder, Cond.selects RX4 yX4_costOfOrder yX4_costOfOrder, Cond.code yX4_costOfOrder cX4_costOfOrder 5 (some .int)]
def wsL_tuneAt_r5 : List Cond := [Cond.fieldLink RX4 19 "PipersDesk$SetSearch" "row" "LPipersDesk$Leasts;", Cond.methodLink RX4 78 yX1_startRow, Cond.instanceMethod yX1_startRow, Cond.selects RX1 yX1_startRow yX1_startRow, Cond.initialized RX1, Cond.code yX1_startRow cX1_startRow 1 none, Cond.fieldLink RX1 9 "PipersDesk$Leasts" "costs" "[I", Cond.constant RX1 15 (1000000), Cond.methodLink RX1 16 yJ7_fill_53178, Cond.static yJ7_fill_53178, Cond.initialized RJ7, Cond.code yJ7_fill_53178 cJ7_fill_53178 4 none, Cond.methodLink RX4 81 yX1_growFrom, Cond.instanceMethod yX1_growFrom, Cond.selects RX1 yX1_growFrom yX1_growFrom, Cond.code yX1_growFrom cX1_growFrom 8 none, Cond.methodLink RX1 26 Lib.Math.min.name, Cond.methodLink RX1 22 yX1_firstLeastBeside, Cond.instanceMethod yX1_firstLeastBeside, Cond.selects RX1 yX1_firstLeastBeside yX1_firstLeastBeside, Cond.code yX1_firstLeastBeside cX1_firstLeastBeside 4 (some .int), Cond.methodLink RX4 85 yX5_gaps, Cond.instanceMethod yX5_gaps, Cond.selects RX5 yX5_gaps yX5_gaps]
def wsL_tuneAt_r6 : List Cond := [Cond.code yX5_gaps cX5_gaps 1 (some .int), Cond.methodLink RX4 88 yX5_costsAt, Cond.instanceMethod yX5_costsAt, Cond.selects RX5 yX5_costsAt yX5_costsAt, Cond.code yX5_costsAt cX5_costsAt 2 (some (.array .int)), Cond.methodLink RX4 92 yX1_leastOfAll, Cond.instanceMethod yX1_leastOfAll, Cond.selects RX1 yX1_leastOfAll yX1_leastOfAll, Cond.code yX1_leastOfAll cX1_leastOfAll 1 (some .int), Cond.methodLink RX4 64 yX4_keepIfLess, Cond.instanceMethod yX4_keepIfLess, Cond.selects RX4 yX4_keepIfLess yX4_keepIfLess, Cond.code yX4_keepIfLess cX4_keepIfLess 2 none, Cond.fieldLink RX4 27 "PipersDesk$SetSearch" "best" "[I", Cond.methodLink RX4 72 arraycopyName, Cond.native arraycopyName, Cond.static arraycopyName, Cond.initialized "java/lang/System", Cond.methodLink RX4 68 yX4_goToNextOrder, Cond.instanceMethod yX4_goToNextOrder, Cond.selects RX4 yX4_goToNextOrder yX4_goToNextOrder, Cond.code yX4_goToNextOrder cX4_goToNextOrder 5 (some .boolean), Cond.methodLink RX4 95 yX4_exchange, Cond.instanceMethod yX4_exchange]
def wsL_tuneAt_r7 : List Cond := [Cond.selects RX4 yX4_exchange yX4_exchange, Cond.code yX4_exchange cX4_exchange 4 none, Cond.methodLink RX7 174 yX4_size, Cond.instanceMethod yX4_size, Cond.selects RX4 yX4_size yX4_size, Cond.code yX4_size cX4_size 1 (some .int), Cond.methodLink RX7 177 yX4_bestAt, Cond.instanceMethod yX4_bestAt, Cond.selects RX4 yX4_bestAt yX4_bestAt, Cond.code yX4_bestAt cX4_bestAt 2 (some .int)]
def wsL_tuneAt : List Cond := .codeWith yL_tuneAt cL_tuneAt 4 (some .int) [(0, 9, 12, 26), (0, 9, 15, 36)] :: ((wsL_tuneAt_r1 ++ (wsL_tuneAt_r2 ++ (wsL_tuneAt_r3 ++ (wsL_tuneAt_r4 ++ (wsL_tuneAt_r5 ++ (wsL_tuneAt_r6 ++ wsL_tuneAt_r7)))))) ++ wsX70 ++ wsX50 ++ wsX00 ++ wsX30 ++ wsX20 ++ wsX40 ++ wsX10 ++ (vx_atS RX7 77 "java/lang/IllegalStateException" ["java/lang/RuntimeException", "java/lang/Exception"]).filter goodWord ++ (vx_atS RX7 100 "java/lang/IndexOutOfBoundsException" ["java/lang/RuntimeException", "java/lang/Exception"]).filter goodWord)
def wsL_law0_r1 : List Cond := [Cond.classLink RL 8 RX7, Cond.instantiable RX7 5, Cond.initialized RX7, Cond.classLink RL 83 RX8, Cond.instantiable RX8 21, Cond.initialized RX8, Cond.arrayClass .long, Cond.arrayClass .double, Cond.methodLink RL 82 yX7_init, Cond.instanceMethod yX7_init, Cond.code yX7_init cX7_init 2 none, Cond.methodLink RX7 3 objectInit, Cond.instanceMethod objectInit, Cond.code objectInit ⟨#[0xb1]⟩ 1 none, Cond.classLink RX7 9 RX0, Cond.instantiable RX0 1, Cond.initialized RX0, Cond.fieldLink RX7 12 "PipersDesk" "fingers" "LPipersDesk$Fingers;", Cond.classLink RX7 16 RX3, Cond.instantiable RX3 4, Cond.initialized RX3, Cond.fieldLink RX7 19 "PipersDesk" "book" "LPipersDesk$OrnamentBook;", Cond.classLink RX7 23 RX5, Cond.fieldLink RX7 25 "PipersDesk" "tunes" "[LPipersDesk$Tune;"]
def wsL_law0_r2 : List Cond := [Cond.instantiable RX5 5, Cond.initialized RX5, Cond.classLink RX7 30 RX6, Cond.instantiable RX6 4, Cond.initialized RX6, Cond.fieldLink RX7 33 "PipersDesk" "tuneChoices" "LPipersDesk$TuneChoices;", Cond.classLink RX7 37 RX4, Cond.instantiable RX4 6, Cond.initialized RX4, Cond.fieldLink RX7 40 "PipersDesk" "setSearch" "LPipersDesk$SetSearch;", Cond.methodLink RX7 11 yX0_init, Cond.instanceMethod yX0_init, Cond.code yX0_init cX0_init 1 none, Cond.methodLink RX0 3 objectInit, Cond.classLink RX0 9 "[[I", Cond.arrayClass .int, Cond.fieldLink RX0 11 "PipersDesk$Fingers" "stepCosts" "[[I", Cond.methodLink RX0 16 yX0_limitTo, Cond.instanceMethod yX0_limitTo, Cond.selects RX0 yX0_limitTo yX0_limitTo, Cond.code yX0_limitTo cX0_limitTo 7 (some .int), Cond.constant RX0 37 (1000000), Cond.methodLink RX0 29 yX0_holesMoved, Cond.static yX0_holesMoved]
def wsL_law0_r3 : List Cond := [Cond.code yX0_holesMoved cX0_holesMoved 2 (some .int), Cond.methodLink RX0 24 yJ6_bitCount_0f7a4, Cond.static yJ6_bitCount_0f7a4, Cond.initialized RJ6, Cond.code yJ6_bitCount_0f7a4 cJ6_bitCount_0f7a4 1 (some .int), Cond.constant RJ6 265 (1431655765), Cond.constant RJ6 266 (858993459), Cond.constant RJ6 267 (252645135), Cond.methodLink RX0 33 yX0_crosses, Cond.static yX0_crosses, Cond.code yX0_crosses cX0_crosses 4 (some .boolean), Cond.methodLink RX7 18 yX3_init, Cond.instanceMethod yX3_init, Cond.code yX3_init cX3_init 1 none, Cond.methodLink RX3 3 objectInit, Cond.classLink RX3 9 RX2, Cond.fieldLink RX3 11 "PipersDesk$OrnamentBook" "entries" "[LPipersDesk$Ornament;", Cond.fieldLink RX3 17 "PipersDesk$OrnamentBook" "draft" "[I", Cond.methodLink RX7 29 yX5_init, Cond.instanceMethod yX5_init, Cond.code yX5_init cX5_init 1 none, Cond.methodLink RX5 3 objectInit, Cond.fieldLink RX5 9 "PipersDesk$Tune" "pitches" "[I", Cond.fieldLink RX5 15 "PipersDesk$Tune" "lengths" "[I"]
def wsL_law0_r4 : List Cond := [Cond.arrayClass .boolean, Cond.fieldLink RX5 18 "PipersDesk$Tune" "wishes" "[Z", Cond.classLink RX5 22 "[[I", Cond.fieldLink RX5 24 "PipersDesk$Tune" "gapCosts" "[[I", Cond.methodLink RX7 32 yX6_init, Cond.instanceMethod yX6_init, Cond.code yX6_init cX6_init 2 none, Cond.methodLink RX6 3 objectInit, Cond.classLink RX6 9 RX1, Cond.fieldLink RX6 11 "PipersDesk$TuneChoices" "rows" "[LPipersDesk$Leasts;", Cond.instantiable RX1 1, Cond.initialized RX1, Cond.fieldLink RX6 18 "PipersDesk$TuneChoices" "empties" "LPipersDesk$Leasts;", Cond.fieldLink RX6 22 "PipersDesk$TuneChoices" "emptyCosts" "[I", Cond.fieldLink RX6 26 "PipersDesk$TuneChoices" "counts" "[I", Cond.methodLink RX6 17 yX1_init, Cond.instanceMethod yX1_init, Cond.code yX1_init cX1_init 1 none, Cond.methodLink RX1 3 objectInit, Cond.fieldLink RX1 9 "PipersDesk$Leasts" "costs" "[I", Cond.methodLink RX7 39 yX4_init, Cond.instanceMethod yX4_init, Cond.code yX4_init cX4_init 1 none, Cond.methodLink RX4 3 objectInit]
def wsL_law0_r5 : List Cond := [Cond.classLink RX4 9 "[[I", Cond.fieldLink RX4 11 "PipersDesk$SetSearch" "joinCosts" "[[I", Cond.classLink RX4 16 RX1, Cond.fieldLink RX4 19 "PipersDesk$SetSearch" "row" "LPipersDesk$Leasts;", Cond.fieldLink RX4 23 "PipersDesk$SetSearch" "order" "[I", Cond.fieldLink RX4 27 "PipersDesk$SetSearch" "best" "[I", Cond.methodLink RX4 18 yX1_init, Cond.methodLink RL 85 yX8_init, Cond.instanceMethod yX8_init, Cond.code yX8_init cX8_init 1 none, Cond.methodLink RX8 1 objectInit, Cond.fieldLink RX8 7 "PipersDeskModel" "holes" "[I", Cond.fieldLink RX8 13 "PipersDeskModel" "limit" "I", Cond.fieldLink RX8 17 "PipersDeskModel" "graces" "[I", Cond.fieldLink RX8 20 "PipersDeskModel" "graceMany" "[I", Cond.fieldLink RX8 23 "PipersDeskModel" "draft" "[I", Cond.fieldLink RX8 26 "PipersDeskModel" "pitches" "[I", Cond.fieldLink RX8 29 "PipersDeskModel" "lengths" "[I", Cond.fieldLink RX8 32 "PipersDeskModel" "wishes" "[Z", Cond.fieldLink RX8 36 "PipersDeskModel" "noteMany" "[I", Cond.fieldLink RX8 39 "PipersDeskModel" "rowPitches" "[I", Cond.fieldLink RX8 42 "PipersDeskModel" "rowLengths" "[I", Cond.fieldLink RX8 45 "PipersDeskModel" "rowWishes" "[Z", Cond.fieldLink RX8 48 "PipersDeskModel" "least" "[I"]
def wsL_law0_r6 : List Cond := [Cond.fieldLink RX8 51 "PipersDeskModel" "ways" "[I", Cond.fieldLink RX8 54 "PipersDeskModel" "most" "[I", Cond.fieldLink RX8 57 "PipersDeskModel" "order" "[I", Cond.fieldLink RX8 60 "PipersDeskModel" "bestOrder" "[I", Cond.methodLink RL 86 yL_cost, Cond.static yL_cost, Cond.initialized RL, Cond.codeWith yL_cost cL_cost 5 (some .int) [(0, 10, 13, 13)], Cond.classLink RL 13 "java/lang/IllegalArgumentException", Cond.methodLink RL 7 yX7_cost, Cond.instanceMethod yX7_cost, Cond.selects RX7 yX7_cost yX7_cost, Cond.code yX7_cost cX7_cost 3 (some .int), Cond.methodLink RX7 44 yX7_checkPitch, Cond.static yX7_checkPitch, Cond.code yX7_checkPitch cX7_checkPitch 1 none, Cond.classLink RX7 56 "java/lang/IllegalArgumentException", Cond.initialized "java/lang/IllegalArgumentException", Cond.methodLink RX7 48 yX0_holesMoved, Cond.methodLink RL 91 yX8_cost, Cond.instanceMethod yX8_cost, Cond.selects RX8 yX8_cost yX8_cost, Cond.code yX8_cost cX8_cost 3 (some .int), Cond.methodLink RX8 74 yX8_isPitch]
def wsL_law0_r7 : List Cond := [Cond.static yX8_isPitch, Cond.code yX8_isPitch cX8_isPitch 1 (some .boolean), Cond.methodLink RX8 66 yX8_in, Cond.static yX8_in, Cond.code yX8_in cX8_in 3 (some .boolean), Cond.methodLink RX8 78 yX8_goesWell, Cond.instanceMethod yX8_goesWell, Cond.selects RX8 yX8_goesWell yX8_goesWell, Cond.code yX8_goesWell cX8_goesWell 2 (some .boolean), Cond.fieldLink RX8 63 "PipersDeskModel" "thrown" "I", Cond.methodLink RX8 70 yX8_costOf, Cond.instanceMethod yX8_costOf, Cond.selects RX8 yX8_costOf yX8_costOf, Cond.code yX8_costOf cX8_costOf 5 (some .int), Cond.methodLink RL 92 yX8_thrown, Cond.instanceMethod yX8_thrown, Cond.selects RX8 yX8_thrown yX8_thrown, Cond.code yX8_thrown cX8_thrown 1 (some .int), Cond.methodLink RL 95 yL_isBarred, Cond.static yL_isBarred, Cond.codeWith yL_isBarred cL_isBarred 5 (some .int) [(0, 17, 20, 13)], Cond.methodLink RL 15 yX7_isBarred, Cond.instanceMethod yX7_isBarred, Cond.selects RX7 yX7_isBarred yX7_isBarred]
def wsL_law0_r8 : List Cond := [Cond.code yX7_isBarred cX7_isBarred 3 (some .boolean), Cond.methodLink RX7 52 yX0_bars, Cond.instanceMethod yX0_bars, Cond.selects RX0 yX0_bars yX0_bars, Cond.code yX0_bars cX0_bars 3 (some .boolean), Cond.methodLink RL 97 yX8_isBarred, Cond.instanceMethod yX8_isBarred, Cond.selects RX8 yX8_isBarred yX8_isBarred, Cond.code yX8_isBarred cX8_isBarred 3 (some .boolean), Cond.methodLink RX8 81 yX8_bars, Cond.instanceMethod yX8_bars, Cond.selects RX8 yX8_bars yX8_bars, Cond.code yX8_bars cX8_bars 5 (some .boolean), Cond.methodLink RL 98 yL_setLimit, Cond.static yL_setLimit, Cond.codeWith yL_setLimit cL_setLimit 4 (some .int) [(0, 9, 12, 13)], Cond.methodLink RL 19 yX7_setLimit, Cond.instanceMethod yX7_setLimit, Cond.selects RX7 yX7_setLimit yX7_setLimit, Cond.code yX7_setLimit cX7_setLimit 2 (some .int), Cond.methodLink RX7 63 yX0_limitTo, Cond.methodLink RL 101 yX8_setLimit, Cond.instanceMethod yX8_setLimit, Cond.selects RX8 yX8_setLimit yX8_setLimit]
def wsL_law0_r9 : List Cond := [Cond.code yX8_setLimit cX8_setLimit 5 (some .int), Cond.methodLink RL 102 yL_grace, Cond.static yL_grace, Cond.codeWith yL_grace cL_grace 4 (some .int) [(0, 9, 12, 13), (0, 9, 15, 26)], Cond.classLink RL 26 "java/lang/IllegalStateException", Cond.methodLink RL 23 yX7_grace, Cond.instanceMethod yX7_grace, Cond.selects RX7 yX7_grace yX7_grace, Cond.code yX7_grace cX7_grace 2 (some .int), Cond.classLink RX7 73 "java/lang/IllegalStateException", Cond.initialized "java/lang/IllegalStateException", Cond.methodLink RX7 69 yX3_isDraftFull, Cond.instanceMethod yX3_isDraftFull, Cond.selects RX3 yX3_isDraftFull yX3_isDraftFull, Cond.code yX3_isDraftFull cX3_isDraftFull 1 (some .boolean), Cond.fieldLink RX3 25 "PipersDesk$OrnamentBook" "draftSize" "I", Cond.methodLink RX7 78 yX3_addToDraft, Cond.instanceMethod yX3_addToDraft, Cond.selects RX3 yX3_addToDraft yX3_addToDraft, Cond.code yX3_addToDraft cX3_addToDraft 2 (some .int), Cond.methodLink RL 104 yX8_grace, Cond.instanceMethod yX8_grace, Cond.selects RX8 yX8_grace yX8_grace, Cond.code yX8_grace cX8_grace 2 (some .int)]
def wsL_law0_r10 : List Cond := [Cond.fieldLink RX8 85 "PipersDeskModel" "drafted" "I", Cond.methodLink RL 105 yL_enter, Cond.static yL_enter, Cond.codeWith yL_enter cL_enter 3 (some .int) [(0, 8, 11, 26)], Cond.methodLink RL 28 yX7_enter, Cond.instanceMethod yX7_enter, Cond.selects RX7 yX7_enter yX7_enter, Cond.code yX7_enter cX7_enter 1 (some .int), Cond.methodLink RX7 81 yX3_isDraftEmpty, Cond.instanceMethod yX3_isDraftEmpty, Cond.selects RX3 yX3_isDraftEmpty yX3_isDraftEmpty, Cond.code yX3_isDraftEmpty cX3_isDraftEmpty 1 (some .boolean), Cond.methodLink RX7 84 yX3_isFull, Cond.instanceMethod yX3_isFull, Cond.selects RX3 yX3_isFull yX3_isFull, Cond.code yX3_isFull cX3_isFull 1 (some .boolean), Cond.fieldLink RX3 21 "PipersDesk$OrnamentBook" "size" "I", Cond.methodLink RX7 89 yX3_enterDraft, Cond.instanceMethod yX3_enterDraft, Cond.selects RX3 yX3_enterDraft yX3_enterDraft, Cond.code yX3_enterDraft cX3_enterDraft 1 (some .int), Cond.instantiable RX2 1, Cond.initialized RX2, Cond.methodLink RX3 28 yJ7_copyOf_59c91]
def wsL_law0_r11 : List Cond := [Cond.static yJ7_copyOf_59c91, Cond.initialized RJ7, Cond.code yJ7_copyOf_59c91 cJ7_copyOf_59c91 3 (some (.array .int)), Cond.methodLink RJ7 316 ⟨"[I", "clone", "()Ljava/lang/Object;"⟩, Cond.sameMethod "[I" "java/lang/Object" "clone" "()Ljava/lang/Object;", Cond.native ⟨"java/lang/Object", "clone", "()Ljava/lang/Object;"⟩, Cond.instanceMethod ⟨"java/lang/Object", "clone", "()Ljava/lang/Object;"⟩, Cond.selects "[I" ⟨"[I", "clone", "()Ljava/lang/Object;"⟩ ⟨"java/lang/Object", "clone", "()Ljava/lang/Object;"⟩, Cond.classLink RJ7 317 "[I", Cond.methodLink RJ7 304 Lib.Math.min.name, Cond.static Lib.Math.min.name, Cond.initialized "java/lang/Math", Cond.code Lib.Math.min.name Lib.Math.min.code 2 (some .int), Cond.methodLink RJ7 150 arraycopyName, Cond.native arraycopyName, Cond.static arraycopyName, Cond.initialized "java/lang/System", Cond.methodLink RX3 34 yX2_init, Cond.instanceMethod yX2_init, Cond.code yX2_init cX2_init 2 none, Cond.methodLink RX2 3 objectInit, Cond.fieldLink RX2 9 "PipersDesk$Ornament" "graces" "[I", Cond.methodLink RL 108 yX8_enter, Cond.instanceMethod yX8_enter]
def wsL_law0_r12 : List Cond := [Cond.selects RX8 yX8_enter yX8_enter, Cond.code yX8_enter cX8_enter 2 (some .int), Cond.fieldLink RX8 88 "PipersDeskModel" "ornaments" "I", Cond.methodLink RL 109 yX7_ornaments, Cond.instanceMethod yX7_ornaments, Cond.selects RX7 yX7_ornaments yX7_ornaments, Cond.code yX7_ornaments cX7_ornaments 1 (some .int), Cond.methodLink RX7 93 yX3_size, Cond.instanceMethod yX3_size, Cond.selects RX3 yX3_size yX3_size, Cond.code yX3_size cX3_size 1 (some .int), Cond.methodLink RL 112 yX8_ornaments, Cond.instanceMethod yX8_ornaments, Cond.selects RX8 yX8_ornaments yX8_ornaments, Cond.code yX8_ornaments cX8_ornaments 1 (some .int), Cond.methodLink RL 113 yL_fits, Cond.static yL_fits, Cond.codeWith yL_fits cL_fits 7 (some .int) [(0, 21, 24, 36), (0, 21, 28, 13)], Cond.classLink RL 36 "java/lang/IndexOutOfBoundsException", Cond.methodLink RL 32 yX7_fits, Cond.instanceMethod yX7_fits, Cond.selects RX7 yX7_fits yX7_fits, Cond.code yX7_fits cX7_fits 5 (some .boolean), Cond.classLink RX7 96 "java/lang/IndexOutOfBoundsException"]
def wsL_law0_r13 : List Cond := [Cond.initialized "java/lang/IndexOutOfBoundsException", Cond.constant RX7 108 (1000000), Cond.methodLink RX7 101 yX7_checkLength, Cond.static yX7_checkLength, Cond.code yX7_checkLength cX7_checkLength 1 none, Cond.methodLink RX7 104 yX3_costOf, Cond.instanceMethod yX3_costOf, Cond.selects RX3 yX3_costOf yX3_costOf, Cond.code yX3_costOf cX3_costOf 7 (some .int), Cond.constant RX3 37 (1000000), Cond.methodLink RX3 38 yX2_costBetween, Cond.instanceMethod yX2_costBetween, Cond.selects RX2 yX2_costBetween yX2_costBetween, Cond.code yX2_costBetween cX2_costBetween 9 (some .int), Cond.constant RX2 15 (1000000), Cond.methodLink RX2 26 Lib.Math.min.name, Cond.methodLink RX2 16 yX2_soundOf, Cond.static yX2_soundOf, Cond.code yX2_soundOf cX2_soundOf 3 (some .int), Cond.methodLink RX2 20 yX0_stepCost, Cond.instanceMethod yX0_stepCost, Cond.selects RX0 yX0_stepCost yX0_stepCost, Cond.code yX0_stepCost cX0_stepCost 3 (some .int), Cond.methodLink RL 116 yX8_fits]
def wsL_law0_r14 : List Cond := [Cond.instanceMethod yX8_fits, Cond.selects RX8 yX8_fits yX8_fits, Cond.code yX8_fits cX8_fits 6 (some .boolean), Cond.constant RX8 91 (1000000), Cond.methodLink RX8 95 yX8_between, Cond.instanceMethod yX8_between, Cond.selects RX8 yX8_between yX8_between, Cond.code yX8_between cX8_between 10 (some .int), Cond.methodLink RX8 92 yX8_moves, Cond.instanceMethod yX8_moves, Cond.selects RX8 yX8_moves yX8_moves, Cond.code yX8_moves cX8_moves 3 (some .int), Cond.methodLink RL 117 yL_addNote, Cond.static yL_addNote, Cond.codeWith yL_addNote cL_addNote 6 (some .int) [(0, 12, 15, 13), (0, 12, 19, 26)], Cond.methodLink RL 38 yX7_addNote, Cond.instanceMethod yX7_addNote, Cond.selects RX7 yX7_addNote yX7_addNote, Cond.code yX7_addNote cX7_addNote 4 (some .int), Cond.methodLink RX7 109 yX7_checkTune, Cond.static yX7_checkTune, Cond.code yX7_checkTune cX7_checkTune 1 none, Cond.methodLink RX7 112 yX5_size, Cond.instanceMethod yX5_size]
def wsL_law0_r15 : List Cond := [Cond.selects RX5 yX5_size yX5_size, Cond.code yX5_size cX5_size 1 (some .int), Cond.fieldLink RX5 27 "PipersDesk$Tune" "size" "I", Cond.methodLink RX7 115 yX5_append, Cond.instanceMethod yX5_append, Cond.selects RX5 yX5_append yX5_append, Cond.code yX5_append cX5_append 3 (some .int), Cond.methodLink RL 120 yX8_addNote, Cond.instanceMethod yX8_addNote, Cond.selects RX8 yX8_addNote yX8_addNote, Cond.code yX8_addNote cX8_addNote 6 (some .int), Cond.methodLink RX8 99 yX8_isTune, Cond.static yX8_isTune, Cond.code yX8_isTune cX8_isTune 1 (some .boolean), Cond.methodLink RL 121 yL_removeNote, Cond.static yL_removeNote, Cond.codeWith yL_removeNote cL_removeNote 4 (some .int) [(0, 9, 12, 13), (0, 9, 15, 45)], Cond.classLink RL 45 "java/util/NoSuchElementException", Cond.methodLink RL 42 yX7_removeNote, Cond.instanceMethod yX7_removeNote, Cond.selects RX7 yX7_removeNote yX7_removeNote, Cond.code yX7_removeNote cX7_removeNote 2 (some .int), Cond.classLink RX7 118 "java/util/NoSuchElementException", Cond.initialized "java/util/NoSuchElementException"]
def wsL_law0_r16 : List Cond := [Cond.methodLink RX7 123 yX5_dropLast, Cond.instanceMethod yX5_dropLast, Cond.selects RX5 yX5_dropLast yX5_dropLast, Cond.code yX5_dropLast cX5_dropLast 1 (some .int), Cond.methodLink RL 123 yX8_removeNote, Cond.instanceMethod yX8_removeNote, Cond.selects RX8 yX8_removeNote yX8_removeNote, Cond.code yX8_removeNote cX8_removeNote 2 (some .int), Cond.methodLink RL 124 yL_setWish, Cond.static yL_setWish, Cond.codeWith yL_setWish cL_setWish 6 (some .int) [(0, 19, 22, 13), (0, 19, 26, 36)], Cond.methodLink RL 47 yX7_setWish, Cond.instanceMethod yX7_setWish, Cond.selects RX7 yX7_setWish yX7_setWish, Cond.code yX7_setWish cX7_setWish 4 (some .boolean), Cond.methodLink RX7 126 yX7_checkGap, Cond.instanceMethod yX7_checkGap, Cond.selects RX7 yX7_checkGap yX7_checkGap, Cond.code yX7_checkGap cX7_checkGap 3 none, Cond.methodLink RX7 142 yX5_gaps, Cond.instanceMethod yX5_gaps, Cond.selects RX5 yX5_gaps yX5_gaps, Cond.code yX5_gaps cX5_gaps 1 (some .int), Cond.methodLink RX7 130 yX5_replaceWish]
def wsL_law0_r17 : List Cond := [Cond.instanceMethod yX5_replaceWish, Cond.selects RX5 yX5_replaceWish yX5_replaceWish, Cond.code yX5_replaceWish cX5_replaceWish 4 (some .boolean), Cond.methodLink RL 127 yX8_setWish, Cond.instanceMethod yX8_setWish, Cond.selects RX8 yX8_setWish yX8_setWish, Cond.code yX8_setWish cX8_setWish 5 (some .boolean), Cond.methodLink RX8 102 yX8_isGap, Cond.instanceMethod yX8_isGap, Cond.selects RX8 yX8_isGap yX8_isGap, Cond.code yX8_isGap cX8_isGap 3 (some .boolean), Cond.methodLink RL 128 yL_notes, Cond.static yL_notes, Cond.codeWith yL_notes cL_notes 4 (some .int) [(0, 9, 12, 13)], Cond.methodLink RL 51 yX7_notes, Cond.instanceMethod yX7_notes, Cond.selects RX7 yX7_notes yX7_notes, Cond.code yX7_notes cX7_notes 2 (some .int), Cond.methodLink RL 130 yX8_notes, Cond.instanceMethod yX8_notes, Cond.selects RX8 yX8_notes yX8_notes, Cond.code yX8_notes cX8_notes 2 (some .int), Cond.methodLink RL 131 yL_time, Cond.static yL_time]
def wsL_law0_r18 : List Cond := [Cond.codeWith yL_time cL_time 5 (some .int) [(0, 10, 13, 13), (0, 10, 17, 36), (0, 10, 21, 26)], Cond.methodLink RL 54 yX7_time, Cond.instanceMethod yX7_time, Cond.selects RX7 yX7_time yX7_time, Cond.code yX7_time cX7_time 4 (some .int), Cond.methodLink RX7 136 yX7_solve, Cond.instanceMethod yX7_solve, Cond.selects RX7 yX7_solve yX7_solve, Cond.code yX7_solve cX7_solve 3 (some .int), Cond.methodLink RX7 151 yX5_weighGaps, Cond.instanceMethod yX5_weighGaps, Cond.selects RX5 yX5_weighGaps yX5_weighGaps, Cond.code yX5_weighGaps cX5_weighGaps 5 none, Cond.methodLink RX5 31 yX3_weigh, Cond.instanceMethod yX3_weigh, Cond.selects RX3 yX3_weigh yX3_weigh, Cond.code yX3_weigh cX3_weigh 8 none, Cond.methodLink RX3 45 yX0_stepCost, Cond.methodLink RX3 51 yX3_costOf, Cond.methodLink RX7 188 yX6_solveFor, Cond.instanceMethod yX6_solveFor, Cond.selects RX6 yX6_solveFor yX6_solveFor, Cond.code yX6_solveFor cX6_solveFor 3 (some .int), Cond.methodLink RX6 29 yX5_gaps]
def wsL_law0_r19 : List Cond := [Cond.methodLink RX6 35 yX1_startRow, Cond.instanceMethod yX1_startRow, Cond.selects RX1 yX1_startRow yX1_startRow, Cond.code yX1_startRow cX1_startRow 1 none, Cond.constant RX1 15 (1000000), Cond.methodLink RX1 16 yJ7_fill_53178, Cond.static yJ7_fill_53178, Cond.code yJ7_fill_53178 cJ7_fill_53178 4 none, Cond.methodLink RX6 38 yX5_costsAt, Cond.instanceMethod yX5_costsAt, Cond.selects RX5 yX5_costsAt yX5_costsAt, Cond.code yX5_costsAt cX5_costsAt 2 (some (.array .int)), Cond.methodLink RX6 42 yX1_growFrom, Cond.instanceMethod yX1_growFrom, Cond.selects RX1 yX1_growFrom yX1_growFrom, Cond.code yX1_growFrom cX1_growFrom 8 none, Cond.methodLink RX1 26 Lib.Math.min.name, Cond.methodLink RX1 22 yX1_firstLeastBeside, Cond.instanceMethod yX1_firstLeastBeside, Cond.selects RX1 yX1_firstLeastBeside yX1_firstLeastBeside, Cond.code yX1_firstLeastBeside cX1_firstLeastBeside 4 (some .int), Cond.methodLink RX6 46 yX1_leastOfAll, Cond.instanceMethod yX1_leastOfAll, Cond.selects RX1 yX1_leastOfAll yX1_leastOfAll]
def wsL_law0_r20 : List Cond := [Cond.code yX1_leastOfAll cX1_leastOfAll 1 (some .int), Cond.methodLink RX7 139 yX5_lengthOf, Cond.instanceMethod yX5_lengthOf, Cond.selects RX5 yX5_lengthOf yX5_lengthOf, Cond.code yX5_lengthOf cX5_lengthOf 2 (some .int), Cond.methodLink RX7 145 yX6_firstAt, Cond.instanceMethod yX6_firstAt, Cond.selects RX6 yX6_firstAt yX6_firstAt, Cond.code yX6_firstAt cX6_firstAt 4 (some .int), Cond.methodLink RX6 49 yX1_firstLeastBeside, Cond.methodLink RX7 148 yX3_gracesOf, Cond.instanceMethod yX3_gracesOf, Cond.selects RX3 yX3_gracesOf yX3_gracesOf, Cond.code yX3_gracesOf cX3_gracesOf 3 (some .int), Cond.methodLink RX3 42 yX2_size, Cond.instanceMethod yX2_size, Cond.selects RX2 yX2_size yX2_size, Cond.code yX2_size cX2_size 1 (some .int), Cond.methodLink RL 133 yX8_time, Cond.instanceMethod yX8_time, Cond.selects RX8 yX8_time yX8_time, Cond.code yX8_time cX8_time 4 (some .int), Cond.fieldLink RX8 105 "PipersDeskModel" "row" "I", Cond.methodLink RX8 130 yX8_faultOf]
def wsL_law0_r21 : List Cond := [Cond.instanceMethod yX8_faultOf, Cond.selects RX8 yX8_faultOf yX8_faultOf, Cond.code yX8_faultOf cX8_faultOf 3 (some .int), Cond.methodLink RX8 127 yX8_layTune, Cond.instanceMethod yX8_layTune, Cond.selects RX8 yX8_layTune yX8_layTune, Cond.code yX8_layTune cX8_layTune 2 none, Cond.methodLink RX8 117 yX8_append, Cond.instanceMethod yX8_append, Cond.selects RX8 yX8_append yX8_append, Cond.code yX8_append cX8_append 3 none, Cond.methodLink RX8 121 yX8_count, Cond.instanceMethod yX8_count, Cond.selects RX8 yX8_count yX8_count, Cond.code yX8_count cX8_count 4 none, Cond.methodLink RX8 108 yX8_countAt, Cond.instanceMethod yX8_countAt, Cond.selects RX8 yX8_countAt yX8_countAt, Cond.code yX8_countAt cX8_countAt 11 none, Cond.constant RX8 112 (-1000000), Cond.constant RX8 116 (500000000), Cond.methodLink RX8 113 yX8_at, Cond.instanceMethod yX8_at, Cond.selects RX8 yX8_at yX8_at]
def wsL_law0_r22 : List Cond := [Cond.code yX8_at cX8_at 4 (some .int), Cond.methodLink RX8 134 yX8_chosenAt, Cond.instanceMethod yX8_chosenAt, Cond.selects RX8 yX8_chosenAt yX8_chosenAt, Cond.code yX8_chosenAt cX8_chosenAt 5 (some .int), Cond.methodLink RX8 124 yX8_isFirst, Cond.instanceMethod yX8_isFirst, Cond.selects RX8 yX8_isFirst yX8_isFirst, Cond.code yX8_isFirst cX8_isFirst 6 (some .boolean), Cond.methodLink RL 134 yL_fitting, Cond.static yL_fitting, Cond.codeWith yL_fitting cL_fitting 5 (some .int) [(0, 10, 13, 13), (0, 10, 17, 36)], Cond.methodLink RL 57 yX7_fitting, Cond.instanceMethod yX7_fitting, Cond.selects RX7 yX7_fitting yX7_fitting, Cond.code yX7_fitting cX7_fitting 6 (some .int), Cond.methodLink RX7 155 yX5_costsAt, Cond.methodLink RL 136 yX8_fitting, Cond.instanceMethod yX8_fitting, Cond.selects RX8 yX8_fitting yX8_fitting, Cond.code yX8_fitting cX8_fitting 5 (some .int), Cond.methodLink RL 137 yL_choices, Cond.static yL_choices, Cond.codeWith yL_choices cL_choices 4 (some .int) [(0, 9, 12, 13)]]
def wsL_law0_r23 : List Cond := [Cond.methodLink RL 60 yX7_choices, Cond.instanceMethod yX7_choices, Cond.selects RX7 yX7_choices yX7_choices, Cond.code yX7_choices cX7_choices 2 (some .int), Cond.methodLink RX7 159 yX6_countFor, Cond.instanceMethod yX6_countFor, Cond.selects RX6 yX6_countFor yX6_countFor, Cond.code yX6_countFor cX6_countFor 4 (some .int), Cond.methodLink RX6 54 yJ7_fill_53178, Cond.methodLink RX6 60 yX6_countWithGap, Cond.instanceMethod yX6_countWithGap, Cond.selects RX6 yX6_countWithGap yX6_countWithGap, Cond.code yX6_countWithGap cX6_countWithGap 6 (some .int), Cond.constant RX6 53 (1000000), Cond.methodLink RL 139 yX8_choices, Cond.instanceMethod yX8_choices, Cond.selects RX8 yX8_choices yX8_choices, Cond.code yX8_choices cX8_choices 2 (some .int), Cond.methodLink RL 140 yL_least, Cond.static yL_least, Cond.codeWith yL_least cL_least 4 (some .int) [(0, 9, 12, 13), (0, 9, 15, 26)], Cond.methodLink RL 63 yX7_least, Cond.instanceMethod yX7_least, Cond.selects RX7 yX7_least yX7_least]
def wsL_law0_r24 : List Cond := [Cond.code yX7_least cX7_least 2 (some .int), Cond.methodLink RL 142 yX8_least, Cond.instanceMethod yX8_least, Cond.selects RX8 yX8_least yX8_least, Cond.code yX8_least cX8_least 2 (some .int), Cond.methodLink RX8 138 yX8_faultOfTune, Cond.instanceMethod yX8_faultOfTune, Cond.selects RX8 yX8_faultOfTune yX8_faultOfTune, Cond.code yX8_faultOfTune cX8_faultOfTune 3 (some .int), Cond.methodLink RL 143 yL_chosen, Cond.static yL_chosen, Cond.codeWith yL_chosen cL_chosen 5 (some .int) [(0, 10, 13, 13), (0, 10, 17, 36), (0, 10, 21, 26)], Cond.methodLink RL 66 yX7_chosen, Cond.instanceMethod yX7_chosen, Cond.selects RX7 yX7_chosen yX7_chosen, Cond.code yX7_chosen cX7_chosen 3 (some .int), Cond.methodLink RL 145 yX8_chosen, Cond.instanceMethod yX8_chosen, Cond.selects RX8 yX8_chosen yX8_chosen, Cond.code yX8_chosen cX8_chosen 3 (some .int), Cond.methodLink RL 146 yL_mostOrnaments, Cond.static yL_mostOrnaments, Cond.codeWith yL_mostOrnaments cL_mostOrnaments 4 (some .int) [(0, 9, 12, 13), (0, 9, 15, 26)], Cond.methodLink RL 69 yX7_mostOrnaments]
def wsL_law0_r25 : List Cond := [Cond.instanceMethod yX7_mostOrnaments, Cond.selects RX7 yX7_mostOrnaments yX7_mostOrnaments, Cond.code yX7_mostOrnaments cX7_mostOrnaments 2 (some .int), Cond.methodLink RX7 163 yX6_fewestEmptyGaps, Cond.instanceMethod yX6_fewestEmptyGaps, Cond.selects RX6 yX6_fewestEmptyGaps yX6_fewestEmptyGaps, Cond.code yX6_fewestEmptyGaps cX6_fewestEmptyGaps 6 (some .int), Cond.methodLink RL 148 yX8_mostOrnaments, Cond.instanceMethod yX8_mostOrnaments, Cond.selects RX8 yX8_mostOrnaments yX8_mostOrnaments, Cond.code yX8_mostOrnaments cX8_mostOrnaments 2 (some .int), Cond.methodLink RL 149 yL_average, Cond.static yL_average, Cond.codeWith yL_average cL_average 4 (some .int) [(0, 9, 12, 13), (0, 9, 15, 26)], Cond.methodLink RL 72 yX7_average, Cond.instanceMethod yX7_average, Cond.selects RX7 yX7_average yX7_average, Cond.code yX7_average cX7_average 4 (some .float), Cond.methodLink RL 152 yX8_average, Cond.instanceMethod yX8_average, Cond.selects RX8 yX8_average yX8_average, Cond.code yX8_average cX8_average 2 (some .float), Cond.methodLink RL 153 yL_leastSet, Cond.static yL_leastSet]
def wsL_law0_r26 : List Cond := [Cond.codeWith yL_leastSet cL_leastSet 3 (some .int) [(0, 8, 11, 26)], Cond.methodLink RL 76 yX7_leastSet, Cond.instanceMethod yX7_leastSet, Cond.selects RX7 yX7_leastSet yX7_leastSet, Cond.code yX7_leastSet cX7_leastSet 1 (some .int), Cond.methodLink RX7 166 yX7_trySets, Cond.instanceMethod yX7_trySets, Cond.selects RX7 yX7_trySets yX7_trySets, Cond.code yX7_trySets cX7_trySets 2 (some .int), Cond.methodLink RX7 193 yX4_weighJoins, Cond.instanceMethod yX4_weighJoins, Cond.selects RX4 yX4_weighJoins yX4_weighJoins, Cond.code yX4_weighJoins cX4_weighJoins 11 none, Cond.methodLink RX4 37 yX5_size, Cond.methodLink RX4 42 yX5_pitchOf, Cond.instanceMethod yX5_pitchOf, Cond.selects RX5 yX5_pitchOf yX5_pitchOf, Cond.code yX5_pitchOf cX5_pitchOf 2 (some .int), Cond.methodLink RX4 46 yX5_lengthOf, Cond.methodLink RX4 49 yX3_weigh, Cond.methodLink RX7 197 yX4_tryAllOrders, Cond.instanceMethod yX4_tryAllOrders, Cond.selects RX4 yX4_tryAllOrders yX4_tryAllOrders, Cond.code yX4_tryAllOrders cX4_tryAllOrders 6 (some .int)]
def wsL_law0_r27 : List Cond := [Cond.constant RX4 59 (1000000), Cond.fieldLink RX4 34 "PipersDesk$SetSearch" "leastCost" "I", Cond.methodLink RX4 55 yX4_startOrder, Cond.instanceMethod yX4_startOrder, Cond.selects RX4 yX4_startOrder yX4_startOrder, Cond.code yX4_startOrder cX4_startOrder 3 none, Cond.fieldLink RX4 30 "PipersDesk$SetSearch" "size" "I", Cond.methodLink RX4 60 yX4_costOfOrder, Cond.instanceMethod yX4_costOfOrder, Cond.selects RX4 yX4_costOfOrder yX4_costOfOrder, Cond.code yX4_costOfOrder cX4_costOfOrder 5 (some .int), Cond.methodLink RX4 78 yX1_startRow, Cond.methodLink RX4 81 yX1_growFrom, Cond.methodLink RX4 85 yX5_gaps, Cond.methodLink RX4 88 yX5_costsAt, Cond.methodLink RX4 92 yX1_leastOfAll, Cond.methodLink RX4 64 yX4_keepIfLess, Cond.instanceMethod yX4_keepIfLess, Cond.selects RX4 yX4_keepIfLess yX4_keepIfLess, Cond.code yX4_keepIfLess cX4_keepIfLess 2 none, Cond.methodLink RX4 72 arraycopyName, Cond.methodLink RX4 68 yX4_goToNextOrder, Cond.instanceMethod yX4_goToNextOrder, Cond.selects RX4 yX4_goToNextOrder yX4_goToNextOrder]
def wsL_law0_r28 : List Cond := [Cond.code yX4_goToNextOrder cX4_goToNextOrder 5 (some .boolean), Cond.methodLink RX4 95 yX4_exchange, Cond.instanceMethod yX4_exchange, Cond.selects RX4 yX4_exchange yX4_exchange, Cond.code yX4_exchange cX4_exchange 4 none, Cond.methodLink RX7 171 yX4_leastCost, Cond.instanceMethod yX4_leastCost, Cond.selects RX4 yX4_leastCost yX4_leastCost, Cond.code yX4_leastCost cX4_leastCost 1 (some .int), Cond.methodLink RL 155 yX8_leastSet, Cond.instanceMethod yX8_leastSet, Cond.selects RX8 yX8_leastSet yX8_leastSet, Cond.code yX8_leastSet cX8_leastSet 2 (some .int), Cond.methodLink RX8 144 yX8_goThrough, Cond.instanceMethod yX8_goThrough, Cond.selects RX8 yX8_goThrough yX8_goThrough, Cond.code yX8_goThrough cX8_goThrough 6 (some .int), Cond.methodLink RX8 141 yX8_layOrder, Cond.instanceMethod yX8_layOrder, Cond.selects RX8 yX8_layOrder yX8_layOrder, Cond.code yX8_layOrder cX8_layOrder 9 (some .boolean), Cond.methodLink RL 156 yL_tuneAt, Cond.static yL_tuneAt, Cond.codeWith yL_tuneAt cL_tuneAt 4 (some .int) [(0, 9, 12, 26), (0, 9, 15, 36)]]
def wsL_law0_r29 : List Cond := [Cond.methodLink RL 79 yX7_tuneAt, Cond.instanceMethod yX7_tuneAt, Cond.selects RX7 yX7_tuneAt yX7_tuneAt, Cond.code yX7_tuneAt cX7_tuneAt 2 (some .int), Cond.methodLink RX7 174 yX4_size, Cond.instanceMethod yX4_size, Cond.selects RX4 yX4_size yX4_size, Cond.code yX4_size cX4_size 1 (some .int), Cond.methodLink RX7 177 yX4_bestAt, Cond.instanceMethod yX4_bestAt, Cond.selects RX4 yX4_bestAt yX4_bestAt, Cond.code yX4_bestAt cX4_bestAt 2 (some .int), Cond.methodLink RL 158 yX8_tuneAt, Cond.instanceMethod yX8_tuneAt, Cond.selects RX8 yX8_tuneAt yX8_tuneAt, Cond.code yX8_tuneAt cX8_tuneAt 5 (some .int), Cond.methodLink RL 159 yX7_sets, Cond.instanceMethod yX7_sets, Cond.selects RX7 yX7_sets yX7_sets, Cond.code yX7_sets cX7_sets 1 (some .int), Cond.methodLink RL 162 yX8_sets, Cond.instanceMethod yX8_sets, Cond.selects RX8 yX8_sets yX8_sets, Cond.code yX8_sets cX8_sets 1 (some .int)]
def wsL_law0 : List Cond := (wsL_law0_r1 ++ (wsL_law0_r2 ++ (wsL_law0_r3 ++ (wsL_law0_r4 ++ (wsL_law0_r5 ++ (wsL_law0_r6 ++ (wsL_law0_r7 ++ (wsL_law0_r8 ++ (wsL_law0_r9 ++ (wsL_law0_r10 ++ (wsL_law0_r11 ++ (wsL_law0_r12 ++ (wsL_law0_r13 ++ (wsL_law0_r14 ++ (wsL_law0_r15 ++ (wsL_law0_r16 ++ (wsL_law0_r17 ++ (wsL_law0_r18 ++ (wsL_law0_r19 ++ (wsL_law0_r20 ++ (wsL_law0_r21 ++ (wsL_law0_r22 ++ (wsL_law0_r23 ++ (wsL_law0_r24 ++ (wsL_law0_r25 ++ (wsL_law0_r26 ++ (wsL_law0_r27 ++ (wsL_law0_r28 ++ wsL_law0_r29)))))))))))))))))))))))))))) ++ wsX70 ++ wsX80 ++ wsX00 ++ wsX30 ++ wsX50 ++ wsX60 ++ wsX40 ++ wsX10 ++ wsX20 ++ ([] : List Cond)
def wsL_law : List Cond := wsL_law0 ++ (vx_atS RX7 60 "java/lang/IllegalArgumentException" ["java/lang/RuntimeException", "java/lang/Exception"]).filter goodWord ++ (vx_atS RX7 77 "java/lang/IllegalStateException" ["java/lang/RuntimeException", "java/lang/Exception"]).filter goodWord ++ (vx_atS RX7 100 "java/lang/IndexOutOfBoundsException" ["java/lang/RuntimeException", "java/lang/Exception"]).filter goodWord ++ nsW
abbrev vwCl : List vw_C := [(RX0, TX0, 1), (RX1, TX1, 1), (RX2, TX2, 1), (RX3, TX3, 4), (RX4, TX4, 6), (RX5, TX5, 5), (RX6, TX6, 4), (RX7, TX7, 5), (RX8, TX8, 21)]
end
section
set_option maxRecDepth 20000 in
theorem ggX0_init_X0_limitTo : GoodIn wsX0_init wsX0_limitTo := goodIn_r _ [11, 6, 12, 13, 14, 10, 15, 16, 17, 18, 19, 20, 21, 22, 23, 24, 25, 26] (by decide +kernel) (by decide +kernel)
set_option maxRecDepth 20000 in
theorem gX0_init_X0_limitTo : GoodIn wsX0_init (wsV RX0 16 RX0 yX0_limitTo wsX0_limitTo) := goodIn_app (goodIn_of _ (by decide +kernel)) ggX0_init_X0_limitTo
theorem dX0_init_0 : decode cX0_init 0 = .ok (.aload_n 0, 1) := by decide +kernel
theorem dX0_init_1 : decode cX0_init 1 = .ok (.invokespecial 3, 3) := by decide +kernel
theorem dX0_init_4 : decode cX0_init 4 = .ok (.aload_n 0, 1) := by decide +kernel
theorem dX0_init_5 : decode cX0_init 5 = .ok (.bipush 9, 2) := by decide +kernel
theorem dX0_init_7 : decode cX0_init 7 = .ok (.bipush 9, 2) := by decide +kernel
theorem dX0_init_9 : decode cX0_init 9 = .ok (.multianewarray 9 2, 4) := by decide +kernel
theorem dX0_init_13 : decode cX0_init 13 = .ok (.putfield 11, 3) := by decide +kernel
theorem dX0_init_16 : decode cX0_init 16 = .ok (.aload_n 0, 1) := by decide +kernel
theorem dX0_init_17 : decode cX0_init 17 = .ok (.iconst 3, 1) := by decide +kernel
theorem dX0_init_18 : decode cX0_init 18 = .ok (.invokevirtual 16, 3) := by decide +kernel
theorem dX0_init_21 : decode cX0_init 21 = .ok (.pop, 1) := by decide +kernel
theorem dX0_init_22 : decode cX0_init 22 = .ok (.return_, 1) := by decide +kernel
set_option maxRecDepth 20000 in
theorem ggX0_holesMoved_J6_bitCount_0f7a4 : GoodIn wsX0_holesMoved wsJ6_bitCount_0f7a4 := goodIn_r _ [4, 5, 6, 7] (by decide +kernel) (by decide +kernel)
set_option maxRecDepth 20000 in
theorem gX0_holesMoved_J6_bitCount_0f7a4 : GoodIn wsX0_holesMoved (va_wsS RX0 24 yJ6_bitCount_0f7a4 wsJ6_bitCount_0f7a4) := goodIn_app (goodIn_of _ (by decide +kernel)) ggX0_holesMoved_J6_bitCount_0f7a4
theorem dX0_holesMoved_0 : decode cX0_holesMoved 0 = .ok (.getstatic 20, 3) := by decide +kernel
theorem dX0_holesMoved_3 : decode cX0_holesMoved 3 = .ok (.iload_n 0, 1) := by decide +kernel
theorem dX0_holesMoved_4 : decode cX0_holesMoved 4 = .ok (.iaload, 1) := by decide +kernel
theorem dX0_holesMoved_5 : decode cX0_holesMoved 5 = .ok (.getstatic 20, 3) := by decide +kernel
theorem dX0_holesMoved_8 : decode cX0_holesMoved 8 = .ok (.iload_n 1, 1) := by decide +kernel
theorem dX0_holesMoved_9 : decode cX0_holesMoved 9 = .ok (.iaload, 1) := by decide +kernel
theorem dX0_holesMoved_10 : decode cX0_holesMoved 10 = .ok (.ixor, 1) := by decide +kernel
theorem dX0_holesMoved_11 : decode cX0_holesMoved 11 = .ok (.invokestatic 24, 3) := by decide +kernel
theorem dX0_holesMoved_14 : decode cX0_holesMoved 14 = .ok (.ireturn, 1) := by decide +kernel
theorem dX0_crosses_0 : decode cX0_crosses 0 = .ok (.getstatic 20, 3) := by decide +kernel
theorem dX0_crosses_3 : decode cX0_crosses 3 = .ok (.iload_n 0, 1) := by decide +kernel
theorem dX0_crosses_4 : decode cX0_crosses 4 = .ok (.iaload, 1) := by decide +kernel
theorem dX0_crosses_5 : decode cX0_crosses 5 = .ok (.getstatic 20, 3) := by decide +kernel
theorem dX0_crosses_8 : decode cX0_crosses 8 = .ok (.iload_n 1, 1) := by decide +kernel
theorem dX0_crosses_9 : decode cX0_crosses 9 = .ok (.iaload, 1) := by decide +kernel
theorem dX0_crosses_10 : decode cX0_crosses 10 = .ok (.iconst (-1), 1) := by decide +kernel
theorem dX0_crosses_11 : decode cX0_crosses 11 = .ok (.ixor, 1) := by decide +kernel
theorem dX0_crosses_12 : decode cX0_crosses 12 = .ok (.iand, 1) := by decide +kernel
theorem dX0_crosses_13 : decode cX0_crosses 13 = .ok (.ifCond .eq 7, 3) := by decide +kernel
theorem dX0_crosses_16 : decode cX0_crosses 16 = .ok (.iconst 1, 1) := by decide +kernel
theorem dX0_crosses_17 : decode cX0_crosses 17 = .ok (.goto 4, 3) := by decide +kernel
theorem dX0_crosses_20 : decode cX0_crosses 20 = .ok (.iconst 0, 1) := by decide +kernel
theorem dX0_crosses_21 : decode cX0_crosses 21 = .ok (.istore_n 2, 1) := by decide +kernel
theorem dX0_crosses_22 : decode cX0_crosses 22 = .ok (.getstatic 20, 3) := by decide +kernel
theorem dX0_crosses_25 : decode cX0_crosses 25 = .ok (.iload_n 1, 1) := by decide +kernel
theorem dX0_crosses_26 : decode cX0_crosses 26 = .ok (.iaload, 1) := by decide +kernel
theorem dX0_crosses_27 : decode cX0_crosses 27 = .ok (.getstatic 20, 3) := by decide +kernel
theorem dX0_crosses_30 : decode cX0_crosses 30 = .ok (.iload_n 0, 1) := by decide +kernel
theorem dX0_crosses_31 : decode cX0_crosses 31 = .ok (.iaload, 1) := by decide +kernel
theorem dX0_crosses_32 : decode cX0_crosses 32 = .ok (.iconst (-1), 1) := by decide +kernel
theorem dX0_crosses_33 : decode cX0_crosses 33 = .ok (.ixor, 1) := by decide +kernel
theorem dX0_crosses_34 : decode cX0_crosses 34 = .ok (.iand, 1) := by decide +kernel
theorem dX0_crosses_35 : decode cX0_crosses 35 = .ok (.ifCond .eq 7, 3) := by decide +kernel
theorem dX0_crosses_38 : decode cX0_crosses 38 = .ok (.iconst 1, 1) := by decide +kernel
theorem dX0_crosses_39 : decode cX0_crosses 39 = .ok (.goto 4, 3) := by decide +kernel
theorem dX0_crosses_42 : decode cX0_crosses 42 = .ok (.iconst 0, 1) := by decide +kernel
theorem dX0_crosses_43 : decode cX0_crosses 43 = .ok (.istore_n 3, 1) := by decide +kernel
theorem dX0_crosses_44 : decode cX0_crosses 44 = .ok (.iload_n 2, 1) := by decide +kernel
theorem dX0_crosses_45 : decode cX0_crosses 45 = .ok (.ifCond .eq 11, 3) := by decide +kernel
theorem dX0_crosses_48 : decode cX0_crosses 48 = .ok (.iload_n 3, 1) := by decide +kernel
theorem dX0_crosses_49 : decode cX0_crosses 49 = .ok (.ifCond .eq 7, 3) := by decide +kernel
theorem dX0_crosses_52 : decode cX0_crosses 52 = .ok (.iconst 1, 1) := by decide +kernel
theorem dX0_crosses_53 : decode cX0_crosses 53 = .ok (.goto 4, 3) := by decide +kernel
theorem dX0_crosses_56 : decode cX0_crosses 56 = .ok (.iconst 0, 1) := by decide +kernel
theorem dX0_crosses_57 : decode cX0_crosses 57 = .ok (.ireturn, 1) := by decide +kernel
set_option maxRecDepth 20000 in
theorem ggX0_limitTo_X0_holesMoved : GoodIn wsX0_limitTo wsX0_holesMoved := goodIn_r _ [6, 7, 8, 9, 10, 11, 12, 13] (by decide +kernel) (by decide +kernel)
set_option maxRecDepth 20000 in
theorem gX0_limitTo_X0_holesMoved : GoodIn wsX0_limitTo (va_wsS RX0 29 yX0_holesMoved wsX0_holesMoved) := goodIn_app (goodIn_of _ (by decide +kernel)) ggX0_limitTo_X0_holesMoved
set_option maxRecDepth 20000 in
theorem ggX0_limitTo_X0_crosses : GoodIn wsX0_limitTo wsX0_crosses := goodIn_r _ [16] (by decide +kernel) (by decide +kernel)
set_option maxRecDepth 20000 in
theorem gX0_limitTo_X0_crosses : GoodIn wsX0_limitTo (va_wsS RX0 33 yX0_crosses wsX0_crosses) := goodIn_app (goodIn_of _ (by decide +kernel)) ggX0_limitTo_X0_crosses
theorem dX0_limitTo_0 : decode cX0_limitTo 0 = .ok (.iconst 0, 1) := by decide +kernel
theorem dX0_limitTo_1 : decode cX0_limitTo 1 = .ok (.istore_n 2, 1) := by decide +kernel
theorem dX0_limitTo_2 : decode cX0_limitTo 2 = .ok (.iconst 0, 1) := by decide +kernel
theorem dX0_limitTo_3 : decode cX0_limitTo 3 = .ok (.istore_n 3, 1) := by decide +kernel
theorem dX0_limitTo_4 : decode cX0_limitTo 4 = .ok (.iload_n 3, 1) := by decide +kernel
theorem dX0_limitTo_5 : decode cX0_limitTo 5 = .ok (.bipush 9, 2) := by decide +kernel
theorem dX0_limitTo_7 : decode cX0_limitTo 7 = .ok (.if_icmp .ge 90, 3) := by decide +kernel
theorem dX0_limitTo_10 : decode cX0_limitTo 10 = .ok (.iconst 0, 1) := by decide +kernel
theorem dX0_limitTo_11 : decode cX0_limitTo 11 = .ok (.istore 4, 2) := by decide +kernel
theorem dX0_limitTo_13 : decode cX0_limitTo 13 = .ok (.iload 4, 2) := by decide +kernel
theorem dX0_limitTo_15 : decode cX0_limitTo 15 = .ok (.bipush 9, 2) := by decide +kernel
theorem dX0_limitTo_17 : decode cX0_limitTo 17 = .ok (.if_icmp .ge 74, 3) := by decide +kernel
theorem dX0_limitTo_20 : decode cX0_limitTo 20 = .ok (.iload_n 3, 1) := by decide +kernel
theorem dX0_limitTo_21 : decode cX0_limitTo 21 = .ok (.iload 4, 2) := by decide +kernel
theorem dX0_limitTo_23 : decode cX0_limitTo 23 = .ok (.invokestatic 29, 3) := by decide +kernel
theorem dX0_limitTo_26 : decode cX0_limitTo 26 = .ok (.istore 5, 2) := by decide +kernel
theorem dX0_limitTo_28 : decode cX0_limitTo 28 = .ok (.iload_n 3, 1) := by decide +kernel
theorem dX0_limitTo_29 : decode cX0_limitTo 29 = .ok (.iload 4, 2) := by decide +kernel
theorem dX0_limitTo_31 : decode cX0_limitTo 31 = .ok (.invokestatic 33, 3) := by decide +kernel
theorem dX0_limitTo_34 : decode cX0_limitTo 34 = .ok (.ifCond .eq 13, 3) := by decide +kernel
theorem dX0_limitTo_37 : decode cX0_limitTo 37 = .ok (.iload 5, 2) := by decide +kernel
theorem dX0_limitTo_39 : decode cX0_limitTo 39 = .ok (.iload_n 1, 1) := by decide +kernel
theorem dX0_limitTo_40 : decode cX0_limitTo 40 = .ok (.if_icmp .le 7, 3) := by decide +kernel
theorem dX0_limitTo_43 : decode cX0_limitTo 43 = .ok (.iconst 1, 1) := by decide +kernel
theorem dX0_limitTo_44 : decode cX0_limitTo 44 = .ok (.goto 4, 3) := by decide +kernel
theorem dX0_limitTo_47 : decode cX0_limitTo 47 = .ok (.iconst 0, 1) := by decide +kernel
theorem dX0_limitTo_48 : decode cX0_limitTo 48 = .ok (.istore 6, 2) := by decide +kernel
theorem dX0_limitTo_50 : decode cX0_limitTo 50 = .ok (.aload_n 0, 1) := by decide +kernel
theorem dX0_limitTo_51 : decode cX0_limitTo 51 = .ok (.getfield 11, 3) := by decide +kernel
theorem dX0_limitTo_54 : decode cX0_limitTo 54 = .ok (.iload_n 3, 1) := by decide +kernel
theorem dX0_limitTo_55 : decode cX0_limitTo 55 = .ok (.aaload, 1) := by decide +kernel
theorem dX0_limitTo_56 : decode cX0_limitTo 56 = .ok (.iload 4, 2) := by decide +kernel
theorem dX0_limitTo_58 : decode cX0_limitTo 58 = .ok (.iload 6, 2) := by decide +kernel
theorem dX0_limitTo_60 : decode cX0_limitTo 60 = .ok (.ifCond .ne 9, 3) := by decide +kernel
theorem dX0_limitTo_63 : decode cX0_limitTo 63 = .ok (.iload_n 3, 1) := by decide +kernel
theorem dX0_limitTo_64 : decode cX0_limitTo 64 = .ok (.iload 4, 2) := by decide +kernel
theorem dX0_limitTo_66 : decode cX0_limitTo 66 = .ok (.if_icmp .ne 8, 3) := by decide +kernel
theorem dX0_limitTo_69 : decode cX0_limitTo 69 = .ok (.ldc 37, 2) := by decide +kernel
theorem dX0_limitTo_71 : decode cX0_limitTo 71 = .ok (.goto 5, 3) := by decide +kernel
theorem dX0_limitTo_74 : decode cX0_limitTo 74 = .ok (.iload 5, 2) := by decide +kernel
theorem dX0_limitTo_76 : decode cX0_limitTo 76 = .ok (.iastore, 1) := by decide +kernel
theorem dX0_limitTo_77 : decode cX0_limitTo 77 = .ok (.iload 6, 2) := by decide +kernel
theorem dX0_limitTo_79 : decode cX0_limitTo 79 = .ok (.ifCond .eq 6, 3) := by decide +kernel
theorem dX0_limitTo_82 : decode cX0_limitTo 82 = .ok (.iinc 2 1, 3) := by decide +kernel
theorem dX0_limitTo_85 : decode cX0_limitTo 85 = .ok (.iinc 4 1, 3) := by decide +kernel
theorem dX0_limitTo_88 : decode cX0_limitTo 88 = .ok (.goto (-75), 3) := by decide +kernel
theorem dX0_limitTo_91 : decode cX0_limitTo 91 = .ok (.iinc 3 1, 3) := by decide +kernel
theorem dX0_limitTo_94 : decode cX0_limitTo 94 = .ok (.goto (-90), 3) := by decide +kernel
theorem dX0_limitTo_97 : decode cX0_limitTo 97 = .ok (.iload_n 2, 1) := by decide +kernel
theorem dX0_limitTo_98 : decode cX0_limitTo 98 = .ok (.ireturn, 1) := by decide +kernel
theorem dX0_bars_0 : decode cX0_bars 0 = .ok (.iload_n 1, 1) := by decide +kernel
theorem dX0_bars_1 : decode cX0_bars 1 = .ok (.iload_n 2, 1) := by decide +kernel
theorem dX0_bars_2 : decode cX0_bars 2 = .ok (.if_icmp .eq 20, 3) := by decide +kernel
theorem dX0_bars_5 : decode cX0_bars 5 = .ok (.aload_n 0, 1) := by decide +kernel
theorem dX0_bars_6 : decode cX0_bars 6 = .ok (.getfield 11, 3) := by decide +kernel
theorem dX0_bars_9 : decode cX0_bars 9 = .ok (.iload_n 1, 1) := by decide +kernel
theorem dX0_bars_10 : decode cX0_bars 10 = .ok (.aaload, 1) := by decide +kernel
theorem dX0_bars_11 : decode cX0_bars 11 = .ok (.iload_n 2, 1) := by decide +kernel
theorem dX0_bars_12 : decode cX0_bars 12 = .ok (.iaload, 1) := by decide +kernel
theorem dX0_bars_13 : decode cX0_bars 13 = .ok (.ldc 37, 2) := by decide +kernel
theorem dX0_bars_15 : decode cX0_bars 15 = .ok (.if_icmp .ne 7, 3) := by decide +kernel
theorem dX0_bars_18 : decode cX0_bars 18 = .ok (.iconst 1, 1) := by decide +kernel
theorem dX0_bars_19 : decode cX0_bars 19 = .ok (.goto 4, 3) := by decide +kernel
theorem dX0_bars_22 : decode cX0_bars 22 = .ok (.iconst 0, 1) := by decide +kernel
theorem dX0_bars_23 : decode cX0_bars 23 = .ok (.ireturn, 1) := by decide +kernel
theorem dX0_stepCost_0 : decode cX0_stepCost 0 = .ok (.aload_n 0, 1) := by decide +kernel
theorem dX0_stepCost_1 : decode cX0_stepCost 1 = .ok (.getfield 11, 3) := by decide +kernel
theorem dX0_stepCost_4 : decode cX0_stepCost 4 = .ok (.iload_n 1, 1) := by decide +kernel
theorem dX0_stepCost_5 : decode cX0_stepCost 5 = .ok (.aaload, 1) := by decide +kernel
theorem dX0_stepCost_6 : decode cX0_stepCost 6 = .ok (.iload_n 2, 1) := by decide +kernel
theorem dX0_stepCost_7 : decode cX0_stepCost 7 = .ok (.iaload, 1) := by decide +kernel
theorem dX0_stepCost_8 : decode cX0_stepCost 8 = .ok (.ireturn, 1) := by decide +kernel
theorem dX1_init_0 : decode cX1_init 0 = .ok (.aload_n 0, 1) := by decide +kernel
theorem dX1_init_1 : decode cX1_init 1 = .ok (.invokespecial 3, 3) := by decide +kernel
theorem dX1_init_4 : decode cX1_init 4 = .ok (.aload_n 0, 1) := by decide +kernel
theorem dX1_init_5 : decode cX1_init 5 = .ok (.bipush 9, 2) := by decide +kernel
theorem dX1_init_7 : decode cX1_init 7 = .ok (.newarray .int, 2) := by decide +kernel
theorem dX1_init_9 : decode cX1_init 9 = .ok (.putfield 9, 3) := by decide +kernel
theorem dX1_init_12 : decode cX1_init 12 = .ok (.return_, 1) := by decide +kernel
set_option maxRecDepth 20000 in
theorem ggX1_startRow_J7_fill_53178 : GoodIn wsX1_startRow wsJ7_fill_53178 := goodIn_r _ [6] (by decide +kernel) (by decide +kernel)
set_option maxRecDepth 20000 in
theorem gX1_startRow_J7_fill_53178 : GoodIn wsX1_startRow (va_wsS RX1 16 yJ7_fill_53178 wsJ7_fill_53178) := goodIn_app (goodIn_of _ (by decide +kernel)) ggX1_startRow_J7_fill_53178
theorem dX1_startRow_0 : decode cX1_startRow 0 = .ok (.aload_n 0, 1) := by decide +kernel
theorem dX1_startRow_1 : decode cX1_startRow 1 = .ok (.getfield 9, 3) := by decide +kernel
theorem dX1_startRow_4 : decode cX1_startRow 4 = .ok (.ldc 15, 2) := by decide +kernel
theorem dX1_startRow_6 : decode cX1_startRow 6 = .ok (.invokestatic 16, 3) := by decide +kernel
theorem dX1_startRow_9 : decode cX1_startRow 9 = .ok (.aload_n 0, 1) := by decide +kernel
theorem dX1_startRow_10 : decode cX1_startRow 10 = .ok (.getfield 9, 3) := by decide +kernel
theorem dX1_startRow_13 : decode cX1_startRow 13 = .ok (.iconst 0, 1) := by decide +kernel
theorem dX1_startRow_14 : decode cX1_startRow 14 = .ok (.iconst 0, 1) := by decide +kernel
theorem dX1_startRow_15 : decode cX1_startRow 15 = .ok (.iastore, 1) := by decide +kernel
theorem dX1_startRow_16 : decode cX1_startRow 16 = .ok (.return_, 1) := by decide +kernel
set_option maxRecDepth 20000 in
theorem ggX1_growFrom_X1_firstLeastBeside : GoodIn wsX1_growFrom wsX1_firstLeastBeside := goodIn_r _ [11, 1, 12] (by decide +kernel) (by decide +kernel)
set_option maxRecDepth 20000 in
theorem gX1_growFrom_X1_firstLeastBeside : GoodIn wsX1_growFrom (wsV RX1 22 RX1 yX1_firstLeastBeside wsX1_firstLeastBeside) := goodIn_app (goodIn_of _ (by decide +kernel)) ggX1_growFrom_X1_firstLeastBeside
theorem dX1_growFrom_0 : decode cX1_growFrom 0 = .ok (.aload_n 1, 1) := by decide +kernel
theorem dX1_growFrom_1 : decode cX1_growFrom 1 = .ok (.iconst 0, 1) := by decide +kernel
theorem dX1_growFrom_2 : decode cX1_growFrom 2 = .ok (.invokevirtual 22, 3) := by decide +kernel
theorem dX1_growFrom_5 : decode cX1_growFrom 5 = .ok (.istore_n 3, 1) := by decide +kernel
theorem dX1_growFrom_6 : decode cX1_growFrom 6 = .ok (.aload_n 1, 1) := by decide +kernel
theorem dX1_growFrom_7 : decode cX1_growFrom 7 = .ok (.getfield 9, 3) := by decide +kernel
theorem dX1_growFrom_10 : decode cX1_growFrom 10 = .ok (.iload_n 3, 1) := by decide +kernel
theorem dX1_growFrom_11 : decode cX1_growFrom 11 = .ok (.iaload, 1) := by decide +kernel
theorem dX1_growFrom_12 : decode cX1_growFrom 12 = .ok (.istore 4, 2) := by decide +kernel
theorem dX1_growFrom_14 : decode cX1_growFrom 14 = .ok (.aload_n 1, 1) := by decide +kernel
theorem dX1_growFrom_15 : decode cX1_growFrom 15 = .ok (.getfield 9, 3) := by decide +kernel
theorem dX1_growFrom_18 : decode cX1_growFrom 18 = .ok (.aload_n 1, 1) := by decide +kernel
theorem dX1_growFrom_19 : decode cX1_growFrom 19 = .ok (.iload_n 3, 1) := by decide +kernel
theorem dX1_growFrom_20 : decode cX1_growFrom 20 = .ok (.invokevirtual 22, 3) := by decide +kernel
theorem dX1_growFrom_23 : decode cX1_growFrom 23 = .ok (.iaload, 1) := by decide +kernel
theorem dX1_growFrom_24 : decode cX1_growFrom 24 = .ok (.istore 5, 2) := by decide +kernel
theorem dX1_growFrom_26 : decode cX1_growFrom 26 = .ok (.iconst 0, 1) := by decide +kernel
theorem dX1_growFrom_27 : decode cX1_growFrom 27 = .ok (.istore 6, 2) := by decide +kernel
theorem dX1_growFrom_29 : decode cX1_growFrom 29 = .ok (.iload 6, 2) := by decide +kernel
theorem dX1_growFrom_31 : decode cX1_growFrom 31 = .ok (.bipush 9, 2) := by decide +kernel
theorem dX1_growFrom_33 : decode cX1_growFrom 33 = .ok (.if_icmp .ge 43, 3) := by decide +kernel
theorem dX1_growFrom_36 : decode cX1_growFrom 36 = .ok (.iload 6, 2) := by decide +kernel
theorem dX1_growFrom_38 : decode cX1_growFrom 38 = .ok (.iload_n 3, 1) := by decide +kernel
theorem dX1_growFrom_39 : decode cX1_growFrom 39 = .ok (.if_icmp .ne 8, 3) := by decide +kernel
theorem dX1_growFrom_42 : decode cX1_growFrom 42 = .ok (.iload 5, 2) := by decide +kernel
theorem dX1_growFrom_44 : decode cX1_growFrom 44 = .ok (.goto 5, 3) := by decide +kernel
theorem dX1_growFrom_47 : decode cX1_growFrom 47 = .ok (.iload 4, 2) := by decide +kernel
theorem dX1_growFrom_49 : decode cX1_growFrom 49 = .ok (.istore 7, 2) := by decide +kernel
theorem dX1_growFrom_51 : decode cX1_growFrom 51 = .ok (.aload_n 0, 1) := by decide +kernel
theorem dX1_growFrom_52 : decode cX1_growFrom 52 = .ok (.getfield 9, 3) := by decide +kernel
theorem dX1_growFrom_55 : decode cX1_growFrom 55 = .ok (.iload 6, 2) := by decide +kernel
theorem dX1_growFrom_57 : decode cX1_growFrom 57 = .ok (.ldc 15, 2) := by decide +kernel
theorem dX1_growFrom_59 : decode cX1_growFrom 59 = .ok (.iload 7, 2) := by decide +kernel
theorem dX1_growFrom_61 : decode cX1_growFrom 61 = .ok (.aload_n 2, 1) := by decide +kernel
theorem dX1_growFrom_62 : decode cX1_growFrom 62 = .ok (.iload 6, 2) := by decide +kernel
theorem dX1_growFrom_64 : decode cX1_growFrom 64 = .ok (.iaload, 1) := by decide +kernel
theorem dX1_growFrom_65 : decode cX1_growFrom 65 = .ok (.iadd, 1) := by decide +kernel
theorem dX1_growFrom_66 : decode cX1_growFrom 66 = .ok (.invokestatic 26, 3) := by decide +kernel
theorem dX1_growFrom_69 : decode cX1_growFrom 69 = .ok (.iastore, 1) := by decide +kernel
theorem dX1_growFrom_70 : decode cX1_growFrom 70 = .ok (.iinc 6 1, 3) := by decide +kernel
theorem dX1_growFrom_73 : decode cX1_growFrom 73 = .ok (.goto (-44), 3) := by decide +kernel
theorem dX1_growFrom_76 : decode cX1_growFrom 76 = .ok (.return_, 1) := by decide +kernel
theorem dX1_firstLeastBeside_0 : decode cX1_firstLeastBeside 0 = .ok (.iconst 0, 1) := by decide +kernel
theorem dX1_firstLeastBeside_1 : decode cX1_firstLeastBeside 1 = .ok (.istore_n 2, 1) := by decide +kernel
theorem dX1_firstLeastBeside_2 : decode cX1_firstLeastBeside 2 = .ok (.iconst 1, 1) := by decide +kernel
theorem dX1_firstLeastBeside_3 : decode cX1_firstLeastBeside 3 = .ok (.istore_n 3, 1) := by decide +kernel
theorem dX1_firstLeastBeside_4 : decode cX1_firstLeastBeside 4 = .ok (.iload_n 3, 1) := by decide +kernel
theorem dX1_firstLeastBeside_5 : decode cX1_firstLeastBeside 5 = .ok (.bipush 9, 2) := by decide +kernel
theorem dX1_firstLeastBeside_7 : decode cX1_firstLeastBeside 7 = .ok (.if_icmp .ge 31, 3) := by decide +kernel
theorem dX1_firstLeastBeside_10 : decode cX1_firstLeastBeside 10 = .ok (.iload_n 3, 1) := by decide +kernel
theorem dX1_firstLeastBeside_11 : decode cX1_firstLeastBeside 11 = .ok (.iload_n 1, 1) := by decide +kernel
theorem dX1_firstLeastBeside_12 : decode cX1_firstLeastBeside 12 = .ok (.if_icmp .eq 20, 3) := by decide +kernel
theorem dX1_firstLeastBeside_15 : decode cX1_firstLeastBeside 15 = .ok (.aload_n 0, 1) := by decide +kernel
theorem dX1_firstLeastBeside_16 : decode cX1_firstLeastBeside 16 = .ok (.getfield 9, 3) := by decide +kernel
theorem dX1_firstLeastBeside_19 : decode cX1_firstLeastBeside 19 = .ok (.iload_n 3, 1) := by decide +kernel
theorem dX1_firstLeastBeside_20 : decode cX1_firstLeastBeside 20 = .ok (.iaload, 1) := by decide +kernel
theorem dX1_firstLeastBeside_21 : decode cX1_firstLeastBeside 21 = .ok (.aload_n 0, 1) := by decide +kernel
theorem dX1_firstLeastBeside_22 : decode cX1_firstLeastBeside 22 = .ok (.getfield 9, 3) := by decide +kernel
theorem dX1_firstLeastBeside_25 : decode cX1_firstLeastBeside 25 = .ok (.iload_n 2, 1) := by decide +kernel
theorem dX1_firstLeastBeside_26 : decode cX1_firstLeastBeside 26 = .ok (.iaload, 1) := by decide +kernel
theorem dX1_firstLeastBeside_27 : decode cX1_firstLeastBeside 27 = .ok (.if_icmp .ge 5, 3) := by decide +kernel
theorem dX1_firstLeastBeside_30 : decode cX1_firstLeastBeside 30 = .ok (.iload_n 3, 1) := by decide +kernel
theorem dX1_firstLeastBeside_31 : decode cX1_firstLeastBeside 31 = .ok (.istore_n 2, 1) := by decide +kernel
theorem dX1_firstLeastBeside_32 : decode cX1_firstLeastBeside 32 = .ok (.iinc 3 1, 3) := by decide +kernel
theorem dX1_firstLeastBeside_35 : decode cX1_firstLeastBeside 35 = .ok (.goto (-31), 3) := by decide +kernel
theorem dX1_firstLeastBeside_38 : decode cX1_firstLeastBeside 38 = .ok (.iload_n 2, 1) := by decide +kernel
theorem dX1_firstLeastBeside_39 : decode cX1_firstLeastBeside 39 = .ok (.ireturn, 1) := by decide +kernel
set_option maxRecDepth 20000 in
theorem ggX1_leastOfAll_X1_firstLeastBeside : GoodIn wsX1_leastOfAll wsX1_firstLeastBeside := goodIn_r _ [6, 1, 7] (by decide +kernel) (by decide +kernel)
set_option maxRecDepth 20000 in
theorem gX1_leastOfAll_X1_firstLeastBeside : GoodIn wsX1_leastOfAll (wsV RX1 22 RX1 yX1_firstLeastBeside wsX1_firstLeastBeside) := goodIn_app (goodIn_of _ (by decide +kernel)) ggX1_leastOfAll_X1_firstLeastBeside
theorem dX1_leastOfAll_0 : decode cX1_leastOfAll 0 = .ok (.aload_n 0, 1) := by decide +kernel
theorem dX1_leastOfAll_1 : decode cX1_leastOfAll 1 = .ok (.getfield 9, 3) := by decide +kernel
theorem dX1_leastOfAll_4 : decode cX1_leastOfAll 4 = .ok (.aload_n 0, 1) := by decide +kernel
theorem dX1_leastOfAll_5 : decode cX1_leastOfAll 5 = .ok (.iconst 0, 1) := by decide +kernel
theorem dX1_leastOfAll_6 : decode cX1_leastOfAll 6 = .ok (.invokevirtual 22, 3) := by decide +kernel
theorem dX1_leastOfAll_9 : decode cX1_leastOfAll 9 = .ok (.iaload, 1) := by decide +kernel
theorem dX1_leastOfAll_10 : decode cX1_leastOfAll 10 = .ok (.ireturn, 1) := by decide +kernel
theorem dX2_init_0 : decode cX2_init 0 = .ok (.aload_n 0, 1) := by decide +kernel
theorem dX2_init_1 : decode cX2_init 1 = .ok (.invokespecial 3, 3) := by decide +kernel
theorem dX2_init_4 : decode cX2_init 4 = .ok (.aload_n 0, 1) := by decide +kernel
theorem dX2_init_5 : decode cX2_init 5 = .ok (.aload_n 1, 1) := by decide +kernel
theorem dX2_init_6 : decode cX2_init 6 = .ok (.putfield 9, 3) := by decide +kernel
theorem dX2_init_9 : decode cX2_init 9 = .ok (.return_, 1) := by decide +kernel
theorem dX2_size_0 : decode cX2_size 0 = .ok (.aload_n 0, 1) := by decide +kernel
theorem dX2_size_1 : decode cX2_size 1 = .ok (.getfield 9, 3) := by decide +kernel
theorem dX2_size_4 : decode cX2_size 4 = .ok (.arraylength, 1) := by decide +kernel
theorem dX2_size_5 : decode cX2_size 5 = .ok (.ireturn, 1) := by decide +kernel
set_option maxRecDepth 20000 in
theorem ggX2_costBetween_X2_soundOf : GoodIn wsX2_costBetween wsX2_soundOf := goodIn_r _ [10] (by decide +kernel) (by decide +kernel)
set_option maxRecDepth 20000 in
theorem gX2_costBetween_X2_soundOf : GoodIn wsX2_costBetween (va_wsS RX2 16 yX2_soundOf wsX2_soundOf) := goodIn_app (goodIn_of _ (by decide +kernel)) ggX2_costBetween_X2_soundOf
set_option maxRecDepth 20000 in
theorem ggX2_costBetween_X0_stepCost : GoodIn wsX2_costBetween wsX0_stepCost := goodIn_r _ [15, 16, 18] (by decide +kernel) (by decide +kernel)
set_option maxRecDepth 20000 in
theorem gX2_costBetween_X0_stepCost : GoodIn wsX2_costBetween (wsV RX2 20 RX0 yX0_stepCost wsX0_stepCost) := goodIn_app (goodIn_of _ (by decide +kernel)) ggX2_costBetween_X0_stepCost
theorem dX2_costBetween_0 : decode cX2_costBetween 0 = .ok (.aload_n 0, 1) := by decide +kernel
theorem dX2_costBetween_1 : decode cX2_costBetween 1 = .ok (.getfield 9, 3) := by decide +kernel
theorem dX2_costBetween_4 : decode cX2_costBetween 4 = .ok (.arraylength, 1) := by decide +kernel
theorem dX2_costBetween_5 : decode cX2_costBetween 5 = .ok (.iload_n 3, 1) := by decide +kernel
theorem dX2_costBetween_6 : decode cX2_costBetween 6 = .ok (.if_icmp .lt 6, 3) := by decide +kernel
theorem dX2_costBetween_9 : decode cX2_costBetween 9 = .ok (.ldc 15, 2) := by decide +kernel
theorem dX2_costBetween_11 : decode cX2_costBetween 11 = .ok (.ireturn, 1) := by decide +kernel
theorem dX2_costBetween_12 : decode cX2_costBetween 12 = .ok (.iconst 0, 1) := by decide +kernel
theorem dX2_costBetween_13 : decode cX2_costBetween 13 = .ok (.istore 5, 2) := by decide +kernel
theorem dX2_costBetween_15 : decode cX2_costBetween 15 = .ok (.iload_n 2, 1) := by decide +kernel
theorem dX2_costBetween_16 : decode cX2_costBetween 16 = .ok (.istore 6, 2) := by decide +kernel
theorem dX2_costBetween_18 : decode cX2_costBetween 18 = .ok (.iconst 0, 1) := by decide +kernel
theorem dX2_costBetween_19 : decode cX2_costBetween 19 = .ok (.istore 7, 2) := by decide +kernel
theorem dX2_costBetween_21 : decode cX2_costBetween 21 = .ok (.iload 7, 2) := by decide +kernel
theorem dX2_costBetween_23 : decode cX2_costBetween 23 = .ok (.aload_n 0, 1) := by decide +kernel
theorem dX2_costBetween_24 : decode cX2_costBetween 24 = .ok (.getfield 9, 3) := by decide +kernel
theorem dX2_costBetween_27 : decode cX2_costBetween 27 = .ok (.arraylength, 1) := by decide +kernel
theorem dX2_costBetween_28 : decode cX2_costBetween 28 = .ok (.if_icmp .ge 41, 3) := by decide +kernel
theorem dX2_costBetween_31 : decode cX2_costBetween 31 = .ok (.aload_n 0, 1) := by decide +kernel
theorem dX2_costBetween_32 : decode cX2_costBetween 32 = .ok (.getfield 9, 3) := by decide +kernel
theorem dX2_costBetween_35 : decode cX2_costBetween 35 = .ok (.iload 7, 2) := by decide +kernel
theorem dX2_costBetween_37 : decode cX2_costBetween 37 = .ok (.iaload, 1) := by decide +kernel
theorem dX2_costBetween_38 : decode cX2_costBetween 38 = .ok (.iload_n 2, 1) := by decide +kernel
theorem dX2_costBetween_39 : decode cX2_costBetween 39 = .ok (.iload 4, 2) := by decide +kernel
theorem dX2_costBetween_41 : decode cX2_costBetween 41 = .ok (.invokestatic 16, 3) := by decide +kernel
theorem dX2_costBetween_44 : decode cX2_costBetween 44 = .ok (.istore 8, 2) := by decide +kernel
theorem dX2_costBetween_46 : decode cX2_costBetween 46 = .ok (.iload 5, 2) := by decide +kernel
theorem dX2_costBetween_48 : decode cX2_costBetween 48 = .ok (.aload_n 1, 1) := by decide +kernel
theorem dX2_costBetween_49 : decode cX2_costBetween 49 = .ok (.iload 6, 2) := by decide +kernel
theorem dX2_costBetween_51 : decode cX2_costBetween 51 = .ok (.iload 8, 2) := by decide +kernel
theorem dX2_costBetween_53 : decode cX2_costBetween 53 = .ok (.invokevirtual 20, 3) := by decide +kernel
theorem dX2_costBetween_56 : decode cX2_costBetween 56 = .ok (.iadd, 1) := by decide +kernel
theorem dX2_costBetween_57 : decode cX2_costBetween 57 = .ok (.istore 5, 2) := by decide +kernel
theorem dX2_costBetween_59 : decode cX2_costBetween 59 = .ok (.iload 8, 2) := by decide +kernel
theorem dX2_costBetween_61 : decode cX2_costBetween 61 = .ok (.istore 6, 2) := by decide +kernel
theorem dX2_costBetween_63 : decode cX2_costBetween 63 = .ok (.iinc 7 1, 3) := by decide +kernel
theorem dX2_costBetween_66 : decode cX2_costBetween 66 = .ok (.goto (-45), 3) := by decide +kernel
theorem dX2_costBetween_69 : decode cX2_costBetween 69 = .ok (.ldc 15, 2) := by decide +kernel
theorem dX2_costBetween_71 : decode cX2_costBetween 71 = .ok (.iload 5, 2) := by decide +kernel
theorem dX2_costBetween_73 : decode cX2_costBetween 73 = .ok (.aload_n 1, 1) := by decide +kernel
theorem dX2_costBetween_74 : decode cX2_costBetween 74 = .ok (.iload 6, 2) := by decide +kernel
theorem dX2_costBetween_76 : decode cX2_costBetween 76 = .ok (.iload 4, 2) := by decide +kernel
theorem dX2_costBetween_78 : decode cX2_costBetween 78 = .ok (.invokevirtual 20, 3) := by decide +kernel
theorem dX2_costBetween_81 : decode cX2_costBetween 81 = .ok (.iadd, 1) := by decide +kernel
theorem dX2_costBetween_82 : decode cX2_costBetween 82 = .ok (.invokestatic 26, 3) := by decide +kernel
theorem dX2_costBetween_85 : decode cX2_costBetween 85 = .ok (.ireturn, 1) := by decide +kernel
theorem dX2_soundOf_0 : decode cX2_soundOf 0 = .ok (.iload_n 0, 1) := by decide +kernel
theorem dX2_soundOf_1 : decode cX2_soundOf 1 = .ok (.bipush 9, 2) := by decide +kernel
theorem dX2_soundOf_3 : decode cX2_soundOf 3 = .ok (.if_icmp .ne 5, 3) := by decide +kernel
theorem dX2_soundOf_6 : decode cX2_soundOf 6 = .ok (.iload_n 2, 1) := by decide +kernel
theorem dX2_soundOf_7 : decode cX2_soundOf 7 = .ok (.ireturn, 1) := by decide +kernel
theorem dX2_soundOf_8 : decode cX2_soundOf 8 = .ok (.iload_n 0, 1) := by decide +kernel
theorem dX2_soundOf_9 : decode cX2_soundOf 9 = .ok (.bipush 10, 2) := by decide +kernel
theorem dX2_soundOf_11 : decode cX2_soundOf 11 = .ok (.if_icmp .ne 7, 3) := by decide +kernel
theorem dX2_soundOf_14 : decode cX2_soundOf 14 = .ok (.iload_n 1, 1) := by decide +kernel
theorem dX2_soundOf_15 : decode cX2_soundOf 15 = .ok (.goto 4, 3) := by decide +kernel
theorem dX2_soundOf_18 : decode cX2_soundOf 18 = .ok (.iload_n 0, 1) := by decide +kernel
theorem dX2_soundOf_19 : decode cX2_soundOf 19 = .ok (.ireturn, 1) := by decide +kernel
theorem dX3_init_0 : decode cX3_init 0 = .ok (.aload_n 0, 1) := by decide +kernel
theorem dX3_init_1 : decode cX3_init 1 = .ok (.invokespecial 3, 3) := by decide +kernel
theorem dX3_init_4 : decode cX3_init 4 = .ok (.aload_n 0, 1) := by decide +kernel
theorem dX3_init_5 : decode cX3_init 5 = .ok (.bipush 8, 2) := by decide +kernel
theorem dX3_init_7 : decode cX3_init 7 = .ok (.anewarray 9, 3) := by decide +kernel
theorem dX3_init_10 : decode cX3_init 10 = .ok (.putfield 11, 3) := by decide +kernel
theorem dX3_init_13 : decode cX3_init 13 = .ok (.aload_n 0, 1) := by decide +kernel
theorem dX3_init_14 : decode cX3_init 14 = .ok (.iconst 4, 1) := by decide +kernel
theorem dX3_init_15 : decode cX3_init 15 = .ok (.newarray .int, 2) := by decide +kernel
theorem dX3_init_17 : decode cX3_init 17 = .ok (.putfield 17, 3) := by decide +kernel
theorem dX3_init_20 : decode cX3_init 20 = .ok (.return_, 1) := by decide +kernel
theorem dX3_size_0 : decode cX3_size 0 = .ok (.aload_n 0, 1) := by decide +kernel
theorem dX3_size_1 : decode cX3_size 1 = .ok (.getfield 21, 3) := by decide +kernel
theorem dX3_size_4 : decode cX3_size 4 = .ok (.ireturn, 1) := by decide +kernel
theorem dX3_isFull_0 : decode cX3_isFull 0 = .ok (.aload_n 0, 1) := by decide +kernel
theorem dX3_isFull_1 : decode cX3_isFull 1 = .ok (.getfield 21, 3) := by decide +kernel
theorem dX3_isFull_4 : decode cX3_isFull 4 = .ok (.bipush 8, 2) := by decide +kernel
theorem dX3_isFull_6 : decode cX3_isFull 6 = .ok (.if_icmp .lt 7, 3) := by decide +kernel
theorem dX3_isFull_9 : decode cX3_isFull 9 = .ok (.iconst 1, 1) := by decide +kernel
theorem dX3_isFull_10 : decode cX3_isFull 10 = .ok (.goto 4, 3) := by decide +kernel
theorem dX3_isFull_13 : decode cX3_isFull 13 = .ok (.iconst 0, 1) := by decide +kernel
theorem dX3_isFull_14 : decode cX3_isFull 14 = .ok (.ireturn, 1) := by decide +kernel
theorem dX3_isDraftEmpty_0 : decode cX3_isDraftEmpty 0 = .ok (.aload_n 0, 1) := by decide +kernel
theorem dX3_isDraftEmpty_1 : decode cX3_isDraftEmpty 1 = .ok (.getfield 25, 3) := by decide +kernel
theorem dX3_isDraftEmpty_4 : decode cX3_isDraftEmpty 4 = .ok (.ifCond .ne 7, 3) := by decide +kernel
theorem dX3_isDraftEmpty_7 : decode cX3_isDraftEmpty 7 = .ok (.iconst 1, 1) := by decide +kernel
theorem dX3_isDraftEmpty_8 : decode cX3_isDraftEmpty 8 = .ok (.goto 4, 3) := by decide +kernel
theorem dX3_isDraftEmpty_11 : decode cX3_isDraftEmpty 11 = .ok (.iconst 0, 1) := by decide +kernel
theorem dX3_isDraftEmpty_12 : decode cX3_isDraftEmpty 12 = .ok (.ireturn, 1) := by decide +kernel
theorem dX3_isDraftFull_0 : decode cX3_isDraftFull 0 = .ok (.aload_n 0, 1) := by decide +kernel
theorem dX3_isDraftFull_1 : decode cX3_isDraftFull 1 = .ok (.getfield 25, 3) := by decide +kernel
theorem dX3_isDraftFull_4 : decode cX3_isDraftFull 4 = .ok (.iconst 4, 1) := by decide +kernel
theorem dX3_isDraftFull_5 : decode cX3_isDraftFull 5 = .ok (.if_icmp .lt 7, 3) := by decide +kernel
theorem dX3_isDraftFull_8 : decode cX3_isDraftFull 8 = .ok (.iconst 1, 1) := by decide +kernel
theorem dX3_isDraftFull_9 : decode cX3_isDraftFull 9 = .ok (.goto 4, 3) := by decide +kernel
theorem dX3_isDraftFull_12 : decode cX3_isDraftFull 12 = .ok (.iconst 0, 1) := by decide +kernel
theorem dX3_isDraftFull_13 : decode cX3_isDraftFull 13 = .ok (.ireturn, 1) := by decide +kernel
theorem dX3_addToDraft_0 : decode cX3_addToDraft 0 = .ok (.aload_n 0, 1) := by decide +kernel
theorem dX3_addToDraft_1 : decode cX3_addToDraft 1 = .ok (.getfield 17, 3) := by decide +kernel
theorem dX3_addToDraft_4 : decode cX3_addToDraft 4 = .ok (.aload_n 0, 1) := by decide +kernel
theorem dX3_addToDraft_5 : decode cX3_addToDraft 5 = .ok (.getfield 25, 3) := by decide +kernel
theorem dX3_addToDraft_8 : decode cX3_addToDraft 8 = .ok (.iload_n 1, 1) := by decide +kernel
theorem dX3_addToDraft_9 : decode cX3_addToDraft 9 = .ok (.iastore, 1) := by decide +kernel
theorem dX3_addToDraft_10 : decode cX3_addToDraft 10 = .ok (.aload_n 0, 1) := by decide +kernel
theorem dX3_addToDraft_11 : decode cX3_addToDraft 11 = .ok (.dup, 1) := by decide +kernel
theorem dX3_addToDraft_12 : decode cX3_addToDraft 12 = .ok (.getfield 25, 3) := by decide +kernel
theorem dX3_addToDraft_15 : decode cX3_addToDraft 15 = .ok (.iconst 1, 1) := by decide +kernel
theorem dX3_addToDraft_16 : decode cX3_addToDraft 16 = .ok (.iadd, 1) := by decide +kernel
theorem dX3_addToDraft_17 : decode cX3_addToDraft 17 = .ok (.putfield 25, 3) := by decide +kernel
theorem dX3_addToDraft_20 : decode cX3_addToDraft 20 = .ok (.aload_n 0, 1) := by decide +kernel
theorem dX3_addToDraft_21 : decode cX3_addToDraft 21 = .ok (.getfield 25, 3) := by decide +kernel
theorem dX3_addToDraft_24 : decode cX3_addToDraft 24 = .ok (.ireturn, 1) := by decide +kernel
set_option maxRecDepth 20000 in
theorem ggX3_enterDraft_J7_copyOf_59c91 : GoodIn wsX3_enterDraft wsJ7_copyOf_59c91 := goodIn_r _ [11, 12, 13, 14, 15, 16, 17, 18, 19, 20, 21, 22, 23, 24, 25, 26] (by decide +kernel) (by decide +kernel)
set_option maxRecDepth 20000 in
theorem gX3_enterDraft_J7_copyOf_59c91 : GoodIn wsX3_enterDraft (va_wsS RX3 28 yJ7_copyOf_59c91 wsJ7_copyOf_59c91) := goodIn_app (goodIn_of _ (by decide +kernel)) ggX3_enterDraft_J7_copyOf_59c91
set_option maxRecDepth 20000 in
theorem ggX3_enterDraft_X2_init : GoodIn wsX3_enterDraft wsX2_init := goodIn_r _ [29, 30, 31, 32, 33, 38] (by decide +kernel) (by decide +kernel)
set_option maxRecDepth 20000 in
theorem gX3_enterDraft_X2_init : GoodIn wsX3_enterDraft (wsX2_init) := ggX3_enterDraft_X2_init
theorem dX3_enterDraft_0 : decode cX3_enterDraft 0 = .ok (.aload_n 0, 1) := by decide +kernel
theorem dX3_enterDraft_1 : decode cX3_enterDraft 1 = .ok (.getfield 11, 3) := by decide +kernel
theorem dX3_enterDraft_4 : decode cX3_enterDraft 4 = .ok (.aload_n 0, 1) := by decide +kernel
theorem dX3_enterDraft_5 : decode cX3_enterDraft 5 = .ok (.getfield 21, 3) := by decide +kernel
theorem dX3_enterDraft_8 : decode cX3_enterDraft 8 = .ok (.new 9, 3) := by decide +kernel
theorem dX3_enterDraft_11 : decode cX3_enterDraft 11 = .ok (.dup, 1) := by decide +kernel
theorem dX3_enterDraft_12 : decode cX3_enterDraft 12 = .ok (.aload_n 0, 1) := by decide +kernel
theorem dX3_enterDraft_13 : decode cX3_enterDraft 13 = .ok (.getfield 17, 3) := by decide +kernel
theorem dX3_enterDraft_16 : decode cX3_enterDraft 16 = .ok (.aload_n 0, 1) := by decide +kernel
theorem dX3_enterDraft_17 : decode cX3_enterDraft 17 = .ok (.getfield 25, 3) := by decide +kernel
theorem dX3_enterDraft_20 : decode cX3_enterDraft 20 = .ok (.invokestatic 28, 3) := by decide +kernel
theorem dX3_enterDraft_23 : decode cX3_enterDraft 23 = .ok (.invokespecial 34, 3) := by decide +kernel
theorem dX3_enterDraft_26 : decode cX3_enterDraft 26 = .ok (.aastore, 1) := by decide +kernel
theorem dX3_enterDraft_27 : decode cX3_enterDraft 27 = .ok (.aload_n 0, 1) := by decide +kernel
theorem dX3_enterDraft_28 : decode cX3_enterDraft 28 = .ok (.iconst 0, 1) := by decide +kernel
theorem dX3_enterDraft_29 : decode cX3_enterDraft 29 = .ok (.putfield 25, 3) := by decide +kernel
theorem dX3_enterDraft_32 : decode cX3_enterDraft 32 = .ok (.aload_n 0, 1) := by decide +kernel
theorem dX3_enterDraft_33 : decode cX3_enterDraft 33 = .ok (.dup, 1) := by decide +kernel
theorem dX3_enterDraft_34 : decode cX3_enterDraft 34 = .ok (.getfield 21, 3) := by decide +kernel
theorem dX3_enterDraft_37 : decode cX3_enterDraft 37 = .ok (.iconst 1, 1) := by decide +kernel
theorem dX3_enterDraft_38 : decode cX3_enterDraft 38 = .ok (.iadd, 1) := by decide +kernel
theorem dX3_enterDraft_39 : decode cX3_enterDraft 39 = .ok (.putfield 21, 3) := by decide +kernel
theorem dX3_enterDraft_42 : decode cX3_enterDraft 42 = .ok (.aload_n 0, 1) := by decide +kernel
theorem dX3_enterDraft_43 : decode cX3_enterDraft 43 = .ok (.getfield 21, 3) := by decide +kernel
theorem dX3_enterDraft_46 : decode cX3_enterDraft 46 = .ok (.iconst 1, 1) := by decide +kernel
theorem dX3_enterDraft_47 : decode cX3_enterDraft 47 = .ok (.isub, 1) := by decide +kernel
theorem dX3_enterDraft_48 : decode cX3_enterDraft 48 = .ok (.ireturn, 1) := by decide +kernel
set_option maxRecDepth 20000 in
theorem ggX3_costOf_X2_costBetween : GoodIn wsX3_costOf wsX2_costBetween := goodIn_r _ [7, 8, 9, 10, 11, 12, 13, 14, 15, 6, 16, 17, 18, 19, 20, 21, 22, 27, 28] (by decide +kernel) (by decide +kernel)
set_option maxRecDepth 20000 in
theorem gX3_costOf_X2_costBetween : GoodIn wsX3_costOf (wsV RX3 38 RX2 yX2_costBetween wsX2_costBetween) := goodIn_app (goodIn_of _ (by decide +kernel)) ggX3_costOf_X2_costBetween
theorem dX3_costOf_0 : decode cX3_costOf 0 = .ok (.aload_n 0, 1) := by decide +kernel
theorem dX3_costOf_1 : decode cX3_costOf 1 = .ok (.getfield 11, 3) := by decide +kernel
theorem dX3_costOf_4 : decode cX3_costOf 4 = .ok (.iload_n 1, 1) := by decide +kernel
theorem dX3_costOf_5 : decode cX3_costOf 5 = .ok (.aaload, 1) := by decide +kernel
theorem dX3_costOf_6 : decode cX3_costOf 6 = .ok (.astore 6, 2) := by decide +kernel
theorem dX3_costOf_8 : decode cX3_costOf 8 = .ok (.aload 6, 2) := by decide +kernel
theorem dX3_costOf_10 : decode cX3_costOf 10 = .ok (.ifnonnull 8, 3) := by decide +kernel
theorem dX3_costOf_13 : decode cX3_costOf 13 = .ok (.ldc 37, 2) := by decide +kernel
theorem dX3_costOf_15 : decode cX3_costOf 15 = .ok (.goto 14, 3) := by decide +kernel
theorem dX3_costOf_18 : decode cX3_costOf 18 = .ok (.aload 6, 2) := by decide +kernel
theorem dX3_costOf_20 : decode cX3_costOf 20 = .ok (.aload_n 2, 1) := by decide +kernel
theorem dX3_costOf_21 : decode cX3_costOf 21 = .ok (.iload_n 3, 1) := by decide +kernel
theorem dX3_costOf_22 : decode cX3_costOf 22 = .ok (.iload 4, 2) := by decide +kernel
theorem dX3_costOf_24 : decode cX3_costOf 24 = .ok (.iload 5, 2) := by decide +kernel
theorem dX3_costOf_26 : decode cX3_costOf 26 = .ok (.invokevirtual 38, 3) := by decide +kernel
theorem dX3_costOf_29 : decode cX3_costOf 29 = .ok (.ireturn, 1) := by decide +kernel
set_option maxRecDepth 20000 in
theorem ggX3_gracesOf_X2_size : GoodIn wsX3_gracesOf wsX2_size := goodIn_r _ [6, 7, 12] (by decide +kernel) (by decide +kernel)
set_option maxRecDepth 20000 in
theorem gX3_gracesOf_X2_size : GoodIn wsX3_gracesOf (wsV RX3 42 RX2 yX2_size wsX2_size) := goodIn_app (goodIn_of _ (by decide +kernel)) ggX3_gracesOf_X2_size
theorem dX3_gracesOf_0 : decode cX3_gracesOf 0 = .ok (.iload_n 1, 1) := by decide +kernel
theorem dX3_gracesOf_1 : decode cX3_gracesOf 1 = .ok (.ifCond .ne 5, 3) := by decide +kernel
theorem dX3_gracesOf_4 : decode cX3_gracesOf 4 = .ok (.iconst 0, 1) := by decide +kernel
theorem dX3_gracesOf_5 : decode cX3_gracesOf 5 = .ok (.ireturn, 1) := by decide +kernel
theorem dX3_gracesOf_6 : decode cX3_gracesOf 6 = .ok (.aload_n 0, 1) := by decide +kernel
theorem dX3_gracesOf_7 : decode cX3_gracesOf 7 = .ok (.getfield 11, 3) := by decide +kernel
theorem dX3_gracesOf_10 : decode cX3_gracesOf 10 = .ok (.iload_n 1, 1) := by decide +kernel
theorem dX3_gracesOf_11 : decode cX3_gracesOf 11 = .ok (.iconst 1, 1) := by decide +kernel
theorem dX3_gracesOf_12 : decode cX3_gracesOf 12 = .ok (.isub, 1) := by decide +kernel
theorem dX3_gracesOf_13 : decode cX3_gracesOf 13 = .ok (.aaload, 1) := by decide +kernel
theorem dX3_gracesOf_14 : decode cX3_gracesOf 14 = .ok (.astore_n 2, 1) := by decide +kernel
theorem dX3_gracesOf_15 : decode cX3_gracesOf 15 = .ok (.aload_n 2, 1) := by decide +kernel
theorem dX3_gracesOf_16 : decode cX3_gracesOf 16 = .ok (.ifnonnull 7, 3) := by decide +kernel
theorem dX3_gracesOf_19 : decode cX3_gracesOf 19 = .ok (.iconst 0, 1) := by decide +kernel
theorem dX3_gracesOf_20 : decode cX3_gracesOf 20 = .ok (.goto 7, 3) := by decide +kernel
theorem dX3_gracesOf_23 : decode cX3_gracesOf 23 = .ok (.aload_n 2, 1) := by decide +kernel
theorem dX3_gracesOf_24 : decode cX3_gracesOf 24 = .ok (.invokevirtual 42, 3) := by decide +kernel
theorem dX3_gracesOf_27 : decode cX3_gracesOf 27 = .ok (.ireturn, 1) := by decide +kernel
set_option maxRecDepth 20000 in
theorem ggX3_weigh_X0_stepCost : GoodIn wsX3_weigh wsX0_stepCost := goodIn_r _ [6, 7, 29] (by decide +kernel) (by decide +kernel)
set_option maxRecDepth 20000 in
theorem gX3_weigh_X0_stepCost : GoodIn wsX3_weigh (wsV RX3 45 RX0 yX0_stepCost wsX0_stepCost) := goodIn_app (goodIn_of _ (by decide +kernel)) ggX3_weigh_X0_stepCost
set_option maxRecDepth 20000 in
theorem ggX3_weigh_X3_costOf : GoodIn wsX3_weigh wsX3_costOf := goodIn_r _ [12, 13, 1, 14, 15, 16, 17, 18, 19, 20, 21, 22, 23, 24, 25, 26, 27, 28, 3, 4, 5, 6, 7, 30, 31, 32, 33, 34, 29] (by decide +kernel) (by decide +kernel)
set_option maxRecDepth 20000 in
theorem gX3_weigh_X3_costOf : GoodIn wsX3_weigh (wsV RX3 51 RX3 yX3_costOf wsX3_costOf) := goodIn_app (goodIn_of _ (by decide +kernel)) ggX3_weigh_X3_costOf
theorem dX3_weigh_0 : decode cX3_weigh 0 = .ok (.aload 6, 2) := by decide +kernel
theorem dX3_weigh_2 : decode cX3_weigh 2 = .ok (.iconst 0, 1) := by decide +kernel
theorem dX3_weigh_3 : decode cX3_weigh 3 = .ok (.iload 5, 2) := by decide +kernel
theorem dX3_weigh_5 : decode cX3_weigh 5 = .ok (.ifCond .eq 8, 3) := by decide +kernel
theorem dX3_weigh_8 : decode cX3_weigh 8 = .ok (.ldc 37, 2) := by decide +kernel
theorem dX3_weigh_10 : decode cX3_weigh 10 = .ok (.goto 10, 3) := by decide +kernel
theorem dX3_weigh_13 : decode cX3_weigh 13 = .ok (.aload_n 1, 1) := by decide +kernel
theorem dX3_weigh_14 : decode cX3_weigh 14 = .ok (.iload_n 2, 1) := by decide +kernel
theorem dX3_weigh_15 : decode cX3_weigh 15 = .ok (.iload 4, 2) := by decide +kernel
theorem dX3_weigh_17 : decode cX3_weigh 17 = .ok (.invokevirtual 45, 3) := by decide +kernel
theorem dX3_weigh_20 : decode cX3_weigh 20 = .ok (.iastore, 1) := by decide +kernel
theorem dX3_weigh_21 : decode cX3_weigh 21 = .ok (.iconst 0, 1) := by decide +kernel
theorem dX3_weigh_22 : decode cX3_weigh 22 = .ok (.istore 7, 2) := by decide +kernel
theorem dX3_weigh_24 : decode cX3_weigh 24 = .ok (.iload 7, 2) := by decide +kernel
theorem dX3_weigh_26 : decode cX3_weigh 26 = .ok (.bipush 8, 2) := by decide +kernel
theorem dX3_weigh_28 : decode cX3_weigh 28 = .ok (.if_icmp .ge 27, 3) := by decide +kernel
theorem dX3_weigh_31 : decode cX3_weigh 31 = .ok (.aload 6, 2) := by decide +kernel
theorem dX3_weigh_33 : decode cX3_weigh 33 = .ok (.iload 7, 2) := by decide +kernel
theorem dX3_weigh_35 : decode cX3_weigh 35 = .ok (.iconst 1, 1) := by decide +kernel
theorem dX3_weigh_36 : decode cX3_weigh 36 = .ok (.iadd, 1) := by decide +kernel
theorem dX3_weigh_37 : decode cX3_weigh 37 = .ok (.aload_n 0, 1) := by decide +kernel
theorem dX3_weigh_38 : decode cX3_weigh 38 = .ok (.iload 7, 2) := by decide +kernel
theorem dX3_weigh_40 : decode cX3_weigh 40 = .ok (.aload_n 1, 1) := by decide +kernel
theorem dX3_weigh_41 : decode cX3_weigh 41 = .ok (.iload_n 2, 1) := by decide +kernel
theorem dX3_weigh_42 : decode cX3_weigh 42 = .ok (.iload_n 3, 1) := by decide +kernel
theorem dX3_weigh_43 : decode cX3_weigh 43 = .ok (.iload 4, 2) := by decide +kernel
theorem dX3_weigh_45 : decode cX3_weigh 45 = .ok (.invokevirtual 51, 3) := by decide +kernel
theorem dX3_weigh_48 : decode cX3_weigh 48 = .ok (.iastore, 1) := by decide +kernel
theorem dX3_weigh_49 : decode cX3_weigh 49 = .ok (.iinc 7 1, 3) := by decide +kernel
theorem dX3_weigh_52 : decode cX3_weigh 52 = .ok (.goto (-28), 3) := by decide +kernel
theorem dX3_weigh_55 : decode cX3_weigh 55 = .ok (.return_, 1) := by decide +kernel
set_option maxRecDepth 20000 in
theorem ggX4_init_X1_init : GoodIn wsX4_init wsX1_init := goodIn_r _ [15, 16, 2, 3, 5, 17, 24] (by decide +kernel) (by decide +kernel)
set_option maxRecDepth 20000 in
theorem gX4_init_X1_init : GoodIn wsX4_init (wsX1_init) := ggX4_init_X1_init
theorem dX4_init_0 : decode cX4_init 0 = .ok (.aload_n 0, 1) := by decide +kernel
theorem dX4_init_1 : decode cX4_init 1 = .ok (.invokespecial 3, 3) := by decide +kernel
theorem dX4_init_4 : decode cX4_init 4 = .ok (.aload_n 0, 1) := by decide +kernel
theorem dX4_init_5 : decode cX4_init 5 = .ok (.bipush 16, 2) := by decide +kernel
theorem dX4_init_7 : decode cX4_init 7 = .ok (.bipush 9, 2) := by decide +kernel
theorem dX4_init_9 : decode cX4_init 9 = .ok (.multianewarray 9 2, 4) := by decide +kernel
theorem dX4_init_13 : decode cX4_init 13 = .ok (.putfield 11, 3) := by decide +kernel
theorem dX4_init_16 : decode cX4_init 16 = .ok (.aload_n 0, 1) := by decide +kernel
theorem dX4_init_17 : decode cX4_init 17 = .ok (.new 16, 3) := by decide +kernel
theorem dX4_init_20 : decode cX4_init 20 = .ok (.dup, 1) := by decide +kernel
theorem dX4_init_21 : decode cX4_init 21 = .ok (.invokespecial 18, 3) := by decide +kernel
theorem dX4_init_24 : decode cX4_init 24 = .ok (.putfield 19, 3) := by decide +kernel
theorem dX4_init_27 : decode cX4_init 27 = .ok (.aload_n 0, 1) := by decide +kernel
theorem dX4_init_28 : decode cX4_init 28 = .ok (.iconst 4, 1) := by decide +kernel
theorem dX4_init_29 : decode cX4_init 29 = .ok (.newarray .int, 2) := by decide +kernel
theorem dX4_init_31 : decode cX4_init 31 = .ok (.putfield 23, 3) := by decide +kernel
theorem dX4_init_34 : decode cX4_init 34 = .ok (.aload_n 0, 1) := by decide +kernel
theorem dX4_init_35 : decode cX4_init 35 = .ok (.iconst 4, 1) := by decide +kernel
theorem dX4_init_36 : decode cX4_init 36 = .ok (.newarray .int, 2) := by decide +kernel
theorem dX4_init_38 : decode cX4_init 38 = .ok (.putfield 27, 3) := by decide +kernel
theorem dX4_init_41 : decode cX4_init 41 = .ok (.return_, 1) := by decide +kernel
theorem dX4_size_0 : decode cX4_size 0 = .ok (.aload_n 0, 1) := by decide +kernel
theorem dX4_size_1 : decode cX4_size 1 = .ok (.getfield 30, 3) := by decide +kernel
theorem dX4_size_4 : decode cX4_size 4 = .ok (.ireturn, 1) := by decide +kernel
theorem dX4_leastCost_0 : decode cX4_leastCost 0 = .ok (.aload_n 0, 1) := by decide +kernel
theorem dX4_leastCost_1 : decode cX4_leastCost 1 = .ok (.getfield 34, 3) := by decide +kernel
theorem dX4_leastCost_4 : decode cX4_leastCost 4 = .ok (.ireturn, 1) := by decide +kernel
theorem dX4_bestAt_0 : decode cX4_bestAt 0 = .ok (.aload_n 0, 1) := by decide +kernel
theorem dX4_bestAt_1 : decode cX4_bestAt 1 = .ok (.getfield 27, 3) := by decide +kernel
theorem dX4_bestAt_4 : decode cX4_bestAt 4 = .ok (.iload_n 1, 1) := by decide +kernel
theorem dX4_bestAt_5 : decode cX4_bestAt 5 = .ok (.iaload, 1) := by decide +kernel
theorem dX4_bestAt_6 : decode cX4_bestAt 6 = .ok (.ireturn, 1) := by decide +kernel
set_option maxRecDepth 20000 in
theorem ggX4_weighJoins_X5_size : GoodIn wsX4_weighJoins wsX5_size := goodIn_r _ [6, 7, 56, 57, 58, 59, 60] (by decide +kernel) (by decide +kernel)
set_option maxRecDepth 20000 in
theorem gX4_weighJoins_X5_size : GoodIn wsX4_weighJoins (wsV RX4 37 RX5 yX5_size wsX5_size) := goodIn_app (goodIn_of _ (by decide +kernel)) ggX4_weighJoins_X5_size
set_option maxRecDepth 20000 in
theorem ggX4_weighJoins_X5_pitchOf : GoodIn wsX4_weighJoins wsX5_pitchOf := goodIn_r _ [11, 12, 56, 57, 58, 59, 60] (by decide +kernel) (by decide +kernel)
set_option maxRecDepth 20000 in
theorem gX4_weighJoins_X5_pitchOf : GoodIn wsX4_weighJoins (wsV RX4 42 RX5 yX5_pitchOf wsX5_pitchOf) := goodIn_app (goodIn_of _ (by decide +kernel)) ggX4_weighJoins_X5_pitchOf
set_option maxRecDepth 20000 in
theorem ggX4_weighJoins_X5_lengthOf : GoodIn wsX4_weighJoins wsX5_lengthOf := goodIn_r _ [16, 17, 56, 57, 58, 59, 60] (by decide +kernel) (by decide +kernel)
set_option maxRecDepth 20000 in
theorem gX4_weighJoins_X5_lengthOf : GoodIn wsX4_weighJoins (wsV RX4 46 RX5 yX5_lengthOf wsX5_lengthOf) := goodIn_app (goodIn_of _ (by decide +kernel)) ggX4_weighJoins_X5_lengthOf
set_option maxRecDepth 20000 in
theorem ggX4_weighJoins_X3_weigh : GoodIn wsX4_weighJoins wsX3_weigh := goodIn_r _ [22, 23, 24, 25, 26, 27, 28, 29, 30, 31, 32, 21, 33, 34, 35, 36, 37, 38, 39, 40, 41, 42, 43, 44, 45, 46, 47, 48, 49, 61, 62, 63, 64, 65, 66] (by decide +kernel) (by decide +kernel)
set_option maxRecDepth 20000 in
theorem gX4_weighJoins_X3_weigh : GoodIn wsX4_weighJoins (wsV RX4 49 RX3 yX3_weigh wsX3_weigh) := goodIn_app (goodIn_of _ (by decide +kernel)) ggX4_weighJoins_X3_weigh
theorem dX4_weighJoins_0 : decode cX4_weighJoins 0 = .ok (.iconst 0, 1) := by decide +kernel
theorem dX4_weighJoins_1 : decode cX4_weighJoins 1 = .ok (.istore 4, 2) := by decide +kernel
theorem dX4_weighJoins_3 : decode cX4_weighJoins 3 = .ok (.iload 4, 2) := by decide +kernel
theorem dX4_weighJoins_5 : decode cX4_weighJoins 5 = .ok (.iconst 4, 1) := by decide +kernel
theorem dX4_weighJoins_6 : decode cX4_weighJoins 6 = .ok (.if_icmp .ge 110, 3) := by decide +kernel
theorem dX4_weighJoins_9 : decode cX4_weighJoins 9 = .ok (.aload_n 1, 1) := by decide +kernel
theorem dX4_weighJoins_10 : decode cX4_weighJoins 10 = .ok (.iload 4, 2) := by decide +kernel
theorem dX4_weighJoins_12 : decode cX4_weighJoins 12 = .ok (.aaload, 1) := by decide +kernel
theorem dX4_weighJoins_13 : decode cX4_weighJoins 13 = .ok (.invokevirtual 37, 3) := by decide +kernel
theorem dX4_weighJoins_16 : decode cX4_weighJoins 16 = .ok (.iconst 1, 1) := by decide +kernel
theorem dX4_weighJoins_17 : decode cX4_weighJoins 17 = .ok (.isub, 1) := by decide +kernel
theorem dX4_weighJoins_18 : decode cX4_weighJoins 18 = .ok (.istore 5, 2) := by decide +kernel
theorem dX4_weighJoins_20 : decode cX4_weighJoins 20 = .ok (.iconst 0, 1) := by decide +kernel
theorem dX4_weighJoins_21 : decode cX4_weighJoins 21 = .ok (.istore 6, 2) := by decide +kernel
theorem dX4_weighJoins_23 : decode cX4_weighJoins 23 = .ok (.iload 6, 2) := by decide +kernel
theorem dX4_weighJoins_25 : decode cX4_weighJoins 25 = .ok (.iconst 4, 1) := by decide +kernel
theorem dX4_weighJoins_26 : decode cX4_weighJoins 26 = .ok (.if_icmp .ge 84, 3) := by decide +kernel
theorem dX4_weighJoins_29 : decode cX4_weighJoins 29 = .ok (.iload 5, 2) := by decide +kernel
theorem dX4_weighJoins_31 : decode cX4_weighJoins 31 = .ok (.ifCond .lt 73, 3) := by decide +kernel
theorem dX4_weighJoins_34 : decode cX4_weighJoins 34 = .ok (.aload_n 1, 1) := by decide +kernel
theorem dX4_weighJoins_35 : decode cX4_weighJoins 35 = .ok (.iload 6, 2) := by decide +kernel
theorem dX4_weighJoins_37 : decode cX4_weighJoins 37 = .ok (.aaload, 1) := by decide +kernel
theorem dX4_weighJoins_38 : decode cX4_weighJoins 38 = .ok (.invokevirtual 37, 3) := by decide +kernel
theorem dX4_weighJoins_41 : decode cX4_weighJoins 41 = .ok (.ifCond .le 63, 3) := by decide +kernel
theorem dX4_weighJoins_44 : decode cX4_weighJoins 44 = .ok (.aload_n 1, 1) := by decide +kernel
theorem dX4_weighJoins_45 : decode cX4_weighJoins 45 = .ok (.iload 4, 2) := by decide +kernel
theorem dX4_weighJoins_47 : decode cX4_weighJoins 47 = .ok (.aaload, 1) := by decide +kernel
theorem dX4_weighJoins_48 : decode cX4_weighJoins 48 = .ok (.iload 5, 2) := by decide +kernel
theorem dX4_weighJoins_50 : decode cX4_weighJoins 50 = .ok (.invokevirtual 42, 3) := by decide +kernel
theorem dX4_weighJoins_53 : decode cX4_weighJoins 53 = .ok (.istore 7, 2) := by decide +kernel
theorem dX4_weighJoins_55 : decode cX4_weighJoins 55 = .ok (.aload_n 1, 1) := by decide +kernel
theorem dX4_weighJoins_56 : decode cX4_weighJoins 56 = .ok (.iload 4, 2) := by decide +kernel
theorem dX4_weighJoins_58 : decode cX4_weighJoins 58 = .ok (.aaload, 1) := by decide +kernel
theorem dX4_weighJoins_59 : decode cX4_weighJoins 59 = .ok (.iload 5, 2) := by decide +kernel
theorem dX4_weighJoins_61 : decode cX4_weighJoins 61 = .ok (.invokevirtual 46, 3) := by decide +kernel
theorem dX4_weighJoins_64 : decode cX4_weighJoins 64 = .ok (.istore 8, 2) := by decide +kernel
theorem dX4_weighJoins_66 : decode cX4_weighJoins 66 = .ok (.aload_n 1, 1) := by decide +kernel
theorem dX4_weighJoins_67 : decode cX4_weighJoins 67 = .ok (.iload 6, 2) := by decide +kernel
theorem dX4_weighJoins_69 : decode cX4_weighJoins 69 = .ok (.aaload, 1) := by decide +kernel
theorem dX4_weighJoins_70 : decode cX4_weighJoins 70 = .ok (.iconst 0, 1) := by decide +kernel
theorem dX4_weighJoins_71 : decode cX4_weighJoins 71 = .ok (.invokevirtual 42, 3) := by decide +kernel
theorem dX4_weighJoins_74 : decode cX4_weighJoins 74 = .ok (.istore 9, 2) := by decide +kernel
theorem dX4_weighJoins_76 : decode cX4_weighJoins 76 = .ok (.aload_n 0, 1) := by decide +kernel
theorem dX4_weighJoins_77 : decode cX4_weighJoins 77 = .ok (.getfield 11, 3) := by decide +kernel
theorem dX4_weighJoins_80 : decode cX4_weighJoins 80 = .ok (.iload 4, 2) := by decide +kernel
theorem dX4_weighJoins_82 : decode cX4_weighJoins 82 = .ok (.iconst 4, 1) := by decide +kernel
theorem dX4_weighJoins_83 : decode cX4_weighJoins 83 = .ok (.imul, 1) := by decide +kernel
theorem dX4_weighJoins_84 : decode cX4_weighJoins 84 = .ok (.iload 6, 2) := by decide +kernel
theorem dX4_weighJoins_86 : decode cX4_weighJoins 86 = .ok (.iadd, 1) := by decide +kernel
theorem dX4_weighJoins_87 : decode cX4_weighJoins 87 = .ok (.aaload, 1) := by decide +kernel
theorem dX4_weighJoins_88 : decode cX4_weighJoins 88 = .ok (.astore 10, 2) := by decide +kernel
theorem dX4_weighJoins_90 : decode cX4_weighJoins 90 = .ok (.aload_n 3, 1) := by decide +kernel
theorem dX4_weighJoins_91 : decode cX4_weighJoins 91 = .ok (.aload_n 2, 1) := by decide +kernel
theorem dX4_weighJoins_92 : decode cX4_weighJoins 92 = .ok (.iload 7, 2) := by decide +kernel
theorem dX4_weighJoins_94 : decode cX4_weighJoins 94 = .ok (.iload 8, 2) := by decide +kernel
theorem dX4_weighJoins_96 : decode cX4_weighJoins 96 = .ok (.iload 9, 2) := by decide +kernel
theorem dX4_weighJoins_98 : decode cX4_weighJoins 98 = .ok (.iconst 0, 1) := by decide +kernel
theorem dX4_weighJoins_99 : decode cX4_weighJoins 99 = .ok (.aload 10, 2) := by decide +kernel
theorem dX4_weighJoins_101 : decode cX4_weighJoins 101 = .ok (.invokevirtual 49, 3) := by decide +kernel
theorem dX4_weighJoins_104 : decode cX4_weighJoins 104 = .ok (.iinc 6 1, 3) := by decide +kernel
theorem dX4_weighJoins_107 : decode cX4_weighJoins 107 = .ok (.goto (-84), 3) := by decide +kernel
theorem dX4_weighJoins_110 : decode cX4_weighJoins 110 = .ok (.iinc 4 1, 3) := by decide +kernel
theorem dX4_weighJoins_113 : decode cX4_weighJoins 113 = .ok (.goto (-110), 3) := by decide +kernel
theorem dX4_weighJoins_116 : decode cX4_weighJoins 116 = .ok (.return_, 1) := by decide +kernel
set_option maxRecDepth 20000 in
theorem ggX4_tryAllOrders_X4_startOrder : GoodIn wsX4_tryAllOrders wsX4_startOrder := goodIn_r _ [7, 8, 9, 10, 11, 12, 13, 14, 15, 75, 76, 77, 78, 79, 80, 81, 82, 83, 84, 85] (by decide +kernel) (by decide +kernel)
set_option maxRecDepth 20000 in
theorem gX4_tryAllOrders_X4_startOrder : GoodIn wsX4_tryAllOrders (wsV RX4 55 RX4 yX4_startOrder wsX4_startOrder) := goodIn_app (goodIn_of _ (by decide +kernel)) ggX4_tryAllOrders_X4_startOrder
set_option maxRecDepth 20000 in
theorem ggX4_tryAllOrders_X4_costOfOrder : GoodIn wsX4_tryAllOrders wsX4_costOfOrder := goodIn_r _ [19, 20, 8, 9, 21, 22, 23, 24, 25, 26, 27, 28, 29, 30, 31, 32, 33, 34, 35, 36, 37, 38, 39, 40, 41, 42, 43, 44, 45, 46, 47, 13, 48, 15, 49, 50, 51, 52, 53, 54, 55, 56, 57, 75, 76, 77, 78, 79, 80, 86, 81, 82, 83, 84, 85] (by decide +kernel) (by decide +kernel)
set_option maxRecDepth 20000 in
theorem gX4_tryAllOrders_X4_costOfOrder : GoodIn wsX4_tryAllOrders (wsV RX4 60 RX4 yX4_costOfOrder wsX4_costOfOrder) := goodIn_app (goodIn_of _ (by decide +kernel)) ggX4_tryAllOrders_X4_costOfOrder
set_option maxRecDepth 20000 in
theorem ggX4_tryAllOrders_X4_keepIfLess : GoodIn wsX4_tryAllOrders wsX4_keepIfLess := goodIn_r _ [61, 2, 9, 62, 8, 63, 64, 65, 66, 75, 76, 77, 78, 79, 80] (by decide +kernel) (by decide +kernel)
set_option maxRecDepth 20000 in
theorem gX4_tryAllOrders_X4_keepIfLess : GoodIn wsX4_tryAllOrders (wsV RX4 64 RX4 yX4_keepIfLess wsX4_keepIfLess) := goodIn_app (goodIn_of _ (by decide +kernel)) ggX4_tryAllOrders_X4_keepIfLess
set_option maxRecDepth 20000 in
theorem ggX4_tryAllOrders_X4_goToNextOrder : GoodIn wsX4_tryAllOrders wsX4_goToNextOrder := goodIn_r _ [70, 8, 9, 71, 72, 73, 6, 74, 75, 76, 77, 78, 79, 80] (by decide +kernel) (by decide +kernel)
set_option maxRecDepth 20000 in
theorem gX4_tryAllOrders_X4_goToNextOrder : GoodIn wsX4_tryAllOrders (wsV RX4 68 RX4 yX4_goToNextOrder wsX4_goToNextOrder) := goodIn_app (goodIn_of _ (by decide +kernel)) ggX4_tryAllOrders_X4_goToNextOrder
theorem dX4_tryAllOrders_0 : decode cX4_tryAllOrders 0 = .ok (.aload_n 0, 1) := by decide +kernel
theorem dX4_tryAllOrders_1 : decode cX4_tryAllOrders 1 = .ok (.aload_n 1, 1) := by decide +kernel
theorem dX4_tryAllOrders_2 : decode cX4_tryAllOrders 2 = .ok (.invokevirtual 55, 3) := by decide +kernel
theorem dX4_tryAllOrders_5 : decode cX4_tryAllOrders 5 = .ok (.aload_n 0, 1) := by decide +kernel
theorem dX4_tryAllOrders_6 : decode cX4_tryAllOrders 6 = .ok (.ldc 59, 2) := by decide +kernel
theorem dX4_tryAllOrders_8 : decode cX4_tryAllOrders 8 = .ok (.putfield 34, 3) := by decide +kernel
theorem dX4_tryAllOrders_11 : decode cX4_tryAllOrders 11 = .ok (.iconst 0, 1) := by decide +kernel
theorem dX4_tryAllOrders_12 : decode cX4_tryAllOrders 12 = .ok (.istore_n 2, 1) := by decide +kernel
theorem dX4_tryAllOrders_13 : decode cX4_tryAllOrders 13 = .ok (.iconst 1, 1) := by decide +kernel
theorem dX4_tryAllOrders_14 : decode cX4_tryAllOrders 14 = .ok (.istore_n 3, 1) := by decide +kernel
theorem dX4_tryAllOrders_15 : decode cX4_tryAllOrders 15 = .ok (.iconst 0, 1) := by decide +kernel
theorem dX4_tryAllOrders_16 : decode cX4_tryAllOrders 16 = .ok (.istore 4, 2) := by decide +kernel
theorem dX4_tryAllOrders_18 : decode cX4_tryAllOrders 18 = .ok (.iload_n 3, 1) := by decide +kernel
theorem dX4_tryAllOrders_19 : decode cX4_tryAllOrders 19 = .ok (.ifCond .eq 44, 3) := by decide +kernel
theorem dX4_tryAllOrders_22 : decode cX4_tryAllOrders 22 = .ok (.iload 4, 2) := by decide +kernel
theorem dX4_tryAllOrders_24 : decode cX4_tryAllOrders 24 = .ok (.bipush 24, 2) := by decide +kernel
theorem dX4_tryAllOrders_26 : decode cX4_tryAllOrders 26 = .ok (.if_icmp .ge 37, 3) := by decide +kernel
theorem dX4_tryAllOrders_29 : decode cX4_tryAllOrders 29 = .ok (.aload_n 0, 1) := by decide +kernel
theorem dX4_tryAllOrders_30 : decode cX4_tryAllOrders 30 = .ok (.aload_n 1, 1) := by decide +kernel
theorem dX4_tryAllOrders_31 : decode cX4_tryAllOrders 31 = .ok (.invokevirtual 60, 3) := by decide +kernel
theorem dX4_tryAllOrders_34 : decode cX4_tryAllOrders 34 = .ok (.istore 5, 2) := by decide +kernel
theorem dX4_tryAllOrders_36 : decode cX4_tryAllOrders 36 = .ok (.iload 5, 2) := by decide +kernel
theorem dX4_tryAllOrders_38 : decode cX4_tryAllOrders 38 = .ok (.ldc 59, 2) := by decide +kernel
theorem dX4_tryAllOrders_40 : decode cX4_tryAllOrders 40 = .ok (.if_icmp .ge 12, 3) := by decide +kernel
theorem dX4_tryAllOrders_43 : decode cX4_tryAllOrders 43 = .ok (.iinc 2 1, 3) := by decide +kernel
theorem dX4_tryAllOrders_46 : decode cX4_tryAllOrders 46 = .ok (.aload_n 0, 1) := by decide +kernel
theorem dX4_tryAllOrders_47 : decode cX4_tryAllOrders 47 = .ok (.iload 5, 2) := by decide +kernel
theorem dX4_tryAllOrders_49 : decode cX4_tryAllOrders 49 = .ok (.invokevirtual 64, 3) := by decide +kernel
theorem dX4_tryAllOrders_52 : decode cX4_tryAllOrders 52 = .ok (.aload_n 0, 1) := by decide +kernel
theorem dX4_tryAllOrders_53 : decode cX4_tryAllOrders 53 = .ok (.invokevirtual 68, 3) := by decide +kernel
theorem dX4_tryAllOrders_56 : decode cX4_tryAllOrders 56 = .ok (.istore_n 3, 1) := by decide +kernel
theorem dX4_tryAllOrders_57 : decode cX4_tryAllOrders 57 = .ok (.iinc 4 1, 3) := by decide +kernel
theorem dX4_tryAllOrders_60 : decode cX4_tryAllOrders 60 = .ok (.goto (-42), 3) := by decide +kernel
theorem dX4_tryAllOrders_63 : decode cX4_tryAllOrders 63 = .ok (.iload_n 2, 1) := by decide +kernel
theorem dX4_tryAllOrders_64 : decode cX4_tryAllOrders 64 = .ok (.ireturn, 1) := by decide +kernel
set_option maxRecDepth 20000 in
theorem ggX4_startOrder_X5_size : GoodIn wsX4_startOrder wsX5_size := goodIn_r _ [7, 8, 15, 16, 17, 18, 19] (by decide +kernel) (by decide +kernel)
set_option maxRecDepth 20000 in
theorem gX4_startOrder_X5_size : GoodIn wsX4_startOrder (wsV RX4 37 RX5 yX5_size wsX5_size) := goodIn_app (goodIn_of _ (by decide +kernel)) ggX4_startOrder_X5_size
theorem dX4_startOrder_0 : decode cX4_startOrder 0 = .ok (.aload_n 0, 1) := by decide +kernel
theorem dX4_startOrder_1 : decode cX4_startOrder 1 = .ok (.iconst 0, 1) := by decide +kernel
theorem dX4_startOrder_2 : decode cX4_startOrder 2 = .ok (.putfield 30, 3) := by decide +kernel
theorem dX4_startOrder_5 : decode cX4_startOrder 5 = .ok (.iconst 0, 1) := by decide +kernel
theorem dX4_startOrder_6 : decode cX4_startOrder 6 = .ok (.istore_n 2, 1) := by decide +kernel
theorem dX4_startOrder_7 : decode cX4_startOrder 7 = .ok (.iload_n 2, 1) := by decide +kernel
theorem dX4_startOrder_8 : decode cX4_startOrder 8 = .ok (.iconst 4, 1) := by decide +kernel
theorem dX4_startOrder_9 : decode cX4_startOrder 9 = .ok (.if_icmp .ge 38, 3) := by decide +kernel
theorem dX4_startOrder_12 : decode cX4_startOrder 12 = .ok (.aload_n 1, 1) := by decide +kernel
theorem dX4_startOrder_13 : decode cX4_startOrder 13 = .ok (.iload_n 2, 1) := by decide +kernel
theorem dX4_startOrder_14 : decode cX4_startOrder 14 = .ok (.aaload, 1) := by decide +kernel
theorem dX4_startOrder_15 : decode cX4_startOrder 15 = .ok (.invokevirtual 37, 3) := by decide +kernel
theorem dX4_startOrder_18 : decode cX4_startOrder 18 = .ok (.ifCond .le 23, 3) := by decide +kernel
theorem dX4_startOrder_21 : decode cX4_startOrder 21 = .ok (.aload_n 0, 1) := by decide +kernel
theorem dX4_startOrder_22 : decode cX4_startOrder 22 = .ok (.getfield 23, 3) := by decide +kernel
theorem dX4_startOrder_25 : decode cX4_startOrder 25 = .ok (.aload_n 0, 1) := by decide +kernel
theorem dX4_startOrder_26 : decode cX4_startOrder 26 = .ok (.getfield 30, 3) := by decide +kernel
theorem dX4_startOrder_29 : decode cX4_startOrder 29 = .ok (.iload_n 2, 1) := by decide +kernel
theorem dX4_startOrder_30 : decode cX4_startOrder 30 = .ok (.iastore, 1) := by decide +kernel
theorem dX4_startOrder_31 : decode cX4_startOrder 31 = .ok (.aload_n 0, 1) := by decide +kernel
theorem dX4_startOrder_32 : decode cX4_startOrder 32 = .ok (.dup, 1) := by decide +kernel
theorem dX4_startOrder_33 : decode cX4_startOrder 33 = .ok (.getfield 30, 3) := by decide +kernel
theorem dX4_startOrder_36 : decode cX4_startOrder 36 = .ok (.iconst 1, 1) := by decide +kernel
theorem dX4_startOrder_37 : decode cX4_startOrder 37 = .ok (.iadd, 1) := by decide +kernel
theorem dX4_startOrder_38 : decode cX4_startOrder 38 = .ok (.putfield 30, 3) := by decide +kernel
theorem dX4_startOrder_41 : decode cX4_startOrder 41 = .ok (.iinc 2 1, 3) := by decide +kernel
theorem dX4_startOrder_44 : decode cX4_startOrder 44 = .ok (.goto (-37), 3) := by decide +kernel
theorem dX4_startOrder_47 : decode cX4_startOrder 47 = .ok (.return_, 1) := by decide +kernel
theorem dX4_keepIfLess_0 : decode cX4_keepIfLess 0 = .ok (.iload_n 1, 1) := by decide +kernel
theorem dX4_keepIfLess_1 : decode cX4_keepIfLess 1 = .ok (.aload_n 0, 1) := by decide +kernel
theorem dX4_keepIfLess_2 : decode cX4_keepIfLess 2 = .ok (.getfield 34, 3) := by decide +kernel
theorem dX4_keepIfLess_5 : decode cX4_keepIfLess 5 = .ok (.if_icmp .ge 25, 3) := by decide +kernel
theorem dX4_keepIfLess_8 : decode cX4_keepIfLess 8 = .ok (.aload_n 0, 1) := by decide +kernel
theorem dX4_keepIfLess_9 : decode cX4_keepIfLess 9 = .ok (.iload_n 1, 1) := by decide +kernel
theorem dX4_keepIfLess_10 : decode cX4_keepIfLess 10 = .ok (.putfield 34, 3) := by decide +kernel
theorem dX4_keepIfLess_13 : decode cX4_keepIfLess 13 = .ok (.aload_n 0, 1) := by decide +kernel
theorem dX4_keepIfLess_14 : decode cX4_keepIfLess 14 = .ok (.getfield 23, 3) := by decide +kernel
theorem dX4_keepIfLess_17 : decode cX4_keepIfLess 17 = .ok (.iconst 0, 1) := by decide +kernel
theorem dX4_keepIfLess_18 : decode cX4_keepIfLess 18 = .ok (.aload_n 0, 1) := by decide +kernel
theorem dX4_keepIfLess_19 : decode cX4_keepIfLess 19 = .ok (.getfield 27, 3) := by decide +kernel
theorem dX4_keepIfLess_22 : decode cX4_keepIfLess 22 = .ok (.iconst 0, 1) := by decide +kernel
theorem dX4_keepIfLess_23 : decode cX4_keepIfLess 23 = .ok (.aload_n 0, 1) := by decide +kernel
theorem dX4_keepIfLess_24 : decode cX4_keepIfLess 24 = .ok (.getfield 30, 3) := by decide +kernel
theorem dX4_keepIfLess_27 : decode cX4_keepIfLess 27 = .ok (.invokestatic 72, 3) := by decide +kernel
theorem dX4_keepIfLess_30 : decode cX4_keepIfLess 30 = .ok (.return_, 1) := by decide +kernel
set_option maxRecDepth 20000 in
theorem ggX4_costOfOrder_X1_startRow : GoodIn wsX4_costOfOrder wsX1_startRow := goodIn_r _ [9, 10, 11, 12, 13, 14, 15, 49] (by decide +kernel) (by decide +kernel)
set_option maxRecDepth 20000 in
theorem gX4_costOfOrder_X1_startRow : GoodIn wsX4_costOfOrder (wsV RX4 78 RX1 yX1_startRow wsX1_startRow) := goodIn_app (goodIn_of _ (by decide +kernel)) ggX4_costOfOrder_X1_startRow
set_option maxRecDepth 20000 in
theorem ggX4_costOfOrder_X1_growFrom : GoodIn wsX4_costOfOrder wsX1_growFrom := goodIn_r _ [19, 10, 11, 20, 21, 22, 23, 24, 25, 26, 8, 27, 49] (by decide +kernel) (by decide +kernel)
set_option maxRecDepth 20000 in
theorem gX4_costOfOrder_X1_growFrom : GoodIn wsX4_costOfOrder (wsV RX4 81 RX1 yX1_growFrom wsX1_growFrom) := goodIn_app (goodIn_of _ (by decide +kernel)) ggX4_costOfOrder_X1_growFrom
set_option maxRecDepth 20000 in
theorem ggX4_costOfOrder_X5_gaps : GoodIn wsX4_costOfOrder wsX5_gaps := goodIn_r _ [32, 33, 50, 51, 52, 53, 54] (by decide +kernel) (by decide +kernel)
set_option maxRecDepth 20000 in
theorem gX4_costOfOrder_X5_gaps : GoodIn wsX4_costOfOrder (wsV RX4 85 RX5 yX5_gaps wsX5_gaps) := goodIn_app (goodIn_of _ (by decide +kernel)) ggX4_costOfOrder_X5_gaps
set_option maxRecDepth 20000 in
theorem ggX4_costOfOrder_X5_costsAt : GoodIn wsX4_costOfOrder wsX5_costsAt := goodIn_r _ [37, 38, 50, 51, 52, 53, 54] (by decide +kernel) (by decide +kernel)
set_option maxRecDepth 20000 in
theorem gX4_costOfOrder_X5_costsAt : GoodIn wsX4_costOfOrder (wsV RX4 88 RX5 yX5_costsAt wsX5_costsAt) := goodIn_app (goodIn_of _ (by decide +kernel)) ggX4_costOfOrder_X5_costsAt
set_option maxRecDepth 20000 in
theorem ggX4_costOfOrder_X1_leastOfAll : GoodIn wsX4_costOfOrder wsX1_leastOfAll := goodIn_r _ [42, 10, 24, 25, 26, 8, 27, 49] (by decide +kernel) (by decide +kernel)
set_option maxRecDepth 20000 in
theorem gX4_costOfOrder_X1_leastOfAll : GoodIn wsX4_costOfOrder (wsV RX4 92 RX1 yX1_leastOfAll wsX1_leastOfAll) := goodIn_app (goodIn_of _ (by decide +kernel)) ggX4_costOfOrder_X1_leastOfAll
theorem dX4_costOfOrder_0 : decode cX4_costOfOrder 0 = .ok (.aload_n 0, 1) := by decide +kernel
theorem dX4_costOfOrder_1 : decode cX4_costOfOrder 1 = .ok (.getfield 19, 3) := by decide +kernel
theorem dX4_costOfOrder_4 : decode cX4_costOfOrder 4 = .ok (.invokevirtual 78, 3) := by decide +kernel
theorem dX4_costOfOrder_7 : decode cX4_costOfOrder 7 = .ok (.iconst 0, 1) := by decide +kernel
theorem dX4_costOfOrder_8 : decode cX4_costOfOrder 8 = .ok (.istore_n 2, 1) := by decide +kernel
theorem dX4_costOfOrder_9 : decode cX4_costOfOrder 9 = .ok (.iload_n 2, 1) := by decide +kernel
theorem dX4_costOfOrder_10 : decode cX4_costOfOrder 10 = .ok (.aload_n 0, 1) := by decide +kernel
theorem dX4_costOfOrder_11 : decode cX4_costOfOrder 11 = .ok (.getfield 30, 3) := by decide +kernel
theorem dX4_costOfOrder_14 : decode cX4_costOfOrder 14 = .ok (.if_icmp .ge 90, 3) := by decide +kernel
theorem dX4_costOfOrder_17 : decode cX4_costOfOrder 17 = .ok (.aload_n 1, 1) := by decide +kernel
theorem dX4_costOfOrder_18 : decode cX4_costOfOrder 18 = .ok (.aload_n 0, 1) := by decide +kernel
theorem dX4_costOfOrder_19 : decode cX4_costOfOrder 19 = .ok (.getfield 23, 3) := by decide +kernel
theorem dX4_costOfOrder_22 : decode cX4_costOfOrder 22 = .ok (.iload_n 2, 1) := by decide +kernel
theorem dX4_costOfOrder_23 : decode cX4_costOfOrder 23 = .ok (.iaload, 1) := by decide +kernel
theorem dX4_costOfOrder_24 : decode cX4_costOfOrder 24 = .ok (.aaload, 1) := by decide +kernel
theorem dX4_costOfOrder_25 : decode cX4_costOfOrder 25 = .ok (.astore_n 3, 1) := by decide +kernel
theorem dX4_costOfOrder_26 : decode cX4_costOfOrder 26 = .ok (.iload_n 2, 1) := by decide +kernel
theorem dX4_costOfOrder_27 : decode cX4_costOfOrder 27 = .ok (.ifCond .le 36, 3) := by decide +kernel
theorem dX4_costOfOrder_30 : decode cX4_costOfOrder 30 = .ok (.aload_n 0, 1) := by decide +kernel
theorem dX4_costOfOrder_31 : decode cX4_costOfOrder 31 = .ok (.getfield 19, 3) := by decide +kernel
theorem dX4_costOfOrder_34 : decode cX4_costOfOrder 34 = .ok (.aload_n 0, 1) := by decide +kernel
theorem dX4_costOfOrder_35 : decode cX4_costOfOrder 35 = .ok (.getfield 19, 3) := by decide +kernel
theorem dX4_costOfOrder_38 : decode cX4_costOfOrder 38 = .ok (.aload_n 0, 1) := by decide +kernel
theorem dX4_costOfOrder_39 : decode cX4_costOfOrder 39 = .ok (.getfield 11, 3) := by decide +kernel
theorem dX4_costOfOrder_42 : decode cX4_costOfOrder 42 = .ok (.aload_n 0, 1) := by decide +kernel
theorem dX4_costOfOrder_43 : decode cX4_costOfOrder 43 = .ok (.getfield 23, 3) := by decide +kernel
theorem dX4_costOfOrder_46 : decode cX4_costOfOrder 46 = .ok (.iload_n 2, 1) := by decide +kernel
theorem dX4_costOfOrder_47 : decode cX4_costOfOrder 47 = .ok (.iconst 1, 1) := by decide +kernel
theorem dX4_costOfOrder_48 : decode cX4_costOfOrder 48 = .ok (.isub, 1) := by decide +kernel
theorem dX4_costOfOrder_49 : decode cX4_costOfOrder 49 = .ok (.iaload, 1) := by decide +kernel
theorem dX4_costOfOrder_50 : decode cX4_costOfOrder 50 = .ok (.iconst 4, 1) := by decide +kernel
theorem dX4_costOfOrder_51 : decode cX4_costOfOrder 51 = .ok (.imul, 1) := by decide +kernel
theorem dX4_costOfOrder_52 : decode cX4_costOfOrder 52 = .ok (.aload_n 0, 1) := by decide +kernel
theorem dX4_costOfOrder_53 : decode cX4_costOfOrder 53 = .ok (.getfield 23, 3) := by decide +kernel
theorem dX4_costOfOrder_56 : decode cX4_costOfOrder 56 = .ok (.iload_n 2, 1) := by decide +kernel
theorem dX4_costOfOrder_57 : decode cX4_costOfOrder 57 = .ok (.iaload, 1) := by decide +kernel
theorem dX4_costOfOrder_58 : decode cX4_costOfOrder 58 = .ok (.iadd, 1) := by decide +kernel
theorem dX4_costOfOrder_59 : decode cX4_costOfOrder 59 = .ok (.aaload, 1) := by decide +kernel
theorem dX4_costOfOrder_60 : decode cX4_costOfOrder 60 = .ok (.invokevirtual 81, 3) := by decide +kernel
theorem dX4_costOfOrder_63 : decode cX4_costOfOrder 63 = .ok (.iconst 0, 1) := by decide +kernel
theorem dX4_costOfOrder_64 : decode cX4_costOfOrder 64 = .ok (.istore 4, 2) := by decide +kernel
theorem dX4_costOfOrder_66 : decode cX4_costOfOrder 66 = .ok (.iload 4, 2) := by decide +kernel
theorem dX4_costOfOrder_68 : decode cX4_costOfOrder 68 = .ok (.aload_n 3, 1) := by decide +kernel
theorem dX4_costOfOrder_69 : decode cX4_costOfOrder 69 = .ok (.invokevirtual 85, 3) := by decide +kernel
theorem dX4_costOfOrder_72 : decode cX4_costOfOrder 72 = .ok (.if_icmp .ge 26, 3) := by decide +kernel
theorem dX4_costOfOrder_75 : decode cX4_costOfOrder 75 = .ok (.aload_n 0, 1) := by decide +kernel
theorem dX4_costOfOrder_76 : decode cX4_costOfOrder 76 = .ok (.getfield 19, 3) := by decide +kernel
theorem dX4_costOfOrder_79 : decode cX4_costOfOrder 79 = .ok (.aload_n 0, 1) := by decide +kernel
theorem dX4_costOfOrder_80 : decode cX4_costOfOrder 80 = .ok (.getfield 19, 3) := by decide +kernel
theorem dX4_costOfOrder_83 : decode cX4_costOfOrder 83 = .ok (.aload_n 3, 1) := by decide +kernel
theorem dX4_costOfOrder_84 : decode cX4_costOfOrder 84 = .ok (.iload 4, 2) := by decide +kernel
theorem dX4_costOfOrder_86 : decode cX4_costOfOrder 86 = .ok (.invokevirtual 88, 3) := by decide +kernel
theorem dX4_costOfOrder_89 : decode cX4_costOfOrder 89 = .ok (.invokevirtual 81, 3) := by decide +kernel
theorem dX4_costOfOrder_92 : decode cX4_costOfOrder 92 = .ok (.iinc 4 1, 3) := by decide +kernel
theorem dX4_costOfOrder_95 : decode cX4_costOfOrder 95 = .ok (.goto (-29), 3) := by decide +kernel
theorem dX4_costOfOrder_98 : decode cX4_costOfOrder 98 = .ok (.iinc 2 1, 3) := by decide +kernel
theorem dX4_costOfOrder_101 : decode cX4_costOfOrder 101 = .ok (.goto (-92), 3) := by decide +kernel
theorem dX4_costOfOrder_104 : decode cX4_costOfOrder 104 = .ok (.aload_n 0, 1) := by decide +kernel
theorem dX4_costOfOrder_105 : decode cX4_costOfOrder 105 = .ok (.getfield 19, 3) := by decide +kernel
theorem dX4_costOfOrder_108 : decode cX4_costOfOrder 108 = .ok (.invokevirtual 92, 3) := by decide +kernel
theorem dX4_costOfOrder_111 : decode cX4_costOfOrder 111 = .ok (.ireturn, 1) := by decide +kernel
set_option maxRecDepth 20000 in
theorem ggX4_goToNextOrder_X4_exchange : GoodIn wsX4_goToNextOrder wsX4_exchange := goodIn_r _ [7, 2, 8, 9, 10, 11, 12, 13] (by decide +kernel) (by decide +kernel)
set_option maxRecDepth 20000 in
theorem gX4_goToNextOrder_X4_exchange : GoodIn wsX4_goToNextOrder (wsV RX4 95 RX4 yX4_exchange wsX4_exchange) := goodIn_app (goodIn_of _ (by decide +kernel)) ggX4_goToNextOrder_X4_exchange
theorem dX4_goToNextOrder_0 : decode cX4_goToNextOrder 0 = .ok (.aload_n 0, 1) := by decide +kernel
theorem dX4_goToNextOrder_1 : decode cX4_goToNextOrder 1 = .ok (.getfield 30, 3) := by decide +kernel
theorem dX4_goToNextOrder_4 : decode cX4_goToNextOrder 4 = .ok (.iconst 2, 1) := by decide +kernel
theorem dX4_goToNextOrder_5 : decode cX4_goToNextOrder 5 = .ok (.isub, 1) := by decide +kernel
theorem dX4_goToNextOrder_6 : decode cX4_goToNextOrder 6 = .ok (.istore_n 1, 1) := by decide +kernel
theorem dX4_goToNextOrder_7 : decode cX4_goToNextOrder 7 = .ok (.iload_n 1, 1) := by decide +kernel
theorem dX4_goToNextOrder_8 : decode cX4_goToNextOrder 8 = .ok (.ifCond .lt 26, 3) := by decide +kernel
theorem dX4_goToNextOrder_11 : decode cX4_goToNextOrder 11 = .ok (.aload_n 0, 1) := by decide +kernel
theorem dX4_goToNextOrder_12 : decode cX4_goToNextOrder 12 = .ok (.getfield 23, 3) := by decide +kernel
theorem dX4_goToNextOrder_15 : decode cX4_goToNextOrder 15 = .ok (.iload_n 1, 1) := by decide +kernel
theorem dX4_goToNextOrder_16 : decode cX4_goToNextOrder 16 = .ok (.iaload, 1) := by decide +kernel
theorem dX4_goToNextOrder_17 : decode cX4_goToNextOrder 17 = .ok (.aload_n 0, 1) := by decide +kernel
theorem dX4_goToNextOrder_18 : decode cX4_goToNextOrder 18 = .ok (.getfield 23, 3) := by decide +kernel
theorem dX4_goToNextOrder_21 : decode cX4_goToNextOrder 21 = .ok (.iload_n 1, 1) := by decide +kernel
theorem dX4_goToNextOrder_22 : decode cX4_goToNextOrder 22 = .ok (.iconst 1, 1) := by decide +kernel
theorem dX4_goToNextOrder_23 : decode cX4_goToNextOrder 23 = .ok (.iadd, 1) := by decide +kernel
theorem dX4_goToNextOrder_24 : decode cX4_goToNextOrder 24 = .ok (.iaload, 1) := by decide +kernel
theorem dX4_goToNextOrder_25 : decode cX4_goToNextOrder 25 = .ok (.if_icmp .le 9, 3) := by decide +kernel
theorem dX4_goToNextOrder_28 : decode cX4_goToNextOrder 28 = .ok (.iinc 1 (-1), 3) := by decide +kernel
theorem dX4_goToNextOrder_31 : decode cX4_goToNextOrder 31 = .ok (.goto (-24), 3) := by decide +kernel
theorem dX4_goToNextOrder_34 : decode cX4_goToNextOrder 34 = .ok (.iload_n 1, 1) := by decide +kernel
theorem dX4_goToNextOrder_35 : decode cX4_goToNextOrder 35 = .ok (.ifCond .ge 5, 3) := by decide +kernel
theorem dX4_goToNextOrder_38 : decode cX4_goToNextOrder 38 = .ok (.iconst 0, 1) := by decide +kernel
theorem dX4_goToNextOrder_39 : decode cX4_goToNextOrder 39 = .ok (.ireturn, 1) := by decide +kernel
theorem dX4_goToNextOrder_40 : decode cX4_goToNextOrder 40 = .ok (.aload_n 0, 1) := by decide +kernel
theorem dX4_goToNextOrder_41 : decode cX4_goToNextOrder 41 = .ok (.getfield 30, 3) := by decide +kernel
theorem dX4_goToNextOrder_44 : decode cX4_goToNextOrder 44 = .ok (.iconst 1, 1) := by decide +kernel
theorem dX4_goToNextOrder_45 : decode cX4_goToNextOrder 45 = .ok (.isub, 1) := by decide +kernel
theorem dX4_goToNextOrder_46 : decode cX4_goToNextOrder 46 = .ok (.istore_n 2, 1) := by decide +kernel
theorem dX4_goToNextOrder_47 : decode cX4_goToNextOrder 47 = .ok (.iload_n 2, 1) := by decide +kernel
theorem dX4_goToNextOrder_48 : decode cX4_goToNextOrder 48 = .ok (.iload_n 1, 1) := by decide +kernel
theorem dX4_goToNextOrder_49 : decode cX4_goToNextOrder 49 = .ok (.if_icmp .le 24, 3) := by decide +kernel
theorem dX4_goToNextOrder_52 : decode cX4_goToNextOrder 52 = .ok (.aload_n 0, 1) := by decide +kernel
theorem dX4_goToNextOrder_53 : decode cX4_goToNextOrder 53 = .ok (.getfield 23, 3) := by decide +kernel
theorem dX4_goToNextOrder_56 : decode cX4_goToNextOrder 56 = .ok (.iload_n 2, 1) := by decide +kernel
theorem dX4_goToNextOrder_57 : decode cX4_goToNextOrder 57 = .ok (.iaload, 1) := by decide +kernel
theorem dX4_goToNextOrder_58 : decode cX4_goToNextOrder 58 = .ok (.aload_n 0, 1) := by decide +kernel
theorem dX4_goToNextOrder_59 : decode cX4_goToNextOrder 59 = .ok (.getfield 23, 3) := by decide +kernel
theorem dX4_goToNextOrder_62 : decode cX4_goToNextOrder 62 = .ok (.iload_n 1, 1) := by decide +kernel
theorem dX4_goToNextOrder_63 : decode cX4_goToNextOrder 63 = .ok (.iaload, 1) := by decide +kernel
theorem dX4_goToNextOrder_64 : decode cX4_goToNextOrder 64 = .ok (.if_icmp .ge 9, 3) := by decide +kernel
theorem dX4_goToNextOrder_67 : decode cX4_goToNextOrder 67 = .ok (.iinc 2 (-1), 3) := by decide +kernel
theorem dX4_goToNextOrder_70 : decode cX4_goToNextOrder 70 = .ok (.goto (-23), 3) := by decide +kernel
theorem dX4_goToNextOrder_73 : decode cX4_goToNextOrder 73 = .ok (.aload_n 0, 1) := by decide +kernel
theorem dX4_goToNextOrder_74 : decode cX4_goToNextOrder 74 = .ok (.iload_n 1, 1) := by decide +kernel
theorem dX4_goToNextOrder_75 : decode cX4_goToNextOrder 75 = .ok (.iload_n 2, 1) := by decide +kernel
theorem dX4_goToNextOrder_76 : decode cX4_goToNextOrder 76 = .ok (.invokevirtual 95, 3) := by decide +kernel
theorem dX4_goToNextOrder_79 : decode cX4_goToNextOrder 79 = .ok (.iload_n 1, 1) := by decide +kernel
theorem dX4_goToNextOrder_80 : decode cX4_goToNextOrder 80 = .ok (.iconst 1, 1) := by decide +kernel
theorem dX4_goToNextOrder_81 : decode cX4_goToNextOrder 81 = .ok (.iadd, 1) := by decide +kernel
theorem dX4_goToNextOrder_82 : decode cX4_goToNextOrder 82 = .ok (.istore_n 3, 1) := by decide +kernel
theorem dX4_goToNextOrder_83 : decode cX4_goToNextOrder 83 = .ok (.aload_n 0, 1) := by decide +kernel
theorem dX4_goToNextOrder_84 : decode cX4_goToNextOrder 84 = .ok (.getfield 30, 3) := by decide +kernel
theorem dX4_goToNextOrder_87 : decode cX4_goToNextOrder 87 = .ok (.iconst 1, 1) := by decide +kernel
theorem dX4_goToNextOrder_88 : decode cX4_goToNextOrder 88 = .ok (.isub, 1) := by decide +kernel
theorem dX4_goToNextOrder_89 : decode cX4_goToNextOrder 89 = .ok (.istore 4, 2) := by decide +kernel
theorem dX4_goToNextOrder_91 : decode cX4_goToNextOrder 91 = .ok (.iload_n 3, 1) := by decide +kernel
theorem dX4_goToNextOrder_92 : decode cX4_goToNextOrder 92 = .ok (.iload 4, 2) := by decide +kernel
theorem dX4_goToNextOrder_94 : decode cX4_goToNextOrder 94 = .ok (.if_icmp .ge 19, 3) := by decide +kernel
theorem dX4_goToNextOrder_97 : decode cX4_goToNextOrder 97 = .ok (.aload_n 0, 1) := by decide +kernel
theorem dX4_goToNextOrder_98 : decode cX4_goToNextOrder 98 = .ok (.iload_n 3, 1) := by decide +kernel
theorem dX4_goToNextOrder_99 : decode cX4_goToNextOrder 99 = .ok (.iload 4, 2) := by decide +kernel
theorem dX4_goToNextOrder_101 : decode cX4_goToNextOrder 101 = .ok (.invokevirtual 95, 3) := by decide +kernel
theorem dX4_goToNextOrder_104 : decode cX4_goToNextOrder 104 = .ok (.iinc 3 1, 3) := by decide +kernel
theorem dX4_goToNextOrder_107 : decode cX4_goToNextOrder 107 = .ok (.iinc 4 (-1), 3) := by decide +kernel
theorem dX4_goToNextOrder_110 : decode cX4_goToNextOrder 110 = .ok (.goto (-19), 3) := by decide +kernel
theorem dX4_goToNextOrder_113 : decode cX4_goToNextOrder 113 = .ok (.iconst 1, 1) := by decide +kernel
theorem dX4_goToNextOrder_114 : decode cX4_goToNextOrder 114 = .ok (.ireturn, 1) := by decide +kernel
theorem dX4_exchange_0 : decode cX4_exchange 0 = .ok (.aload_n 0, 1) := by decide +kernel
theorem dX4_exchange_1 : decode cX4_exchange 1 = .ok (.getfield 23, 3) := by decide +kernel
theorem dX4_exchange_4 : decode cX4_exchange 4 = .ok (.iload_n 1, 1) := by decide +kernel
theorem dX4_exchange_5 : decode cX4_exchange 5 = .ok (.iaload, 1) := by decide +kernel
theorem dX4_exchange_6 : decode cX4_exchange 6 = .ok (.istore_n 3, 1) := by decide +kernel
theorem dX4_exchange_7 : decode cX4_exchange 7 = .ok (.aload_n 0, 1) := by decide +kernel
theorem dX4_exchange_8 : decode cX4_exchange 8 = .ok (.getfield 23, 3) := by decide +kernel
theorem dX4_exchange_11 : decode cX4_exchange 11 = .ok (.iload_n 1, 1) := by decide +kernel
theorem dX4_exchange_12 : decode cX4_exchange 12 = .ok (.aload_n 0, 1) := by decide +kernel
theorem dX4_exchange_13 : decode cX4_exchange 13 = .ok (.getfield 23, 3) := by decide +kernel
theorem dX4_exchange_16 : decode cX4_exchange 16 = .ok (.iload_n 2, 1) := by decide +kernel
theorem dX4_exchange_17 : decode cX4_exchange 17 = .ok (.iaload, 1) := by decide +kernel
theorem dX4_exchange_18 : decode cX4_exchange 18 = .ok (.iastore, 1) := by decide +kernel
theorem dX4_exchange_19 : decode cX4_exchange 19 = .ok (.aload_n 0, 1) := by decide +kernel
theorem dX4_exchange_20 : decode cX4_exchange 20 = .ok (.getfield 23, 3) := by decide +kernel
theorem dX4_exchange_23 : decode cX4_exchange 23 = .ok (.iload_n 2, 1) := by decide +kernel
theorem dX4_exchange_24 : decode cX4_exchange 24 = .ok (.iload_n 3, 1) := by decide +kernel
theorem dX4_exchange_25 : decode cX4_exchange 25 = .ok (.iastore, 1) := by decide +kernel
theorem dX4_exchange_26 : decode cX4_exchange 26 = .ok (.return_, 1) := by decide +kernel
theorem dX5_init_0 : decode cX5_init 0 = .ok (.aload_n 0, 1) := by decide +kernel
theorem dX5_init_1 : decode cX5_init 1 = .ok (.invokespecial 3, 3) := by decide +kernel
theorem dX5_init_4 : decode cX5_init 4 = .ok (.aload_n 0, 1) := by decide +kernel
theorem dX5_init_5 : decode cX5_init 5 = .ok (.bipush 10, 2) := by decide +kernel
theorem dX5_init_7 : decode cX5_init 7 = .ok (.newarray .int, 2) := by decide +kernel
theorem dX5_init_9 : decode cX5_init 9 = .ok (.putfield 9, 3) := by decide +kernel
theorem dX5_init_12 : decode cX5_init 12 = .ok (.aload_n 0, 1) := by decide +kernel
theorem dX5_init_13 : decode cX5_init 13 = .ok (.bipush 10, 2) := by decide +kernel
theorem dX5_init_15 : decode cX5_init 15 = .ok (.newarray .int, 2) := by decide +kernel
theorem dX5_init_17 : decode cX5_init 17 = .ok (.putfield 15, 3) := by decide +kernel
theorem dX5_init_20 : decode cX5_init 20 = .ok (.aload_n 0, 1) := by decide +kernel
theorem dX5_init_21 : decode cX5_init 21 = .ok (.bipush 9, 2) := by decide +kernel
theorem dX5_init_23 : decode cX5_init 23 = .ok (.newarray .boolean, 2) := by decide +kernel
theorem dX5_init_25 : decode cX5_init 25 = .ok (.putfield 18, 3) := by decide +kernel
theorem dX5_init_28 : decode cX5_init 28 = .ok (.aload_n 0, 1) := by decide +kernel
theorem dX5_init_29 : decode cX5_init 29 = .ok (.bipush 9, 2) := by decide +kernel
theorem dX5_init_31 : decode cX5_init 31 = .ok (.bipush 9, 2) := by decide +kernel
theorem dX5_init_33 : decode cX5_init 33 = .ok (.multianewarray 22 2, 4) := by decide +kernel
theorem dX5_init_37 : decode cX5_init 37 = .ok (.putfield 24, 3) := by decide +kernel
theorem dX5_init_40 : decode cX5_init 40 = .ok (.return_, 1) := by decide +kernel
theorem dX5_size_0 : decode cX5_size 0 = .ok (.aload_n 0, 1) := by decide +kernel
theorem dX5_size_1 : decode cX5_size 1 = .ok (.getfield 27, 3) := by decide +kernel
theorem dX5_size_4 : decode cX5_size 4 = .ok (.ireturn, 1) := by decide +kernel
theorem dX5_gaps_0 : decode cX5_gaps 0 = .ok (.aload_n 0, 1) := by decide +kernel
theorem dX5_gaps_1 : decode cX5_gaps 1 = .ok (.getfield 27, 3) := by decide +kernel
theorem dX5_gaps_4 : decode cX5_gaps 4 = .ok (.ifCond .ne 7, 3) := by decide +kernel
theorem dX5_gaps_7 : decode cX5_gaps 7 = .ok (.iconst 0, 1) := by decide +kernel
theorem dX5_gaps_8 : decode cX5_gaps 8 = .ok (.goto 9, 3) := by decide +kernel
theorem dX5_gaps_11 : decode cX5_gaps 11 = .ok (.aload_n 0, 1) := by decide +kernel
theorem dX5_gaps_12 : decode cX5_gaps 12 = .ok (.getfield 27, 3) := by decide +kernel
theorem dX5_gaps_15 : decode cX5_gaps 15 = .ok (.iconst 1, 1) := by decide +kernel
theorem dX5_gaps_16 : decode cX5_gaps 16 = .ok (.isub, 1) := by decide +kernel
theorem dX5_gaps_17 : decode cX5_gaps 17 = .ok (.ireturn, 1) := by decide +kernel
theorem dX5_pitchOf_0 : decode cX5_pitchOf 0 = .ok (.aload_n 0, 1) := by decide +kernel
theorem dX5_pitchOf_1 : decode cX5_pitchOf 1 = .ok (.getfield 9, 3) := by decide +kernel
theorem dX5_pitchOf_4 : decode cX5_pitchOf 4 = .ok (.iload_n 1, 1) := by decide +kernel
theorem dX5_pitchOf_5 : decode cX5_pitchOf 5 = .ok (.iaload, 1) := by decide +kernel
theorem dX5_pitchOf_6 : decode cX5_pitchOf 6 = .ok (.ireturn, 1) := by decide +kernel
theorem dX5_lengthOf_0 : decode cX5_lengthOf 0 = .ok (.aload_n 0, 1) := by decide +kernel
theorem dX5_lengthOf_1 : decode cX5_lengthOf 1 = .ok (.getfield 15, 3) := by decide +kernel
theorem dX5_lengthOf_4 : decode cX5_lengthOf 4 = .ok (.iload_n 1, 1) := by decide +kernel
theorem dX5_lengthOf_5 : decode cX5_lengthOf 5 = .ok (.iaload, 1) := by decide +kernel
theorem dX5_lengthOf_6 : decode cX5_lengthOf 6 = .ok (.ireturn, 1) := by decide +kernel
theorem dX5_append_0 : decode cX5_append 0 = .ok (.aload_n 0, 1) := by decide +kernel
theorem dX5_append_1 : decode cX5_append 1 = .ok (.getfield 27, 3) := by decide +kernel
theorem dX5_append_4 : decode cX5_append 4 = .ok (.ifCond .le 15, 3) := by decide +kernel
theorem dX5_append_7 : decode cX5_append 7 = .ok (.aload_n 0, 1) := by decide +kernel
theorem dX5_append_8 : decode cX5_append 8 = .ok (.getfield 18, 3) := by decide +kernel
theorem dX5_append_11 : decode cX5_append 11 = .ok (.aload_n 0, 1) := by decide +kernel
theorem dX5_append_12 : decode cX5_append 12 = .ok (.getfield 27, 3) := by decide +kernel
theorem dX5_append_15 : decode cX5_append 15 = .ok (.iconst 1, 1) := by decide +kernel
theorem dX5_append_16 : decode cX5_append 16 = .ok (.isub, 1) := by decide +kernel
theorem dX5_append_17 : decode cX5_append 17 = .ok (.iconst 0, 1) := by decide +kernel
theorem dX5_append_18 : decode cX5_append 18 = .ok (.bastore, 1) := by decide +kernel
theorem dX5_append_19 : decode cX5_append 19 = .ok (.aload_n 0, 1) := by decide +kernel
theorem dX5_append_20 : decode cX5_append 20 = .ok (.getfield 9, 3) := by decide +kernel
theorem dX5_append_23 : decode cX5_append 23 = .ok (.aload_n 0, 1) := by decide +kernel
theorem dX5_append_24 : decode cX5_append 24 = .ok (.getfield 27, 3) := by decide +kernel
theorem dX5_append_27 : decode cX5_append 27 = .ok (.iload_n 1, 1) := by decide +kernel
theorem dX5_append_28 : decode cX5_append 28 = .ok (.iastore, 1) := by decide +kernel
theorem dX5_append_29 : decode cX5_append 29 = .ok (.aload_n 0, 1) := by decide +kernel
theorem dX5_append_30 : decode cX5_append 30 = .ok (.getfield 15, 3) := by decide +kernel
theorem dX5_append_33 : decode cX5_append 33 = .ok (.aload_n 0, 1) := by decide +kernel
theorem dX5_append_34 : decode cX5_append 34 = .ok (.getfield 27, 3) := by decide +kernel
theorem dX5_append_37 : decode cX5_append 37 = .ok (.iload_n 2, 1) := by decide +kernel
theorem dX5_append_38 : decode cX5_append 38 = .ok (.iastore, 1) := by decide +kernel
theorem dX5_append_39 : decode cX5_append 39 = .ok (.aload_n 0, 1) := by decide +kernel
theorem dX5_append_40 : decode cX5_append 40 = .ok (.dup, 1) := by decide +kernel
theorem dX5_append_41 : decode cX5_append 41 = .ok (.getfield 27, 3) := by decide +kernel
theorem dX5_append_44 : decode cX5_append 44 = .ok (.iconst 1, 1) := by decide +kernel
theorem dX5_append_45 : decode cX5_append 45 = .ok (.iadd, 1) := by decide +kernel
theorem dX5_append_46 : decode cX5_append 46 = .ok (.putfield 27, 3) := by decide +kernel
theorem dX5_append_49 : decode cX5_append 49 = .ok (.aload_n 0, 1) := by decide +kernel
theorem dX5_append_50 : decode cX5_append 50 = .ok (.getfield 27, 3) := by decide +kernel
theorem dX5_append_53 : decode cX5_append 53 = .ok (.ireturn, 1) := by decide +kernel
theorem dX5_dropLast_0 : decode cX5_dropLast 0 = .ok (.aload_n 0, 1) := by decide +kernel
theorem dX5_dropLast_1 : decode cX5_dropLast 1 = .ok (.dup, 1) := by decide +kernel
theorem dX5_dropLast_2 : decode cX5_dropLast 2 = .ok (.getfield 27, 3) := by decide +kernel
theorem dX5_dropLast_5 : decode cX5_dropLast 5 = .ok (.iconst 1, 1) := by decide +kernel
theorem dX5_dropLast_6 : decode cX5_dropLast 6 = .ok (.isub, 1) := by decide +kernel
theorem dX5_dropLast_7 : decode cX5_dropLast 7 = .ok (.putfield 27, 3) := by decide +kernel
theorem dX5_dropLast_10 : decode cX5_dropLast 10 = .ok (.aload_n 0, 1) := by decide +kernel
theorem dX5_dropLast_11 : decode cX5_dropLast 11 = .ok (.getfield 9, 3) := by decide +kernel
theorem dX5_dropLast_14 : decode cX5_dropLast 14 = .ok (.aload_n 0, 1) := by decide +kernel
theorem dX5_dropLast_15 : decode cX5_dropLast 15 = .ok (.getfield 27, 3) := by decide +kernel
theorem dX5_dropLast_18 : decode cX5_dropLast 18 = .ok (.iaload, 1) := by decide +kernel
theorem dX5_dropLast_19 : decode cX5_dropLast 19 = .ok (.ireturn, 1) := by decide +kernel
theorem dX5_replaceWish_0 : decode cX5_replaceWish 0 = .ok (.aload_n 0, 1) := by decide +kernel
theorem dX5_replaceWish_1 : decode cX5_replaceWish 1 = .ok (.getfield 18, 3) := by decide +kernel
theorem dX5_replaceWish_4 : decode cX5_replaceWish 4 = .ok (.iload_n 1, 1) := by decide +kernel
theorem dX5_replaceWish_5 : decode cX5_replaceWish 5 = .ok (.baload, 1) := by decide +kernel
theorem dX5_replaceWish_6 : decode cX5_replaceWish 6 = .ok (.istore_n 3, 1) := by decide +kernel
theorem dX5_replaceWish_7 : decode cX5_replaceWish 7 = .ok (.aload_n 0, 1) := by decide +kernel
theorem dX5_replaceWish_8 : decode cX5_replaceWish 8 = .ok (.getfield 18, 3) := by decide +kernel
theorem dX5_replaceWish_11 : decode cX5_replaceWish 11 = .ok (.iload_n 1, 1) := by decide +kernel
theorem dX5_replaceWish_12 : decode cX5_replaceWish 12 = .ok (.iload_n 2, 1) := by decide +kernel
theorem dX5_replaceWish_13 : decode cX5_replaceWish 13 = .ok (.bastore, 1) := by decide +kernel
theorem dX5_replaceWish_14 : decode cX5_replaceWish 14 = .ok (.iload_n 3, 1) := by decide +kernel
theorem dX5_replaceWish_15 : decode cX5_replaceWish 15 = .ok (.ireturn, 1) := by decide +kernel
set_option maxRecDepth 20000 in
theorem ggX5_weighGaps_X3_weigh : GoodIn wsX5_weighGaps wsX3_weigh := goodIn_r _ [10, 11, 12, 13, 14, 15, 16, 17, 18, 19, 20, 9, 21, 22, 23, 24, 25, 26, 27, 28, 29, 30, 31, 32, 33, 34, 35, 36, 37, 43, 44, 45, 46, 47, 48] (by decide +kernel) (by decide +kernel)
set_option maxRecDepth 20000 in
theorem gX5_weighGaps_X3_weigh : GoodIn wsX5_weighGaps (wsV RX5 31 RX3 yX3_weigh wsX3_weigh) := goodIn_app (goodIn_of _ (by decide +kernel)) ggX5_weighGaps_X3_weigh
theorem dX5_weighGaps_0 : decode cX5_weighGaps 0 = .ok (.iconst 0, 1) := by decide +kernel
theorem dX5_weighGaps_1 : decode cX5_weighGaps 1 = .ok (.istore_n 3, 1) := by decide +kernel
theorem dX5_weighGaps_2 : decode cX5_weighGaps 2 = .ok (.iload_n 3, 1) := by decide +kernel
theorem dX5_weighGaps_3 : decode cX5_weighGaps 3 = .ok (.iconst 1, 1) := by decide +kernel
theorem dX5_weighGaps_4 : decode cX5_weighGaps 4 = .ok (.iadd, 1) := by decide +kernel
theorem dX5_weighGaps_5 : decode cX5_weighGaps 5 = .ok (.aload_n 0, 1) := by decide +kernel
theorem dX5_weighGaps_6 : decode cX5_weighGaps 6 = .ok (.getfield 27, 3) := by decide +kernel
theorem dX5_weighGaps_9 : decode cX5_weighGaps 9 = .ok (.if_icmp .ge 50, 3) := by decide +kernel
theorem dX5_weighGaps_12 : decode cX5_weighGaps 12 = .ok (.aload_n 0, 1) := by decide +kernel
theorem dX5_weighGaps_13 : decode cX5_weighGaps 13 = .ok (.getfield 9, 3) := by decide +kernel
theorem dX5_weighGaps_16 : decode cX5_weighGaps 16 = .ok (.iload_n 3, 1) := by decide +kernel
theorem dX5_weighGaps_17 : decode cX5_weighGaps 17 = .ok (.iconst 1, 1) := by decide +kernel
theorem dX5_weighGaps_18 : decode cX5_weighGaps 18 = .ok (.iadd, 1) := by decide +kernel
theorem dX5_weighGaps_19 : decode cX5_weighGaps 19 = .ok (.iaload, 1) := by decide +kernel
theorem dX5_weighGaps_20 : decode cX5_weighGaps 20 = .ok (.istore 4, 2) := by decide +kernel
theorem dX5_weighGaps_22 : decode cX5_weighGaps 22 = .ok (.aload_n 2, 1) := by decide +kernel
theorem dX5_weighGaps_23 : decode cX5_weighGaps 23 = .ok (.aload_n 1, 1) := by decide +kernel
theorem dX5_weighGaps_24 : decode cX5_weighGaps 24 = .ok (.aload_n 0, 1) := by decide +kernel
theorem dX5_weighGaps_25 : decode cX5_weighGaps 25 = .ok (.getfield 9, 3) := by decide +kernel
theorem dX5_weighGaps_28 : decode cX5_weighGaps 28 = .ok (.iload_n 3, 1) := by decide +kernel
theorem dX5_weighGaps_29 : decode cX5_weighGaps 29 = .ok (.iaload, 1) := by decide +kernel
theorem dX5_weighGaps_30 : decode cX5_weighGaps 30 = .ok (.aload_n 0, 1) := by decide +kernel
theorem dX5_weighGaps_31 : decode cX5_weighGaps 31 = .ok (.getfield 15, 3) := by decide +kernel
theorem dX5_weighGaps_34 : decode cX5_weighGaps 34 = .ok (.iload_n 3, 1) := by decide +kernel
theorem dX5_weighGaps_35 : decode cX5_weighGaps 35 = .ok (.iaload, 1) := by decide +kernel
theorem dX5_weighGaps_36 : decode cX5_weighGaps 36 = .ok (.iload 4, 2) := by decide +kernel
theorem dX5_weighGaps_38 : decode cX5_weighGaps 38 = .ok (.aload_n 0, 1) := by decide +kernel
theorem dX5_weighGaps_39 : decode cX5_weighGaps 39 = .ok (.getfield 18, 3) := by decide +kernel
theorem dX5_weighGaps_42 : decode cX5_weighGaps 42 = .ok (.iload_n 3, 1) := by decide +kernel
theorem dX5_weighGaps_43 : decode cX5_weighGaps 43 = .ok (.baload, 1) := by decide +kernel
theorem dX5_weighGaps_44 : decode cX5_weighGaps 44 = .ok (.aload_n 0, 1) := by decide +kernel
theorem dX5_weighGaps_45 : decode cX5_weighGaps 45 = .ok (.getfield 24, 3) := by decide +kernel
theorem dX5_weighGaps_48 : decode cX5_weighGaps 48 = .ok (.iload_n 3, 1) := by decide +kernel
theorem dX5_weighGaps_49 : decode cX5_weighGaps 49 = .ok (.aaload, 1) := by decide +kernel
theorem dX5_weighGaps_50 : decode cX5_weighGaps 50 = .ok (.invokevirtual 31, 3) := by decide +kernel
theorem dX5_weighGaps_53 : decode cX5_weighGaps 53 = .ok (.iinc 3 1, 3) := by decide +kernel
theorem dX5_weighGaps_56 : decode cX5_weighGaps 56 = .ok (.goto (-54), 3) := by decide +kernel
theorem dX5_weighGaps_59 : decode cX5_weighGaps 59 = .ok (.return_, 1) := by decide +kernel
theorem dX5_costsAt_0 : decode cX5_costsAt 0 = .ok (.aload_n 0, 1) := by decide +kernel
theorem dX5_costsAt_1 : decode cX5_costsAt 1 = .ok (.getfield 24, 3) := by decide +kernel
theorem dX5_costsAt_4 : decode cX5_costsAt 4 = .ok (.iload_n 1, 1) := by decide +kernel
theorem dX5_costsAt_5 : decode cX5_costsAt 5 = .ok (.aaload, 1) := by decide +kernel
theorem dX5_costsAt_6 : decode cX5_costsAt 6 = .ok (.areturn, 1) := by decide +kernel
set_option maxRecDepth 20000 in
theorem ggX6_init_X1_init : GoodIn wsX6_init wsX1_init := goodIn_r _ [14, 15, 2, 3, 9, 16, 21] (by decide +kernel) (by decide +kernel)
set_option maxRecDepth 20000 in
theorem gX6_init_X1_init : GoodIn wsX6_init (wsX1_init) := ggX6_init_X1_init
theorem dX6_init_0 : decode cX6_init 0 = .ok (.aload_n 0, 1) := by decide +kernel
theorem dX6_init_1 : decode cX6_init 1 = .ok (.invokespecial 3, 3) := by decide +kernel
theorem dX6_init_4 : decode cX6_init 4 = .ok (.aload_n 0, 1) := by decide +kernel
theorem dX6_init_5 : decode cX6_init 5 = .ok (.bipush 10, 2) := by decide +kernel
theorem dX6_init_7 : decode cX6_init 7 = .ok (.anewarray 9, 3) := by decide +kernel
theorem dX6_init_10 : decode cX6_init 10 = .ok (.putfield 11, 3) := by decide +kernel
theorem dX6_init_13 : decode cX6_init 13 = .ok (.iconst 0, 1) := by decide +kernel
theorem dX6_init_14 : decode cX6_init 14 = .ok (.istore_n 1, 1) := by decide +kernel
theorem dX6_init_15 : decode cX6_init 15 = .ok (.iload_n 1, 1) := by decide +kernel
theorem dX6_init_16 : decode cX6_init 16 = .ok (.bipush 9, 2) := by decide +kernel
theorem dX6_init_18 : decode cX6_init 18 = .ok (.if_icmp .gt 22, 3) := by decide +kernel
theorem dX6_init_21 : decode cX6_init 21 = .ok (.aload_n 0, 1) := by decide +kernel
theorem dX6_init_22 : decode cX6_init 22 = .ok (.getfield 11, 3) := by decide +kernel
theorem dX6_init_25 : decode cX6_init 25 = .ok (.iload_n 1, 1) := by decide +kernel
theorem dX6_init_26 : decode cX6_init 26 = .ok (.new 9, 3) := by decide +kernel
theorem dX6_init_29 : decode cX6_init 29 = .ok (.dup, 1) := by decide +kernel
theorem dX6_init_30 : decode cX6_init 30 = .ok (.invokespecial 17, 3) := by decide +kernel
theorem dX6_init_33 : decode cX6_init 33 = .ok (.aastore, 1) := by decide +kernel
theorem dX6_init_34 : decode cX6_init 34 = .ok (.iinc 1 1, 3) := by decide +kernel
theorem dX6_init_37 : decode cX6_init 37 = .ok (.goto (-22), 3) := by decide +kernel
theorem dX6_init_40 : decode cX6_init 40 = .ok (.aload_n 0, 1) := by decide +kernel
theorem dX6_init_41 : decode cX6_init 41 = .ok (.new 9, 3) := by decide +kernel
theorem dX6_init_44 : decode cX6_init 44 = .ok (.dup, 1) := by decide +kernel
theorem dX6_init_45 : decode cX6_init 45 = .ok (.invokespecial 17, 3) := by decide +kernel
theorem dX6_init_48 : decode cX6_init 48 = .ok (.putfield 18, 3) := by decide +kernel
theorem dX6_init_51 : decode cX6_init 51 = .ok (.aload_n 0, 1) := by decide +kernel
theorem dX6_init_52 : decode cX6_init 52 = .ok (.bipush 9, 2) := by decide +kernel
theorem dX6_init_54 : decode cX6_init 54 = .ok (.newarray .int, 2) := by decide +kernel
theorem dX6_init_56 : decode cX6_init 56 = .ok (.putfield 22, 3) := by decide +kernel
theorem dX6_init_59 : decode cX6_init 59 = .ok (.aload_n 0, 1) := by decide +kernel
theorem dX6_init_60 : decode cX6_init 60 = .ok (.bipush 9, 2) := by decide +kernel
theorem dX6_init_62 : decode cX6_init 62 = .ok (.newarray .int, 2) := by decide +kernel
theorem dX6_init_64 : decode cX6_init 64 = .ok (.putfield 26, 3) := by decide +kernel
theorem dX6_init_67 : decode cX6_init 67 = .ok (.return_, 1) := by decide +kernel
set_option maxRecDepth 20000 in
theorem ggX6_solveFor_X5_gaps : GoodIn wsX6_solveFor wsX5_gaps := goodIn_r _ [6, 7, 44, 45, 46, 47, 48] (by decide +kernel) (by decide +kernel)
set_option maxRecDepth 20000 in
theorem gX6_solveFor_X5_gaps : GoodIn wsX6_solveFor (wsV RX6 29 RX5 yX5_gaps wsX5_gaps) := goodIn_app (goodIn_of _ (by decide +kernel)) ggX6_solveFor_X5_gaps
set_option maxRecDepth 20000 in
theorem ggX6_solveFor_X1_startRow : GoodIn wsX6_solveFor wsX1_startRow := goodIn_r _ [12, 13, 14, 15, 16, 17, 18, 49] (by decide +kernel) (by decide +kernel)
set_option maxRecDepth 20000 in
theorem gX6_solveFor_X1_startRow : GoodIn wsX6_solveFor (wsV RX6 35 RX1 yX1_startRow wsX1_startRow) := goodIn_app (goodIn_of _ (by decide +kernel)) ggX6_solveFor_X1_startRow
set_option maxRecDepth 20000 in
theorem ggX6_solveFor_X5_costsAt : GoodIn wsX6_solveFor wsX5_costsAt := goodIn_r _ [22, 23, 44, 45, 46, 47, 48] (by decide +kernel) (by decide +kernel)
set_option maxRecDepth 20000 in
theorem gX6_solveFor_X5_costsAt : GoodIn wsX6_solveFor (wsV RX6 38 RX5 yX5_costsAt wsX5_costsAt) := goodIn_app (goodIn_of _ (by decide +kernel)) ggX6_solveFor_X5_costsAt
set_option maxRecDepth 20000 in
theorem ggX6_solveFor_X1_growFrom : GoodIn wsX6_solveFor wsX1_growFrom := goodIn_r _ [27, 13, 14, 28, 29, 30, 31, 32, 33, 34, 11, 35, 49] (by decide +kernel) (by decide +kernel)
set_option maxRecDepth 20000 in
theorem gX6_solveFor_X1_growFrom : GoodIn wsX6_solveFor (wsV RX6 42 RX1 yX1_growFrom wsX1_growFrom) := goodIn_app (goodIn_of _ (by decide +kernel)) ggX6_solveFor_X1_growFrom
set_option maxRecDepth 20000 in
theorem ggX6_solveFor_X1_leastOfAll : GoodIn wsX6_solveFor wsX1_leastOfAll := goodIn_r _ [39, 13, 32, 33, 34, 11, 35, 49] (by decide +kernel) (by decide +kernel)
set_option maxRecDepth 20000 in
theorem gX6_solveFor_X1_leastOfAll : GoodIn wsX6_solveFor (wsV RX6 46 RX1 yX1_leastOfAll wsX1_leastOfAll) := goodIn_app (goodIn_of _ (by decide +kernel)) ggX6_solveFor_X1_leastOfAll
theorem dX6_solveFor_0 : decode cX6_solveFor 0 = .ok (.aload_n 0, 1) := by decide +kernel
theorem dX6_solveFor_1 : decode cX6_solveFor 1 = .ok (.getfield 11, 3) := by decide +kernel
theorem dX6_solveFor_4 : decode cX6_solveFor 4 = .ok (.aload_n 1, 1) := by decide +kernel
theorem dX6_solveFor_5 : decode cX6_solveFor 5 = .ok (.invokevirtual 29, 3) := by decide +kernel
theorem dX6_solveFor_8 : decode cX6_solveFor 8 = .ok (.aaload, 1) := by decide +kernel
theorem dX6_solveFor_9 : decode cX6_solveFor 9 = .ok (.invokevirtual 35, 3) := by decide +kernel
theorem dX6_solveFor_12 : decode cX6_solveFor 12 = .ok (.aload_n 1, 1) := by decide +kernel
theorem dX6_solveFor_13 : decode cX6_solveFor 13 = .ok (.invokevirtual 29, 3) := by decide +kernel
theorem dX6_solveFor_16 : decode cX6_solveFor 16 = .ok (.iconst 1, 1) := by decide +kernel
theorem dX6_solveFor_17 : decode cX6_solveFor 17 = .ok (.isub, 1) := by decide +kernel
theorem dX6_solveFor_18 : decode cX6_solveFor 18 = .ok (.istore_n 2, 1) := by decide +kernel
theorem dX6_solveFor_19 : decode cX6_solveFor 19 = .ok (.iload_n 2, 1) := by decide +kernel
theorem dX6_solveFor_20 : decode cX6_solveFor 20 = .ok (.ifCond .lt 31, 3) := by decide +kernel
theorem dX6_solveFor_23 : decode cX6_solveFor 23 = .ok (.aload_n 0, 1) := by decide +kernel
theorem dX6_solveFor_24 : decode cX6_solveFor 24 = .ok (.getfield 11, 3) := by decide +kernel
theorem dX6_solveFor_27 : decode cX6_solveFor 27 = .ok (.iload_n 2, 1) := by decide +kernel
theorem dX6_solveFor_28 : decode cX6_solveFor 28 = .ok (.aaload, 1) := by decide +kernel
theorem dX6_solveFor_29 : decode cX6_solveFor 29 = .ok (.aload_n 0, 1) := by decide +kernel
theorem dX6_solveFor_30 : decode cX6_solveFor 30 = .ok (.getfield 11, 3) := by decide +kernel
theorem dX6_solveFor_33 : decode cX6_solveFor 33 = .ok (.iload_n 2, 1) := by decide +kernel
theorem dX6_solveFor_34 : decode cX6_solveFor 34 = .ok (.iconst 1, 1) := by decide +kernel
theorem dX6_solveFor_35 : decode cX6_solveFor 35 = .ok (.iadd, 1) := by decide +kernel
theorem dX6_solveFor_36 : decode cX6_solveFor 36 = .ok (.aaload, 1) := by decide +kernel
theorem dX6_solveFor_37 : decode cX6_solveFor 37 = .ok (.aload_n 1, 1) := by decide +kernel
theorem dX6_solveFor_38 : decode cX6_solveFor 38 = .ok (.iload_n 2, 1) := by decide +kernel
theorem dX6_solveFor_39 : decode cX6_solveFor 39 = .ok (.invokevirtual 38, 3) := by decide +kernel
theorem dX6_solveFor_42 : decode cX6_solveFor 42 = .ok (.invokevirtual 42, 3) := by decide +kernel
theorem dX6_solveFor_45 : decode cX6_solveFor 45 = .ok (.iinc 2 (-1), 3) := by decide +kernel
theorem dX6_solveFor_48 : decode cX6_solveFor 48 = .ok (.goto (-29), 3) := by decide +kernel
theorem dX6_solveFor_51 : decode cX6_solveFor 51 = .ok (.aload_n 0, 1) := by decide +kernel
theorem dX6_solveFor_52 : decode cX6_solveFor 52 = .ok (.getfield 11, 3) := by decide +kernel
theorem dX6_solveFor_55 : decode cX6_solveFor 55 = .ok (.iconst 0, 1) := by decide +kernel
theorem dX6_solveFor_56 : decode cX6_solveFor 56 = .ok (.aaload, 1) := by decide +kernel
theorem dX6_solveFor_57 : decode cX6_solveFor 57 = .ok (.invokevirtual 46, 3) := by decide +kernel
theorem dX6_solveFor_60 : decode cX6_solveFor 60 = .ok (.ireturn, 1) := by decide +kernel
set_option maxRecDepth 20000 in
theorem ggX6_firstAt_X1_firstLeastBeside : GoodIn wsX6_firstAt wsX1_firstLeastBeside := goodIn_r _ [6, 7, 12] (by decide +kernel) (by decide +kernel)
set_option maxRecDepth 20000 in
theorem gX6_firstAt_X1_firstLeastBeside : GoodIn wsX6_firstAt (wsV RX6 49 RX1 yX1_firstLeastBeside wsX1_firstLeastBeside) := goodIn_app (goodIn_of _ (by decide +kernel)) ggX6_firstAt_X1_firstLeastBeside
theorem dX6_firstAt_0 : decode cX6_firstAt 0 = .ok (.iconst 0, 1) := by decide +kernel
theorem dX6_firstAt_1 : decode cX6_firstAt 1 = .ok (.istore_n 2, 1) := by decide +kernel
theorem dX6_firstAt_2 : decode cX6_firstAt 2 = .ok (.iconst 0, 1) := by decide +kernel
theorem dX6_firstAt_3 : decode cX6_firstAt 3 = .ok (.istore_n 3, 1) := by decide +kernel
theorem dX6_firstAt_4 : decode cX6_firstAt 4 = .ok (.iload_n 3, 1) := by decide +kernel
theorem dX6_firstAt_5 : decode cX6_firstAt 5 = .ok (.iload_n 1, 1) := by decide +kernel
theorem dX6_firstAt_6 : decode cX6_firstAt 6 = .ok (.if_icmp .gt 20, 3) := by decide +kernel
theorem dX6_firstAt_9 : decode cX6_firstAt 9 = .ok (.aload_n 0, 1) := by decide +kernel
theorem dX6_firstAt_10 : decode cX6_firstAt 10 = .ok (.getfield 11, 3) := by decide +kernel
theorem dX6_firstAt_13 : decode cX6_firstAt 13 = .ok (.iload_n 3, 1) := by decide +kernel
theorem dX6_firstAt_14 : decode cX6_firstAt 14 = .ok (.aaload, 1) := by decide +kernel
theorem dX6_firstAt_15 : decode cX6_firstAt 15 = .ok (.iload_n 2, 1) := by decide +kernel
theorem dX6_firstAt_16 : decode cX6_firstAt 16 = .ok (.invokevirtual 49, 3) := by decide +kernel
theorem dX6_firstAt_19 : decode cX6_firstAt 19 = .ok (.istore_n 2, 1) := by decide +kernel
theorem dX6_firstAt_20 : decode cX6_firstAt 20 = .ok (.iinc 3 1, 3) := by decide +kernel
theorem dX6_firstAt_23 : decode cX6_firstAt 23 = .ok (.goto (-19), 3) := by decide +kernel
theorem dX6_firstAt_26 : decode cX6_firstAt 26 = .ok (.iload_n 2, 1) := by decide +kernel
theorem dX6_firstAt_27 : decode cX6_firstAt 27 = .ok (.ireturn, 1) := by decide +kernel
set_option maxRecDepth 20000 in
theorem ggX6_fewestEmptyGaps_X1_startRow : GoodIn wsX6_fewestEmptyGaps wsX1_startRow := goodIn_r _ [8, 9, 10, 11, 12, 13, 14, 46] (by decide +kernel) (by decide +kernel)
set_option maxRecDepth 20000 in
theorem gX6_fewestEmptyGaps_X1_startRow : GoodIn wsX6_fewestEmptyGaps (wsV RX6 35 RX1 yX1_startRow wsX1_startRow) := goodIn_app (goodIn_of _ (by decide +kernel)) ggX6_fewestEmptyGaps_X1_startRow
set_option maxRecDepth 20000 in
theorem ggX6_fewestEmptyGaps_X5_gaps : GoodIn wsX6_fewestEmptyGaps wsX5_gaps := goodIn_r _ [19, 20, 47, 48, 49, 50, 51] (by decide +kernel) (by decide +kernel)
set_option maxRecDepth 20000 in
theorem gX6_fewestEmptyGaps_X5_gaps : GoodIn wsX6_fewestEmptyGaps (wsV RX6 29 RX5 yX5_gaps wsX5_gaps) := goodIn_app (goodIn_of _ (by decide +kernel)) ggX6_fewestEmptyGaps_X5_gaps
set_option maxRecDepth 20000 in
theorem ggX6_fewestEmptyGaps_X5_costsAt : GoodIn wsX6_fewestEmptyGaps wsX5_costsAt := goodIn_r _ [24, 25, 47, 48, 49, 50, 51] (by decide +kernel) (by decide +kernel)
set_option maxRecDepth 20000 in
theorem gX6_fewestEmptyGaps_X5_costsAt : GoodIn wsX6_fewestEmptyGaps (wsV RX6 38 RX5 yX5_costsAt wsX5_costsAt) := goodIn_app (goodIn_of _ (by decide +kernel)) ggX6_fewestEmptyGaps_X5_costsAt
set_option maxRecDepth 20000 in
theorem ggX6_fewestEmptyGaps_X1_growFrom : GoodIn wsX6_fewestEmptyGaps wsX1_growFrom := goodIn_r _ [29, 9, 10, 30, 31, 32, 33, 34, 35, 36, 7, 37, 46] (by decide +kernel) (by decide +kernel)
set_option maxRecDepth 20000 in
theorem gX6_fewestEmptyGaps_X1_growFrom : GoodIn wsX6_fewestEmptyGaps (wsV RX6 42 RX1 yX1_growFrom wsX1_growFrom) := goodIn_app (goodIn_of _ (by decide +kernel)) ggX6_fewestEmptyGaps_X1_growFrom
set_option maxRecDepth 20000 in
theorem ggX6_fewestEmptyGaps_X1_leastOfAll : GoodIn wsX6_fewestEmptyGaps wsX1_leastOfAll := goodIn_r _ [41, 9, 34, 35, 36, 7, 37, 46] (by decide +kernel) (by decide +kernel)
set_option maxRecDepth 20000 in
theorem gX6_fewestEmptyGaps_X1_leastOfAll : GoodIn wsX6_fewestEmptyGaps (wsV RX6 46 RX1 yX1_leastOfAll wsX1_leastOfAll) := goodIn_app (goodIn_of _ (by decide +kernel)) ggX6_fewestEmptyGaps_X1_leastOfAll
theorem dX6_fewestEmptyGaps_0 : decode cX6_fewestEmptyGaps 0 = .ok (.aload_n 0, 1) := by decide +kernel
theorem dX6_fewestEmptyGaps_1 : decode cX6_fewestEmptyGaps 1 = .ok (.getfield 18, 3) := by decide +kernel
theorem dX6_fewestEmptyGaps_4 : decode cX6_fewestEmptyGaps 4 = .ok (.invokevirtual 35, 3) := by decide +kernel
theorem dX6_fewestEmptyGaps_7 : decode cX6_fewestEmptyGaps 7 = .ok (.iconst 0, 1) := by decide +kernel
theorem dX6_fewestEmptyGaps_8 : decode cX6_fewestEmptyGaps 8 = .ok (.istore_n 2, 1) := by decide +kernel
theorem dX6_fewestEmptyGaps_9 : decode cX6_fewestEmptyGaps 9 = .ok (.iload_n 2, 1) := by decide +kernel
theorem dX6_fewestEmptyGaps_10 : decode cX6_fewestEmptyGaps 10 = .ok (.aload_n 1, 1) := by decide +kernel
theorem dX6_fewestEmptyGaps_11 : decode cX6_fewestEmptyGaps 11 = .ok (.invokevirtual 29, 3) := by decide +kernel
theorem dX6_fewestEmptyGaps_14 : decode cX6_fewestEmptyGaps 14 = .ok (.if_icmp .ge 81, 3) := by decide +kernel
theorem dX6_fewestEmptyGaps_17 : decode cX6_fewestEmptyGaps 17 = .ok (.aload_n 1, 1) := by decide +kernel
theorem dX6_fewestEmptyGaps_18 : decode cX6_fewestEmptyGaps 18 = .ok (.iload_n 2, 1) := by decide +kernel
theorem dX6_fewestEmptyGaps_19 : decode cX6_fewestEmptyGaps 19 = .ok (.invokevirtual 38, 3) := by decide +kernel
theorem dX6_fewestEmptyGaps_22 : decode cX6_fewestEmptyGaps 22 = .ok (.astore_n 3, 1) := by decide +kernel
theorem dX6_fewestEmptyGaps_23 : decode cX6_fewestEmptyGaps 23 = .ok (.iconst 0, 1) := by decide +kernel
theorem dX6_fewestEmptyGaps_24 : decode cX6_fewestEmptyGaps 24 = .ok (.istore 4, 2) := by decide +kernel
theorem dX6_fewestEmptyGaps_26 : decode cX6_fewestEmptyGaps 26 = .ok (.iload 4, 2) := by decide +kernel
theorem dX6_fewestEmptyGaps_28 : decode cX6_fewestEmptyGaps 28 = .ok (.bipush 9, 2) := by decide +kernel
theorem dX6_fewestEmptyGaps_30 : decode cX6_fewestEmptyGaps 30 = .ok (.if_icmp .ge 44, 3) := by decide +kernel
theorem dX6_fewestEmptyGaps_33 : decode cX6_fewestEmptyGaps 33 = .ok (.iload 4, 2) := by decide +kernel
theorem dX6_fewestEmptyGaps_35 : decode cX6_fewestEmptyGaps 35 = .ok (.ifCond .ne 7, 3) := by decide +kernel
theorem dX6_fewestEmptyGaps_38 : decode cX6_fewestEmptyGaps 38 = .ok (.iconst 1, 1) := by decide +kernel
theorem dX6_fewestEmptyGaps_39 : decode cX6_fewestEmptyGaps 39 = .ok (.goto 4, 3) := by decide +kernel
theorem dX6_fewestEmptyGaps_42 : decode cX6_fewestEmptyGaps 42 = .ok (.iconst 0, 1) := by decide +kernel
theorem dX6_fewestEmptyGaps_43 : decode cX6_fewestEmptyGaps 43 = .ok (.istore 5, 2) := by decide +kernel
theorem dX6_fewestEmptyGaps_45 : decode cX6_fewestEmptyGaps 45 = .ok (.aload_n 0, 1) := by decide +kernel
theorem dX6_fewestEmptyGaps_46 : decode cX6_fewestEmptyGaps 46 = .ok (.getfield 22, 3) := by decide +kernel
theorem dX6_fewestEmptyGaps_49 : decode cX6_fewestEmptyGaps 49 = .ok (.iload 4, 2) := by decide +kernel
theorem dX6_fewestEmptyGaps_51 : decode cX6_fewestEmptyGaps 51 = .ok (.aload_n 3, 1) := by decide +kernel
theorem dX6_fewestEmptyGaps_52 : decode cX6_fewestEmptyGaps 52 = .ok (.iload 4, 2) := by decide +kernel
theorem dX6_fewestEmptyGaps_54 : decode cX6_fewestEmptyGaps 54 = .ok (.iaload, 1) := by decide +kernel
theorem dX6_fewestEmptyGaps_55 : decode cX6_fewestEmptyGaps 55 = .ok (.ldc 53, 2) := by decide +kernel
theorem dX6_fewestEmptyGaps_57 : decode cX6_fewestEmptyGaps 57 = .ok (.if_icmp .ge 8, 3) := by decide +kernel
theorem dX6_fewestEmptyGaps_60 : decode cX6_fewestEmptyGaps 60 = .ok (.iload 5, 2) := by decide +kernel
theorem dX6_fewestEmptyGaps_62 : decode cX6_fewestEmptyGaps 62 = .ok (.goto 5, 3) := by decide +kernel
theorem dX6_fewestEmptyGaps_65 : decode cX6_fewestEmptyGaps 65 = .ok (.ldc 53, 2) := by decide +kernel
theorem dX6_fewestEmptyGaps_67 : decode cX6_fewestEmptyGaps 67 = .ok (.iastore, 1) := by decide +kernel
theorem dX6_fewestEmptyGaps_68 : decode cX6_fewestEmptyGaps 68 = .ok (.iinc 4 1, 3) := by decide +kernel
theorem dX6_fewestEmptyGaps_71 : decode cX6_fewestEmptyGaps 71 = .ok (.goto (-45), 3) := by decide +kernel
theorem dX6_fewestEmptyGaps_74 : decode cX6_fewestEmptyGaps 74 = .ok (.aload_n 0, 1) := by decide +kernel
theorem dX6_fewestEmptyGaps_75 : decode cX6_fewestEmptyGaps 75 = .ok (.getfield 18, 3) := by decide +kernel
theorem dX6_fewestEmptyGaps_78 : decode cX6_fewestEmptyGaps 78 = .ok (.aload_n 0, 1) := by decide +kernel
theorem dX6_fewestEmptyGaps_79 : decode cX6_fewestEmptyGaps 79 = .ok (.getfield 18, 3) := by decide +kernel
theorem dX6_fewestEmptyGaps_82 : decode cX6_fewestEmptyGaps 82 = .ok (.aload_n 0, 1) := by decide +kernel
theorem dX6_fewestEmptyGaps_83 : decode cX6_fewestEmptyGaps 83 = .ok (.getfield 22, 3) := by decide +kernel
theorem dX6_fewestEmptyGaps_86 : decode cX6_fewestEmptyGaps 86 = .ok (.invokevirtual 42, 3) := by decide +kernel
theorem dX6_fewestEmptyGaps_89 : decode cX6_fewestEmptyGaps 89 = .ok (.iinc 2 1, 3) := by decide +kernel
theorem dX6_fewestEmptyGaps_92 : decode cX6_fewestEmptyGaps 92 = .ok (.goto (-83), 3) := by decide +kernel
theorem dX6_fewestEmptyGaps_95 : decode cX6_fewestEmptyGaps 95 = .ok (.aload_n 0, 1) := by decide +kernel
theorem dX6_fewestEmptyGaps_96 : decode cX6_fewestEmptyGaps 96 = .ok (.getfield 18, 3) := by decide +kernel
theorem dX6_fewestEmptyGaps_99 : decode cX6_fewestEmptyGaps 99 = .ok (.invokevirtual 46, 3) := by decide +kernel
theorem dX6_fewestEmptyGaps_102 : decode cX6_fewestEmptyGaps 102 = .ok (.ireturn, 1) := by decide +kernel
set_option maxRecDepth 20000 in
theorem ggX6_countFor_J7_fill_53178 : GoodIn wsX6_countFor wsJ7_fill_53178 := goodIn_r _ [5] (by decide +kernel) (by decide +kernel)
set_option maxRecDepth 20000 in
theorem gX6_countFor_J7_fill_53178 : GoodIn wsX6_countFor (va_wsS RX6 54 yJ7_fill_53178 wsJ7_fill_53178) := goodIn_app (goodIn_of _ (by decide +kernel)) ggX6_countFor_J7_fill_53178
set_option maxRecDepth 20000 in
theorem ggX6_countFor_X5_gaps : GoodIn wsX6_countFor wsX5_gaps := goodIn_r _ [10, 11, 27, 28, 29, 30, 31] (by decide +kernel) (by decide +kernel)
set_option maxRecDepth 20000 in
theorem gX6_countFor_X5_gaps : GoodIn wsX6_countFor (wsV RX6 29 RX5 yX5_gaps wsX5_gaps) := goodIn_app (goodIn_of _ (by decide +kernel)) ggX6_countFor_X5_gaps
set_option maxRecDepth 20000 in
theorem ggX6_countFor_X5_costsAt : GoodIn wsX6_countFor wsX5_costsAt := goodIn_r _ [15, 16, 27, 28, 29, 30, 31] (by decide +kernel) (by decide +kernel)
set_option maxRecDepth 20000 in
theorem gX6_countFor_X5_costsAt : GoodIn wsX6_countFor (wsV RX6 38 RX5 yX5_costsAt wsX5_costsAt) := goodIn_app (goodIn_of _ (by decide +kernel)) ggX6_countFor_X5_costsAt
set_option maxRecDepth 20000 in
theorem ggX6_countFor_X6_countWithGap : GoodIn wsX6_countFor wsX6_countWithGap := goodIn_r _ [21, 1, 22, 23, 24, 25, 26] (by decide +kernel) (by decide +kernel)
set_option maxRecDepth 20000 in
theorem gX6_countFor_X6_countWithGap : GoodIn wsX6_countFor (wsV RX6 60 RX6 yX6_countWithGap wsX6_countWithGap) := goodIn_app (goodIn_of _ (by decide +kernel)) ggX6_countFor_X6_countWithGap
theorem dX6_countFor_0 : decode cX6_countFor 0 = .ok (.aload_n 0, 1) := by decide +kernel
theorem dX6_countFor_1 : decode cX6_countFor 1 = .ok (.getfield 26, 3) := by decide +kernel
theorem dX6_countFor_4 : decode cX6_countFor 4 = .ok (.iconst 0, 1) := by decide +kernel
theorem dX6_countFor_5 : decode cX6_countFor 5 = .ok (.invokestatic 54, 3) := by decide +kernel
theorem dX6_countFor_8 : decode cX6_countFor 8 = .ok (.aload_n 0, 1) := by decide +kernel
theorem dX6_countFor_9 : decode cX6_countFor 9 = .ok (.getfield 26, 3) := by decide +kernel
theorem dX6_countFor_12 : decode cX6_countFor 12 = .ok (.iconst 0, 1) := by decide +kernel
theorem dX6_countFor_13 : decode cX6_countFor 13 = .ok (.iconst 1, 1) := by decide +kernel
theorem dX6_countFor_14 : decode cX6_countFor 14 = .ok (.iastore, 1) := by decide +kernel
theorem dX6_countFor_15 : decode cX6_countFor 15 = .ok (.iconst 1, 1) := by decide +kernel
theorem dX6_countFor_16 : decode cX6_countFor 16 = .ok (.istore_n 2, 1) := by decide +kernel
theorem dX6_countFor_17 : decode cX6_countFor 17 = .ok (.iconst 0, 1) := by decide +kernel
theorem dX6_countFor_18 : decode cX6_countFor 18 = .ok (.istore_n 3, 1) := by decide +kernel
theorem dX6_countFor_19 : decode cX6_countFor 19 = .ok (.iload_n 3, 1) := by decide +kernel
theorem dX6_countFor_20 : decode cX6_countFor 20 = .ok (.aload_n 1, 1) := by decide +kernel
theorem dX6_countFor_21 : decode cX6_countFor 21 = .ok (.invokevirtual 29, 3) := by decide +kernel
theorem dX6_countFor_24 : decode cX6_countFor 24 = .ok (.if_icmp .ge 20, 3) := by decide +kernel
theorem dX6_countFor_27 : decode cX6_countFor 27 = .ok (.aload_n 0, 1) := by decide +kernel
theorem dX6_countFor_28 : decode cX6_countFor 28 = .ok (.aload_n 1, 1) := by decide +kernel
theorem dX6_countFor_29 : decode cX6_countFor 29 = .ok (.iload_n 3, 1) := by decide +kernel
theorem dX6_countFor_30 : decode cX6_countFor 30 = .ok (.invokevirtual 38, 3) := by decide +kernel
theorem dX6_countFor_33 : decode cX6_countFor 33 = .ok (.iload_n 2, 1) := by decide +kernel
theorem dX6_countFor_34 : decode cX6_countFor 34 = .ok (.invokevirtual 60, 3) := by decide +kernel
theorem dX6_countFor_37 : decode cX6_countFor 37 = .ok (.istore_n 2, 1) := by decide +kernel
theorem dX6_countFor_38 : decode cX6_countFor 38 = .ok (.iinc 3 1, 3) := by decide +kernel
theorem dX6_countFor_41 : decode cX6_countFor 41 = .ok (.goto (-22), 3) := by decide +kernel
theorem dX6_countFor_44 : decode cX6_countFor 44 = .ok (.iload_n 2, 1) := by decide +kernel
theorem dX6_countFor_45 : decode cX6_countFor 45 = .ok (.ireturn, 1) := by decide +kernel
theorem dX6_countWithGap_0 : decode cX6_countWithGap 0 = .ok (.iconst 0, 1) := by decide +kernel
theorem dX6_countWithGap_1 : decode cX6_countWithGap 1 = .ok (.istore_n 3, 1) := by decide +kernel
theorem dX6_countWithGap_2 : decode cX6_countWithGap 2 = .ok (.iconst 0, 1) := by decide +kernel
theorem dX6_countWithGap_3 : decode cX6_countWithGap 3 = .ok (.istore 4, 2) := by decide +kernel
theorem dX6_countWithGap_5 : decode cX6_countWithGap 5 = .ok (.iload 4, 2) := by decide +kernel
theorem dX6_countWithGap_7 : decode cX6_countWithGap 7 = .ok (.bipush 9, 2) := by decide +kernel
theorem dX6_countWithGap_9 : decode cX6_countWithGap 9 = .ok (.if_icmp .ge 61, 3) := by decide +kernel
theorem dX6_countWithGap_12 : decode cX6_countWithGap 12 = .ok (.iload 4, 2) := by decide +kernel
theorem dX6_countWithGap_14 : decode cX6_countWithGap 14 = .ok (.ifCond .ne 7, 3) := by decide +kernel
theorem dX6_countWithGap_17 : decode cX6_countWithGap 17 = .ok (.iconst 0, 1) := by decide +kernel
theorem dX6_countWithGap_18 : decode cX6_countWithGap 18 = .ok (.goto 10, 3) := by decide +kernel
theorem dX6_countWithGap_21 : decode cX6_countWithGap 21 = .ok (.aload_n 0, 1) := by decide +kernel
theorem dX6_countWithGap_22 : decode cX6_countWithGap 22 = .ok (.getfield 26, 3) := by decide +kernel
theorem dX6_countWithGap_25 : decode cX6_countWithGap 25 = .ok (.iload 4, 2) := by decide +kernel
theorem dX6_countWithGap_27 : decode cX6_countWithGap 27 = .ok (.iaload, 1) := by decide +kernel
theorem dX6_countWithGap_28 : decode cX6_countWithGap 28 = .ok (.istore 5, 2) := by decide +kernel
theorem dX6_countWithGap_30 : decode cX6_countWithGap 30 = .ok (.aload_n 0, 1) := by decide +kernel
theorem dX6_countWithGap_31 : decode cX6_countWithGap 31 = .ok (.getfield 26, 3) := by decide +kernel
theorem dX6_countWithGap_34 : decode cX6_countWithGap 34 = .ok (.iload 4, 2) := by decide +kernel
theorem dX6_countWithGap_36 : decode cX6_countWithGap 36 = .ok (.aload_n 1, 1) := by decide +kernel
theorem dX6_countWithGap_37 : decode cX6_countWithGap 37 = .ok (.iload 4, 2) := by decide +kernel
theorem dX6_countWithGap_39 : decode cX6_countWithGap 39 = .ok (.iaload, 1) := by decide +kernel
theorem dX6_countWithGap_40 : decode cX6_countWithGap 40 = .ok (.ldc 53, 2) := by decide +kernel
theorem dX6_countWithGap_42 : decode cX6_countWithGap 42 = .ok (.if_icmp .ge 10, 3) := by decide +kernel
theorem dX6_countWithGap_45 : decode cX6_countWithGap 45 = .ok (.iload_n 2, 1) := by decide +kernel
theorem dX6_countWithGap_46 : decode cX6_countWithGap 46 = .ok (.iload 5, 2) := by decide +kernel
theorem dX6_countWithGap_48 : decode cX6_countWithGap 48 = .ok (.isub, 1) := by decide +kernel
theorem dX6_countWithGap_49 : decode cX6_countWithGap 49 = .ok (.goto 4, 3) := by decide +kernel
theorem dX6_countWithGap_52 : decode cX6_countWithGap 52 = .ok (.iconst 0, 1) := by decide +kernel
theorem dX6_countWithGap_53 : decode cX6_countWithGap 53 = .ok (.iastore, 1) := by decide +kernel
theorem dX6_countWithGap_54 : decode cX6_countWithGap 54 = .ok (.iload_n 3, 1) := by decide +kernel
theorem dX6_countWithGap_55 : decode cX6_countWithGap 55 = .ok (.aload_n 0, 1) := by decide +kernel
theorem dX6_countWithGap_56 : decode cX6_countWithGap 56 = .ok (.getfield 26, 3) := by decide +kernel
theorem dX6_countWithGap_59 : decode cX6_countWithGap 59 = .ok (.iload 4, 2) := by decide +kernel
theorem dX6_countWithGap_61 : decode cX6_countWithGap 61 = .ok (.iaload, 1) := by decide +kernel
theorem dX6_countWithGap_62 : decode cX6_countWithGap 62 = .ok (.iadd, 1) := by decide +kernel
theorem dX6_countWithGap_63 : decode cX6_countWithGap 63 = .ok (.istore_n 3, 1) := by decide +kernel
theorem dX6_countWithGap_64 : decode cX6_countWithGap 64 = .ok (.iinc 4 1, 3) := by decide +kernel
theorem dX6_countWithGap_67 : decode cX6_countWithGap 67 = .ok (.goto (-62), 3) := by decide +kernel
theorem dX6_countWithGap_70 : decode cX6_countWithGap 70 = .ok (.iload_n 3, 1) := by decide +kernel
theorem dX6_countWithGap_71 : decode cX6_countWithGap 71 = .ok (.ireturn, 1) := by decide +kernel
theorem dJ6_bitCount_0f7a4_0 : decode cJ6_bitCount_0f7a4 0 = .ok (.iload_n 0, 1) := by decide +kernel
theorem dJ6_bitCount_0f7a4_1 : decode cJ6_bitCount_0f7a4 1 = .ok (.iload_n 0, 1) := by decide +kernel
theorem dJ6_bitCount_0f7a4_2 : decode cJ6_bitCount_0f7a4 2 = .ok (.iconst 1, 1) := by decide +kernel
theorem dJ6_bitCount_0f7a4_3 : decode cJ6_bitCount_0f7a4 3 = .ok (.iushr, 1) := by decide +kernel
theorem dJ6_bitCount_0f7a4_4 : decode cJ6_bitCount_0f7a4 4 = .ok (.ldc_w 265, 3) := by decide +kernel
theorem dJ6_bitCount_0f7a4_7 : decode cJ6_bitCount_0f7a4 7 = .ok (.iand, 1) := by decide +kernel
theorem dJ6_bitCount_0f7a4_8 : decode cJ6_bitCount_0f7a4 8 = .ok (.isub, 1) := by decide +kernel
theorem dJ6_bitCount_0f7a4_9 : decode cJ6_bitCount_0f7a4 9 = .ok (.istore_n 0, 1) := by decide +kernel
theorem dJ6_bitCount_0f7a4_10 : decode cJ6_bitCount_0f7a4 10 = .ok (.iload_n 0, 1) := by decide +kernel
theorem dJ6_bitCount_0f7a4_11 : decode cJ6_bitCount_0f7a4 11 = .ok (.ldc_w 266, 3) := by decide +kernel
theorem dJ6_bitCount_0f7a4_14 : decode cJ6_bitCount_0f7a4 14 = .ok (.iand, 1) := by decide +kernel
theorem dJ6_bitCount_0f7a4_15 : decode cJ6_bitCount_0f7a4 15 = .ok (.iload_n 0, 1) := by decide +kernel
theorem dJ6_bitCount_0f7a4_16 : decode cJ6_bitCount_0f7a4 16 = .ok (.iconst 2, 1) := by decide +kernel
theorem dJ6_bitCount_0f7a4_17 : decode cJ6_bitCount_0f7a4 17 = .ok (.iushr, 1) := by decide +kernel
theorem dJ6_bitCount_0f7a4_18 : decode cJ6_bitCount_0f7a4 18 = .ok (.ldc_w 266, 3) := by decide +kernel
theorem dJ6_bitCount_0f7a4_21 : decode cJ6_bitCount_0f7a4 21 = .ok (.iand, 1) := by decide +kernel
theorem dJ6_bitCount_0f7a4_22 : decode cJ6_bitCount_0f7a4 22 = .ok (.iadd, 1) := by decide +kernel
theorem dJ6_bitCount_0f7a4_23 : decode cJ6_bitCount_0f7a4 23 = .ok (.istore_n 0, 1) := by decide +kernel
theorem dJ6_bitCount_0f7a4_24 : decode cJ6_bitCount_0f7a4 24 = .ok (.iload_n 0, 1) := by decide +kernel
theorem dJ6_bitCount_0f7a4_25 : decode cJ6_bitCount_0f7a4 25 = .ok (.iload_n 0, 1) := by decide +kernel
theorem dJ6_bitCount_0f7a4_26 : decode cJ6_bitCount_0f7a4 26 = .ok (.iconst 4, 1) := by decide +kernel
theorem dJ6_bitCount_0f7a4_27 : decode cJ6_bitCount_0f7a4 27 = .ok (.iushr, 1) := by decide +kernel
theorem dJ6_bitCount_0f7a4_28 : decode cJ6_bitCount_0f7a4 28 = .ok (.iadd, 1) := by decide +kernel
theorem dJ6_bitCount_0f7a4_29 : decode cJ6_bitCount_0f7a4 29 = .ok (.ldc_w 267, 3) := by decide +kernel
theorem dJ6_bitCount_0f7a4_32 : decode cJ6_bitCount_0f7a4 32 = .ok (.iand, 1) := by decide +kernel
theorem dJ6_bitCount_0f7a4_33 : decode cJ6_bitCount_0f7a4 33 = .ok (.istore_n 0, 1) := by decide +kernel
theorem dJ6_bitCount_0f7a4_34 : decode cJ6_bitCount_0f7a4 34 = .ok (.iload_n 0, 1) := by decide +kernel
theorem dJ6_bitCount_0f7a4_35 : decode cJ6_bitCount_0f7a4 35 = .ok (.iload_n 0, 1) := by decide +kernel
theorem dJ6_bitCount_0f7a4_36 : decode cJ6_bitCount_0f7a4 36 = .ok (.bipush 8, 2) := by decide +kernel
theorem dJ6_bitCount_0f7a4_38 : decode cJ6_bitCount_0f7a4 38 = .ok (.iushr, 1) := by decide +kernel
theorem dJ6_bitCount_0f7a4_39 : decode cJ6_bitCount_0f7a4 39 = .ok (.iadd, 1) := by decide +kernel
theorem dJ6_bitCount_0f7a4_40 : decode cJ6_bitCount_0f7a4 40 = .ok (.istore_n 0, 1) := by decide +kernel
theorem dJ6_bitCount_0f7a4_41 : decode cJ6_bitCount_0f7a4 41 = .ok (.iload_n 0, 1) := by decide +kernel
theorem dJ6_bitCount_0f7a4_42 : decode cJ6_bitCount_0f7a4 42 = .ok (.iload_n 0, 1) := by decide +kernel
theorem dJ6_bitCount_0f7a4_43 : decode cJ6_bitCount_0f7a4 43 = .ok (.bipush 16, 2) := by decide +kernel
theorem dJ6_bitCount_0f7a4_45 : decode cJ6_bitCount_0f7a4 45 = .ok (.iushr, 1) := by decide +kernel
theorem dJ6_bitCount_0f7a4_46 : decode cJ6_bitCount_0f7a4 46 = .ok (.iadd, 1) := by decide +kernel
theorem dJ6_bitCount_0f7a4_47 : decode cJ6_bitCount_0f7a4 47 = .ok (.istore_n 0, 1) := by decide +kernel
theorem dJ6_bitCount_0f7a4_48 : decode cJ6_bitCount_0f7a4 48 = .ok (.iload_n 0, 1) := by decide +kernel
theorem dJ6_bitCount_0f7a4_49 : decode cJ6_bitCount_0f7a4 49 = .ok (.bipush 63, 2) := by decide +kernel
theorem dJ6_bitCount_0f7a4_51 : decode cJ6_bitCount_0f7a4 51 = .ok (.iand, 1) := by decide +kernel
theorem dJ6_bitCount_0f7a4_52 : decode cJ6_bitCount_0f7a4 52 = .ok (.ireturn, 1) := by decide +kernel
theorem dJ9_min_7cf53_0 : decode cJ9_min_7cf53 0 = .ok (.iload_n 0, 1) := by decide +kernel
theorem dJ9_min_7cf53_1 : decode cJ9_min_7cf53 1 = .ok (.iload_n 1, 1) := by decide +kernel
theorem dJ9_min_7cf53_2 : decode cJ9_min_7cf53 2 = .ok (.if_icmp .gt 7, 3) := by decide +kernel
theorem dJ9_min_7cf53_5 : decode cJ9_min_7cf53 5 = .ok (.iload_n 0, 1) := by decide +kernel
theorem dJ9_min_7cf53_6 : decode cJ9_min_7cf53 6 = .ok (.goto 4, 3) := by decide +kernel
theorem dJ9_min_7cf53_9 : decode cJ9_min_7cf53 9 = .ok (.iload_n 1, 1) := by decide +kernel
theorem dJ9_min_7cf53_10 : decode cJ9_min_7cf53 10 = .ok (.ireturn, 1) := by decide +kernel
theorem dJ7_fill_53178_0 : decode cJ7_fill_53178 0 = .ok (.iconst 0, 1) := by decide +kernel
theorem dJ7_fill_53178_1 : decode cJ7_fill_53178 1 = .ok (.istore_n 2, 1) := by decide +kernel
theorem dJ7_fill_53178_2 : decode cJ7_fill_53178 2 = .ok (.aload_n 0, 1) := by decide +kernel
theorem dJ7_fill_53178_3 : decode cJ7_fill_53178 3 = .ok (.arraylength, 1) := by decide +kernel
theorem dJ7_fill_53178_4 : decode cJ7_fill_53178 4 = .ok (.istore_n 3, 1) := by decide +kernel
theorem dJ7_fill_53178_5 : decode cJ7_fill_53178 5 = .ok (.iload_n 2, 1) := by decide +kernel
theorem dJ7_fill_53178_6 : decode cJ7_fill_53178 6 = .ok (.iload_n 3, 1) := by decide +kernel
theorem dJ7_fill_53178_7 : decode cJ7_fill_53178 7 = .ok (.if_icmp .ge 13, 3) := by decide +kernel
theorem dJ7_fill_53178_10 : decode cJ7_fill_53178 10 = .ok (.aload_n 0, 1) := by decide +kernel
theorem dJ7_fill_53178_11 : decode cJ7_fill_53178 11 = .ok (.iload_n 2, 1) := by decide +kernel
theorem dJ7_fill_53178_12 : decode cJ7_fill_53178 12 = .ok (.iload_n 1, 1) := by decide +kernel
theorem dJ7_fill_53178_13 : decode cJ7_fill_53178 13 = .ok (.iastore, 1) := by decide +kernel
theorem dJ7_fill_53178_14 : decode cJ7_fill_53178 14 = .ok (.iinc 2 1, 3) := by decide +kernel
theorem dJ7_fill_53178_17 : decode cJ7_fill_53178 17 = .ok (.goto (-12), 3) := by decide +kernel
theorem dJ7_fill_53178_20 : decode cJ7_fill_53178 20 = .ok (.return_, 1) := by decide +kernel
theorem dJ7_copyOf_59c91_0 : decode cJ7_copyOf_59c91 0 = .ok (.iload_n 1, 1) := by decide +kernel
theorem dJ7_copyOf_59c91_1 : decode cJ7_copyOf_59c91 1 = .ok (.aload_n 0, 1) := by decide +kernel
theorem dJ7_copyOf_59c91_2 : decode cJ7_copyOf_59c91 2 = .ok (.arraylength, 1) := by decide +kernel
theorem dJ7_copyOf_59c91_3 : decode cJ7_copyOf_59c91 3 = .ok (.if_icmp .ne 11, 3) := by decide +kernel
theorem dJ7_copyOf_59c91_6 : decode cJ7_copyOf_59c91 6 = .ok (.aload_n 0, 1) := by decide +kernel
theorem dJ7_copyOf_59c91_7 : decode cJ7_copyOf_59c91 7 = .ok (.invokevirtual 316, 3) := by decide +kernel
theorem dJ7_copyOf_59c91_10 : decode cJ7_copyOf_59c91 10 = .ok (.checkcast 317, 3) := by decide +kernel
theorem dJ7_copyOf_59c91_13 : decode cJ7_copyOf_59c91 13 = .ok (.areturn, 1) := by decide +kernel
theorem dJ7_copyOf_59c91_14 : decode cJ7_copyOf_59c91 14 = .ok (.iload_n 1, 1) := by decide +kernel
theorem dJ7_copyOf_59c91_15 : decode cJ7_copyOf_59c91 15 = .ok (.newarray .int, 2) := by decide +kernel
theorem dJ7_copyOf_59c91_17 : decode cJ7_copyOf_59c91 17 = .ok (.astore_n 2, 1) := by decide +kernel
theorem dJ7_copyOf_59c91_18 : decode cJ7_copyOf_59c91 18 = .ok (.aload_n 0, 1) := by decide +kernel
theorem dJ7_copyOf_59c91_19 : decode cJ7_copyOf_59c91 19 = .ok (.iconst 0, 1) := by decide +kernel
theorem dJ7_copyOf_59c91_20 : decode cJ7_copyOf_59c91 20 = .ok (.aload_n 2, 1) := by decide +kernel
theorem dJ7_copyOf_59c91_21 : decode cJ7_copyOf_59c91 21 = .ok (.iconst 0, 1) := by decide +kernel
theorem dJ7_copyOf_59c91_22 : decode cJ7_copyOf_59c91 22 = .ok (.aload_n 0, 1) := by decide +kernel
theorem dJ7_copyOf_59c91_23 : decode cJ7_copyOf_59c91 23 = .ok (.arraylength, 1) := by decide +kernel
theorem dJ7_copyOf_59c91_24 : decode cJ7_copyOf_59c91 24 = .ok (.iload_n 1, 1) := by decide +kernel
theorem dJ7_copyOf_59c91_25 : decode cJ7_copyOf_59c91 25 = .ok (.invokestatic 304, 3) := by decide +kernel
theorem dJ7_copyOf_59c91_28 : decode cJ7_copyOf_59c91 28 = .ok (.invokestatic 150, 3) := by decide +kernel
theorem dJ7_copyOf_59c91_31 : decode cJ7_copyOf_59c91 31 = .ok (.aload_n 2, 1) := by decide +kernel
theorem dJ7_copyOf_59c91_32 : decode cJ7_copyOf_59c91 32 = .ok (.areturn, 1) := by decide +kernel
end
section
/-! OURS: what the calls answer, in numbers -/
def hbit : Nat → Nat := fun j => ([255, 127, 63, 159, 143, 119, 115, 113, 114] : List Nat).getD j 0
/-- the cost of a movement, whether it crosses -/
def mvN (a b : Nat) : Nat := ((List.range 8).filter (fun h => (hbit a ^^^ hbit b).testBit h)).length
def mv (a b : Nat) : Int := (mvN a b : Int)
def crs (a b : Nat) : Bool := (hbit a &&& (hbit b ^^^ 255)) != 0 && (hbit b &&& (hbit a ^^^ 255)) != 0
def brd (lim : Int) (a b : Nat) : Bool := crs a b && decide (lim < mv a b)
def stp (lim : Int) (a b : Nat) : Int := if a = b ∨ brd lim a b = true then 1000000 else mv a b
theorem mvN_le : ∀ a, a < 9 → ∀ b, b < 9 → mvN a b ≤ 8 := by decide +kernel
theorem mvN_same : ∀ a, a < 9 → mvN a a = 0 := by decide +kernel
theorem crs_same : ∀ a, a < 9 → crs a a = false := by decide +kernel
theorem mv_bd {a b : Nat} (ha : a < 9) (hb : b < 9) : 0 ≤ mv a b ∧ mv a b ≤ 8 := by
  have := mvN_le a ha b hb
  unfold mv
  omega
theorem stp_bd {lim : Int} {a b : Nat} (ha : a < 9) (hb : b < 9) : 0 ≤ stp lim a b ∧ stp lim a b ≤ 1000000 ∧ (stp lim a b < 1000000 → stp lim a b ≤ 8) := by
  have := mv_bd ha hb
  unfold stp
  split <;> omega
/-- how many movements are barred -/
def brdRow (lim : Int) (a : Nat) : Nat → Int
  | 0 => 0
  | n + 1 => brdRow lim a n + (if brd lim a n = true then 1 else 0)
def brdAll (lim : Int) : Nat → Int
  | 0 => 0
  | n + 1 => brdAll lim n + brdRow lim n 9
theorem brdRow_bd (lim : Int) (a : Nat) : ∀ n, 0 ≤ brdRow lim a n ∧ brdRow lim a n ≤ n
  | 0 => ⟨Int.le_refl 0, Int.le_refl 0⟩
  | n + 1 => by
    have := brdRow_bd lim a n
    unfold brdRow
    split <;> omega
theorem brdAll_bd (lim : Int) : ∀ n, 0 ≤ brdAll lim n ∧ brdAll lim n ≤ 9 * n
  | 0 => ⟨Int.le_refl 0, Int.le_refl 0⟩
  | n + 1 => by
    have := brdAll_bd lim n
    have := brdRow_bd lim n 9
    unfold brdAll
    omega
/-- the first option with the least cost of those that may stand beside one: the loop's state behind the options below n -/
def flbU (g : Nat → Int) (a : Nat) : Nat → Nat
  | 0 => 0
  | n + 1 => if n ≠ a ∧ n ≠ 0 ∧ g n < g (flbU g a n) then n else flbU g a n
def flb (g : Nat → Int) (a : Nat) : Nat := flbU g a 9
theorem flbU_lt (g : Nat → Int) (a : Nat) : ∀ n, flbU g a n ≤ n - 1 ∧ (flbU g a n = 0 ∨ flbU g a n ≠ a)
  | 0 => ⟨Nat.le_refl 0, Or.inl rfl⟩
  | n + 1 => by
    have := flbU_lt g a n
    unfold flbU
    split <;> omega
theorem flb_lt (g : Nat → Int) (a : Nat) : flb g a < 9 := by
  have := (flbU_lt g a 9).1
  unfold flb
  omega
theorem flbU_one (g : Nat → Int) (a : Nat) : flbU g a 1 = 0 := by simp [flbU]
theorem flbU_congr {g g' : Nat → Int} {a : Nat} : ∀ n, (∀ j, j < n → g j = g' j) → (0 < n → g 0 = g' 0) → flbU g a n = flbU g' a n
  | 0, _, _ => rfl
  | n + 1, h, h0 => by
    have e := flbU_congr (a := a) n (fun j hj => h j (by omega)) (fun _ => h0 (by omega))
    have hlt := (flbU_lt g' a n).1
    unfold flbU
    rw [e, h n (by omega), h (flbU g' a n) (by omega)]
/-- one more gap -/
def growF (g v : Nat → Int) : Nat → Int := fun o => min 1000000 ((if o = flb g 0 then g (flb g (flb g 0)) else g (flb g 0)) + v o)
def startF : Nat → Int := fun o => if o = 0 then 0 else 1000000
def lessOf (g : Nat → Int) : Int := g (flb g 0)
/-- a grace note's pitch -/
def snd (g x y : Nat) : Nat := if g = 9 then y else if g = 10 then x else g
theorem snd_lt {g x y : Nat} (hg : g ≤ 10) (hx : x < 9) (hy : y < 9) : snd g x y < 9 := by
  unfold snd
  split
  · exact hy
  · split
    · exact hx
    · omega
/-- along an ornament's grace notes: the pitch behind the first i, and what they cost -/
def orF (gr : Nat → Nat) (x y : Nat) : Nat → Nat
  | 0 => x
  | i + 1 => snd (gr i) x y
def orS (lim : Int) (gr : Nat → Nat) (x y : Nat) : Nat → Int
  | 0 => 0
  | i + 1 => orS lim gr x y i + stp lim (orF gr x y i) (snd (gr i) x y)
theorem orF_lt {gr : Nat → Nat} {x y n : Nat} (hg : ∀ j, j < n → gr j ≤ 10) (hx : x < 9) (hy : y < 9) : ∀ i, i ≤ n → orF gr x y i < 9
  | 0, _ => hx
  | i + 1, h => snd_lt (hg i (by omega)) hx hy
theorem orS_bd {lim : Int} {gr : Nat → Nat} {x y n : Nat} (hg : ∀ j, j < n → gr j ≤ 10) (hx : x < 9) (hy : y < 9) : ∀ i, i ≤ n → 0 ≤ orS lim gr x y i ∧ orS lim gr x y i ≤ 1000000 * i ∧ (orS lim gr x y i < 1000000 → orS lim gr x y i ≤ 8 * i)
  | 0, _ => ⟨Int.le_refl 0, Int.le_refl 0, fun _ => Int.le_refl 0⟩
  | i + 1, h => by
    have h1 := orS_bd hg hx hy (lim := lim) i (by omega)
    have h2 := stp_bd (lim := lim) (orF_lt hg hx hy i (by omega)) (snd_lt (hg i (by omega)) hx hy)
    unfold orS
    omega
/-- what an ornament of n grace notes costs between two notes; 1000000 if it doesn't fit -/
def orC (lim : Int) (n : Nat) (gr : Nat → Nat) (x m y : Nat) : Int := if m ≤ n then 1000000 else min 1000000 (orS lim gr x y n + stp lim (orF gr x y n) y)
theorem orC_bd {lim : Int} {n : Nat} {gr : Nat → Nat} {x m y : Nat} (hn : n ≤ 4) (hg : ∀ j, j < n → gr j ≤ 10) (hx : x < 9) (hy : y < 9) : 0 ≤ orC lim n gr x m y ∧ orC lim n gr x m y ≤ 1000000 ∧ (orC lim n gr x m y < 1000000 → orC lim n gr x m y ≤ 40) := by
  have h1 := orS_bd hg hx hy (lim := lim) n (by omega)
  have h2 := stp_bd (lim := lim) (orF_lt hg hx hy n (by omega)) hy
  unfold orC
  split <;> omega
/-- what stands at a gap costs: option 0 is none, o the ornament o - 1 -/
def gapC (lim : Int) (no : Nat) (gn : Nat → Nat) (gg : Nat → Nat → Nat) (x m y : Nat) (wish : Int) (o : Nat) : Int :=
  if o = 0 then (if wish = 0 then stp lim x y else 1000000) else if o - 1 < no then orC lim (gn (o - 1)) (gg (o - 1)) x m y else 1000000
theorem gapC_bd {lim : Int} {no : Nat} {gn : Nat → Nat} {gg : Nat → Nat → Nat} {x m y : Nat} {wish : Int} (hn : ∀ j, j < no → gn j ≤ 4 ∧ ∀ i, i < gn j → gg j i ≤ 10) (hx : x < 9) (hy : y < 9) (o : Nat) : 0 ≤ gapC lim no gn gg x m y wish o ∧ gapC lim no gn gg x m y wish o ≤ 1000000 ∧ (gapC lim no gn gg x m y wish o < 1000000 → gapC lim no gn gg x m y wish o ≤ 40) := by
  unfold gapC
  split
  · split
    · have := stp_bd (lim := lim) hx hy
      omega
    · omega
  · split
    · rename_i h
      exact orC_bd (hn _ h).1 (hn _ h).2 hx hy
    · omega
end
section
/-! OURS: numbers as integers -/
def zI (z : Int) : Int32 := Int32.ofInt z
def bnd (z : Int) : Prop := -2147483648 ≤ z ∧ z < 2147483648
theorem zI_toInt {z : Int} (h : bnd z) : (zI z).toInt = z := Int32.toInt_ofInt_of_le (by have := h.1; omega) (by have := h.2; omega)
theorem zI_add (a b : Int) : zI a + zI b = zI (a + b) := (Int32.ofInt_add a b).symm
theorem zI_sub (a b : Int) : zI a - zI b = zI (a - b) := (Int32.ofInt_sub a b).symm
theorem zI_mul (a b : Int) : zI a * zI b = zI (a * b) := (Int32.ofInt_mul a b).symm
theorem zI_of (x : Int32) : ∃ z, bnd z ∧ x = zI z := ⟨x.toInt, ⟨by have := x.le_toInt; omega, by have := x.toInt_lt; omega⟩, (Int32.ofInt_toInt x).symm⟩
theorem zI_lt {a b : Int} (ha : bnd a) (hb : bnd b) : zI a < zI b ↔ a < b := by rw [Int32.lt_iff_toInt_lt, zI_toInt ha, zI_toInt hb]
theorem zI_le {a b : Int} (ha : bnd a) (hb : bnd b) : zI a ≤ zI b ↔ a ≤ b := by rw [Int32.le_iff_toInt_le, zI_toInt ha, zI_toInt hb]
theorem zI_eq {a b : Int} (ha : bnd a) (hb : bnd b) : zI a = zI b ↔ a = b := ⟨fun h => by have := congrArg Int32.toInt h; rwa [zI_toInt ha, zI_toInt hb] at this, fun h => by rw [h]⟩
theorem zI_0 : zI 0 = 0 := by decide +kernel
theorem bnd_0 : bnd 0 := ⟨by decide, by decide⟩
theorem zI_cl {z : Int} (h : 0 ≤ z) (h2 : z < 2147483648) : (zI z).toNatClampNeg = z.toNat := by
  rw [← Int32.toNat_toInt, zI_toInt ⟨by omega, h2⟩]
theorem zI_nat {n : Nat} (h : n < 2147483648) : (zI (n : Int)).toNatClampNeg = n := by
  rw [zI_cl (by omega) (by omega)]; omega
theorem zI_in {z : Int} {n : Nat} (h : 0 ≤ z) (h2 : z < n) (hn : n < 2147483648) : vp_in (zI z) n := by
  rw [vp_in_iff, zI_toInt ⟨by omega, by omega⟩]; exact ⟨h, h2⟩
theorem zI_nI (n : Nat) : zI (n : Int) = nI n := by
  unfold zI nI
  exact (Int32.ofInt_eq_ofNat (n := n)).trans rfl
/-! OURS: the world as a list of cells by their roles: role r lies at the address ad r and holds c r -/
def wl (ad : Nat → Nat) (N : Nat) (c : Nat → va_E) : va_W := (List.range N).map (fun r => (ad r, c r))
theorem wl_len {ad : Nat → Nat} {N : Nat} {c : Nat → va_E} : (wl ad N c).length = N := by simp [wl]
theorem wl_get {ad : Nat → Nat} {N r : Nat} {c : Nat → va_E} (h : r < N) : (wl ad N c)[r]? = some (ad r, c r) := by simp [wl, h]
theorem wl_get' {ad : Nat → Nat} {N r : Nat} {c : Nat → va_E} {e : va_E} (h : r < N) (he : c r = e) : (wl ad N c)[r]? = some (ad r, e) := by rw [← he]; exact wl_get h
theorem wl_inv {ad : Nat → Nat} {N i : Nat} {c : Nat → va_E} {q : Nat × va_E} (h : (wl ad N c)[i]? = some q) : i < N ∧ q = (ad i, c i) := by
  have hk : i < N := by
    rcases Nat.lt_or_ge i N with h1 | h1
    · exact h1
    · rw [List.getElem?_eq_none (by rw [wl_len]; exact h1)] at h
      cases h
  rw [wl_get hk] at h
  exact ⟨hk, (Option.some.inj h).symm⟩
theorem wl_set {ad : Nat → Nat} {N r : Nat} {c : Nat → va_E} (h : r < N) (e : va_E) : (wl ad N c).set r (ad r, e) = wl ad N (va_up c r e) := by
  apply List.ext_getElem?
  intro i
  by_cases hi : i < N
  · rw [wl_get hi, List.getElem?_set]
    by_cases hr : r = i
    · subst hr
      simp [wl_len, h, va_up]
    · rw [if_neg hr, wl_get hi, va_up_ne _ _ (fun q => hr q.symm)]
  · rw [List.getElem?_eq_none (by rw [List.length_set, wl_len]; omega), List.getElem?_eq_none (by rw [wl_len]; omega)]
theorem wl_push {ad : Nat → Nat} {N q : Nat} {c : Nat → va_E} {e : va_E} : wl ad N c ++ [(q, e)] = wl (va_up ad N q) (N + 1) (va_up c N e) := by
  unfold wl
  rw [List.range_succ, List.map_append]
  congr 1
  · apply List.map_congr_left
    intro r hr
    rw [List.mem_range] at hr
    rw [va_up_ne _ _ (by omega), va_up_ne _ _ (by omega)]
  · simp [va_up]
theorem wl_congr {ad : Nat → Nat} {N : Nat} {c c' : Nat → va_E} (h : ∀ r, r < N → c r = c' r) : wl ad N c = wl ad N c' := by
  unfold wl
  apply List.map_congr_left
  intro r hr
  rw [h r (List.mem_range.mp hr)]
/-- the array classes -/
def tysG (G : Nat → ClassId) : List (ClassId × FieldType) := [(G 0, .int), (G 1, .boolean), (G 2, .array .int), (G 3, .object RX1), (G 4, .object RX2), (G 5, .object RX5), (G 6, .long), (G 7, .double)]
/-- an array of ints (booleans: k = 1) that holds the numbers g below n -/
def isA (kd : Nat) (G : Nat → ClassId) (e : va_E) (n : Nat) (g : Nat → Int) : Prop := ∃ f : Nat → Int32, e = .inl (G kd, n, .inl f) ∧ ∀ j, j < n → f j = zI (g j)
theorem isA.to {kd : Nat} {G : Nat → ClassId} {e : va_E} {n : Nat} {g g' : Nat → Int} (h : isA kd G e n g) (hg : ∀ j, j < n → g j = g' j) : isA kd G e n g' := by
  obtain ⟨f, h1, h2⟩ := h
  exact ⟨f, h1, fun j hj => by rw [h2 j hj, hg j hj]⟩
/-- an array of references -/
def rfs (kd : Nat) (G : Nat → ClassId) (n : Nat) (f : Nat → Option Nat) : va_E := .inl (G kd, n, .inr (.inr (.inr (.inr f))))
def closedN : Nat → Int := fun j => ([255, 127, 63, 159, 143, 119, 115, 113, 114] : List Int).getD j 0
abbrev strs : List (Nat × String) := [(58, "limit out of range"), (67, "grace note out of range"), (75, "the draft is full"), (87, "the draft is empty, or there is no room for it"), (98, "no such ornament"), (113, "the tune is full"), (120, "the tune has no notes"), (134, "no such note"), (169, "no set with a choice"), (175, "no such place"), (180, "pitch out of range"), (182, "length out of range"), (184, "tune out of range"), (186, "no such gap"), (191, "no choice for the tune")]
abbrev xIA : String := "java/lang/IllegalArgumentException"
abbrev xIS : String := "java/lang/IllegalStateException"
abbrev xIO : String := "java/lang/IndexOutOfBoundsException"
abbrev xNS : String := "java/util/NoSuchElementException"
abbrev casts : List (String × String) := [(xIA, xIA), (xIS, xIS), (xIO, xIO), (xNS, xNS), ("[I", "java/lang/Cloneable")]
abbrev ncasts : List (String × String) := [(xIA, xIS), (xIA, xIO), (xIA, xNS), (xIS, xIA), (xIS, xIO), (xIS, xNS), (xIO, xIA), (xIO, xIS), (xIO, xNS), (xNS, xIA), (xNS, xIS), (xNS, xIO)]
theorem va_AOA.moved {t : FieldType} {u U : State} (hvm : u.vm.Alike U.vm) (h : va_AOA t u) : va_AOA t U := over_moved (a := #[]) (a' := #[]) hvm h
abbrev decls : List MethodName := [⟨"java/lang/RuntimeException", "<init>", "(Ljava/lang/String;)V"⟩, ⟨"java/lang/Exception", "<init>", "(Ljava/lang/String;)V"⟩, ⟨"java/lang/Throwable", "<init>", "(Ljava/lang/String;)V"⟩]
/-- what the tables say beyond the good words -/
def ZT (U : State) : Prop := va_Nw (.fieldLinkNest RX0 20 RX7 "CLOSED" "[I" RX7) U ∧ (∀ q ∈ casts, va_Nw (.castable q.1 q.2) U) ∧ (∀ q ∈ ncasts, va_Nc q.1 q.2 U) ∧ va_AO RX1 U ∧ va_AO RX2 U ∧ va_AO RX5 U ∧ va_AOA .int U ∧ ∀ y ∈ decls, va_Nw (.declares y) U
theorem ZT.pass {u U : State} (hW : u.WarmedH U.vm) (h : ZT u) : ZT U := by
  obtain ⟨h1, h2, h3, h4, h5, h6, h7, h8⟩ := h
  have hv := hW.alike
  exact ⟨va_Nw.warmF hW h1, fun q hq => va_Nw.warmC hW (h2 q hq), fun q hq => va_Nc.moved hv (h3 q hq), va_AO.moved hv h4, va_AO.moved hv h5, va_AO.moved hv h6, va_AOA.moved hv h7, fun y hy => va_Nw.warmD hW (h8 y hy)⟩
theorem ZT.same {u U : State} (hv : u.vm = U.vm) (h : ZT u) : ZT U := by
  obtain ⟨h1, h2, h3, h4, h5, h6, h7, h8⟩ := h
  have hal : u.vm.Alike U.vm := by rw [hv]; exact Vm.Alike.refl U.vm
  exact ⟨va_Nw.same rfl hv h1, fun q hq => va_Nw.same rfl hv (h2 q hq), fun q hq => va_Nc.moved hal (h3 q hq), va_AO.moved hal h4, va_AO.moved hal h5, va_AO.moved hal h6, va_AOA.moved hal h7, fun y hy => va_Nw.same rfl hv (h8 y hy)⟩
/-- what nobody writes: the closed holes, two statics of Throwable, the texts -/
def ZZ (A : Nat → Prop) (U : State) (H : Heap) : Prop :=
  (∃ t : Nat, va_Z RX7 "CLOSED" "[I" (.ref t) A U H ∧ va_T .int t 9 (fun j => .int (zI (closedN j))) A U H) ∧
  (vx_Zq Bundle.tN "UNASSIGNED_STACK" Bundle.steD A U H ∧ vx_Zq Bundle.tN "SUPPRESSED_SENTINEL" Bundle.listD A U H) ∧ (∀ q ∈ strs, ∃ a, vk_R RX7 q.1 q.2 a U) ∧ ZT U
theorem ZZ.pass {A B : Nat → Prop} {u U : State} {H H1 : Heap} (hW : u.WarmedH U.vm) (hq : ∀ a : Nat, a < H.size → ¬ A a → H1[a]? = H[a]?) (hAB : ∀ q, B q → A q) (h : ZZ A u H) : ZZ B U H1 := by
  obtain ⟨⟨t, h1, h2⟩, ⟨h3, h4⟩, h5, h6⟩ := h
  have hv := hW.alike
  refine ⟨⟨t, ?_, ?_⟩, ⟨?_, ?_⟩, fun q hq => ?_, h6.pass hW⟩
  · exact va_Z.narrow (va_Z.kept (va_Z.moved hv h1) hq) hAB
  · exact va_T.narrow (va_T.kept (va_T.moved hv h2) hq) hAB
  · exact vx_Zq.narrow (vx_Zq.kept (vx_Zq.moved hv h3) hq) hAB
  · exact vx_Zq.narrow (vx_Zq.kept (vx_Zq.moved hv h4) hq) hAB
  · obtain ⟨a, ha⟩ := h5 q hq
    exact ⟨a, vk_R.warm hW ha⟩
theorem ZZ.calling {A : Nat → Prop} {U : State} {g : JFrame} {mk : MethodId} {a : Array Value} (h : ZZ A U U.heap) : ZZ A (U.calling g mk a) (U.calling g mk a).heap := by
  obtain ⟨⟨t, h1, h2⟩, ⟨h3, h4⟩, h5, h6⟩ := h
  refine ⟨⟨t, ?_, ?_⟩, ⟨?_, ?_⟩, fun q hq => ?_, ZT.same (u := U) rfl h6⟩
  · exact va_Z.moved (u := U) (U := U.calling g mk a) (Vm.Alike.refl U.vm) h1
  · exact va_T.moved (u := U) (U := U.calling g mk a) (Vm.Alike.refl U.vm) h2
  · exact vx_Zq.moved (u := U) (U := U.calling g mk a) (Vm.Alike.refl U.vm) h3
  · exact vx_Zq.moved (u := U) (U := U.calling g mk a) (Vm.Alike.refl U.vm) h4
  · obtain ⟨a, ha⟩ := h5 q hq
    exact ⟨a, vk_R.same (u := U) rfl ha⟩
/-- the world inside a method's body -/
def PW (D : va_G) (G : Nat → ClassId) (A : Nat → Prop) (s : State) (ad : Nat → Nat) (N : Nat) (c : Nat → va_E) (H : Heap) (locs : List Loc) : Prop :=
  va_K D vwCl (tysG G) s ∧ va_P D vwCl (wl ad N c) H ∧ va_D A (wl ad N c) ∧ va_S A s.heap H locs ∧ (∀ q, s.heap.size ≤ q → A q) ∧ ZZ A s s.heap
/-- the world at a method's start, and at its end -/
def wPre (D : va_G) (G : Nat → ClassId) (ad : Nat → Nat) (N : Nat) (c : Nat → va_E) (sz : Nat) : State → Prop := fun U =>
  U.heap.size = sz ∧ va_P D vwCl (wl ad N c) U.heap ∧ va_K D vwCl (tysG G) U ∧ va_D (fun _ => True) (wl ad N c) ∧ ZZ (va_A (wl ad N c) sz) U U.heap
abbrev wX : Type := (Nat → Nat) × Nat × (Nat → va_E)
def wAt (D : va_G) (G : Nat → ClassId) (A : Nat → Prop) (u : wX) (t : State) : Prop :=
  va_P D vwCl (wl u.1 u.2.1 u.2.2) t.heap ∧ va_K D vwCl (tysG G) t ∧ va_D A (wl u.1 u.2.1 u.2.2)
abbrev qI (D : va_G) (G : Nat → ClassId) {S : Type} (ext : S → wX) (post : Int32 → S → Prop) : (Nat → Prop) → Array Value → State → Outcome → State → Prop := fun A => va_Qi post (fun u t => wAt D G A (ext u) t) A
abbrev qF (D : va_G) (G : Nat → ClassId) {S : Type} (ext : S → wX) (post : UInt32 → S → Prop) : (Nat → Prop) → Array Value → State → Outcome → State → Prop := fun A => va_Qf post (fun u t => wAt D G A (ext u) t) A
abbrev qV (D : va_G) (G : Nat → ClassId) {S : Type} (ext : S → wX) (post : S → Prop) : (Nat → Prop) → Array Value → State → Outcome → State → Prop := fun A => va_Qv post (fun u t => wAt D G A (ext u) t) A
abbrev qR (D : va_G) (G : Nat → ClassId) {S : Type} (ext : S → wX) (post : Nat → S → Prop) : (Nat → Prop) → Array Value → State → Outcome → State → Prop := fun A => va_Qr (fun _ => True) (fun u a t => post a u ∧ wAt D G A (ext u) t) A
/-- a method's contract: it returns -/
def MC (l : Launch) (y : MethodName) (ws : List Cond) (rm : Room) (as : List Value) (D : va_G) (G : Nat → ClassId) (ad : Nat → Nat) (N : Nat) (c : Nat → va_E) (Qf : (Nat → Prop) → Array Value → State → Outcome → State → Prop) (mc ms : Nat) : Prop :=
  ∀ sz : Nat, Met l y ws rm (va_Pc as (wPre D G ad N c sz)) (Qf (va_A (wl ad N c) sz)) mc ms (va_A (wl ad N c) sz)
/-- a method's contract: it throws E0 -/
def qX (D : va_G) (G : Nat → ClassId) (E0 : String) {S : Type} (ext : S → wX) (px : S → Prop) (A : Nat → Prop) : String → State → State → Prop := fun E st t => E = E0 ∧ ∃ u : S, px u ∧ wAt D G A (ext u) t ∧ va_F A st t
def MX (l : Launch) (y : MethodName) (ws : List Cond) (rm : Room) (as : List Value) (D : va_G) (G : Nat → ClassId) (ad : Nat → Nat) (N : Nat) (c : Nat → va_E) (E0 : String) {S : Type} (ext : S → wX) (px : S → Prop) (mc ms : Nat) : Prop :=
  ∀ sz : Nat, vx_Met l y ws rm (va_Pc as (wPre D G ad N c sz)) (fun _ _ _ _ => False) (qX D G E0 ext px (va_A (wl ad N c) sz)) mc ms (va_A (wl ad N c) sz)
theorem MC.of {l : Launch} {y : MethodName} {ws ws' : List Cond} {rm : Room} {as : List Value} {D : va_G} {G : Nat → ClassId} {ad : Nat → Nat} {N : Nat} {c : Nat → va_E} {Qf : (Nat → Prop) → Array Value → State → Outcome → State → Prop} {mc ms : Nat} {cc : ByteArray} {maxL : Nat} {ret : Option FieldType}
    (hy : plainName y.cls = true) (hw : ws = Cond.code y cc maxL ret :: ws') (hlen : (lg_sl as).length ≤ maxL)
    (body : ∀ (p : Program) (e : Env) (s : State) (m : MethodId) (below : List Frame) (meth : Method) (k : Code) (A : Nat → Prop), p.tables.exec = Jvm.exec → k.code = cc → meth.sig.returnType = ret → (∀ w ∈ ws, w.before as.toArray s = true) → s.vm.findClass y.cls = some m.cls → k.maxLocals = maxL → meth.locks = false → meth.name = y.name →
      PW D G A s ad N c s.heap [] → ∀ ls : Array Slot, lv_has ls maxL (lv_args 0 as) → W p l e rm s m as.toArray below meth k s.heap [] 0 0 (MQ below (Qf A) as.toArray s mc ms A) (F0 m 0 ls [])) : MC l y ws rm as D G ad N c Qf mc ms := by
  intro sz
  refine Met.ofW (cc := cc) (maxL := maxL) (ret := ret) hy hw ?_
  intro p e s m args below meth k s₁ B hml hv
  obtain ⟨rfl, hsz, hP, hK, hD, hZ⟩ := hv
  subst hsz
  have hl := lv_entry as hlen
  rw [lg_entry_eq]
  generalize (lg_sl as ++ List.replicate (maxL - (lg_sl as).length) Slot.unset).toArray = ls at hl ⊢
  exact body p e s m below meth k _ B.exec B.bytes B.returns (atoms_spec (ws := ws) B.pre) (findClass_of_methodNamed B.named) hml B.notSynchronized (name_of_methodNamed B.named B.method).1 ⟨hK, hP, hD.self, va_S.rf, fun q h => Or.inr h, hZ⟩ ls hl
theorem MX.of {l : Launch} {y : MethodName} {ws ws' : List Cond} {rm : Room} {as : List Value} {D : va_G} {G : Nat → ClassId} {ad : Nat → Nat} {N : Nat} {c : Nat → va_E} {E0 : String} {S : Type} {ext : S → wX} {px : S → Prop} {mc ms : Nat} {cc : ByteArray} {maxL : Nat} {ret : Option FieldType}
    (hy : plainName y.cls = true) (hw : ws = Cond.code y cc maxL ret :: ws') (hlen : (lg_sl as).length ≤ maxL)
    (body : ∀ (p : Program) (e : Env) (s : State) (m : MethodId) (below : List Frame) (meth : Method) (k : Code) (A : Nat → Prop), p.tables.exec = Jvm.exec → k.code = cc → meth.sig.returnType = ret → (∀ w ∈ ws, w.before as.toArray s = true) → s.vm.findClass y.cls = some m.cls → k.maxLocals = maxL → meth.locks = false → (∀ x ∈ k.exceptionTable.toList, False) →
      PW D G A s ad N c s.heap [] → ∀ ls : Array Slot, lv_has ls maxL (lv_args 0 as) → W p l e rm s m as.toArray below meth k s.heap [] 0 0 (vx_MQ below (fun _ _ _ _ => False) (qX D G E0 ext px A) as.toArray s mc ms A) (F0 m 0 ls [])) : MX l y ws rm as D G ad N c E0 ext px mc ms := by
  intro sz
  refine vx_ofW (cc := cc) (maxL := maxL) (ret := ret) hy hw ?_
  intro p e s m args below meth k s₁ B hml hno hv
  obtain ⟨rfl, hsz, hP, hK, hD, hZ⟩ := hv
  subst hsz
  have hl := lv_entry as hlen
  rw [lg_entry_eq]
  generalize (lg_sl as ++ List.replicate (maxL - (lg_sl as).length) Slot.unset).toArray = ls at hl ⊢
  exact body p e s m below meth k _ B.exec B.bytes B.returns (atoms_spec (ws := ws) B.pre) (findClass_of_methodNamed B.named) hml B.notSynchronized hno ⟨hK, hP, hD.self, va_S.rf, fun q h => Or.inr h, hZ⟩ ls hl
theorem wPre.blind {as : List Value} {D : va_G} {G : Nat → ClassId} {ad : Nat → Nat} {N : Nat} {c : Nat → va_E} {sz : Nat} : FrameBlind (va_Pc as (wPre D G ad N c sz)) := by
  intro a U g mk q
  obtain ⟨q0, q1, qP, qK, qD, qZ⟩ := q
  exact ⟨q0, q1, qP, va_K.moved (u := U) (U := U.calling g mk a) (Vm.Alike.refl U.vm) qK, qD, ZZ.calling qZ⟩
theorem PW.sub {D : va_G} {G : Nat → ClassId} {A : Nat → Prop} {s : State} {ad : Nat → Nat} {N : Nat} {c : Nat → va_E} {H : Heap} {locs : List Loc} (w : PW D G A s ad N c H locs) : ∀ q, va_A (wl ad N c) H.size q → A q := by
  obtain ⟨hK, hP, hD, hS, hA, hZ⟩ := w
  rintro q (⟨j, e, h⟩ | h)
  · exact hD.2 j _ h
  · exact hA q (Nat.le_trans hS.1 h)
theorem PW.pre {D : va_G} {G : Nat → ClassId} {A : Nat → Prop} {s U : State} {ad : Nat → Nat} {N : Nat} {c : Nat → va_E} {H : Heap} {locs : List Loc} (w : PW D G A s ad N c H locs) (hU : U.heap = H) (hW : s.WarmedH U.vm) : wPre D G ad N c H.size U := by
  have hsub := w.sub
  obtain ⟨hK, hP, hD, hS, hA, hZ⟩ := w
  exact ⟨by rw [hU], by rw [hU]; exact hP, va_K.moved hW.alike hK, hD.weaken (fun _ _ _ _ => trivial), hZ.pass hW (fun a h1 h2 => by rw [hU]; exact hS.2.1 a h1 h2) hsub⟩
end
section
/-! OURS: instructions over the world by roles -/
section PR
variable {p : Program} {l : Launch} {e : Env} {R : Room} {s : State} {m : MethodId} {args : Array Value} {below : List Frame} {meth : Method} {k : Code} {H : Heap} {locs : List Loc} {cells slots : Nat} {Q : State → Prop}
variable {cc : ByteArray} {pc : Nat} {ls : Array Slot} {rest : List Value} {D : va_G} {G : Nat → ClassId} {A : Nat → Prop} {ad : Nat → Nat} {N : Nat} {c : Nat → va_E}
theorem pz_iadd (hx : p.tables.exec = Jvm.exec) (hb : k.code = cc) {a b : Int} (hdg : decode cc pc = .ok (.iadd, 1)) (kk : W p l e R s m args below meth k H locs cells slots Q (F0 m (pc + 1) ls (.int (zI (a + b)) :: rest))) : W p l e R s m args below meth k H locs cells slots Q (F0 m pc ls (.int (zI b) :: .int (zI a) :: rest)) := lv_iadd hx hb hdg (by rw [zI_add]; exact kk)
theorem pz_isub (hx : p.tables.exec = Jvm.exec) (hb : k.code = cc) {a b : Int} (hdg : decode cc pc = .ok (.isub, 1)) (kk : W p l e R s m args below meth k H locs cells slots Q (F0 m (pc + 1) ls (.int (zI (a - b)) :: rest))) : W p l e R s m args below meth k H locs cells slots Q (F0 m pc ls (.int (zI b) :: .int (zI a) :: rest)) := lv_isub hx hb hdg (by rw [zI_sub]; exact kk)
theorem pz_imul (hx : p.tables.exec = Jvm.exec) (hb : k.code = cc) {a b : Int} (hdg : decode cc pc = .ok (.imul, 1)) (kk : W p l e R s m args below meth k H locs cells slots Q (F0 m (pc + 1) ls (.int (zI (a * b)) :: rest))) : W p l e R s m args below meth k H locs cells slots Q (F0 m pc ls (.int (zI b) :: .int (zI a) :: rest)) := lv_imul hx hb hdg (by rw [zI_mul]; exact kk)
/-- the number on top by another name -/
theorem pz_top {a b : Int} (h : a = b) (kk : W p l e R s m args below meth k H locs cells slots Q (F0 m pc ls (.int (zI b) :: rest))) : W p l e R s m args below meth k H locs cells slots Q (F0 m pc ls (.int (zI a) :: rest)) := by rw [h]; exact kk
theorem pz_topI {x y : Int32} (h : x = y) (kk : W p l e R s m args below meth k H locs cells slots Q (F0 m pc ls (.int y :: rest))) : W p l e R s m args below meth k H locs cells slots Q (F0 m pc ls (.int x :: rest)) := by rw [h]; exact kk
theorem pz_ifeq (hx : p.tables.exec = Jvm.exec) (hb : k.code = cc) {a : Int} {off : Int} {tgt : Nat} (hdg : decode cc pc = .ok (.ifCond .eq off, 3)) (ht : (pc : Int) + off = (tgt : Int)) (ha : bnd a) (kt : a = 0 → W p l e R s m args below meth k H locs cells slots Q (F0 m tgt ls rest)) (kf : ¬ a = 0 → W p l e R s m args below meth k H locs cells slots Q (F0 m (pc + 3) ls rest)) : W p l e R s m args below meth k H locs cells slots Q (F0 m pc ls (.int (zI a) :: rest)) :=
  lv_if_eq hx hb hdg ht (fun h => kt ((zI_eq ha bnd_0).mp (by rw [zI_0]; exact h))) (fun h => kf (fun h2 => h (by rw [h2]; exact zI_0)))
theorem pz_ifne (hx : p.tables.exec = Jvm.exec) (hb : k.code = cc) {a : Int} {off : Int} {tgt : Nat} (hdg : decode cc pc = .ok (.ifCond .ne off, 3)) (ht : (pc : Int) + off = (tgt : Int)) (ha : bnd a) (kt : ¬ a = 0 → W p l e R s m args below meth k H locs cells slots Q (F0 m tgt ls rest)) (kf : a = 0 → W p l e R s m args below meth k H locs cells slots Q (F0 m (pc + 3) ls rest)) : W p l e R s m args below meth k H locs cells slots Q (F0 m pc ls (.int (zI a) :: rest)) :=
  lv_if_ne hx hb hdg ht (fun h => kt (fun h2 => h (by rw [h2]; exact zI_0))) (fun h => kf ((zI_eq ha bnd_0).mp (by rw [zI_0]; exact h)))
theorem pz_iflt (hx : p.tables.exec = Jvm.exec) (hb : k.code = cc) {a : Int} {off : Int} {tgt : Nat} (hdg : decode cc pc = .ok (.ifCond .lt off, 3)) (ht : (pc : Int) + off = (tgt : Int)) (ha : bnd a) (kt : a < 0 → W p l e R s m args below meth k H locs cells slots Q (F0 m tgt ls rest)) (kf : 0 ≤ a → W p l e R s m args below meth k H locs cells slots Q (F0 m (pc + 3) ls rest)) : W p l e R s m args below meth k H locs cells slots Q (F0 m pc ls (.int (zI a) :: rest)) :=
  lv_if_lt hx hb hdg ht (fun h => kt ((zI_lt ha bnd_0).mp (by rw [zI_0]; exact h))) (fun h => kf (Int.not_lt.mp (fun h2 => h (by rw [← zI_0]; exact (zI_lt ha bnd_0).mpr h2))))
theorem pz_ifge (hx : p.tables.exec = Jvm.exec) (hb : k.code = cc) {a : Int} {off : Int} {tgt : Nat} (hdg : decode cc pc = .ok (.ifCond .ge off, 3)) (ht : (pc : Int) + off = (tgt : Int)) (ha : bnd a) (kt : 0 ≤ a → W p l e R s m args below meth k H locs cells slots Q (F0 m tgt ls rest)) (kf : a < 0 → W p l e R s m args below meth k H locs cells slots Q (F0 m (pc + 3) ls rest)) : W p l e R s m args below meth k H locs cells slots Q (F0 m pc ls (.int (zI a) :: rest)) :=
  lv_if_ge hx hb hdg ht (fun h => kt ((zI_le bnd_0 ha).mp (by rw [zI_0]; exact h))) (fun h => kf (Int.not_le.mp (fun h2 => h (by rw [← zI_0]; exact (zI_le bnd_0 ha).mpr h2))))
theorem pz_ifgt (hx : p.tables.exec = Jvm.exec) (hb : k.code = cc) {a : Int} {off : Int} {tgt : Nat} (hdg : decode cc pc = .ok (.ifCond .gt off, 3)) (ht : (pc : Int) + off = (tgt : Int)) (ha : bnd a) (kt : 0 < a → W p l e R s m args below meth k H locs cells slots Q (F0 m tgt ls rest)) (kf : a ≤ 0 → W p l e R s m args below meth k H locs cells slots Q (F0 m (pc + 3) ls rest)) : W p l e R s m args below meth k H locs cells slots Q (F0 m pc ls (.int (zI a) :: rest)) :=
  lv_if_gt hx hb hdg ht (fun h => kt ((zI_lt bnd_0 ha).mp (by rw [zI_0]; exact h))) (fun h => kf (Int.not_lt.mp (fun h2 => h (by rw [← zI_0]; exact (zI_lt bnd_0 ha).mpr h2))))
theorem pz_ifle (hx : p.tables.exec = Jvm.exec) (hb : k.code = cc) {a : Int} {off : Int} {tgt : Nat} (hdg : decode cc pc = .ok (.ifCond .le off, 3)) (ht : (pc : Int) + off = (tgt : Int)) (ha : bnd a) (kt : a ≤ 0 → W p l e R s m args below meth k H locs cells slots Q (F0 m tgt ls rest)) (kf : 0 < a → W p l e R s m args below meth k H locs cells slots Q (F0 m (pc + 3) ls rest)) : W p l e R s m args below meth k H locs cells slots Q (F0 m pc ls (.int (zI a) :: rest)) :=
  lv_if_le hx hb hdg ht (fun h => kt ((zI_le ha bnd_0).mp (by rw [zI_0]; exact h))) (fun h => kf (Int.not_le.mp (fun h2 => h (by rw [← zI_0]; exact (zI_le ha bnd_0).mpr h2))))
theorem pz_icmpeq (hx : p.tables.exec = Jvm.exec) (hb : k.code = cc) {a b : Int} {off : Int} {tgt : Nat} (hdg : decode cc pc = .ok (.if_icmp .eq off, 3)) (ht : (pc : Int) + off = (tgt : Int)) (ha : bnd a) (hb2 : bnd b) (kt : a = b → W p l e R s m args below meth k H locs cells slots Q (F0 m tgt ls rest)) (kf : ¬ a = b → W p l e R s m args below meth k H locs cells slots Q (F0 m (pc + 3) ls rest)) : W p l e R s m args below meth k H locs cells slots Q (F0 m pc ls (.int (zI b) :: .int (zI a) :: rest)) :=
  lv_icmp_eq hx hb hdg ht (fun h => kt ((zI_eq ha hb2).mp h)) (fun h => kf (fun h2 => h ((zI_eq ha hb2).mpr h2)))
theorem pz_icmpne (hx : p.tables.exec = Jvm.exec) (hb : k.code = cc) {a b : Int} {off : Int} {tgt : Nat} (hdg : decode cc pc = .ok (.if_icmp .ne off, 3)) (ht : (pc : Int) + off = (tgt : Int)) (ha : bnd a) (hb2 : bnd b) (kt : ¬ a = b → W p l e R s m args below meth k H locs cells slots Q (F0 m tgt ls rest)) (kf : a = b → W p l e R s m args below meth k H locs cells slots Q (F0 m (pc + 3) ls rest)) : W p l e R s m args below meth k H locs cells slots Q (F0 m pc ls (.int (zI b) :: .int (zI a) :: rest)) :=
  lv_icmp_ne hx hb hdg ht (fun h => kt (fun h2 => h ((zI_eq ha hb2).mpr h2))) (fun h => kf ((zI_eq ha hb2).mp h))
theorem pz_icmplt (hx : p.tables.exec = Jvm.exec) (hb : k.code = cc) {a b : Int} {off : Int} {tgt : Nat} (hdg : decode cc pc = .ok (.if_icmp .lt off, 3)) (ht : (pc : Int) + off = (tgt : Int)) (ha : bnd a) (hb2 : bnd b) (kt : a < b → W p l e R s m args below meth k H locs cells slots Q (F0 m tgt ls rest)) (kf : b ≤ a → W p l e R s m args below meth k H locs cells slots Q (F0 m (pc + 3) ls rest)) : W p l e R s m args below meth k H locs cells slots Q (F0 m pc ls (.int (zI b) :: .int (zI a) :: rest)) :=
  lv_icmp_lt hx hb hdg ht (fun h => kt ((zI_lt ha hb2).mp h)) (fun h => kf (Int.not_lt.mp (fun h2 => h ((zI_lt ha hb2).mpr h2))))
theorem pz_icmpge (hx : p.tables.exec = Jvm.exec) (hb : k.code = cc) {a b : Int} {off : Int} {tgt : Nat} (hdg : decode cc pc = .ok (.if_icmp .ge off, 3)) (ht : (pc : Int) + off = (tgt : Int)) (ha : bnd a) (hb2 : bnd b) (kt : b ≤ a → W p l e R s m args below meth k H locs cells slots Q (F0 m tgt ls rest)) (kf : a < b → W p l e R s m args below meth k H locs cells slots Q (F0 m (pc + 3) ls rest)) : W p l e R s m args below meth k H locs cells slots Q (F0 m pc ls (.int (zI b) :: .int (zI a) :: rest)) :=
  lv_icmp_ge hx hb hdg ht (fun h => kt ((zI_le hb2 ha).mp h)) (fun h => kf (Int.not_le.mp (fun h2 => h ((zI_le hb2 ha).mpr h2))))
theorem pz_icmpgt (hx : p.tables.exec = Jvm.exec) (hb : k.code = cc) {a b : Int} {off : Int} {tgt : Nat} (hdg : decode cc pc = .ok (.if_icmp .gt off, 3)) (ht : (pc : Int) + off = (tgt : Int)) (ha : bnd a) (hb2 : bnd b) (kt : b < a → W p l e R s m args below meth k H locs cells slots Q (F0 m tgt ls rest)) (kf : a ≤ b → W p l e R s m args below meth k H locs cells slots Q (F0 m (pc + 3) ls rest)) : W p l e R s m args below meth k H locs cells slots Q (F0 m pc ls (.int (zI b) :: .int (zI a) :: rest)) :=
  lv_icmp_gt hx hb hdg ht (fun h => kt ((zI_lt hb2 ha).mp h)) (fun h => kf (Int.not_lt.mp (fun h2 => h ((zI_lt hb2 ha).mpr h2))))
theorem pz_icmple (hx : p.tables.exec = Jvm.exec) (hb : k.code = cc) {a b : Int} {off : Int} {tgt : Nat} (hdg : decode cc pc = .ok (.if_icmp .le off, 3)) (ht : (pc : Int) + off = (tgt : Int)) (ha : bnd a) (hb2 : bnd b) (kt : a ≤ b → W p l e R s m args below meth k H locs cells slots Q (F0 m tgt ls rest)) (kf : b < a → W p l e R s m args below meth k H locs cells slots Q (F0 m (pc + 3) ls rest)) : W p l e R s m args below meth k H locs cells slots Q (F0 m pc ls (.int (zI b) :: .int (zI a) :: rest)) :=
  lv_icmp_le hx hb hdg ht (fun h => kt ((zI_le ha hb2).mp h)) (fun h => kf (Int.not_le.mp (fun h2 => h ((zI_le ha hb2).mpr h2))))
theorem pz_iinc (hx : p.tables.exec = Jvm.exec) (hb : k.code = cc) {i nL j : Nat} {n x : Int} {lv lv' : List (Nat × Value)} (hdg : decode cc pc = .ok (.iinc i n, 3)) (h : lv_has ls nL lv) (hk : lv[j]? = some (i, .int (zI x))) (v : Int) (hv : x + n = v) (hn : i < nL) (hl : (i, Value.int (zI v)) :: lv.filter (fun q => !(q.1 == i) && !(q.1 + 1 == i && q.2.category == 2)) = lv')
    (kk : ∀ ls' : Array Slot, lv_has ls' nL lv' → W p l e R s m args below meth k H locs cells slots Q (F0 m (pc + 3) ls' rest)) : W p l e R s m args below meth k H locs cells slots Q (F0 m pc ls rest) :=
  lv_iinc (v := zI v) hx hb hdg h hk (by rw [← hv]; exact zI_add x n) hn hl kk
theorem pz_min {own : String} {index : Nat} (hx : p.tables.exec = Jvm.exec) (hb : k.code = cc) (hml : k.maxLocals = ls.size) (hown : s.vm.findClass own = some m.cls) (hlink : (Cond.methodLink own index Lib.Math.min.name).before args s = true) (hstat : (Cond.static Lib.Math.min.name).before args s = true) (hini : (Cond.initialized "java/lang/Math").before args s = true) (hcode : (Cond.code Lib.Math.min.name Lib.Math.min.code 2 (some .int)).before args s = true)
    (hframes : 1 ≤ R.frames) (hlocals : (rest.map fun v => v.category).sum + 13 ≤ R.locals) (hc : cells ≤ R.cells) (hs : slots ≤ R.slots) {a b : Int} (ha : bnd a) (hb2 : bnd b) (hdg : decode cc pc = .ok (.invokestatic index, 3))
    (kk : W p l e R s m args below meth k H locs cells slots Q (F0 m (pc + 3) ls (.int (zI (min a b)) :: rest))) : W p l e R s m args below meth k H locs cells slots Q (F0 m pc ls (.int (zI b) :: .int (zI a) :: rest)) := by
  refine va_mmin hx hb hml hown hlink hstat hini hcode hframes hlocals hc hs hdg ?_
  have e : (if zI b < zI a then zI b else zI a) = zI (min a b) := by
    by_cases h : b < a
    · rw [if_pos ((zI_lt hb2 ha).mpr h)]
      congr 1
      omega
    · rw [if_neg (fun h2 => h ((zI_lt hb2 ha).mp h2))]
      congr 1
      omega
  rw [e]
  exact kk
/-- getfield -/
theorem pw_get {own ref C : String} {T : u_T} {Nf ci index : Nat} {Ts : List Cond} (hx : p.tables.exec = Jvm.exec) (hb : k.code = cc) (w : PW D G A s ad N c H locs) (hts : ∀ w ∈ Ts, w.before args s = true) (hin : ∀ w ∈ u_ws C T Nf, w ∈ Ts) (hown : s.vm.findClass own = some m.cls) {r : Nat} (hr : r < N) {fs : List Value} (hc : c r = .inr (ci, fs)) (hcl : vwCl[ci]? = some (C, T, Nf)) (i : Nat) (hi : i < Nf) (hlink : (Cond.fieldLink own index ref (T i).2.1 (T i).2.2.1).before args s = true) (hsame : ∀ x, s.fieldFound? (T i).1 (T i).2.1 (T i).2.2.1 = some x → s.fieldFound? ref (T i).2.1 (T i).2.2.1 = some x) {v : Value} (hv : fs[i]? = some v) (hdg : decode cc pc = .ok (.getfield index, 3))
    (kk : W p l e R s m args below meth k H locs cells slots Q (F0 m (pc + 3) ls (v :: rest))) : W p l e R s m args below meth k H locs cells slots Q (F0 m pc ls (.ref (ad r) :: rest)) :=
  va_get (D := D) hx hb hts hin hown w.1 w.2.1 r (wl_get' hr hc) hcl i hi hlink hsame hv hdg kk
theorem PW.upd {r : Nat} {e' : va_E} {H1 : Heap} {locs1 : List Loc} (w : PW D G A s ad N c H locs) (hr : r < N) (hP : va_P D vwCl ((wl ad N c).set r (ad r, e')) H1) (hD : va_D A ((wl ad N c).set r (ad r, e'))) (hS : va_S A s.heap H1 locs1) : PW D G A s ad N (va_up c r e') H1 locs1 := by
  rw [wl_set hr] at hP hD
  exact ⟨w.1, hP, hD, hS, w.2.2.2.2.1, w.2.2.2.2.2⟩
/-- putfield -/
theorem pw_put {own ref C : String} {T : u_T} {Nf ci index : Nat} {Ts : List Cond} (hx : p.tables.exec = Jvm.exec) (hb : k.code = cc) (w : PW D G A s ad N c H locs) (hts : ∀ w ∈ Ts, w.before args s = true) (hin : ∀ w ∈ u_ws C T Nf, w ∈ Ts) (ty0 : Nat → FieldType) (hty : ∀ k, k < Nf → parseFieldDescriptor (T k).2.2.1 = some (ty0 k)) (hnm : ∀ a, a < Nf → ∀ b, b < Nf → a ≠ b → (T a).2.1 ≠ (T b).2.1) (hown : s.vm.findClass own = some m.cls) {r : Nat} (hr : r < N) {fs : List Value} (hc : c r = .inr (ci, fs)) (hcl : vwCl[ci]? = some (C, T, Nf)) (i : Nat) (hi : i < Nf) (hlink : (Cond.fieldLink own index ref (T i).2.1 (T i).2.2.1).before args s = true) (hsame : ∀ x, s.fieldFound? (T i).1 (T i).2.1 (T i).2.2.1 = some x → s.fieldFound? ref (T i).2.1 (T i).2.2.1 = some x) (hfin : (T i).2.2.2 = false) {ty : FieldType} {v : Value} (hd : parseFieldDescriptor (T i).2.2.1 = some ty) (hn : narrow ty v = v) (hfit : fits ty v = true) (hl : i < fs.length) (hdg : decode cc pc = .ok (.putfield index, 3))
    (kk : ∀ (H1 : Heap) (locs1 : List Loc), PW D G A s ad N (va_up c r (.inr (ci, fs.set i v))) H1 locs1 → W p l e R s m args below meth k H1 locs1 cells slots Q (F0 m (pc + 3) ls rest)) : W p l e R s m args below meth k H locs cells slots Q (F0 m pc ls (v :: .ref (ad r) :: rest)) :=
  va_put (D := D) hx hb hts hin ty0 hty hnm hown w.1 w.2.1 w.2.2.1 w.2.2.2.1 r (wl_get' hr hc) hcl i hi hlink hsame hfin hd hn hfit hl hdg (fun H1 locs1 hP hD hS => kk H1 locs1 (w.upd hr hP hD hS))
/-- putfield of a final field, in the constructor -/
theorem pw_putF {own ref C : String} {T : u_T} {Nf ci index : Nat} {Ts : List Cond} (hx : p.tables.exec = Jvm.exec) (hb : k.code = cc) (w : PW D G A s ad N c H locs) (hts : ∀ w ∈ Ts, w.before args s = true) (hin : ∀ w ∈ u_ws C T Nf, w ∈ Ts) (ty0 : Nat → FieldType) (hty : ∀ k, k < Nf → parseFieldDescriptor (T k).2.2.1 = some (ty0 k)) (hnm : ∀ a, a < Nf → ∀ b, b < Nf → a ≠ b → (T a).2.1 ≠ (T b).2.1) (hown : s.vm.findClass own = some m.cls) {r : Nat} (hr : r < N) {fs : List Value} (hc : c r = .inr (ci, fs)) (hcl : vwCl[ci]? = some (C, T, Nf)) (i : Nat) (hi : i < Nf) (hlink : (Cond.fieldLink own index ref (T i).2.1 (T i).2.2.1).before args s = true) (hsame : ∀ x, s.fieldFound? (T i).1 (T i).2.1 (T i).2.2.1 = some x → s.fieldFound? ref (T i).2.1 (T i).2.2.1 = some x) (hfin : (T i).2.2.2 = true) (hin2 : meth.name = "<init>") (hdecl : (T i).1 = own) {ty : FieldType} {v : Value} (hd : parseFieldDescriptor (T i).2.2.1 = some ty) (hn : narrow ty v = v) (hfit : fits ty v = true) (hl : i < fs.length) (hdg : decode cc pc = .ok (.putfield index, 3))
    (kk : ∀ (H1 : Heap) (locs1 : List Loc), PW D G A s ad N (va_up c r (.inr (ci, fs.set i v))) H1 locs1 → W p l e R s m args below meth k H1 locs1 cells slots Q (F0 m (pc + 3) ls rest)) : W p l e R s m args below meth k H locs cells slots Q (F0 m pc ls (v :: .ref (ad r) :: rest)) :=
  va_putF (D := D) hx hb hts hin ty0 hty hnm hown w.1 w.2.1 w.2.2.1 w.2.2.2.1 r (wl_get' hr hc) hcl i hi hlink hsame hfin hin2 hdecl hd hn hfit hl hdg (fun H1 locs1 hP hD hS => kk H1 locs1 (w.upd hr hP hD hS))
/-- arraylength -/
theorem pw_len (hx : p.tables.exec = Jvm.exec) (hb : k.code = cc) (w : PW D G A s ad N c H locs) {r : Nat} (hr : r < N) (kd : Nat) {ty : FieldType} (ht : (tysG G)[kd]? = some (G kd, ty)) {n : Nat} {g : Nat → Int} (hc : isA kd G (c r) n g) (hdg : decode cc pc = .ok (.arraylength, 1))
    (kk : W p l e R s m args below meth k H locs cells slots Q (F0 m (pc + 1) ls (.int (zI (n : Int)) :: rest))) : W p l e R s m args below meth k H locs cells slots Q (F0 m pc ls (.ref (ad r) :: rest)) := by
  obtain ⟨f, h1, h2⟩ := hc
  exact va_alen (D := D) hx hb w.1 w.2.1 r kd (wl_get' hr h1) ht (v := zI (n : Int)) (zI_nI n).symm hdg kk
/-- iaload -/
theorem pw_iald (hx : p.tables.exec = Jvm.exec) (hb : k.code = cc) (w : PW D G A s ad N c H locs) {r : Nat} (hr : r < N) {n : Nat} {g : Nat → Int} (hc : isA 0 G (c r) n g) {z : Int} {j : Nat} (hz : z = (j : Int)) (hj : j < n) (hn : n < 2147483648) (hdg : decode cc pc = .ok (.iaload, 1))
    (kk : W p l e R s m args below meth k H locs cells slots Q (F0 m (pc + 1) ls (.int (zI (g j)) :: rest))) : W p l e R s m args below meth k H locs cells slots Q (F0 m pc ls (.int (zI z) :: .ref (ad r) :: rest)) := by
  subst hz
  obtain ⟨f, h1, h2⟩ := hc
  refine va_iald (D := D) hx hb w.1 w.2.1 r 0 (wl_get' hr h1) rfl (zI_in (by omega) (by omega) hn) hdg ?_
  rw [zI_nat (by omega), h2 j hj]
  exact kk
/-- baload of booleans -/
theorem pw_zald (hx : p.tables.exec = Jvm.exec) (hb : k.code = cc) (w : PW D G A s ad N c H locs) {r : Nat} (hr : r < N) {n : Nat} {g : Nat → Int} (hc : isA 1 G (c r) n g) {z : Int} {j : Nat} (hz : z = (j : Int)) (hj : j < n) (hn : n < 2147483648) (hdg : decode cc pc = .ok (.baload, 1))
    (kk : W p l e R s m args below meth k H locs cells slots Q (F0 m (pc + 1) ls (.int (zI (g j)) :: rest))) : W p l e R s m args below meth k H locs cells slots Q (F0 m pc ls (.int (zI z) :: .ref (ad r) :: rest)) := by
  subst hz
  obtain ⟨f, h1, h2⟩ := hc
  refine va_zald (D := D) hx hb w.1 w.2.1 r 1 (wl_get' hr h1) rfl (zI_in (by omega) (by omega) hn) hdg ?_
  rw [zI_nat (by omega), h2 j hj]
  exact kk
/-- what an array holds when v was put at j -/
def upI (g : Nat → Int) (j : Nat) (v : Int) : Nat → Int := fun i => if i = j then v else g i
theorem upI_self (g : Nat → Int) (j : Nat) (v : Int) : upI g j v j = v := if_pos rfl
theorem upI_ne (g : Nat → Int) {j i : Nat} (v : Int) (h : i ≠ j) : upI g j v i = g i := if_neg h
/-- iastore -/
theorem pw_iast (hx : p.tables.exec = Jvm.exec) (hb : k.code = cc) (w : PW D G A s ad N c H locs) {r : Nat} (hr : r < N) {n : Nat} {g : Nat → Int} (hc : isA 0 G (c r) n g) {z v : Int} {j : Nat} (hz : z = (j : Int)) (hj : j < n) (hn : n < 2147483648) (hdg : decode cc pc = .ok (.iastore, 1))
    (kk : ∀ (H1 : Heap) (locs1 : List Loc) (e1 : va_E), isA 0 G e1 n (upI g j v) → PW D G A s ad N (va_up c r e1) H1 locs1 → W p l e R s m args below meth k H1 locs1 cells slots Q (F0 m (pc + 1) ls rest)) : W p l e R s m args below meth k H locs cells slots Q (F0 m pc ls (.int (zI v) :: .int (zI z) :: .ref (ad r) :: rest)) := by
  subst hz
  obtain ⟨f, h1, h2⟩ := hc
  refine va_iast (D := D) hx hb w.1 w.2.1 w.2.2.1 w.2.2.2.1 r 0 (wl_get' hr h1) rfl (zI_in (by omega) (by omega) hn) hdg (fun H1 locs1 hP hD hS => ?_)
  refine kk H1 locs1 _ ⟨_, rfl, fun i hi => ?_⟩ (w.upd hr hP hD hS)
  rw [zI_nat (by omega)]
  unfold upd upI
  by_cases h : i = j
  · simp [h]
  · simp [h, h2 i hi]
theorem pz_nz0 : vp_nar .boolean (zI 0) = zI 0 := by decide +kernel
theorem pz_nz1 : vp_nar .boolean (zI 1) = zI 1 := by decide +kernel
/-- bastore of booleans -/
theorem pw_zast (hx : p.tables.exec = Jvm.exec) (hb : k.code = cc) (w : PW D G A s ad N c H locs) {r : Nat} (hr : r < N) {n : Nat} {g : Nat → Int} (hc : isA 1 G (c r) n g) {z v : Int} {j : Nat} (hz : z = (j : Int)) (hv : v = 0 ∨ v = 1) (hj : j < n) (hn : n < 2147483648) (hdg : decode cc pc = .ok (.bastore, 1))
    (kk : ∀ (H1 : Heap) (locs1 : List Loc) (e1 : va_E), isA 1 G e1 n (upI g j v) → PW D G A s ad N (va_up c r e1) H1 locs1 → W p l e R s m args below meth k H1 locs1 cells slots Q (F0 m (pc + 1) ls rest)) : W p l e R s m args below meth k H locs cells slots Q (F0 m pc ls (.int (zI v) :: .int (zI z) :: .ref (ad r) :: rest)) := by
  subst hz
  obtain ⟨f, h1, h2⟩ := hc
  refine va_zast (D := D) hx hb w.1 w.2.1 w.2.2.1 w.2.2.2.1 r 1 (wl_get' hr h1) rfl (zI_in (by omega) (by omega) hn) hdg (fun H1 locs1 hP hD hS => ?_)
  refine kk H1 locs1 _ ⟨_, rfl, fun i hi => ?_⟩ (w.upd hr hP hD hS)
  rw [zI_nat (by omega)]
  have hnv : vp_nar .boolean (zI v) = zI v := by
    rcases hv with h | h
    · rw [h]; exact pz_nz0
    · rw [h]; exact pz_nz1
  rw [hnv]
  unfold upd upI
  by_cases h : i = j
  · simp [h]
  · simp [h, h2 i hi]
/-- aaload of an array of objects or rows -/
theorem pw_aald (hx : p.tables.exec = Jvm.exec) (hb : k.code = cc) (w : PW D G A s ad N c H locs) {r : Nat} (hr : r < N) {kd n : Nat} {f : Nat → Option Nat} (hc : c r = rfs kd G n f) {ty : FieldType} (ht : (tysG G)[kd]? = some (G kd, ty)) (hty : ty.isReference = true) {z : Int} {j : Nat} (hz : z = (j : Int)) (hj : j < n) (hn : n < 2147483648) (hdg : decode cc pc = .ok (.aaload, 1))
    (kk : W p l e R s m args below meth k H locs cells slots Q (F0 m (pc + 1) ls (va_rf (f j) :: rest))) : W p l e R s m args below meth k H locs cells slots Q (F0 m pc ls (.int (zI z) :: .ref (ad r) :: rest)) := by
  subst hz
  obtain ⟨hK, hP, hD, hS, hA, hZ⟩ := w
  have hin : vp_in (zI (j : Int)) n := zI_in (by omega) (by omega) hn
  have hcl : (zI (j : Int)).toNatClampNeg = j := zI_nat (by omega)
  refine W.aald (v := va_rf (f j)) (ty := ty) hx hb (hP r _ (wl_get' hr hc)) ((hK.2 kd _ ht).1 n (fun j => va_rf (f j))) hty (fun q => by cases q) (by show ¬ (zI (j : Int) < 0 ∨ (arrV _ _ _).slots.size ≤ _); rw [arrV_size]; exact hin) (by show (arrV _ _ _).slots[_]? = _; rw [hcl, arrV_read _ _ hj]) rfl rfl hdg kk
/-- aastore of an object -/
theorem pw_aast (hx : p.tables.exec = Jvm.exec) (hb : k.code = cc) (w : PW D G A s ad N c H locs) {r q ci : Nat} (hr : r < N) (hq : q < N) {kd n : Nat} {f : Nat → Option Nat} (hc : c r = rfs kd G n f) {cr : vw_C} {vs : List Value} (hcq : c q = .inr (ci, vs)) (hcl : vwCl[ci]? = some cr) (ht : (tysG G)[kd]? = some (G kd, .object cr.1)) {z : Int} {j : Nat} (hz : z = (j : Int)) (hj : j < n) (hn : n < 2147483648) (hdg : decode cc pc = .ok (.aastore, 1))
    (kk : ∀ (H1 : Heap) (locs1 : List Loc), PW D G A s ad N (va_up c r (rfs kd G n (va_up f j (some (ad q))))) H1 locs1 → W p l e R s m args below meth k H1 locs1 cells slots Q (F0 m (pc + 1) ls rest)) : W p l e R s m args below meth k H locs cells slots Q (F0 m pc ls (.ref (ad q) :: .int (zI z) :: .ref (ad r) :: rest)) := by
  subst hz
  refine va_astq (D := D) hx hb w.1 w.2.1 w.2.2.1 w.2.2.2.1 r kd q ci (wl_get' hr hc) ht (wl_get' hq hcq) hcl (zI_in (by omega) (by omega) hn) hdg (fun H1 locs1 hP hD hS => ?_)
  rw [zI_nat (by omega)] at hP hD
  exact kk H1 locs1 (w.upd hr hP hD hS)
/-- the statics' array of closed holes -/
theorem pw_closed {own : String} {index : Nat} (hx : p.tables.exec = Jvm.exec) (hb : k.code = cc) (w : PW D G A s ad N c H locs) (hown : s.vm.findClass own = some m.cls) (ho : own = RX0 ∧ index = 20) (hdg : decode cc pc = .ok (.getstatic index, 3))
    (kk : ∀ t : Nat, (∀ (pc : Nat) (ls : Array Slot) (rest : List Value) (z : Int) (j : Nat), z = (j : Int) → j < 9 → decode cc pc = .ok (.iaload, 1) → W p l e R s m args below meth k H locs cells slots Q (F0 m (pc + 1) ls (.int (zI (closedN j)) :: rest)) → W p l e R s m args below meth k H locs cells slots Q (F0 m pc ls (.int (zI z) :: .ref t :: rest))) → W p l e R s m args below meth k H locs cells slots Q (F0 m (pc + 3) ls (.ref t :: rest))) : W p l e R s m args below meth k H locs cells slots Q (F0 m pc ls rest) := by
  obtain ⟨rfl, rfl⟩ := ho
  obtain ⟨hK, hP, hD, hS, hA, ⟨⟨t, hZ, hT⟩, -, -, hN, -⟩⟩ := w
  have K := kk t (fun pc ls rest z j hz hj hdg kk => by
    subst hz
    refine va_ti hx hb hT hS (i := zI (j : Int)) (zI_in (by omega) (by omega) (by decide)) (v := .int (zI (closedN j))) ?_ hdg kk
    rw [zI_nat (by omega)])
  exact va_getsN hx hb hZ hS hown (va_Nw.use rfl hN) (fun _ h9 => h9) hdg K
end PR
end
section
/-! OURS: calls, returns, throws over the world by roles -/
section PC
variable {p : Program} {l : Launch} {e : Env} {R : Room} {s : State} {m : MethodId} {args : Array Value} {below : List Frame} {meth : Method} {k : Code} {H : Heap} {locs : List Loc} {cells slots : Nat} {Q : State → Prop}
variable {cc : ByteArray} {pc : Nat} {ls : Array Slot} {rest st0 : List Value} {D : va_G} {G : Nat → ClassId} {A : Nat → Prop} {ad : Nat → Nat} {N : Nat} {c : Nat → va_E}
theorem PW.back {x : wX} {t : State} {H1 : Heap} {locs1 : List Loc} (w : PW D G A s ad N c H locs) (ht : t.heap = H1) (hvm : s.vm.Alike t.vm) (hB : wAt D G (va_A (wl ad N c) H.size) x t) (hS : va_S A s.heap H1 locs1) : PW D G A s x.1 x.2.1 x.2.2 H1 locs1 := by
  have hsub := w.sub
  obtain ⟨b1, b2, b3⟩ := hB
  rw [ht] at b1
  exact ⟨va_K.moved hvm.symm b2, b1, b3.weaken (fun _ q _ h => hsub q.1 h), hS, w.2.2.2.2.1, w.2.2.2.2.2⟩
theorem pw_runV {own C : String} {index maxL mc ms n nL : Nat} {y : MethodName} {bytes : ByteArray} {ret : Option FieldType} {wsY Ts : List Cond} {rmY : Room} {Qf : (Nat → Prop) → Array Value → State → Outcome → State → Prop} {As : List Value} (w : PW D G A s ad N c H locs) (S : CallFix p m k cc nL s args Ts own) {r ci : Nat} {fs : List Value} {T : u_T} {Nf : Nat} (hM : MC l y wsY rmY (.ref (ad r) :: As) D G ad N c Qf mc ms) (cw : CallW R s args own C index y bytes maxL ret wsY rmY mc ms n) (hr : r < N) (hc : c r = .inr (ci, fs)) (hcl : vwCl[ci]? = some (C, T, Nf)) (hn : As.length = n) (hsize : ls.size = nL) (hst : st0 = As.reverse ++ .ref (ad r) :: rest) (hW : 2 * (F0 m pc ls st0).monitorRoom + (rest.map fun v => v.category).sum ≤ 8) (hdg : decode cc pc = .ok (.invokevirtual index, 3)) (hf : cells + mc ≤ R.cells ∧ slots + ms ≤ R.slots) :
    va_Run p l e R s m args below meth k H locs cells slots mc ms (F0 m pc ls st0) rest (Qf (va_A (wl ad N c) H.size) (Value.ref (ad r) :: As).toArray) (va_A (wl ad N c) H.size) :=
  va_runV S (hM H.size) cw ⟨wPre.blind, va_recv w.1 w.2.1 hcl (wl_get' hr hc), fun U hU hW => ⟨rfl, w.pre hU hW⟩⟩ rfl hn hsize hst hW hdg hf
theorem pw_runS {own : String} {index maxL mc ms n nL : Nat} {y : MethodName} {bytes : ByteArray} {ret : Option FieldType} {wsY Ts : List Cond} {rmY : Room} {Qf : (Nat → Prop) → Array Value → State → Outcome → State → Prop} {As : List Value} (w : PW D G A s ad N c H locs) (S : CallFix p m k cc nL s args Ts own) (hM : MC l y wsY rmY As D G ad N c Qf mc ms) (cw : CallB R s args own index y bytes maxL ret wsY rmY mc ms n ∧ (Cond.static y).before args s = true) (hn : As.length = n) (hsize : ls.size = nL) (hst : st0 = As.reverse ++ rest) (hW : 2 * (F0 m pc ls st0).monitorRoom + (rest.map fun v => v.category).sum ≤ 8) (hdg : decode cc pc = .ok (.invokestatic index, 3)) (hf : cells + mc ≤ R.cells ∧ slots + ms ≤ R.slots) :
    va_Run p l e R s m args below meth k H locs cells slots mc ms (F0 m pc ls st0) rest (Qf (va_A (wl ad N c) H.size) As.toArray) (va_A (wl ad N c) H.size) :=
  va_runS S (hM H.size) cw ⟨wPre.blind, fun U hU hW => ⟨rfl, w.pre hU hW⟩⟩ rfl hn hsize hst hW hdg hf
theorem pw_runSW {own : String} {index maxL mc ms n nL : Nat} {y : MethodName} {bytes : ByteArray} {ret : Option FieldType} {hh : List (Nat × Nat × Nat × Nat)} {wsY Ts : List Cond} {rmY : Room} {Qf : (Nat → Prop) → Array Value → State → Outcome → State → Prop} {As : List Value} (w : PW D G A s ad N c H locs) (S : CallFix p m k cc nL s args Ts own) (hM : MC l y wsY rmY As D G ad N c Qf mc ms) (cw : vx_CSW R s args own index y bytes maxL ret hh wsY rmY mc ms n) (hn : As.length = n) (hsize : ls.size = nL) (hst : st0 = As.reverse ++ rest) (hW : 2 * (F0 m pc ls st0).monitorRoom + (rest.map fun v => v.category).sum ≤ 8) (hdg : decode cc pc = .ok (.invokestatic index, 3)) (hf : cells + mc ≤ R.cells ∧ slots + ms ≤ R.slots) :
    va_Run p l e R s m args below meth k H locs cells slots mc ms (F0 m pc ls st0) rest (Qf (va_A (wl ad N c) H.size) As.toArray) (va_A (wl ad N c) H.size) :=
  vx_runSW S (hM H.size) cw ⟨wPre.blind, fun U hU hW => ⟨rfl, w.pre hU hW⟩⟩ rfl hn hsize hst hW hdg hf
theorem pw_runI {own : String} {index maxL mc ms n nL : Nat} {y : MethodName} {bytes : ByteArray} {wsY Ts : List Cond} {rmY : Room} {Qf : (Nat → Prop) → Array Value → State → Outcome → State → Prop} {As : List Value} {b : Nat} (w : PW D G A s ad N c H locs) (S : CallFix p m k cc nL s args Ts own) (hM : MC l y wsY rmY (.ref b :: As) D G ad N c Qf mc ms) (cw : CallB R s args own index y bytes maxL none wsY rmY mc ms n ∧ y.name = "<init>" ∧ (Cond.instanceMethod y).before args s = true) (hn : As.length = n) (hsize : ls.size = nL) (hst : st0 = As.reverse ++ .ref b :: rest) (hW : 2 * (F0 m pc ls st0).monitorRoom + (rest.map fun v => v.category).sum ≤ 8) (hdg : decode cc pc = .ok (.invokespecial index, 3)) (hf : cells + mc ≤ R.cells ∧ slots + ms ≤ R.slots) :
    va_Run p l e R s m args below meth k H locs cells slots mc ms (F0 m pc ls st0) rest (Qf (va_A (wl ad N c) H.size) (Value.ref b :: As).toArray) (va_A (wl ad N c) H.size) :=
  va_runI S (hM H.size) cw ⟨wPre.blind, fun U hU hW => ⟨rfl, w.pre hU hW⟩⟩ rfl hn hsize hst hW hdg hf
/-- behind a call that answers an int -/
theorem pw_ci {S : Type} {ext : S → wX} {post : Int32 → S → Prop} {mc ms : Nat} {a : Array Value} (w : PW D G A s ad N c H locs) (hr : va_Run p l e R s m args below meth k H locs cells slots mc ms (F0 m pc ls st0) rest (qI D G ext post (va_A (wl ad N c) H.size) a) (va_A (wl ad N c) H.size))
    (kk : ∀ (r : Int32) (u : S) (H1 : Heap) (locs1 : List Loc), post r u → PW D G A s (ext u).1 (ext u).2.1 (ext u).2.2 H1 locs1 → W p l e R s m args below meth k H1 locs1 (cells + mc) (slots + ms) Q (F0 m (pc + 3) ls (.int r :: rest))) : W p l e R s m args below meth k H locs cells slots Q (F0 m pc ls st0) :=
  va_calli hr w.2.2.2.1 (fun q _ h => w.sub q h) w.sub (fun r u t H1 locs1 ht hvm hw hB _ _ hS => kk r u H1 locs1 hw (w.back ht hvm hB hS))
theorem pw_cf {S : Type} {ext : S → wX} {post : UInt32 → S → Prop} {mc ms : Nat} {a : Array Value} (w : PW D G A s ad N c H locs) (hr : va_Run p l e R s m args below meth k H locs cells slots mc ms (F0 m pc ls st0) rest (qF D G ext post (va_A (wl ad N c) H.size) a) (va_A (wl ad N c) H.size))
    (kk : ∀ (r : UInt32) (u : S) (H1 : Heap) (locs1 : List Loc), post r u → PW D G A s (ext u).1 (ext u).2.1 (ext u).2.2 H1 locs1 → W p l e R s m args below meth k H1 locs1 (cells + mc) (slots + ms) Q (F0 m (pc + 3) ls (.float r :: rest))) : W p l e R s m args below meth k H locs cells slots Q (F0 m pc ls st0) :=
  va_callf hr w.2.2.2.1 (fun q _ h => w.sub q h) w.sub (fun r u t H1 locs1 ht hvm hw hB _ _ hS => kk r u H1 locs1 hw (w.back ht hvm hB hS))
theorem pw_cv {S : Type} {ext : S → wX} {post : S → Prop} {mc ms : Nat} {a : Array Value} (w : PW D G A s ad N c H locs) (hr : va_Run p l e R s m args below meth k H locs cells slots mc ms (F0 m pc ls st0) rest (qV D G ext post (va_A (wl ad N c) H.size) a) (va_A (wl ad N c) H.size))
    (kk : ∀ (u : S) (H1 : Heap) (locs1 : List Loc), post u → PW D G A s (ext u).1 (ext u).2.1 (ext u).2.2 H1 locs1 → W p l e R s m args below meth k H1 locs1 (cells + mc) (slots + ms) Q (F0 m (pc + 3) ls rest)) : W p l e R s m args below meth k H locs cells slots Q (F0 m pc ls st0) :=
  va_callv hr w.2.2.2.1 (fun q _ h => w.sub q h) w.sub (fun u t H1 locs1 ht hvm hw hB _ _ hS => kk u H1 locs1 hw (w.back ht hvm hB hS))
theorem pw_cr {S : Type} {ext : S → wX} {post : Nat → S → Prop} {mc ms : Nat} {a : Array Value} (w : PW D G A s ad N c H locs) (hr : va_Run p l e R s m args below meth k H locs cells slots mc ms (F0 m pc ls st0) rest (qR D G ext post (va_A (wl ad N c) H.size) a) (va_A (wl ad N c) H.size))
    (kk : ∀ (ra : Nat) (u : S) (H1 : Heap) (locs1 : List Loc), post ra u → PW D G A s (ext u).1 (ext u).2.1 (ext u).2.2 H1 locs1 → W p l e R s m args below meth k H1 locs1 (cells + mc) (slots + ms) Q (F0 m (pc + 3) ls (.ref ra :: rest))) : W p l e R s m args below meth k H locs cells slots Q (F0 m pc ls st0) :=
  va_callr hr w.2.2.2.1 (fun q _ h => w.sub q h) w.sub (fun u ra t H1 locs1 ht hvm _ hB _ _ hS => kk ra u H1 locs1 hB.1 (w.back ht hvm hB.2 hS))
/-- calls of methods that throw -/
theorem pw_runVX {own C : String} {index maxL mc ms n nL : Nat} {y : MethodName} {bytes : ByteArray} {ret : Option FieldType} {wsY Ts : List Cond} {rmY : Room} {E0 : String} {S0 : Type} {ext : S0 → wX} {px : S0 → Prop} {As : List Value} (w : PW D G A s ad N c H locs) (S : CallFix p m k cc nL s args Ts own) {r ci : Nat} {fs : List Value} {T : u_T} {Nf : Nat} (hM : MX l y wsY rmY (.ref (ad r) :: As) D G ad N c E0 ext px mc ms) (cw : CallW R s args own C index y bytes maxL ret wsY rmY mc ms n) (hr : r < N) (hc : c r = .inr (ci, fs)) (hcl : vwCl[ci]? = some (C, T, Nf)) (hn : As.length = n) (hsize : ls.size = nL) (hst : st0 = As.reverse ++ .ref (ad r) :: rest) (hW : 2 * (F0 m pc ls st0).monitorRoom + (rest.map fun v => v.category).sum ≤ 8) (hdg : decode cc pc = .ok (.invokevirtual index, 3)) (hf : cells + mc ≤ R.cells ∧ slots + ms ≤ R.slots) :
    vx_Run p l e R s m args below meth k H locs cells slots mc ms (F0 m pc ls st0) rest (fun _ _ _ => False) (qX D G E0 ext px (va_A (wl ad N c) H.size)) (va_A (wl ad N c) H.size) :=
  vx_runV S (hM H.size) cw ⟨wPre.blind, va_recv w.1 w.2.1 hcl (wl_get' hr hc), fun U hU hW => ⟨rfl, w.pre hU hW⟩⟩ rfl hn hsize hst hW hdg hf
theorem pw_runSX {own : String} {index maxL mc ms n nL : Nat} {y : MethodName} {bytes : ByteArray} {ret : Option FieldType} {wsY Ts : List Cond} {rmY : Room} {E0 : String} {S0 : Type} {ext : S0 → wX} {px : S0 → Prop} {As : List Value} (w : PW D G A s ad N c H locs) (S : CallFix p m k cc nL s args Ts own) (hM : MX l y wsY rmY As D G ad N c E0 ext px mc ms) (cw : CallB R s args own index y bytes maxL ret wsY rmY mc ms n ∧ (Cond.static y).before args s = true) (hn : As.length = n) (hsize : ls.size = nL) (hst : st0 = As.reverse ++ rest) (hW : 2 * (F0 m pc ls st0).monitorRoom + (rest.map fun v => v.category).sum ≤ 8) (hdg : decode cc pc = .ok (.invokestatic index, 3)) (hf : cells + mc ≤ R.cells ∧ slots + ms ≤ R.slots) :
    vx_Run p l e R s m args below meth k H locs cells slots mc ms (F0 m pc ls st0) rest (fun _ _ _ => False) (qX D G E0 ext px (va_A (wl ad N c) H.size)) (va_A (wl ad N c) H.size) :=
  vx_runS S (hM H.size) cw ⟨wPre.blind, fun U hU hW => ⟨rfl, w.pre hU hW⟩⟩ rfl hn hsize hst hW hdg hf
/-- behind a call that has thrown -/
theorem pw_cx {E0 : String} {S0 : Type} {ext : S0 → wX} {px : S0 → Prop} {mc ms : Nat} (w : PW D G A s ad N c H locs) (hr : vx_Run p l e R s m args below meth k H locs cells slots mc ms (F0 m pc ls st0) rest (fun _ _ _ => False) (qX D G E0 ext px (va_A (wl ad N c) H.size)) (va_A (wl ad N c) H.size))
    (kx : ∀ (u : S0) (ce : Cell) (q9 : Addr) (H1 : Heap) (locs1 : List Loc), px u → PW D G A s (ext u).1 (ext u).2.1 (ext u).2.2 H1 locs1 → H1[q9]? = some ce → ce.vm = .none → s.vm.findClass E0 = some ce.cls → vx_W p l e R s m args below meth k H1 locs1 (cells + mc) (slots + ms) Q (F0 m pc ls rest) q9) : W p l e R s m args below meth k H locs cells slots Q (F0 m pc ls st0) := by
  intro T hT X
  rcases hr T hT X with ⟨v, st₀, t, T', L, h0, X', hL, e1, e2, hq, st⟩ | ⟨q, st₀, t, T', L, E, ce, h0, X', hL, e1, e2, ⟨hE, u, hp, hB, hF⟩, hce, hcv, hcl, st⟩
  · exact hq.elim
  · subst hE
    obtain ⟨k1, k2, k3⟩ := vx_keep h0 e1 w.2.2.2.1 (fun q _ h => w.sub q h) w.sub hL hF
    obtain ⟨t2, a1, b1⟩ := kx u ce q T'.heap (locs ++ L) hp (w.back e1.symm (by rw [← e2]; exact X'.warmed.alike) hB k3) (by rw [e1]; exact hce) hcv hcl T' rfl X'
    exact ⟨t2, st.trans a1, b1⟩
/-- the exception goes on to the caller -/
theorem pw_out {E0 : String} {S0 : Type} {ext : S0 → wX} {px : S0 → Prop} {mc ms : Nat} {x : wX} {ce : Cell} {q : Addr} (hno : ∀ x ∈ k.exceptionTable.toList, False) (hlocks : meth.locks = false) (w : PW D G A s x.1 x.2.1 x.2.2 H locs) (u : S0) (hu : ext u = x) (hp : px u) (hcell : H[q]? = some ce) (hv : ce.vm = .none) (hcl : s.vm.findClass E0 = some ce.cls) (hc : cells ≤ mc) (hs : slots ≤ ms) :
    vx_W p l e R s m args below meth k H locs cells slots (vx_MQ below (fun _ _ _ _ => False) (qX D G E0 ext px A) args s mc ms A) (F0 m pc ls rest) q := by
  refine vx_out (fun x hx => (hno x hx).elim) hlocks hcell hv hcl (fun t ht hal => ?_) w.2.2.2.1.2.2 hc hs
  refine ⟨rfl, u, hp, ?_, w.2.2.2.1.F ht⟩
  show wAt D G A (ext u) t
  rw [hu]
  exact ⟨by rw [ht]; exact w.2.1, va_K.moved hal w.1, w.2.2.1⟩
/-- throw new E0("text") -/
theorem pw_throw {E0 text : String} {S0 : Type} {ext : S0 → wX} {px : S0 → Prop} {mc ms : Nat} {x : wX} {own : String} {names : List String} {ik is ic : Nat} (hx : p.tables.exec = Jvm.exec) (hb : k.code = cc) (hl : l.stackTraces = false) (hno : ∀ x ∈ k.exceptionTable.toList, False) (hlocks : meth.locks = false) (w : PW D G A s x.1 x.2.1 x.2.2 H locs) (u : S0) (hu : ext u = x) (hp : px u)
    (hown : s.vm.findClass own = some m.cls) (ho : own = RX7) (hcls : Bundle.fit E0 = true) (hnames : ∀ n ∈ names, Bundle.fit n = true) (hk : (Cond.classLink own ik E0).before args s = true) (hini : (Cond.initialized E0).before args s = true) (hstr : (is, text) ∈ strs) (hat : ∀ w ∈ (vx_atS own ic E0 names).filter goodWord, w.before args s = true) (hgood : ∀ w ∈ Cond.classLink own ik E0 :: Cond.initialized E0 :: vx_atS own ic E0 names, vx_ot w = true) (hcast : (E0, E0) ∈ casts) (hall : ∀ w ∈ (vx_atS own ic E0 names).filter (fun w => !goodWord w), w ∈ Cond.castable E0 E0 :: decls.map Cond.declares)
    (hsize : ls.size = k.maxLocals)
    (d0 : decode cc pc = .ok (.new ik, 3)) (d3 : decode cc (pc + 3) = .ok (.dup, 1)) (d4 : decode cc (pc + 4) = .ok (.ldc is, 2)) (d6 : decode cc (pc + 6) = .ok (.invokespecial ic, 3)) (d9 : decode cc (pc + 9) = .ok (.athrow, 1))
    (hRframes : names.length + 3 < R.frames) (hRlocals : (rest.map fun v => v.category).sum + (13 * (names.length + 1) + 43) ≤ R.locals) (hRcells : cells + 1 ≤ R.cells) (hRslots : slots + 6 ≤ R.slots) (hc : cells + 1 ≤ mc) (hs : slots + 6 ≤ ms) :
    W p l e R s m args below meth k H locs cells slots (vx_MQ below (fun _ _ _ _ => False) (qX D G E0 ext px A) args s mc ms A) (F0 m pc ls rest) := by
  subst ho
  obtain ⟨sa, hsa⟩ := w.2.2.2.2.2.2.2.1 _ hstr
  have hdc := w.2.2.2.2.2.2.2.2.2.2.2.2.2.2.2
  have hca : (Cond.castable E0 E0).before args s = true := va_Nw.use rfl (w.2.2.2.2.2.2.2.2.2.1 _ hcast)
  refine vx_throwS hx hb hl hown hcls hnames hk hini hsa (vx_hat hat hall (vx_c hca (fun w9 h9 => by
    obtain ⟨y, hy, e⟩ := List.mem_map.mp h9
    rw [← e]
    exact va_Nw.use rfl (hdc y hy)))) hgood w.2.2.2.2.2.2.1.1 w.2.2.2.2.2.2.1.2 w.2.2.2.1 hsize d0 d3 d4 d6 d9 (fun x hx => (hno x hx).elim) hRframes hRlocals hRcells hRslots hlocks (fun t hal hz hk => ?_) w.2.2.2.1.2.2 hc hs
  have hlt : ∀ (j : Nat) (q : Nat × va_E), (wl x.1 x.2.1 x.2.2)[j]? = some q → t.heap[q.1]? = H[q.1]? := fun j q hq => hk q.1 ((w.2.1 j q hq).lt)
  refine ⟨rfl, u, hp, ?_, ?_⟩
  · rw [hu]
    exact ⟨w.2.1.kept hlt, va_K.moved hal w.1, w.2.2.1⟩
  · exact ⟨Nat.le_trans w.2.2.2.1.1 hz, fun q h1 h2 => (hk q (Nat.lt_of_lt_of_le h1 w.2.2.2.1.1)).trans (w.2.2.2.1.2.1 q h1 h2)⟩
/-- the ends -/
theorem pw_iret {S : Type} {ext : S → wX} {post : Int32 → S → Prop} {x : wX} {v : Int32} {mc ms : Nat} (hx : p.tables.exec = Jvm.exec) (hb : k.code = cc) (hr : meth.sig.returnType = some .int) (hlocks : meth.locks = false) (w : PW D G A s x.1 x.2.1 x.2.2 H locs) (u : S) (hu : ext u = x) (hp : post v u) (hc : cells ≤ mc) (hs : slots ≤ ms) (hdg : decode cc pc = .ok (.ireturn, 1)) :
    W p l e R s m args below meth k H locs cells slots (MQ below (qI D G ext post A) args s mc ms A) (F0 m pc ls [.int v]) := by
  refine W.widen hc hs ?_
  refine W.iret hx hb hr (fun t ht hW => ⟨⟨v, u, rfl, hp, ?_⟩, w.2.2.2.1.F ht⟩) w.2.2.2.1.2.2 hdg hlocks
  show wAt D G A (ext u) t
  rw [hu]
  exact ⟨by rw [ht]; exact w.2.1, va_K.moved hW.alike w.1, w.2.2.1⟩
theorem pw_zret {S : Type} {ext : S → wX} {post : Int32 → S → Prop} {x : wX} {v : Int32} {mc ms : Nat} (hx : p.tables.exec = Jvm.exec) (hb : k.code = cc) (hr : meth.sig.returnType = some .boolean) (hlocks : meth.locks = false) (w : PW D G A s x.1 x.2.1 x.2.2 H locs) (u : S) (hu : ext u = x) (hv : v = zI 0 ∨ v = zI 1) (hp : post v u) (hc : cells ≤ mc) (hs : slots ≤ ms) (hdg : decode cc pc = .ok (.ireturn, 1)) :
    W p l e R s m args below meth k H locs cells slots (MQ below (qI D G ext post A) args s mc ms A) (F0 m pc ls [.int v]) := by
  refine W.widen hc hs ?_
  refine W.zret hx hb hr (ty := .boolean) (by rcases hv with h | h <;> (rw [h]; decide +kernel)) (fun t ht hW => ⟨⟨v, u, rfl, hp, ?_⟩, w.2.2.2.1.F ht⟩) w.2.2.2.1.2.2 hdg hlocks
  show wAt D G A (ext u) t
  rw [hu]
  exact ⟨by rw [ht]; exact w.2.1, va_K.moved hW.alike w.1, w.2.2.1⟩
theorem pw_fret {S : Type} {ext : S → wX} {post : UInt32 → S → Prop} {x : wX} {v : UInt32} {mc ms : Nat} (hx : p.tables.exec = Jvm.exec) (hb : k.code = cc) (hr : meth.sig.returnType = some .float) (hlocks : meth.locks = false) (w : PW D G A s x.1 x.2.1 x.2.2 H locs) (u : S) (hu : ext u = x) (hp : post v u) (hc : cells ≤ mc) (hs : slots ≤ ms) (hdg : decode cc pc = .ok (.freturn, 1)) :
    W p l e R s m args below meth k H locs cells slots (MQ below (qF D G ext post A) args s mc ms A) (F0 m pc ls [.float v]) := by
  refine W.widen hc hs ?_
  refine W.fret hx hb hr (fun t ht hW => ⟨⟨v, u, rfl, hp, ?_⟩, w.2.2.2.1.F ht⟩) w.2.2.2.1.2.2 hdg hlocks
  show wAt D G A (ext u) t
  rw [hu]
  exact ⟨by rw [ht]; exact w.2.1, va_K.moved hW.alike w.1, w.2.2.1⟩
theorem pw_vret {S : Type} {ext : S → wX} {post : S → Prop} {x : wX} {mc ms : Nat} (hx : p.tables.exec = Jvm.exec) (hb : k.code = cc) (hr : meth.sig.returnType = none) (hlocks : meth.locks = false) (w : PW D G A s x.1 x.2.1 x.2.2 H locs) (u : S) (hu : ext u = x) (hp : post u) (hc : cells ≤ mc) (hs : slots ≤ ms) (hdg : decode cc pc = .ok (.return_, 1)) :
    W p l e R s m args below meth k H locs cells slots (MQ below (qV D G ext post A) args s mc ms A) (F0 m pc ls []) := by
  refine W.widen hc hs ?_
  refine W.vret hx hb hr (fun t ht hW => ⟨⟨u, rfl, hp, ?_⟩, w.2.2.2.1.F ht⟩) w.2.2.2.1.2.2 hdg hlocks
  show wAt D G A (ext u) t
  rw [hu]
  exact ⟨by rw [ht]; exact w.2.1, va_K.moved hW.alike w.1, w.2.2.1⟩
theorem pw_aret {S : Type} {ext : S → wX} {post : Nat → S → Prop} {x : wX} {a mc ms : Nat} {rt : FieldType} (hx : p.tables.exec = Jvm.exec) (hb : k.code = cc) (hr : meth.sig.returnType = some rt) (hrt : (∃ n, rt = .object n) ∨ ∃ t, rt = .array t) (hlocks : meth.locks = false) (w : PW D G A s x.1 x.2.1 x.2.2 H locs) (u : S) (hu : ext u = x) (hp : post a u) (hc : cells ≤ mc) (hs : slots ≤ ms) (hdg : decode cc pc = .ok (.areturn, 1)) :
    W p l e R s m args below meth k H locs cells slots (MQ below (qR D G ext post A) args s mc ms A) (F0 m pc ls [.ref a]) := by
  refine W.widen hc hs ?_
  refine W.aret hx hb hr hrt (Or.inr ⟨a, rfl⟩) (fun t ht hW => ⟨⟨u, a, rfl, trivial, hp, ?_⟩, w.2.2.2.1.F ht⟩) w.2.2.2.1.2.2 hdg hlocks
  show wAt D G A (ext u) t
  rw [hu]
  exact ⟨by rw [ht]; exact w.2.1, va_K.moved hW.alike w.1, w.2.2.1⟩
end PC
end
