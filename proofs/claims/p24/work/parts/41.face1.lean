/-- the desk between two calls -/
def DK (G : Nat → ClassId) (ad : Nat → Nat) (c : Nat → va_E) (lim : Int) (no dn : Nat) (gn : Nat → Nat) (gg : Nat → Nat → Nat) (dg nn : Nat → Nat) (pt ln : Nat → Nat → Nat) (wi : Nat → Nat → Int) : Prop :=
  c 0 = .inr (7, [.ref (ad 1), .ref (ad 12), .ref (ad 15), .ref (ad 72), .ref (ad 98)]) ∧ Fing G ad c lim ∧ Book G ad c no dn gn gg dg ∧ Tus G ad c nn pt ln wi ∧ (∀ t, t < 4 → TuneR G c (16 + 14 * t)) ∧ TC G ad c ∧ (∃ mz lc od bt, SS G ad c mz lc od bt) ∧ ∀ i, i < 16 → ∃ g, isA 0 G (c (100 + i)) 9 g
section DKX
variable {G : Nat → ClassId} {ad : Nat → Nat} {c c1 : Nat → va_E} {lim : Int} {no dn : Nat} {gn : Nat → Nat} {gg : Nat → Nat → Nat} {dg nn : Nat → Nat} {pt ln : Nat → Nat → Nat} {wi : Nat → Nat → Int}
theorem SSx.fr (h : ∃ mz lc od bt, SS G ad c mz lc od bt) (hf : ∀ q, q = 98 ∨ q = 99 ∨ (116 ≤ q ∧ q < 120) → c1 q = c q) : ∃ mz lc od bt, SS G ad c1 mz lc od bt := by
  obtain ⟨mz, lc, od, bt, h⟩ := h
  exact ⟨mz, lc, od, bt, h.fr hf⟩
theorem Jx.fr (h : ∀ i, i < 16 → ∃ g, isA 0 G (c (100 + i)) 9 g) (hf : ∀ q, 100 ≤ q → q < 116 → c1 q = c q) : ∀ i, i < 16 → ∃ g, isA 0 G (c1 (100 + i)) 9 g := fun i hi => by
  obtain ⟨g, hg⟩ := h i hi
  exact ⟨g, isA.fr (hf _ (by omega) (by omega)) hg⟩
theorem DK.fr (h : DK G ad c lim no dn gn gg dg nn pt ln wi) (hf : ∀ q, (q < 120 ∨ 120 ≤ q) → c1 q = c q) : DK G ad c1 lim no dn gn gg dg nn pt ln wi := by
  obtain ⟨h1, h2, h3, h4, h5, h6, h7, h8⟩ := h
  exact ⟨(hf _ (by omega)).trans h1, h2.fr (fun q _ _ => hf q (by omega)), h3.fr (fun q _ => hf q (by omega)), h4.fr (fun q _ => hf q (by omega)), fun t ht => (h5 t ht).fr (fun q _ _ => hf q (by omega)), h6.fr (fun q _ _ => hf q (by omega)), SSx.fr h7 (fun q _ => hf q (by omega)), Jx.fr h8 (fun q _ _ => hf q (by omega))⟩
theorem DK.wg (h : DK G ad c lim no dn gn gg dg nn pt ln wi) {t : Nat} (ht : t < 4) (hR : TuneR G c1 (16 + 14 * t)) (hf : ∀ q, (q < 16 + 14 * t + 5 ∨ 16 + 14 * t + 14 ≤ q) → c1 q = c q) : DK G ad c1 lim no dn gn gg dg nn pt ln wi := by
  obtain ⟨h1, h2, h3, h4, h5, h6, h7, h8⟩ := h
  refine ⟨(hf _ (by omega)).trans h1, h2.fr (fun q _ _ => hf q (by omega)), h3.fr (fun q _ => hf q (by omega)), h4.fr (fun q _ => hf q (by omega)), fun u hu => ?_, h6.fr (fun q _ _ => hf q (by omega)), SSx.fr h7 (fun q _ => hf q (by omega)), Jx.fr h8 (fun q _ _ => hf q (by omega))⟩
  by_cases e : u = t
  · rw [e]
    exact hR
  · exact (h5 u hu).fr (fun q _ _ => hf q (by omega))
theorem DK.tc (h : DK G ad c lim no dn gn gg dg nn pt ln wi) (hT : TC G ad c1) (hf : ∀ q, (q < 72 ∨ 98 ≤ q) → c1 q = c q) : DK G ad c1 lim no dn gn gg dg nn pt ln wi := by
  obtain ⟨h1, h2, h3, h4, h5, h6, h7, h8⟩ := h
  exact ⟨(hf _ (by omega)).trans h1, h2.fr (fun q _ _ => hf q (by omega)), h3.fr (fun q _ => hf q (by omega)), h4.fr (fun q _ => hf q (by omega)), fun t ht => (h5 t ht).fr (fun q _ _ => hf q (by omega)), hT, SSx.fr h7 (fun q _ => hf q (by omega)), Jx.fr h8 (fun q _ _ => hf q (by omega))⟩
theorem DK.joins (h : DK G ad c lim no dn gn gg dg nn pt ln wi) (hJ : ∀ i, i < 16 → ∃ g, isA 0 G (c1 (100 + i)) 9 g) (hf : ∀ q, (q < 100 ∨ 116 ≤ q) → c1 q = c q) : DK G ad c1 lim no dn gn gg dg nn pt ln wi := by
  obtain ⟨h1, h2, h3, h4, h5, h6, h7, h8⟩ := h
  exact ⟨(hf _ (by omega)).trans h1, h2.fr (fun q _ _ => hf q (by omega)), h3.fr (fun q _ => hf q (by omega)), h4.fr (fun q _ => hf q (by omega)), fun t ht => (h5 t ht).fr (fun q _ _ => hf q (by omega)), h6.fr (fun q _ _ => hf q (by omega)), SSx.fr h7 (fun q _ => hf q (by omega)), hJ⟩
theorem DK.ss (h : DK G ad c lim no dn gn gg dg nn pt ln wi) {mz : Nat} {lc : Int} {od bt : Nat → Nat} (hS : SS G ad c1 mz lc od bt) (hf : ∀ q, (q < 98 ∨ q = 99 ∨ (100 ≤ q ∧ q < 117) ∨ 120 ≤ q) → c1 q = c q) : DK G ad c1 lim no dn gn gg dg nn pt ln wi := by
  obtain ⟨h1, h2, h3, h4, h5, h6, h7, h8⟩ := h
  exact ⟨(hf _ (by omega)).trans h1, h2.fr (fun q _ _ => hf q (by omega)), h3.fr (fun q _ => hf q (by omega)), h4.fr (fun q _ => hf q (by omega)), fun t ht => (h5 t ht).fr (fun q _ _ => hf q (by omega)), h6.fr (fun q _ _ => hf q (by omega)), ⟨mz, lc, od, bt, hS⟩, Jx.fr h8 (fun q _ _ => hf q (by omega))⟩
theorem DK.lims (h : DK G ad c lim no dn gn gg dg nn pt ln wi) {lim1 : Int} (h3 : ∀ i, i < 9 → isA 0 G (c1 (3 + i)) 9 (stp lim1 i)) (hf : ∀ q, (q < 3 ∨ 12 ≤ q) → c1 q = c q) : DK G ad c1 lim1 no dn gn gg dg nn pt ln wi := by
  obtain ⟨h1, ⟨f1, ⟨fo, f2, f3⟩, -⟩, h4, h5, h6, h7, h8, h9⟩ := h
  exact ⟨(hf _ (by omega)).trans h1, ⟨(hf _ (by omega)).trans f1, ⟨fo, (hf _ (by omega)).trans f2, f3⟩, h3⟩, h4.fr (fun q _ => hf q (by omega)), h5.fr (fun q _ => hf q (by omega)), fun t ht => (h6 t ht).fr (fun q _ _ => hf q (by omega)), h7.fr (fun q _ _ => hf q (by omega)), SSx.fr h8 (fun q _ => hf q (by omega)), Jx.fr h9 (fun q _ _ => hf q (by omega))⟩
theorem DK.book (h : DK G ad c lim no dn gn gg dg nn pt ln wi) {no1 dn1 : Nat} {gn1 : Nat → Nat} {gg1 : Nat → Nat → Nat} {dg1 : Nat → Nat} (hB : Book G ad c1 no1 dn1 gn1 gg1 dg1) (hf : ∀ q, (q < 12 ∨ (14 < q ∧ q < 120)) → c1 q = c q) : DK G ad c1 lim no1 dn1 gn1 gg1 dg1 nn pt ln wi := by
  obtain ⟨h1, h2, h3, h4, h5, h6, h7, h8⟩ := h
  exact ⟨(hf _ (by omega)).trans h1, h2.fr (fun q _ _ => hf q (by omega)), hB, h4.fr (fun q _ => hf q (by omega)), fun t ht => (h5 t ht).fr (fun q _ _ => hf q (by omega)), h6.fr (fun q _ _ => hf q (by omega)), SSx.fr h7 (fun q _ => hf q (by omega)), Jx.fr h8 (fun q _ _ => hf q (by omega))⟩
theorem DK.tun (h : DK G ad c lim no dn gn gg dg nn pt ln wi) {t n1 : Nat} {p1 l1 : Nat → Nat} {w1 : Nat → Int} (ht : t < 4) (hO : TuneO G ad c1 (16 + 14 * t) n1 p1 l1 w1) (hf : ∀ q, (q < 16 + 14 * t ∨ 16 + 14 * t + 4 ≤ q) → c1 q = c q) : DK G ad c1 lim no dn gn gg dg (upT nn t n1) (upT pt t p1) (upT ln t l1) (upT wi t w1) := by
  obtain ⟨h1, h2, h3, ⟨⟨fo, f1, f2⟩, h4⟩, h5, h6, h7, h8⟩ := h
  refine ⟨(hf _ (by omega)).trans h1, h2.fr (fun q _ _ => hf q (by omega)), h3.fr (fun q _ => hf q (by omega)), ⟨⟨fo, (hf _ (by omega)).trans f1, f2⟩, fun u hu => ?_⟩, fun u hu => (h5 u hu).fr (fun q _ _ => hf q (by omega)), h6.fr (fun q _ _ => hf q (by omega)), SSx.fr h7 (fun q _ => hf q (by omega)), Jx.fr h8 (fun q _ _ => hf q (by omega))⟩
  by_cases e : u = t
  · subst e
    rw [upT_eq, upT_eq, upT_eq, upT_eq]
    exact hO
  · rw [upT_ne _ _ e, upT_ne _ _ e, upT_ne _ _ e, upT_ne _ _ e]
    exact (h4 u hu).fr (fun q _ _ => hf q (by omega))
end DKX

theorem og_IA : ∀ w ∈ Cond.classLink RX7 56 xIA :: Cond.initialized xIA :: vx_atS RX7 60 xIA ["java/lang/RuntimeException", "java/lang/Exception"], vx_ot w = true := by decide +kernel
theorem oa_IA : ∀ w ∈ (vx_atS RX7 60 xIA ["java/lang/RuntimeException", "java/lang/Exception"]).filter (fun w => !goodWord w), w ∈ Cond.castable xIA xIA :: decls.map Cond.declares := by decide +kernel
theorem og_IS : ∀ w ∈ Cond.classLink RX7 73 xIS :: Cond.initialized xIS :: vx_atS RX7 77 xIS ["java/lang/RuntimeException", "java/lang/Exception"], vx_ot w = true := by decide +kernel
theorem oa_IS : ∀ w ∈ (vx_atS RX7 77 xIS ["java/lang/RuntimeException", "java/lang/Exception"]).filter (fun w => !goodWord w), w ∈ Cond.castable xIS xIS :: decls.map Cond.declares := by decide +kernel
theorem og_IO : ∀ w ∈ Cond.classLink RX7 96 xIO :: Cond.initialized xIO :: vx_atS RX7 100 xIO ["java/lang/RuntimeException", "java/lang/Exception"], vx_ot w = true := by decide +kernel
theorem oa_IO : ∀ w ∈ (vx_atS RX7 100 xIO ["java/lang/RuntimeException", "java/lang/Exception"]).filter (fun w => !goodWord w), w ∈ Cond.castable xIO xIO :: decls.map Cond.declares := by decide +kernel

abbrev rm_X7_checkPitch : Room := { frames := 6, cells := 0, slots := 0, locals := 180 }
set_option maxHeartbeats 4000000 in
set_option maxRecDepth 100000 in
theorem c_X7_checkPitch (l : Launch) (D : va_G) (G : Nat → ClassId) (ad : Nat → Nat) (N : Nat) (c : Nat → va_E) {z : Int} (hbz : bnd z) (hok : 0 ≤ z ∧ z ≤ 8) : MC l yX7_checkPitch wsX7_checkPitch rm_X7_checkPitch [.int (zI z)] D G ad N c (qV D G (fx ad N) (fun c1 => c1 = c)) 0 0 := by
  refine MCv.of (cc := cX7_checkPitch) (maxL := 1) (by decide) rfl (Nat.le_of_ble_eq_true rfl) ?_
  intro p e s m args below meth kc A Q hx hb hts hown hml hin2 fin H locs w ls hl
  have hown : s.vm.findClass RX7 = some m.cls := hown
  have hl : lv_has ls 1 [(0, .int (zI z))] := hl
  have hbz1 := hbz.1
  have hbz2 := hbz.2
  refine lv_iload_n hx hb dX7_checkPitch_0 rfl (lv_at hl 0 rfl) ?_
  refine pz_iflt (tgt := 10) hx hb dX7_checkPitch_1 (by decide) (⟨by omega, by omega⟩) (fun h1 => ?_) (fun h1 => ?_)
  · omega
  · refine lv_iload_n hx hb dX7_checkPitch_4 rfl (lv_at hl 0 rfl) ?_
    refine lv_bipush (v := zI (9)) hx hb dX7_checkPitch_5 (by decide +kernel) ?_
    refine pz_icmplt (tgt := 20) hx hb dX7_checkPitch_7 (by decide) (⟨by omega, by omega⟩) (⟨by omega, by omega⟩) (fun h2 => ?_) (fun h2 => ?_)
    · exact fin (ad, N, c) c _ _ _ _ _ _ rfl rfl w dX7_checkPitch_20 (Nat.le_refl _) (Nat.le_refl _)
    · omega

theorem wd_X7_checkPitch_ck56 : Cond.classLink RX7 56 "java/lang/IllegalArgumentException" ∈ wsX7_checkPitch := by decide +kernel
theorem wd_X7_checkPitch_ini56 : Cond.initialized "java/lang/IllegalArgumentException" ∈ wsX7_checkPitch := by decide +kernel
theorem ats_X7_checkPitch_IA : ∀ w ∈ (vx_atS RX7 60 "java/lang/IllegalArgumentException" ["java/lang/RuntimeException", "java/lang/Exception"]).filter goodWord, w ∈ wsX7_checkPitch := fun w h => List.mem_cons_of_mem _ (List.mem_append_right _ h)
abbrev rx_X7_checkPitch : Room := { frames := 6, cells := 1, slots := 6, locals := 180 }
set_option maxHeartbeats 4000000 in
set_option maxRecDepth 100000 in
theorem x_X7_checkPitch (l : Launch) (hsT : l.stackTraces = false) (D : va_G) (G : Nat → ClassId) (ad : Nat → Nat) (N : Nat) (c : Nat → va_E) {z : Int} (hbz : bnd z) (hbad : ¬ (0 ≤ z ∧ z ≤ 8)) : MX l yX7_checkPitch wsX7_checkPitch rx_X7_checkPitch [.int (zI z)] D G ad N c xIA (fx ad N) (fun c1 => c1 = c) 1 6 := by
  refine MX.of (cc := cX7_checkPitch) (maxL := 1) (ret := none) (by decide) rfl (Nat.le_of_ble_eq_true rfl) ?_
  intro p e s m below meth kc A hx hb hr hts hown hml hlk hno w ls hl
  have hown : s.vm.findClass RX7 = some m.cls := hown
  have hl : lv_has ls 1 [(0, .int (zI z))] := hl
  have hbz1 := hbz.1
  have hbz2 := hbz.2
  refine lv_iload_n hx hb dX7_checkPitch_0 rfl (lv_at hl 0 rfl) ?_
  refine pz_iflt (tgt := 10) hx hb dX7_checkPitch_1 (by decide) (⟨by omega, by omega⟩) (fun h1 => ?_) (fun h1 => ?_)
  · exact pw_throw (E0 := xIA) (text := "pitch out of range") (own := RX7) (names := ["java/lang/RuntimeException", "java/lang/Exception"]) (ik := 56) (is := 180) (ic := 60) (x := (ad, N, c)) hx hb hsT hno hlk w c rfl rfl hown rfl (by decide +kernel) (by decide +kernel) (hts _ wd_X7_checkPitch_ck56) (hts _ wd_X7_checkPitch_ini56) (by decide) (fun w h => hts _ (ats_X7_checkPitch_IA w h)) og_IA (by decide) oa_IA (hl.1.trans hml.symm) dX7_checkPitch_10 dX7_checkPitch_13 dX7_checkPitch_14 dX7_checkPitch_16 dX7_checkPitch_19 (Nat.le_of_ble_eq_true rfl) (Nat.le_of_ble_eq_true rfl) (Nat.le_of_ble_eq_true rfl) (Nat.le_of_ble_eq_true rfl) (Nat.le_of_ble_eq_true rfl) (Nat.le_of_ble_eq_true rfl)
  · refine lv_iload_n hx hb dX7_checkPitch_4 rfl (lv_at hl 0 rfl) ?_
    refine lv_bipush (v := zI (9)) hx hb dX7_checkPitch_5 (by decide +kernel) ?_
    refine pz_icmplt (tgt := 20) hx hb dX7_checkPitch_7 (by decide) (⟨by omega, by omega⟩) (⟨by omega, by omega⟩) (fun h2 => ?_) (fun h2 => ?_)
    · omega
    · exact pw_throw (E0 := xIA) (text := "pitch out of range") (own := RX7) (names := ["java/lang/RuntimeException", "java/lang/Exception"]) (ik := 56) (is := 180) (ic := 60) (x := (ad, N, c)) hx hb hsT hno hlk w c rfl rfl hown rfl (by decide +kernel) (by decide +kernel) (hts _ wd_X7_checkPitch_ck56) (hts _ wd_X7_checkPitch_ini56) (by decide) (fun w h => hts _ (ats_X7_checkPitch_IA w h)) og_IA (by decide) oa_IA (hl.1.trans hml.symm) dX7_checkPitch_10 dX7_checkPitch_13 dX7_checkPitch_14 dX7_checkPitch_16 dX7_checkPitch_19 (Nat.le_of_ble_eq_true rfl) (Nat.le_of_ble_eq_true rfl) (Nat.le_of_ble_eq_true rfl) (Nat.le_of_ble_eq_true rfl) (Nat.le_of_ble_eq_true rfl) (Nat.le_of_ble_eq_true rfl)

abbrev rm_X7_checkLength : Room := { frames := 6, cells := 0, slots := 0, locals := 180 }
set_option maxHeartbeats 4000000 in
set_option maxRecDepth 100000 in
theorem c_X7_checkLength (l : Launch) (D : va_G) (G : Nat → ClassId) (ad : Nat → Nat) (N : Nat) (c : Nat → va_E) {z : Int} (hbz : bnd z) (hok : 1 ≤ z ∧ z ≤ 32) : MC l yX7_checkLength wsX7_checkLength rm_X7_checkLength [.int (zI z)] D G ad N c (qV D G (fx ad N) (fun c1 => c1 = c)) 0 0 := by
  refine MCv.of (cc := cX7_checkLength) (maxL := 1) (by decide) rfl (Nat.le_of_ble_eq_true rfl) ?_
  intro p e s m args below meth kc A Q hx hb hts hown hml hin2 fin H locs w ls hl
  have hown : s.vm.findClass RX7 = some m.cls := hown
  have hl : lv_has ls 1 [(0, .int (zI z))] := hl
  have hbz1 := hbz.1
  have hbz2 := hbz.2
  refine lv_iload_n hx hb dX7_checkLength_0 rfl (lv_at hl 0 rfl) ?_
  refine lv_iconst (v := zI (1)) hx hb dX7_checkLength_1 rfl ?_
  refine pz_icmplt (tgt := 11) hx hb dX7_checkLength_2 (by decide) (⟨by omega, by omega⟩) (⟨by omega, by omega⟩) (fun h1 => ?_) (fun h1 => ?_)
  · omega
  · refine lv_iload_n hx hb dX7_checkLength_5 rfl (lv_at hl 0 rfl) ?_
    refine lv_bipush (v := zI (32)) hx hb dX7_checkLength_6 (by decide +kernel) ?_
    refine pz_icmple (tgt := 21) hx hb dX7_checkLength_8 (by decide) (⟨by omega, by omega⟩) (⟨by omega, by omega⟩) (fun h2 => ?_) (fun h2 => ?_)
    · exact fin (ad, N, c) c _ _ _ _ _ _ rfl rfl w dX7_checkLength_21 (Nat.le_refl _) (Nat.le_refl _)
    · omega

theorem wd_X7_checkLength_ck56 : Cond.classLink RX7 56 "java/lang/IllegalArgumentException" ∈ wsX7_checkLength := by decide +kernel
theorem wd_X7_checkLength_ini56 : Cond.initialized "java/lang/IllegalArgumentException" ∈ wsX7_checkLength := by decide +kernel
theorem ats_X7_checkLength_IA : ∀ w ∈ (vx_atS RX7 60 "java/lang/IllegalArgumentException" ["java/lang/RuntimeException", "java/lang/Exception"]).filter goodWord, w ∈ wsX7_checkLength := fun w h => List.mem_cons_of_mem _ (List.mem_append_right _ h)
abbrev rx_X7_checkLength : Room := { frames := 6, cells := 1, slots := 6, locals := 180 }
set_option maxHeartbeats 4000000 in
set_option maxRecDepth 100000 in
theorem x_X7_checkLength (l : Launch) (hsT : l.stackTraces = false) (D : va_G) (G : Nat → ClassId) (ad : Nat → Nat) (N : Nat) (c : Nat → va_E) {z : Int} (hbz : bnd z) (hbad : ¬ (1 ≤ z ∧ z ≤ 32)) : MX l yX7_checkLength wsX7_checkLength rx_X7_checkLength [.int (zI z)] D G ad N c xIA (fx ad N) (fun c1 => c1 = c) 1 6 := by
  refine MX.of (cc := cX7_checkLength) (maxL := 1) (ret := none) (by decide) rfl (Nat.le_of_ble_eq_true rfl) ?_
  intro p e s m below meth kc A hx hb hr hts hown hml hlk hno w ls hl
  have hown : s.vm.findClass RX7 = some m.cls := hown
  have hl : lv_has ls 1 [(0, .int (zI z))] := hl
  have hbz1 := hbz.1
  have hbz2 := hbz.2
  refine lv_iload_n hx hb dX7_checkLength_0 rfl (lv_at hl 0 rfl) ?_
  refine lv_iconst (v := zI (1)) hx hb dX7_checkLength_1 rfl ?_
  refine pz_icmplt (tgt := 11) hx hb dX7_checkLength_2 (by decide) (⟨by omega, by omega⟩) (⟨by omega, by omega⟩) (fun h1 => ?_) (fun h1 => ?_)
  · exact pw_throw (E0 := xIA) (text := "length out of range") (own := RX7) (names := ["java/lang/RuntimeException", "java/lang/Exception"]) (ik := 56) (is := 182) (ic := 60) (x := (ad, N, c)) hx hb hsT hno hlk w c rfl rfl hown rfl (by decide +kernel) (by decide +kernel) (hts _ wd_X7_checkLength_ck56) (hts _ wd_X7_checkLength_ini56) (by decide) (fun w h => hts _ (ats_X7_checkLength_IA w h)) og_IA (by decide) oa_IA (hl.1.trans hml.symm) dX7_checkLength_11 dX7_checkLength_14 dX7_checkLength_15 dX7_checkLength_17 dX7_checkLength_20 (Nat.le_of_ble_eq_true rfl) (Nat.le_of_ble_eq_true rfl) (Nat.le_of_ble_eq_true rfl) (Nat.le_of_ble_eq_true rfl) (Nat.le_of_ble_eq_true rfl) (Nat.le_of_ble_eq_true rfl)
  · refine lv_iload_n hx hb dX7_checkLength_5 rfl (lv_at hl 0 rfl) ?_
    refine lv_bipush (v := zI (32)) hx hb dX7_checkLength_6 (by decide +kernel) ?_
    refine pz_icmple (tgt := 21) hx hb dX7_checkLength_8 (by decide) (⟨by omega, by omega⟩) (⟨by omega, by omega⟩) (fun h2 => ?_) (fun h2 => ?_)
    · omega
    · exact pw_throw (E0 := xIA) (text := "length out of range") (own := RX7) (names := ["java/lang/RuntimeException", "java/lang/Exception"]) (ik := 56) (is := 182) (ic := 60) (x := (ad, N, c)) hx hb hsT hno hlk w c rfl rfl hown rfl (by decide +kernel) (by decide +kernel) (hts _ wd_X7_checkLength_ck56) (hts _ wd_X7_checkLength_ini56) (by decide) (fun w h => hts _ (ats_X7_checkLength_IA w h)) og_IA (by decide) oa_IA (hl.1.trans hml.symm) dX7_checkLength_11 dX7_checkLength_14 dX7_checkLength_15 dX7_checkLength_17 dX7_checkLength_20 (Nat.le_of_ble_eq_true rfl) (Nat.le_of_ble_eq_true rfl) (Nat.le_of_ble_eq_true rfl) (Nat.le_of_ble_eq_true rfl) (Nat.le_of_ble_eq_true rfl) (Nat.le_of_ble_eq_true rfl)

abbrev rm_X7_checkTune : Room := { frames := 6, cells := 0, slots := 0, locals := 180 }
set_option maxHeartbeats 4000000 in
set_option maxRecDepth 100000 in
theorem c_X7_checkTune (l : Launch) (D : va_G) (G : Nat → ClassId) (ad : Nat → Nat) (N : Nat) (c : Nat → va_E) {z : Int} (hbz : bnd z) (hok : 0 ≤ z ∧ z ≤ 3) : MC l yX7_checkTune wsX7_checkTune rm_X7_checkTune [.int (zI z)] D G ad N c (qV D G (fx ad N) (fun c1 => c1 = c)) 0 0 := by
  refine MCv.of (cc := cX7_checkTune) (maxL := 1) (by decide) rfl (Nat.le_of_ble_eq_true rfl) ?_
  intro p e s m args below meth kc A Q hx hb hts hown hml hin2 fin H locs w ls hl
  have hown : s.vm.findClass RX7 = some m.cls := hown
  have hl : lv_has ls 1 [(0, .int (zI z))] := hl
  have hbz1 := hbz.1
  have hbz2 := hbz.2
  refine lv_iload_n hx hb dX7_checkTune_0 rfl (lv_at hl 0 rfl) ?_
  refine pz_iflt (tgt := 9) hx hb dX7_checkTune_1 (by decide) (⟨by omega, by omega⟩) (fun h1 => ?_) (fun h1 => ?_)
  · omega
  · refine lv_iload_n hx hb dX7_checkTune_4 rfl (lv_at hl 0 rfl) ?_
    refine lv_iconst (v := zI (4)) hx hb dX7_checkTune_5 rfl ?_
    refine pz_icmplt (tgt := 19) hx hb dX7_checkTune_6 (by decide) (⟨by omega, by omega⟩) (⟨by omega, by omega⟩) (fun h2 => ?_) (fun h2 => ?_)
    · exact fin (ad, N, c) c _ _ _ _ _ _ rfl rfl w dX7_checkTune_19 (Nat.le_refl _) (Nat.le_refl _)
    · omega

theorem wd_X7_checkTune_ck56 : Cond.classLink RX7 56 "java/lang/IllegalArgumentException" ∈ wsX7_checkTune := by decide +kernel
theorem wd_X7_checkTune_ini56 : Cond.initialized "java/lang/IllegalArgumentException" ∈ wsX7_checkTune := by decide +kernel
theorem ats_X7_checkTune_IA : ∀ w ∈ (vx_atS RX7 60 "java/lang/IllegalArgumentException" ["java/lang/RuntimeException", "java/lang/Exception"]).filter goodWord, w ∈ wsX7_checkTune := fun w h => List.mem_cons_of_mem _ (List.mem_append_right _ h)
abbrev rx_X7_checkTune : Room := { frames := 6, cells := 1, slots := 6, locals := 180 }
set_option maxHeartbeats 4000000 in
set_option maxRecDepth 100000 in
theorem x_X7_checkTune (l : Launch) (hsT : l.stackTraces = false) (D : va_G) (G : Nat → ClassId) (ad : Nat → Nat) (N : Nat) (c : Nat → va_E) {z : Int} (hbz : bnd z) (hbad : ¬ (0 ≤ z ∧ z ≤ 3)) : MX l yX7_checkTune wsX7_checkTune rx_X7_checkTune [.int (zI z)] D G ad N c xIA (fx ad N) (fun c1 => c1 = c) 1 6 := by
  refine MX.of (cc := cX7_checkTune) (maxL := 1) (ret := none) (by decide) rfl (Nat.le_of_ble_eq_true rfl) ?_
  intro p e s m below meth kc A hx hb hr hts hown hml hlk hno w ls hl
  have hown : s.vm.findClass RX7 = some m.cls := hown
  have hl : lv_has ls 1 [(0, .int (zI z))] := hl
  have hbz1 := hbz.1
  have hbz2 := hbz.2
  refine lv_iload_n hx hb dX7_checkTune_0 rfl (lv_at hl 0 rfl) ?_
  refine pz_iflt (tgt := 9) hx hb dX7_checkTune_1 (by decide) (⟨by omega, by omega⟩) (fun h1 => ?_) (fun h1 => ?_)
  · exact pw_throw (E0 := xIA) (text := "tune out of range") (own := RX7) (names := ["java/lang/RuntimeException", "java/lang/Exception"]) (ik := 56) (is := 184) (ic := 60) (x := (ad, N, c)) hx hb hsT hno hlk w c rfl rfl hown rfl (by decide +kernel) (by decide +kernel) (hts _ wd_X7_checkTune_ck56) (hts _ wd_X7_checkTune_ini56) (by decide) (fun w h => hts _ (ats_X7_checkTune_IA w h)) og_IA (by decide) oa_IA (hl.1.trans hml.symm) dX7_checkTune_9 dX7_checkTune_12 dX7_checkTune_13 dX7_checkTune_15 dX7_checkTune_18 (Nat.le_of_ble_eq_true rfl) (Nat.le_of_ble_eq_true rfl) (Nat.le_of_ble_eq_true rfl) (Nat.le_of_ble_eq_true rfl) (Nat.le_of_ble_eq_true rfl) (Nat.le_of_ble_eq_true rfl)
  · refine lv_iload_n hx hb dX7_checkTune_4 rfl (lv_at hl 0 rfl) ?_
    refine lv_iconst (v := zI (4)) hx hb dX7_checkTune_5 rfl ?_
    refine pz_icmplt (tgt := 19) hx hb dX7_checkTune_6 (by decide) (⟨by omega, by omega⟩) (⟨by omega, by omega⟩) (fun h2 => ?_) (fun h2 => ?_)
    · omega
    · exact pw_throw (E0 := xIA) (text := "tune out of range") (own := RX7) (names := ["java/lang/RuntimeException", "java/lang/Exception"]) (ik := 56) (is := 184) (ic := 60) (x := (ad, N, c)) hx hb hsT hno hlk w c rfl rfl hown rfl (by decide +kernel) (by decide +kernel) (hts _ wd_X7_checkTune_ck56) (hts _ wd_X7_checkTune_ini56) (by decide) (fun w h => hts _ (ats_X7_checkTune_IA w h)) og_IA (by decide) oa_IA (hl.1.trans hml.symm) dX7_checkTune_9 dX7_checkTune_12 dX7_checkTune_13 dX7_checkTune_15 dX7_checkTune_18 (Nat.le_of_ble_eq_true rfl) (Nat.le_of_ble_eq_true rfl) (Nat.le_of_ble_eq_true rfl) (Nat.le_of_ble_eq_true rfl) (Nat.le_of_ble_eq_true rfl) (Nat.le_of_ble_eq_true rfl)

theorem hin_X7_checkGap_7 : ∀ w ∈ u_ws RX7 TX7 5, w ∈ wsX7_checkGap := by decide +kernel
theorem fl_X7_checkGap_25 : Cond.fieldLink RX7 25 "PipersDesk" "tunes" "[LPipersDesk$Tune;" ∈ wsX7_checkGap := by decide +kernel
abbrev rm_X7_checkGap : Room := { frames := 6, cells := 0, slots := 0, locals := 180 }
set_option maxHeartbeats 4000000 in
set_option maxRecDepth 100000 in
theorem c_X7_checkGap (l : Launch) (D : va_G) (G : Nat → ClassId) (ad : Nat → Nat) (N : Nat) (c : Nat → va_E) {lim : Int} {no dn : Nat} {gn : Nat → Nat} {gg : Nat → Nat → Nat} {dg nn : Nat → Nat} {pt ln : Nat → Nat → Nat} {wi : Nat → Nat → Int} (hN : 120 + 2 * no ≤ N) (hD : DK G ad c lim no dn gn gg dg nn pt ln wi) (hV : SV lim no dn gn gg dg nn pt ln wi) {t : Nat} (ht : t < 4) {z : Int} (hbz : bnd z) (hok : 0 ≤ z ∧ z ≤ (nn t : Int) - 2) : MC l yX7_checkGap wsX7_checkGap rm_X7_checkGap [.ref (ad 0), .int (zI (t : Int)), .int (zI z)] D G ad N c (qV D G (fx ad N) (fun c1 => c1 = c)) 0 0 := by
  refine MCv.of (cc := cX7_checkGap) (maxL := 3) (by decide) rfl (Nat.le_of_ble_eq_true rfl) ?_
  intro p e s m args below meth kc A Q hx hb hts hown hml hin2 fin H locs w ls hl
  have hown : s.vm.findClass RX7 = some m.cls := hown
  have hl : lv_has ls 3 [(0, .ref (ad 0)), (1, .int (zI (t : Int))), (2, .int (zI z))] := hl
  obtain ⟨h0, hF, hB, hU, hTR, hTC, ⟨mz, lc, od, bt, hSS⟩, hJ⟩ := id hD
  obtain ⟨⟨ft, h15, hft⟩, hUo⟩ := id hU
  obtain ⟨hlim, hOV, hdn4, hdg, hUV⟩ := id hV
  have hlb : bnd lim := ⟨by omega, by omega⟩
  have hno8 := hOV.1
  have hBV : BookV no dn gn gg dg := ⟨hOV.1, hOV.2, hdn4, hdg⟩
  have hbz1 := hbz.1
  have hbz2 := hbz.2
  have hnt := (hUV t ht).1
  refine lv_iload_n hx hb dX7_checkGap_0 rfl (lv_at hl 2 rfl) ?_
  refine pz_iflt (tgt := 17) hx hb dX7_checkGap_1 (by decide) (⟨by omega, by omega⟩) (fun h1 => ?_) (fun h1 => ?_)
  · omega
  · refine lv_iload_n hx hb dX7_checkGap_4 rfl (lv_at hl 2 rfl) ?_
    refine lv_aload_n hx hb dX7_checkGap_5 rfl (lv_at hl 0 rfl) ?_
    refine pw_get (r := 0) (ci := 7) (C := RX7) (T := TX7) (Nf := 5) hx hb w hts hin_X7_checkGap_7 hown (by omega) h0 rfl 2 (by decide) (hts _ fl_X7_checkGap_25) (fun _ h9 => h9) rfl dX7_checkGap_6 ?_
    refine lv_iload_n hx hb dX7_checkGap_9 rfl (lv_at hl 1 rfl) ?_
    refine pw_aaldR (r := 15) (j := t) hx hb w (by omega) h15 rfl rfl (by omega) (by omega) (by decide) (16 + 14 * t) (hft t (by omega)) dX7_checkGap_10 ?_
    refine pw_ci w (pw_runV (r := (16 + 14 * t)) (ci := 5) (As := []) (rest := [.int (zI z)]) w ⟨hx, hb, hml, hown, hts⟩ (c_X5_gaps l D G ad N c (T := 16 + 14 * t) (n := nn t) ⟨by omega, by omega⟩ (by omega) (hUo t ht) (hUV t ht)) (cwV 0 hts gX7_checkGap_X5_gaps rfl rfl rfl (by decide +kernel) ⟨Nat.le_of_ble_eq_true rfl, Nat.le_of_ble_eq_true rfl⟩) (by omega) (hUo t (by omega)).1 rfl rfl hl.1 rfl (lv_room (Nat.le_of_ble_eq_true rfl)) dX7_checkGap_11 ⟨Nat.le_of_ble_eq_true rfl, Nat.le_of_ble_eq_true rfl⟩) (fun r_ u H locs hp w => ?_)
    obtain ⟨hv, hu⟩ := hp
    subst hv
    have w : PW D G A s ad N c H locs := by rw [hu] at w; exact w
    clear hu
    refine pz_icmplt (tgt := 27) hx hb dX7_checkGap_14 (by decide) (⟨by omega, by omega⟩) (⟨by omega, by omega⟩) (fun h2 => ?_) (fun h2 => ?_)
    · exact fin (ad, N, c) c _ _ _ _ _ _ rfl rfl w dX7_checkGap_27 (Nat.le_refl _) (Nat.le_refl _)
    · omega

theorem wd_X7_checkGap_ck96 : Cond.classLink RX7 96 "java/lang/IndexOutOfBoundsException" ∈ wsX7_checkGap := by decide +kernel
theorem wd_X7_checkGap_ini96 : Cond.initialized "java/lang/IndexOutOfBoundsException" ∈ wsX7_checkGap := by decide +kernel
theorem ats_X7_checkGap_IO : ∀ w ∈ (vx_atS RX7 100 "java/lang/IndexOutOfBoundsException" ["java/lang/RuntimeException", "java/lang/Exception"]).filter goodWord, w ∈ wsX7_checkGap := fun w h => List.mem_cons_of_mem _ (List.mem_append_right _ h)
abbrev rx_X7_checkGap : Room := { frames := 6, cells := 1, slots := 6, locals := 180 }
set_option maxHeartbeats 4000000 in
set_option maxRecDepth 100000 in
theorem x_X7_checkGap (l : Launch) (hsT : l.stackTraces = false) (D : va_G) (G : Nat → ClassId) (ad : Nat → Nat) (N : Nat) (c : Nat → va_E) {lim : Int} {no dn : Nat} {gn : Nat → Nat} {gg : Nat → Nat → Nat} {dg nn : Nat → Nat} {pt ln : Nat → Nat → Nat} {wi : Nat → Nat → Int} (hN : 120 + 2 * no ≤ N) (hD : DK G ad c lim no dn gn gg dg nn pt ln wi) (hV : SV lim no dn gn gg dg nn pt ln wi) {t : Nat} (ht : t < 4) {z : Int} (hbz : bnd z) (hbad : ¬ (0 ≤ z ∧ z ≤ (nn t : Int) - 2)) : MX l yX7_checkGap wsX7_checkGap rx_X7_checkGap [.ref (ad 0), .int (zI (t : Int)), .int (zI z)] D G ad N c xIO (fx ad N) (fun c1 => c1 = c) 1 6 := by
  refine MX.of (cc := cX7_checkGap) (maxL := 3) (ret := none) (by decide) rfl (Nat.le_of_ble_eq_true rfl) ?_
  intro p e s m below meth kc A hx hb hr hts hown hml hlk hno w ls hl
  have hown : s.vm.findClass RX7 = some m.cls := hown
  have hl : lv_has ls 3 [(0, .ref (ad 0)), (1, .int (zI (t : Int))), (2, .int (zI z))] := hl
  obtain ⟨h0, hF, hB, hU, hTR, hTC, ⟨mz, lc, od, bt, hSS⟩, hJ⟩ := id hD
  obtain ⟨⟨ft, h15, hft⟩, hUo⟩ := id hU
  obtain ⟨hlim, hOV, hdn4, hdg, hUV⟩ := id hV
  have hlb : bnd lim := ⟨by omega, by omega⟩
  have hno8 := hOV.1
  have hBV : BookV no dn gn gg dg := ⟨hOV.1, hOV.2, hdn4, hdg⟩
  have hbz1 := hbz.1
  have hbz2 := hbz.2
  have hnt := (hUV t ht).1
  refine lv_iload_n hx hb dX7_checkGap_0 rfl (lv_at hl 2 rfl) ?_
  refine pz_iflt (tgt := 17) hx hb dX7_checkGap_1 (by decide) (⟨by omega, by omega⟩) (fun h1 => ?_) (fun h1 => ?_)
  · exact pw_throw (E0 := xIO) (text := "no such gap") (own := RX7) (names := ["java/lang/RuntimeException", "java/lang/Exception"]) (ik := 96) (is := 186) (ic := 100) (x := (ad, N, c)) hx hb hsT hno hlk w c rfl rfl hown rfl (by decide +kernel) (by decide +kernel) (hts _ wd_X7_checkGap_ck96) (hts _ wd_X7_checkGap_ini96) (by decide) (fun w h => hts _ (ats_X7_checkGap_IO w h)) og_IO (by decide) oa_IO (hl.1.trans hml.symm) dX7_checkGap_17 dX7_checkGap_20 dX7_checkGap_21 dX7_checkGap_23 dX7_checkGap_26 (Nat.le_of_ble_eq_true rfl) (Nat.le_of_ble_eq_true rfl) (Nat.le_of_ble_eq_true rfl) (Nat.le_of_ble_eq_true rfl) (Nat.le_of_ble_eq_true rfl) (Nat.le_of_ble_eq_true rfl)
  · refine lv_iload_n hx hb dX7_checkGap_4 rfl (lv_at hl 2 rfl) ?_
    refine lv_aload_n hx hb dX7_checkGap_5 rfl (lv_at hl 0 rfl) ?_
    refine pw_get (r := 0) (ci := 7) (C := RX7) (T := TX7) (Nf := 5) hx hb w hts hin_X7_checkGap_7 hown (by omega) h0 rfl 2 (by decide) (hts _ fl_X7_checkGap_25) (fun _ h9 => h9) rfl dX7_checkGap_6 ?_
    refine lv_iload_n hx hb dX7_checkGap_9 rfl (lv_at hl 1 rfl) ?_
    refine pw_aaldR (r := 15) (j := t) hx hb w (by omega) h15 rfl rfl (by omega) (by omega) (by decide) (16 + 14 * t) (hft t (by omega)) dX7_checkGap_10 ?_
    refine pw_ci w (pw_runV (r := (16 + 14 * t)) (ci := 5) (As := []) (rest := [.int (zI z)]) w ⟨hx, hb, hml, hown, hts⟩ (c_X5_gaps l D G ad N c (T := 16 + 14 * t) (n := nn t) ⟨by omega, by omega⟩ (by omega) (hUo t ht) (hUV t ht)) (cwV 0 hts gX7_checkGap_X5_gaps rfl rfl rfl (by decide +kernel) ⟨Nat.le_of_ble_eq_true rfl, Nat.le_of_ble_eq_true rfl⟩) (by omega) (hUo t (by omega)).1 rfl rfl hl.1 rfl (lv_room (Nat.le_of_ble_eq_true rfl)) dX7_checkGap_11 ⟨Nat.le_of_ble_eq_true rfl, Nat.le_of_ble_eq_true rfl⟩) (fun r_ u H locs hp w => ?_)
    obtain ⟨hv, hu⟩ := hp
    subst hv
    have w : PW D G A s ad N c H locs := by rw [hu] at w; exact w
    clear hu
    refine pz_icmplt (tgt := 27) hx hb dX7_checkGap_14 (by decide) (⟨by omega, by omega⟩) (⟨by omega, by omega⟩) (fun h2 => ?_) (fun h2 => ?_)
    · omega
    · exact pw_throw (E0 := xIO) (text := "no such gap") (own := RX7) (names := ["java/lang/RuntimeException", "java/lang/Exception"]) (ik := 96) (is := 186) (ic := 100) (x := (ad, N, c)) hx hb hsT hno hlk w c rfl rfl hown rfl (by decide +kernel) (by decide +kernel) (hts _ wd_X7_checkGap_ck96) (hts _ wd_X7_checkGap_ini96) (by decide) (fun w h => hts _ (ats_X7_checkGap_IO w h)) og_IO (by decide) oa_IO (hl.1.trans hml.symm) dX7_checkGap_17 dX7_checkGap_20 dX7_checkGap_21 dX7_checkGap_23 dX7_checkGap_26 (Nat.le_of_ble_eq_true rfl) (Nat.le_of_ble_eq_true rfl) (Nat.le_of_ble_eq_true rfl) (Nat.le_of_ble_eq_true rfl) (Nat.le_of_ble_eq_true rfl) (Nat.le_of_ble_eq_true rfl)
