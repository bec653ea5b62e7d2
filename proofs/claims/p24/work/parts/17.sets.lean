/-- SetSearch at the role 98 -/
def SS (G : Nat → ClassId) (ad : Nat → Nat) (c : Nat → va_E) (mz : Nat) (lc : Int) (od bt : Nat → Nat) : Prop :=
  c 98 = .inr (4, [.ref (ad 99), .ref (ad 116), .ref (ad 118), .ref (ad 119), .int (zI (mz : Int)), .int (zI lc)]) ∧ (∃ f : Nat → Option Nat, c 99 = rfs 2 G 16 f ∧ ∀ i, i < 16 → f i = some (ad (100 + i))) ∧ c 116 = .inr (1, [.ref (ad 117)]) ∧ (∃ g, isA 0 G (c 117) 9 g) ∧
  isA 0 G (c 118) 4 (fun j => (od j : Int)) ∧ isA 0 G (c 119) 4 (fun j => (bt j : Int))
theorem SS.fr {G : Nat → ClassId} {ad : Nat → Nat} {c c1 : Nat → va_E} {mz : Nat} {lc : Int} {od bt : Nat → Nat} (h : SS G ad c mz lc od bt) (hf : ∀ q, q = 98 ∨ q = 99 ∨ (116 ≤ q ∧ q < 120) → c1 q = c q) : SS G ad c1 mz lc od bt := by
  obtain ⟨h1, ⟨f, h2, h3⟩, h4, ⟨g, h5⟩, h6, h7⟩ := h
  exact ⟨(hf _ (by omega)).trans h1, ⟨f, (hf _ (by omega)).trans h2, h3⟩, (hf _ (by omega)).trans h4, ⟨g, isA.fr (hf _ (by omega)) h5⟩, isA.fr (hf _ (by omega)) h6, isA.fr (hf _ (by omega)) h7⟩
/-- the four tunes -/
def Tus (G : Nat → ClassId) (ad : Nat → Nat) (c : Nat → va_E) (nn : Nat → Nat) (pt ln : Nat → Nat → Nat) (wi : Nat → Nat → Int) : Prop :=
  (∃ f : Nat → Option Nat, c 15 = rfs 5 G 4 f ∧ ∀ t, t < 4 → f t = some (ad (16 + 14 * t))) ∧ ∀ t, t < 4 → TuneO G ad c (16 + 14 * t) (nn t) (pt t) (ln t) (wi t)
def TusV (nn : Nat → Nat) (pt ln : Nat → Nat → Nat) (wi : Nat → Nat → Int) : Prop := ∀ t, t < 4 → TuneV (nn t) (pt t) (ln t) (wi t)
theorem Tus.fr {G : Nat → ClassId} {ad : Nat → Nat} {c c1 : Nat → va_E} {nn : Nat → Nat} {pt ln : Nat → Nat → Nat} {wi : Nat → Nat → Int} (h : Tus G ad c nn pt ln wi) (hf : ∀ q, q = 15 ∨ (16 ≤ q ∧ q < 72 ∧ (q - 16) % 14 < 5) → c1 q = c q) : Tus G ad c1 nn pt ln wi := by
  obtain ⟨⟨f, h1, h2⟩, h3⟩ := h
  exact ⟨⟨f, (hf _ (by omega)).trans h1, h2⟩, fun t ht => (h3 t ht).fr (fun q q1 q2 => hf q (by omega))⟩
/-- the gaps' costs of all tunes -/
def GWs (G : Nat → ClassId) (c : Nat → va_E) (nn : Nat → Nat) (cw : Nat → Nat → Nat → Int) : Prop := ∀ t, t < 4 → GW G c (16 + 14 * t) (nn t) (cw t)
theorem GWs.fr {G : Nat → ClassId} {c c1 : Nat → va_E} {nn : Nat → Nat} {cw : Nat → Nat → Nat → Int} (h : GWs G c nn cw) (hn : ∀ t, t < 4 → nn t ≤ 10) (hf : ∀ q, 16 ≤ q ∧ q < 72 ∧ 5 ≤ (q - 16) % 14 → c1 q = c q) : GWs G c1 nn cw := fun t ht => (h t ht).fr (hn t ht) (fun q q1 q2 => hf q (by omega))

theorem hin_X4_size_4 : ∀ w ∈ u_ws RX4 TX4 6, w ∈ wsX4_size := by decide +kernel
theorem fl_X4_size_30 : Cond.fieldLink RX4 30 "PipersDesk$SetSearch" "size" "I" ∈ wsX4_size := by decide +kernel
abbrev rm_X4_size : Room := { frames := 0, cells := 0, slots := 0, locals := 0 }
set_option maxHeartbeats 4000000 in
set_option maxRecDepth 100000 in
/-- SetSearch.size -/
theorem c_X4_size (l : Launch) (D : va_G) (G : Nat → ClassId) (ad : Nat → Nat) (N : Nat) (c : Nat → va_E) {mz : Nat} {lc : Int} {od bt : Nat → Nat} (hN : 120 ≤ N) (hS : SS G ad c mz lc od bt) : MC l yX4_size wsX4_size rm_X4_size [.ref (ad 98)] D G ad N c (qI D G (fx ad N) (fun v c1 => v = zI (mz : Int) ∧ c1 = c)) 0 0 := by
  refine MCi.of (cc := cX4_size) (maxL := 1) (by decide) rfl (Nat.le_of_ble_eq_true rfl) ?_
  intro p e s m args below meth kc A Q hx hb hts hown hml fin H locs w ls hl
  have hown : s.vm.findClass RX4 = some m.cls := hown
  have hl : lv_has ls 1 [(0, .ref (ad 98))] := hl
  obtain ⟨s1, ⟨fs, s2, s3⟩, s4, ⟨g117, s5⟩, s6, s7⟩ := id hS
  refine lv_aload_n hx hb dX4_size_0 rfl (lv_at hl 0 rfl) ?_
  refine pw_get (r := 98) (ci := 4) (C := RX4) (T := TX4) (Nf := 6) hx hb w hts hin_X4_size_4 hown (by omega) s1 rfl 4 (by decide) (hts _ fl_X4_size_30) (fun _ h9 => h9) rfl dX4_size_1 ?_
  exact fin (ad, N, c) c _ _ _ _ _ _ _ rfl ⟨rfl, rfl⟩ w dX4_size_4 (Nat.le_refl _) (Nat.le_refl _)

theorem hin_X4_leastCost_4 : ∀ w ∈ u_ws RX4 TX4 6, w ∈ wsX4_leastCost := by decide +kernel
theorem fl_X4_leastCost_34 : Cond.fieldLink RX4 34 "PipersDesk$SetSearch" "leastCost" "I" ∈ wsX4_leastCost := by decide +kernel
abbrev rm_X4_leastCost : Room := { frames := 0, cells := 0, slots := 0, locals := 0 }
set_option maxHeartbeats 4000000 in
set_option maxRecDepth 100000 in
/-- SetSearch.leastCost -/
theorem c_X4_leastCost (l : Launch) (D : va_G) (G : Nat → ClassId) (ad : Nat → Nat) (N : Nat) (c : Nat → va_E) {mz : Nat} {lc : Int} {od bt : Nat → Nat} (hN : 120 ≤ N) (hS : SS G ad c mz lc od bt) : MC l yX4_leastCost wsX4_leastCost rm_X4_leastCost [.ref (ad 98)] D G ad N c (qI D G (fx ad N) (fun v c1 => v = zI lc ∧ c1 = c)) 0 0 := by
  refine MCi.of (cc := cX4_leastCost) (maxL := 1) (by decide) rfl (Nat.le_of_ble_eq_true rfl) ?_
  intro p e s m args below meth kc A Q hx hb hts hown hml fin H locs w ls hl
  have hown : s.vm.findClass RX4 = some m.cls := hown
  have hl : lv_has ls 1 [(0, .ref (ad 98))] := hl
  obtain ⟨s1, ⟨fs, s2, s3⟩, s4, ⟨g117, s5⟩, s6, s7⟩ := id hS
  refine lv_aload_n hx hb dX4_leastCost_0 rfl (lv_at hl 0 rfl) ?_
  refine pw_get (r := 98) (ci := 4) (C := RX4) (T := TX4) (Nf := 6) hx hb w hts hin_X4_leastCost_4 hown (by omega) s1 rfl 5 (by decide) (hts _ fl_X4_leastCost_34) (fun _ h9 => h9) rfl dX4_leastCost_1 ?_
  exact fin (ad, N, c) c _ _ _ _ _ _ _ rfl ⟨rfl, rfl⟩ w dX4_leastCost_4 (Nat.le_refl _) (Nat.le_refl _)

theorem hin_X4_bestAt_4 : ∀ w ∈ u_ws RX4 TX4 6, w ∈ wsX4_bestAt := by decide +kernel
theorem fl_X4_bestAt_27 : Cond.fieldLink RX4 27 "PipersDesk$SetSearch" "best" "[I" ∈ wsX4_bestAt := by decide +kernel
abbrev rm_X4_bestAt : Room := { frames := 0, cells := 0, slots := 0, locals := 0 }
set_option maxHeartbeats 4000000 in
set_option maxRecDepth 100000 in
/-- SetSearch.bestAt -/
theorem c_X4_bestAt (l : Launch) (D : va_G) (G : Nat → ClassId) (ad : Nat → Nat) (N : Nat) (c : Nat → va_E) {mz : Nat} {lc : Int} {od bt : Nat → Nat} (hN : 120 ≤ N) (hS : SS G ad c mz lc od bt) {i : Nat} (hi : i < 4) : MC l yX4_bestAt wsX4_bestAt rm_X4_bestAt [.ref (ad 98), .int (zI (i : Int))] D G ad N c (qI D G (fx ad N) (fun v c1 => v = zI (bt i : Int) ∧ c1 = c)) 0 0 := by
  refine MCi.of (cc := cX4_bestAt) (maxL := 2) (by decide) rfl (Nat.le_of_ble_eq_true rfl) ?_
  intro p e s m args below meth kc A Q hx hb hts hown hml fin H locs w ls hl
  have hown : s.vm.findClass RX4 = some m.cls := hown
  have hl : lv_has ls 2 [(0, .ref (ad 98)), (1, .int (zI (i : Int)))] := hl
  obtain ⟨s1, ⟨fs, s2, s3⟩, s4, ⟨g117, s5⟩, s6, s7⟩ := id hS
  refine lv_aload_n hx hb dX4_bestAt_0 rfl (lv_at hl 0 rfl) ?_
  refine pw_get (r := 98) (ci := 4) (C := RX4) (T := TX4) (Nf := 6) hx hb w hts hin_X4_bestAt_4 hown (by omega) s1 rfl 3 (by decide) (hts _ fl_X4_bestAt_27) (fun _ h9 => h9) rfl dX4_bestAt_1 ?_
  refine lv_iload_n hx hb dX4_bestAt_4 rfl (lv_at hl 1 rfl) ?_
  refine pw_iald (r := 119) (j := i) hx hb w (by omega) s7 (by omega) (by omega) (by decide) dX4_bestAt_5 ?_
  exact fin (ad, N, c) c _ _ _ _ _ _ _ rfl ⟨rfl, rfl⟩ w dX4_bestAt_6 (Nat.le_refl _) (Nat.le_refl _)

theorem hin_X4_exchange_4 : ∀ w ∈ u_ws RX4 TX4 6, w ∈ wsX4_exchange := by decide +kernel
theorem fl_X4_exchange_23 : Cond.fieldLink RX4 23 "PipersDesk$SetSearch" "order" "[I" ∈ wsX4_exchange := by decide +kernel
abbrev rm_X4_exchange : Room := { frames := 0, cells := 0, slots := 0, locals := 0 }
set_option maxHeartbeats 4000000 in
set_option maxRecDepth 100000 in
/-- SetSearch.exchange -/
theorem c_X4_exchange (l : Launch) (D : va_G) (G : Nat → ClassId) (ad : Nat → Nat) (N : Nat) (c : Nat → va_E) {mz : Nat} {lc : Int} {od bt : Nat → Nat} (hN : 120 ≤ N) (hS : SS G ad c mz lc od bt) {x y : Nat} (hx4 : x < 4) (hy4 : y < 4) : MC l yX4_exchange wsX4_exchange rm_X4_exchange [.ref (ad 98), .int (zI (x : Int)), .int (zI (y : Int))] D G ad N c (qV D G (fx ad N) (fun c1 => isA 0 G (c1 118) 4 (fun j => (exF od x y j : Int)) ∧ ∀ q, q ≠ 118 → c1 q = c q)) 0 0 := by
  refine MCv.of (cc := cX4_exchange) (maxL := 4) (by decide) rfl (Nat.le_of_ble_eq_true rfl) ?_
  intro p e s m args below meth kc A Q hx hb hts hown hml hin2 fin H locs w ls hl
  have hown : s.vm.findClass RX4 = some m.cls := hown
  have hl : lv_has ls 4 [(0, .ref (ad 98)), (1, .int (zI (x : Int))), (2, .int (zI (y : Int)))] := hl
  obtain ⟨s1, ⟨fs, s2, s3⟩, s4, ⟨g117, s5⟩, s6, s7⟩ := id hS
  refine lv_aload_n hx hb dX4_exchange_0 rfl (lv_at hl 0 rfl) ?_
  refine pw_get (r := 98) (ci := 4) (C := RX4) (T := TX4) (Nf := 6) hx hb w hts hin_X4_exchange_4 hown (by omega) s1 rfl 2 (by decide) (hts _ fl_X4_exchange_23) (fun _ h9 => h9) rfl dX4_exchange_1 ?_
  refine lv_iload_n hx hb dX4_exchange_4 rfl (lv_at hl 1 rfl) ?_
  refine pw_iald (r := 118) (j := x) hx hb w (by omega) s6 (by omega) (by omega) (by decide) dX4_exchange_5 ?_
  refine lv_istore_n (lv' := [(3, .int (zI ((fun j => (od j : Int)) x))), (0, .ref (ad 98)), (1, .int (zI (x : Int))), (2, .int (zI (y : Int)))]) hx hb dX4_exchange_6 rfl hl (by decide) rfl (fun ls hl => ?_)
  refine lv_aload_n hx hb dX4_exchange_7 rfl (lv_at hl 1 rfl) ?_
  refine pw_get (r := 98) (ci := 4) (C := RX4) (T := TX4) (Nf := 6) hx hb w hts hin_X4_exchange_4 hown (by omega) s1 rfl 2 (by decide) (hts _ fl_X4_exchange_23) (fun _ h9 => h9) rfl dX4_exchange_8 ?_
  refine lv_iload_n hx hb dX4_exchange_11 rfl (lv_at hl 2 rfl) ?_
  refine lv_aload_n hx hb dX4_exchange_12 rfl (lv_at hl 1 rfl) ?_
  refine pw_get (r := 98) (ci := 4) (C := RX4) (T := TX4) (Nf := 6) hx hb w hts hin_X4_exchange_4 hown (by omega) s1 rfl 2 (by decide) (hts _ fl_X4_exchange_23) (fun _ h9 => h9) rfl dX4_exchange_13 ?_
  refine lv_iload_n hx hb dX4_exchange_16 rfl (lv_at hl 3 rfl) ?_
  refine pw_iald (r := 118) (j := y) hx hb w (by omega) s6 (by omega) (by omega) (by decide) dX4_exchange_17 ?_
  refine pw_iast' (r := 118) (j := x) hx hb w (by omega) s6 (by omega) (by omega) (by decide) dX4_exchange_18 (fun H locs c1 hc1 fr1 w => ?_)
  refine lv_aload_n hx hb dX4_exchange_19 rfl (lv_at hl 1 rfl) ?_
  refine pw_get (r := 98) (ci := 4) (C := RX4) (T := TX4) (Nf := 6) hx hb w hts hin_X4_exchange_4 hown (by omega) ((fr1 98 (by omega)).trans s1) rfl 2 (by decide) (hts _ fl_X4_exchange_23) (fun _ h9 => h9) rfl dX4_exchange_20 ?_
  refine lv_iload_n hx hb dX4_exchange_23 rfl (lv_at hl 3 rfl) ?_
  refine lv_iload_n hx hb dX4_exchange_24 rfl (lv_at hl 0 rfl) ?_
  refine pw_iast' (r := 118) (j := y) hx hb w (by omega) hc1 (by omega) (by omega) (by decide) dX4_exchange_25 (fun H locs c2 hc2 fr2 w => ?_)
  have hA : isA 0 G (c2 118) 4 (fun j => (exF od x y j : Int)) := hc2.to (fun j hj => by
    unfold upI exF
    by_cases h1 : j = y
    · simp [h1]
    · by_cases h2 : j = x
      · have h3 : ¬ x = y := by omega
        simp [h1, h2, h3]
      · simp [h1, h2])
  exact fin (ad, N, c2) c2 _ _ _ _ _ _ rfl ⟨hA, fun q hq => ((fr2 q (by omega)).trans ((fr1 q (by omega)).trans rfl))⟩ w dX4_exchange_26 (Nat.le_refl _) (Nat.le_refl _)

theorem hin_X4_startOrder_4 : ∀ w ∈ u_ws RX4 TX4 6, w ∈ wsX4_startOrder := by decide +kernel
theorem fl_X4_startOrder_30 : Cond.fieldLink RX4 30 "PipersDesk$SetSearch" "size" "I" ∈ wsX4_startOrder := by decide +kernel
theorem fl_X4_startOrder_23 : Cond.fieldLink RX4 23 "PipersDesk$SetSearch" "order" "[I" ∈ wsX4_startOrder := by decide +kernel
abbrev rm_X4_startOrder : Room := { frames := 1, cells := 0, slots := 0, locals := 30 }
set_option maxHeartbeats 4000000 in
set_option maxRecDepth 100000 in
/-- SetSearch.startOrder -/
theorem c_X4_startOrder (l : Launch) (D : va_G) (G : Nat → ClassId) (ad : Nat → Nat) (N : Nat) (c : Nat → va_E) {mz : Nat} {lc : Int} {od bt : Nat → Nat} (hN : 120 ≤ N) (hS : SS G ad c mz lc od bt) {nn : Nat → Nat} {pt ln : Nat → Nat → Nat} {wi : Nat → Nat → Int} (hU : Tus G ad c nn pt ln wi) (hUV : TusV nn pt ln wi) : MC l yX4_startOrder wsX4_startOrder rm_X4_startOrder [.ref (ad 98), .ref (ad 15)] D G ad N c (qV D G (fx ad N) (fun c1 => c1 98 = .inr (4, [.ref (ad 99), .ref (ad 116), .ref (ad 118), .ref (ad 119), .int (zI ((sO nn od 4).1 : Int)), .int (zI lc)]) ∧ isA 0 G (c1 118) 4 (fun j => ((sO nn od 4).2 j : Int)) ∧ ∀ q, q ≠ 98 ∧ q ≠ 118 → c1 q = c q)) 0 0 := by
  refine MCv.of (cc := cX4_startOrder) (maxL := 3) (by decide) rfl (Nat.le_of_ble_eq_true rfl) ?_
  intro p e s m args below meth kc A Q hx hb hts hown hml hin2 fin H locs w ls hl
  have hown : s.vm.findClass RX4 = some m.cls := hown
  have hl : lv_has ls 3 [(0, .ref (ad 98)), (1, .ref (ad 15))] := hl
  obtain ⟨s1, ⟨fs, s2, s3⟩, s4, ⟨g117, s5⟩, s6, s7⟩ := id hS
  obtain ⟨⟨fu, u1, u2⟩, u3⟩ := id hU
  refine lv_aload_n hx hb dX4_startOrder_0 rfl (lv_at hl 0 rfl) ?_
  refine lv_iconst (v := zI (0)) hx hb dX4_startOrder_1 rfl ?_
  refine pw_put' (r := 98) (ci := 4) (C := RX4) (T := TX4) (Nf := 6) hx hb w hts hin_X4_startOrder_4 tyX4 tyX4_ok nmX4 hown (by omega) s1 rfl 4 (by decide) (hts _ fl_X4_startOrder_30) (fun _ h9 => h9) rfl (ty := .int) (by decide +kernel) rfl rfl (Nat.le_of_ble_eq_true rfl) dX4_startOrder_2 (fun H locs c1 hc1 fr1 w => ?_)
  refine lv_iconst (v := zI (0)) hx hb dX4_startOrder_5 rfl ?_
  refine lv_istore_n (lv' := [(2, .int (zI 0)), (0, .ref (ad 98)), (1, .ref (ad 15))]) hx hb dX4_startOrder_6 rfl hl (by decide) rfl (fun ls hl => ?_)
  have lp : ∀ (f : Nat) (t : Nat) (c1 : Nat → va_E) (H : Heap) (locs : List Loc) (ls : Array Slot), t ≤ 4 → c1 98 = .inr (4, [.ref (ad 99), .ref (ad 116), .ref (ad 118), .ref (ad 119), .int (zI ((sO nn od t).1 : Int)), .int (zI lc)]) → isA 0 G (c1 118) 4 (fun j => ((sO nn od t).2 j : Int)) → (∀ q, q ≠ 98 ∧ q ≠ 118 → c1 q = c q) → 4 < t + f → PW D G A s ad N c1 H locs → lv_has ls 3 [(0, .ref (ad 98)), (1, .ref (ad 15)), (2, .int (zI (t : Int)))] → W p l e rm_X4_startOrder s m args below meth kc H locs 0 0 Q (F0 m 7 ls []) := by
    intro f
    induction f with
    | zero => intro t c1 H locs ls h9 h98 hA hf hfu w hl; omega
    | succ f ih =>
      intro t c1 H locs ls h9 h98 hA hf hfu w hl
      have hle := (sO_le nn od t).1
      refine lv_iload_n hx hb dX4_startOrder_7 rfl (lv_at hl 2 rfl) ?_
      refine lv_iconst (v := zI (4)) hx hb dX4_startOrder_8 rfl ?_
      refine pz_icmpge (tgt := 47) hx hb dX4_startOrder_9 (by decide) (⟨by omega, by omega⟩) (⟨by omega, by omega⟩) (fun ht => ?_) (fun ht => ?_)
      · have t4 : t = 4 := by omega
        subst t4
        exact fin (ad, N, c1) c1 _ _ _ _ _ _ rfl ⟨h98, hA, hf⟩ w dX4_startOrder_47 (Nat.le_refl _) (Nat.le_refl _)
      · have hU1 := hU.fr (c1 := c1) (fun q hq => hf q (by omega))
        refine lv_aload_n hx hb dX4_startOrder_12 rfl (lv_at hl 1 rfl) ?_
        refine lv_iload_n hx hb dX4_startOrder_13 rfl (lv_at hl 2 rfl) ?_
        refine pw_aaldR (r := 15) (j := t) hx hb w (by omega) ((hf 15 (by omega)).trans u1) rfl rfl (by omega) (by omega) (by decide) (16 + 14 * t) (u2 t (by omega)) dX4_startOrder_14 ?_
        refine pw_ci w (pw_runV (r := (16 + 14 * t)) (ci := 5) (As := []) (rest := []) w ⟨hx, hb, hml, hown, hts⟩ (c_X5_size l D G ad N c1 (T := 16 + 14 * t) (by omega) hN (hU1.2 t (by omega)) (hUV t (by omega))) (cwV 0 hts gX4_startOrder_X5_size rfl rfl rfl (by decide +kernel) ⟨Nat.le_of_ble_eq_true rfl, Nat.le_of_ble_eq_true rfl⟩) (by omega) (hU1.2 t (by omega)).1 rfl rfl hl.1 rfl (lv_room (Nat.le_of_ble_eq_true rfl)) dX4_startOrder_15 ⟨Nat.le_of_ble_eq_true rfl, Nat.le_of_ble_eq_true rfl⟩) (fun r_ u H locs hp w => ?_)
        obtain ⟨hv, hu⟩ := hp
        subst hv
        have w : PW D G A s ad N c1 H locs := by rw [hu] at w; exact w
        clear hu
        have hnn := (hUV t (by omega)).1
        refine pz_ifle (tgt := 41) hx hb dX4_startOrder_18 (by decide) (⟨by omega, by omega⟩) (fun hn => ?_) (fun hn => ?_)
        · have e9 : sO nn od (t + 1) = sO nn od t := by rw [sO, if_neg (by omega)]
          refine pz_iinc (lv' := [(2, .int (zI ((t + 1 : Nat) : Int))), (0, .ref (ad 98)), (1, .ref (ad 15))]) hx hb dX4_startOrder_41 hl (j := 2) rfl ((t + 1 : Nat) : Int) (by omega) (by decide) rfl (fun ls hl => ?_)
          refine lv_goto (tgt := 7) hx hb dX4_startOrder_44 (by decide) ?_
          exact ih (t + 1) c1 H locs ls (by omega) (by rw [e9]; exact h98) (by rw [e9]; exact hA) hf (by omega) w (lv_sub hl [1, 2, 0] rfl)
        · have e9 : sO nn od (t + 1) = ((sO nn od t).1 + 1, upN (sO nn od t).2 (sO nn od t).1 t) := by rw [sO, if_pos (by omega)]
          refine lv_aload_n hx hb dX4_startOrder_21 rfl (lv_at hl 0 rfl) ?_
          refine pw_get (r := 98) (ci := 4) (C := RX4) (T := TX4) (Nf := 6) hx hb w hts hin_X4_startOrder_4 hown (by omega) h98 rfl 2 (by decide) (hts _ fl_X4_startOrder_23) (fun _ h9 => h9) rfl dX4_startOrder_22 ?_
          refine lv_aload_n hx hb dX4_startOrder_25 rfl (lv_at hl 0 rfl) ?_
          refine pw_get (r := 98) (ci := 4) (C := RX4) (T := TX4) (Nf := 6) hx hb w hts hin_X4_startOrder_4 hown (by omega) h98 rfl 4 (by decide) (hts _ fl_X4_startOrder_30) (fun _ h9 => h9) rfl dX4_startOrder_26 ?_
          refine lv_iload_n hx hb dX4_startOrder_29 rfl (lv_at hl 2 rfl) ?_
          refine pw_iast' (r := 118) (j := ((sO nn od t).1)) hx hb w (by omega) hA (by omega) (by omega) (by decide) dX4_startOrder_30 (fun H locs c2 hc2 fr2 w => ?_)
          refine lv_aload_n hx hb dX4_startOrder_31 rfl (lv_at hl 0 rfl) ?_
          refine lv_dup hx hb dX4_startOrder_32 rfl ?_
          refine pw_get (r := 98) (ci := 4) (C := RX4) (T := TX4) (Nf := 6) hx hb w hts hin_X4_startOrder_4 hown (by omega) ((fr2 98 (by omega)).trans h98) rfl 4 (by decide) (hts _ fl_X4_startOrder_30) (fun _ h9 => h9) rfl dX4_startOrder_33 ?_
          refine lv_iconst (v := zI (1)) hx hb dX4_startOrder_36 rfl ?_
          refine pz_iadd hx hb dX4_startOrder_37 ?_
          refine pw_put' (r := 98) (ci := 4) (C := RX4) (T := TX4) (Nf := 6) hx hb w hts hin_X4_startOrder_4 tyX4 tyX4_ok nmX4 hown (by omega) ((fr2 98 (by omega)).trans h98) rfl 4 (by decide) (hts _ fl_X4_startOrder_30) (fun _ h9 => h9) rfl (ty := .int) (by decide +kernel) rfl rfl (Nat.le_of_ble_eq_true rfl) dX4_startOrder_38 (fun H locs c3 hc3 fr3 w => ?_)
          refine pz_iinc (lv' := [(2, .int (zI ((t + 1 : Nat) : Int))), (0, .ref (ad 98)), (1, .ref (ad 15))]) hx hb dX4_startOrder_41 hl (j := 2) rfl ((t + 1 : Nat) : Int) (by omega) (by decide) rfl (fun ls hl => ?_)
          refine lv_goto (tgt := 7) hx hb dX4_startOrder_44 (by decide) ?_
          exact ih (t + 1) c3 H locs ls (by omega) (by rw [e9]; exact hc3) (by rw [e9]; exact (isA.fr (fr3 118 (by omega)) hc2).to (fun j hj => by unfold upI upN; by_cases h : j = (sO nn od t).1 <;> simp [h])) (fun q hq => ((fr3 q (by omega)).trans ((fr2 q (by omega)).trans (hf q hq)))) (by omega) w (lv_sub hl [1, 2, 0] rfl)
  exact lp 5 0 c1 H locs ls (by omega) hc1 (isA.fr (fr1 118 (by omega)) s6) (fun q hq => fr1 q (by omega)) (by omega) w (lv_sub hl [1, 2, 0] rfl)

theorem hin_X4_goToNextOrder_4 : ∀ w ∈ u_ws RX4 TX4 6, w ∈ wsX4_goToNextOrder := by decide +kernel
theorem fl_X4_goToNextOrder_30 : Cond.fieldLink RX4 30 "PipersDesk$SetSearch" "size" "I" ∈ wsX4_goToNextOrder := by decide +kernel
theorem fl_X4_goToNextOrder_23 : Cond.fieldLink RX4 23 "PipersDesk$SetSearch" "order" "[I" ∈ wsX4_goToNextOrder := by decide +kernel
abbrev rm_X4_goToNextOrder : Room := { frames := 1, cells := 0, slots := 0, locals := 30 }
set_option maxHeartbeats 4000000 in
set_option maxRecDepth 100000 in
/-- SetSearch.goToNextOrder -/
theorem c_X4_goToNextOrder (l : Launch) (D : va_G) (G : Nat → ClassId) (ad : Nat → Nat) (N : Nat) (c : Nat → va_E) {mz : Nat} {lc : Int} {od bt : Nat → Nat} (hN : 120 ≤ N) (hS : SS G ad c mz lc od bt) (hm4 : mz ≤ 4) (hod : ∀ j, j < mz → od j < 4) : MC l yX4_goToNextOrder wsX4_goToNextOrder rm_X4_goToNextOrder [.ref (ad 98)] D G ad N c (qI D G (fx ad N) (fun v c1 => v = zI (if tnF od (mz - 1) = 0 then 0 else 1) ∧ isA 0 G (c1 118) 4 (fun j => (nxO mz od j : Int)) ∧ ∀ q, q ≠ 118 → c1 q = c q)) 0 0 := by
  refine MCz.of (cc := cX4_goToNextOrder) (maxL := 5) (by decide) rfl (Nat.le_of_ble_eq_true rfl) ?_
  intro p e s m args below meth kc A Q hx hb hts hown hml fin H locs w ls hl
  have hown : s.vm.findClass RX4 = some m.cls := hown
  have hl : lv_has ls 5 [(0, .ref (ad 98))] := hl
  obtain ⟨s1, ⟨fs, s2, s3⟩, s4, ⟨g117, s5⟩, s6, s7⟩ := id hS
  have htn := tnF_le od (mz - 1)
  refine lv_aload_n hx hb dX4_goToNextOrder_0 rfl (lv_at hl 0 rfl) ?_
  refine pw_get (r := 98) (ci := 4) (C := RX4) (T := TX4) (Nf := 6) hx hb w hts hin_X4_goToNextOrder_4 hown (by omega) s1 rfl 4 (by decide) (hts _ fl_X4_goToNextOrder_30) (fun _ h9 => h9) rfl dX4_goToNextOrder_1 ?_
  refine lv_iconst (v := zI (2)) hx hb dX4_goToNextOrder_4 rfl ?_
  refine pz_isub hx hb dX4_goToNextOrder_5 ?_
  refine lv_istore_n (lv' := [(1, .int (zI ((mz : Int) - 2))), (0, .ref (ad 98))]) hx hb dX4_goToNextOrder_6 rfl hl (by decide) rfl (fun ls hl => ?_)
  by_cases hm0 : mz = 0
  · subst hm0
    have htz : tnF od (0 - 1) = 0 := rfl
    refine lv_iload_n hx hb dX4_goToNextOrder_7 rfl (lv_at hl 0 rfl) ?_
    refine pz_iflt (tgt := 34) hx hb dX4_goToNextOrder_8 (by decide) (⟨by omega, by omega⟩) (fun h1 => ?_) (fun h1 => ?_)
    · refine lv_iload_n hx hb dX4_goToNextOrder_34 rfl (lv_at hl 0 rfl) ?_
      refine pz_ifge (tgt := 40) hx hb dX4_goToNextOrder_35 (by decide) (⟨by omega, by omega⟩) (fun h2 => ?_) (fun h2 => ?_)
      · exfalso; omega
      · refine lv_iconst (v := zI (0)) hx hb dX4_goToNextOrder_38 rfl ?_
        exact fin (ad, N, c) c _ _ _ _ _ _ _ rfl (Or.inl rfl) ⟨by rw [if_pos htz], by unfold nxO; rw [if_pos htz]; exact s6, fun _ _ => rfl⟩ w dX4_goToNextOrder_39 (Nat.le_refl _) (Nat.le_refl _)
    · exfalso; omega
  · have lp : ∀ (f k : Nat) (ls : Array Slot), k ≤ mz - 1 → tnF od (mz - 1) = tnF od k → k < f → lv_has ls 5 [(0, .ref (ad 98)), (1, .int (zI ((k : Int) - 1)))] → W p l e rm_X4_goToNextOrder s m args below meth kc H locs 0 0 Q (F0 m 7 ls []) := by
      intro f
      induction f with
      | zero => intro k ls hk he hfu hl; omega
      | succ f ih =>
        intro k ls hk he hfu hl
        refine lv_iload_n hx hb dX4_goToNextOrder_7 rfl (lv_at hl 1 rfl) ?_
        refine pz_iflt (tgt := 34) hx hb dX4_goToNextOrder_8 (by decide) (⟨by omega, by omega⟩) (fun hk1 => ?_) (fun hk1 => ?_)
        · have hkz : k = 0 := by omega
          have htk : tnF od (mz - 1) = k := by rw [he, hkz]; rfl
          refine lv_iload_n hx hb dX4_goToNextOrder_34 rfl (lv_at hl 1 rfl) ?_
          refine pz_ifge (tgt := 40) hx hb dX4_goToNextOrder_35 (by decide) (⟨by omega, by omega⟩) (fun hge => ?_) (fun hge => ?_)
          · have hk0 : 0 < k := by omega
            refine lv_aload_n hx hb dX4_goToNextOrder_40 rfl (lv_at hl 0 rfl) ?_
            refine pw_get (r := 98) (ci := 4) (C := RX4) (T := TX4) (Nf := 6) hx hb w hts hin_X4_goToNextOrder_4 hown (by omega) s1 rfl 4 (by decide) (hts _ fl_X4_goToNextOrder_30) (fun _ h9 => h9) rfl dX4_goToNextOrder_41 ?_
            refine lv_iconst (v := zI (1)) hx hb dX4_goToNextOrder_44 rfl ?_
            refine pz_isub hx hb dX4_goToNextOrder_45 ?_
            refine pz_top (b := ((mz - 1 : Nat) : Int)) (by omega) ?_
            refine lv_istore_n (lv' := [(2, .int (zI ((mz - 1 : Nat) : Int))), (0, .ref (ad 98)), (1, .int (zI ((k : Int) - 1)))]) hx hb dX4_goToNextOrder_46 rfl hl (by decide) rfl (fun ls hl => ?_)
            have lq : ∀ (f2 x : Nat) (ls : Array Slot), x ≤ mz - 1 → k - 1 < x + 1 → nxF od (k - 1) (mz - 1) = nxF od (k - 1) x → x < f2 → lv_has ls 5 [(0, .ref (ad 98)), (1, .int (zI ((k : Int) - 1))), (2, .int (zI (x : Int)))] → W p l e rm_X4_goToNextOrder s m args below meth kc H locs 0 0 Q (F0 m 47 ls []) := by
              intro f2
              induction f2 with
              | zero => intro x ls hx1 hx2 he2 hfu hl; omega
              | succ f2 ih2 =>
                intro x ls hx1 hx2 he2 hfu hl
                refine lv_iload_n hx hb dX4_goToNextOrder_47 rfl (lv_at hl 2 rfl) ?_
                refine lv_iload_n hx hb dX4_goToNextOrder_48 rfl (lv_at hl 1 rfl) ?_
                refine pz_icmple (tgt := 73) hx hb dX4_goToNextOrder_49 (by decide) (⟨by omega, by omega⟩) (⟨by omega, by omega⟩) (fun hgt => ?_) (fun hgt => ?_)
                · have he3 : nxF od (k - 1) (mz - 1) = x := by
                    rw [he2]
                    cases x with
                    | zero => rfl
                    | succ x => rw [nxF, if_neg (by omega)]
                  refine lv_aload_n hx hb dX4_goToNextOrder_73 rfl (lv_at hl 0 rfl) ?_
                  refine lv_iload_n hx hb dX4_goToNextOrder_74 rfl (lv_at hl 1 rfl) ?_
                  refine lv_iload_n hx hb dX4_goToNextOrder_75 rfl (lv_at hl 2 rfl) ?_
                  have e1 : ((k : Int) - 1) = ((k - 1 : Nat) : Int) := by omega
                  rw [e1]
                  refine pw_cv w (pw_runV (r := 98) (ci := 4) (As := [.int (zI ((k - 1 : Nat) : Int)), .int (zI (x : Int))]) (rest := []) w ⟨hx, hb, hml, hown, hts⟩ (c_X4_exchange l D G ad N c (x := k - 1) (y := x) hN hS (by omega) (by omega)) (cwV 2 hts gX4_goToNextOrder_X4_exchange rfl rfl rfl (by decide +kernel) ⟨Nat.le_of_ble_eq_true rfl, Nat.le_of_ble_eq_true rfl⟩) (by omega) s1 rfl rfl hl.1 rfl (lv_room (Nat.le_of_ble_eq_true rfl)) dX4_goToNextOrder_76 ⟨Nat.le_of_ble_eq_true rfl, Nat.le_of_ble_eq_true rfl⟩) (fun c1 H locs hp w => ?_)
                  have w : PW D G A s ad N c1 H locs := w
                  obtain ⟨hA1, fr1⟩ := hp
                  refine lv_iload_n hx hb dX4_goToNextOrder_79 rfl (lv_at hl 1 rfl) ?_
                  refine lv_iconst (v := zI (1)) hx hb dX4_goToNextOrder_80 rfl ?_
                  refine pz_iadd hx hb dX4_goToNextOrder_81 ?_
                  refine pz_top (b := (k : Int)) (by omega) ?_
                  refine lv_istore_n (lv' := [(3, .int (zI (k : Int))), (0, .ref (ad 98)), (1, .int (zI ((k : Int) - 1))), (2, .int (zI (x : Int)))]) hx hb dX4_goToNextOrder_82 rfl hl (by decide) rfl (fun ls hl => ?_)
                  refine lv_aload_n hx hb dX4_goToNextOrder_83 rfl (lv_at hl 1 rfl) ?_
                  refine pw_get (r := 98) (ci := 4) (C := RX4) (T := TX4) (Nf := 6) hx hb w hts hin_X4_goToNextOrder_4 hown (by omega) ((fr1 98 (by omega)).trans s1) rfl 4 (by decide) (hts _ fl_X4_goToNextOrder_30) (fun _ h9 => h9) rfl dX4_goToNextOrder_84 ?_
                  refine lv_iconst (v := zI (1)) hx hb dX4_goToNextOrder_87 rfl ?_
                  refine pz_isub hx hb dX4_goToNextOrder_88 ?_
                  refine pz_top (b := ((mz - 1 : Nat) : Int)) (by omega) ?_
                  refine lv_istore (lv' := [(4, .int (zI ((mz - 1 : Nat) : Int))), (3, .int (zI (k : Int))), (0, .ref (ad 98)), (1, .int (zI ((k : Int) - 1))), (2, .int (zI (x : Int)))]) hx hb dX4_goToNextOrder_89 hl (by decide) rfl (fun ls hl => ?_)
                  have hnx : nxF od (k - 1) (mz - 1) = x := he3
                  have lr : ∀ (f3 a b9 : Nat) (o2 : Nat → Nat) (c2 : Nat → va_E) (H : Heap) (locs : List Loc) (ls : Array Slot), b9 ≤ mz - 1 → 0 < a → a ≤ 4 → b9 < a + 2 * f3 → f3 ≤ 4 → isA 0 G (c2 118) 4 (fun j => (o2 j : Int)) → rvF f3 o2 a b9 = nxO mz od → (∀ q, q ≠ 118 → c2 q = c q) → PW D G A s ad N c2 H locs → lv_has ls 5 [(0, .ref (ad 98)), (3, .int (zI (a : Int))), (4, .int (zI (b9 : Int)))] → W p l e rm_X4_goToNextOrder s m args below meth kc H locs 0 0 Q (F0 m 91 ls []) := by
                    intro f3
                    induction f3 with
                    | zero =>
                      intro a b9 o2 c2 H locs ls hbm hapos ha4 hfu hf4 hO2 hrv hf w hl
                      refine lv_iload_n hx hb dX4_goToNextOrder_91 rfl (lv_at hl 1 rfl) ?_
                      refine lv_iload hx hb dX4_goToNextOrder_92 (lv_at hl 2 rfl) ?_
                      refine pz_icmpge (tgt := 113) hx hb dX4_goToNextOrder_94 (by decide) (⟨by omega, by omega⟩) (⟨by omega, by omega⟩) (fun hab => ?_) (fun hab => ?_)
                      · have hrv : o2 = nxO mz od := hrv
                        refine lv_iconst (v := zI (1)) hx hb dX4_goToNextOrder_113 rfl ?_
                        exact fin (ad, N, c2) c2 _ _ _ _ _ _ _ rfl (Or.inr rfl) ⟨by rw [if_neg (by omega)], by rw [← hrv]; exact hO2, hf⟩ w dX4_goToNextOrder_114 (Nat.le_refl _) (Nat.le_refl _)
                      · exfalso; omega
                    | succ f3 ih3 =>
                      intro a b9 o2 c2 H locs ls hbm hapos ha4 hfu hf4 hO2 hrv hf w hl
                      refine lv_iload_n hx hb dX4_goToNextOrder_91 rfl (lv_at hl 1 rfl) ?_
                      refine lv_iload hx hb dX4_goToNextOrder_92 (lv_at hl 2 rfl) ?_
                      refine pz_icmpge (tgt := 113) hx hb dX4_goToNextOrder_94 (by decide) (⟨by omega, by omega⟩) (⟨by omega, by omega⟩) (fun hab => ?_) (fun hab => ?_)
                      · rw [rvF, if_neg (by omega)] at hrv
                        refine lv_iconst (v := zI (1)) hx hb dX4_goToNextOrder_113 rfl ?_
                        exact fin (ad, N, c2) c2 _ _ _ _ _ _ _ rfl (Or.inr rfl) ⟨by rw [if_neg (by omega)], by rw [← hrv]; exact hO2, hf⟩ w dX4_goToNextOrder_114 (Nat.le_refl _) (Nat.le_refl _)
                      · rw [rvF, if_pos (by omega)] at hrv
                        have hS2 : SS G ad c2 mz lc o2 bt := ⟨(hf 98 (by omega)).trans s1, ⟨fs, (hf 99 (by omega)).trans s2, s3⟩, (hf 116 (by omega)).trans s4, ⟨g117, isA.fr (hf 117 (by omega)) s5⟩, hO2, isA.fr (hf 119 (by omega)) s7⟩
                        refine lv_aload_n hx hb dX4_goToNextOrder_97 rfl (lv_at hl 0 rfl) ?_
                        refine lv_iload_n hx hb dX4_goToNextOrder_98 rfl (lv_at hl 1 rfl) ?_
                        refine lv_iload hx hb dX4_goToNextOrder_99 (lv_at hl 2 rfl) ?_
                        refine pw_cv w (pw_runV (r := 98) (ci := 4) (As := [.int (zI (a : Int)), .int (zI (b9 : Int))]) (rest := []) w ⟨hx, hb, hml, hown, hts⟩ (c_X4_exchange l D G ad N c2 (x := a) (y := b9) hN hS2 (by omega) (by omega)) (cwV 2 hts gX4_goToNextOrder_X4_exchange rfl rfl rfl (by decide +kernel) ⟨Nat.le_of_ble_eq_true rfl, Nat.le_of_ble_eq_true rfl⟩) (by omega) ((hf 98 (by omega)).trans s1) rfl rfl hl.1 rfl (lv_room (Nat.le_of_ble_eq_true rfl)) dX4_goToNextOrder_101 ⟨Nat.le_of_ble_eq_true rfl, Nat.le_of_ble_eq_true rfl⟩) (fun c2 H locs hp w => ?_)
                        have w : PW D G A s ad N c2 H locs := w
                        obtain ⟨hA2, fr2⟩ := hp
                        refine pz_iinc (lv' := [(3, .int (zI ((a + 1 : Nat) : Int))), (0, .ref (ad 98)), (4, .int (zI (b9 : Int)))]) hx hb dX4_goToNextOrder_104 hl (j := 1) rfl ((a + 1 : Nat) : Int) (by omega) (by decide) rfl (fun ls hl => ?_)
                        refine pz_iinc (lv' := [(4, .int (zI ((b9 - 1 : Nat) : Int))), (3, .int (zI ((a + 1 : Nat) : Int))), (0, .ref (ad 98))]) hx hb dX4_goToNextOrder_107 hl (j := 2) rfl ((b9 - 1 : Nat) : Int) (by omega) (by decide) rfl (fun ls hl => ?_)
                        refine lv_goto (tgt := 91) hx hb dX4_goToNextOrder_110 (by decide) ?_
                        exact ih3 (a + 1) (b9 - 1) (exF o2 a b9) c2 H locs ls (by omega) (by omega) (by omega) (by omega) (by omega) hA2 hrv (fun q hq => (fr2 q hq).trans (hf q hq)) w (lv_sub hl [2, 1, 0] rfl)
                  exact lr 4 k (mz - 1) (exF od (k - 1) x) c1 H locs ls (by omega) hk0 (by omega) (by omega) (by omega) hA1 (by unfold nxO; rw [if_neg (by omega), htk, hnx]) (fun q hq => fr1 q hq) w (lv_sub hl [2, 1, 0] rfl)
                · have hd3 := hod x (by omega)
                  have hd4 := hod (k - 1) (by omega)
                  refine lv_aload_n hx hb dX4_goToNextOrder_52 rfl (lv_at hl 0 rfl) ?_
                  refine pw_get (r := 98) (ci := 4) (C := RX4) (T := TX4) (Nf := 6) hx hb w hts hin_X4_goToNextOrder_4 hown (by omega) s1 rfl 2 (by decide) (hts _ fl_X4_goToNextOrder_23) (fun _ h9 => h9) rfl dX4_goToNextOrder_53 ?_
                  refine lv_iload_n hx hb dX4_goToNextOrder_56 rfl (lv_at hl 2 rfl) ?_
                  refine pw_iald (r := 118) (j := x) hx hb w (by omega) s6 (by omega) (by omega) (by decide) dX4_goToNextOrder_57 ?_
                  refine lv_aload_n hx hb dX4_goToNextOrder_58 rfl (lv_at hl 0 rfl) ?_
                  refine pw_get (r := 98) (ci := 4) (C := RX4) (T := TX4) (Nf := 6) hx hb w hts hin_X4_goToNextOrder_4 hown (by omega) s1 rfl 2 (by decide) (hts _ fl_X4_goToNextOrder_23) (fun _ h9 => h9) rfl dX4_goToNextOrder_59 ?_
                  refine lv_iload_n hx hb dX4_goToNextOrder_62 rfl (lv_at hl 1 rfl) ?_
                  refine pw_iald (r := 118) (j := (k - 1)) hx hb w (by omega) s6 (by omega) (by omega) (by decide) dX4_goToNextOrder_63 ?_
                  refine pz_icmpge (tgt := 73) hx hb dX4_goToNextOrder_64 (by decide) (⟨by omega, by omega⟩) (⟨by omega, by omega⟩) (fun hcmp => ?_) (fun hcmp => ?_)
                  · have he3 : nxF od (k - 1) (mz - 1) = x := by
                      rw [he2]
                      cases x with
                      | zero => rfl
                      | succ x => rw [nxF, if_neg (by omega)]
                    refine lv_aload_n hx hb dX4_goToNextOrder_73 rfl (lv_at hl 0 rfl) ?_
                    refine lv_iload_n hx hb dX4_goToNextOrder_74 rfl (lv_at hl 1 rfl) ?_
                    refine lv_iload_n hx hb dX4_goToNextOrder_75 rfl (lv_at hl 2 rfl) ?_
                    have e1 : ((k : Int) - 1) = ((k - 1 : Nat) : Int) := by omega
                    rw [e1]
                    refine pw_cv w (pw_runV (r := 98) (ci := 4) (As := [.int (zI ((k - 1 : Nat) : Int)), .int (zI (x : Int))]) (rest := []) w ⟨hx, hb, hml, hown, hts⟩ (c_X4_exchange l D G ad N c (x := k - 1) (y := x) hN hS (by omega) (by omega)) (cwV 2 hts gX4_goToNextOrder_X4_exchange rfl rfl rfl (by decide +kernel) ⟨Nat.le_of_ble_eq_true rfl, Nat.le_of_ble_eq_true rfl⟩) (by omega) s1 rfl rfl hl.1 rfl (lv_room (Nat.le_of_ble_eq_true rfl)) dX4_goToNextOrder_76 ⟨Nat.le_of_ble_eq_true rfl, Nat.le_of_ble_eq_true rfl⟩) (fun c3 H locs hp w => ?_)
                    have w : PW D G A s ad N c3 H locs := w
                    obtain ⟨hA3, fr3⟩ := hp
                    refine lv_iload_n hx hb dX4_goToNextOrder_79 rfl (lv_at hl 1 rfl) ?_
                    refine lv_iconst (v := zI (1)) hx hb dX4_goToNextOrder_80 rfl ?_
                    refine pz_iadd hx hb dX4_goToNextOrder_81 ?_
                    refine pz_top (b := (k : Int)) (by omega) ?_
                    refine lv_istore_n (lv' := [(3, .int (zI (k : Int))), (0, .ref (ad 98)), (1, .int (zI ((k : Int) - 1))), (2, .int (zI (x : Int)))]) hx hb dX4_goToNextOrder_82 rfl hl (by decide) rfl (fun ls hl => ?_)
                    refine lv_aload_n hx hb dX4_goToNextOrder_83 rfl (lv_at hl 1 rfl) ?_
                    refine pw_get (r := 98) (ci := 4) (C := RX4) (T := TX4) (Nf := 6) hx hb w hts hin_X4_goToNextOrder_4 hown (by omega) ((fr3 98 (by omega)).trans s1) rfl 4 (by decide) (hts _ fl_X4_goToNextOrder_30) (fun _ h9 => h9) rfl dX4_goToNextOrder_84 ?_
                    refine lv_iconst (v := zI (1)) hx hb dX4_goToNextOrder_87 rfl ?_
                    refine pz_isub hx hb dX4_goToNextOrder_88 ?_
                    refine pz_top (b := ((mz - 1 : Nat) : Int)) (by omega) ?_
                    refine lv_istore (lv' := [(4, .int (zI ((mz - 1 : Nat) : Int))), (3, .int (zI (k : Int))), (0, .ref (ad 98)), (1, .int (zI ((k : Int) - 1))), (2, .int (zI (x : Int)))]) hx hb dX4_goToNextOrder_89 hl (by decide) rfl (fun ls hl => ?_)
                    have hnx : nxF od (k - 1) (mz - 1) = x := he3
                    have lr : ∀ (f3 a b9 : Nat) (o2 : Nat → Nat) (c2 : Nat → va_E) (H : Heap) (locs : List Loc) (ls : Array Slot), b9 ≤ mz - 1 → 0 < a → a ≤ 4 → b9 < a + 2 * f3 → f3 ≤ 4 → isA 0 G (c2 118) 4 (fun j => (o2 j : Int)) → rvF f3 o2 a b9 = nxO mz od → (∀ q, q ≠ 118 → c2 q = c q) → PW D G A s ad N c2 H locs → lv_has ls 5 [(0, .ref (ad 98)), (3, .int (zI (a : Int))), (4, .int (zI (b9 : Int)))] → W p l e rm_X4_goToNextOrder s m args below meth kc H locs 0 0 Q (F0 m 91 ls []) := by
                      intro f3
                      induction f3 with
                      | zero =>
                        intro a b9 o2 c2 H locs ls hbm hapos ha4 hfu hf4 hO2 hrv hf w hl
                        refine lv_iload_n hx hb dX4_goToNextOrder_91 rfl (lv_at hl 1 rfl) ?_
                        refine lv_iload hx hb dX4_goToNextOrder_92 (lv_at hl 2 rfl) ?_
                        refine pz_icmpge (tgt := 113) hx hb dX4_goToNextOrder_94 (by decide) (⟨by omega, by omega⟩) (⟨by omega, by omega⟩) (fun hab => ?_) (fun hab => ?_)
                        · have hrv : o2 = nxO mz od := hrv
                          refine lv_iconst (v := zI (1)) hx hb dX4_goToNextOrder_113 rfl ?_
                          exact fin (ad, N, c2) c2 _ _ _ _ _ _ _ rfl (Or.inr rfl) ⟨by rw [if_neg (by omega)], by rw [← hrv]; exact hO2, hf⟩ w dX4_goToNextOrder_114 (Nat.le_refl _) (Nat.le_refl _)
                        · exfalso; omega
                      | succ f3 ih3 =>
                        intro a b9 o2 c2 H locs ls hbm hapos ha4 hfu hf4 hO2 hrv hf w hl
                        refine lv_iload_n hx hb dX4_goToNextOrder_91 rfl (lv_at hl 1 rfl) ?_
                        refine lv_iload hx hb dX4_goToNextOrder_92 (lv_at hl 2 rfl) ?_
                        refine pz_icmpge (tgt := 113) hx hb dX4_goToNextOrder_94 (by decide) (⟨by omega, by omega⟩) (⟨by omega, by omega⟩) (fun hab => ?_) (fun hab => ?_)
                        · rw [rvF, if_neg (by omega)] at hrv
                          refine lv_iconst (v := zI (1)) hx hb dX4_goToNextOrder_113 rfl ?_
                          exact fin (ad, N, c2) c2 _ _ _ _ _ _ _ rfl (Or.inr rfl) ⟨by rw [if_neg (by omega)], by rw [← hrv]; exact hO2, hf⟩ w dX4_goToNextOrder_114 (Nat.le_refl _) (Nat.le_refl _)
                        · rw [rvF, if_pos (by omega)] at hrv
                          have hS2 : SS G ad c2 mz lc o2 bt := ⟨(hf 98 (by omega)).trans s1, ⟨fs, (hf 99 (by omega)).trans s2, s3⟩, (hf 116 (by omega)).trans s4, ⟨g117, isA.fr (hf 117 (by omega)) s5⟩, hO2, isA.fr (hf 119 (by omega)) s7⟩
                          refine lv_aload_n hx hb dX4_goToNextOrder_97 rfl (lv_at hl 0 rfl) ?_
                          refine lv_iload_n hx hb dX4_goToNextOrder_98 rfl (lv_at hl 1 rfl) ?_
                          refine lv_iload hx hb dX4_goToNextOrder_99 (lv_at hl 2 rfl) ?_
                          refine pw_cv w (pw_runV (r := 98) (ci := 4) (As := [.int (zI (a : Int)), .int (zI (b9 : Int))]) (rest := []) w ⟨hx, hb, hml, hown, hts⟩ (c_X4_exchange l D G ad N c2 (x := a) (y := b9) hN hS2 (by omega) (by omega)) (cwV 2 hts gX4_goToNextOrder_X4_exchange rfl rfl rfl (by decide +kernel) ⟨Nat.le_of_ble_eq_true rfl, Nat.le_of_ble_eq_true rfl⟩) (by omega) ((hf 98 (by omega)).trans s1) rfl rfl hl.1 rfl (lv_room (Nat.le_of_ble_eq_true rfl)) dX4_goToNextOrder_101 ⟨Nat.le_of_ble_eq_true rfl, Nat.le_of_ble_eq_true rfl⟩) (fun c4 H locs hp w => ?_)
                          have w : PW D G A s ad N c4 H locs := w
                          obtain ⟨hA4, fr4⟩ := hp
                          refine pz_iinc (lv' := [(3, .int (zI ((a + 1 : Nat) : Int))), (0, .ref (ad 98)), (4, .int (zI (b9 : Int)))]) hx hb dX4_goToNextOrder_104 hl (j := 1) rfl ((a + 1 : Nat) : Int) (by omega) (by decide) rfl (fun ls hl => ?_)
                          refine pz_iinc (lv' := [(4, .int (zI ((b9 - 1 : Nat) : Int))), (3, .int (zI ((a + 1 : Nat) : Int))), (0, .ref (ad 98))]) hx hb dX4_goToNextOrder_107 hl (j := 2) rfl ((b9 - 1 : Nat) : Int) (by omega) (by decide) rfl (fun ls hl => ?_)
                          refine lv_goto (tgt := 91) hx hb dX4_goToNextOrder_110 (by decide) ?_
                          exact ih3 (a + 1) (b9 - 1) (exF o2 a b9) c4 H locs ls (by omega) (by omega) (by omega) (by omega) (by omega) hA4 hrv (fun q hq => (fr4 q hq).trans (hf q hq)) w (lv_sub hl [2, 1, 0] rfl)
                    exact lr 4 k (mz - 1) (exF od (k - 1) x) c3 H locs ls (by omega) hk0 (by omega) (by omega) (by omega) hA3 (by unfold nxO; rw [if_neg (by omega), htk, hnx]) (fun q hq => fr3 q hq) w (lv_sub hl [2, 1, 0] rfl)
                  · refine pz_iinc (lv' := [(2, .int (zI ((x - 1 : Nat) : Int))), (0, .ref (ad 98)), (1, .int (zI ((k : Int) - 1)))]) hx hb dX4_goToNextOrder_67 hl (j := 2) rfl ((x - 1 : Nat) : Int) (by omega) (by decide) rfl (fun ls hl => ?_)
                    refine lv_goto (tgt := 47) hx hb dX4_goToNextOrder_70 (by decide) ?_
                    exact ih2 (x - 1) ls (by omega) (by omega) (by
                      rw [he2]
                      obtain ⟨x2, rfl⟩ : ∃ x2, x = x2 + 1 := ⟨x - 1, by omega⟩
                      rw [nxF, if_pos (by omega)]
                      rfl) (by omega) (lv_sub hl [1, 2, 0] rfl)
            exact lq mz (mz - 1) ls (by omega) (by omega) rfl (by omega) (lv_sub hl [1, 2, 0] rfl)
          · refine lv_iconst (v := zI (0)) hx hb dX4_goToNextOrder_38 rfl ?_
            exact fin (ad, N, c) c _ _ _ _ _ _ _ rfl (Or.inl rfl) ⟨by rw [if_pos (by omega)], by unfold nxO; rw [if_pos (by omega)]; exact s6, fun _ _ => rfl⟩ w dX4_goToNextOrder_39 (Nat.le_refl _) (Nat.le_refl _)
        · have hd1 := hod (k - 1) (by omega)
          have hd2 := hod k (by omega)
          refine lv_aload_n hx hb dX4_goToNextOrder_11 rfl (lv_at hl 0 rfl) ?_
          refine pw_get (r := 98) (ci := 4) (C := RX4) (T := TX4) (Nf := 6) hx hb w hts hin_X4_goToNextOrder_4 hown (by omega) s1 rfl 2 (by decide) (hts _ fl_X4_goToNextOrder_23) (fun _ h9 => h9) rfl dX4_goToNextOrder_12 ?_
          refine lv_iload_n hx hb dX4_goToNextOrder_15 rfl (lv_at hl 1 rfl) ?_
          refine pw_iald (r := 118) (j := (k - 1)) hx hb w (by omega) s6 (by omega) (by omega) (by decide) dX4_goToNextOrder_16 ?_
          refine lv_aload_n hx hb dX4_goToNextOrder_17 rfl (lv_at hl 0 rfl) ?_
          refine pw_get (r := 98) (ci := 4) (C := RX4) (T := TX4) (Nf := 6) hx hb w hts hin_X4_goToNextOrder_4 hown (by omega) s1 rfl 2 (by decide) (hts _ fl_X4_goToNextOrder_23) (fun _ h9 => h9) rfl dX4_goToNextOrder_18 ?_
          refine lv_iload_n hx hb dX4_goToNextOrder_21 rfl (lv_at hl 1 rfl) ?_
          refine lv_iconst (v := zI (1)) hx hb dX4_goToNextOrder_22 rfl ?_
          refine pz_iadd hx hb dX4_goToNextOrder_23 ?_
          refine pw_iald (r := 118) (j := k) hx hb w (by omega) s6 (by omega) (by omega) (by decide) dX4_goToNextOrder_24 ?_
          refine pz_icmple (tgt := 34) hx hb dX4_goToNextOrder_25 (by decide) (⟨by omega, by omega⟩) (⟨by omega, by omega⟩) (fun hcmp => ?_) (fun hcmp => ?_)
          · have htk : tnF od (mz - 1) = k := by
              rw [he]
              obtain ⟨k2, rfl⟩ : ∃ k2, k = k2 + 1 := ⟨k - 1, by omega⟩
              rw [tnF, if_neg (by have e : k2 + 1 - 1 = k2 := by omega
                                  rw [e] at hcmp; omega)]
            refine lv_iload_n hx hb dX4_goToNextOrder_34 rfl (lv_at hl 1 rfl) ?_
            refine pz_ifge (tgt := 40) hx hb dX4_goToNextOrder_35 (by decide) (⟨by omega, by omega⟩) (fun hge => ?_) (fun hge => ?_)
            · have hk0 : 0 < k := by omega
              refine lv_aload_n hx hb dX4_goToNextOrder_40 rfl (lv_at hl 0 rfl) ?_
              refine pw_get (r := 98) (ci := 4) (C := RX4) (T := TX4) (Nf := 6) hx hb w hts hin_X4_goToNextOrder_4 hown (by omega) s1 rfl 4 (by decide) (hts _ fl_X4_goToNextOrder_30) (fun _ h9 => h9) rfl dX4_goToNextOrder_41 ?_
              refine lv_iconst (v := zI (1)) hx hb dX4_goToNextOrder_44 rfl ?_
              refine pz_isub hx hb dX4_goToNextOrder_45 ?_
              refine pz_top (b := ((mz - 1 : Nat) : Int)) (by omega) ?_
              refine lv_istore_n (lv' := [(2, .int (zI ((mz - 1 : Nat) : Int))), (0, .ref (ad 98)), (1, .int (zI ((k : Int) - 1)))]) hx hb dX4_goToNextOrder_46 rfl hl (by decide) rfl (fun ls hl => ?_)
              have lq : ∀ (f2 x : Nat) (ls : Array Slot), x ≤ mz - 1 → k - 1 < x + 1 → nxF od (k - 1) (mz - 1) = nxF od (k - 1) x → x < f2 → lv_has ls 5 [(0, .ref (ad 98)), (1, .int (zI ((k : Int) - 1))), (2, .int (zI (x : Int)))] → W p l e rm_X4_goToNextOrder s m args below meth kc H locs 0 0 Q (F0 m 47 ls []) := by
                intro f2
                induction f2 with
                | zero => intro x ls hx1 hx2 he2 hfu hl; omega
                | succ f2 ih2 =>
                  intro x ls hx1 hx2 he2 hfu hl
                  refine lv_iload_n hx hb dX4_goToNextOrder_47 rfl (lv_at hl 2 rfl) ?_
                  refine lv_iload_n hx hb dX4_goToNextOrder_48 rfl (lv_at hl 1 rfl) ?_
                  refine pz_icmple (tgt := 73) hx hb dX4_goToNextOrder_49 (by decide) (⟨by omega, by omega⟩) (⟨by omega, by omega⟩) (fun hgt => ?_) (fun hgt => ?_)
                  · have he3 : nxF od (k - 1) (mz - 1) = x := by
                      rw [he2]
                      cases x with
                      | zero => rfl
                      | succ x => rw [nxF, if_neg (by omega)]
                    refine lv_aload_n hx hb dX4_goToNextOrder_73 rfl (lv_at hl 0 rfl) ?_
                    refine lv_iload_n hx hb dX4_goToNextOrder_74 rfl (lv_at hl 1 rfl) ?_
                    refine lv_iload_n hx hb dX4_goToNextOrder_75 rfl (lv_at hl 2 rfl) ?_
                    have e1 : ((k : Int) - 1) = ((k - 1 : Nat) : Int) := by omega
                    rw [e1]
                    refine pw_cv w (pw_runV (r := 98) (ci := 4) (As := [.int (zI ((k - 1 : Nat) : Int)), .int (zI (x : Int))]) (rest := []) w ⟨hx, hb, hml, hown, hts⟩ (c_X4_exchange l D G ad N c (x := k - 1) (y := x) hN hS (by omega) (by omega)) (cwV 2 hts gX4_goToNextOrder_X4_exchange rfl rfl rfl (by decide +kernel) ⟨Nat.le_of_ble_eq_true rfl, Nat.le_of_ble_eq_true rfl⟩) (by omega) s1 rfl rfl hl.1 rfl (lv_room (Nat.le_of_ble_eq_true rfl)) dX4_goToNextOrder_76 ⟨Nat.le_of_ble_eq_true rfl, Nat.le_of_ble_eq_true rfl⟩) (fun c5 H locs hp w => ?_)
                    have w : PW D G A s ad N c5 H locs := w
                    obtain ⟨hA5, fr5⟩ := hp
                    refine lv_iload_n hx hb dX4_goToNextOrder_79 rfl (lv_at hl 1 rfl) ?_
                    refine lv_iconst (v := zI (1)) hx hb dX4_goToNextOrder_80 rfl ?_
                    refine pz_iadd hx hb dX4_goToNextOrder_81 ?_
                    refine pz_top (b := (k : Int)) (by omega) ?_
                    refine lv_istore_n (lv' := [(3, .int (zI (k : Int))), (0, .ref (ad 98)), (1, .int (zI ((k : Int) - 1))), (2, .int (zI (x : Int)))]) hx hb dX4_goToNextOrder_82 rfl hl (by decide) rfl (fun ls hl => ?_)
                    refine lv_aload_n hx hb dX4_goToNextOrder_83 rfl (lv_at hl 1 rfl) ?_
                    refine pw_get (r := 98) (ci := 4) (C := RX4) (T := TX4) (Nf := 6) hx hb w hts hin_X4_goToNextOrder_4 hown (by omega) ((fr5 98 (by omega)).trans s1) rfl 4 (by decide) (hts _ fl_X4_goToNextOrder_30) (fun _ h9 => h9) rfl dX4_goToNextOrder_84 ?_
                    refine lv_iconst (v := zI (1)) hx hb dX4_goToNextOrder_87 rfl ?_
                    refine pz_isub hx hb dX4_goToNextOrder_88 ?_
                    refine pz_top (b := ((mz - 1 : Nat) : Int)) (by omega) ?_
                    refine lv_istore (lv' := [(4, .int (zI ((mz - 1 : Nat) : Int))), (3, .int (zI (k : Int))), (0, .ref (ad 98)), (1, .int (zI ((k : Int) - 1))), (2, .int (zI (x : Int)))]) hx hb dX4_goToNextOrder_89 hl (by decide) rfl (fun ls hl => ?_)
                    have hnx : nxF od (k - 1) (mz - 1) = x := he3
                    have lr : ∀ (f3 a b9 : Nat) (o2 : Nat → Nat) (c2 : Nat → va_E) (H : Heap) (locs : List Loc) (ls : Array Slot), b9 ≤ mz - 1 → 0 < a → a ≤ 4 → b9 < a + 2 * f3 → f3 ≤ 4 → isA 0 G (c2 118) 4 (fun j => (o2 j : Int)) → rvF f3 o2 a b9 = nxO mz od → (∀ q, q ≠ 118 → c2 q = c q) → PW D G A s ad N c2 H locs → lv_has ls 5 [(0, .ref (ad 98)), (3, .int (zI (a : Int))), (4, .int (zI (b9 : Int)))] → W p l e rm_X4_goToNextOrder s m args below meth kc H locs 0 0 Q (F0 m 91 ls []) := by
                      intro f3
                      induction f3 with
                      | zero =>
                        intro a b9 o2 c2 H locs ls hbm hapos ha4 hfu hf4 hO2 hrv hf w hl
                        refine lv_iload_n hx hb dX4_goToNextOrder_91 rfl (lv_at hl 1 rfl) ?_
                        refine lv_iload hx hb dX4_goToNextOrder_92 (lv_at hl 2 rfl) ?_
                        refine pz_icmpge (tgt := 113) hx hb dX4_goToNextOrder_94 (by decide) (⟨by omega, by omega⟩) (⟨by omega, by omega⟩) (fun hab => ?_) (fun hab => ?_)
                        · have hrv : o2 = nxO mz od := hrv
                          refine lv_iconst (v := zI (1)) hx hb dX4_goToNextOrder_113 rfl ?_
                          exact fin (ad, N, c2) c2 _ _ _ _ _ _ _ rfl (Or.inr rfl) ⟨by rw [if_neg (by omega)], by rw [← hrv]; exact hO2, hf⟩ w dX4_goToNextOrder_114 (Nat.le_refl _) (Nat.le_refl _)
                        · exfalso; omega
                      | succ f3 ih3 =>
                        intro a b9 o2 c2 H locs ls hbm hapos ha4 hfu hf4 hO2 hrv hf w hl
                        refine lv_iload_n hx hb dX4_goToNextOrder_91 rfl (lv_at hl 1 rfl) ?_
                        refine lv_iload hx hb dX4_goToNextOrder_92 (lv_at hl 2 rfl) ?_
                        refine pz_icmpge (tgt := 113) hx hb dX4_goToNextOrder_94 (by decide) (⟨by omega, by omega⟩) (⟨by omega, by omega⟩) (fun hab => ?_) (fun hab => ?_)
                        · rw [rvF, if_neg (by omega)] at hrv
                          refine lv_iconst (v := zI (1)) hx hb dX4_goToNextOrder_113 rfl ?_
                          exact fin (ad, N, c2) c2 _ _ _ _ _ _ _ rfl (Or.inr rfl) ⟨by rw [if_neg (by omega)], by rw [← hrv]; exact hO2, hf⟩ w dX4_goToNextOrder_114 (Nat.le_refl _) (Nat.le_refl _)
                        · rw [rvF, if_pos (by omega)] at hrv
                          have hS2 : SS G ad c2 mz lc o2 bt := ⟨(hf 98 (by omega)).trans s1, ⟨fs, (hf 99 (by omega)).trans s2, s3⟩, (hf 116 (by omega)).trans s4, ⟨g117, isA.fr (hf 117 (by omega)) s5⟩, hO2, isA.fr (hf 119 (by omega)) s7⟩
                          refine lv_aload_n hx hb dX4_goToNextOrder_97 rfl (lv_at hl 0 rfl) ?_
                          refine lv_iload_n hx hb dX4_goToNextOrder_98 rfl (lv_at hl 1 rfl) ?_
                          refine lv_iload hx hb dX4_goToNextOrder_99 (lv_at hl 2 rfl) ?_
                          refine pw_cv w (pw_runV (r := 98) (ci := 4) (As := [.int (zI (a : Int)), .int (zI (b9 : Int))]) (rest := []) w ⟨hx, hb, hml, hown, hts⟩ (c_X4_exchange l D G ad N c2 (x := a) (y := b9) hN hS2 (by omega) (by omega)) (cwV 2 hts gX4_goToNextOrder_X4_exchange rfl rfl rfl (by decide +kernel) ⟨Nat.le_of_ble_eq_true rfl, Nat.le_of_ble_eq_true rfl⟩) (by omega) ((hf 98 (by omega)).trans s1) rfl rfl hl.1 rfl (lv_room (Nat.le_of_ble_eq_true rfl)) dX4_goToNextOrder_101 ⟨Nat.le_of_ble_eq_true rfl, Nat.le_of_ble_eq_true rfl⟩) (fun c6 H locs hp w => ?_)
                          have w : PW D G A s ad N c6 H locs := w
                          obtain ⟨hA6, fr6⟩ := hp
                          refine pz_iinc (lv' := [(3, .int (zI ((a + 1 : Nat) : Int))), (0, .ref (ad 98)), (4, .int (zI (b9 : Int)))]) hx hb dX4_goToNextOrder_104 hl (j := 1) rfl ((a + 1 : Nat) : Int) (by omega) (by decide) rfl (fun ls hl => ?_)
                          refine pz_iinc (lv' := [(4, .int (zI ((b9 - 1 : Nat) : Int))), (3, .int (zI ((a + 1 : Nat) : Int))), (0, .ref (ad 98))]) hx hb dX4_goToNextOrder_107 hl (j := 2) rfl ((b9 - 1 : Nat) : Int) (by omega) (by decide) rfl (fun ls hl => ?_)
                          refine lv_goto (tgt := 91) hx hb dX4_goToNextOrder_110 (by decide) ?_
                          exact ih3 (a + 1) (b9 - 1) (exF o2 a b9) c6 H locs ls (by omega) (by omega) (by omega) (by omega) (by omega) hA6 hrv (fun q hq => (fr6 q hq).trans (hf q hq)) w (lv_sub hl [2, 1, 0] rfl)
                    exact lr 4 k (mz - 1) (exF od (k - 1) x) c5 H locs ls (by omega) hk0 (by omega) (by omega) (by omega) hA5 (by unfold nxO; rw [if_neg (by omega), htk, hnx]) (fun q hq => fr5 q hq) w (lv_sub hl [2, 1, 0] rfl)
                  · have hd3 := hod x (by omega)
                    have hd4 := hod (k - 1) (by omega)
                    refine lv_aload_n hx hb dX4_goToNextOrder_52 rfl (lv_at hl 0 rfl) ?_
                    refine pw_get (r := 98) (ci := 4) (C := RX4) (T := TX4) (Nf := 6) hx hb w hts hin_X4_goToNextOrder_4 hown (by omega) s1 rfl 2 (by decide) (hts _ fl_X4_goToNextOrder_23) (fun _ h9 => h9) rfl dX4_goToNextOrder_53 ?_
                    refine lv_iload_n hx hb dX4_goToNextOrder_56 rfl (lv_at hl 2 rfl) ?_
                    refine pw_iald (r := 118) (j := x) hx hb w (by omega) s6 (by omega) (by omega) (by decide) dX4_goToNextOrder_57 ?_
                    refine lv_aload_n hx hb dX4_goToNextOrder_58 rfl (lv_at hl 0 rfl) ?_
                    refine pw_get (r := 98) (ci := 4) (C := RX4) (T := TX4) (Nf := 6) hx hb w hts hin_X4_goToNextOrder_4 hown (by omega) s1 rfl 2 (by decide) (hts _ fl_X4_goToNextOrder_23) (fun _ h9 => h9) rfl dX4_goToNextOrder_59 ?_
                    refine lv_iload_n hx hb dX4_goToNextOrder_62 rfl (lv_at hl 1 rfl) ?_
                    refine pw_iald (r := 118) (j := (k - 1)) hx hb w (by omega) s6 (by omega) (by omega) (by decide) dX4_goToNextOrder_63 ?_
                    refine pz_icmpge (tgt := 73) hx hb dX4_goToNextOrder_64 (by decide) (⟨by omega, by omega⟩) (⟨by omega, by omega⟩) (fun hcmp => ?_) (fun hcmp => ?_)
                    · have he3 : nxF od (k - 1) (mz - 1) = x := by
                        rw [he2]
                        cases x with
                        | zero => rfl
                        | succ x => rw [nxF, if_neg (by omega)]
                      refine lv_aload_n hx hb dX4_goToNextOrder_73 rfl (lv_at hl 0 rfl) ?_
                      refine lv_iload_n hx hb dX4_goToNextOrder_74 rfl (lv_at hl 1 rfl) ?_
                      refine lv_iload_n hx hb dX4_goToNextOrder_75 rfl (lv_at hl 2 rfl) ?_
                      have e1 : ((k : Int) - 1) = ((k - 1 : Nat) : Int) := by omega
                      rw [e1]
                      refine pw_cv w (pw_runV (r := 98) (ci := 4) (As := [.int (zI ((k - 1 : Nat) : Int)), .int (zI (x : Int))]) (rest := []) w ⟨hx, hb, hml, hown, hts⟩ (c_X4_exchange l D G ad N c (x := k - 1) (y := x) hN hS (by omega) (by omega)) (cwV 2 hts gX4_goToNextOrder_X4_exchange rfl rfl rfl (by decide +kernel) ⟨Nat.le_of_ble_eq_true rfl, Nat.le_of_ble_eq_true rfl⟩) (by omega) s1 rfl rfl hl.1 rfl (lv_room (Nat.le_of_ble_eq_true rfl)) dX4_goToNextOrder_76 ⟨Nat.le_of_ble_eq_true rfl, Nat.le_of_ble_eq_true rfl⟩) (fun c7 H locs hp w => ?_)
                      have w : PW D G A s ad N c7 H locs := w
                      obtain ⟨hA7, fr7⟩ := hp
                      refine lv_iload_n hx hb dX4_goToNextOrder_79 rfl (lv_at hl 1 rfl) ?_
                      refine lv_iconst (v := zI (1)) hx hb dX4_goToNextOrder_80 rfl ?_
                      refine pz_iadd hx hb dX4_goToNextOrder_81 ?_
                      refine pz_top (b := (k : Int)) (by omega) ?_
                      refine lv_istore_n (lv' := [(3, .int (zI (k : Int))), (0, .ref (ad 98)), (1, .int (zI ((k : Int) - 1))), (2, .int (zI (x : Int)))]) hx hb dX4_goToNextOrder_82 rfl hl (by decide) rfl (fun ls hl => ?_)
                      refine lv_aload_n hx hb dX4_goToNextOrder_83 rfl (lv_at hl 1 rfl) ?_
                      refine pw_get (r := 98) (ci := 4) (C := RX4) (T := TX4) (Nf := 6) hx hb w hts hin_X4_goToNextOrder_4 hown (by omega) ((fr7 98 (by omega)).trans s1) rfl 4 (by decide) (hts _ fl_X4_goToNextOrder_30) (fun _ h9 => h9) rfl dX4_goToNextOrder_84 ?_
                      refine lv_iconst (v := zI (1)) hx hb dX4_goToNextOrder_87 rfl ?_
                      refine pz_isub hx hb dX4_goToNextOrder_88 ?_
                      refine pz_top (b := ((mz - 1 : Nat) : Int)) (by omega) ?_
                      refine lv_istore (lv' := [(4, .int (zI ((mz - 1 : Nat) : Int))), (3, .int (zI (k : Int))), (0, .ref (ad 98)), (1, .int (zI ((k : Int) - 1))), (2, .int (zI (x : Int)))]) hx hb dX4_goToNextOrder_89 hl (by decide) rfl (fun ls hl => ?_)
                      have hnx : nxF od (k - 1) (mz - 1) = x := he3
                      have lr : ∀ (f3 a b9 : Nat) (o2 : Nat → Nat) (c2 : Nat → va_E) (H : Heap) (locs : List Loc) (ls : Array Slot), b9 ≤ mz - 1 → 0 < a → a ≤ 4 → b9 < a + 2 * f3 → f3 ≤ 4 → isA 0 G (c2 118) 4 (fun j => (o2 j : Int)) → rvF f3 o2 a b9 = nxO mz od → (∀ q, q ≠ 118 → c2 q = c q) → PW D G A s ad N c2 H locs → lv_has ls 5 [(0, .ref (ad 98)), (3, .int (zI (a : Int))), (4, .int (zI (b9 : Int)))] → W p l e rm_X4_goToNextOrder s m args below meth kc H locs 0 0 Q (F0 m 91 ls []) := by
                        intro f3
                        induction f3 with
                        | zero =>
                          intro a b9 o2 c2 H locs ls hbm hapos ha4 hfu hf4 hO2 hrv hf w hl
                          refine lv_iload_n hx hb dX4_goToNextOrder_91 rfl (lv_at hl 1 rfl) ?_
                          refine lv_iload hx hb dX4_goToNextOrder_92 (lv_at hl 2 rfl) ?_
                          refine pz_icmpge (tgt := 113) hx hb dX4_goToNextOrder_94 (by decide) (⟨by omega, by omega⟩) (⟨by omega, by omega⟩) (fun hab => ?_) (fun hab => ?_)
                          · have hrv : o2 = nxO mz od := hrv
                            refine lv_iconst (v := zI (1)) hx hb dX4_goToNextOrder_113 rfl ?_
                            exact fin (ad, N, c2) c2 _ _ _ _ _ _ _ rfl (Or.inr rfl) ⟨by rw [if_neg (by omega)], by rw [← hrv]; exact hO2, hf⟩ w dX4_goToNextOrder_114 (Nat.le_refl _) (Nat.le_refl _)
                          · exfalso; omega
                        | succ f3 ih3 =>
                          intro a b9 o2 c2 H locs ls hbm hapos ha4 hfu hf4 hO2 hrv hf w hl
                          refine lv_iload_n hx hb dX4_goToNextOrder_91 rfl (lv_at hl 1 rfl) ?_
                          refine lv_iload hx hb dX4_goToNextOrder_92 (lv_at hl 2 rfl) ?_
                          refine pz_icmpge (tgt := 113) hx hb dX4_goToNextOrder_94 (by decide) (⟨by omega, by omega⟩) (⟨by omega, by omega⟩) (fun hab => ?_) (fun hab => ?_)
                          · rw [rvF, if_neg (by omega)] at hrv
                            refine lv_iconst (v := zI (1)) hx hb dX4_goToNextOrder_113 rfl ?_
                            exact fin (ad, N, c2) c2 _ _ _ _ _ _ _ rfl (Or.inr rfl) ⟨by rw [if_neg (by omega)], by rw [← hrv]; exact hO2, hf⟩ w dX4_goToNextOrder_114 (Nat.le_refl _) (Nat.le_refl _)
                          · rw [rvF, if_pos (by omega)] at hrv
                            have hS2 : SS G ad c2 mz lc o2 bt := ⟨(hf 98 (by omega)).trans s1, ⟨fs, (hf 99 (by omega)).trans s2, s3⟩, (hf 116 (by omega)).trans s4, ⟨g117, isA.fr (hf 117 (by omega)) s5⟩, hO2, isA.fr (hf 119 (by omega)) s7⟩
                            refine lv_aload_n hx hb dX4_goToNextOrder_97 rfl (lv_at hl 0 rfl) ?_
                            refine lv_iload_n hx hb dX4_goToNextOrder_98 rfl (lv_at hl 1 rfl) ?_
                            refine lv_iload hx hb dX4_goToNextOrder_99 (lv_at hl 2 rfl) ?_
                            refine pw_cv w (pw_runV (r := 98) (ci := 4) (As := [.int (zI (a : Int)), .int (zI (b9 : Int))]) (rest := []) w ⟨hx, hb, hml, hown, hts⟩ (c_X4_exchange l D G ad N c2 (x := a) (y := b9) hN hS2 (by omega) (by omega)) (cwV 2 hts gX4_goToNextOrder_X4_exchange rfl rfl rfl (by decide +kernel) ⟨Nat.le_of_ble_eq_true rfl, Nat.le_of_ble_eq_true rfl⟩) (by omega) ((hf 98 (by omega)).trans s1) rfl rfl hl.1 rfl (lv_room (Nat.le_of_ble_eq_true rfl)) dX4_goToNextOrder_101 ⟨Nat.le_of_ble_eq_true rfl, Nat.le_of_ble_eq_true rfl⟩) (fun c8 H locs hp w => ?_)
                            have w : PW D G A s ad N c8 H locs := w
                            obtain ⟨hA8, fr8⟩ := hp
                            refine pz_iinc (lv' := [(3, .int (zI ((a + 1 : Nat) : Int))), (0, .ref (ad 98)), (4, .int (zI (b9 : Int)))]) hx hb dX4_goToNextOrder_104 hl (j := 1) rfl ((a + 1 : Nat) : Int) (by omega) (by decide) rfl (fun ls hl => ?_)
                            refine pz_iinc (lv' := [(4, .int (zI ((b9 - 1 : Nat) : Int))), (3, .int (zI ((a + 1 : Nat) : Int))), (0, .ref (ad 98))]) hx hb dX4_goToNextOrder_107 hl (j := 2) rfl ((b9 - 1 : Nat) : Int) (by omega) (by decide) rfl (fun ls hl => ?_)
                            refine lv_goto (tgt := 91) hx hb dX4_goToNextOrder_110 (by decide) ?_
                            exact ih3 (a + 1) (b9 - 1) (exF o2 a b9) c8 H locs ls (by omega) (by omega) (by omega) (by omega) (by omega) hA8 hrv (fun q hq => (fr8 q hq).trans (hf q hq)) w (lv_sub hl [2, 1, 0] rfl)
                      exact lr 4 k (mz - 1) (exF od (k - 1) x) c7 H locs ls (by omega) hk0 (by omega) (by omega) (by omega) hA7 (by unfold nxO; rw [if_neg (by omega), htk, hnx]) (fun q hq => fr7 q hq) w (lv_sub hl [2, 1, 0] rfl)
                    · refine pz_iinc (lv' := [(2, .int (zI ((x - 1 : Nat) : Int))), (0, .ref (ad 98)), (1, .int (zI ((k : Int) - 1)))]) hx hb dX4_goToNextOrder_67 hl (j := 2) rfl ((x - 1 : Nat) : Int) (by omega) (by decide) rfl (fun ls hl => ?_)
                      refine lv_goto (tgt := 47) hx hb dX4_goToNextOrder_70 (by decide) ?_
                      exact ih2 (x - 1) ls (by omega) (by omega) (by
                        rw [he2]
                        obtain ⟨x2, rfl⟩ : ∃ x2, x = x2 + 1 := ⟨x - 1, by omega⟩
                        rw [nxF, if_pos (by omega)]
                        rfl) (by omega) (lv_sub hl [1, 2, 0] rfl)
              exact lq mz (mz - 1) ls (by omega) (by omega) rfl (by omega) (lv_sub hl [1, 2, 0] rfl)
            · refine lv_iconst (v := zI (0)) hx hb dX4_goToNextOrder_38 rfl ?_
              exact fin (ad, N, c) c _ _ _ _ _ _ _ rfl (Or.inl rfl) ⟨by rw [if_pos (by omega)], by unfold nxO; rw [if_pos (by omega)]; exact s6, fun _ _ => rfl⟩ w dX4_goToNextOrder_39 (Nat.le_refl _) (Nat.le_refl _)
          · refine pz_iinc (lv' := [(1, .int (zI (((k - 1 : Nat) : Int) - 1))), (0, .ref (ad 98))]) hx hb dX4_goToNextOrder_28 hl (j := 1) rfl (((k - 1 : Nat) : Int) - 1) (by omega) (by decide) rfl (fun ls hl => ?_)
            refine lv_goto (tgt := 7) hx hb dX4_goToNextOrder_31 (by decide) ?_
            exact ih (k - 1) ls (by omega) (by
              rw [he]
              obtain ⟨k2, rfl⟩ : ∃ k2, k = k2 + 1 := ⟨k - 1, by omega⟩
              rw [tnF, if_pos (by have e : k2 + 1 - 1 = k2 := by omega
                                  rw [e] at hcmp; omega)]
              rfl) (by omega) (lv_sub hl [1, 0] rfl)
    exact lp mz (mz - 1) ls (by omega) rfl (by omega) (by rw [show (((mz - 1 : Nat) : Int) - 1) = ((mz : Int) - 2) from by omega]; exact (lv_sub hl [1, 0] rfl))
