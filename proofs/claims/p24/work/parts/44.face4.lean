/-- the class's search through the orders -/
def tAs (lim : Int) (no : Nat) (gn : Nat → Nat) (gg : Nat → Nat → Nat) (nn : Nat → Nat) (pt ln : Nat → Nat → Nat) (wi : Nat → Nat → Int) (od bt : Nat → Nat) : Int × Int × (Nat → Nat) × (Nat → Nat) × Bool := tA (sO nn od 4).1 (fun o => lessOf (cOF nn (cwT lim no gn gg nn pt ln wi) (jwT lim no gn gg nn pt ln) o (sO nn od 4).1)) (sO nn od 4).2 bt 24
/-- how many sets, the least cost, the best order -/
def SetV (lim : Int) (no : Nat) (gn : Nat → Nat) (gg : Nat → Nat → Nat) (nn : Nat → Nat) (pt ln : Nat → Nat → Nat) (wi : Nat → Nat → Int) (nS lS : Int) (bS : Nat → Nat) : Prop := (0 ≤ nS ∧ nS ≤ 24) ∧ ∀ od bt : Nat → Nat, (sO nn od 4).1 = tC nn 4 ∧ (tAs lim no gn gg nn pt ln wi od bt).1 = nS ∧ (0 < nS → (tAs lim no gn gg nn pt ln wi od bt).2.1 = lS ∧ ∀ j, j < tC nn 4 → (tAs lim no gn gg nn pt ln wi od bt).2.2.2.1 j = bS j)

theorem hin_X7_trySets_7 : ∀ w ∈ u_ws RX7 TX7 5, w ∈ wsX7_trySets := by decide +kernel
theorem fl_X7_trySets_40 : Cond.fieldLink RX7 40 "PipersDesk" "setSearch" "LPipersDesk$SetSearch;" ∈ wsX7_trySets := by decide +kernel
theorem fl_X7_trySets_25 : Cond.fieldLink RX7 25 "PipersDesk" "tunes" "[LPipersDesk$Tune;" ∈ wsX7_trySets := by decide +kernel
theorem fl_X7_trySets_12 : Cond.fieldLink RX7 12 "PipersDesk" "fingers" "LPipersDesk$Fingers;" ∈ wsX7_trySets := by decide +kernel
theorem fl_X7_trySets_19 : Cond.fieldLink RX7 19 "PipersDesk" "book" "LPipersDesk$OrnamentBook;" ∈ wsX7_trySets := by decide +kernel
abbrev rm_X7_trySets : Room := { frames := 7, cells := 0, slots := 0, locals := 210 }
set_option maxHeartbeats 4000000 in
set_option maxRecDepth 100000 in
theorem c_X7_trySets (l : Launch) (D : va_G) (G : Nat → ClassId) (ad : Nat → Nat) (N : Nat) (c : Nat → va_E) {lim : Int} {no dn : Nat} {gn : Nat → Nat} {gg : Nat → Nat → Nat} {dg nn : Nat → Nat} {pt ln : Nat → Nat → Nat} {wi : Nat → Nat → Int} (hN : 120 + 2 * no ≤ N) (hD : DK G ad c lim no dn gn gg dg nn pt ln wi) (hV : SV lim no dn gn gg dg nn pt ln wi) {nS lS : Int} {bS : Nat → Nat} (hSV : SetV lim no gn gg nn pt ln wi nS lS bS) : MC l yX7_trySets wsX7_trySets rm_X7_trySets [.ref (ad 0)] D G ad N c (qI D G (fx ad N) (fun v c1 => v = zI nS ∧ (∃ (lc : Int) (od bt : Nat → Nat), SS G ad c1 (tC nn 4) lc od bt ∧ (0 < nS → lc = lS ∧ ∀ j, j < tC nn 4 → bt j = bS j)) ∧ DK G ad c1 lim no dn gn gg dg nn pt ln wi ∧ ∀ q, (120 ≤ q ∧ q < 120) → c1 q = c q)) 0 0 := by
  refine MCi.of (cc := cX7_trySets) (maxL := 2) (by decide) rfl (Nat.le_of_ble_eq_true rfl) ?_
  intro p e s m args below meth kc A Q hx hb hts hown hml fin H locs w ls hl
  have hown : s.vm.findClass RX7 = some m.cls := hown
  have hl : lv_has ls 2 [(0, .ref (ad 0))] := hl
  obtain ⟨h0, hF, hB, hU, hTR, hTC, ⟨mz, lc, od, bt, hSS⟩, hJ⟩ := id hD
  obtain ⟨⟨ft, h15, hft⟩, hUo⟩ := id hU
  obtain ⟨hlim, hOV, hdn4, hdg, hUV⟩ := id hV
  have hlb : bnd lim := ⟨by omega, by omega⟩
  have hno8 := hOV.1
  have hBV : BookV no dn gn gg dg := ⟨hOV.1, hOV.2, hdn4, hdg⟩
  have hn10 : ∀ t, t < 4 → nn t ≤ 10 := fun t ht => (hUV t ht).1
  refine lv_iconst (v := zI (0)) hx hb dX7_trySets_0 rfl ?_
  refine lv_istore_n (lv' := [(1, .int (zI 0)), (0, .ref (ad 0))]) hx hb dX7_trySets_1 rfl hl (by decide) rfl (fun ls hl => ?_)
  have lp : ∀ (f : Nat) (t : Nat) (c1 : Nat → va_E) (H : Heap) (locs : List Loc) (ls : Array Slot), t ≤ 4 → DK G ad c1 lim no dn gn gg dg nn pt ln wi → (∀ u, u < t → GW G c1 (16 + 14 * u) (nn u) ((cwT lim no gn gg nn pt ln wi) u)) → (∀ q, (120 ≤ q ∧ q < 120) → c1 q = c q) → 4 < t + f → PW D G A s ad N c1 H locs → lv_has ls 2 [(0, .ref (ad 0)), (1, .int (zI (t : Int)))] → W p l e rm_X7_trySets s m args below meth kc H locs 0 0 Q (F0 m 2 ls []) := by
    intro f
    induction f with
    | zero => intro t c1 H locs ls h9 hD1 hWs hf hfu w hl; omega
    | succ f ih =>
      intro t c1 H locs ls h9 hD1 hWs hf hfu w hl
      obtain ⟨h0, hF, hB, hU, hTR, hTC, ⟨mz, lc, od, bt, hSS⟩, hJ⟩ := id hD1
      obtain ⟨⟨ft, h15, hft⟩, hUo⟩ := id hU
      refine lv_iload_n hx hb dX7_trySets_2 rfl (lv_at hl 1 rfl) ?_
      refine lv_iconst (v := zI (4)) hx hb dX7_trySets_3 rfl ?_
      refine pz_icmpge (tgt := 30) hx hb dX7_trySets_4 (by decide) (⟨by omega, by omega⟩) (⟨by omega, by omega⟩) (fun ht4 => ?_) (fun ht4 => ?_)
      · have t4 : t = 4 := by omega
        subst t4
        have hWS : GWs G c1 nn (cwT lim no gn gg nn pt ln wi) := fun u hu => hWs u hu
        refine lv_aload_n hx hb dX7_trySets_30 rfl (lv_at hl 0 rfl) ?_
        refine pw_get (r := 0) (ci := 7) (C := RX7) (T := TX7) (Nf := 5) hx hb w hts hin_X7_trySets_7 hown (by omega) h0 rfl 4 (by decide) (hts _ fl_X7_trySets_40) (fun _ h9 => h9) rfl dX7_trySets_31 ?_
        refine lv_aload_n hx hb dX7_trySets_34 rfl (lv_at hl 0 rfl) ?_
        refine pw_get (r := 0) (ci := 7) (C := RX7) (T := TX7) (Nf := 5) hx hb w hts hin_X7_trySets_7 hown (by omega) h0 rfl 2 (by decide) (hts _ fl_X7_trySets_25) (fun _ h9 => h9) rfl dX7_trySets_35 ?_
        refine lv_aload_n hx hb dX7_trySets_38 rfl (lv_at hl 0 rfl) ?_
        refine pw_get (r := 0) (ci := 7) (C := RX7) (T := TX7) (Nf := 5) hx hb w hts hin_X7_trySets_7 hown (by omega) h0 rfl 0 (by decide) (hts _ fl_X7_trySets_12) (fun _ h9 => h9) rfl dX7_trySets_39 ?_
        refine lv_aload_n hx hb dX7_trySets_42 rfl (lv_at hl 0 rfl) ?_
        refine pw_get (r := 0) (ci := 7) (C := RX7) (T := TX7) (Nf := 5) hx hb w hts hin_X7_trySets_7 hown (by omega) h0 rfl 1 (by decide) (hts _ fl_X7_trySets_19) (fun _ h9 => h9) rfl dX7_trySets_43 ?_
        refine pw_cv w (pw_runV (r := 98) (ci := 4) (As := [.ref (ad 15), .ref (ad 1), .ref (ad 12)]) (rest := []) w ⟨hx, hb, hml, hown, hts⟩ (c_X4_weighJoins l D G ad N c1 (by omega) hSS hU hUV hN hB hBV hF hJ) (cwV 3 hts gX7_trySets_X4_weighJoins rfl rfl rfl (by decide +kernel) ⟨Nat.le_of_ble_eq_true rfl, Nat.le_of_ble_eq_true rfl⟩) (by omega) hSS.1 rfl rfl hl.1 rfl (lv_room (Nat.le_of_ble_eq_true rfl)) dX7_trySets_46 ⟨Nat.le_of_ble_eq_true rfl, Nat.le_of_ble_eq_true rfl⟩) (fun c1 H locs hp w => ?_)
        have w : PW D G A s ad N c1 H locs := w
        obtain ⟨hj1, hJ1, fr1⟩ := hp
        have hWS : GWs G c1 nn (cwT lim no gn gg nn pt ln wi) := hWS.fr hn10 (fun q hq => fr1 q (by omega))
        have hj9 : ∀ a b, a < 4 → b < 4 → 0 < nn a → 0 < nn b → isA 0 G (c1 (100 + (a * 4 + b))) 9 ((jwT lim no gn gg nn pt ln) a b) := fun a b h1 h2 h3 h4 => (hj1 a b h1 h2 h3 h4).to (fun o _ => (if_pos ⟨h1, h2, h3, h4⟩).symm)
        have hD1 := hD1.joins hJ1 fr1
        have hf1 : ∀ q, (120 ≤ q ∧ q < 120) → c1 q = c q := fun q hq => (fr1 q (by omega)).trans (hf q hq)
        obtain ⟨h0, hF, hB, hU, hTR, hTC, ⟨mz, lc, od, bt, hSS⟩, hJ⟩ := id hD1
        obtain ⟨⟨ft, h15, hft⟩, hUo⟩ := id hU
        refine lv_aload_n hx hb dX7_trySets_49 rfl (lv_at hl 0 rfl) ?_
        refine pw_get (r := 0) (ci := 7) (C := RX7) (T := TX7) (Nf := 5) hx hb w hts hin_X7_trySets_7 hown (by omega) h0 rfl 4 (by decide) (hts _ fl_X7_trySets_40) (fun _ h9 => h9) rfl dX7_trySets_50 ?_
        refine lv_aload_n hx hb dX7_trySets_53 rfl (lv_at hl 0 rfl) ?_
        refine pw_get (r := 0) (ci := 7) (C := RX7) (T := TX7) (Nf := 5) hx hb w hts hin_X7_trySets_7 hown (by omega) h0 rfl 2 (by decide) (hts _ fl_X7_trySets_25) (fun _ h9 => h9) rfl dX7_trySets_54 ?_
        refine pw_ci w (pw_runV (r := 98) (ci := 4) (As := [.ref (ad 15)]) (rest := []) w ⟨hx, hb, hml, hown, hts⟩ (c_X4_tryAllOrders l D G ad N c1 (by omega) hSS hU hUV hWS hj9 (fun t i j _ => cwT_bd hOV hUV t i j) (fun a b j _ => jwT_bd (wi := wi) hOV hUV a b j) rfl rfl rfl) (cwV 1 hts gX7_trySets_X4_tryAllOrders rfl rfl rfl (by decide +kernel) ⟨Nat.le_of_ble_eq_true rfl, Nat.le_of_ble_eq_true rfl⟩) (by omega) hSS.1 rfl rfl hl.1 rfl (lv_room (Nat.le_of_ble_eq_true rfl)) dX7_trySets_57 ⟨Nat.le_of_ble_eq_true rfl, Nat.le_of_ble_eq_true rfl⟩) (fun r_ c2 H locs hp w => ?_)
        have w : PW D G A s ad N c2 H locs := w
        obtain ⟨hv2, hS2, fr2⟩ := hp
        obtain ⟨hM, hnS, hb9⟩ := hSV.2 od bt
        have hv2 : r_ = zI (tAs lim no gn gg nn pt ln wi od bt).1 := hv2
        rw [hnS] at hv2
        subst hv2
        have hD2 := hD1.ss hS2 fr2
        have hf2 : ∀ q, (120 ≤ q ∧ q < 120) → c2 q = c q := fun q hq => (fr2 q (by omega)).trans (hf1 q hq)
        have hS9 : SS G ad c2 (tC nn 4) (tAs lim no gn gg nn pt ln wi od bt).2.1 (tAs lim no gn gg nn pt ln wi od bt).2.2.1 (tAs lim no gn gg nn pt ln wi od bt).2.2.2.1 := by rw [← hM]; exact hS2
        exact fin (ad, N, c2) c2 _ _ _ _ _ _ _ rfl ⟨rfl, ⟨_, _, _, hS9, hb9⟩, hD2, hf2⟩ w dX7_trySets_60 (Nat.le_refl _) (Nat.le_refl _)
      · have ht : t < 4 := by omega
        refine lv_aload_n hx hb dX7_trySets_7 rfl (lv_at hl 0 rfl) ?_
        refine pw_get (r := 0) (ci := 7) (C := RX7) (T := TX7) (Nf := 5) hx hb w hts hin_X7_trySets_7 hown (by omega) h0 rfl 2 (by decide) (hts _ fl_X7_trySets_25) (fun _ h9 => h9) rfl dX7_trySets_8 ?_
        refine lv_iload_n hx hb dX7_trySets_11 rfl (lv_at hl 1 rfl) ?_
        refine pw_aaldR (r := 15) (j := t) hx hb w (by omega) h15 rfl rfl (by omega) (by omega) (by decide) (16 + 14 * t) (hft t (by omega)) dX7_trySets_12 ?_
        refine lv_aload_n hx hb dX7_trySets_13 rfl (lv_at hl 0 rfl) ?_
        refine pw_get (r := 0) (ci := 7) (C := RX7) (T := TX7) (Nf := 5) hx hb w hts hin_X7_trySets_7 hown (by omega) h0 rfl 0 (by decide) (hts _ fl_X7_trySets_12) (fun _ h9 => h9) rfl dX7_trySets_14 ?_
        refine lv_aload_n hx hb dX7_trySets_17 rfl (lv_at hl 0 rfl) ?_
        refine pw_get (r := 0) (ci := 7) (C := RX7) (T := TX7) (Nf := 5) hx hb w hts hin_X7_trySets_7 hown (by omega) h0 rfl 1 (by decide) (hts _ fl_X7_trySets_19) (fun _ h9 => h9) rfl dX7_trySets_18 ?_
        refine pw_cv w (pw_runV (r := (16 + 14 * t)) (ci := 5) (As := [.ref (ad 1), .ref (ad 12)]) (rest := []) w ⟨hx, hb, hml, hown, hts⟩ (c_X5_weighGaps l D G ad N c1 (T := 16 + 14 * t) (n := nn t) ⟨by omega, by omega⟩ (by omega) (hUo t ht) (hUV t ht) hN hB hBV hF (hTR t ht)) (cwV 2 hts gX7_trySets_X5_weighGaps rfl rfl rfl (by decide +kernel) ⟨Nat.le_of_ble_eq_true rfl, Nat.le_of_ble_eq_true rfl⟩) (by omega) (hUo t (by omega)).1 rfl rfl hl.1 rfl (lv_room (Nat.le_of_ble_eq_true rfl)) dX7_trySets_21 ⟨Nat.le_of_ble_eq_true rfl, Nat.le_of_ble_eq_true rfl⟩) (fun c3 H locs hp w => ?_)
        have w : PW D G A s ad N c3 H locs := w
        obtain ⟨hGW3, hTR3, fr3⟩ := hp
        have hD3 := hD1.wg ht hTR3 fr3
        have hf3 : ∀ q, (120 ≤ q ∧ q < 120) → c3 q = c q := fun q hq => (fr3 q (by omega)).trans (hf q hq)
        obtain ⟨h0, hF, hB, hU, hTR, hTC, ⟨mz, lc, od, bt, hSS⟩, hJ⟩ := id hD3
        obtain ⟨⟨ft, h15, hft⟩, hUo⟩ := id hU
        have hW : GW G c3 (16 + 14 * t) (nn t) (cwT lim no gn gg nn pt ln wi t) := fun j hj => (hGW3 j hj).to (fun o _ => (if_pos ⟨ht, hj⟩).symm)
        have hWs : ∀ u, u < t + 1 → GW G c3 (16 + 14 * u) (nn u) ((cwT lim no gn gg nn pt ln wi) u) := fun u hu => by
          by_cases e : u = t
          · rw [e]; exact hW
          · exact (hWs u (by omega)).fr (hn10 u (by omega)) (fun q h1 h2 => fr3 q (by omega))
        refine pz_iinc (lv' := [(1, .int (zI ((t + 1 : Nat) : Int))), (0, .ref (ad 0))]) hx hb dX7_trySets_24 hl (j := 1) rfl ((t + 1 : Nat) : Int) (by omega) (by decide) rfl (fun ls hl => ?_)
        refine lv_goto (tgt := 2) hx hb dX7_trySets_27 (by decide) ?_
        exact ih (t + 1) c3 H locs ls (by omega) hD3 hWs hf3 (by omega) w (lv_sub hl [1, 0] rfl)
  exact lp 5 0 c H locs ls (by omega) hD (fun u hu => absurd hu (Nat.not_lt_zero u)) (fun _ _ => rfl) (by omega) w (lv_sub hl [1, 0] rfl)

theorem hin_X7_leastSet_7 : ∀ w ∈ u_ws RX7 TX7 5, w ∈ wsX7_leastSet := by decide +kernel
theorem fl_X7_leastSet_40 : Cond.fieldLink RX7 40 "PipersDesk" "setSearch" "LPipersDesk$SetSearch;" ∈ wsX7_leastSet := by decide +kernel
abbrev rm_X7_leastSet : Room := { frames := 8, cells := 0, slots := 0, locals := 240 }
set_option maxHeartbeats 4000000 in
set_option maxRecDepth 100000 in
theorem c_X7_leastSet (l : Launch) (D : va_G) (G : Nat → ClassId) (ad : Nat → Nat) (N : Nat) (c : Nat → va_E) {lim : Int} {no dn : Nat} {gn : Nat → Nat} {gg : Nat → Nat → Nat} {dg nn : Nat → Nat} {pt ln : Nat → Nat → Nat} {wi : Nat → Nat → Int} (hN : 120 + 2 * no ≤ N) (hD : DK G ad c lim no dn gn gg dg nn pt ln wi) (hV : SV lim no dn gn gg dg nn pt ln wi) {nS lS : Int} {bS : Nat → Nat} (hSV : SetV lim no gn gg nn pt ln wi nS lS bS) (hn : ¬ nS = 0) : MC l yX7_leastSet wsX7_leastSet rm_X7_leastSet [.ref (ad 0)] D G ad N c (qI D G (fx ad N) (fun v c1 => v = zI lS ∧ DK G ad c1 lim no dn gn gg dg nn pt ln wi ∧ ∀ q, (120 ≤ q ∧ q < 120) → c1 q = c q)) 0 0 := by
  refine MCi.of (cc := cX7_leastSet) (maxL := 1) (by decide) rfl (Nat.le_of_ble_eq_true rfl) ?_
  intro p e s m args below meth kc A Q hx hb hts hown hml fin H locs w ls hl
  have hown : s.vm.findClass RX7 = some m.cls := hown
  have hl : lv_has ls 1 [(0, .ref (ad 0))] := hl
  obtain ⟨h0, hF, hB, hU, hTR, hTC, ⟨mz, lc, od, bt, hSS⟩, hJ⟩ := id hD
  obtain ⟨⟨ft, h15, hft⟩, hUo⟩ := id hU
  obtain ⟨hlim, hOV, hdn4, hdg, hUV⟩ := id hV
  have hlb : bnd lim := ⟨by omega, by omega⟩
  have hno8 := hOV.1
  have hBV : BookV no dn gn gg dg := ⟨hOV.1, hOV.2, hdn4, hdg⟩
  refine lv_aload_n hx hb dX7_leastSet_0 rfl (lv_at hl 0 rfl) ?_
  refine pw_ci w (pw_runV (r := 0) (ci := 7) (As := []) (rest := []) w ⟨hx, hb, hml, hown, hts⟩ (c_X7_trySets l D G ad N c hN hD hV hSV) (cwV 0 hts gX7_leastSet_X7_trySets rfl rfl rfl (by decide +kernel) ⟨Nat.le_of_ble_eq_true rfl, Nat.le_of_ble_eq_true rfl⟩) (by omega) h0 rfl rfl hl.1 rfl (lv_room (Nat.le_of_ble_eq_true rfl)) dX7_leastSet_1 ⟨Nat.le_of_ble_eq_true rfl, Nat.le_of_ble_eq_true rfl⟩) (fun r_ c1 H locs hp w => ?_)
  have w : PW D G A s ad N c1 H locs := w
  obtain ⟨hv1, ⟨lc, od, bt, hSS, hbS⟩, hD1, fr1⟩ := hp
  subst hv1
  have hns := hSV.1
  have hf1 : ∀ q, (120 ≤ q ∧ q < 120) → c1 q = c q := fun q hq => (fr1 q hq).trans ((fun _ _ => rfl) q hq)
  obtain ⟨h0, -⟩ := id hD1
  refine pz_ifne (tgt := 17) hx hb dX7_leastSet_4 (by decide) (⟨by omega, by omega⟩) (fun h2 => ?_) (fun h2 => ?_)
  · refine lv_aload_n hx hb dX7_leastSet_17 rfl (lv_at hl 0 rfl) ?_
    refine pw_get (r := 0) (ci := 7) (C := RX7) (T := TX7) (Nf := 5) hx hb w hts hin_X7_leastSet_7 hown (by omega) h0 rfl 4 (by decide) (hts _ fl_X7_leastSet_40) (fun _ h9 => h9) rfl dX7_leastSet_18 ?_
    refine pw_ci w (pw_runV (r := 98) (ci := 4) (As := []) (rest := []) w ⟨hx, hb, hml, hown, hts⟩ (c_X4_leastCost l D G ad N c1 (by omega) hSS) (cwV 0 hts gX7_leastSet_X4_leastCost rfl rfl rfl (by decide +kernel) ⟨Nat.le_of_ble_eq_true rfl, Nat.le_of_ble_eq_true rfl⟩) (by omega) hSS.1 rfl rfl hl.1 rfl (lv_room (Nat.le_of_ble_eq_true rfl)) dX7_leastSet_21 ⟨Nat.le_of_ble_eq_true rfl, Nat.le_of_ble_eq_true rfl⟩) (fun r_ u H locs hp w => ?_)
    obtain ⟨hv, hu⟩ := hp
    subst hv
    have w : PW D G A s ad N c1 H locs := by rw [hu] at w; exact w
    clear hu
    refine pz_top (b := lS) ((hbS (by omega)).1) ?_
    exact fin (ad, N, c1) c1 _ _ _ _ _ _ _ rfl ⟨rfl, hD1, hf1⟩ w dX7_leastSet_24 (Nat.le_refl _) (Nat.le_refl _)
  · omega

theorem wd_X7_leastSet_ck73 : Cond.classLink RX7 73 "java/lang/IllegalStateException" ∈ wsX7_leastSet := by decide +kernel
theorem wd_X7_leastSet_ini73 : Cond.initialized "java/lang/IllegalStateException" ∈ wsX7_leastSet := by decide +kernel
theorem ats_X7_leastSet_IS : ∀ w ∈ (vx_atS RX7 77 "java/lang/IllegalStateException" ["java/lang/RuntimeException", "java/lang/Exception"]).filter goodWord, w ∈ wsX7_leastSet := fun w h => List.mem_cons_of_mem _ (List.mem_append_right _ h)
abbrev rx_X7_leastSet : Room := { frames := 8, cells := 1, slots := 6, locals := 240 }
set_option maxHeartbeats 4000000 in
set_option maxRecDepth 100000 in
theorem x_X7_leastSet (l : Launch) (hsT : l.stackTraces = false) (D : va_G) (G : Nat → ClassId) (ad : Nat → Nat) (N : Nat) (c : Nat → va_E) {lim : Int} {no dn : Nat} {gn : Nat → Nat} {gg : Nat → Nat → Nat} {dg nn : Nat → Nat} {pt ln : Nat → Nat → Nat} {wi : Nat → Nat → Int} (hN : 120 + 2 * no ≤ N) (hD : DK G ad c lim no dn gn gg dg nn pt ln wi) (hV : SV lim no dn gn gg dg nn pt ln wi) {nS lS : Int} {bS : Nat → Nat} (hSV : SetV lim no gn gg nn pt ln wi nS lS bS) (hn : nS = 0) : MX l yX7_leastSet wsX7_leastSet rx_X7_leastSet [.ref (ad 0)] D G ad N c xIS (fx ad N) (fun c1 => DK G ad c1 lim no dn gn gg dg nn pt ln wi ∧ ∀ q, (120 ≤ q ∧ q < 120) → c1 q = c q) 1 6 := by
  refine MX.of (cc := cX7_leastSet) (maxL := 1) (ret := (some .int)) (by decide) rfl (Nat.le_of_ble_eq_true rfl) ?_
  intro p e s m below meth kc A hx hb hr hts hown hml hlk hno w ls hl
  have hown : s.vm.findClass RX7 = some m.cls := hown
  have hl : lv_has ls 1 [(0, .ref (ad 0))] := hl
  obtain ⟨h0, hF, hB, hU, hTR, hTC, ⟨mz, lc, od, bt, hSS⟩, hJ⟩ := id hD
  obtain ⟨⟨ft, h15, hft⟩, hUo⟩ := id hU
  obtain ⟨hlim, hOV, hdn4, hdg, hUV⟩ := id hV
  have hlb : bnd lim := ⟨by omega, by omega⟩
  have hno8 := hOV.1
  have hBV : BookV no dn gn gg dg := ⟨hOV.1, hOV.2, hdn4, hdg⟩
  refine lv_aload_n hx hb dX7_leastSet_0 rfl (lv_at hl 0 rfl) ?_
  refine pw_ci w (pw_runV (r := 0) (ci := 7) (As := []) (rest := []) w ⟨hx, hb, hml, hown, hts⟩ (c_X7_trySets l D G ad N c hN hD hV hSV) (cwV 0 hts gX7_leastSet_X7_trySets rfl rfl rfl (by decide +kernel) ⟨Nat.le_of_ble_eq_true rfl, Nat.le_of_ble_eq_true rfl⟩) (by omega) h0 rfl rfl hl.1 rfl (lv_room (Nat.le_of_ble_eq_true rfl)) dX7_leastSet_1 ⟨Nat.le_of_ble_eq_true rfl, Nat.le_of_ble_eq_true rfl⟩) (fun r_ c1 H locs hp w => ?_)
  have w : PW D G A s ad N c1 H locs := w
  obtain ⟨hv1, ⟨lc, od, bt, hSS, hbS⟩, hD1, fr1⟩ := hp
  subst hv1
  have hns := hSV.1
  have hf1 : ∀ q, (120 ≤ q ∧ q < 120) → c1 q = c q := fun q hq => (fr1 q hq).trans ((fun _ _ => rfl) q hq)
  obtain ⟨h0, -⟩ := id hD1
  refine pz_ifne (tgt := 17) hx hb dX7_leastSet_4 (by decide) (⟨by omega, by omega⟩) (fun h2 => ?_) (fun h2 => ?_)
  · omega
  · exact pw_throw (E0 := xIS) (text := "no set with a choice") (own := RX7) (names := ["java/lang/RuntimeException", "java/lang/Exception"]) (ik := 73) (is := 169) (ic := 77) (x := (ad, N, c1)) hx hb hsT hno hlk w c1 rfl ⟨hD1, hf1⟩ hown rfl (by decide +kernel) (by decide +kernel) (hts _ wd_X7_leastSet_ck73) (hts _ wd_X7_leastSet_ini73) (by decide) (fun w h => hts _ (ats_X7_leastSet_IS w h)) og_IS (by decide) oa_IS (hl.1.trans hml.symm) dX7_leastSet_7 dX7_leastSet_10 dX7_leastSet_11 dX7_leastSet_13 dX7_leastSet_16 (Nat.le_of_ble_eq_true rfl) (Nat.le_of_ble_eq_true rfl) (Nat.le_of_ble_eq_true rfl) (Nat.le_of_ble_eq_true rfl) (Nat.le_of_ble_eq_true rfl) (Nat.le_of_ble_eq_true rfl)

theorem hin_X7_tuneAt_7 : ∀ w ∈ u_ws RX7 TX7 5, w ∈ wsX7_tuneAt := by decide +kernel
theorem fl_X7_tuneAt_40 : Cond.fieldLink RX7 40 "PipersDesk" "setSearch" "LPipersDesk$SetSearch;" ∈ wsX7_tuneAt := by decide +kernel
abbrev rm_X7_tuneAt : Room := { frames := 8, cells := 0, slots := 0, locals := 240 }
set_option maxHeartbeats 4000000 in
set_option maxRecDepth 100000 in
theorem c_X7_tuneAt (l : Launch) (D : va_G) (G : Nat → ClassId) (ad : Nat → Nat) (N : Nat) (c : Nat → va_E) {lim : Int} {no dn : Nat} {gn : Nat → Nat} {gg : Nat → Nat → Nat} {dg nn : Nat → Nat} {pt ln : Nat → Nat → Nat} {wi : Nat → Nat → Int} (hN : 120 + 2 * no ≤ N) (hD : DK G ad c lim no dn gn gg dg nn pt ln wi) (hV : SV lim no dn gn gg dg nn pt ln wi) {nS lS : Int} {bS : Nat → Nat} (hSV : SetV lim no gn gg nn pt ln wi nS lS bS) (hn : ¬ nS = 0) {i : Nat} (hi : i < tC nn 4) : MC l yX7_tuneAt wsX7_tuneAt rm_X7_tuneAt [.ref (ad 0), .int (zI (i : Int))] D G ad N c (qI D G (fx ad N) (fun v c1 => v = zI (bS i : Int) ∧ DK G ad c1 lim no dn gn gg dg nn pt ln wi ∧ ∀ q, (120 ≤ q ∧ q < 120) → c1 q = c q)) 0 0 := by
  refine MCi.of (cc := cX7_tuneAt) (maxL := 2) (by decide) rfl (Nat.le_of_ble_eq_true rfl) ?_
  intro p e s m args below meth kc A Q hx hb hts hown hml fin H locs w ls hl
  have hown : s.vm.findClass RX7 = some m.cls := hown
  have hl : lv_has ls 2 [(0, .ref (ad 0)), (1, .int (zI (i : Int)))] := hl
  obtain ⟨h0, hF, hB, hU, hTR, hTC, ⟨mz, lc, od, bt, hSS⟩, hJ⟩ := id hD
  obtain ⟨⟨ft, h15, hft⟩, hUo⟩ := id hU
  obtain ⟨hlim, hOV, hdn4, hdg, hUV⟩ := id hV
  have hlb : bnd lim := ⟨by omega, by omega⟩
  have hno8 := hOV.1
  have hBV : BookV no dn gn gg dg := ⟨hOV.1, hOV.2, hdn4, hdg⟩
  have htc4 := tC_le nn 4
  refine lv_aload_n hx hb dX7_tuneAt_0 rfl (lv_at hl 0 rfl) ?_
  refine pw_ci w (pw_runV (r := 0) (ci := 7) (As := []) (rest := []) w ⟨hx, hb, hml, hown, hts⟩ (c_X7_trySets l D G ad N c hN hD hV hSV) (cwV 0 hts gX7_tuneAt_X7_trySets rfl rfl rfl (by decide +kernel) ⟨Nat.le_of_ble_eq_true rfl, Nat.le_of_ble_eq_true rfl⟩) (by omega) h0 rfl rfl hl.1 rfl (lv_room (Nat.le_of_ble_eq_true rfl)) dX7_tuneAt_1 ⟨Nat.le_of_ble_eq_true rfl, Nat.le_of_ble_eq_true rfl⟩) (fun r_ c1 H locs hp w => ?_)
  have w : PW D G A s ad N c1 H locs := w
  obtain ⟨hv1, ⟨lc, od, bt, hSS, hbS⟩, hD1, fr1⟩ := hp
  subst hv1
  have hns := hSV.1
  have hf1 : ∀ q, (120 ≤ q ∧ q < 120) → c1 q = c q := fun q hq => (fr1 q hq).trans ((fun _ _ => rfl) q hq)
  obtain ⟨h0, -⟩ := id hD1
  refine pz_ifne (tgt := 17) hx hb dX7_tuneAt_4 (by decide) (⟨by omega, by omega⟩) (fun h2 => ?_) (fun h2 => ?_)
  · refine lv_iload_n hx hb dX7_tuneAt_17 rfl (lv_at hl 1 rfl) ?_
    refine pz_iflt (tgt := 32) hx hb dX7_tuneAt_18 (by decide) (⟨by omega, by omega⟩) (fun h3 => ?_) (fun h3 => ?_)
    · omega
    · refine lv_iload_n hx hb dX7_tuneAt_21 rfl (lv_at hl 1 rfl) ?_
      refine lv_aload_n hx hb dX7_tuneAt_22 rfl (lv_at hl 0 rfl) ?_
      refine pw_get (r := 0) (ci := 7) (C := RX7) (T := TX7) (Nf := 5) hx hb w hts hin_X7_tuneAt_7 hown (by omega) h0 rfl 4 (by decide) (hts _ fl_X7_tuneAt_40) (fun _ h9 => h9) rfl dX7_tuneAt_23 ?_
      refine pw_ci w (pw_runV (r := 98) (ci := 4) (As := []) (rest := [.int (zI (i : Int))]) w ⟨hx, hb, hml, hown, hts⟩ (c_X4_size l D G ad N c1 (by omega) hSS) (cwV 0 hts gX7_tuneAt_X4_size rfl rfl rfl (by decide +kernel) ⟨Nat.le_of_ble_eq_true rfl, Nat.le_of_ble_eq_true rfl⟩) (by omega) hSS.1 rfl rfl hl.1 rfl (lv_room (Nat.le_of_ble_eq_true rfl)) dX7_tuneAt_26 ⟨Nat.le_of_ble_eq_true rfl, Nat.le_of_ble_eq_true rfl⟩) (fun r_ u H locs hp w => ?_)
      obtain ⟨hv, hu⟩ := hp
      subst hv
      have w : PW D G A s ad N c1 H locs := by rw [hu] at w; exact w
      clear hu
      refine pz_icmplt (tgt := 42) hx hb dX7_tuneAt_29 (by decide) (⟨by omega, by omega⟩) (⟨by omega, by omega⟩) (fun h4 => ?_) (fun h4 => ?_)
      · refine lv_aload_n hx hb dX7_tuneAt_42 rfl (lv_at hl 0 rfl) ?_
        refine pw_get (r := 0) (ci := 7) (C := RX7) (T := TX7) (Nf := 5) hx hb w hts hin_X7_tuneAt_7 hown (by omega) h0 rfl 4 (by decide) (hts _ fl_X7_tuneAt_40) (fun _ h9 => h9) rfl dX7_tuneAt_43 ?_
        refine lv_iload_n hx hb dX7_tuneAt_46 rfl (lv_at hl 1 rfl) ?_
        refine pw_ci w (pw_runV (r := 98) (ci := 4) (As := [.int (zI (i : Int))]) (rest := []) w ⟨hx, hb, hml, hown, hts⟩ (c_X4_bestAt l D G ad N c1 (by omega) hSS (i := i) (by omega)) (cwV 1 hts gX7_tuneAt_X4_bestAt rfl rfl rfl (by decide +kernel) ⟨Nat.le_of_ble_eq_true rfl, Nat.le_of_ble_eq_true rfl⟩) (by omega) hSS.1 rfl rfl hl.1 rfl (lv_room (Nat.le_of_ble_eq_true rfl)) dX7_tuneAt_47 ⟨Nat.le_of_ble_eq_true rfl, Nat.le_of_ble_eq_true rfl⟩) (fun r_ u H locs hp w => ?_)
        obtain ⟨hv, hu⟩ := hp
        subst hv
        have w : PW D G A s ad N c1 H locs := by rw [hu] at w; exact w
        clear hu
        refine pz_top (b := (bS i : Int)) (by rw [(hbS (by omega)).2 i hi]) ?_
        exact fin (ad, N, c1) c1 _ _ _ _ _ _ _ rfl ⟨rfl, hD1, hf1⟩ w dX7_tuneAt_50 (Nat.le_refl _) (Nat.le_refl _)
      · omega
  · omega

theorem wd_X7_tuneAt_ck73 : Cond.classLink RX7 73 "java/lang/IllegalStateException" ∈ wsX7_tuneAt := by decide +kernel
theorem wd_X7_tuneAt_ini73 : Cond.initialized "java/lang/IllegalStateException" ∈ wsX7_tuneAt := by decide +kernel
theorem ats_X7_tuneAt_IS : ∀ w ∈ (vx_atS RX7 77 "java/lang/IllegalStateException" ["java/lang/RuntimeException", "java/lang/Exception"]).filter goodWord, w ∈ wsX7_tuneAt := fun w h => List.mem_cons_of_mem _ (List.mem_append_left _ (List.mem_append_right _ h))
abbrev rx_X7_tuneAt : Room := { frames := 8, cells := 1, slots := 6, locals := 240 }
set_option maxHeartbeats 4000000 in
set_option maxRecDepth 100000 in
theorem x_X7_tuneAt1 (l : Launch) (hsT : l.stackTraces = false) (D : va_G) (G : Nat → ClassId) (ad : Nat → Nat) (N : Nat) (c : Nat → va_E) {lim : Int} {no dn : Nat} {gn : Nat → Nat} {gg : Nat → Nat → Nat} {dg nn : Nat → Nat} {pt ln : Nat → Nat → Nat} {wi : Nat → Nat → Int} (hN : 120 + 2 * no ≤ N) (hD : DK G ad c lim no dn gn gg dg nn pt ln wi) (hV : SV lim no dn gn gg dg nn pt ln wi) {nS lS : Int} {bS : Nat → Nat} (hSV : SetV lim no gn gg nn pt ln wi nS lS bS) (hn : nS = 0) {z : Int} : MX l yX7_tuneAt wsX7_tuneAt rx_X7_tuneAt [.ref (ad 0), .int (zI z)] D G ad N c xIS (fx ad N) (fun c1 => DK G ad c1 lim no dn gn gg dg nn pt ln wi ∧ ∀ q, (120 ≤ q ∧ q < 120) → c1 q = c q) 1 6 := by
  refine MX.of (cc := cX7_tuneAt) (maxL := 2) (ret := (some .int)) (by decide) rfl (Nat.le_of_ble_eq_true rfl) ?_
  intro p e s m below meth kc A hx hb hr hts hown hml hlk hno w ls hl
  have hown : s.vm.findClass RX7 = some m.cls := hown
  have hl : lv_has ls 2 [(0, .ref (ad 0)), (1, .int (zI z))] := hl
  obtain ⟨h0, hF, hB, hU, hTR, hTC, ⟨mz, lc, od, bt, hSS⟩, hJ⟩ := id hD
  obtain ⟨⟨ft, h15, hft⟩, hUo⟩ := id hU
  obtain ⟨hlim, hOV, hdn4, hdg, hUV⟩ := id hV
  have hlb : bnd lim := ⟨by omega, by omega⟩
  have hno8 := hOV.1
  have hBV : BookV no dn gn gg dg := ⟨hOV.1, hOV.2, hdn4, hdg⟩
  refine lv_aload_n hx hb dX7_tuneAt_0 rfl (lv_at hl 0 rfl) ?_
  refine pw_ci w (pw_runV (r := 0) (ci := 7) (As := []) (rest := []) w ⟨hx, hb, hml, hown, hts⟩ (c_X7_trySets l D G ad N c hN hD hV hSV) (cwV 0 hts gX7_tuneAt_X7_trySets rfl rfl rfl (by decide +kernel) ⟨Nat.le_of_ble_eq_true rfl, Nat.le_of_ble_eq_true rfl⟩) (by omega) h0 rfl rfl hl.1 rfl (lv_room (Nat.le_of_ble_eq_true rfl)) dX7_tuneAt_1 ⟨Nat.le_of_ble_eq_true rfl, Nat.le_of_ble_eq_true rfl⟩) (fun r_ c1 H locs hp w => ?_)
  have w : PW D G A s ad N c1 H locs := w
  obtain ⟨hv1, ⟨lc, od, bt, hSS, hbS⟩, hD1, fr1⟩ := hp
  subst hv1
  have hns := hSV.1
  have hf1 : ∀ q, (120 ≤ q ∧ q < 120) → c1 q = c q := fun q hq => (fr1 q hq).trans ((fun _ _ => rfl) q hq)
  obtain ⟨h0, -⟩ := id hD1
  refine pz_ifne (tgt := 17) hx hb dX7_tuneAt_4 (by decide) (⟨by omega, by omega⟩) (fun h2 => ?_) (fun h2 => ?_)
  · omega
  · exact pw_throw (E0 := xIS) (text := "no set with a choice") (own := RX7) (names := ["java/lang/RuntimeException", "java/lang/Exception"]) (ik := 73) (is := 169) (ic := 77) (x := (ad, N, c1)) hx hb hsT hno hlk w c1 rfl ⟨hD1, hf1⟩ hown rfl (by decide +kernel) (by decide +kernel) (hts _ wd_X7_tuneAt_ck73) (hts _ wd_X7_tuneAt_ini73) (by decide) (fun w h => hts _ (ats_X7_tuneAt_IS w h)) og_IS (by decide) oa_IS (hl.1.trans hml.symm) dX7_tuneAt_7 dX7_tuneAt_10 dX7_tuneAt_11 dX7_tuneAt_13 dX7_tuneAt_16 (Nat.le_of_ble_eq_true rfl) (Nat.le_of_ble_eq_true rfl) (Nat.le_of_ble_eq_true rfl) (Nat.le_of_ble_eq_true rfl) (Nat.le_of_ble_eq_true rfl) (Nat.le_of_ble_eq_true rfl)

theorem wd_X7_tuneAt_ck96 : Cond.classLink RX7 96 "java/lang/IndexOutOfBoundsException" ∈ wsX7_tuneAt := by decide +kernel
theorem wd_X7_tuneAt_ini96 : Cond.initialized "java/lang/IndexOutOfBoundsException" ∈ wsX7_tuneAt := by decide +kernel
theorem ats_X7_tuneAt_IO : ∀ w ∈ (vx_atS RX7 100 "java/lang/IndexOutOfBoundsException" ["java/lang/RuntimeException", "java/lang/Exception"]).filter goodWord, w ∈ wsX7_tuneAt := fun w h => List.mem_cons_of_mem _ (List.mem_append_right _ h)
set_option maxHeartbeats 4000000 in
set_option maxRecDepth 100000 in
theorem x_X7_tuneAt2 (l : Launch) (hsT : l.stackTraces = false) (D : va_G) (G : Nat → ClassId) (ad : Nat → Nat) (N : Nat) (c : Nat → va_E) {lim : Int} {no dn : Nat} {gn : Nat → Nat} {gg : Nat → Nat → Nat} {dg nn : Nat → Nat} {pt ln : Nat → Nat → Nat} {wi : Nat → Nat → Int} (hN : 120 + 2 * no ≤ N) (hD : DK G ad c lim no dn gn gg dg nn pt ln wi) (hV : SV lim no dn gn gg dg nn pt ln wi) {nS lS : Int} {bS : Nat → Nat} (hSV : SetV lim no gn gg nn pt ln wi nS lS bS) (hn : ¬ nS = 0) {z : Int} (hbz : bnd z) (hbad : ¬ (0 ≤ z ∧ z ≤ (tC nn 4 : Int) - 1)) : MX l yX7_tuneAt wsX7_tuneAt rx_X7_tuneAt [.ref (ad 0), .int (zI z)] D G ad N c xIO (fx ad N) (fun c1 => DK G ad c1 lim no dn gn gg dg nn pt ln wi ∧ ∀ q, (120 ≤ q ∧ q < 120) → c1 q = c q) 1 6 := by
  refine MX.of (cc := cX7_tuneAt) (maxL := 2) (ret := (some .int)) (by decide) rfl (Nat.le_of_ble_eq_true rfl) ?_
  intro p e s m below meth kc A hx hb hr hts hown hml hlk hno w ls hl
  have hown : s.vm.findClass RX7 = some m.cls := hown
  have hl : lv_has ls 2 [(0, .ref (ad 0)), (1, .int (zI z))] := hl
  obtain ⟨h0, hF, hB, hU, hTR, hTC, ⟨mz, lc, od, bt, hSS⟩, hJ⟩ := id hD
  obtain ⟨⟨ft, h15, hft⟩, hUo⟩ := id hU
  obtain ⟨hlim, hOV, hdn4, hdg, hUV⟩ := id hV
  have hlb : bnd lim := ⟨by omega, by omega⟩
  have hno8 := hOV.1
  have hBV : BookV no dn gn gg dg := ⟨hOV.1, hOV.2, hdn4, hdg⟩
  have htc4 := tC_le nn 4
  have hbz1 := hbz.1
  have hbz2 := hbz.2
  refine lv_aload_n hx hb dX7_tuneAt_0 rfl (lv_at hl 0 rfl) ?_
  refine pw_ci w (pw_runV (r := 0) (ci := 7) (As := []) (rest := []) w ⟨hx, hb, hml, hown, hts⟩ (c_X7_trySets l D G ad N c hN hD hV hSV) (cwV 0 hts gX7_tuneAt_X7_trySets rfl rfl rfl (by decide +kernel) ⟨Nat.le_of_ble_eq_true rfl, Nat.le_of_ble_eq_true rfl⟩) (by omega) h0 rfl rfl hl.1 rfl (lv_room (Nat.le_of_ble_eq_true rfl)) dX7_tuneAt_1 ⟨Nat.le_of_ble_eq_true rfl, Nat.le_of_ble_eq_true rfl⟩) (fun r_ c1 H locs hp w => ?_)
  have w : PW D G A s ad N c1 H locs := w
  obtain ⟨hv1, ⟨lc, od, bt, hSS, hbS⟩, hD1, fr1⟩ := hp
  subst hv1
  have hns := hSV.1
  have hf1 : ∀ q, (120 ≤ q ∧ q < 120) → c1 q = c q := fun q hq => (fr1 q hq).trans ((fun _ _ => rfl) q hq)
  obtain ⟨h0, -⟩ := id hD1
  refine pz_ifne (tgt := 17) hx hb dX7_tuneAt_4 (by decide) (⟨by omega, by omega⟩) (fun h2 => ?_) (fun h2 => ?_)
  · refine lv_iload_n hx hb dX7_tuneAt_17 rfl (lv_at hl 1 rfl) ?_
    refine pz_iflt (tgt := 32) hx hb dX7_tuneAt_18 (by decide) (⟨by omega, by omega⟩) (fun h3 => ?_) (fun h3 => ?_)
    · exact pw_throw (E0 := xIO) (text := "no such place") (own := RX7) (names := ["java/lang/RuntimeException", "java/lang/Exception"]) (ik := 96) (is := 175) (ic := 100) (x := (ad, N, c1)) hx hb hsT hno hlk w c1 rfl ⟨hD1, hf1⟩ hown rfl (by decide +kernel) (by decide +kernel) (hts _ wd_X7_tuneAt_ck96) (hts _ wd_X7_tuneAt_ini96) (by decide) (fun w h => hts _ (ats_X7_tuneAt_IO w h)) og_IO (by decide) oa_IO (hl.1.trans hml.symm) dX7_tuneAt_32 dX7_tuneAt_35 dX7_tuneAt_36 dX7_tuneAt_38 dX7_tuneAt_41 (Nat.le_of_ble_eq_true rfl) (Nat.le_of_ble_eq_true rfl) (Nat.le_of_ble_eq_true rfl) (Nat.le_of_ble_eq_true rfl) (Nat.le_of_ble_eq_true rfl) (Nat.le_of_ble_eq_true rfl)
    · refine lv_iload_n hx hb dX7_tuneAt_21 rfl (lv_at hl 1 rfl) ?_
      refine lv_aload_n hx hb dX7_tuneAt_22 rfl (lv_at hl 0 rfl) ?_
      refine pw_get (r := 0) (ci := 7) (C := RX7) (T := TX7) (Nf := 5) hx hb w hts hin_X7_tuneAt_7 hown (by omega) h0 rfl 4 (by decide) (hts _ fl_X7_tuneAt_40) (fun _ h9 => h9) rfl dX7_tuneAt_23 ?_
      refine pw_ci w (pw_runV (r := 98) (ci := 4) (As := []) (rest := [.int (zI z)]) w ⟨hx, hb, hml, hown, hts⟩ (c_X4_size l D G ad N c1 (by omega) hSS) (cwV 0 hts gX7_tuneAt_X4_size rfl rfl rfl (by decide +kernel) ⟨Nat.le_of_ble_eq_true rfl, Nat.le_of_ble_eq_true rfl⟩) (by omega) hSS.1 rfl rfl hl.1 rfl (lv_room (Nat.le_of_ble_eq_true rfl)) dX7_tuneAt_26 ⟨Nat.le_of_ble_eq_true rfl, Nat.le_of_ble_eq_true rfl⟩) (fun r_ u H locs hp w => ?_)
      obtain ⟨hv, hu⟩ := hp
      subst hv
      have w : PW D G A s ad N c1 H locs := by rw [hu] at w; exact w
      clear hu
      refine pz_icmplt (tgt := 42) hx hb dX7_tuneAt_29 (by decide) (⟨by omega, by omega⟩) (⟨by omega, by omega⟩) (fun h4 => ?_) (fun h4 => ?_)
      · omega
      · exact pw_throw (E0 := xIO) (text := "no such place") (own := RX7) (names := ["java/lang/RuntimeException", "java/lang/Exception"]) (ik := 96) (is := 175) (ic := 100) (x := (ad, N, c1)) hx hb hsT hno hlk w c1 rfl ⟨hD1, hf1⟩ hown rfl (by decide +kernel) (by decide +kernel) (hts _ wd_X7_tuneAt_ck96) (hts _ wd_X7_tuneAt_ini96) (by decide) (fun w h => hts _ (ats_X7_tuneAt_IO w h)) og_IO (by decide) oa_IO (hl.1.trans hml.symm) dX7_tuneAt_32 dX7_tuneAt_35 dX7_tuneAt_36 dX7_tuneAt_38 dX7_tuneAt_41 (Nat.le_of_ble_eq_true rfl) (Nat.le_of_ble_eq_true rfl) (Nat.le_of_ble_eq_true rfl) (Nat.le_of_ble_eq_true rfl) (Nat.le_of_ble_eq_true rfl) (Nat.le_of_ble_eq_true rfl)
  · omega

abbrev rm_X7_sets : Room := { frames := 8, cells := 0, slots := 0, locals := 240 }
set_option maxHeartbeats 4000000 in
set_option maxRecDepth 100000 in
theorem c_X7_sets (l : Launch) (D : va_G) (G : Nat → ClassId) (ad : Nat → Nat) (N : Nat) (c : Nat → va_E) {lim : Int} {no dn : Nat} {gn : Nat → Nat} {gg : Nat → Nat → Nat} {dg nn : Nat → Nat} {pt ln : Nat → Nat → Nat} {wi : Nat → Nat → Int} (hN : 120 + 2 * no ≤ N) (hD : DK G ad c lim no dn gn gg dg nn pt ln wi) (hV : SV lim no dn gn gg dg nn pt ln wi) {nS lS : Int} {bS : Nat → Nat} (hSV : SetV lim no gn gg nn pt ln wi nS lS bS) : MC l yX7_sets wsX7_sets rm_X7_sets [.ref (ad 0)] D G ad N c (qI D G (fx ad N) (fun v c1 => v = zI nS ∧ DK G ad c1 lim no dn gn gg dg nn pt ln wi ∧ ∀ q, (120 ≤ q ∧ q < 120) → c1 q = c q)) 0 0 := by
  refine MCi.of (cc := cX7_sets) (maxL := 1) (by decide) rfl (Nat.le_of_ble_eq_true rfl) ?_
  intro p e s m args below meth kc A Q hx hb hts hown hml fin H locs w ls hl
  have hown : s.vm.findClass RX7 = some m.cls := hown
  have hl : lv_has ls 1 [(0, .ref (ad 0))] := hl
  obtain ⟨h0, hF, hB, hU, hTR, hTC, ⟨mz, lc, od, bt, hSS⟩, hJ⟩ := id hD
  obtain ⟨⟨ft, h15, hft⟩, hUo⟩ := id hU
  obtain ⟨hlim, hOV, hdn4, hdg, hUV⟩ := id hV
  have hlb : bnd lim := ⟨by omega, by omega⟩
  have hno8 := hOV.1
  have hBV : BookV no dn gn gg dg := ⟨hOV.1, hOV.2, hdn4, hdg⟩
  refine lv_aload_n hx hb dX7_sets_0 rfl (lv_at hl 0 rfl) ?_
  refine pw_ci w (pw_runV (r := 0) (ci := 7) (As := []) (rest := []) w ⟨hx, hb, hml, hown, hts⟩ (c_X7_trySets l D G ad N c hN hD hV hSV) (cwV 0 hts gX7_sets_X7_trySets rfl rfl rfl (by decide +kernel) ⟨Nat.le_of_ble_eq_true rfl, Nat.le_of_ble_eq_true rfl⟩) (by omega) h0 rfl rfl hl.1 rfl (lv_room (Nat.le_of_ble_eq_true rfl)) dX7_sets_1 ⟨Nat.le_of_ble_eq_true rfl, Nat.le_of_ble_eq_true rfl⟩) (fun r_ c1 H locs hp w => ?_)
  have w : PW D G A s ad N c1 H locs := w
  obtain ⟨hv1, ⟨lc, od, bt, hSS, hbS⟩, hD1, fr1⟩ := hp
  subst hv1
  have hns := hSV.1
  have hf1 : ∀ q, (120 ≤ q ∧ q < 120) → c1 q = c q := fun q hq => (fr1 q hq).trans ((fun _ _ => rfl) q hq)
  obtain ⟨h0, -⟩ := id hD1
  exact fin (ad, N, c1) c1 _ _ _ _ _ _ _ rfl ⟨rfl, hD1, hf1⟩ w dX7_sets_4 (Nat.le_refl _) (Nat.le_refl _)
