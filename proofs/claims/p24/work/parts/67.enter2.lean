section ENT
variable {G : Nat → ClassId} {ad ad1 : Nat → Nat} {c c1 : Nat → va_E} {lim th : Int} {no dn : Nat} {gn : Nat → Nat} {gg : Nat → Nat → Nat} {dg nn : Nat → Nat} {pt ln : Nat → Nat → Nat} {wi : Nat → Nat → Int}
theorem DK.ent (h : DK G ad c lim no dn gn gg dg nn pt ln wi) {no1 dn1 : Nat} {gn1 : Nat → Nat} {gg1 : Nat → Nat → Nat} {dg1 : Nat → Nat} (hB : Book G ad1 c1 no1 dn1 gn1 gg1 dg1) (ha : ∀ r, r < 120 → ad1 r = ad r) (hf : ∀ q, q < 120 → q ≠ 12 → q ≠ 13 → c1 q = c q) : DK G ad1 c1 lim no1 dn1 gn1 gg1 dg1 nn pt ln wi := by
  obtain ⟨h1, h2, -, ⟨⟨fo, f1, f2⟩, h4⟩, h5, h6, ⟨mz, lc, od, bt, h7⟩, h8⟩ := h
  exact ⟨by rw [hf 0 (by omega) (by omega) (by omega), h1, ha 1 (by omega), ha 12 (by omega), ha 15 (by omega), ha 72 (by omega), ha 98 (by omega)], h2.mv (fun r hr => ha r (by omega)) (fun q _ _ => hf q (by omega) (by omega) (by omega)), hB, ⟨⟨fo, (hf _ (by omega) (by omega) (by omega)).trans f1, fun t ht => by rw [f2 t ht, ha _ (by omega)]⟩, fun t ht => (h4 t ht).mv (fun r hr => ha r (by omega)) (fun q _ _ => hf q (by omega) (by omega) (by omega))⟩, fun t ht => (h5 t ht).fr (fun q _ _ => hf q (by omega) (by omega) (by omega)), h6.mv (fun r hr => ha r (by omega)) (fun q _ _ => hf q (by omega) (by omega) (by omega)), ⟨mz, lc, od, bt, h7.mv (fun r hr => ha r (by omega)) (fun q _ _ => hf q (by omega) (by omega) (by omega))⟩, Jx.fr h8 (fun q _ _ => hf q (by omega) (by omega) (by omega))⟩
end ENT

theorem hin_X7_enter_7 : ∀ w ∈ u_ws RX7 TX7 5, w ∈ wsX7_enter := by decide +kernel
theorem fl_X7_enter_19 : Cond.fieldLink RX7 19 "PipersDesk" "book" "LPipersDesk$OrnamentBook;" ∈ wsX7_enter := by decide +kernel
abbrev rm_X7_enter : Room := { frames := 7, cells := 2, slots := 5, locals := 210 }
set_option maxHeartbeats 1000000 in
set_option maxRecDepth 100000 in
/-- enter -/
theorem c_X7_enter (l : Launch) (D : va_G) (G : Nat → ClassId) (ad : Nat → Nat) (N : Nat) (c : Nat → va_E) {lim : Int} {no dn : Nat} {gn : Nat → Nat} {gg : Nat → Nat → Nat} {dg nn : Nat → Nat} {pt ln : Nat → Nat → Nat} {wi : Nat → Nat → Int} (hNe : N = 120 + 2 * no) (hD : DK G ad c lim no dn gn gg dg nn pt ln wi) (hV : SV lim no dn gn gg dg nn pt ln wi) (hd1 : 1 ≤ dn) (ho7 : no < 8) : MC l yX7_enter wsX7_enter rm_X7_enter [.ref (ad 0)] D G ad N c (qI D G (fun u : (Nat → Nat) × (Nat → va_E) => (u.1, N + 1 + 1, u.2)) (fun v u => v = zI (no : Int) ∧ (∀ r, r < N → u.1 r = ad r) ∧ DK G u.1 u.2 lim (no + 1) 0 (fun k => if k = no then dn else gn k) (fun k => if k = no then dg else gg k) dg nn pt ln wi ∧ ∀ q, (120 ≤ q ∧ q < 120) → u.2 q = c q)) 2 5 := by
  refine MCi.of (cc := cX7_enter) (maxL := 1) (by decide) rfl (Nat.le_of_ble_eq_true rfl) ?_
  intro p e s m args below meth kc A Q hx hb hts hown hml fin H locs w ls hl
  have hown : s.vm.findClass RX7 = some m.cls := hown
  have hl : lv_has ls 1 [(0, .ref (ad 0))] := hl
  have hN : 120 + 2 * no ≤ N := by omega
  obtain ⟨h0, hF, hB, hU, hTR, hTC, ⟨mz, lc, od, bt, hSS⟩, hJ⟩ := id hD
  obtain ⟨⟨ft, h15, hft⟩, hUo⟩ := id hU
  obtain ⟨hlim, hOV, hdn4, hdg, hUV⟩ := id hV
  have hlb : bnd lim := ⟨by omega, by omega⟩
  have hno8 := hOV.1
  have hBV : BookV no dn gn gg dg := ⟨hOV.1, hOV.2, hdn4, hdg⟩
  refine lv_aload_n hx hb dX7_enter_0 rfl (lv_at hl 0 rfl) ?_
  refine pw_get (r := 0) (ci := 7) (C := RX7) (T := TX7) (Nf := 5) hx hb w hts hin_X7_enter_7 hown (by omega) h0 rfl 1 (by decide) (hts _ fl_X7_enter_19) (fun _ h9 => h9) rfl dX7_enter_1 ?_
  refine pw_ci w (pw_runV (r := 12) (ci := 3) (As := []) (rest := []) w ⟨hx, hb, hml, hown, hts⟩ (c_X3_isDraftEmpty l D G ad N c hN hB hBV) (cwV 0 hts gX7_enter_X3_isDraftEmpty rfl rfl rfl (by decide +kernel) ⟨Nat.le_of_ble_eq_true rfl, Nat.le_of_ble_eq_true rfl⟩) (by omega) hB.1 rfl rfl hl.1 rfl (lv_room (Nat.le_of_ble_eq_true rfl)) dX7_enter_4 ⟨Nat.le_of_ble_eq_true rfl, Nat.le_of_ble_eq_true rfl⟩) (fun r_ u H locs hp w => ?_)
  obtain ⟨hv, hu⟩ := hp
  subst hv
  have w : PW D G A s ad N c H locs := by rw [hu] at w; exact w
  clear hu
  refine pz_top (b := 0) (if_neg (by omega)) ?_
  refine pz_ifne (tgt := 20) hx hb dX7_enter_7 (by decide) (⟨by omega, by omega⟩) (fun h1 => ?_) (fun h1 => ?_)
  · omega
  · refine lv_aload_n hx hb dX7_enter_10 rfl (lv_at hl 0 rfl) ?_
    refine pw_get (r := 0) (ci := 7) (C := RX7) (T := TX7) (Nf := 5) hx hb w hts hin_X7_enter_7 hown (by omega) h0 rfl 1 (by decide) (hts _ fl_X7_enter_19) (fun _ h9 => h9) rfl dX7_enter_11 ?_
    refine pw_ci w (pw_runV (r := 12) (ci := 3) (As := []) (rest := []) w ⟨hx, hb, hml, hown, hts⟩ (c_X3_isFull l D G ad N c hN hB hBV) (cwV 0 hts gX7_enter_X3_isFull rfl rfl rfl (by decide +kernel) ⟨Nat.le_of_ble_eq_true rfl, Nat.le_of_ble_eq_true rfl⟩) (by omega) hB.1 rfl rfl hl.1 rfl (lv_room (Nat.le_of_ble_eq_true rfl)) dX7_enter_14 ⟨Nat.le_of_ble_eq_true rfl, Nat.le_of_ble_eq_true rfl⟩) (fun r_ u H locs hp w => ?_)
    obtain ⟨hv, hu⟩ := hp
    subst hv
    have w : PW D G A s ad N c H locs := by rw [hu] at w; exact w
    clear hu
    refine pz_top (b := 0) (if_neg (by omega)) ?_
    refine pz_ifeq (tgt := 30) hx hb dX7_enter_17 (by decide) (⟨by omega, by omega⟩) (fun h2 => ?_) (fun h2 => ?_)
    · refine lv_aload_n hx hb dX7_enter_30 rfl (lv_at hl 0 rfl) ?_
      refine pw_get (r := 0) (ci := 7) (C := RX7) (T := TX7) (Nf := 5) hx hb w hts hin_X7_enter_7 hown (by omega) h0 rfl 1 (by decide) (hts _ fl_X7_enter_19) (fun _ h9 => h9) rfl dX7_enter_31 ?_
      refine pw_ci w (pw_runV (r := 12) (ci := 3) (As := []) (rest := []) w ⟨hx, hb, hml, hown, hts⟩ (c_X3_enterDraft l D G ad N c hNe hB hBV ho7) (cwV 0 hts gX7_enter_X3_enterDraft rfl rfl rfl (by decide +kernel) ⟨Nat.le_of_ble_eq_true rfl, Nat.le_of_ble_eq_true rfl⟩) (by omega) hB.1 rfl rfl hl.1 rfl (lv_room (Nat.le_of_ble_eq_true rfl)) dX7_enter_34 ⟨Nat.le_of_ble_eq_true rfl, Nat.le_of_ble_eq_true rfl⟩) (fun r_ u3 H locs hp w => ?_)
      obtain ⟨ad3, c3⟩ := u3
      obtain ⟨hv3, ha3, hB3, fr3⟩ := hp
      subst hv3
      have ha3 : ∀ r, r < N → ad3 r = ad r := ha3
      exact fin (ad3, _, c3) (ad3, c3) _ _ _ _ _ _ _ rfl ⟨rfl, ha3, hD.ent hB3 (fun r hr => ha3 r (by omega)) fr3, fun q hq => fr3 q hq.2 (by omega) (by omega)⟩ w dX7_enter_37 (Nat.le_of_ble_eq_true rfl) (Nat.le_of_ble_eq_true rfl)
    · omega

theorem wd_X7_enter_ck73 : Cond.classLink RX7 73 "java/lang/IllegalStateException" ∈ wsX7_enter := by decide +kernel
theorem wd_X7_enter_ini73 : Cond.initialized "java/lang/IllegalStateException" ∈ wsX7_enter := by decide +kernel
theorem ats_X7_enter_IS : ∀ w ∈ (vx_atS RX7 77 "java/lang/IllegalStateException" ["java/lang/RuntimeException", "java/lang/Exception"]).filter goodWord, w ∈ wsX7_enter := fun w h => List.mem_cons_of_mem _ (List.mem_append_right _ h)
abbrev rx_X7_enter : Room := { frames := 7, cells := 1, slots := 6, locals := 210 }
set_option maxHeartbeats 1000000 in
set_option maxRecDepth 100000 in
theorem x_X7_enter1 (l : Launch) (hsT : l.stackTraces = false) (D : va_G) (G : Nat → ClassId) (ad : Nat → Nat) (N : Nat) (c : Nat → va_E) {lim : Int} {no dn : Nat} {gn : Nat → Nat} {gg : Nat → Nat → Nat} {dg nn : Nat → Nat} {pt ln : Nat → Nat → Nat} {wi : Nat → Nat → Int} (hN : 120 + 2 * no ≤ N) (hD : DK G ad c lim no dn gn gg dg nn pt ln wi) (hV : SV lim no dn gn gg dg nn pt ln wi) (hbad : dn = 0) : MX l yX7_enter wsX7_enter rx_X7_enter [.ref (ad 0)] D G ad N c xIS (fx ad N) (fun c1 => DK G ad c1 lim no dn gn gg dg nn pt ln wi ∧ ∀ q, (120 ≤ q ∧ q < 120) → c1 q = c q) 1 6 := by
  refine MX.of (cc := cX7_enter) (maxL := 1) (ret := (some .int)) (by decide) rfl (Nat.le_of_ble_eq_true rfl) ?_
  intro p e s m below meth kc A hx hb hr hts hown hml hlk hno w ls hl
  have hown : s.vm.findClass RX7 = some m.cls := hown
  have hl : lv_has ls 1 [(0, .ref (ad 0))] := hl
  obtain ⟨h0, hF, hB, hU, hTR, hTC, ⟨mz, lc, od, bt, hSS⟩, hJ⟩ := id hD
  obtain ⟨⟨ft, h15, hft⟩, hUo⟩ := id hU
  obtain ⟨hlim, hOV, hdn4, hdg, hUV⟩ := id hV
  have hlb : bnd lim := ⟨by omega, by omega⟩
  have hno8 := hOV.1
  have hBV : BookV no dn gn gg dg := ⟨hOV.1, hOV.2, hdn4, hdg⟩
  refine lv_aload_n hx hb dX7_enter_0 rfl (lv_at hl 0 rfl) ?_
  refine pw_get (r := 0) (ci := 7) (C := RX7) (T := TX7) (Nf := 5) hx hb w hts hin_X7_enter_7 hown (by omega) h0 rfl 1 (by decide) (hts _ fl_X7_enter_19) (fun _ h9 => h9) rfl dX7_enter_1 ?_
  refine pw_ci w (pw_runV (r := 12) (ci := 3) (As := []) (rest := []) w ⟨hx, hb, hml, hown, hts⟩ (c_X3_isDraftEmpty l D G ad N c hN hB hBV) (cwV 0 hts gX7_enter_X3_isDraftEmpty rfl rfl rfl (by decide +kernel) ⟨Nat.le_of_ble_eq_true rfl, Nat.le_of_ble_eq_true rfl⟩) (by omega) hB.1 rfl rfl hl.1 rfl (lv_room (Nat.le_of_ble_eq_true rfl)) dX7_enter_4 ⟨Nat.le_of_ble_eq_true rfl, Nat.le_of_ble_eq_true rfl⟩) (fun r_ u H locs hp w => ?_)
  obtain ⟨hv, hu⟩ := hp
  subst hv
  have w : PW D G A s ad N c H locs := by rw [hu] at w; exact w
  clear hu
  refine pz_top (b := 1) (if_pos hbad) ?_
  refine pz_ifne (tgt := 20) hx hb dX7_enter_7 (by decide) (⟨by omega, by omega⟩) (fun h1 => ?_) (fun h1 => ?_)
  · exact pw_throw (E0 := xIS) (text := "the draft is empty, or there is no room for it") (own := RX7) (names := ["java/lang/RuntimeException", "java/lang/Exception"]) (ik := 73) (is := 87) (ic := 77) (x := (ad, N, c)) hx hb hsT hno hlk w c rfl ⟨hD, fun _ _ => rfl⟩ hown rfl (by decide +kernel) (by decide +kernel) (hts _ wd_X7_enter_ck73) (hts _ wd_X7_enter_ini73) (by decide) (fun w h => hts _ (ats_X7_enter_IS w h)) og_IS (by decide) oa_IS (hl.1.trans hml.symm) dX7_enter_20 dX7_enter_23 dX7_enter_24 dX7_enter_26 dX7_enter_29 (Nat.le_of_ble_eq_true rfl) (Nat.le_of_ble_eq_true rfl) (Nat.le_of_ble_eq_true rfl) (Nat.le_of_ble_eq_true rfl) (Nat.le_of_ble_eq_true rfl) (Nat.le_of_ble_eq_true rfl)
  · omega

set_option maxHeartbeats 1000000 in
set_option maxRecDepth 100000 in
theorem x_X7_enter2 (l : Launch) (hsT : l.stackTraces = false) (D : va_G) (G : Nat → ClassId) (ad : Nat → Nat) (N : Nat) (c : Nat → va_E) {lim : Int} {no dn : Nat} {gn : Nat → Nat} {gg : Nat → Nat → Nat} {dg nn : Nat → Nat} {pt ln : Nat → Nat → Nat} {wi : Nat → Nat → Int} (hN : 120 + 2 * no ≤ N) (hD : DK G ad c lim no dn gn gg dg nn pt ln wi) (hV : SV lim no dn gn gg dg nn pt ln wi) (hd1 : 1 ≤ dn) (hbad : no = 8) : MX l yX7_enter wsX7_enter rx_X7_enter [.ref (ad 0)] D G ad N c xIS (fx ad N) (fun c1 => DK G ad c1 lim no dn gn gg dg nn pt ln wi ∧ ∀ q, (120 ≤ q ∧ q < 120) → c1 q = c q) 1 6 := by
  refine MX.of (cc := cX7_enter) (maxL := 1) (ret := (some .int)) (by decide) rfl (Nat.le_of_ble_eq_true rfl) ?_
  intro p e s m below meth kc A hx hb hr hts hown hml hlk hno w ls hl
  have hown : s.vm.findClass RX7 = some m.cls := hown
  have hl : lv_has ls 1 [(0, .ref (ad 0))] := hl
  obtain ⟨h0, hF, hB, hU, hTR, hTC, ⟨mz, lc, od, bt, hSS⟩, hJ⟩ := id hD
  obtain ⟨⟨ft, h15, hft⟩, hUo⟩ := id hU
  obtain ⟨hlim, hOV, hdn4, hdg, hUV⟩ := id hV
  have hlb : bnd lim := ⟨by omega, by omega⟩
  have hno8 := hOV.1
  have hBV : BookV no dn gn gg dg := ⟨hOV.1, hOV.2, hdn4, hdg⟩
  refine lv_aload_n hx hb dX7_enter_0 rfl (lv_at hl 0 rfl) ?_
  refine pw_get (r := 0) (ci := 7) (C := RX7) (T := TX7) (Nf := 5) hx hb w hts hin_X7_enter_7 hown (by omega) h0 rfl 1 (by decide) (hts _ fl_X7_enter_19) (fun _ h9 => h9) rfl dX7_enter_1 ?_
  refine pw_ci w (pw_runV (r := 12) (ci := 3) (As := []) (rest := []) w ⟨hx, hb, hml, hown, hts⟩ (c_X3_isDraftEmpty l D G ad N c hN hB hBV) (cwV 0 hts gX7_enter_X3_isDraftEmpty rfl rfl rfl (by decide +kernel) ⟨Nat.le_of_ble_eq_true rfl, Nat.le_of_ble_eq_true rfl⟩) (by omega) hB.1 rfl rfl hl.1 rfl (lv_room (Nat.le_of_ble_eq_true rfl)) dX7_enter_4 ⟨Nat.le_of_ble_eq_true rfl, Nat.le_of_ble_eq_true rfl⟩) (fun r_ u H locs hp w => ?_)
  obtain ⟨hv, hu⟩ := hp
  subst hv
  have w : PW D G A s ad N c H locs := by rw [hu] at w; exact w
  clear hu
  refine pz_top (b := 0) (if_neg (by omega)) ?_
  refine pz_ifne (tgt := 20) hx hb dX7_enter_7 (by decide) (⟨by omega, by omega⟩) (fun h1 => ?_) (fun h1 => ?_)
  · omega
  · refine lv_aload_n hx hb dX7_enter_10 rfl (lv_at hl 0 rfl) ?_
    refine pw_get (r := 0) (ci := 7) (C := RX7) (T := TX7) (Nf := 5) hx hb w hts hin_X7_enter_7 hown (by omega) h0 rfl 1 (by decide) (hts _ fl_X7_enter_19) (fun _ h9 => h9) rfl dX7_enter_11 ?_
    refine pw_ci w (pw_runV (r := 12) (ci := 3) (As := []) (rest := []) w ⟨hx, hb, hml, hown, hts⟩ (c_X3_isFull l D G ad N c hN hB hBV) (cwV 0 hts gX7_enter_X3_isFull rfl rfl rfl (by decide +kernel) ⟨Nat.le_of_ble_eq_true rfl, Nat.le_of_ble_eq_true rfl⟩) (by omega) hB.1 rfl rfl hl.1 rfl (lv_room (Nat.le_of_ble_eq_true rfl)) dX7_enter_14 ⟨Nat.le_of_ble_eq_true rfl, Nat.le_of_ble_eq_true rfl⟩) (fun r_ u H locs hp w => ?_)
    obtain ⟨hv, hu⟩ := hp
    subst hv
    have w : PW D G A s ad N c H locs := by rw [hu] at w; exact w
    clear hu
    refine pz_top (b := 1) (if_pos (by omega)) ?_
    refine pz_ifeq (tgt := 30) hx hb dX7_enter_17 (by decide) (⟨by omega, by omega⟩) (fun h2 => ?_) (fun h2 => ?_)
    · omega
    · exact pw_throw (E0 := xIS) (text := "the draft is empty, or there is no room for it") (own := RX7) (names := ["java/lang/RuntimeException", "java/lang/Exception"]) (ik := 73) (is := 87) (ic := 77) (x := (ad, N, c)) hx hb hsT hno hlk w c rfl ⟨hD, fun _ _ => rfl⟩ hown rfl (by decide +kernel) (by decide +kernel) (hts _ wd_X7_enter_ck73) (hts _ wd_X7_enter_ini73) (by decide) (fun w h => hts _ (ats_X7_enter_IS w h)) og_IS (by decide) oa_IS (hl.1.trans hml.symm) dX7_enter_20 dX7_enter_23 dX7_enter_24 dX7_enter_26 dX7_enter_29 (Nat.le_of_ble_eq_true rfl) (Nat.le_of_ble_eq_true rfl) (Nat.le_of_ble_eq_true rfl) (Nat.le_of_ble_eq_true rfl) (Nat.le_of_ble_eq_true rfl) (Nat.le_of_ble_eq_true rfl)
