/-- a tune's least cost, how many choices, the most ornaments -/
def TV (lim : Int) (no : Nat) (gn : Nat → Nat) (gg : Nat → Nat → Nat) (n : Nat) (p l : Nat → Nat) (w : Nat → Int) : Int × Int × Int := lwm (atc lim gn gg p l (rwT n w)) no (n - 1) 0 0
theorem bw_40 {lim : Int} {no : Nat} {gn : Nat → Nat} {gg : Nat → Nat → Nat} {x m y o : Nat} (hn : ∀ j, j < no → gn j ≤ 4 ∧ ∀ i, i < gn j → gg j i ≤ 10) (hx : x < 9) (hy : y < 9) (ho : o ≤ no) (h : bw lim gn gg x m y o < 1000000) : bw lim gn gg x m y o ≤ 40 := by
  unfold bw at h ⊢
  split at h
  · rename_i h0
    rw [if_pos h0]
    exact Int.le_trans ((stp_bd (lim := lim) hx hy).2.2 h) (by decide)
  · rename_i h0
    rw [if_neg h0]
    have h9 := hn (o - 1) (by omega)
    have h1 := orS_bd h9.2 hx hy (lim := lim) (gn (o - 1)) (Nat.le_refl _)
    have h2 := stp_bd (lim := lim) (orF_lt h9.2 hx hy (gn (o - 1)) (Nat.le_refl _)) hy
    split at h <;> rename_i h3 <;> simp only [h3, if_true, if_false] <;> omega
theorem caU_40 {at_ Ln Wn Mn : Nat → Int} {a : Nat} {K : Int} : ∀ n, (∀ o, o < n → at_ o < 1000000 → at_ o ≤ 40) → (∀ o, o < n → 0 < Wn o → Ln o ≤ K) → 0 < (caU at_ Ln Wn Mn a n).2.1 → (caU at_ Ln Wn Mn a n).1 ≤ 40 + K
  | 0, _, _, h => by
    unfold caU at h
    dsimp only at h
    omega
  | n + 1, h1, h2, h => by
    unfold caU at h ⊢
    split
    · rename_i hc
      have e1 := h1 n (by omega) hc.1
      have e2 := h2 n (by omega) hc.2.2
      dsimp only
      split <;> omega
    · rename_i hc
      rw [if_neg hc] at h
      exact caU_40 n (fun o ho => h1 o (by omega)) (fun o ho => h2 o (by omega)) h
theorem lwm_40 {at_ : Nat → Nat → Int} {no : Nat} : ∀ k i a, (∀ j o, i ≤ j → j < i + k → o ≤ no → at_ j o < 1000000 → at_ j o ≤ 40) → 0 < (lwm at_ no k i a).2.1 → (lwm at_ no k i a).1 ≤ 40 * (k : Int)
  | 0, i, a, _, _ => by
    unfold lwm
    dsimp only
    omega
  | k + 1, i, a, h, hW => by
    have := caU_40 (K := 40 * (k : Int)) (no + 1) (fun o ho h9 => h i o (by omega) (by omega) (by omega) h9) (fun o _ h9 => lwm_40 k (i + 1) o (fun j o h1 h2 h3 => h j o (by omega) (by omega) h3) h9) hW
    unfold lwm
    omega
theorem atc_bd {lim : Int} {no : Nat} {gn : Nat → Nat} {gg : Nat → Nat → Nat} {r : Nat} {rp rl : Nat → Nat} {rw : Nat → Int} (hOV : OV no gn gg) (hRV : RowV r rp rl rw) {j o : Nat} (hj : j + 1 < r) (ho : o ≤ no) : 0 ≤ atc lim gn gg rp rl rw j o ∧ (atc lim gn gg rp rl rw j o < 1000000 → atc lim gn gg rp rl rw j o ≤ 40) := by
  have h := bw_bd (lim := lim) (m := rl j) (x := rp j) (y := rp (j + 1)) hOV.g (hRV.2 j (by omega)).1 (hRV.2 (j + 1) (by omega)).1 ho
  have h2 := bw_40 (lim := lim) (m := rl j) (x := rp j) (y := rp (j + 1)) hOV.g (hRV.2 j (by omega)).1 (hRV.2 (j + 1) (by omega)).1 ho
  unfold atc
  split <;> omega
theorem TV_bd {lim : Int} {no : Nat} {gn : Nat → Nat} {gg : Nat → Nat → Nat} {n : Nat} {p l : Nat → Nat} {w : Nat → Int} (hOV : OV no gn gg) (hT : TuneV n p l w) : 0 ≤ (TV lim no gn gg n p l w).1 ∧ (TV lim no gn gg n p l w).1 ≤ 1000000 ∧ 0 ≤ (TV lim no gn gg n p l w).2.1 ∧ (TV lim no gn gg n p l w).2.1 ≤ 500000000 ∧ -1000000 ≤ (TV lim no gn gg n p l w).2.2 ∧ (TV lim no gn gg n p l w).2.2 ≤ 9 ∧ (0 < (TV lim no gn gg n p l w).2.1 → (TV lim no gn gg n p l w).1 ≤ 360) := by
  have hR := rwT_V hT
  have h10 := hT.1
  have h1 := lwm_bd (at_ := atc lim gn gg p l (rwT n w)) (no := no) (n - 1) 0 0 (fun j o h1 h2 h3 => (atc_bd hOV hR (by omega) h3).1)
  have h2 := lwm_40 (at_ := atc lim gn gg p l (rwT n w)) (no := no) (n - 1) 0 0 (fun j o h1 h2 h3 => (atc_bd hOV hR (by omega) h3).2)
  unfold TV
  refine ⟨h1.1, h1.2.1, h1.2.2.1, h1.2.2.2.1, h1.2.2.2.2.1, by have := h1.2.2.2.2.2; omega, fun h => by have := h2 h; omega⟩
theorem Laid.v {G : Nat → ClassId} {ad : Nat → Nat} {c : Nat → va_E} {th lim : Int} {no : Nat} {dn : Int} {gn : Nat → Nat} {gg : Nat → Nat → Nat} {n : Nat} {p l : Nat → Nat} {w : Nat → Int} (h : Laid G ad c th lim no dn gn gg n p l (rwT n w)) : (∃ gl, isA 0 G (c 132) 369 gl ∧ gl 0 = (TV lim no gn gg n p l w).1) ∧ (∃ gl, isA 0 G (c 133) 369 gl ∧ gl 0 = (TV lim no gn gg n p l w).2.1) ∧ ∃ gl, isA 0 G (c 134) 369 gl ∧ gl 0 = (TV lim no gn gg n p l w).2.2 := by
  obtain ⟨-, -, ⟨g1, a1, b1⟩, ⟨g2, a2, b2⟩, g3, a3, b3⟩ := h
  exact ⟨⟨g1, a1, b1 0 0 (by omega) (by omega) (Or.inl (by omega))⟩, ⟨g2, a2, b2 0 0 (by omega) (by omega) (Or.inl (by omega))⟩, g3, a3, b3 0 0 (by omega) (by omega) (Or.inl (by omega))⟩
theorem avN : ∀ c : Nat, c < 361 → ∀ g : Nat, g < 9 → vf_n32 (FP.fdiv (FP.i2f (zI (c : Int))) (FP.i2f (zI ((g + 1 : Nat) : Int)))) := by
  unfold vf_n32
  decide +kernel

abbrev rm_X8_faultOf : Room := { frames := 8, cells := 0, slots := 0, locals := 240 }
set_option maxHeartbeats 4000000 in
set_option maxRecDepth 100000 in
/-- faultOf -/
theorem c_X8_faultOf_bad (l : Launch) (D : va_G) (G : Nat → ClassId) (ad : Nat → Nat) (N : Nat) (c : Nat → va_E) {zt ip : Int} (hbzt : bnd zt) (hbad : ¬ (0 ≤ zt ∧ zt ≤ 3)) : MC l yX8_faultOf wsX8_faultOf rm_X8_faultOf [.ref (ad 120), .int (zI zt), .int (zI ip)] D G ad N c (qI D G (fx ad N) (fun v c1 => v = zI 1 ∧ c1 = c)) 0 0 := by
  refine MCi.of (cc := cX8_faultOf) (maxL := 3) (by decide) rfl (Nat.le_of_ble_eq_true rfl) ?_
  intro p e s m args below meth kc A Q hx hb hts hown hml fin H locs w ls hl
  have hown : s.vm.findClass RX8 = some m.cls := hown
  have hl : lv_has ls 3 [(0, .ref (ad 120)), (1, .int (zI zt)), (2, .int (zI ip))] := hl
  have hbzt1 := hbzt.1
  have hbzt2 := hbzt.2
  refine lv_iload_n hx hb dX8_faultOf_0 rfl (lv_at hl 1 rfl) ?_
  refine pw_ci w (pw_runS (As := [.int (zI zt)]) (rest := []) w ⟨hx, hb, hml, hown, hts⟩ (c_X8_isTune l D G ad N c (v := zt) ⟨by omega, by omega⟩) (va_cwS 1 hts gX8_faultOf_X8_isTune rfl rfl rfl (by decide +kernel) ⟨Nat.le_of_ble_eq_true rfl, Nat.le_of_ble_eq_true rfl⟩) rfl hl.1 rfl (lv_room (Nat.le_of_ble_eq_true rfl)) dX8_faultOf_1 ⟨Nat.le_of_ble_eq_true rfl, Nat.le_of_ble_eq_true rfl⟩) (fun r_ u H locs hp w => ?_)
  obtain ⟨hv, hu⟩ := hp
  subst hv
  have w : PW D G A s ad N c H locs := by rw [hu] at w; exact w
  clear hu
  refine pz_top (b := 0) (if_neg (by omega)) ?_
  refine pz_ifne (tgt := 9) hx hb dX8_faultOf_4 (by decide) (⟨by omega, by omega⟩) (fun h1 => ?_) (fun h1 => ?_)
  · omega
  · refine lv_iconst (v := zI (1)) hx hb dX8_faultOf_7 rfl ?_
    exact fin (ad, N, c) c _ _ _ _ _ _ _ rfl ⟨rfl, rfl⟩ w dX8_faultOf_8 (Nat.le_refl _) (Nat.le_refl _)

theorem hin_X8_faultOf_8 : ∀ w ∈ u_ws RX8 TX8 21, w ∈ wsX8_faultOf := by decide +kernel
theorem fl_X8_faultOf_51 : Cond.fieldLink RX8 51 "PipersDeskModel" "ways" "[I" ∈ wsX8_faultOf := by decide +kernel
set_option maxHeartbeats 4000000 in
set_option maxRecDepth 100000 in
/-- faultOf -/
theorem c_X8_faultOf_ok (l : Launch) (D : va_G) (G : Nat → ClassId) (ad : Nat → Nat) (N : Nat) (c : Nat → va_E) {th lim : Int} {no dn : Nat} {gn : Nat → Nat} {gg : Nat → Nat → Nat} {dg nn : Nat → Nat} {pt ln : Nat → Nat → Nat} {wi : Nat → Nat → Int} (hN : 139 ≤ N) (hS : MS G ad c th lim no dn gn gg dg nn pt ln wi) (hV : SV lim no dn gn gg dg nn pt ln wi) {t : Nat} (ht : t < 4) {ip : Int} (hip : ip = 0 ∨ ip = 1) : MC l yX8_faultOf wsX8_faultOf rm_X8_faultOf [.ref (ad 120), .int (zI (t : Int)), .int (zI ip)] D G ad N c (qI D G (fx ad N) (fun v c1 => v = zI (if ip = 0 then 2 else if (TV lim no gn gg (nn t) (pt t) (ln t) (wi t)).2.1 = 0 then 3 else 0) ∧ Laid G ad c1 th lim no (dn : Int) gn gg (nn t) (pt t) (ln t) (rwT (nn t) (wi t)) ∧ ∀ q, (q < 120 ∨ (121 ≤ q ∧ q < 129) ∨ 135 ≤ q) → c1 q = c q)) 0 0 := by
  refine MCi.of (cc := cX8_faultOf) (maxL := 3) (by decide) rfl (Nat.le_of_ble_eq_true rfl) ?_
  intro p e s m args below meth kc A Q hx hb hts hown hml fin H locs w ls hl
  have hown : s.vm.findClass RX8 = some m.cls := hown
  have hl : lv_has ls 3 [(0, .ref (ad 120)), (1, .int (zI (t : Int))), (2, .int (zI ip))] := hl
  obtain ⟨⟨row, hm⟩, hh, hB, hDr, hMT, hMR⟩ := id hS
  obtain ⟨hlim, hOV, hdn4, hdg, hUV⟩ := id hV
  have hlb : bnd lim := ⟨by omega, by omega⟩
  have hno8 := hOV.1
  have hnt := (hUV t ht).1
  have hTV := TV_bd (lim := lim) hOV (hUV t ht)
  refine lv_iload_n hx hb dX8_faultOf_0 rfl (lv_at hl 1 rfl) ?_
  refine pw_ci w (pw_runS (As := [.int (zI (t : Int))]) (rest := []) w ⟨hx, hb, hml, hown, hts⟩ (c_X8_isTune l D G ad N c (v := (t : Int)) ⟨by omega, by omega⟩) (va_cwS 1 hts gX8_faultOf_X8_isTune rfl rfl rfl (by decide +kernel) ⟨Nat.le_of_ble_eq_true rfl, Nat.le_of_ble_eq_true rfl⟩) rfl hl.1 rfl (lv_room (Nat.le_of_ble_eq_true rfl)) dX8_faultOf_1 ⟨Nat.le_of_ble_eq_true rfl, Nat.le_of_ble_eq_true rfl⟩) (fun r_ u H locs hp w => ?_)
  obtain ⟨hv, hu⟩ := hp
  subst hv
  have w : PW D G A s ad N c H locs := by rw [hu] at w; exact w
  clear hu
  refine pz_top (b := 1) (if_pos (by omega)) ?_
  refine pz_ifne (tgt := 9) hx hb dX8_faultOf_4 (by decide) (⟨by omega, by omega⟩) (fun h1 => ?_) (fun h1 => ?_)
  · refine lv_aload_n hx hb dX8_faultOf_9 rfl (lv_at hl 0 rfl) ?_
    refine lv_iload_n hx hb dX8_faultOf_10 rfl (lv_at hl 1 rfl) ?_
    refine pw_cv w (pw_runV (r := 120) (ci := 8) (As := [.int (zI (t : Int))]) (rest := []) w ⟨hx, hb, hml, hown, hts⟩ (c_X8_layTune l D G ad N c (t := t) hN hm hh hlb hB hOV hMT hUV hMR ht) (cwV 1 hts gX8_faultOf_X8_layTune rfl rfl rfl (by decide +kernel) ⟨Nat.le_of_ble_eq_true rfl, Nat.le_of_ble_eq_true rfl⟩) (by omega) hm rfl rfl hl.1 rfl (lv_room (Nat.le_of_ble_eq_true rfl)) dX8_faultOf_11 ⟨Nat.le_of_ble_eq_true rfl, Nat.le_of_ble_eq_true rfl⟩) (fun c2 H locs hp w => ?_)
    have w : PW D G A s ad N c2 H locs := w
    obtain ⟨hLd2, fr2⟩ := hp
    have hS2 := hS.laid hLd2 fr2
    obtain ⟨-, hh, hB, hDr, hMT, hMR⟩ := id hS2
    obtain ⟨⟨gL, l1, eL⟩, ⟨gW, l2, eW⟩, gM, l3, eM⟩ := hLd2.v
    refine lv_iload_n hx hb dX8_faultOf_14 rfl (lv_at hl 2 rfl) ?_
    refine pz_ifne (tgt := 22) hx hb dX8_faultOf_15 (by decide) (⟨by omega, by omega⟩) (fun hip0 => ?_) (fun hip0 => ?_)
    · refine lv_aload_n hx hb dX8_faultOf_22 rfl (lv_at hl 0 rfl) ?_
      refine pw_get (r := 120) (ci := 8) (C := RX8) (T := TX8) (Nf := 21) hx hb w hts hin_X8_faultOf_8 hown (by omega) hLd2.1 rfl 17 (by decide) (hts _ fl_X8_faultOf_51) (fun _ h9 => h9) rfl dX8_faultOf_23 ?_
      refine lv_iconst (v := zI (0)) hx hb dX8_faultOf_26 rfl ?_
      refine pw_iald (r := 133) (j := 0) hx hb w (by omega) l2 (by omega) (by omega) (by decide) dX8_faultOf_27 ?_
      refine pz_top (b := (TV lim no gn gg (nn t) (pt t) (ln t) (wi t)).2.1) (eW) ?_
      refine pz_ifne (tgt := 35) hx hb dX8_faultOf_28 (by decide) (⟨by omega, by omega⟩) (fun hW0 => ?_) (fun hW0 => ?_)
      · refine lv_iconst (v := zI (0)) hx hb dX8_faultOf_35 rfl ?_
        exact fin (ad, N, c2) c2 _ _ _ _ _ _ _ rfl ⟨by rw [if_neg hip0, if_neg hW0], hLd2, fr2⟩ w dX8_faultOf_36 (Nat.le_refl _) (Nat.le_refl _)
      · refine lv_iconst (v := zI (3)) hx hb dX8_faultOf_31 rfl ?_
        refine lv_goto (tgt := 36) hx hb dX8_faultOf_32 (by decide) ?_
        exact fin (ad, N, c2) c2 _ _ _ _ _ _ _ rfl ⟨by rw [if_neg hip0, if_pos hW0], hLd2, fr2⟩ w dX8_faultOf_36 (Nat.le_refl _) (Nat.le_refl _)
    · refine lv_iconst (v := zI (2)) hx hb dX8_faultOf_18 rfl ?_
      refine lv_goto (tgt := 36) hx hb dX8_faultOf_19 (by decide) ?_
      exact fin (ad, N, c2) c2 _ _ _ _ _ _ _ rfl ⟨by rw [if_pos hip0], hLd2, fr2⟩ w dX8_faultOf_36 (Nat.le_refl _) (Nat.le_refl _)
  · omega

abbrev rm_X8_faultOfTune : Room := { frames := 9, cells := 0, slots := 0, locals := 270 }
set_option maxHeartbeats 4000000 in
set_option maxRecDepth 100000 in
/-- faultOfTune -/
theorem c_X8_faultOfTune_bad (l : Launch) (D : va_G) (G : Nat → ClassId) (ad : Nat → Nat) (N : Nat) (c : Nat → va_E) {th lim no dn row : Int} (hN : 139 ≤ N) (hm : c 120 = .inr (8, moV ad th lim no dn row)) {zt : Int} (hbzt : bnd zt) (hbad : ¬ (0 ≤ zt ∧ zt ≤ 3)) : MC l yX8_faultOfTune wsX8_faultOfTune rm_X8_faultOfTune [.ref (ad 120), .int (zI zt)] D G ad N c (qI D G (fx ad N) (fun v c1 => v = zI 1 ∧ c1 = c)) 0 0 := by
  refine MCi.of (cc := cX8_faultOfTune) (maxL := 3) (by decide) rfl (Nat.le_of_ble_eq_true rfl) ?_
  intro p e s m args below meth kc A Q hx hb hts hown hml fin H locs w ls hl
  have hown : s.vm.findClass RX8 = some m.cls := hown
  have hl : lv_has ls 3 [(0, .ref (ad 120)), (1, .int (zI zt))] := hl
  have hbzt1 := hbzt.1
  have hbzt2 := hbzt.2
  refine lv_aload_n hx hb dX8_faultOfTune_0 rfl (lv_at hl 0 rfl) ?_
  refine lv_iload_n hx hb dX8_faultOfTune_1 rfl (lv_at hl 1 rfl) ?_
  refine lv_iconst (v := zI (1)) hx hb dX8_faultOfTune_2 rfl ?_
  refine pw_ci w (pw_runV (r := 120) (ci := 8) (As := [.int (zI zt), .int (zI 1)]) (rest := []) w ⟨hx, hb, hml, hown, hts⟩ (c_X8_faultOf_bad l D G ad N c (ip := 1) (zt := zt) hbzt hbad) (cwV 2 hts gX8_faultOfTune_X8_faultOf rfl rfl rfl (by decide +kernel) ⟨Nat.le_of_ble_eq_true rfl, Nat.le_of_ble_eq_true rfl⟩) (by omega) hm rfl rfl hl.1 rfl (lv_room (Nat.le_of_ble_eq_true rfl)) dX8_faultOfTune_3 ⟨Nat.le_of_ble_eq_true rfl, Nat.le_of_ble_eq_true rfl⟩) (fun r_ u H locs hp w => ?_)
  obtain ⟨hv, hu⟩ := hp
  subst hv
  have w : PW D G A s ad N c H locs := by rw [hu] at w; exact w
  clear hu
  refine lv_istore_n (lv' := [(2, .int (zI 1)), (0, .ref (ad 120)), (1, .int (zI zt))]) hx hb dX8_faultOfTune_6 rfl hl (by decide) rfl (fun ls hl => ?_)
  refine lv_iload_n hx hb dX8_faultOfTune_7 rfl (lv_at hl 0 rfl) ?_
  refine lv_iconst (v := zI (3)) hx hb dX8_faultOfTune_8 rfl ?_
  refine pz_icmpne (tgt := 16) hx hb dX8_faultOfTune_9 (by decide) (⟨by omega, by omega⟩) (⟨by omega, by omega⟩) (fun h1 => ?_) (fun h1 => ?_)
  · refine lv_iload_n hx hb dX8_faultOfTune_16 rfl (lv_at hl 0 rfl) ?_
    exact fin (ad, N, c) c _ _ _ _ _ _ _ rfl ⟨rfl, rfl⟩ w dX8_faultOfTune_17 (Nat.le_refl _) (Nat.le_refl _)
  · omega

set_option maxHeartbeats 4000000 in
set_option maxRecDepth 100000 in
/-- faultOfTune -/
theorem c_X8_faultOfTune_ok (l : Launch) (D : va_G) (G : Nat → ClassId) (ad : Nat → Nat) (N : Nat) (c : Nat → va_E) {th lim : Int} {no dn : Nat} {gn : Nat → Nat} {gg : Nat → Nat → Nat} {dg nn : Nat → Nat} {pt ln : Nat → Nat → Nat} {wi : Nat → Nat → Int} (hN : 139 ≤ N) (hS : MS G ad c th lim no dn gn gg dg nn pt ln wi) (hV : SV lim no dn gn gg dg nn pt ln wi) {t : Nat} (ht : t < 4) : MC l yX8_faultOfTune wsX8_faultOfTune rm_X8_faultOfTune [.ref (ad 120), .int (zI (t : Int))] D G ad N c (qI D G (fx ad N) (fun v c1 => v = zI (if (TV lim no gn gg (nn t) (pt t) (ln t) (wi t)).2.1 = 0 then 2 else 0) ∧ Laid G ad c1 th lim no (dn : Int) gn gg (nn t) (pt t) (ln t) (rwT (nn t) (wi t)) ∧ ∀ q, (q < 120 ∨ (121 ≤ q ∧ q < 129) ∨ 135 ≤ q) → c1 q = c q)) 0 0 := by
  refine MCi.of (cc := cX8_faultOfTune) (maxL := 3) (by decide) rfl (Nat.le_of_ble_eq_true rfl) ?_
  intro p e s m args below meth kc A Q hx hb hts hown hml fin H locs w ls hl
  have hown : s.vm.findClass RX8 = some m.cls := hown
  have hl : lv_has ls 3 [(0, .ref (ad 120)), (1, .int (zI (t : Int)))] := hl
  obtain ⟨⟨row, hm⟩, hh, hB, hDr, hMT, hMR⟩ := id hS
  obtain ⟨hlim, hOV, hdn4, hdg, hUV⟩ := id hV
  have hlb : bnd lim := ⟨by omega, by omega⟩
  have hno8 := hOV.1
  have hnt := (hUV t ht).1
  have hTV := TV_bd (lim := lim) hOV (hUV t ht)
  refine lv_aload_n hx hb dX8_faultOfTune_0 rfl (lv_at hl 0 rfl) ?_
  refine lv_iload_n hx hb dX8_faultOfTune_1 rfl (lv_at hl 1 rfl) ?_
  refine lv_iconst (v := zI (1)) hx hb dX8_faultOfTune_2 rfl ?_
  refine pw_ci w (pw_runV (r := 120) (ci := 8) (As := [.int (zI (t : Int)), .int (zI 1)]) (rest := []) w ⟨hx, hb, hml, hown, hts⟩ (c_X8_faultOf_ok l D G ad N c (t := t) (ip := 1) hN hS hV ht (Or.inr rfl)) (cwV 2 hts gX8_faultOfTune_X8_faultOf rfl rfl rfl (by decide +kernel) ⟨Nat.le_of_ble_eq_true rfl, Nat.le_of_ble_eq_true rfl⟩) (by omega) hm rfl rfl hl.1 rfl (lv_room (Nat.le_of_ble_eq_true rfl)) dX8_faultOfTune_3 ⟨Nat.le_of_ble_eq_true rfl, Nat.le_of_ble_eq_true rfl⟩) (fun r_ c1 H locs hp w => ?_)
  have w : PW D G A s ad N c1 H locs := w
  obtain ⟨hv1, hLd1, fr1⟩ := hp
  subst hv1
  by_cases hW0 : (TV lim no gn gg (nn t) (pt t) (ln t) (wi t)).2.1 = 0
  · refine pz_top (b := 3) (by rw [if_neg (by decide), if_pos hW0]) ?_
    refine lv_istore_n (lv' := [(2, .int (zI 3)), (0, .ref (ad 120)), (1, .int (zI (t : Int)))]) hx hb dX8_faultOfTune_6 rfl hl (by decide) rfl (fun ls hl => ?_)
    refine lv_iload_n hx hb dX8_faultOfTune_7 rfl (lv_at hl 0 rfl) ?_
    refine lv_iconst (v := zI (3)) hx hb dX8_faultOfTune_8 rfl ?_
    refine pz_icmpne (tgt := 16) hx hb dX8_faultOfTune_9 (by decide) (⟨by omega, by omega⟩) (⟨by omega, by omega⟩) (fun h2 => ?_) (fun h2 => ?_)
    · omega
    · refine lv_iconst (v := zI (2)) hx hb dX8_faultOfTune_12 rfl ?_
      refine lv_goto (tgt := 17) hx hb dX8_faultOfTune_13 (by decide) ?_
      exact fin (ad, N, c1) c1 _ _ _ _ _ _ _ rfl ⟨by rw [if_pos hW0], hLd1, fr1⟩ w dX8_faultOfTune_17 (Nat.le_refl _) (Nat.le_refl _)
  · refine pz_top (b := 0) (by rw [if_neg (by decide), if_neg hW0]) ?_
    refine lv_istore_n (lv' := [(2, .int (zI 0)), (0, .ref (ad 120)), (1, .int (zI (t : Int)))]) hx hb dX8_faultOfTune_6 rfl hl (by decide) rfl (fun ls hl => ?_)
    refine lv_iload_n hx hb dX8_faultOfTune_7 rfl (lv_at hl 0 rfl) ?_
    refine lv_iconst (v := zI (3)) hx hb dX8_faultOfTune_8 rfl ?_
    refine pz_icmpne (tgt := 16) hx hb dX8_faultOfTune_9 (by decide) (⟨by omega, by omega⟩) (⟨by omega, by omega⟩) (fun h3 => ?_) (fun h3 => ?_)
    · refine lv_iload_n hx hb dX8_faultOfTune_16 rfl (lv_at hl 0 rfl) ?_
      exact fin (ad, N, c1) c1 _ _ _ _ _ _ _ rfl ⟨by rw [if_neg hW0], hLd1, fr1⟩ w dX8_faultOfTune_17 (Nat.le_refl _) (Nat.le_refl _)
    · omega

abbrev rm_X8_choices : Room := { frames := 9, cells := 0, slots := 0, locals := 270 }
set_option maxHeartbeats 4000000 in
set_option maxRecDepth 100000 in
/-- X8_choices_bad -/
theorem c_X8_choices_bad (l : Launch) (D : va_G) (G : Nat → ClassId) (ad : Nat → Nat) (N : Nat) (c : Nat → va_E) {th lim : Int} {no dn : Nat} {gn : Nat → Nat} {gg : Nat → Nat → Nat} {dg nn : Nat → Nat} {pt ln : Nat → Nat → Nat} {wi : Nat → Nat → Int} (hN : 139 ≤ N) (hS : MS G ad c th lim no dn gn gg dg nn pt ln wi) (hV : SV lim no dn gn gg dg nn pt ln wi) {zt : Int} (hbzt : bnd zt) (hbad : ¬ (0 ≤ zt ∧ zt ≤ 3)) : MC l yX8_choices wsX8_choices rm_X8_choices [.ref (ad 120), .int (zI zt)] D G ad N c (qI D G (fx ad N) (fun v c1 => v = zI 0 ∧ MS G ad c1 1 lim no dn gn gg dg nn pt ln wi ∧ ∀ q, (q < 120 ∨ 137 ≤ q) → c1 q = c q)) 0 0 := by
  refine MCi.of (cc := cX8_choices) (maxL := 2) (by decide) rfl (Nat.le_of_ble_eq_true rfl) ?_
  intro p e s m args below meth kc A Q hx hb hts hown hml fin H locs w ls hl
  have hown : s.vm.findClass RX8 = some m.cls := hown
  have hl : lv_has ls 2 [(0, .ref (ad 120)), (1, .int (zI zt))] := hl
  obtain ⟨⟨row, hm⟩, hh, hB, hDr, hMT, hMR⟩ := id hS
  obtain ⟨hlim, hOV, hdn4, hdg, hUV⟩ := id hV
  have hlb : bnd lim := ⟨by omega, by omega⟩
  have hno8 := hOV.1
  have hbzt1 := hbzt.1
  have hbzt2 := hbzt.2
  refine lv_aload_n hx hb dX8_choices_0 rfl (lv_at hl 0 rfl) ?_
  refine lv_iload_n hx hb dX8_choices_1 rfl (lv_at hl 1 rfl) ?_
  refine pw_ci w (pw_runS (As := [.int (zI zt)]) (rest := [.ref (ad 120)]) w ⟨hx, hb, hml, hown, hts⟩ (c_X8_isTune l D G ad N c (v := zt) ⟨by omega, by omega⟩) (va_cwS 1 hts gX8_choices_X8_isTune rfl rfl rfl (by decide +kernel) ⟨Nat.le_of_ble_eq_true rfl, Nat.le_of_ble_eq_true rfl⟩) rfl hl.1 rfl (lv_room (Nat.le_of_ble_eq_true rfl)) dX8_choices_2 ⟨Nat.le_of_ble_eq_true rfl, Nat.le_of_ble_eq_true rfl⟩) (fun r_ u H locs hp w => ?_)
  obtain ⟨hv, hu⟩ := hp
  subst hv
  have w : PW D G A s ad N c H locs := by rw [hu] at w; exact w
  clear hu
  refine pz_top (b := 0) (if_neg (by omega)) ?_
  refine pz_ifeq (tgt := 12) hx hb dX8_choices_5 (by decide) (⟨by omega, by omega⟩) (fun h1 => ?_) (fun h1 => ?_)
  · refine lv_iconst (v := zI (1)) hx hb dX8_choices_12 rfl ?_
    refine pw_ci w (pw_runV (r := 120) (ci := 8) (As := [.int (zI 1)]) (rest := []) w ⟨hx, hb, hml, hown, hts⟩ (c_X8_goesWell l D G ad N c (pl := 1) hN hm ⟨by decide, by decide⟩) (cwV 1 hts gX8_choices_X8_goesWell rfl rfl rfl (by decide +kernel) ⟨Nat.le_of_ble_eq_true rfl, Nat.le_of_ble_eq_true rfl⟩) (by omega) hm rfl rfl hl.1 rfl (lv_room (Nat.le_of_ble_eq_true rfl)) dX8_choices_13 ⟨Nat.le_of_ble_eq_true rfl, Nat.le_of_ble_eq_true rfl⟩) (fun r_ c2 H locs hp w => ?_)
    have w : PW D G A s ad N c2 H locs := w
    obtain ⟨hv2, hm2, fr2⟩ := hp
    subst hv2
    refine pz_top (b := 0) (if_neg (by omega)) ?_
    have hS2 := hS.to hm2 fr2
    have hm := hm2
    obtain ⟨-, hh, hB, hDr, hMT, hMR⟩ := id hS2
    refine pz_ifne (tgt := 21) hx hb dX8_choices_16 (by decide) (⟨by omega, by omega⟩) (fun h3 => ?_) (fun h3 => ?_)
    · omega
    · refine lv_iconst (v := zI (0)) hx hb dX8_choices_19 rfl ?_
      exact fin (ad, N, c2) c2 _ _ _ _ _ _ _ rfl ⟨rfl, hS2, fun q hq => ((fr2 q (by omega)).trans rfl)⟩ w dX8_choices_20 (Nat.le_refl _) (Nat.le_refl _)
  · omega

theorem hin_X8_choices_8 : ∀ w ∈ u_ws RX8 TX8 21, w ∈ wsX8_choices := by decide +kernel
theorem fl_X8_choices_51 : Cond.fieldLink RX8 51 "PipersDeskModel" "ways" "[I" ∈ wsX8_choices := by decide +kernel
set_option maxHeartbeats 4000000 in
set_option maxRecDepth 100000 in
/-- X8_choices_ok -/
theorem c_X8_choices_ok (l : Launch) (D : va_G) (G : Nat → ClassId) (ad : Nat → Nat) (N : Nat) (c : Nat → va_E) {th lim : Int} {no dn : Nat} {gn : Nat → Nat} {gg : Nat → Nat → Nat} {dg nn : Nat → Nat} {pt ln : Nat → Nat → Nat} {wi : Nat → Nat → Int} (hN : 139 ≤ N) (hS : MS G ad c th lim no dn gn gg dg nn pt ln wi) (hV : SV lim no dn gn gg dg nn pt ln wi) {t : Nat} (ht : t < 4) : MC l yX8_choices wsX8_choices rm_X8_choices [.ref (ad 120), .int (zI (t : Int))] D G ad N c (qI D G (fx ad N) (fun v c1 => v = zI ((TV lim no gn gg (nn t) (pt t) (ln t) (wi t)).2.1) ∧ MS G ad c1 0 lim no dn gn gg dg nn pt ln wi ∧ ∀ q, (q < 120 ∨ 137 ≤ q) → c1 q = c q)) 0 0 := by
  refine MCi.of (cc := cX8_choices) (maxL := 2) (by decide) rfl (Nat.le_of_ble_eq_true rfl) ?_
  intro p e s m args below meth kc A Q hx hb hts hown hml fin H locs w ls hl
  have hown : s.vm.findClass RX8 = some m.cls := hown
  have hl : lv_has ls 2 [(0, .ref (ad 120)), (1, .int (zI (t : Int)))] := hl
  obtain ⟨⟨row, hm⟩, hh, hB, hDr, hMT, hMR⟩ := id hS
  obtain ⟨hlim, hOV, hdn4, hdg, hUV⟩ := id hV
  have hlb : bnd lim := ⟨by omega, by omega⟩
  have hno8 := hOV.1
  have hnt := (hUV t ht).1
  have hTV := TV_bd (lim := lim) hOV (hUV t ht)
  refine lv_aload_n hx hb dX8_choices_0 rfl (lv_at hl 0 rfl) ?_
  refine lv_iload_n hx hb dX8_choices_1 rfl (lv_at hl 1 rfl) ?_
  refine pw_ci w (pw_runS (As := [.int (zI (t : Int))]) (rest := [.ref (ad 120)]) w ⟨hx, hb, hml, hown, hts⟩ (c_X8_isTune l D G ad N c (v := (t : Int)) ⟨by omega, by omega⟩) (va_cwS 1 hts gX8_choices_X8_isTune rfl rfl rfl (by decide +kernel) ⟨Nat.le_of_ble_eq_true rfl, Nat.le_of_ble_eq_true rfl⟩) rfl hl.1 rfl (lv_room (Nat.le_of_ble_eq_true rfl)) dX8_choices_2 ⟨Nat.le_of_ble_eq_true rfl, Nat.le_of_ble_eq_true rfl⟩) (fun r_ u H locs hp w => ?_)
  obtain ⟨hv, hu⟩ := hp
  subst hv
  have w : PW D G A s ad N c H locs := by rw [hu] at w; exact w
  clear hu
  refine pz_top (b := 1) (if_pos (by omega)) ?_
  refine pz_ifeq (tgt := 12) hx hb dX8_choices_5 (by decide) (⟨by omega, by omega⟩) (fun h1 => ?_) (fun h1 => ?_)
  · omega
  · refine lv_iconst (v := zI (0)) hx hb dX8_choices_8 rfl ?_
    refine lv_goto (tgt := 13) hx hb dX8_choices_9 (by decide) ?_
    refine pw_ci w (pw_runV (r := 120) (ci := 8) (As := [.int (zI 0)]) (rest := []) w ⟨hx, hb, hml, hown, hts⟩ (c_X8_goesWell l D G ad N c (pl := 0) hN hm ⟨by decide, by decide⟩) (cwV 1 hts gX8_choices_X8_goesWell rfl rfl rfl (by decide +kernel) ⟨Nat.le_of_ble_eq_true rfl, Nat.le_of_ble_eq_true rfl⟩) (by omega) hm rfl rfl hl.1 rfl (lv_room (Nat.le_of_ble_eq_true rfl)) dX8_choices_13 ⟨Nat.le_of_ble_eq_true rfl, Nat.le_of_ble_eq_true rfl⟩) (fun r_ c2 H locs hp w => ?_)
    have w : PW D G A s ad N c2 H locs := w
    obtain ⟨hv2, hm2, fr2⟩ := hp
    subst hv2
    refine pz_top (b := 1) (if_pos (by omega)) ?_
    have hS2 := hS.to hm2 fr2
    have hm := hm2
    obtain ⟨-, hh, hB, hDr, hMT, hMR⟩ := id hS2
    refine pz_ifne (tgt := 21) hx hb dX8_choices_16 (by decide) (⟨by omega, by omega⟩) (fun h3 => ?_) (fun h3 => ?_)
    · refine lv_aload_n hx hb dX8_choices_21 rfl (lv_at hl 0 rfl) ?_
      refine lv_iload_n hx hb dX8_choices_22 rfl (lv_at hl 1 rfl) ?_
      refine pw_cv w (pw_runV (r := 120) (ci := 8) (As := [.int (zI (t : Int))]) (rest := []) w ⟨hx, hb, hml, hown, hts⟩ (c_X8_layTune l D G ad N c2 (t := t) hN hm hh hlb hB hOV hMT hUV hMR ht) (cwV 1 hts gX8_choices_X8_layTune rfl rfl rfl (by decide +kernel) ⟨Nat.le_of_ble_eq_true rfl, Nat.le_of_ble_eq_true rfl⟩) (by omega) hm rfl rfl hl.1 rfl (lv_room (Nat.le_of_ble_eq_true rfl)) dX8_choices_23 ⟨Nat.le_of_ble_eq_true rfl, Nat.le_of_ble_eq_true rfl⟩) (fun c4 H locs hp w => ?_)
      have w : PW D G A s ad N c4 H locs := w
      obtain ⟨hLd4, fr4⟩ := hp
      have hS4 := hS2.laid hLd4 fr4
      obtain ⟨-, hh, hB, hDr, hMT, hMR⟩ := id hS4
      obtain ⟨⟨gL, l1, eL⟩, ⟨gW, l2, eW⟩, gM, l3, eM⟩ := hLd4.v
      refine lv_aload_n hx hb dX8_choices_26 rfl (lv_at hl 0 rfl) ?_
      refine pw_get (r := 120) (ci := 8) (C := RX8) (T := TX8) (Nf := 21) hx hb w hts hin_X8_choices_8 hown (by omega) hLd4.1 rfl 17 (by decide) (hts _ fl_X8_choices_51) (fun _ h9 => h9) rfl dX8_choices_27 ?_
      refine lv_iconst (v := zI (0)) hx hb dX8_choices_30 rfl ?_
      refine pw_iald (r := 133) (j := 0) hx hb w (by omega) l2 (by omega) (by omega) (by decide) dX8_choices_31 ?_
      refine pz_top (b := (TV lim no gn gg (nn t) (pt t) (ln t) (wi t)).2.1) (eW) ?_
      exact fin (ad, N, c4) c4 _ _ _ _ _ _ _ rfl ⟨rfl, hS4, fun q hq => ((fr4 q (by omega)).trans ((fr2 q (by omega)).trans rfl))⟩ w dX8_choices_32 (Nat.le_refl _) (Nat.le_refl _)
    · omega

abbrev rm_X8_least : Room := { frames := 10, cells := 0, slots := 0, locals := 300 }
set_option maxHeartbeats 4000000 in
set_option maxRecDepth 100000 in
/-- X8_least_bad1 -/
theorem c_X8_least_bad1 (l : Launch) (D : va_G) (G : Nat → ClassId) (ad : Nat → Nat) (N : Nat) (c : Nat → va_E) {th lim : Int} {no dn : Nat} {gn : Nat → Nat} {gg : Nat → Nat → Nat} {dg nn : Nat → Nat} {pt ln : Nat → Nat → Nat} {wi : Nat → Nat → Int} (hN : 139 ≤ N) (hS : MS G ad c th lim no dn gn gg dg nn pt ln wi) (hV : SV lim no dn gn gg dg nn pt ln wi) {zt : Int} (hbzt : bnd zt) (hbad : ¬ (0 ≤ zt ∧ zt ≤ 3)) : MC l yX8_least wsX8_least rm_X8_least [.ref (ad 120), .int (zI zt)] D G ad N c (qI D G (fx ad N) (fun v c1 => v = zI 0 ∧ MS G ad c1 1 lim no dn gn gg dg nn pt ln wi ∧ ∀ q, (q < 120 ∨ 137 ≤ q) → c1 q = c q)) 0 0 := by
  refine MCi.of (cc := cX8_least) (maxL := 2) (by decide) rfl (Nat.le_of_ble_eq_true rfl) ?_
  intro p e s m args below meth kc A Q hx hb hts hown hml fin H locs w ls hl
  have hown : s.vm.findClass RX8 = some m.cls := hown
  have hl : lv_has ls 2 [(0, .ref (ad 120)), (1, .int (zI zt))] := hl
  obtain ⟨⟨row, hm⟩, hh, hB, hDr, hMT, hMR⟩ := id hS
  obtain ⟨hlim, hOV, hdn4, hdg, hUV⟩ := id hV
  have hlb : bnd lim := ⟨by omega, by omega⟩
  have hno8 := hOV.1
  have hbzt1 := hbzt.1
  have hbzt2 := hbzt.2
  refine lv_aload_n hx hb dX8_least_0 rfl (lv_at hl 0 rfl) ?_
  refine lv_aload_n hx hb dX8_least_1 rfl (lv_at hl 0 rfl) ?_
  refine lv_iload_n hx hb dX8_least_2 rfl (lv_at hl 1 rfl) ?_
  refine pw_ci w (pw_runV (r := 120) (ci := 8) (As := [.int (zI zt)]) (rest := [.ref (ad 120)]) w ⟨hx, hb, hml, hown, hts⟩ (c_X8_faultOfTune_bad l D G ad N c (zt := zt) hN hm hbzt hbad) (cwV 1 hts gX8_least_X8_faultOfTune rfl rfl rfl (by decide +kernel) ⟨Nat.le_of_ble_eq_true rfl, Nat.le_of_ble_eq_true rfl⟩) (by omega) hm rfl rfl hl.1 rfl (lv_room (Nat.le_of_ble_eq_true rfl)) dX8_least_3 ⟨Nat.le_of_ble_eq_true rfl, Nat.le_of_ble_eq_true rfl⟩) (fun r_ u H locs hp w => ?_)
  obtain ⟨hv, hu⟩ := hp
  subst hv
  have w : PW D G A s ad N c H locs := by rw [hu] at w; exact w
  clear hu
  refine pw_ci w (pw_runV (r := 120) (ci := 8) (As := [.int (zI 1)]) (rest := []) w ⟨hx, hb, hml, hown, hts⟩ (c_X8_goesWell l D G ad N c (pl := 1) hN hm ⟨by decide, by decide⟩) (cwV 1 hts gX8_least_X8_goesWell rfl rfl rfl (by decide +kernel) ⟨Nat.le_of_ble_eq_true rfl, Nat.le_of_ble_eq_true rfl⟩) (by omega) hm rfl rfl hl.1 rfl (lv_room (Nat.le_of_ble_eq_true rfl)) dX8_least_6 ⟨Nat.le_of_ble_eq_true rfl, Nat.le_of_ble_eq_true rfl⟩) (fun r_ c1 H locs hp w => ?_)
  have w : PW D G A s ad N c1 H locs := w
  obtain ⟨hv1, hm1, fr1⟩ := hp
  subst hv1
  refine pz_top (b := 0) (if_neg (by omega)) ?_
  have hS1 := hS.to hm1 fr1
  have hm := hm1
  obtain ⟨-, hh, hB, hDr, hMT, hMR⟩ := id hS1
  refine pz_ifeq (tgt := 21) hx hb dX8_least_9 (by decide) (⟨by omega, by omega⟩) (fun h2 => ?_) (fun h2 => ?_)
  · refine lv_iconst (v := zI (0)) hx hb dX8_least_21 rfl ?_
    exact fin (ad, N, c1) c1 _ _ _ _ _ _ _ rfl ⟨rfl, hS1, fun q hq => ((fr1 q (by omega)).trans rfl)⟩ w dX8_least_22 (Nat.le_refl _) (Nat.le_refl _)
  · omega

set_option maxHeartbeats 4000000 in
set_option maxRecDepth 100000 in
/-- X8_least_bad2 -/
theorem c_X8_least_bad2 (l : Launch) (D : va_G) (G : Nat → ClassId) (ad : Nat → Nat) (N : Nat) (c : Nat → va_E) {th lim : Int} {no dn : Nat} {gn : Nat → Nat} {gg : Nat → Nat → Nat} {dg nn : Nat → Nat} {pt ln : Nat → Nat → Nat} {wi : Nat → Nat → Int} (hN : 139 ≤ N) (hS : MS G ad c th lim no dn gn gg dg nn pt ln wi) (hV : SV lim no dn gn gg dg nn pt ln wi) {t : Nat} (ht : t < 4) (hW : (TV lim no gn gg (nn t) (pt t) (ln t) (wi t)).2.1 = 0) : MC l yX8_least wsX8_least rm_X8_least [.ref (ad 120), .int (zI (t : Int))] D G ad N c (qI D G (fx ad N) (fun v c1 => v = zI 0 ∧ MS G ad c1 2 lim no dn gn gg dg nn pt ln wi ∧ ∀ q, (q < 120 ∨ 137 ≤ q) → c1 q = c q)) 0 0 := by
  refine MCi.of (cc := cX8_least) (maxL := 2) (by decide) rfl (Nat.le_of_ble_eq_true rfl) ?_
  intro p e s m args below meth kc A Q hx hb hts hown hml fin H locs w ls hl
  have hown : s.vm.findClass RX8 = some m.cls := hown
  have hl : lv_has ls 2 [(0, .ref (ad 120)), (1, .int (zI (t : Int)))] := hl
  obtain ⟨⟨row, hm⟩, hh, hB, hDr, hMT, hMR⟩ := id hS
  obtain ⟨hlim, hOV, hdn4, hdg, hUV⟩ := id hV
  have hlb : bnd lim := ⟨by omega, by omega⟩
  have hno8 := hOV.1
  have hnt := (hUV t ht).1
  have hTV := TV_bd (lim := lim) hOV (hUV t ht)
  refine lv_aload_n hx hb dX8_least_0 rfl (lv_at hl 0 rfl) ?_
  refine lv_aload_n hx hb dX8_least_1 rfl (lv_at hl 0 rfl) ?_
  refine lv_iload_n hx hb dX8_least_2 rfl (lv_at hl 1 rfl) ?_
  refine pw_ci w (pw_runV (r := 120) (ci := 8) (As := [.int (zI (t : Int))]) (rest := [.ref (ad 120)]) w ⟨hx, hb, hml, hown, hts⟩ (c_X8_faultOfTune_ok l D G ad N c (t := t) hN hS hV ht) (cwV 1 hts gX8_least_X8_faultOfTune rfl rfl rfl (by decide +kernel) ⟨Nat.le_of_ble_eq_true rfl, Nat.le_of_ble_eq_true rfl⟩) (by omega) hm rfl rfl hl.1 rfl (lv_room (Nat.le_of_ble_eq_true rfl)) dX8_least_3 ⟨Nat.le_of_ble_eq_true rfl, Nat.le_of_ble_eq_true rfl⟩) (fun r_ c1 H locs hp w => ?_)
  have w : PW D G A s ad N c1 H locs := w
  obtain ⟨hv1, hLd1, fr1⟩ := hp
  subst hv1
  have hS1 := hS.laid hLd1 fr1
  obtain ⟨-, hh, hB, hDr, hMT, hMR⟩ := id hS1
  refine pz_top (b := 2) (if_pos hW) ?_
  refine pw_ci w (pw_runV (r := 120) (ci := 8) (As := [.int (zI 2)]) (rest := []) w ⟨hx, hb, hml, hown, hts⟩ (c_X8_goesWell l D G ad N c1 (pl := 2) hN hLd1.1 ⟨by decide, by decide⟩) (cwV 1 hts gX8_least_X8_goesWell rfl rfl rfl (by decide +kernel) ⟨Nat.le_of_ble_eq_true rfl, Nat.le_of_ble_eq_true rfl⟩) (by omega) hLd1.1 rfl rfl hl.1 rfl (lv_room (Nat.le_of_ble_eq_true rfl)) dX8_least_6 ⟨Nat.le_of_ble_eq_true rfl, Nat.le_of_ble_eq_true rfl⟩) (fun r_ c2 H locs hp w => ?_)
  have w : PW D G A s ad N c2 H locs := w
  obtain ⟨hv2, hm2, fr2⟩ := hp
  subst hv2
  refine pz_top (b := 0) (if_neg (by omega)) ?_
  have hLd2 := hLd1.th hm2 fr2
  have hS2 := hS1.to hm2 fr2
  have hm := hm2
  obtain ⟨-, hh, hB, hDr, hMT, hMR⟩ := id hS2
  refine pz_ifeq (tgt := 21) hx hb dX8_least_9 (by decide) (⟨by omega, by omega⟩) (fun h3 => ?_) (fun h3 => ?_)
  · refine lv_iconst (v := zI (0)) hx hb dX8_least_21 rfl ?_
    exact fin (ad, N, c2) c2 _ _ _ _ _ _ _ rfl ⟨rfl, hS2, fun q hq => ((fr2 q (by omega)).trans ((fr1 q (by omega)).trans rfl))⟩ w dX8_least_22 (Nat.le_refl _) (Nat.le_refl _)
  · omega

theorem hin_X8_least_8 : ∀ w ∈ u_ws RX8 TX8 21, w ∈ wsX8_least := by decide +kernel
theorem fl_X8_least_48 : Cond.fieldLink RX8 48 "PipersDeskModel" "least" "[I" ∈ wsX8_least := by decide +kernel
set_option maxHeartbeats 4000000 in
set_option maxRecDepth 100000 in
/-- X8_least_ok -/
theorem c_X8_least_ok (l : Launch) (D : va_G) (G : Nat → ClassId) (ad : Nat → Nat) (N : Nat) (c : Nat → va_E) {th lim : Int} {no dn : Nat} {gn : Nat → Nat} {gg : Nat → Nat → Nat} {dg nn : Nat → Nat} {pt ln : Nat → Nat → Nat} {wi : Nat → Nat → Int} (hN : 139 ≤ N) (hS : MS G ad c th lim no dn gn gg dg nn pt ln wi) (hV : SV lim no dn gn gg dg nn pt ln wi) {t : Nat} (ht : t < 4) (hW : ¬ (TV lim no gn gg (nn t) (pt t) (ln t) (wi t)).2.1 = 0) : MC l yX8_least wsX8_least rm_X8_least [.ref (ad 120), .int (zI (t : Int))] D G ad N c (qI D G (fx ad N) (fun v c1 => v = zI ((TV lim no gn gg (nn t) (pt t) (ln t) (wi t)).1) ∧ MS G ad c1 0 lim no dn gn gg dg nn pt ln wi ∧ ∀ q, (q < 120 ∨ 137 ≤ q) → c1 q = c q)) 0 0 := by
  refine MCi.of (cc := cX8_least) (maxL := 2) (by decide) rfl (Nat.le_of_ble_eq_true rfl) ?_
  intro p e s m args below meth kc A Q hx hb hts hown hml fin H locs w ls hl
  have hown : s.vm.findClass RX8 = some m.cls := hown
  have hl : lv_has ls 2 [(0, .ref (ad 120)), (1, .int (zI (t : Int)))] := hl
  obtain ⟨⟨row, hm⟩, hh, hB, hDr, hMT, hMR⟩ := id hS
  obtain ⟨hlim, hOV, hdn4, hdg, hUV⟩ := id hV
  have hlb : bnd lim := ⟨by omega, by omega⟩
  have hno8 := hOV.1
  have hnt := (hUV t ht).1
  have hTV := TV_bd (lim := lim) hOV (hUV t ht)
  refine lv_aload_n hx hb dX8_least_0 rfl (lv_at hl 0 rfl) ?_
  refine lv_aload_n hx hb dX8_least_1 rfl (lv_at hl 0 rfl) ?_
  refine lv_iload_n hx hb dX8_least_2 rfl (lv_at hl 1 rfl) ?_
  refine pw_ci w (pw_runV (r := 120) (ci := 8) (As := [.int (zI (t : Int))]) (rest := [.ref (ad 120)]) w ⟨hx, hb, hml, hown, hts⟩ (c_X8_faultOfTune_ok l D G ad N c (t := t) hN hS hV ht) (cwV 1 hts gX8_least_X8_faultOfTune rfl rfl rfl (by decide +kernel) ⟨Nat.le_of_ble_eq_true rfl, Nat.le_of_ble_eq_true rfl⟩) (by omega) hm rfl rfl hl.1 rfl (lv_room (Nat.le_of_ble_eq_true rfl)) dX8_least_3 ⟨Nat.le_of_ble_eq_true rfl, Nat.le_of_ble_eq_true rfl⟩) (fun r_ c1 H locs hp w => ?_)
  have w : PW D G A s ad N c1 H locs := w
  obtain ⟨hv1, hLd1, fr1⟩ := hp
  subst hv1
  have hS1 := hS.laid hLd1 fr1
  obtain ⟨-, hh, hB, hDr, hMT, hMR⟩ := id hS1
  refine pz_top (b := 0) (if_neg hW) ?_
  refine pw_ci w (pw_runV (r := 120) (ci := 8) (As := [.int (zI 0)]) (rest := []) w ⟨hx, hb, hml, hown, hts⟩ (c_X8_goesWell l D G ad N c1 (pl := 0) hN hLd1.1 ⟨by decide, by decide⟩) (cwV 1 hts gX8_least_X8_goesWell rfl rfl rfl (by decide +kernel) ⟨Nat.le_of_ble_eq_true rfl, Nat.le_of_ble_eq_true rfl⟩) (by omega) hLd1.1 rfl rfl hl.1 rfl (lv_room (Nat.le_of_ble_eq_true rfl)) dX8_least_6 ⟨Nat.le_of_ble_eq_true rfl, Nat.le_of_ble_eq_true rfl⟩) (fun r_ c2 H locs hp w => ?_)
  have w : PW D G A s ad N c2 H locs := w
  obtain ⟨hv2, hm2, fr2⟩ := hp
  subst hv2
  refine pz_top (b := 1) (if_pos (by omega)) ?_
  have hLd2 := hLd1.th hm2 fr2
  have hS2 := hS1.to hm2 fr2
  have hm := hm2
  obtain ⟨-, hh, hB, hDr, hMT, hMR⟩ := id hS2
  obtain ⟨⟨gL, l1, eL⟩, ⟨gW, l2, eW⟩, gM, l3, eM⟩ := hLd2.v
  refine pz_ifeq (tgt := 21) hx hb dX8_least_9 (by decide) (⟨by omega, by omega⟩) (fun h3 => ?_) (fun h3 => ?_)
  · omega
  · refine lv_aload_n hx hb dX8_least_12 rfl (lv_at hl 0 rfl) ?_
    refine pw_get (r := 120) (ci := 8) (C := RX8) (T := TX8) (Nf := 21) hx hb w hts hin_X8_least_8 hown (by omega) hm rfl 16 (by decide) (hts _ fl_X8_least_48) (fun _ h9 => h9) rfl dX8_least_13 ?_
    refine lv_iconst (v := zI (0)) hx hb dX8_least_16 rfl ?_
    refine pw_iald (r := 132) (j := 0) hx hb w (by omega) l1 (by omega) (by omega) (by decide) dX8_least_17 ?_
    refine lv_goto (tgt := 22) hx hb dX8_least_18 (by decide) ?_
    refine pz_top (b := (TV lim no gn gg (nn t) (pt t) (ln t) (wi t)).1) (eL) ?_
    exact fin (ad, N, c2) c2 _ _ _ _ _ _ _ rfl ⟨rfl, hS2, fun q hq => ((fr2 q (by omega)).trans ((fr1 q (by omega)).trans rfl))⟩ w dX8_least_22 (Nat.le_refl _) (Nat.le_refl _)

abbrev rm_X8_mostOrnaments : Room := { frames := 10, cells := 0, slots := 0, locals := 300 }
set_option maxHeartbeats 4000000 in
set_option maxRecDepth 100000 in
/-- X8_mostOrnaments_bad1 -/
theorem c_X8_mostOrnaments_bad1 (l : Launch) (D : va_G) (G : Nat → ClassId) (ad : Nat → Nat) (N : Nat) (c : Nat → va_E) {th lim : Int} {no dn : Nat} {gn : Nat → Nat} {gg : Nat → Nat → Nat} {dg nn : Nat → Nat} {pt ln : Nat → Nat → Nat} {wi : Nat → Nat → Int} (hN : 139 ≤ N) (hS : MS G ad c th lim no dn gn gg dg nn pt ln wi) (hV : SV lim no dn gn gg dg nn pt ln wi) {zt : Int} (hbzt : bnd zt) (hbad : ¬ (0 ≤ zt ∧ zt ≤ 3)) : MC l yX8_mostOrnaments wsX8_mostOrnaments rm_X8_mostOrnaments [.ref (ad 120), .int (zI zt)] D G ad N c (qI D G (fx ad N) (fun v c1 => v = zI 0 ∧ MS G ad c1 1 lim no dn gn gg dg nn pt ln wi ∧ ∀ q, (q < 120 ∨ 137 ≤ q) → c1 q = c q)) 0 0 := by
  refine MCi.of (cc := cX8_mostOrnaments) (maxL := 2) (by decide) rfl (Nat.le_of_ble_eq_true rfl) ?_
  intro p e s m args below meth kc A Q hx hb hts hown hml fin H locs w ls hl
  have hown : s.vm.findClass RX8 = some m.cls := hown
  have hl : lv_has ls 2 [(0, .ref (ad 120)), (1, .int (zI zt))] := hl
  obtain ⟨⟨row, hm⟩, hh, hB, hDr, hMT, hMR⟩ := id hS
  obtain ⟨hlim, hOV, hdn4, hdg, hUV⟩ := id hV
  have hlb : bnd lim := ⟨by omega, by omega⟩
  have hno8 := hOV.1
  have hbzt1 := hbzt.1
  have hbzt2 := hbzt.2
  refine lv_aload_n hx hb dX8_mostOrnaments_0 rfl (lv_at hl 0 rfl) ?_
  refine lv_aload_n hx hb dX8_mostOrnaments_1 rfl (lv_at hl 0 rfl) ?_
  refine lv_iload_n hx hb dX8_mostOrnaments_2 rfl (lv_at hl 1 rfl) ?_
  refine pw_ci w (pw_runV (r := 120) (ci := 8) (As := [.int (zI zt)]) (rest := [.ref (ad 120)]) w ⟨hx, hb, hml, hown, hts⟩ (c_X8_faultOfTune_bad l D G ad N c (zt := zt) hN hm hbzt hbad) (cwV 1 hts gX8_mostOrnaments_X8_faultOfTune rfl rfl rfl (by decide +kernel) ⟨Nat.le_of_ble_eq_true rfl, Nat.le_of_ble_eq_true rfl⟩) (by omega) hm rfl rfl hl.1 rfl (lv_room (Nat.le_of_ble_eq_true rfl)) dX8_mostOrnaments_3 ⟨Nat.le_of_ble_eq_true rfl, Nat.le_of_ble_eq_true rfl⟩) (fun r_ u H locs hp w => ?_)
  obtain ⟨hv, hu⟩ := hp
  subst hv
  have w : PW D G A s ad N c H locs := by rw [hu] at w; exact w
  clear hu
  refine pw_ci w (pw_runV (r := 120) (ci := 8) (As := [.int (zI 1)]) (rest := []) w ⟨hx, hb, hml, hown, hts⟩ (c_X8_goesWell l D G ad N c (pl := 1) hN hm ⟨by decide, by decide⟩) (cwV 1 hts gX8_mostOrnaments_X8_goesWell rfl rfl rfl (by decide +kernel) ⟨Nat.le_of_ble_eq_true rfl, Nat.le_of_ble_eq_true rfl⟩) (by omega) hm rfl rfl hl.1 rfl (lv_room (Nat.le_of_ble_eq_true rfl)) dX8_mostOrnaments_6 ⟨Nat.le_of_ble_eq_true rfl, Nat.le_of_ble_eq_true rfl⟩) (fun r_ c1 H locs hp w => ?_)
  have w : PW D G A s ad N c1 H locs := w
  obtain ⟨hv1, hm1, fr1⟩ := hp
  subst hv1
  refine pz_top (b := 0) (if_neg (by omega)) ?_
  have hS1 := hS.to hm1 fr1
  have hm := hm1
  obtain ⟨-, hh, hB, hDr, hMT, hMR⟩ := id hS1
  refine pz_ifeq (tgt := 21) hx hb dX8_mostOrnaments_9 (by decide) (⟨by omega, by omega⟩) (fun h2 => ?_) (fun h2 => ?_)
  · refine lv_iconst (v := zI (0)) hx hb dX8_mostOrnaments_21 rfl ?_
    exact fin (ad, N, c1) c1 _ _ _ _ _ _ _ rfl ⟨rfl, hS1, fun q hq => ((fr1 q (by omega)).trans rfl)⟩ w dX8_mostOrnaments_22 (Nat.le_refl _) (Nat.le_refl _)
  · omega

set_option maxHeartbeats 4000000 in
set_option maxRecDepth 100000 in
/-- X8_mostOrnaments_bad2 -/
theorem c_X8_mostOrnaments_bad2 (l : Launch) (D : va_G) (G : Nat → ClassId) (ad : Nat → Nat) (N : Nat) (c : Nat → va_E) {th lim : Int} {no dn : Nat} {gn : Nat → Nat} {gg : Nat → Nat → Nat} {dg nn : Nat → Nat} {pt ln : Nat → Nat → Nat} {wi : Nat → Nat → Int} (hN : 139 ≤ N) (hS : MS G ad c th lim no dn gn gg dg nn pt ln wi) (hV : SV lim no dn gn gg dg nn pt ln wi) {t : Nat} (ht : t < 4) (hW : (TV lim no gn gg (nn t) (pt t) (ln t) (wi t)).2.1 = 0) : MC l yX8_mostOrnaments wsX8_mostOrnaments rm_X8_mostOrnaments [.ref (ad 120), .int (zI (t : Int))] D G ad N c (qI D G (fx ad N) (fun v c1 => v = zI 0 ∧ MS G ad c1 2 lim no dn gn gg dg nn pt ln wi ∧ ∀ q, (q < 120 ∨ 137 ≤ q) → c1 q = c q)) 0 0 := by
  refine MCi.of (cc := cX8_mostOrnaments) (maxL := 2) (by decide) rfl (Nat.le_of_ble_eq_true rfl) ?_
  intro p e s m args below meth kc A Q hx hb hts hown hml fin H locs w ls hl
  have hown : s.vm.findClass RX8 = some m.cls := hown
  have hl : lv_has ls 2 [(0, .ref (ad 120)), (1, .int (zI (t : Int)))] := hl
  obtain ⟨⟨row, hm⟩, hh, hB, hDr, hMT, hMR⟩ := id hS
  obtain ⟨hlim, hOV, hdn4, hdg, hUV⟩ := id hV
  have hlb : bnd lim := ⟨by omega, by omega⟩
  have hno8 := hOV.1
  have hnt := (hUV t ht).1
  have hTV := TV_bd (lim := lim) hOV (hUV t ht)
  refine lv_aload_n hx hb dX8_mostOrnaments_0 rfl (lv_at hl 0 rfl) ?_
  refine lv_aload_n hx hb dX8_mostOrnaments_1 rfl (lv_at hl 0 rfl) ?_
  refine lv_iload_n hx hb dX8_mostOrnaments_2 rfl (lv_at hl 1 rfl) ?_
  refine pw_ci w (pw_runV (r := 120) (ci := 8) (As := [.int (zI (t : Int))]) (rest := [.ref (ad 120)]) w ⟨hx, hb, hml, hown, hts⟩ (c_X8_faultOfTune_ok l D G ad N c (t := t) hN hS hV ht) (cwV 1 hts gX8_mostOrnaments_X8_faultOfTune rfl rfl rfl (by decide +kernel) ⟨Nat.le_of_ble_eq_true rfl, Nat.le_of_ble_eq_true rfl⟩) (by omega) hm rfl rfl hl.1 rfl (lv_room (Nat.le_of_ble_eq_true rfl)) dX8_mostOrnaments_3 ⟨Nat.le_of_ble_eq_true rfl, Nat.le_of_ble_eq_true rfl⟩) (fun r_ c1 H locs hp w => ?_)
  have w : PW D G A s ad N c1 H locs := w
  obtain ⟨hv1, hLd1, fr1⟩ := hp
  subst hv1
  have hS1 := hS.laid hLd1 fr1
  obtain ⟨-, hh, hB, hDr, hMT, hMR⟩ := id hS1
  refine pz_top (b := 2) (if_pos hW) ?_
  refine pw_ci w (pw_runV (r := 120) (ci := 8) (As := [.int (zI 2)]) (rest := []) w ⟨hx, hb, hml, hown, hts⟩ (c_X8_goesWell l D G ad N c1 (pl := 2) hN hLd1.1 ⟨by decide, by decide⟩) (cwV 1 hts gX8_mostOrnaments_X8_goesWell rfl rfl rfl (by decide +kernel) ⟨Nat.le_of_ble_eq_true rfl, Nat.le_of_ble_eq_true rfl⟩) (by omega) hLd1.1 rfl rfl hl.1 rfl (lv_room (Nat.le_of_ble_eq_true rfl)) dX8_mostOrnaments_6 ⟨Nat.le_of_ble_eq_true rfl, Nat.le_of_ble_eq_true rfl⟩) (fun r_ c2 H locs hp w => ?_)
  have w : PW D G A s ad N c2 H locs := w
  obtain ⟨hv2, hm2, fr2⟩ := hp
  subst hv2
  refine pz_top (b := 0) (if_neg (by omega)) ?_
  have hLd2 := hLd1.th hm2 fr2
  have hS2 := hS1.to hm2 fr2
  have hm := hm2
  obtain ⟨-, hh, hB, hDr, hMT, hMR⟩ := id hS2
  refine pz_ifeq (tgt := 21) hx hb dX8_mostOrnaments_9 (by decide) (⟨by omega, by omega⟩) (fun h3 => ?_) (fun h3 => ?_)
  · refine lv_iconst (v := zI (0)) hx hb dX8_mostOrnaments_21 rfl ?_
    exact fin (ad, N, c2) c2 _ _ _ _ _ _ _ rfl ⟨rfl, hS2, fun q hq => ((fr2 q (by omega)).trans ((fr1 q (by omega)).trans rfl))⟩ w dX8_mostOrnaments_22 (Nat.le_refl _) (Nat.le_refl _)
  · omega

theorem hin_X8_mostOrnaments_8 : ∀ w ∈ u_ws RX8 TX8 21, w ∈ wsX8_mostOrnaments := by decide +kernel
theorem fl_X8_mostOrnaments_54 : Cond.fieldLink RX8 54 "PipersDeskModel" "most" "[I" ∈ wsX8_mostOrnaments := by decide +kernel
set_option maxHeartbeats 4000000 in
set_option maxRecDepth 100000 in
/-- X8_mostOrnaments_ok -/
theorem c_X8_mostOrnaments_ok (l : Launch) (D : va_G) (G : Nat → ClassId) (ad : Nat → Nat) (N : Nat) (c : Nat → va_E) {th lim : Int} {no dn : Nat} {gn : Nat → Nat} {gg : Nat → Nat → Nat} {dg nn : Nat → Nat} {pt ln : Nat → Nat → Nat} {wi : Nat → Nat → Int} (hN : 139 ≤ N) (hS : MS G ad c th lim no dn gn gg dg nn pt ln wi) (hV : SV lim no dn gn gg dg nn pt ln wi) {t : Nat} (ht : t < 4) (hW : ¬ (TV lim no gn gg (nn t) (pt t) (ln t) (wi t)).2.1 = 0) : MC l yX8_mostOrnaments wsX8_mostOrnaments rm_X8_mostOrnaments [.ref (ad 120), .int (zI (t : Int))] D G ad N c (qI D G (fx ad N) (fun v c1 => v = zI ((TV lim no gn gg (nn t) (pt t) (ln t) (wi t)).2.2) ∧ MS G ad c1 0 lim no dn gn gg dg nn pt ln wi ∧ ∀ q, (q < 120 ∨ 137 ≤ q) → c1 q = c q)) 0 0 := by
  refine MCi.of (cc := cX8_mostOrnaments) (maxL := 2) (by decide) rfl (Nat.le_of_ble_eq_true rfl) ?_
  intro p e s m args below meth kc A Q hx hb hts hown hml fin H locs w ls hl
  have hown : s.vm.findClass RX8 = some m.cls := hown
  have hl : lv_has ls 2 [(0, .ref (ad 120)), (1, .int (zI (t : Int)))] := hl
  obtain ⟨⟨row, hm⟩, hh, hB, hDr, hMT, hMR⟩ := id hS
  obtain ⟨hlim, hOV, hdn4, hdg, hUV⟩ := id hV
  have hlb : bnd lim := ⟨by omega, by omega⟩
  have hno8 := hOV.1
  have hnt := (hUV t ht).1
  have hTV := TV_bd (lim := lim) hOV (hUV t ht)
  refine lv_aload_n hx hb dX8_mostOrnaments_0 rfl (lv_at hl 0 rfl) ?_
  refine lv_aload_n hx hb dX8_mostOrnaments_1 rfl (lv_at hl 0 rfl) ?_
  refine lv_iload_n hx hb dX8_mostOrnaments_2 rfl (lv_at hl 1 rfl) ?_
  refine pw_ci w (pw_runV (r := 120) (ci := 8) (As := [.int (zI (t : Int))]) (rest := [.ref (ad 120)]) w ⟨hx, hb, hml, hown, hts⟩ (c_X8_faultOfTune_ok l D G ad N c (t := t) hN hS hV ht) (cwV 1 hts gX8_mostOrnaments_X8_faultOfTune rfl rfl rfl (by decide +kernel) ⟨Nat.le_of_ble_eq_true rfl, Nat.le_of_ble_eq_true rfl⟩) (by omega) hm rfl rfl hl.1 rfl (lv_room (Nat.le_of_ble_eq_true rfl)) dX8_mostOrnaments_3 ⟨Nat.le_of_ble_eq_true rfl, Nat.le_of_ble_eq_true rfl⟩) (fun r_ c1 H locs hp w => ?_)
  have w : PW D G A s ad N c1 H locs := w
  obtain ⟨hv1, hLd1, fr1⟩ := hp
  subst hv1
  have hS1 := hS.laid hLd1 fr1
  obtain ⟨-, hh, hB, hDr, hMT, hMR⟩ := id hS1
  refine pz_top (b := 0) (if_neg hW) ?_
  refine pw_ci w (pw_runV (r := 120) (ci := 8) (As := [.int (zI 0)]) (rest := []) w ⟨hx, hb, hml, hown, hts⟩ (c_X8_goesWell l D G ad N c1 (pl := 0) hN hLd1.1 ⟨by decide, by decide⟩) (cwV 1 hts gX8_mostOrnaments_X8_goesWell rfl rfl rfl (by decide +kernel) ⟨Nat.le_of_ble_eq_true rfl, Nat.le_of_ble_eq_true rfl⟩) (by omega) hLd1.1 rfl rfl hl.1 rfl (lv_room (Nat.le_of_ble_eq_true rfl)) dX8_mostOrnaments_6 ⟨Nat.le_of_ble_eq_true rfl, Nat.le_of_ble_eq_true rfl⟩) (fun r_ c2 H locs hp w => ?_)
  have w : PW D G A s ad N c2 H locs := w
  obtain ⟨hv2, hm2, fr2⟩ := hp
  subst hv2
  refine pz_top (b := 1) (if_pos (by omega)) ?_
  have hLd2 := hLd1.th hm2 fr2
  have hS2 := hS1.to hm2 fr2
  have hm := hm2
  obtain ⟨-, hh, hB, hDr, hMT, hMR⟩ := id hS2
  obtain ⟨⟨gL, l1, eL⟩, ⟨gW, l2, eW⟩, gM, l3, eM⟩ := hLd2.v
  refine pz_ifeq (tgt := 21) hx hb dX8_mostOrnaments_9 (by decide) (⟨by omega, by omega⟩) (fun h3 => ?_) (fun h3 => ?_)
  · omega
  · refine lv_aload_n hx hb dX8_mostOrnaments_12 rfl (lv_at hl 0 rfl) ?_
    refine pw_get (r := 120) (ci := 8) (C := RX8) (T := TX8) (Nf := 21) hx hb w hts hin_X8_mostOrnaments_8 hown (by omega) hm rfl 18 (by decide) (hts _ fl_X8_mostOrnaments_54) (fun _ h9 => h9) rfl dX8_mostOrnaments_13 ?_
    refine lv_iconst (v := zI (0)) hx hb dX8_mostOrnaments_16 rfl ?_
    refine pw_iald (r := 134) (j := 0) hx hb w (by omega) l3 (by omega) (by omega) (by decide) dX8_mostOrnaments_17 ?_
    refine lv_goto (tgt := 22) hx hb dX8_mostOrnaments_18 (by decide) ?_
    refine pz_top (b := (TV lim no gn gg (nn t) (pt t) (ln t) (wi t)).2.2) (eM) ?_
    exact fin (ad, N, c2) c2 _ _ _ _ _ _ _ rfl ⟨rfl, hS2, fun q hq => ((fr2 q (by omega)).trans ((fr1 q (by omega)).trans rfl))⟩ w dX8_mostOrnaments_22 (Nat.le_refl _) (Nat.le_refl _)

abbrev rm_X8_chosen : Room := { frames := 10, cells := 0, slots := 0, locals := 300 }
set_option maxHeartbeats 4000000 in
set_option maxRecDepth 100000 in
/-- X8_chosen_bad1 -/
theorem c_X8_chosen_bad1 (l : Launch) (D : va_G) (G : Nat → ClassId) (ad : Nat → Nat) (N : Nat) (c : Nat → va_E) {th lim : Int} {no dn : Nat} {gn : Nat → Nat} {gg : Nat → Nat → Nat} {dg nn : Nat → Nat} {pt ln : Nat → Nat → Nat} {wi : Nat → Nat → Int} (hN : 139 ≤ N) (hS : MS G ad c th lim no dn gn gg dg nn pt ln wi) (hV : SV lim no dn gn gg dg nn pt ln wi) {zt : Int} (hbzt : bnd zt) (hbad : ¬ (0 ≤ zt ∧ zt ≤ 3)) {zi : Int} : MC l yX8_chosen wsX8_chosen rm_X8_chosen [.ref (ad 120), .int (zI zt), .int (zI zi)] D G ad N c (qI D G (fx ad N) (fun v c1 => v = zI 0 ∧ MS G ad c1 1 lim no dn gn gg dg nn pt ln wi ∧ ∀ q, (q < 120 ∨ 137 ≤ q) → c1 q = c q)) 0 0 := by
  refine MCi.of (cc := cX8_chosen) (maxL := 3) (by decide) rfl (Nat.le_of_ble_eq_true rfl) ?_
  intro p e s m args below meth kc A Q hx hb hts hown hml fin H locs w ls hl
  have hown : s.vm.findClass RX8 = some m.cls := hown
  have hl : lv_has ls 3 [(0, .ref (ad 120)), (1, .int (zI zt)), (2, .int (zI zi))] := hl
  obtain ⟨⟨row, hm⟩, hh, hB, hDr, hMT, hMR⟩ := id hS
  obtain ⟨hlim, hOV, hdn4, hdg, hUV⟩ := id hV
  have hlb : bnd lim := ⟨by omega, by omega⟩
  have hno8 := hOV.1
  have hbzt1 := hbzt.1
  have hbzt2 := hbzt.2
  refine lv_aload_n hx hb dX8_chosen_0 rfl (lv_at hl 0 rfl) ?_
  refine lv_aload_n hx hb dX8_chosen_1 rfl (lv_at hl 0 rfl) ?_
  refine lv_iload_n hx hb dX8_chosen_2 rfl (lv_at hl 1 rfl) ?_
  refine lv_iload_n hx hb dX8_chosen_3 rfl (lv_at hl 1 rfl) ?_
  refine pw_ci w (pw_runS (As := [.int (zI zt)]) (rest := [.int (zI zt), .ref (ad 120), .ref (ad 120)]) w ⟨hx, hb, hml, hown, hts⟩ (c_X8_isTune l D G ad N c (v := zt) ⟨by omega, by omega⟩) (va_cwS 1 hts gX8_chosen_X8_isTune rfl rfl rfl (by decide +kernel) ⟨Nat.le_of_ble_eq_true rfl, Nat.le_of_ble_eq_true rfl⟩) rfl hl.1 rfl (lv_room (Nat.le_of_ble_eq_true rfl)) dX8_chosen_4 ⟨Nat.le_of_ble_eq_true rfl, Nat.le_of_ble_eq_true rfl⟩) (fun r_ u H locs hp w => ?_)
  obtain ⟨hv, hu⟩ := hp
  subst hv
  have w : PW D G A s ad N c H locs := by rw [hu] at w; exact w
  clear hu
  refine pz_top (b := 0) (if_neg (by omega)) ?_
  refine pz_ifeq (tgt := 23) hx hb dX8_chosen_7 (by decide) (⟨by omega, by omega⟩) (fun h1 => ?_) (fun h1 => ?_)
  · refine lv_iconst (v := zI (0)) hx hb dX8_chosen_23 rfl ?_
    refine pw_ci w (pw_runV (r := 120) (ci := 8) (As := [.int (zI zt), .int (zI 0)]) (rest := [.ref (ad 120)]) w ⟨hx, hb, hml, hown, hts⟩ (c_X8_faultOf_bad l D G ad N c (ip := 0) (zt := zt) hbzt hbad) (cwV 2 hts gX8_chosen_X8_faultOf rfl rfl rfl (by decide +kernel) ⟨Nat.le_of_ble_eq_true rfl, Nat.le_of_ble_eq_true rfl⟩) (by omega) hm rfl rfl hl.1 rfl (lv_room (Nat.le_of_ble_eq_true rfl)) dX8_chosen_24 ⟨Nat.le_of_ble_eq_true rfl, Nat.le_of_ble_eq_true rfl⟩) (fun r_ u H locs hp w => ?_)
    obtain ⟨hv, hu⟩ := hp
    subst hv
    have w : PW D G A s ad N c H locs := by rw [hu] at w; exact w
    clear hu
    refine pw_ci w (pw_runV (r := 120) (ci := 8) (As := [.int (zI 1)]) (rest := []) w ⟨hx, hb, hml, hown, hts⟩ (c_X8_goesWell l D G ad N c (pl := 1) hN hm ⟨by decide, by decide⟩) (cwV 1 hts gX8_chosen_X8_goesWell rfl rfl rfl (by decide +kernel) ⟨Nat.le_of_ble_eq_true rfl, Nat.le_of_ble_eq_true rfl⟩) (by omega) hm rfl rfl hl.1 rfl (lv_room (Nat.le_of_ble_eq_true rfl)) dX8_chosen_27 ⟨Nat.le_of_ble_eq_true rfl, Nat.le_of_ble_eq_true rfl⟩) (fun r_ c2 H locs hp w => ?_)
    have w : PW D G A s ad N c2 H locs := w
    obtain ⟨hv2, hm2, fr2⟩ := hp
    subst hv2
    refine pz_top (b := 0) (if_neg (by omega)) ?_
    have hS2 := hS.to hm2 fr2
    have hm := hm2
    obtain ⟨-, hh, hB, hDr, hMT, hMR⟩ := id hS2
    refine pz_ifeq (tgt := 41) hx hb dX8_chosen_30 (by decide) (⟨by omega, by omega⟩) (fun h3 => ?_) (fun h3 => ?_)
    · refine lv_iconst (v := zI (0)) hx hb dX8_chosen_41 rfl ?_
      exact fin (ad, N, c2) c2 _ _ _ _ _ _ _ rfl ⟨rfl, hS2, fun q hq => ((fr2 q (by omega)).trans rfl)⟩ w dX8_chosen_42 (Nat.le_refl _) (Nat.le_refl _)
    · omega
  · omega

set_option maxHeartbeats 4000000 in
set_option maxRecDepth 100000 in
/-- X8_chosen_bad2 -/
theorem c_X8_chosen_bad2 (l : Launch) (D : va_G) (G : Nat → ClassId) (ad : Nat → Nat) (N : Nat) (c : Nat → va_E) {th lim : Int} {no dn : Nat} {gn : Nat → Nat} {gg : Nat → Nat → Nat} {dg nn : Nat → Nat} {pt ln : Nat → Nat → Nat} {wi : Nat → Nat → Int} (hN : 139 ≤ N) (hS : MS G ad c th lim no dn gn gg dg nn pt ln wi) (hV : SV lim no dn gn gg dg nn pt ln wi) {t : Nat} (ht : t < 4) {zi : Int} (hbzi : bnd zi) (hbad : ¬ (0 ≤ zi ∧ zi ≤ (nn t : Int) - 2)) : MC l yX8_chosen wsX8_chosen rm_X8_chosen [.ref (ad 120), .int (zI (t : Int)), .int (zI zi)] D G ad N c (qI D G (fx ad N) (fun v c1 => v = zI 0 ∧ MS G ad c1 2 lim no dn gn gg dg nn pt ln wi ∧ ∀ q, (q < 120 ∨ 137 ≤ q) → c1 q = c q)) 0 0 := by
  refine MCi.of (cc := cX8_chosen) (maxL := 3) (by decide) rfl (Nat.le_of_ble_eq_true rfl) ?_
  intro p e s m args below meth kc A Q hx hb hts hown hml fin H locs w ls hl
  have hown : s.vm.findClass RX8 = some m.cls := hown
  have hl : lv_has ls 3 [(0, .ref (ad 120)), (1, .int (zI (t : Int))), (2, .int (zI zi))] := hl
  obtain ⟨⟨row, hm⟩, hh, hB, hDr, hMT, hMR⟩ := id hS
  obtain ⟨hlim, hOV, hdn4, hdg, hUV⟩ := id hV
  have hlb : bnd lim := ⟨by omega, by omega⟩
  have hno8 := hOV.1
  have hnt := (hUV t ht).1
  have hTV := TV_bd (lim := lim) hOV (hUV t ht)
  have hbzi1 := hbzi.1
  have hbzi2 := hbzi.2
  refine lv_aload_n hx hb dX8_chosen_0 rfl (lv_at hl 0 rfl) ?_
  refine lv_aload_n hx hb dX8_chosen_1 rfl (lv_at hl 0 rfl) ?_
  refine lv_iload_n hx hb dX8_chosen_2 rfl (lv_at hl 1 rfl) ?_
  refine lv_iload_n hx hb dX8_chosen_3 rfl (lv_at hl 1 rfl) ?_
  refine pw_ci w (pw_runS (As := [.int (zI (t : Int))]) (rest := [.int (zI (t : Int)), .ref (ad 120), .ref (ad 120)]) w ⟨hx, hb, hml, hown, hts⟩ (c_X8_isTune l D G ad N c (v := (t : Int)) ⟨by omega, by omega⟩) (va_cwS 1 hts gX8_chosen_X8_isTune rfl rfl rfl (by decide +kernel) ⟨Nat.le_of_ble_eq_true rfl, Nat.le_of_ble_eq_true rfl⟩) rfl hl.1 rfl (lv_room (Nat.le_of_ble_eq_true rfl)) dX8_chosen_4 ⟨Nat.le_of_ble_eq_true rfl, Nat.le_of_ble_eq_true rfl⟩) (fun r_ u H locs hp w => ?_)
  obtain ⟨hv, hu⟩ := hp
  subst hv
  have w : PW D G A s ad N c H locs := by rw [hu] at w; exact w
  clear hu
  refine pz_top (b := 1) (if_pos (by omega)) ?_
  refine pz_ifeq (tgt := 23) hx hb dX8_chosen_7 (by decide) (⟨by omega, by omega⟩) (fun h1 => ?_) (fun h1 => ?_)
  · omega
  · refine lv_aload_n hx hb dX8_chosen_10 rfl (lv_at hl 0 rfl) ?_
    refine lv_iload_n hx hb dX8_chosen_11 rfl (lv_at hl 1 rfl) ?_
    refine lv_iload_n hx hb dX8_chosen_12 rfl (lv_at hl 2 rfl) ?_
    refine pw_ci w (pw_runV (r := 120) (ci := 8) (As := [.int (zI (t : Int)), .int (zI zi)]) (rest := [.int (zI (t : Int)), .ref (ad 120), .ref (ad 120)]) w ⟨hx, hb, hml, hown, hts⟩ (c_X8_isGap l D G ad N c (t := t) (z := zi) hN hm hMT hUV (by omega) ⟨by omega, by omega⟩) (cwV 2 hts gX8_chosen_X8_isGap rfl rfl rfl (by decide +kernel) ⟨Nat.le_of_ble_eq_true rfl, Nat.le_of_ble_eq_true rfl⟩) (by omega) hm rfl rfl hl.1 rfl (lv_room (Nat.le_of_ble_eq_true rfl)) dX8_chosen_13 ⟨Nat.le_of_ble_eq_true rfl, Nat.le_of_ble_eq_true rfl⟩) (fun r_ u H locs hp w => ?_)
    obtain ⟨hv, hu⟩ := hp
    subst hv
    have w : PW D G A s ad N c H locs := by rw [hu] at w; exact w
    clear hu
    refine pz_top (b := 0) (if_neg (by omega)) ?_
    refine pz_ifeq (tgt := 23) hx hb dX8_chosen_16 (by decide) (⟨by omega, by omega⟩) (fun h2 => ?_) (fun h2 => ?_)
    · refine lv_iconst (v := zI (0)) hx hb dX8_chosen_23 rfl ?_
      refine pw_ci w (pw_runV (r := 120) (ci := 8) (As := [.int (zI (t : Int)), .int (zI 0)]) (rest := [.ref (ad 120)]) w ⟨hx, hb, hml, hown, hts⟩ (c_X8_faultOf_ok l D G ad N c (t := t) (ip := 0) hN hS hV ht (Or.inl rfl)) (cwV 2 hts gX8_chosen_X8_faultOf rfl rfl rfl (by decide +kernel) ⟨Nat.le_of_ble_eq_true rfl, Nat.le_of_ble_eq_true rfl⟩) (by omega) hm rfl rfl hl.1 rfl (lv_room (Nat.le_of_ble_eq_true rfl)) dX8_chosen_24 ⟨Nat.le_of_ble_eq_true rfl, Nat.le_of_ble_eq_true rfl⟩) (fun r_ c3 H locs hp w => ?_)
      have w : PW D G A s ad N c3 H locs := w
      obtain ⟨hv3, hLd3, fr3⟩ := hp
      subst hv3
      have hS3 := hS.laid hLd3 fr3
      obtain ⟨-, hh, hB, hDr, hMT, hMR⟩ := id hS3
      refine pz_top (b := 2) (if_pos rfl) ?_
      refine pw_ci w (pw_runV (r := 120) (ci := 8) (As := [.int (zI 2)]) (rest := []) w ⟨hx, hb, hml, hown, hts⟩ (c_X8_goesWell l D G ad N c3 (pl := 2) hN hLd3.1 ⟨by decide, by decide⟩) (cwV 1 hts gX8_chosen_X8_goesWell rfl rfl rfl (by decide +kernel) ⟨Nat.le_of_ble_eq_true rfl, Nat.le_of_ble_eq_true rfl⟩) (by omega) hLd3.1 rfl rfl hl.1 rfl (lv_room (Nat.le_of_ble_eq_true rfl)) dX8_chosen_27 ⟨Nat.le_of_ble_eq_true rfl, Nat.le_of_ble_eq_true rfl⟩) (fun r_ c4 H locs hp w => ?_)
      have w : PW D G A s ad N c4 H locs := w
      obtain ⟨hv4, hm4, fr4⟩ := hp
      subst hv4
      refine pz_top (b := 0) (if_neg (by omega)) ?_
      have hLd4 := hLd3.th hm4 fr4
      have hS4 := hS3.to hm4 fr4
      have hm := hm4
      obtain ⟨-, hh, hB, hDr, hMT, hMR⟩ := id hS4
      refine pz_ifeq (tgt := 41) hx hb dX8_chosen_30 (by decide) (⟨by omega, by omega⟩) (fun h5 => ?_) (fun h5 => ?_)
      · refine lv_iconst (v := zI (0)) hx hb dX8_chosen_41 rfl ?_
        exact fin (ad, N, c4) c4 _ _ _ _ _ _ _ rfl ⟨rfl, hS4, fun q hq => ((fr4 q (by omega)).trans ((fr3 q (by omega)).trans rfl))⟩ w dX8_chosen_42 (Nat.le_refl _) (Nat.le_refl _)
      · omega
    · omega

set_option maxHeartbeats 4000000 in
set_option maxRecDepth 100000 in
/-- X8_chosen_bad3 -/
theorem c_X8_chosen_bad3 (l : Launch) (D : va_G) (G : Nat → ClassId) (ad : Nat → Nat) (N : Nat) (c : Nat → va_E) {th lim : Int} {no dn : Nat} {gn : Nat → Nat} {gg : Nat → Nat → Nat} {dg nn : Nat → Nat} {pt ln : Nat → Nat → Nat} {wi : Nat → Nat → Int} (hN : 139 ≤ N) (hS : MS G ad c th lim no dn gn gg dg nn pt ln wi) (hV : SV lim no dn gn gg dg nn pt ln wi) {t i : Nat} (ht : t < 4) (hi : i + 1 < nn t) (hW : (TV lim no gn gg (nn t) (pt t) (ln t) (wi t)).2.1 = 0) : MC l yX8_chosen wsX8_chosen rm_X8_chosen [.ref (ad 120), .int (zI (t : Int)), .int (zI (i : Int))] D G ad N c (qI D G (fx ad N) (fun v c1 => v = zI 0 ∧ MS G ad c1 3 lim no dn gn gg dg nn pt ln wi ∧ ∀ q, (q < 120 ∨ 137 ≤ q) → c1 q = c q)) 0 0 := by
  refine MCi.of (cc := cX8_chosen) (maxL := 3) (by decide) rfl (Nat.le_of_ble_eq_true rfl) ?_
  intro p e s m args below meth kc A Q hx hb hts hown hml fin H locs w ls hl
  have hown : s.vm.findClass RX8 = some m.cls := hown
  have hl : lv_has ls 3 [(0, .ref (ad 120)), (1, .int (zI (t : Int))), (2, .int (zI (i : Int)))] := hl
  obtain ⟨⟨row, hm⟩, hh, hB, hDr, hMT, hMR⟩ := id hS
  obtain ⟨hlim, hOV, hdn4, hdg, hUV⟩ := id hV
  have hlb : bnd lim := ⟨by omega, by omega⟩
  have hno8 := hOV.1
  have hnt := (hUV t ht).1
  have hTV := TV_bd (lim := lim) hOV (hUV t ht)
  refine lv_aload_n hx hb dX8_chosen_0 rfl (lv_at hl 0 rfl) ?_
  refine lv_aload_n hx hb dX8_chosen_1 rfl (lv_at hl 0 rfl) ?_
  refine lv_iload_n hx hb dX8_chosen_2 rfl (lv_at hl 1 rfl) ?_
  refine lv_iload_n hx hb dX8_chosen_3 rfl (lv_at hl 1 rfl) ?_
  refine pw_ci w (pw_runS (As := [.int (zI (t : Int))]) (rest := [.int (zI (t : Int)), .ref (ad 120), .ref (ad 120)]) w ⟨hx, hb, hml, hown, hts⟩ (c_X8_isTune l D G ad N c (v := (t : Int)) ⟨by omega, by omega⟩) (va_cwS 1 hts gX8_chosen_X8_isTune rfl rfl rfl (by decide +kernel) ⟨Nat.le_of_ble_eq_true rfl, Nat.le_of_ble_eq_true rfl⟩) rfl hl.1 rfl (lv_room (Nat.le_of_ble_eq_true rfl)) dX8_chosen_4 ⟨Nat.le_of_ble_eq_true rfl, Nat.le_of_ble_eq_true rfl⟩) (fun r_ u H locs hp w => ?_)
  obtain ⟨hv, hu⟩ := hp
  subst hv
  have w : PW D G A s ad N c H locs := by rw [hu] at w; exact w
  clear hu
  refine pz_top (b := 1) (if_pos (by omega)) ?_
  refine pz_ifeq (tgt := 23) hx hb dX8_chosen_7 (by decide) (⟨by omega, by omega⟩) (fun h1 => ?_) (fun h1 => ?_)
  · omega
  · refine lv_aload_n hx hb dX8_chosen_10 rfl (lv_at hl 0 rfl) ?_
    refine lv_iload_n hx hb dX8_chosen_11 rfl (lv_at hl 1 rfl) ?_
    refine lv_iload_n hx hb dX8_chosen_12 rfl (lv_at hl 2 rfl) ?_
    refine pw_ci w (pw_runV (r := 120) (ci := 8) (As := [.int (zI (t : Int)), .int (zI (i : Int))]) (rest := [.int (zI (t : Int)), .ref (ad 120), .ref (ad 120)]) w ⟨hx, hb, hml, hown, hts⟩ (c_X8_isGap l D G ad N c (t := t) (z := (i : Int)) hN hm hMT hUV (by omega) ⟨by omega, by omega⟩) (cwV 2 hts gX8_chosen_X8_isGap rfl rfl rfl (by decide +kernel) ⟨Nat.le_of_ble_eq_true rfl, Nat.le_of_ble_eq_true rfl⟩) (by omega) hm rfl rfl hl.1 rfl (lv_room (Nat.le_of_ble_eq_true rfl)) dX8_chosen_13 ⟨Nat.le_of_ble_eq_true rfl, Nat.le_of_ble_eq_true rfl⟩) (fun r_ u H locs hp w => ?_)
    obtain ⟨hv, hu⟩ := hp
    subst hv
    have w : PW D G A s ad N c H locs := by rw [hu] at w; exact w
    clear hu
    refine pz_top (b := 1) (if_pos (by omega)) ?_
    refine pz_ifeq (tgt := 23) hx hb dX8_chosen_16 (by decide) (⟨by omega, by omega⟩) (fun h2 => ?_) (fun h2 => ?_)
    · omega
    · refine lv_iconst (v := zI (1)) hx hb dX8_chosen_19 rfl ?_
      refine lv_goto (tgt := 24) hx hb dX8_chosen_20 (by decide) ?_
      refine pw_ci w (pw_runV (r := 120) (ci := 8) (As := [.int (zI (t : Int)), .int (zI 1)]) (rest := [.ref (ad 120)]) w ⟨hx, hb, hml, hown, hts⟩ (c_X8_faultOf_ok l D G ad N c (t := t) (ip := 1) hN hS hV ht (Or.inr rfl)) (cwV 2 hts gX8_chosen_X8_faultOf rfl rfl rfl (by decide +kernel) ⟨Nat.le_of_ble_eq_true rfl, Nat.le_of_ble_eq_true rfl⟩) (by omega) hm rfl rfl hl.1 rfl (lv_room (Nat.le_of_ble_eq_true rfl)) dX8_chosen_24 ⟨Nat.le_of_ble_eq_true rfl, Nat.le_of_ble_eq_true rfl⟩) (fun r_ c3 H locs hp w => ?_)
      have w : PW D G A s ad N c3 H locs := w
      obtain ⟨hv3, hLd3, fr3⟩ := hp
      subst hv3
      have hS3 := hS.laid hLd3 fr3
      obtain ⟨-, hh, hB, hDr, hMT, hMR⟩ := id hS3
      refine pz_top (b := 3) (by rw [if_neg (by decide), if_pos hW]) ?_
      refine pw_ci w (pw_runV (r := 120) (ci := 8) (As := [.int (zI 3)]) (rest := []) w ⟨hx, hb, hml, hown, hts⟩ (c_X8_goesWell l D G ad N c3 (pl := 3) hN hLd3.1 ⟨by decide, by decide⟩) (cwV 1 hts gX8_chosen_X8_goesWell rfl rfl rfl (by decide +kernel) ⟨Nat.le_of_ble_eq_true rfl, Nat.le_of_ble_eq_true rfl⟩) (by omega) hLd3.1 rfl rfl hl.1 rfl (lv_room (Nat.le_of_ble_eq_true rfl)) dX8_chosen_27 ⟨Nat.le_of_ble_eq_true rfl, Nat.le_of_ble_eq_true rfl⟩) (fun r_ c4 H locs hp w => ?_)
      have w : PW D G A s ad N c4 H locs := w
      obtain ⟨hv4, hm4, fr4⟩ := hp
      subst hv4
      refine pz_top (b := 0) (if_neg (by omega)) ?_
      have hLd4 := hLd3.th hm4 fr4
      have hS4 := hS3.to hm4 fr4
      have hm := hm4
      obtain ⟨-, hh, hB, hDr, hMT, hMR⟩ := id hS4
      refine pz_ifeq (tgt := 41) hx hb dX8_chosen_30 (by decide) (⟨by omega, by omega⟩) (fun h5 => ?_) (fun h5 => ?_)
      · refine lv_iconst (v := zI (0)) hx hb dX8_chosen_41 rfl ?_
        exact fin (ad, N, c4) c4 _ _ _ _ _ _ _ rfl ⟨rfl, hS4, fun q hq => ((fr4 q (by omega)).trans ((fr3 q (by omega)).trans rfl))⟩ w dX8_chosen_42 (Nat.le_refl _) (Nat.le_refl _)
      · omega

set_option maxHeartbeats 4000000 in
set_option maxRecDepth 100000 in
/-- X8_chosen_ok -/
theorem c_X8_chosen_ok (l : Launch) (D : va_G) (G : Nat → ClassId) (ad : Nat → Nat) (N : Nat) (c : Nat → va_E) {th lim : Int} {no dn : Nat} {gn : Nat → Nat} {gg : Nat → Nat → Nat} {dg nn : Nat → Nat} {pt ln : Nat → Nat → Nat} {wi : Nat → Nat → Int} (hN : 139 ≤ N) (hS : MS G ad c th lim no dn gn gg dg nn pt ln wi) (hV : SV lim no dn gn gg dg nn pt ln wi) {t i : Nat} (ht : t < 4) (hi : i + 1 < nn t) (hW : ¬ (TV lim no gn gg (nn t) (pt t) (ln t) (wi t)).2.1 = 0) {ch : Nat → Nat} (hch0 : ch 0 = 0) (hch : ∀ j, j ≤ i → ch j < 9 ∧ ch (j + 1) ≤ no ∧ isF (atc lim gn gg (pt t) (ln t) (rwT (nn t) (wi t))) no (nn t - 1) j (ch j) (ch (j + 1)) ∧ ∀ o, o < ch (j + 1) → ¬ isF (atc lim gn gg (pt t) (ln t) (rwT (nn t) (wi t))) no (nn t - 1) j (ch j) o) : MC l yX8_chosen wsX8_chosen rm_X8_chosen [.ref (ad 120), .int (zI (t : Int)), .int (zI (i : Int))] D G ad N c (qI D G (fx ad N) (fun v c1 => v = zI ((ch (i + 1) : Int) - 1) ∧ MS G ad c1 0 lim no dn gn gg dg nn pt ln wi ∧ ∀ q, (q < 120 ∨ 137 ≤ q) → c1 q = c q)) 0 0 := by
  refine MCi.of (cc := cX8_chosen) (maxL := 3) (by decide) rfl (Nat.le_of_ble_eq_true rfl) ?_
  intro p e s m args below meth kc A Q hx hb hts hown hml fin H locs w ls hl
  have hown : s.vm.findClass RX8 = some m.cls := hown
  have hl : lv_has ls 3 [(0, .ref (ad 120)), (1, .int (zI (t : Int))), (2, .int (zI (i : Int)))] := hl
  obtain ⟨⟨row, hm⟩, hh, hB, hDr, hMT, hMR⟩ := id hS
  obtain ⟨hlim, hOV, hdn4, hdg, hUV⟩ := id hV
  have hlb : bnd lim := ⟨by omega, by omega⟩
  have hno8 := hOV.1
  have hnt := (hUV t ht).1
  have hTV := TV_bd (lim := lim) hOV (hUV t ht)
  refine lv_aload_n hx hb dX8_chosen_0 rfl (lv_at hl 0 rfl) ?_
  refine lv_aload_n hx hb dX8_chosen_1 rfl (lv_at hl 0 rfl) ?_
  refine lv_iload_n hx hb dX8_chosen_2 rfl (lv_at hl 1 rfl) ?_
  refine lv_iload_n hx hb dX8_chosen_3 rfl (lv_at hl 1 rfl) ?_
  refine pw_ci w (pw_runS (As := [.int (zI (t : Int))]) (rest := [.int (zI (t : Int)), .ref (ad 120), .ref (ad 120)]) w ⟨hx, hb, hml, hown, hts⟩ (c_X8_isTune l D G ad N c (v := (t : Int)) ⟨by omega, by omega⟩) (va_cwS 1 hts gX8_chosen_X8_isTune rfl rfl rfl (by decide +kernel) ⟨Nat.le_of_ble_eq_true rfl, Nat.le_of_ble_eq_true rfl⟩) rfl hl.1 rfl (lv_room (Nat.le_of_ble_eq_true rfl)) dX8_chosen_4 ⟨Nat.le_of_ble_eq_true rfl, Nat.le_of_ble_eq_true rfl⟩) (fun r_ u H locs hp w => ?_)
  obtain ⟨hv, hu⟩ := hp
  subst hv
  have w : PW D G A s ad N c H locs := by rw [hu] at w; exact w
  clear hu
  refine pz_top (b := 1) (if_pos (by omega)) ?_
  refine pz_ifeq (tgt := 23) hx hb dX8_chosen_7 (by decide) (⟨by omega, by omega⟩) (fun h1 => ?_) (fun h1 => ?_)
  · omega
  · refine lv_aload_n hx hb dX8_chosen_10 rfl (lv_at hl 0 rfl) ?_
    refine lv_iload_n hx hb dX8_chosen_11 rfl (lv_at hl 1 rfl) ?_
    refine lv_iload_n hx hb dX8_chosen_12 rfl (lv_at hl 2 rfl) ?_
    refine pw_ci w (pw_runV (r := 120) (ci := 8) (As := [.int (zI (t : Int)), .int (zI (i : Int))]) (rest := [.int (zI (t : Int)), .ref (ad 120), .ref (ad 120)]) w ⟨hx, hb, hml, hown, hts⟩ (c_X8_isGap l D G ad N c (t := t) (z := (i : Int)) hN hm hMT hUV (by omega) ⟨by omega, by omega⟩) (cwV 2 hts gX8_chosen_X8_isGap rfl rfl rfl (by decide +kernel) ⟨Nat.le_of_ble_eq_true rfl, Nat.le_of_ble_eq_true rfl⟩) (by omega) hm rfl rfl hl.1 rfl (lv_room (Nat.le_of_ble_eq_true rfl)) dX8_chosen_13 ⟨Nat.le_of_ble_eq_true rfl, Nat.le_of_ble_eq_true rfl⟩) (fun r_ u H locs hp w => ?_)
    obtain ⟨hv, hu⟩ := hp
    subst hv
    have w : PW D G A s ad N c H locs := by rw [hu] at w; exact w
    clear hu
    refine pz_top (b := 1) (if_pos (by omega)) ?_
    refine pz_ifeq (tgt := 23) hx hb dX8_chosen_16 (by decide) (⟨by omega, by omega⟩) (fun h2 => ?_) (fun h2 => ?_)
    · omega
    · refine lv_iconst (v := zI (1)) hx hb dX8_chosen_19 rfl ?_
      refine lv_goto (tgt := 24) hx hb dX8_chosen_20 (by decide) ?_
      refine pw_ci w (pw_runV (r := 120) (ci := 8) (As := [.int (zI (t : Int)), .int (zI 1)]) (rest := [.ref (ad 120)]) w ⟨hx, hb, hml, hown, hts⟩ (c_X8_faultOf_ok l D G ad N c (t := t) (ip := 1) hN hS hV ht (Or.inr rfl)) (cwV 2 hts gX8_chosen_X8_faultOf rfl rfl rfl (by decide +kernel) ⟨Nat.le_of_ble_eq_true rfl, Nat.le_of_ble_eq_true rfl⟩) (by omega) hm rfl rfl hl.1 rfl (lv_room (Nat.le_of_ble_eq_true rfl)) dX8_chosen_24 ⟨Nat.le_of_ble_eq_true rfl, Nat.le_of_ble_eq_true rfl⟩) (fun r_ c3 H locs hp w => ?_)
      have w : PW D G A s ad N c3 H locs := w
      obtain ⟨hv3, hLd3, fr3⟩ := hp
      subst hv3
      have hS3 := hS.laid hLd3 fr3
      obtain ⟨-, hh, hB, hDr, hMT, hMR⟩ := id hS3
      refine pz_top (b := 0) (by rw [if_neg (by decide), if_neg hW]) ?_
      refine pw_ci w (pw_runV (r := 120) (ci := 8) (As := [.int (zI 0)]) (rest := []) w ⟨hx, hb, hml, hown, hts⟩ (c_X8_goesWell l D G ad N c3 (pl := 0) hN hLd3.1 ⟨by decide, by decide⟩) (cwV 1 hts gX8_chosen_X8_goesWell rfl rfl rfl (by decide +kernel) ⟨Nat.le_of_ble_eq_true rfl, Nat.le_of_ble_eq_true rfl⟩) (by omega) hLd3.1 rfl rfl hl.1 rfl (lv_room (Nat.le_of_ble_eq_true rfl)) dX8_chosen_27 ⟨Nat.le_of_ble_eq_true rfl, Nat.le_of_ble_eq_true rfl⟩) (fun r_ c4 H locs hp w => ?_)
      have w : PW D G A s ad N c4 H locs := w
      obtain ⟨hv4, hm4, fr4⟩ := hp
      subst hv4
      refine pz_top (b := 1) (if_pos (by omega)) ?_
      have hLd4 := hLd3.th hm4 fr4
      have hS4 := hS3.to hm4 fr4
      have hm := hm4
      obtain ⟨-, hh, hB, hDr, hMT, hMR⟩ := id hS4
      obtain ⟨⟨gL, l1, eL⟩, ⟨gW, l2, eW⟩, gM, l3, eM⟩ := hLd4.v
      refine pz_ifeq (tgt := 41) hx hb dX8_chosen_30 (by decide) (⟨by omega, by omega⟩) (fun h5 => ?_) (fun h5 => ?_)
      · omega
      · refine lv_aload_n hx hb dX8_chosen_33 rfl (lv_at hl 0 rfl) ?_
        refine lv_iload_n hx hb dX8_chosen_34 rfl (lv_at hl 2 rfl) ?_
        refine pw_ci w (pw_runV (r := 120) (ci := 8) (As := [.int (zI (i : Int))]) (rest := []) w ⟨hx, hb, hml, hown, hts⟩ (c_X8_chosenAt l D G ad N c4 (gp := i) (ch := ch) (g9 := nn t - 1) hN hLd4.1 hh hlb hB hOV hLd4.2.1 (rwT_V (hUV t ht)) rfl (by omega) hLd4.2.2 (by omega) hch0 hch) (cwV 1 hts gX8_chosen_X8_chosenAt rfl rfl rfl (by decide +kernel) ⟨Nat.le_of_ble_eq_true rfl, Nat.le_of_ble_eq_true rfl⟩) (by omega) hm rfl rfl hl.1 rfl (lv_room (Nat.le_of_ble_eq_true rfl)) dX8_chosen_35 ⟨Nat.le_of_ble_eq_true rfl, Nat.le_of_ble_eq_true rfl⟩) (fun r_ u H locs hp w => ?_)
        obtain ⟨hv, hu⟩ := hp
        subst hv
        have w : PW D G A s ad N c4 H locs := by rw [hu] at w; exact w
        clear hu
        refine lv_goto (tgt := 42) hx hb dX8_chosen_38 (by decide) ?_
        exact fin (ad, N, c4) c4 _ _ _ _ _ _ _ rfl ⟨rfl, hS4, fun q hq => ((fr4 q (by omega)).trans ((fr3 q (by omega)).trans rfl))⟩ w dX8_chosen_42 (Nat.le_refl _) (Nat.le_refl _)

abbrev rm_X8_time : Room := { frames := 10, cells := 0, slots := 0, locals := 300 }
set_option maxHeartbeats 4000000 in
set_option maxRecDepth 100000 in
/-- X8_time_bad1 -/
theorem c_X8_time_bad1 (l : Launch) (D : va_G) (G : Nat → ClassId) (ad : Nat → Nat) (N : Nat) (c : Nat → va_E) {th lim : Int} {no dn : Nat} {gn : Nat → Nat} {gg : Nat → Nat → Nat} {dg nn : Nat → Nat} {pt ln : Nat → Nat → Nat} {wi : Nat → Nat → Int} (hN : 139 ≤ N) (hS : MS G ad c th lim no dn gn gg dg nn pt ln wi) (hV : SV lim no dn gn gg dg nn pt ln wi) {zt : Int} (hbzt : bnd zt) (hbad : ¬ (0 ≤ zt ∧ zt ≤ 3)) {zi : Int} : MC l yX8_time wsX8_time rm_X8_time [.ref (ad 120), .int (zI zt), .int (zI zi)] D G ad N c (qI D G (fx ad N) (fun v c1 => v = zI 0 ∧ MS G ad c1 1 lim no dn gn gg dg nn pt ln wi ∧ ∀ q, (q < 120 ∨ 137 ≤ q) → c1 q = c q)) 0 0 := by
  refine MCi.of (cc := cX8_time) (maxL := 4) (by decide) rfl (Nat.le_of_ble_eq_true rfl) ?_
  intro p e s m args below meth kc A Q hx hb hts hown hml fin H locs w ls hl
  have hown : s.vm.findClass RX8 = some m.cls := hown
  have hl : lv_has ls 4 [(0, .ref (ad 120)), (1, .int (zI zt)), (2, .int (zI zi))] := hl
  obtain ⟨⟨row, hm⟩, hh, hB, hDr, hMT, hMR⟩ := id hS
  obtain ⟨hlim, hOV, hdn4, hdg, hUV⟩ := id hV
  have hlb : bnd lim := ⟨by omega, by omega⟩
  have hno8 := hOV.1
  have hbzt1 := hbzt.1
  have hbzt2 := hbzt.2
  refine lv_aload_n hx hb dX8_time_0 rfl (lv_at hl 0 rfl) ?_
  refine lv_aload_n hx hb dX8_time_1 rfl (lv_at hl 0 rfl) ?_
  refine lv_iload_n hx hb dX8_time_2 rfl (lv_at hl 1 rfl) ?_
  refine lv_iload_n hx hb dX8_time_3 rfl (lv_at hl 1 rfl) ?_
  refine pw_ci w (pw_runS (As := [.int (zI zt)]) (rest := [.int (zI zt), .ref (ad 120), .ref (ad 120)]) w ⟨hx, hb, hml, hown, hts⟩ (c_X8_isTune l D G ad N c (v := zt) ⟨by omega, by omega⟩) (va_cwS 1 hts gX8_time_X8_isTune rfl rfl rfl (by decide +kernel) ⟨Nat.le_of_ble_eq_true rfl, Nat.le_of_ble_eq_true rfl⟩) rfl hl.1 rfl (lv_room (Nat.le_of_ble_eq_true rfl)) dX8_time_4 ⟨Nat.le_of_ble_eq_true rfl, Nat.le_of_ble_eq_true rfl⟩) (fun r_ u H locs hp w => ?_)
  obtain ⟨hv, hu⟩ := hp
  subst hv
  have w : PW D G A s ad N c H locs := by rw [hu] at w; exact w
  clear hu
  refine pz_top (b := 0) (if_neg (by omega)) ?_
  refine pz_ifeq (tgt := 30) hx hb dX8_time_7 (by decide) (⟨by omega, by omega⟩) (fun h1 => ?_) (fun h1 => ?_)
  · refine lv_iconst (v := zI (0)) hx hb dX8_time_30 rfl ?_
    refine pw_ci w (pw_runV (r := 120) (ci := 8) (As := [.int (zI zt), .int (zI 0)]) (rest := [.ref (ad 120)]) w ⟨hx, hb, hml, hown, hts⟩ (c_X8_faultOf_bad l D G ad N c (ip := 0) (zt := zt) hbzt hbad) (cwV 2 hts gX8_time_X8_faultOf rfl rfl rfl (by decide +kernel) ⟨Nat.le_of_ble_eq_true rfl, Nat.le_of_ble_eq_true rfl⟩) (by omega) hm rfl rfl hl.1 rfl (lv_room (Nat.le_of_ble_eq_true rfl)) dX8_time_31 ⟨Nat.le_of_ble_eq_true rfl, Nat.le_of_ble_eq_true rfl⟩) (fun r_ u H locs hp w => ?_)
    obtain ⟨hv, hu⟩ := hp
    subst hv
    have w : PW D G A s ad N c H locs := by rw [hu] at w; exact w
    clear hu
    refine pw_ci w (pw_runV (r := 120) (ci := 8) (As := [.int (zI 1)]) (rest := []) w ⟨hx, hb, hml, hown, hts⟩ (c_X8_goesWell l D G ad N c (pl := 1) hN hm ⟨by decide, by decide⟩) (cwV 1 hts gX8_time_X8_goesWell rfl rfl rfl (by decide +kernel) ⟨Nat.le_of_ble_eq_true rfl, Nat.le_of_ble_eq_true rfl⟩) (by omega) hm rfl rfl hl.1 rfl (lv_room (Nat.le_of_ble_eq_true rfl)) dX8_time_34 ⟨Nat.le_of_ble_eq_true rfl, Nat.le_of_ble_eq_true rfl⟩) (fun r_ c2 H locs hp w => ?_)
    have w : PW D G A s ad N c2 H locs := w
    obtain ⟨hv2, hm2, fr2⟩ := hp
    subst hv2
    refine pz_top (b := 0) (if_neg (by omega)) ?_
    have hS2 := hS.to hm2 fr2
    have hm := hm2
    obtain ⟨-, hh, hB, hDr, hMT, hMR⟩ := id hS2
    refine pz_ifne (tgt := 42) hx hb dX8_time_37 (by decide) (⟨by omega, by omega⟩) (fun h3 => ?_) (fun h3 => ?_)
    · omega
    · refine lv_iconst (v := zI (0)) hx hb dX8_time_40 rfl ?_
      exact fin (ad, N, c2) c2 _ _ _ _ _ _ _ rfl ⟨rfl, hS2, fun q hq => ((fr2 q (by omega)).trans rfl)⟩ w dX8_time_41 (Nat.le_refl _) (Nat.le_refl _)
  · omega

theorem hin_X8_time_8 : ∀ w ∈ u_ws RX8 TX8 21, w ∈ wsX8_time := by decide +kernel
theorem fl_X8_time_36 : Cond.fieldLink RX8 36 "PipersDeskModel" "noteMany" "[I" ∈ wsX8_time := by decide +kernel
set_option maxHeartbeats 4000000 in
set_option maxRecDepth 100000 in
/-- X8_time_bad2 -/
theorem c_X8_time_bad2 (l : Launch) (D : va_G) (G : Nat → ClassId) (ad : Nat → Nat) (N : Nat) (c : Nat → va_E) {th lim : Int} {no dn : Nat} {gn : Nat → Nat} {gg : Nat → Nat → Nat} {dg nn : Nat → Nat} {pt ln : Nat → Nat → Nat} {wi : Nat → Nat → Int} (hN : 139 ≤ N) (hS : MS G ad c th lim no dn gn gg dg nn pt ln wi) (hV : SV lim no dn gn gg dg nn pt ln wi) {t : Nat} (ht : t < 4) {zi : Int} (hbzi : bnd zi) (hbad : ¬ (0 ≤ zi ∧ zi ≤ (nn t : Int) - 1)) : MC l yX8_time wsX8_time rm_X8_time [.ref (ad 120), .int (zI (t : Int)), .int (zI zi)] D G ad N c (qI D G (fx ad N) (fun v c1 => v = zI 0 ∧ MS G ad c1 2 lim no dn gn gg dg nn pt ln wi ∧ ∀ q, (q < 120 ∨ 137 ≤ q) → c1 q = c q)) 0 0 := by
  refine MCi.of (cc := cX8_time) (maxL := 4) (by decide) rfl (Nat.le_of_ble_eq_true rfl) ?_
  intro p e s m args below meth kc A Q hx hb hts hown hml fin H locs w ls hl
  have hown : s.vm.findClass RX8 = some m.cls := hown
  have hl : lv_has ls 4 [(0, .ref (ad 120)), (1, .int (zI (t : Int))), (2, .int (zI zi))] := hl
  obtain ⟨⟨row, hm⟩, hh, hB, hDr, hMT, hMR⟩ := id hS
  obtain ⟨hlim, hOV, hdn4, hdg, hUV⟩ := id hV
  have hlb : bnd lim := ⟨by omega, by omega⟩
  have hno8 := hOV.1
  have hnt := (hUV t ht).1
  have hTV := TV_bd (lim := lim) hOV (hUV t ht)
  have hbzi1 := hbzi.1
  have hbzi2 := hbzi.2
  refine lv_aload_n hx hb dX8_time_0 rfl (lv_at hl 0 rfl) ?_
  refine lv_aload_n hx hb dX8_time_1 rfl (lv_at hl 0 rfl) ?_
  refine lv_iload_n hx hb dX8_time_2 rfl (lv_at hl 1 rfl) ?_
  refine lv_iload_n hx hb dX8_time_3 rfl (lv_at hl 1 rfl) ?_
  refine pw_ci w (pw_runS (As := [.int (zI (t : Int))]) (rest := [.int (zI (t : Int)), .ref (ad 120), .ref (ad 120)]) w ⟨hx, hb, hml, hown, hts⟩ (c_X8_isTune l D G ad N c (v := (t : Int)) ⟨by omega, by omega⟩) (va_cwS 1 hts gX8_time_X8_isTune rfl rfl rfl (by decide +kernel) ⟨Nat.le_of_ble_eq_true rfl, Nat.le_of_ble_eq_true rfl⟩) rfl hl.1 rfl (lv_room (Nat.le_of_ble_eq_true rfl)) dX8_time_4 ⟨Nat.le_of_ble_eq_true rfl, Nat.le_of_ble_eq_true rfl⟩) (fun r_ u H locs hp w => ?_)
  obtain ⟨hv, hu⟩ := hp
  subst hv
  have w : PW D G A s ad N c H locs := by rw [hu] at w; exact w
  clear hu
  refine pz_top (b := 1) (if_pos (by omega)) ?_
  refine pz_ifeq (tgt := 30) hx hb dX8_time_7 (by decide) (⟨by omega, by omega⟩) (fun h1 => ?_) (fun h1 => ?_)
  · omega
  · refine lv_iload_n hx hb dX8_time_10 rfl (lv_at hl 2 rfl) ?_
    refine lv_iconst (v := zI (0)) hx hb dX8_time_11 rfl ?_
    refine lv_aload_n hx hb dX8_time_12 rfl (lv_at hl 0 rfl) ?_
    refine pw_get (r := 120) (ci := 8) (C := RX8) (T := TX8) (Nf := 21) hx hb w hts hin_X8_time_8 hown (by omega) hm rfl 11 (by decide) (hts _ fl_X8_time_36) (fun _ h9 => h9) rfl dX8_time_13 ?_
    refine lv_iload_n hx hb dX8_time_16 rfl (lv_at hl 1 rfl) ?_
    refine pw_iald (r := 128) (j := t) hx hb w (by omega) hMT.2.2.2 (by omega) (by omega) (by decide) dX8_time_17 ?_
    refine lv_iconst (v := zI (1)) hx hb dX8_time_18 rfl ?_
    refine pz_isub hx hb dX8_time_19 ?_
    refine pw_ci w (pw_runS (As := [.int (zI zi), .int (zI 0), .int (zI (((fun t => (nn t : Int)) t) - 1))]) (rest := [.int (zI (t : Int)), .ref (ad 120), .ref (ad 120)]) w ⟨hx, hb, hml, hown, hts⟩ (c_X8_in l D G ad N c (v := zi) (lo := 0) (hi := ((nn t : Int) - 1)) ⟨by omega, by omega⟩ ⟨by omega, by omega⟩ ⟨by omega, by omega⟩) (va_cwS 3 hts gX8_time_X8_in rfl rfl rfl (by decide +kernel) ⟨Nat.le_of_ble_eq_true rfl, Nat.le_of_ble_eq_true rfl⟩) rfl hl.1 rfl (lv_room (Nat.le_of_ble_eq_true rfl)) dX8_time_20 ⟨Nat.le_of_ble_eq_true rfl, Nat.le_of_ble_eq_true rfl⟩) (fun r_ u H locs hp w => ?_)
    obtain ⟨hv, hu⟩ := hp
    subst hv
    have w : PW D G A s ad N c H locs := by rw [hu] at w; exact w
    clear hu
    refine pz_top (b := 0) (if_neg (by omega)) ?_
    refine pz_ifeq (tgt := 30) hx hb dX8_time_23 (by decide) (⟨by omega, by omega⟩) (fun h2 => ?_) (fun h2 => ?_)
    · refine lv_iconst (v := zI (0)) hx hb dX8_time_30 rfl ?_
      refine pw_ci w (pw_runV (r := 120) (ci := 8) (As := [.int (zI (t : Int)), .int (zI 0)]) (rest := [.ref (ad 120)]) w ⟨hx, hb, hml, hown, hts⟩ (c_X8_faultOf_ok l D G ad N c (t := t) (ip := 0) hN hS hV ht (Or.inl rfl)) (cwV 2 hts gX8_time_X8_faultOf rfl rfl rfl (by decide +kernel) ⟨Nat.le_of_ble_eq_true rfl, Nat.le_of_ble_eq_true rfl⟩) (by omega) hm rfl rfl hl.1 rfl (lv_room (Nat.le_of_ble_eq_true rfl)) dX8_time_31 ⟨Nat.le_of_ble_eq_true rfl, Nat.le_of_ble_eq_true rfl⟩) (fun r_ c3 H locs hp w => ?_)
      have w : PW D G A s ad N c3 H locs := w
      obtain ⟨hv3, hLd3, fr3⟩ := hp
      subst hv3
      have hS3 := hS.laid hLd3 fr3
      obtain ⟨-, hh, hB, hDr, hMT, hMR⟩ := id hS3
      refine pz_top (b := 2) (if_pos rfl) ?_
      refine pw_ci w (pw_runV (r := 120) (ci := 8) (As := [.int (zI 2)]) (rest := []) w ⟨hx, hb, hml, hown, hts⟩ (c_X8_goesWell l D G ad N c3 (pl := 2) hN hLd3.1 ⟨by decide, by decide⟩) (cwV 1 hts gX8_time_X8_goesWell rfl rfl rfl (by decide +kernel) ⟨Nat.le_of_ble_eq_true rfl, Nat.le_of_ble_eq_true rfl⟩) (by omega) hLd3.1 rfl rfl hl.1 rfl (lv_room (Nat.le_of_ble_eq_true rfl)) dX8_time_34 ⟨Nat.le_of_ble_eq_true rfl, Nat.le_of_ble_eq_true rfl⟩) (fun r_ c4 H locs hp w => ?_)
      have w : PW D G A s ad N c4 H locs := w
      obtain ⟨hv4, hm4, fr4⟩ := hp
      subst hv4
      refine pz_top (b := 0) (if_neg (by omega)) ?_
      have hLd4 := hLd3.th hm4 fr4
      have hS4 := hS3.to hm4 fr4
      have hm := hm4
      obtain ⟨-, hh, hB, hDr, hMT, hMR⟩ := id hS4
      refine pz_ifne (tgt := 42) hx hb dX8_time_37 (by decide) (⟨by omega, by omega⟩) (fun h5 => ?_) (fun h5 => ?_)
      · omega
      · refine lv_iconst (v := zI (0)) hx hb dX8_time_40 rfl ?_
        exact fin (ad, N, c4) c4 _ _ _ _ _ _ _ rfl ⟨rfl, hS4, fun q hq => ((fr4 q (by omega)).trans ((fr3 q (by omega)).trans rfl))⟩ w dX8_time_41 (Nat.le_refl _) (Nat.le_refl _)
    · omega

set_option maxHeartbeats 4000000 in
set_option maxRecDepth 100000 in
/-- X8_time_bad3 -/
theorem c_X8_time_bad3 (l : Launch) (D : va_G) (G : Nat → ClassId) (ad : Nat → Nat) (N : Nat) (c : Nat → va_E) {th lim : Int} {no dn : Nat} {gn : Nat → Nat} {gg : Nat → Nat → Nat} {dg nn : Nat → Nat} {pt ln : Nat → Nat → Nat} {wi : Nat → Nat → Int} (hN : 139 ≤ N) (hS : MS G ad c th lim no dn gn gg dg nn pt ln wi) (hV : SV lim no dn gn gg dg nn pt ln wi) {t i : Nat} (ht : t < 4) (hi : i < nn t) (hW : (TV lim no gn gg (nn t) (pt t) (ln t) (wi t)).2.1 = 0) : MC l yX8_time wsX8_time rm_X8_time [.ref (ad 120), .int (zI (t : Int)), .int (zI (i : Int))] D G ad N c (qI D G (fx ad N) (fun v c1 => v = zI 0 ∧ MS G ad c1 3 lim no dn gn gg dg nn pt ln wi ∧ ∀ q, (q < 120 ∨ 137 ≤ q) → c1 q = c q)) 0 0 := by
  refine MCi.of (cc := cX8_time) (maxL := 4) (by decide) rfl (Nat.le_of_ble_eq_true rfl) ?_
  intro p e s m args below meth kc A Q hx hb hts hown hml fin H locs w ls hl
  have hown : s.vm.findClass RX8 = some m.cls := hown
  have hl : lv_has ls 4 [(0, .ref (ad 120)), (1, .int (zI (t : Int))), (2, .int (zI (i : Int)))] := hl
  obtain ⟨⟨row, hm⟩, hh, hB, hDr, hMT, hMR⟩ := id hS
  obtain ⟨hlim, hOV, hdn4, hdg, hUV⟩ := id hV
  have hlb : bnd lim := ⟨by omega, by omega⟩
  have hno8 := hOV.1
  have hnt := (hUV t ht).1
  have hTV := TV_bd (lim := lim) hOV (hUV t ht)
  refine lv_aload_n hx hb dX8_time_0 rfl (lv_at hl 0 rfl) ?_
  refine lv_aload_n hx hb dX8_time_1 rfl (lv_at hl 0 rfl) ?_
  refine lv_iload_n hx hb dX8_time_2 rfl (lv_at hl 1 rfl) ?_
  refine lv_iload_n hx hb dX8_time_3 rfl (lv_at hl 1 rfl) ?_
  refine pw_ci w (pw_runS (As := [.int (zI (t : Int))]) (rest := [.int (zI (t : Int)), .ref (ad 120), .ref (ad 120)]) w ⟨hx, hb, hml, hown, hts⟩ (c_X8_isTune l D G ad N c (v := (t : Int)) ⟨by omega, by omega⟩) (va_cwS 1 hts gX8_time_X8_isTune rfl rfl rfl (by decide +kernel) ⟨Nat.le_of_ble_eq_true rfl, Nat.le_of_ble_eq_true rfl⟩) rfl hl.1 rfl (lv_room (Nat.le_of_ble_eq_true rfl)) dX8_time_4 ⟨Nat.le_of_ble_eq_true rfl, Nat.le_of_ble_eq_true rfl⟩) (fun r_ u H locs hp w => ?_)
  obtain ⟨hv, hu⟩ := hp
  subst hv
  have w : PW D G A s ad N c H locs := by rw [hu] at w; exact w
  clear hu
  refine pz_top (b := 1) (if_pos (by omega)) ?_
  refine pz_ifeq (tgt := 30) hx hb dX8_time_7 (by decide) (⟨by omega, by omega⟩) (fun h1 => ?_) (fun h1 => ?_)
  · omega
  · refine lv_iload_n hx hb dX8_time_10 rfl (lv_at hl 2 rfl) ?_
    refine lv_iconst (v := zI (0)) hx hb dX8_time_11 rfl ?_
    refine lv_aload_n hx hb dX8_time_12 rfl (lv_at hl 0 rfl) ?_
    refine pw_get (r := 120) (ci := 8) (C := RX8) (T := TX8) (Nf := 21) hx hb w hts hin_X8_time_8 hown (by omega) hm rfl 11 (by decide) (hts _ fl_X8_time_36) (fun _ h9 => h9) rfl dX8_time_13 ?_
    refine lv_iload_n hx hb dX8_time_16 rfl (lv_at hl 1 rfl) ?_
    refine pw_iald (r := 128) (j := t) hx hb w (by omega) hMT.2.2.2 (by omega) (by omega) (by decide) dX8_time_17 ?_
    refine lv_iconst (v := zI (1)) hx hb dX8_time_18 rfl ?_
    refine pz_isub hx hb dX8_time_19 ?_
    refine pw_ci w (pw_runS (As := [.int (zI (i : Int)), .int (zI 0), .int (zI (((fun t => (nn t : Int)) t) - 1))]) (rest := [.int (zI (t : Int)), .ref (ad 120), .ref (ad 120)]) w ⟨hx, hb, hml, hown, hts⟩ (c_X8_in l D G ad N c (v := (i : Int)) (lo := 0) (hi := ((nn t : Int) - 1)) ⟨by omega, by omega⟩ ⟨by omega, by omega⟩ ⟨by omega, by omega⟩) (va_cwS 3 hts gX8_time_X8_in rfl rfl rfl (by decide +kernel) ⟨Nat.le_of_ble_eq_true rfl, Nat.le_of_ble_eq_true rfl⟩) rfl hl.1 rfl (lv_room (Nat.le_of_ble_eq_true rfl)) dX8_time_20 ⟨Nat.le_of_ble_eq_true rfl, Nat.le_of_ble_eq_true rfl⟩) (fun r_ u H locs hp w => ?_)
    obtain ⟨hv, hu⟩ := hp
    subst hv
    have w : PW D G A s ad N c H locs := by rw [hu] at w; exact w
    clear hu
    refine pz_top (b := 1) (if_pos (by omega)) ?_
    refine pz_ifeq (tgt := 30) hx hb dX8_time_23 (by decide) (⟨by omega, by omega⟩) (fun h2 => ?_) (fun h2 => ?_)
    · omega
    · refine lv_iconst (v := zI (1)) hx hb dX8_time_26 rfl ?_
      refine lv_goto (tgt := 31) hx hb dX8_time_27 (by decide) ?_
      refine pw_ci w (pw_runV (r := 120) (ci := 8) (As := [.int (zI (t : Int)), .int (zI 1)]) (rest := [.ref (ad 120)]) w ⟨hx, hb, hml, hown, hts⟩ (c_X8_faultOf_ok l D G ad N c (t := t) (ip := 1) hN hS hV ht (Or.inr rfl)) (cwV 2 hts gX8_time_X8_faultOf rfl rfl rfl (by decide +kernel) ⟨Nat.le_of_ble_eq_true rfl, Nat.le_of_ble_eq_true rfl⟩) (by omega) hm rfl rfl hl.1 rfl (lv_room (Nat.le_of_ble_eq_true rfl)) dX8_time_31 ⟨Nat.le_of_ble_eq_true rfl, Nat.le_of_ble_eq_true rfl⟩) (fun r_ c3 H locs hp w => ?_)
      have w : PW D G A s ad N c3 H locs := w
      obtain ⟨hv3, hLd3, fr3⟩ := hp
      subst hv3
      have hS3 := hS.laid hLd3 fr3
      obtain ⟨-, hh, hB, hDr, hMT, hMR⟩ := id hS3
      refine pz_top (b := 3) (by rw [if_neg (by decide), if_pos hW]) ?_
      refine pw_ci w (pw_runV (r := 120) (ci := 8) (As := [.int (zI 3)]) (rest := []) w ⟨hx, hb, hml, hown, hts⟩ (c_X8_goesWell l D G ad N c3 (pl := 3) hN hLd3.1 ⟨by decide, by decide⟩) (cwV 1 hts gX8_time_X8_goesWell rfl rfl rfl (by decide +kernel) ⟨Nat.le_of_ble_eq_true rfl, Nat.le_of_ble_eq_true rfl⟩) (by omega) hLd3.1 rfl rfl hl.1 rfl (lv_room (Nat.le_of_ble_eq_true rfl)) dX8_time_34 ⟨Nat.le_of_ble_eq_true rfl, Nat.le_of_ble_eq_true rfl⟩) (fun r_ c4 H locs hp w => ?_)
      have w : PW D G A s ad N c4 H locs := w
      obtain ⟨hv4, hm4, fr4⟩ := hp
      subst hv4
      refine pz_top (b := 0) (if_neg (by omega)) ?_
      have hLd4 := hLd3.th hm4 fr4
      have hS4 := hS3.to hm4 fr4
      have hm := hm4
      obtain ⟨-, hh, hB, hDr, hMT, hMR⟩ := id hS4
      refine pz_ifne (tgt := 42) hx hb dX8_time_37 (by decide) (⟨by omega, by omega⟩) (fun h5 => ?_) (fun h5 => ?_)
      · omega
      · refine lv_iconst (v := zI (0)) hx hb dX8_time_40 rfl ?_
        exact fin (ad, N, c4) c4 _ _ _ _ _ _ _ rfl ⟨rfl, hS4, fun q hq => ((fr4 q (by omega)).trans ((fr3 q (by omega)).trans rfl))⟩ w dX8_time_41 (Nat.le_refl _) (Nat.le_refl _)

theorem fl_X8_time_105 : Cond.fieldLink RX8 105 "PipersDeskModel" "row" "I" ∈ wsX8_time := by decide +kernel
theorem fl_X8_time_42 : Cond.fieldLink RX8 42 "PipersDeskModel" "rowLengths" "[I" ∈ wsX8_time := by decide +kernel
set_option maxHeartbeats 4000000 in
set_option maxRecDepth 100000 in
/-- X8_time_last -/
theorem c_X8_time_last (l : Launch) (D : va_G) (G : Nat → ClassId) (ad : Nat → Nat) (N : Nat) (c : Nat → va_E) {th lim : Int} {no dn : Nat} {gn : Nat → Nat} {gg : Nat → Nat → Nat} {dg nn : Nat → Nat} {pt ln : Nat → Nat → Nat} {wi : Nat → Nat → Int} (hN : 139 ≤ N) (hS : MS G ad c th lim no dn gn gg dg nn pt ln wi) (hV : SV lim no dn gn gg dg nn pt ln wi) {t i : Nat} (ht : t < 4) (hi : i + 1 = nn t) (hW : ¬ (TV lim no gn gg (nn t) (pt t) (ln t) (wi t)).2.1 = 0) : MC l yX8_time wsX8_time rm_X8_time [.ref (ad 120), .int (zI (t : Int)), .int (zI (i : Int))] D G ad N c (qI D G (fx ad N) (fun v c1 => v = zI (ln t i : Int) ∧ MS G ad c1 0 lim no dn gn gg dg nn pt ln wi ∧ ∀ q, (q < 120 ∨ 137 ≤ q) → c1 q = c q)) 0 0 := by
  refine MCi.of (cc := cX8_time) (maxL := 4) (by decide) rfl (Nat.le_of_ble_eq_true rfl) ?_
  intro p e s m args below meth kc A Q hx hb hts hown hml fin H locs w ls hl
  have hown : s.vm.findClass RX8 = some m.cls := hown
  have hl : lv_has ls 4 [(0, .ref (ad 120)), (1, .int (zI (t : Int))), (2, .int (zI (i : Int)))] := hl
  obtain ⟨⟨row, hm⟩, hh, hB, hDr, hMT, hMR⟩ := id hS
  obtain ⟨hlim, hOV, hdn4, hdg, hUV⟩ := id hV
  have hlb : bnd lim := ⟨by omega, by omega⟩
  have hno8 := hOV.1
  have hnt := (hUV t ht).1
  have hTV := TV_bd (lim := lim) hOV (hUV t ht)
  refine lv_aload_n hx hb dX8_time_0 rfl (lv_at hl 0 rfl) ?_
  refine lv_aload_n hx hb dX8_time_1 rfl (lv_at hl 0 rfl) ?_
  refine lv_iload_n hx hb dX8_time_2 rfl (lv_at hl 1 rfl) ?_
  refine lv_iload_n hx hb dX8_time_3 rfl (lv_at hl 1 rfl) ?_
  refine pw_ci w (pw_runS (As := [.int (zI (t : Int))]) (rest := [.int (zI (t : Int)), .ref (ad 120), .ref (ad 120)]) w ⟨hx, hb, hml, hown, hts⟩ (c_X8_isTune l D G ad N c (v := (t : Int)) ⟨by omega, by omega⟩) (va_cwS 1 hts gX8_time_X8_isTune rfl rfl rfl (by decide +kernel) ⟨Nat.le_of_ble_eq_true rfl, Nat.le_of_ble_eq_true rfl⟩) rfl hl.1 rfl (lv_room (Nat.le_of_ble_eq_true rfl)) dX8_time_4 ⟨Nat.le_of_ble_eq_true rfl, Nat.le_of_ble_eq_true rfl⟩) (fun r_ u H locs hp w => ?_)
  obtain ⟨hv, hu⟩ := hp
  subst hv
  have w : PW D G A s ad N c H locs := by rw [hu] at w; exact w
  clear hu
  refine pz_top (b := 1) (if_pos (by omega)) ?_
  refine pz_ifeq (tgt := 30) hx hb dX8_time_7 (by decide) (⟨by omega, by omega⟩) (fun h1 => ?_) (fun h1 => ?_)
  · omega
  · refine lv_iload_n hx hb dX8_time_10 rfl (lv_at hl 2 rfl) ?_
    refine lv_iconst (v := zI (0)) hx hb dX8_time_11 rfl ?_
    refine lv_aload_n hx hb dX8_time_12 rfl (lv_at hl 0 rfl) ?_
    refine pw_get (r := 120) (ci := 8) (C := RX8) (T := TX8) (Nf := 21) hx hb w hts hin_X8_time_8 hown (by omega) hm rfl 11 (by decide) (hts _ fl_X8_time_36) (fun _ h9 => h9) rfl dX8_time_13 ?_
    refine lv_iload_n hx hb dX8_time_16 rfl (lv_at hl 1 rfl) ?_
    refine pw_iald (r := 128) (j := t) hx hb w (by omega) hMT.2.2.2 (by omega) (by omega) (by decide) dX8_time_17 ?_
    refine lv_iconst (v := zI (1)) hx hb dX8_time_18 rfl ?_
    refine pz_isub hx hb dX8_time_19 ?_
    refine pw_ci w (pw_runS (As := [.int (zI (i : Int)), .int (zI 0), .int (zI (((fun t => (nn t : Int)) t) - 1))]) (rest := [.int (zI (t : Int)), .ref (ad 120), .ref (ad 120)]) w ⟨hx, hb, hml, hown, hts⟩ (c_X8_in l D G ad N c (v := (i : Int)) (lo := 0) (hi := ((nn t : Int) - 1)) ⟨by omega, by omega⟩ ⟨by omega, by omega⟩ ⟨by omega, by omega⟩) (va_cwS 3 hts gX8_time_X8_in rfl rfl rfl (by decide +kernel) ⟨Nat.le_of_ble_eq_true rfl, Nat.le_of_ble_eq_true rfl⟩) rfl hl.1 rfl (lv_room (Nat.le_of_ble_eq_true rfl)) dX8_time_20 ⟨Nat.le_of_ble_eq_true rfl, Nat.le_of_ble_eq_true rfl⟩) (fun r_ u H locs hp w => ?_)
    obtain ⟨hv, hu⟩ := hp
    subst hv
    have w : PW D G A s ad N c H locs := by rw [hu] at w; exact w
    clear hu
    refine pz_top (b := 1) (if_pos (by omega)) ?_
    refine pz_ifeq (tgt := 30) hx hb dX8_time_23 (by decide) (⟨by omega, by omega⟩) (fun h2 => ?_) (fun h2 => ?_)
    · omega
    · refine lv_iconst (v := zI (1)) hx hb dX8_time_26 rfl ?_
      refine lv_goto (tgt := 31) hx hb dX8_time_27 (by decide) ?_
      refine pw_ci w (pw_runV (r := 120) (ci := 8) (As := [.int (zI (t : Int)), .int (zI 1)]) (rest := [.ref (ad 120)]) w ⟨hx, hb, hml, hown, hts⟩ (c_X8_faultOf_ok l D G ad N c (t := t) (ip := 1) hN hS hV ht (Or.inr rfl)) (cwV 2 hts gX8_time_X8_faultOf rfl rfl rfl (by decide +kernel) ⟨Nat.le_of_ble_eq_true rfl, Nat.le_of_ble_eq_true rfl⟩) (by omega) hm rfl rfl hl.1 rfl (lv_room (Nat.le_of_ble_eq_true rfl)) dX8_time_31 ⟨Nat.le_of_ble_eq_true rfl, Nat.le_of_ble_eq_true rfl⟩) (fun r_ c3 H locs hp w => ?_)
      have w : PW D G A s ad N c3 H locs := w
      obtain ⟨hv3, hLd3, fr3⟩ := hp
      subst hv3
      have hS3 := hS.laid hLd3 fr3
      obtain ⟨-, hh, hB, hDr, hMT, hMR⟩ := id hS3
      refine pz_top (b := 0) (by rw [if_neg (by decide), if_neg hW]) ?_
      refine pw_ci w (pw_runV (r := 120) (ci := 8) (As := [.int (zI 0)]) (rest := []) w ⟨hx, hb, hml, hown, hts⟩ (c_X8_goesWell l D G ad N c3 (pl := 0) hN hLd3.1 ⟨by decide, by decide⟩) (cwV 1 hts gX8_time_X8_goesWell rfl rfl rfl (by decide +kernel) ⟨Nat.le_of_ble_eq_true rfl, Nat.le_of_ble_eq_true rfl⟩) (by omega) hLd3.1 rfl rfl hl.1 rfl (lv_room (Nat.le_of_ble_eq_true rfl)) dX8_time_34 ⟨Nat.le_of_ble_eq_true rfl, Nat.le_of_ble_eq_true rfl⟩) (fun r_ c4 H locs hp w => ?_)
      have w : PW D G A s ad N c4 H locs := w
      obtain ⟨hv4, hm4, fr4⟩ := hp
      subst hv4
      refine pz_top (b := 1) (if_pos (by omega)) ?_
      have hLd4 := hLd3.th hm4 fr4
      have hS4 := hS3.to hm4 fr4
      have hm := hm4
      obtain ⟨-, hh, hB, hDr, hMT, hMR⟩ := id hS4
      obtain ⟨⟨gL, l1, eL⟩, ⟨gW, l2, eW⟩, gM, l3, eM⟩ := hLd4.v
      refine pz_ifne (tgt := 42) hx hb dX8_time_37 (by decide) (⟨by omega, by omega⟩) (fun h5 => ?_) (fun h5 => ?_)
      · refine lv_iload_n hx hb dX8_time_42 rfl (lv_at hl 2 rfl) ?_
        refine lv_iconst (v := zI (1)) hx hb dX8_time_43 rfl ?_
        refine pz_iadd hx hb dX8_time_44 ?_
        refine lv_aload_n hx hb dX8_time_45 rfl (lv_at hl 0 rfl) ?_
        refine pw_get (r := 120) (ci := 8) (C := RX8) (T := TX8) (Nf := 21) hx hb w hts hin_X8_time_8 hown (by omega) hm rfl 15 (by decide) (hts _ fl_X8_time_105) (fun _ h9 => h9) rfl dX8_time_46 ?_
        obtain ⟨-, ⟨gl9, r2, r2p⟩, -⟩ := hLd4.2.1
        refine pz_icmpge (tgt := 60) hx hb dX8_time_49 (by decide) (⟨by omega, by omega⟩) (⟨by omega, by omega⟩) (fun h6 => ?_) (fun h6 => ?_)
        · refine lv_iconst (v := zI (-1)) hx hb dX8_time_60 rfl ?_
          refine lv_istore_n (lv' := [(3, .int (zI (-1))), (0, .ref (ad 120)), (1, .int (zI (t : Int))), (2, .int (zI (i : Int)))]) hx hb dX8_time_61 rfl hl (by decide) rfl (fun ls hl => ?_)
          refine lv_aload_n hx hb dX8_time_62 rfl (lv_at hl 1 rfl) ?_
          refine pw_get (r := 120) (ci := 8) (C := RX8) (T := TX8) (Nf := 21) hx hb w hts hin_X8_time_8 hown (by omega) hm rfl 13 (by decide) (hts _ fl_X8_time_42) (fun _ h9 => h9) rfl dX8_time_63 ?_
          refine lv_iload_n hx hb dX8_time_66 rfl (lv_at hl 3 rfl) ?_
          refine pw_iald (r := 130) (j := i) hx hb w (by omega) r2 (by omega) (by omega) (by decide) dX8_time_67 ?_
          refine pz_top (b := (ln t i : Int)) (r2p i (by omega)) ?_
          refine lv_iload_n hx hb dX8_time_68 rfl (lv_at hl 0 rfl) ?_
          refine lv_iconst (v := zI (-1)) hx hb dX8_time_69 rfl ?_
          refine pz_icmpne (tgt := 77) hx hb dX8_time_70 (by decide) (⟨by omega, by omega⟩) (⟨by omega, by omega⟩) (fun h7 => ?_) (fun h7 => ?_)
          · omega
          · refine lv_iconst (v := zI (0)) hx hb dX8_time_73 rfl ?_
            refine lv_goto (tgt := 83) hx hb dX8_time_74 (by decide) ?_
            refine pz_isub hx hb dX8_time_83 ?_
            refine pz_top (b := (ln t i : Int)) (by omega) ?_
            exact fin (ad, N, c4) c4 _ _ _ _ _ _ _ rfl ⟨rfl, hS4, fun q hq => ((fr4 q (by omega)).trans ((fr3 q (by omega)).trans rfl))⟩ w dX8_time_84 (Nat.le_refl _) (Nat.le_refl _)
        · omega
      · omega

theorem fl_X8_time_20 : Cond.fieldLink RX8 20 "PipersDeskModel" "graceMany" "[I" ∈ wsX8_time := by decide +kernel
set_option maxHeartbeats 4000000 in
set_option maxRecDepth 100000 in
/-- X8_time_ok -/
theorem c_X8_time_ok (l : Launch) (D : va_G) (G : Nat → ClassId) (ad : Nat → Nat) (N : Nat) (c : Nat → va_E) {th lim : Int} {no dn : Nat} {gn : Nat → Nat} {gg : Nat → Nat → Nat} {dg nn : Nat → Nat} {pt ln : Nat → Nat → Nat} {wi : Nat → Nat → Int} (hN : 139 ≤ N) (hS : MS G ad c th lim no dn gn gg dg nn pt ln wi) (hV : SV lim no dn gn gg dg nn pt ln wi) {t i : Nat} (ht : t < 4) (hi : i + 1 < nn t) (hW : ¬ (TV lim no gn gg (nn t) (pt t) (ln t) (wi t)).2.1 = 0) {ch : Nat → Nat} (hch0 : ch 0 = 0) (hch : ∀ j, j ≤ i → ch j < 9 ∧ ch (j + 1) ≤ no ∧ isF (atc lim gn gg (pt t) (ln t) (rwT (nn t) (wi t))) no (nn t - 1) j (ch j) (ch (j + 1)) ∧ ∀ o, o < ch (j + 1) → ¬ isF (atc lim gn gg (pt t) (ln t) (rwT (nn t) (wi t))) no (nn t - 1) j (ch j) o) : MC l yX8_time wsX8_time rm_X8_time [.ref (ad 120), .int (zI (t : Int)), .int (zI (i : Int))] D G ad N c (qI D G (fx ad N) (fun v c1 => v = zI ((ln t i : Int) - (if ch (i + 1) = 0 then 0 else (gn (ch (i + 1) - 1) : Int))) ∧ MS G ad c1 0 lim no dn gn gg dg nn pt ln wi ∧ ∀ q, (q < 120 ∨ 137 ≤ q) → c1 q = c q)) 0 0 := by
  refine MCi.of (cc := cX8_time) (maxL := 4) (by decide) rfl (Nat.le_of_ble_eq_true rfl) ?_
  intro p e s m args below meth kc A Q hx hb hts hown hml fin H locs w ls hl
  have hown : s.vm.findClass RX8 = some m.cls := hown
  have hl : lv_has ls 4 [(0, .ref (ad 120)), (1, .int (zI (t : Int))), (2, .int (zI (i : Int)))] := hl
  obtain ⟨⟨row, hm⟩, hh, hB, hDr, hMT, hMR⟩ := id hS
  obtain ⟨hlim, hOV, hdn4, hdg, hUV⟩ := id hV
  have hlb : bnd lim := ⟨by omega, by omega⟩
  have hno8 := hOV.1
  have hnt := (hUV t ht).1
  have hTV := TV_bd (lim := lim) hOV (hUV t ht)
  refine lv_aload_n hx hb dX8_time_0 rfl (lv_at hl 0 rfl) ?_
  refine lv_aload_n hx hb dX8_time_1 rfl (lv_at hl 0 rfl) ?_
  refine lv_iload_n hx hb dX8_time_2 rfl (lv_at hl 1 rfl) ?_
  refine lv_iload_n hx hb dX8_time_3 rfl (lv_at hl 1 rfl) ?_
  refine pw_ci w (pw_runS (As := [.int (zI (t : Int))]) (rest := [.int (zI (t : Int)), .ref (ad 120), .ref (ad 120)]) w ⟨hx, hb, hml, hown, hts⟩ (c_X8_isTune l D G ad N c (v := (t : Int)) ⟨by omega, by omega⟩) (va_cwS 1 hts gX8_time_X8_isTune rfl rfl rfl (by decide +kernel) ⟨Nat.le_of_ble_eq_true rfl, Nat.le_of_ble_eq_true rfl⟩) rfl hl.1 rfl (lv_room (Nat.le_of_ble_eq_true rfl)) dX8_time_4 ⟨Nat.le_of_ble_eq_true rfl, Nat.le_of_ble_eq_true rfl⟩) (fun r_ u H locs hp w => ?_)
  obtain ⟨hv, hu⟩ := hp
  subst hv
  have w : PW D G A s ad N c H locs := by rw [hu] at w; exact w
  clear hu
  refine pz_top (b := 1) (if_pos (by omega)) ?_
  refine pz_ifeq (tgt := 30) hx hb dX8_time_7 (by decide) (⟨by omega, by omega⟩) (fun h1 => ?_) (fun h1 => ?_)
  · omega
  · refine lv_iload_n hx hb dX8_time_10 rfl (lv_at hl 2 rfl) ?_
    refine lv_iconst (v := zI (0)) hx hb dX8_time_11 rfl ?_
    refine lv_aload_n hx hb dX8_time_12 rfl (lv_at hl 0 rfl) ?_
    refine pw_get (r := 120) (ci := 8) (C := RX8) (T := TX8) (Nf := 21) hx hb w hts hin_X8_time_8 hown (by omega) hm rfl 11 (by decide) (hts _ fl_X8_time_36) (fun _ h9 => h9) rfl dX8_time_13 ?_
    refine lv_iload_n hx hb dX8_time_16 rfl (lv_at hl 1 rfl) ?_
    refine pw_iald (r := 128) (j := t) hx hb w (by omega) hMT.2.2.2 (by omega) (by omega) (by decide) dX8_time_17 ?_
    refine lv_iconst (v := zI (1)) hx hb dX8_time_18 rfl ?_
    refine pz_isub hx hb dX8_time_19 ?_
    refine pw_ci w (pw_runS (As := [.int (zI (i : Int)), .int (zI 0), .int (zI (((fun t => (nn t : Int)) t) - 1))]) (rest := [.int (zI (t : Int)), .ref (ad 120), .ref (ad 120)]) w ⟨hx, hb, hml, hown, hts⟩ (c_X8_in l D G ad N c (v := (i : Int)) (lo := 0) (hi := ((nn t : Int) - 1)) ⟨by omega, by omega⟩ ⟨by omega, by omega⟩ ⟨by omega, by omega⟩) (va_cwS 3 hts gX8_time_X8_in rfl rfl rfl (by decide +kernel) ⟨Nat.le_of_ble_eq_true rfl, Nat.le_of_ble_eq_true rfl⟩) rfl hl.1 rfl (lv_room (Nat.le_of_ble_eq_true rfl)) dX8_time_20 ⟨Nat.le_of_ble_eq_true rfl, Nat.le_of_ble_eq_true rfl⟩) (fun r_ u H locs hp w => ?_)
    obtain ⟨hv, hu⟩ := hp
    subst hv
    have w : PW D G A s ad N c H locs := by rw [hu] at w; exact w
    clear hu
    refine pz_top (b := 1) (if_pos (by omega)) ?_
    refine pz_ifeq (tgt := 30) hx hb dX8_time_23 (by decide) (⟨by omega, by omega⟩) (fun h2 => ?_) (fun h2 => ?_)
    · omega
    · refine lv_iconst (v := zI (1)) hx hb dX8_time_26 rfl ?_
      refine lv_goto (tgt := 31) hx hb dX8_time_27 (by decide) ?_
      refine pw_ci w (pw_runV (r := 120) (ci := 8) (As := [.int (zI (t : Int)), .int (zI 1)]) (rest := [.ref (ad 120)]) w ⟨hx, hb, hml, hown, hts⟩ (c_X8_faultOf_ok l D G ad N c (t := t) (ip := 1) hN hS hV ht (Or.inr rfl)) (cwV 2 hts gX8_time_X8_faultOf rfl rfl rfl (by decide +kernel) ⟨Nat.le_of_ble_eq_true rfl, Nat.le_of_ble_eq_true rfl⟩) (by omega) hm rfl rfl hl.1 rfl (lv_room (Nat.le_of_ble_eq_true rfl)) dX8_time_31 ⟨Nat.le_of_ble_eq_true rfl, Nat.le_of_ble_eq_true rfl⟩) (fun r_ c3 H locs hp w => ?_)
      have w : PW D G A s ad N c3 H locs := w
      obtain ⟨hv3, hLd3, fr3⟩ := hp
      subst hv3
      have hS3 := hS.laid hLd3 fr3
      obtain ⟨-, hh, hB, hDr, hMT, hMR⟩ := id hS3
      refine pz_top (b := 0) (by rw [if_neg (by decide), if_neg hW]) ?_
      refine pw_ci w (pw_runV (r := 120) (ci := 8) (As := [.int (zI 0)]) (rest := []) w ⟨hx, hb, hml, hown, hts⟩ (c_X8_goesWell l D G ad N c3 (pl := 0) hN hLd3.1 ⟨by decide, by decide⟩) (cwV 1 hts gX8_time_X8_goesWell rfl rfl rfl (by decide +kernel) ⟨Nat.le_of_ble_eq_true rfl, Nat.le_of_ble_eq_true rfl⟩) (by omega) hLd3.1 rfl rfl hl.1 rfl (lv_room (Nat.le_of_ble_eq_true rfl)) dX8_time_34 ⟨Nat.le_of_ble_eq_true rfl, Nat.le_of_ble_eq_true rfl⟩) (fun r_ c4 H locs hp w => ?_)
      have w : PW D G A s ad N c4 H locs := w
      obtain ⟨hv4, hm4, fr4⟩ := hp
      subst hv4
      refine pz_top (b := 1) (if_pos (by omega)) ?_
      have hLd4 := hLd3.th hm4 fr4
      have hS4 := hS3.to hm4 fr4
      have hm := hm4
      obtain ⟨-, hh, hB, hDr, hMT, hMR⟩ := id hS4
      obtain ⟨⟨gL, l1, eL⟩, ⟨gW, l2, eW⟩, gM, l3, eM⟩ := hLd4.v
      refine pz_ifne (tgt := 42) hx hb dX8_time_37 (by decide) (⟨by omega, by omega⟩) (fun h5 => ?_) (fun h5 => ?_)
      · refine lv_iload_n hx hb dX8_time_42 rfl (lv_at hl 2 rfl) ?_
        refine lv_iconst (v := zI (1)) hx hb dX8_time_43 rfl ?_
        refine pz_iadd hx hb dX8_time_44 ?_
        refine lv_aload_n hx hb dX8_time_45 rfl (lv_at hl 0 rfl) ?_
        refine pw_get (r := 120) (ci := 8) (C := RX8) (T := TX8) (Nf := 21) hx hb w hts hin_X8_time_8 hown (by omega) hm rfl 15 (by decide) (hts _ fl_X8_time_105) (fun _ h9 => h9) rfl dX8_time_46 ?_
        refine pz_icmpge (tgt := 60) hx hb dX8_time_49 (by decide) (⟨by omega, by omega⟩) (⟨by omega, by omega⟩) (fun h6 => ?_) (fun h6 => ?_)
        · omega
        · refine lv_aload_n hx hb dX8_time_52 rfl (lv_at hl 0 rfl) ?_
          refine lv_iload_n hx hb dX8_time_53 rfl (lv_at hl 2 rfl) ?_
          refine pw_ci w (pw_runV (r := 120) (ci := 8) (As := [.int (zI (i : Int))]) (rest := []) w ⟨hx, hb, hml, hown, hts⟩ (c_X8_chosenAt l D G ad N c4 (gp := i) (ch := ch) (g9 := nn t - 1) hN hLd4.1 hh hlb hB hOV hLd4.2.1 (rwT_V (hUV t ht)) rfl (by omega) hLd4.2.2 (by omega) hch0 hch) (cwV 1 hts gX8_time_X8_chosenAt rfl rfl rfl (by decide +kernel) ⟨Nat.le_of_ble_eq_true rfl, Nat.le_of_ble_eq_true rfl⟩) (by omega) hm rfl rfl hl.1 rfl (lv_room (Nat.le_of_ble_eq_true rfl)) dX8_time_54 ⟨Nat.le_of_ble_eq_true rfl, Nat.le_of_ble_eq_true rfl⟩) (fun r_ u H locs hp w => ?_)
          obtain ⟨hv, hu⟩ := hp
          subst hv
          have w : PW D G A s ad N c4 H locs := by rw [hu] at w; exact w
          clear hu
          obtain ⟨-, ⟨gl9, r2, r2p⟩, -⟩ := hLd4.2.1
          have hci := hch i (Nat.le_refl _)
          have hno8 := hOV.1
          obtain ⟨-, g3, b3, b3p⟩ := id hB
          refine lv_goto (tgt := 61) hx hb dX8_time_57 (by decide) ?_
          refine lv_istore_n (lv' := [(3, .int (zI ((ch (i + 1) : Int) - 1))), (0, .ref (ad 120)), (1, .int (zI (t : Int))), (2, .int (zI (i : Int)))]) hx hb dX8_time_61 rfl hl (by decide) rfl (fun ls hl => ?_)
          refine lv_aload_n hx hb dX8_time_62 rfl (lv_at hl 1 rfl) ?_
          refine pw_get (r := 120) (ci := 8) (C := RX8) (T := TX8) (Nf := 21) hx hb w hts hin_X8_time_8 hown (by omega) hm rfl 13 (by decide) (hts _ fl_X8_time_42) (fun _ h9 => h9) rfl dX8_time_63 ?_
          refine lv_iload_n hx hb dX8_time_66 rfl (lv_at hl 3 rfl) ?_
          refine pw_iald (r := 130) (j := i) hx hb w (by omega) r2 (by omega) (by omega) (by decide) dX8_time_67 ?_
          refine pz_top (b := (ln t i : Int)) (r2p i (by omega)) ?_
          refine lv_iload_n hx hb dX8_time_68 rfl (lv_at hl 0 rfl) ?_
          refine lv_iconst (v := zI (-1)) hx hb dX8_time_69 rfl ?_
          refine pz_icmpne (tgt := 77) hx hb dX8_time_70 (by decide) (⟨by omega, by omega⟩) (⟨by omega, by omega⟩) (fun h7 => ?_) (fun h7 => ?_)
          · have h0 : ¬ ch (i + 1) = 0 := by omega
            have e3 := b3p (ch (i + 1) - 1) (by omega)
            refine lv_aload_n hx hb dX8_time_77 rfl (lv_at hl 1 rfl) ?_
            refine pw_get (r := 120) (ci := 8) (C := RX8) (T := TX8) (Nf := 21) hx hb w hts hin_X8_time_8 hown (by omega) hm rfl 4 (by decide) (hts _ fl_X8_time_20) (fun _ h9 => h9) rfl dX8_time_78 ?_
            refine lv_iload_n hx hb dX8_time_81 rfl (lv_at hl 0 rfl) ?_
            refine pw_iald (r := 123) (j := (ch (i + 1) - 1)) hx hb w (by omega) b3 (by omega) (by omega) (by decide) dX8_time_82 ?_
            refine pz_top (b := (gn (ch (i + 1) - 1) : Int)) (e3) ?_
            refine pz_isub hx hb dX8_time_83 ?_
            refine pz_top (b := ((ln t i : Int) - (if ch (i + 1) = 0 then 0 else (gn (ch (i + 1) - 1) : Int)))) (by rw [if_neg h0]) ?_
            exact fin (ad, N, c4) c4 _ _ _ _ _ _ _ rfl ⟨rfl, hS4, fun q hq => ((fr4 q (by omega)).trans ((fr3 q (by omega)).trans rfl))⟩ w dX8_time_84 (Nat.le_refl _) (Nat.le_refl _)
          · have h0 : ch (i + 1) = 0 := by omega
            refine lv_iconst (v := zI (0)) hx hb dX8_time_73 rfl ?_
            refine lv_goto (tgt := 83) hx hb dX8_time_74 (by decide) ?_
            refine pz_isub hx hb dX8_time_83 ?_
            refine pz_top (b := ((ln t i : Int) - (if ch (i + 1) = 0 then 0 else (gn (ch (i + 1) - 1) : Int)))) (by rw [if_pos h0]) ?_
            exact fin (ad, N, c4) c4 _ _ _ _ _ _ _ rfl ⟨rfl, hS4, fun q hq => ((fr4 q (by omega)).trans ((fr3 q (by omega)).trans rfl))⟩ w dX8_time_84 (Nat.le_refl _) (Nat.le_refl _)
      · omega

abbrev rm_X8_fitting : Room := { frames := 9, cells := 0, slots := 0, locals := 270 }
set_option maxHeartbeats 4000000 in
set_option maxRecDepth 100000 in
/-- X8_fitting_bad1 -/
theorem c_X8_fitting_bad1 (l : Launch) (D : va_G) (G : Nat → ClassId) (ad : Nat → Nat) (N : Nat) (c : Nat → va_E) {th lim : Int} {no dn : Nat} {gn : Nat → Nat} {gg : Nat → Nat → Nat} {dg nn : Nat → Nat} {pt ln : Nat → Nat → Nat} {wi : Nat → Nat → Int} (hN : 139 ≤ N) (hS : MS G ad c th lim no dn gn gg dg nn pt ln wi) (hV : SV lim no dn gn gg dg nn pt ln wi) {zt : Int} (hbzt : bnd zt) (hbad : ¬ (0 ≤ zt ∧ zt ≤ 3)) {zi : Int} : MC l yX8_fitting wsX8_fitting rm_X8_fitting [.ref (ad 120), .int (zI zt), .int (zI zi)] D G ad N c (qI D G (fx ad N) (fun v c1 => v = zI 0 ∧ MS G ad c1 1 lim no dn gn gg dg nn pt ln wi ∧ ∀ q, (q < 120 ∨ 137 ≤ q) → c1 q = c q)) 0 0 := by
  refine MCi.of (cc := cX8_fitting) (maxL := 5) (by decide) rfl (Nat.le_of_ble_eq_true rfl) ?_
  intro p e s m args below meth kc A Q hx hb hts hown hml fin H locs w ls hl
  have hown : s.vm.findClass RX8 = some m.cls := hown
  have hl : lv_has ls 5 [(0, .ref (ad 120)), (1, .int (zI zt)), (2, .int (zI zi))] := hl
  obtain ⟨⟨row, hm⟩, hh, hB, hDr, hMT, hMR⟩ := id hS
  obtain ⟨hlim, hOV, hdn4, hdg, hUV⟩ := id hV
  have hlb : bnd lim := ⟨by omega, by omega⟩
  have hno8 := hOV.1
  have hbzt1 := hbzt.1
  have hbzt2 := hbzt.2
  refine lv_aload_n hx hb dX8_fitting_0 rfl (lv_at hl 0 rfl) ?_
  refine lv_iload_n hx hb dX8_fitting_1 rfl (lv_at hl 1 rfl) ?_
  refine pw_ci w (pw_runS (As := [.int (zI zt)]) (rest := [.ref (ad 120)]) w ⟨hx, hb, hml, hown, hts⟩ (c_X8_isTune l D G ad N c (v := zt) ⟨by omega, by omega⟩) (va_cwS 1 hts gX8_fitting_X8_isTune rfl rfl rfl (by decide +kernel) ⟨Nat.le_of_ble_eq_true rfl, Nat.le_of_ble_eq_true rfl⟩) rfl hl.1 rfl (lv_room (Nat.le_of_ble_eq_true rfl)) dX8_fitting_2 ⟨Nat.le_of_ble_eq_true rfl, Nat.le_of_ble_eq_true rfl⟩) (fun r_ u H locs hp w => ?_)
  obtain ⟨hv, hu⟩ := hp
  subst hv
  have w : PW D G A s ad N c H locs := by rw [hu] at w; exact w
  clear hu
  refine pz_top (b := 0) (if_neg (by omega)) ?_
  refine pz_ifne (tgt := 12) hx hb dX8_fitting_5 (by decide) (⟨by omega, by omega⟩) (fun h1 => ?_) (fun h1 => ?_)
  · omega
  · refine lv_iconst (v := zI (1)) hx hb dX8_fitting_8 rfl ?_
    refine lv_goto (tgt := 26) hx hb dX8_fitting_9 (by decide) ?_
    refine pw_ci w (pw_runV (r := 120) (ci := 8) (As := [.int (zI 1)]) (rest := []) w ⟨hx, hb, hml, hown, hts⟩ (c_X8_goesWell l D G ad N c (pl := 1) hN hm ⟨by decide, by decide⟩) (cwV 1 hts gX8_fitting_X8_goesWell rfl rfl rfl (by decide +kernel) ⟨Nat.le_of_ble_eq_true rfl, Nat.le_of_ble_eq_true rfl⟩) (by omega) hm rfl rfl hl.1 rfl (lv_room (Nat.le_of_ble_eq_true rfl)) dX8_fitting_26 ⟨Nat.le_of_ble_eq_true rfl, Nat.le_of_ble_eq_true rfl⟩) (fun r_ c2 H locs hp w => ?_)
    have w : PW D G A s ad N c2 H locs := w
    obtain ⟨hv2, hm2, fr2⟩ := hp
    subst hv2
    refine pz_top (b := 0) (if_neg (by omega)) ?_
    have hS2 := hS.to hm2 fr2
    have hm := hm2
    obtain ⟨-, hh, hB, hDr, hMT, hMR⟩ := id hS2
    refine pz_ifne (tgt := 34) hx hb dX8_fitting_29 (by decide) (⟨by omega, by omega⟩) (fun h3 => ?_) (fun h3 => ?_)
    · omega
    · refine lv_iconst (v := zI (0)) hx hb dX8_fitting_32 rfl ?_
      exact fin (ad, N, c2) c2 _ _ _ _ _ _ _ rfl ⟨rfl, hS2, fun q hq => ((fr2 q (by omega)).trans rfl)⟩ w dX8_fitting_33 (Nat.le_refl _) (Nat.le_refl _)

set_option maxHeartbeats 4000000 in
set_option maxRecDepth 100000 in
/-- X8_fitting_bad2 -/
theorem c_X8_fitting_bad2 (l : Launch) (D : va_G) (G : Nat → ClassId) (ad : Nat → Nat) (N : Nat) (c : Nat → va_E) {th lim : Int} {no dn : Nat} {gn : Nat → Nat} {gg : Nat → Nat → Nat} {dg nn : Nat → Nat} {pt ln : Nat → Nat → Nat} {wi : Nat → Nat → Int} (hN : 139 ≤ N) (hS : MS G ad c th lim no dn gn gg dg nn pt ln wi) (hV : SV lim no dn gn gg dg nn pt ln wi) {t : Nat} (ht : t < 4) {zi : Int} (hbzi : bnd zi) (hbad : ¬ (0 ≤ zi ∧ zi ≤ (nn t : Int) - 2)) : MC l yX8_fitting wsX8_fitting rm_X8_fitting [.ref (ad 120), .int (zI (t : Int)), .int (zI zi)] D G ad N c (qI D G (fx ad N) (fun v c1 => v = zI 0 ∧ MS G ad c1 2 lim no dn gn gg dg nn pt ln wi ∧ ∀ q, (q < 120 ∨ 137 ≤ q) → c1 q = c q)) 0 0 := by
  refine MCi.of (cc := cX8_fitting) (maxL := 5) (by decide) rfl (Nat.le_of_ble_eq_true rfl) ?_
  intro p e s m args below meth kc A Q hx hb hts hown hml fin H locs w ls hl
  have hown : s.vm.findClass RX8 = some m.cls := hown
  have hl : lv_has ls 5 [(0, .ref (ad 120)), (1, .int (zI (t : Int))), (2, .int (zI zi))] := hl
  obtain ⟨⟨row, hm⟩, hh, hB, hDr, hMT, hMR⟩ := id hS
  obtain ⟨hlim, hOV, hdn4, hdg, hUV⟩ := id hV
  have hlb : bnd lim := ⟨by omega, by omega⟩
  have hno8 := hOV.1
  have hnt := (hUV t ht).1
  have hTV := TV_bd (lim := lim) hOV (hUV t ht)
  have hbzi1 := hbzi.1
  have hbzi2 := hbzi.2
  refine lv_aload_n hx hb dX8_fitting_0 rfl (lv_at hl 0 rfl) ?_
  refine lv_iload_n hx hb dX8_fitting_1 rfl (lv_at hl 1 rfl) ?_
  refine pw_ci w (pw_runS (As := [.int (zI (t : Int))]) (rest := [.ref (ad 120)]) w ⟨hx, hb, hml, hown, hts⟩ (c_X8_isTune l D G ad N c (v := (t : Int)) ⟨by omega, by omega⟩) (va_cwS 1 hts gX8_fitting_X8_isTune rfl rfl rfl (by decide +kernel) ⟨Nat.le_of_ble_eq_true rfl, Nat.le_of_ble_eq_true rfl⟩) rfl hl.1 rfl (lv_room (Nat.le_of_ble_eq_true rfl)) dX8_fitting_2 ⟨Nat.le_of_ble_eq_true rfl, Nat.le_of_ble_eq_true rfl⟩) (fun r_ u H locs hp w => ?_)
  obtain ⟨hv, hu⟩ := hp
  subst hv
  have w : PW D G A s ad N c H locs := by rw [hu] at w; exact w
  clear hu
  refine pz_top (b := 1) (if_pos (by omega)) ?_
  refine pz_ifne (tgt := 12) hx hb dX8_fitting_5 (by decide) (⟨by omega, by omega⟩) (fun h1 => ?_) (fun h1 => ?_)
  · refine lv_aload_n hx hb dX8_fitting_12 rfl (lv_at hl 0 rfl) ?_
    refine lv_iload_n hx hb dX8_fitting_13 rfl (lv_at hl 1 rfl) ?_
    refine lv_iload_n hx hb dX8_fitting_14 rfl (lv_at hl 2 rfl) ?_
    refine pw_ci w (pw_runV (r := 120) (ci := 8) (As := [.int (zI (t : Int)), .int (zI zi)]) (rest := [.ref (ad 120)]) w ⟨hx, hb, hml, hown, hts⟩ (c_X8_isGap l D G ad N c (t := t) (z := zi) hN hm hMT hUV (by omega) ⟨by omega, by omega⟩) (cwV 2 hts gX8_fitting_X8_isGap rfl rfl rfl (by decide +kernel) ⟨Nat.le_of_ble_eq_true rfl, Nat.le_of_ble_eq_true rfl⟩) (by omega) hm rfl rfl hl.1 rfl (lv_room (Nat.le_of_ble_eq_true rfl)) dX8_fitting_15 ⟨Nat.le_of_ble_eq_true rfl, Nat.le_of_ble_eq_true rfl⟩) (fun r_ u H locs hp w => ?_)
    obtain ⟨hv, hu⟩ := hp
    subst hv
    have w : PW D G A s ad N c H locs := by rw [hu] at w; exact w
    clear hu
    refine pz_top (b := 0) (if_neg (by omega)) ?_
    refine pz_ifeq (tgt := 25) hx hb dX8_fitting_18 (by decide) (⟨by omega, by omega⟩) (fun h2 => ?_) (fun h2 => ?_)
    · refine lv_iconst (v := zI (2)) hx hb dX8_fitting_25 rfl ?_
      refine pw_ci w (pw_runV (r := 120) (ci := 8) (As := [.int (zI 2)]) (rest := []) w ⟨hx, hb, hml, hown, hts⟩ (c_X8_goesWell l D G ad N c (pl := 2) hN hm ⟨by decide, by decide⟩) (cwV 1 hts gX8_fitting_X8_goesWell rfl rfl rfl (by decide +kernel) ⟨Nat.le_of_ble_eq_true rfl, Nat.le_of_ble_eq_true rfl⟩) (by omega) hm rfl rfl hl.1 rfl (lv_room (Nat.le_of_ble_eq_true rfl)) dX8_fitting_26 ⟨Nat.le_of_ble_eq_true rfl, Nat.le_of_ble_eq_true rfl⟩) (fun r_ c3 H locs hp w => ?_)
      have w : PW D G A s ad N c3 H locs := w
      obtain ⟨hv3, hm3, fr3⟩ := hp
      subst hv3
      refine pz_top (b := 0) (if_neg (by omega)) ?_
      have hS3 := hS.to hm3 fr3
      have hm := hm3
      obtain ⟨-, hh, hB, hDr, hMT, hMR⟩ := id hS3
      refine pz_ifne (tgt := 34) hx hb dX8_fitting_29 (by decide) (⟨by omega, by omega⟩) (fun h4 => ?_) (fun h4 => ?_)
      · omega
      · refine lv_iconst (v := zI (0)) hx hb dX8_fitting_32 rfl ?_
        exact fin (ad, N, c3) c3 _ _ _ _ _ _ _ rfl ⟨rfl, hS3, fun q hq => ((fr3 q (by omega)).trans rfl)⟩ w dX8_fitting_33 (Nat.le_refl _) (Nat.le_refl _)
    · omega
  · omega

theorem sumU_01 {f : Nat → Int} (h : ∀ i, 0 ≤ f i ∧ f i ≤ 1) : ∀ n, 0 ≤ sumU f n ∧ sumU f n ≤ n
  | 0 => ⟨Int.le_refl 0, Int.le_refl 0⟩
  | n + 1 => by
    have := sumU_01 h n
    have := h n
    unfold sumU
    omega

theorem hin_X8_fitting_8 : ∀ w ∈ u_ws RX8 TX8 21, w ∈ wsX8_fitting := by decide +kernel
theorem fl_X8_fitting_88 : Cond.fieldLink RX8 88 "PipersDeskModel" "ornaments" "I" ∈ wsX8_fitting := by decide +kernel
theorem wd_X8_fitting_k91 : Cond.constant RX8 91 (1000000) ∈ wsX8_fitting := by decide +kernel
set_option maxHeartbeats 4000000 in
set_option maxRecDepth 100000 in
/-- X8_fitting_ok -/
theorem c_X8_fitting_ok (l : Launch) (D : va_G) (G : Nat → ClassId) (ad : Nat → Nat) (N : Nat) (c : Nat → va_E) {th lim : Int} {no dn : Nat} {gn : Nat → Nat} {gg : Nat → Nat → Nat} {dg nn : Nat → Nat} {pt ln : Nat → Nat → Nat} {wi : Nat → Nat → Int} (hN : 139 ≤ N) (hS : MS G ad c th lim no dn gn gg dg nn pt ln wi) (hV : SV lim no dn gn gg dg nn pt ln wi) {t i : Nat} (ht : t < 4) (hi : i + 1 < nn t) : MC l yX8_fitting wsX8_fitting rm_X8_fitting [.ref (ad 120), .int (zI (t : Int)), .int (zI (i : Int))] D G ad N c (qI D G (fx ad N) (fun v c1 => v = zI (sumU (fun o => if (atc lim gn gg (pt t) (ln t) (rwT (nn t) (wi t)) i (o + 1)) < 1000000 then 1 else 0) no) ∧ MS G ad c1 0 lim no dn gn gg dg nn pt ln wi ∧ ∀ q, (q < 120 ∨ 137 ≤ q) → c1 q = c q)) 0 0 := by
  refine MCi.of (cc := cX8_fitting) (maxL := 5) (by decide) rfl (Nat.le_of_ble_eq_true rfl) ?_
  intro p e s m args below meth kc A Q hx hb hts hown hml fin H locs w ls hl
  have hown : s.vm.findClass RX8 = some m.cls := hown
  have hl : lv_has ls 5 [(0, .ref (ad 120)), (1, .int (zI (t : Int))), (2, .int (zI (i : Int)))] := hl
  obtain ⟨⟨row, hm⟩, hh, hB, hDr, hMT, hMR⟩ := id hS
  obtain ⟨hlim, hOV, hdn4, hdg, hUV⟩ := id hV
  have hlb : bnd lim := ⟨by omega, by omega⟩
  have hno8 := hOV.1
  have hnt := (hUV t ht).1
  have hTV := TV_bd (lim := lim) hOV (hUV t ht)
  refine lv_aload_n hx hb dX8_fitting_0 rfl (lv_at hl 0 rfl) ?_
  refine lv_iload_n hx hb dX8_fitting_1 rfl (lv_at hl 1 rfl) ?_
  refine pw_ci w (pw_runS (As := [.int (zI (t : Int))]) (rest := [.ref (ad 120)]) w ⟨hx, hb, hml, hown, hts⟩ (c_X8_isTune l D G ad N c (v := (t : Int)) ⟨by omega, by omega⟩) (va_cwS 1 hts gX8_fitting_X8_isTune rfl rfl rfl (by decide +kernel) ⟨Nat.le_of_ble_eq_true rfl, Nat.le_of_ble_eq_true rfl⟩) rfl hl.1 rfl (lv_room (Nat.le_of_ble_eq_true rfl)) dX8_fitting_2 ⟨Nat.le_of_ble_eq_true rfl, Nat.le_of_ble_eq_true rfl⟩) (fun r_ u H locs hp w => ?_)
  obtain ⟨hv, hu⟩ := hp
  subst hv
  have w : PW D G A s ad N c H locs := by rw [hu] at w; exact w
  clear hu
  refine pz_top (b := 1) (if_pos (by omega)) ?_
  refine pz_ifne (tgt := 12) hx hb dX8_fitting_5 (by decide) (⟨by omega, by omega⟩) (fun h1 => ?_) (fun h1 => ?_)
  · refine lv_aload_n hx hb dX8_fitting_12 rfl (lv_at hl 0 rfl) ?_
    refine lv_iload_n hx hb dX8_fitting_13 rfl (lv_at hl 1 rfl) ?_
    refine lv_iload_n hx hb dX8_fitting_14 rfl (lv_at hl 2 rfl) ?_
    refine pw_ci w (pw_runV (r := 120) (ci := 8) (As := [.int (zI (t : Int)), .int (zI (i : Int))]) (rest := [.ref (ad 120)]) w ⟨hx, hb, hml, hown, hts⟩ (c_X8_isGap l D G ad N c (t := t) (z := (i : Int)) hN hm hMT hUV (by omega) ⟨by omega, by omega⟩) (cwV 2 hts gX8_fitting_X8_isGap rfl rfl rfl (by decide +kernel) ⟨Nat.le_of_ble_eq_true rfl, Nat.le_of_ble_eq_true rfl⟩) (by omega) hm rfl rfl hl.1 rfl (lv_room (Nat.le_of_ble_eq_true rfl)) dX8_fitting_15 ⟨Nat.le_of_ble_eq_true rfl, Nat.le_of_ble_eq_true rfl⟩) (fun r_ u H locs hp w => ?_)
    obtain ⟨hv, hu⟩ := hp
    subst hv
    have w : PW D G A s ad N c H locs := by rw [hu] at w; exact w
    clear hu
    refine pz_top (b := 1) (if_pos (by omega)) ?_
    refine pz_ifeq (tgt := 25) hx hb dX8_fitting_18 (by decide) (⟨by omega, by omega⟩) (fun h2 => ?_) (fun h2 => ?_)
    · omega
    · refine lv_iconst (v := zI (0)) hx hb dX8_fitting_21 rfl ?_
      refine lv_goto (tgt := 26) hx hb dX8_fitting_22 (by decide) ?_
      refine pw_ci w (pw_runV (r := 120) (ci := 8) (As := [.int (zI 0)]) (rest := []) w ⟨hx, hb, hml, hown, hts⟩ (c_X8_goesWell l D G ad N c (pl := 0) hN hm ⟨by decide, by decide⟩) (cwV 1 hts gX8_fitting_X8_goesWell rfl rfl rfl (by decide +kernel) ⟨Nat.le_of_ble_eq_true rfl, Nat.le_of_ble_eq_true rfl⟩) (by omega) hm rfl rfl hl.1 rfl (lv_room (Nat.le_of_ble_eq_true rfl)) dX8_fitting_26 ⟨Nat.le_of_ble_eq_true rfl, Nat.le_of_ble_eq_true rfl⟩) (fun r_ c3 H locs hp w => ?_)
      have w : PW D G A s ad N c3 H locs := w
      obtain ⟨hv3, hm3, fr3⟩ := hp
      subst hv3
      refine pz_top (b := 1) (if_pos (by omega)) ?_
      have hS3 := hS.to hm3 fr3
      have hm := hm3
      obtain ⟨-, hh, hB, hDr, hMT, hMR⟩ := id hS3
      refine pz_ifne (tgt := 34) hx hb dX8_fitting_29 (by decide) (⟨by omega, by omega⟩) (fun h4 => ?_) (fun h4 => ?_)
      · refine lv_aload_n hx hb dX8_fitting_34 rfl (lv_at hl 0 rfl) ?_
        refine lv_iload_n hx hb dX8_fitting_35 rfl (lv_at hl 1 rfl) ?_
        refine pw_cv w (pw_runV (r := 120) (ci := 8) (As := [.int (zI (t : Int))]) (rest := []) w ⟨hx, hb, hml, hown, hts⟩ (c_X8_layTune l D G ad N c3 (t := t) hN hm hh hlb hB hOV hMT hUV hMR ht) (cwV 1 hts gX8_fitting_X8_layTune rfl rfl rfl (by decide +kernel) ⟨Nat.le_of_ble_eq_true rfl, Nat.le_of_ble_eq_true rfl⟩) (by omega) hm rfl rfl hl.1 rfl (lv_room (Nat.le_of_ble_eq_true rfl)) dX8_fitting_36 ⟨Nat.le_of_ble_eq_true rfl, Nat.le_of_ble_eq_true rfl⟩) (fun c5 H locs hp w => ?_)
        have w : PW D G A s ad N c5 H locs := w
        obtain ⟨hLd5, fr5⟩ := hp
        have hS5 := hS3.laid hLd5 fr5
        obtain ⟨-, hh, hB, hDr, hMT, hMR⟩ := id hS5
        refine lv_iconst (v := zI (0)) hx hb dX8_fitting_39 rfl ?_
        refine lv_istore_n (lv' := [(3, .int (zI 0)), (0, .ref (ad 120)), (1, .int (zI (t : Int))), (2, .int (zI (i : Int)))]) hx hb dX8_fitting_40 rfl hl (by decide) rfl (fun ls hl => ?_)
        refine lv_iconst (v := zI (0)) hx hb dX8_fitting_41 rfl ?_
        refine pz_top (b := (((0 + 1 : Nat) : Int) - 1)) (by omega) ?_
        refine lv_istore (lv' := [(4, .int (zI (((0 + 1 : Nat) : Int) - 1))), (3, .int (zI 0)), (0, .ref (ad 120)), (1, .int (zI (t : Int))), (2, .int (zI (i : Int)))]) hx hb dX8_fitting_42 hl (by decide) rfl (fun ls hl => ?_)
        have hl : lv_has ls 5 [(4, .int (zI (((0 + 1 : Nat) : Int) - 1))), (3, .int (zI (sumU (fun o => if (atc lim gn gg (pt t) (ln t) (rwT (nn t) (wi t)) i (o + 1)) < 1000000 then 1 else 0) 0))), (0, .ref (ad 120)), (1, .int (zI (t : Int))), (2, .int (zI (i : Int)))] := hl
        have hs01 : ∀ o, 0 ≤ (fun o => if (atc lim gn gg (pt t) (ln t) (rwT (nn t) (wi t)) i (o + 1)) < 1000000 then 1 else 0) o ∧ (fun o => if (atc lim gn gg (pt t) (ln t) (rwT (nn t) (wi t)) i (o + 1)) < 1000000 then 1 else 0) o ≤ 1 := fun o => by dsimp only; split <;> omega
        have lp : ∀ (n : Nat) (o : Nat) (H : Heap) (locs : List Loc) (ls : Array Slot), o ≤ no → no < o + n → PW D G A s ad N c5 H locs → lv_has ls 5 [(0, .ref (ad 120)), (1, .int (zI (t : Int))), (2, .int (zI (i : Int))), (3, .int (zI (sumU (fun o => if (atc lim gn gg (pt t) (ln t) (rwT (nn t) (wi t)) i (o + 1)) < 1000000 then 1 else 0) o))), (4, .int (zI (((o + 1 : Nat) : Int) - 1)))] → W p l e rm_X8_fitting s m args below meth kc H locs 0 0 Q (F0 m 44 ls []) := by
          intro n
          induction n with
          | zero => intro o H locs ls h9o hfu w hl; omega
          | succ n ih =>
            intro o H locs ls h9o hfu w hl
            refine lv_iload hx hb dX8_fitting_44 (lv_at hl 4 rfl) ?_
            refine lv_aload_n hx hb dX8_fitting_46 rfl (lv_at hl 0 rfl) ?_
            refine pw_get (r := 120) (ci := 8) (C := RX8) (T := TX8) (Nf := 21) hx hb w hts hin_X8_fitting_8 hown (by omega) hLd5.1 rfl 5 (by decide) (hts _ fl_X8_fitting_88) (fun _ h9 => h9) rfl dX8_fitting_47 ?_
            refine pz_icmpge (tgt := 79) hx hb dX8_fitting_50 (by decide) (⟨by omega, by omega⟩) (⟨by omega, by omega⟩) (fun hi9 => ?_) (fun hi9 => ?_)
            · have o9 : o = no := by omega
              subst o9
              refine lv_iload_n hx hb dX8_fitting_79 rfl (lv_at hl 3 rfl) ?_
              exact fin (ad, N, c5) c5 _ _ _ _ _ _ _ rfl ⟨rfl, hS5, fun q hq => ((fr5 q (by omega)).trans ((fr3 q (by omega)).trans rfl))⟩ w dX8_fitting_80 (Nat.le_refl _) (Nat.le_refl _)
            · refine lv_iload_n hx hb dX8_fitting_53 rfl (lv_at hl 3 rfl) ?_
              refine lv_aload_n hx hb dX8_fitting_54 rfl (lv_at hl 0 rfl) ?_
              refine lv_iload_n hx hb dX8_fitting_55 rfl (lv_at hl 2 rfl) ?_
              refine lv_iload hx hb dX8_fitting_56 (lv_at hl 4 rfl) ?_
              refine pw_ci w (pw_runV (r := 120) (ci := 8) (As := [.int (zI (i : Int)), .int (zI (((o + 1 : Nat) : Int) - 1))]) (rest := [.int (zI (sumU (fun o => if (atc lim gn gg (pt t) (ln t) (rwT (nn t) (wi t)) i (o + 1)) < 1000000 then 1 else 0) o))]) w ⟨hx, hb, hml, hown, hts⟩ (c_X8_at l D G ad N c5 (gap := i) (o := o + 1) hN hLd5.1 hh hlb hB hOV hLd5.2.1 (rwT_V (hUV t ht)) (by omega) (by omega)) (cwV 2 hts gX8_fitting_X8_at rfl rfl rfl (by decide +kernel) ⟨Nat.le_of_ble_eq_true rfl, Nat.le_of_ble_eq_true rfl⟩) (by omega) hLd5.1 rfl rfl hl.1 rfl (lv_room (Nat.le_of_ble_eq_true rfl)) dX8_fitting_58 ⟨Nat.le_of_ble_eq_true rfl, Nat.le_of_ble_eq_true rfl⟩) (fun r_ u H locs hp w => ?_)
              obtain ⟨hv, hu⟩ := hp
              subst hv
              have w : PW D G A s ad N c5 H locs := by rw [hu] at w; exact w
              clear hu
              have hab := (atc_bd (lim := lim) hOV (rwT_V (hUV t ht)) (j := i) (o := o + 1) (by omega) (by omega))
              have habx := bw_bd (lim := lim) (m := ln t i) (x := pt t i) (y := pt t (i + 1)) hOV.g ((hUV t ht).2.1 i (by omega)).1 ((hUV t ht).2.1 (i + 1) (by omega)).1 (show o + 1 ≤ no by omega)
              have haby : (atc lim gn gg (pt t) (ln t) (rwT (nn t) (wi t)) i (o + 1)) ≤ 6000000 := by unfold atc; split <;> omega
              refine lv_ldc hx hb hown (hts _ wd_X8_fitting_k91) dX8_fitting_61 (pz_topI (y := zI (1000000)) (by decide +kernel) ?_)
              refine pz_icmpge (tgt := 70) hx hb dX8_fitting_63 (by decide) (⟨by omega, by omega⟩) (⟨by omega, by omega⟩) (fun h9 => ?_) (fun h9 => ?_)
              · have h9 : ¬ (atc lim gn gg (pt t) (ln t) (rwT (nn t) (wi t)) i (o + 1)) < 1000000 := by omega
                refine lv_iconst (v := zI (0)) hx hb dX8_fitting_70 rfl ?_
                refine pz_iadd hx hb dX8_fitting_71 ?_
                refine pz_top (b := (sumU (fun o => if (atc lim gn gg (pt t) (ln t) (rwT (nn t) (wi t)) i (o + 1)) < 1000000 then 1 else 0) (o + 1))) (by rw [sumU, if_neg h9]) ?_
                refine lv_istore_n (lv' := [(3, .int (zI (sumU (fun o => if (atc lim gn gg (pt t) (ln t) (rwT (nn t) (wi t)) i (o + 1)) < 1000000 then 1 else 0) (o + 1)))), (0, .ref (ad 120)), (1, .int (zI (t : Int))), (2, .int (zI (i : Int))), (4, .int (zI (((o + 1 : Nat) : Int) - 1)))]) hx hb dX8_fitting_72 rfl hl (by decide) rfl (fun ls hl => ?_)
                refine pz_iinc (lv' := [(4, .int (zI (((o + 1 + 1 : Nat) : Int) - 1))), (3, .int (zI (sumU (fun o => if (atc lim gn gg (pt t) (ln t) (rwT (nn t) (wi t)) i (o + 1)) < 1000000 then 1 else 0) (o + 1)))), (0, .ref (ad 120)), (1, .int (zI (t : Int))), (2, .int (zI (i : Int)))]) hx hb dX8_fitting_73 hl (j := 4) rfl (((o + 1 + 1 : Nat) : Int) - 1) (by omega) (by decide) rfl (fun ls hl => ?_)
                refine lv_goto (tgt := 44) hx hb dX8_fitting_76 (by decide) ?_
                exact ih (o + 1) H locs ls (by omega) (by omega) w (lv_sub hl [2, 3, 4, 1, 0] rfl)
              · refine lv_iconst (v := zI (1)) hx hb dX8_fitting_66 rfl ?_
                refine lv_goto (tgt := 71) hx hb dX8_fitting_67 (by decide) ?_
                refine pz_iadd hx hb dX8_fitting_71 ?_
                refine pz_top (b := (sumU (fun o => if (atc lim gn gg (pt t) (ln t) (rwT (nn t) (wi t)) i (o + 1)) < 1000000 then 1 else 0) (o + 1))) (by rw [sumU, if_pos h9]) ?_
                refine lv_istore_n (lv' := [(3, .int (zI (sumU (fun o => if (atc lim gn gg (pt t) (ln t) (rwT (nn t) (wi t)) i (o + 1)) < 1000000 then 1 else 0) (o + 1)))), (0, .ref (ad 120)), (1, .int (zI (t : Int))), (2, .int (zI (i : Int))), (4, .int (zI (((o + 1 : Nat) : Int) - 1)))]) hx hb dX8_fitting_72 rfl hl (by decide) rfl (fun ls hl => ?_)
                refine pz_iinc (lv' := [(4, .int (zI (((o + 1 + 1 : Nat) : Int) - 1))), (3, .int (zI (sumU (fun o => if (atc lim gn gg (pt t) (ln t) (rwT (nn t) (wi t)) i (o + 1)) < 1000000 then 1 else 0) (o + 1)))), (0, .ref (ad 120)), (1, .int (zI (t : Int))), (2, .int (zI (i : Int)))]) hx hb dX8_fitting_73 hl (j := 4) rfl (((o + 1 + 1 : Nat) : Int) - 1) (by omega) (by decide) rfl (fun ls hl => ?_)
                refine lv_goto (tgt := 44) hx hb dX8_fitting_76 (by decide) ?_
                exact ih (o + 1) H locs ls (by omega) (by omega) w (lv_sub hl [2, 3, 4, 1, 0] rfl)
        exact lp (no + 1) 0 H locs ls (by omega) (by omega) w (lv_sub hl [2, 3, 4, 1, 0] rfl)
      · omega
  · omega

abbrev rm_X8_average : Room := { frames := 10, cells := 0, slots := 0, locals := 300 }
set_option maxHeartbeats 4000000 in
set_option maxRecDepth 100000 in
/-- X8_average_bad1 -/
theorem c_X8_average_bad1 (l : Launch) (D : va_G) (G : Nat → ClassId) (ad : Nat → Nat) (N : Nat) (c : Nat → va_E) {th lim : Int} {no dn : Nat} {gn : Nat → Nat} {gg : Nat → Nat → Nat} {dg nn : Nat → Nat} {pt ln : Nat → Nat → Nat} {wi : Nat → Nat → Int} (hN : 139 ≤ N) (hS : MS G ad c th lim no dn gn gg dg nn pt ln wi) (hV : SV lim no dn gn gg dg nn pt ln wi) {zt : Int} (hbzt : bnd zt) (hbad : ¬ (0 ≤ zt ∧ zt ≤ 3)) : MC l yX8_average wsX8_average rm_X8_average [.ref (ad 120), .int (zI zt)] D G ad N c (qF D G (fx ad N) (fun v c1 => v = FP.fconst0 ∧ MS G ad c1 1 lim no dn gn gg dg nn pt ln wi ∧ ∀ q, (q < 120 ∨ 137 ≤ q) → c1 q = c q)) 0 0 := by
  refine MCf.of (cc := cX8_average) (maxL := 2) (by decide) rfl (Nat.le_of_ble_eq_true rfl) ?_
  intro p e s m args below meth kc A Q hx hb hts hown hml fin H locs w ls hl
  have hown : s.vm.findClass RX8 = some m.cls := hown
  have hl : lv_has ls 2 [(0, .ref (ad 120)), (1, .int (zI zt))] := hl
  obtain ⟨⟨row, hm⟩, hh, hB, hDr, hMT, hMR⟩ := id hS
  obtain ⟨hlim, hOV, hdn4, hdg, hUV⟩ := id hV
  have hlb : bnd lim := ⟨by omega, by omega⟩
  have hno8 := hOV.1
  have hbzt1 := hbzt.1
  have hbzt2 := hbzt.2
  refine lv_aload_n hx hb dX8_average_0 rfl (lv_at hl 0 rfl) ?_
  refine lv_aload_n hx hb dX8_average_1 rfl (lv_at hl 0 rfl) ?_
  refine lv_iload_n hx hb dX8_average_2 rfl (lv_at hl 1 rfl) ?_
  refine pw_ci w (pw_runV (r := 120) (ci := 8) (As := [.int (zI zt)]) (rest := [.ref (ad 120)]) w ⟨hx, hb, hml, hown, hts⟩ (c_X8_faultOfTune_bad l D G ad N c (zt := zt) hN hm hbzt hbad) (cwV 1 hts gX8_average_X8_faultOfTune rfl rfl rfl (by decide +kernel) ⟨Nat.le_of_ble_eq_true rfl, Nat.le_of_ble_eq_true rfl⟩) (by omega) hm rfl rfl hl.1 rfl (lv_room (Nat.le_of_ble_eq_true rfl)) dX8_average_3 ⟨Nat.le_of_ble_eq_true rfl, Nat.le_of_ble_eq_true rfl⟩) (fun r_ u H locs hp w => ?_)
  obtain ⟨hv, hu⟩ := hp
  subst hv
  have w : PW D G A s ad N c H locs := by rw [hu] at w; exact w
  clear hu
  refine pw_ci w (pw_runV (r := 120) (ci := 8) (As := [.int (zI 1)]) (rest := []) w ⟨hx, hb, hml, hown, hts⟩ (c_X8_goesWell l D G ad N c (pl := 1) hN hm ⟨by decide, by decide⟩) (cwV 1 hts gX8_average_X8_goesWell rfl rfl rfl (by decide +kernel) ⟨Nat.le_of_ble_eq_true rfl, Nat.le_of_ble_eq_true rfl⟩) (by omega) hm rfl rfl hl.1 rfl (lv_room (Nat.le_of_ble_eq_true rfl)) dX8_average_6 ⟨Nat.le_of_ble_eq_true rfl, Nat.le_of_ble_eq_true rfl⟩) (fun r_ c1 H locs hp w => ?_)
  have w : PW D G A s ad N c1 H locs := w
  obtain ⟨hv1, hm1, fr1⟩ := hp
  subst hv1
  refine pz_top (b := 0) (if_neg (by omega)) ?_
  have hS1 := hS.to hm1 fr1
  have hm := hm1
  obtain ⟨-, hh, hB, hDr, hMT, hMR⟩ := id hS1
  refine pz_ifne (tgt := 14) hx hb dX8_average_9 (by decide) (⟨by omega, by omega⟩) (fun h2 => ?_) (fun h2 => ?_)
  · omega
  · refine lv_fconst0 hx hb dX8_average_12 ?_
    exact fin (ad, N, c1) c1 _ _ _ _ _ _ _ rfl ⟨rfl, hS1, fun q hq => ((fr1 q (by omega)).trans rfl)⟩ w dX8_average_13 (Nat.le_refl _) (Nat.le_refl _)

set_option maxHeartbeats 4000000 in
set_option maxRecDepth 100000 in
/-- X8_average_bad2 -/
theorem c_X8_average_bad2 (l : Launch) (D : va_G) (G : Nat → ClassId) (ad : Nat → Nat) (N : Nat) (c : Nat → va_E) {th lim : Int} {no dn : Nat} {gn : Nat → Nat} {gg : Nat → Nat → Nat} {dg nn : Nat → Nat} {pt ln : Nat → Nat → Nat} {wi : Nat → Nat → Int} (hN : 139 ≤ N) (hS : MS G ad c th lim no dn gn gg dg nn pt ln wi) (hV : SV lim no dn gn gg dg nn pt ln wi) {t : Nat} (ht : t < 4) (hW : (TV lim no gn gg (nn t) (pt t) (ln t) (wi t)).2.1 = 0) : MC l yX8_average wsX8_average rm_X8_average [.ref (ad 120), .int (zI (t : Int))] D G ad N c (qF D G (fx ad N) (fun v c1 => v = FP.fconst0 ∧ MS G ad c1 2 lim no dn gn gg dg nn pt ln wi ∧ ∀ q, (q < 120 ∨ 137 ≤ q) → c1 q = c q)) 0 0 := by
  refine MCf.of (cc := cX8_average) (maxL := 2) (by decide) rfl (Nat.le_of_ble_eq_true rfl) ?_
  intro p e s m args below meth kc A Q hx hb hts hown hml fin H locs w ls hl
  have hown : s.vm.findClass RX8 = some m.cls := hown
  have hl : lv_has ls 2 [(0, .ref (ad 120)), (1, .int (zI (t : Int)))] := hl
  obtain ⟨⟨row, hm⟩, hh, hB, hDr, hMT, hMR⟩ := id hS
  obtain ⟨hlim, hOV, hdn4, hdg, hUV⟩ := id hV
  have hlb : bnd lim := ⟨by omega, by omega⟩
  have hno8 := hOV.1
  have hnt := (hUV t ht).1
  have hTV := TV_bd (lim := lim) hOV (hUV t ht)
  refine lv_aload_n hx hb dX8_average_0 rfl (lv_at hl 0 rfl) ?_
  refine lv_aload_n hx hb dX8_average_1 rfl (lv_at hl 0 rfl) ?_
  refine lv_iload_n hx hb dX8_average_2 rfl (lv_at hl 1 rfl) ?_
  refine pw_ci w (pw_runV (r := 120) (ci := 8) (As := [.int (zI (t : Int))]) (rest := [.ref (ad 120)]) w ⟨hx, hb, hml, hown, hts⟩ (c_X8_faultOfTune_ok l D G ad N c (t := t) hN hS hV ht) (cwV 1 hts gX8_average_X8_faultOfTune rfl rfl rfl (by decide +kernel) ⟨Nat.le_of_ble_eq_true rfl, Nat.le_of_ble_eq_true rfl⟩) (by omega) hm rfl rfl hl.1 rfl (lv_room (Nat.le_of_ble_eq_true rfl)) dX8_average_3 ⟨Nat.le_of_ble_eq_true rfl, Nat.le_of_ble_eq_true rfl⟩) (fun r_ c1 H locs hp w => ?_)
  have w : PW D G A s ad N c1 H locs := w
  obtain ⟨hv1, hLd1, fr1⟩ := hp
  subst hv1
  have hS1 := hS.laid hLd1 fr1
  obtain ⟨-, hh, hB, hDr, hMT, hMR⟩ := id hS1
  refine pz_top (b := 2) (if_pos hW) ?_
  refine pw_ci w (pw_runV (r := 120) (ci := 8) (As := [.int (zI 2)]) (rest := []) w ⟨hx, hb, hml, hown, hts⟩ (c_X8_goesWell l D G ad N c1 (pl := 2) hN hLd1.1 ⟨by decide, by decide⟩) (cwV 1 hts gX8_average_X8_goesWell rfl rfl rfl (by decide +kernel) ⟨Nat.le_of_ble_eq_true rfl, Nat.le_of_ble_eq_true rfl⟩) (by omega) hLd1.1 rfl rfl hl.1 rfl (lv_room (Nat.le_of_ble_eq_true rfl)) dX8_average_6 ⟨Nat.le_of_ble_eq_true rfl, Nat.le_of_ble_eq_true rfl⟩) (fun r_ c2 H locs hp w => ?_)
  have w : PW D G A s ad N c2 H locs := w
  obtain ⟨hv2, hm2, fr2⟩ := hp
  subst hv2
  refine pz_top (b := 0) (if_neg (by omega)) ?_
  have hLd2 := hLd1.th hm2 fr2
  have hS2 := hS1.to hm2 fr2
  have hm := hm2
  obtain ⟨-, hh, hB, hDr, hMT, hMR⟩ := id hS2
  refine pz_ifne (tgt := 14) hx hb dX8_average_9 (by decide) (⟨by omega, by omega⟩) (fun h3 => ?_) (fun h3 => ?_)
  · omega
  · refine lv_fconst0 hx hb dX8_average_12 ?_
    exact fin (ad, N, c2) c2 _ _ _ _ _ _ _ rfl ⟨rfl, hS2, fun q hq => ((fr2 q (by omega)).trans ((fr1 q (by omega)).trans rfl))⟩ w dX8_average_13 (Nat.le_refl _) (Nat.le_refl _)

theorem hin_X8_average_8 : ∀ w ∈ u_ws RX8 TX8 21, w ∈ wsX8_average := by decide +kernel
theorem fl_X8_average_105 : Cond.fieldLink RX8 105 "PipersDeskModel" "row" "I" ∈ wsX8_average := by decide +kernel
theorem fl_X8_average_48 : Cond.fieldLink RX8 48 "PipersDeskModel" "least" "[I" ∈ wsX8_average := by decide +kernel
set_option maxHeartbeats 4000000 in
set_option maxRecDepth 100000 in
/-- X8_average_ok -/
theorem c_X8_average_ok (l : Launch) (D : va_G) (G : Nat → ClassId) (ad : Nat → Nat) (N : Nat) (c : Nat → va_E) {th lim : Int} {no dn : Nat} {gn : Nat → Nat} {gg : Nat → Nat → Nat} {dg nn : Nat → Nat} {pt ln : Nat → Nat → Nat} {wi : Nat → Nat → Int} (hN : 139 ≤ N) (hS : MS G ad c th lim no dn gn gg dg nn pt ln wi) (hV : SV lim no dn gn gg dg nn pt ln wi) {t : Nat} (ht : t < 4) (hW : ¬ (TV lim no gn gg (nn t) (pt t) (ln t) (wi t)).2.1 = 0) : MC l yX8_average wsX8_average rm_X8_average [.ref (ad 120), .int (zI (t : Int))] D G ad N c (qF D G (fx ad N) (fun v c1 => v = (if nn t < 2 then FP.fconst0 else FP.fdiv (FP.i2f (zI (TV lim no gn gg (nn t) (pt t) (ln t) (wi t)).1)) (FP.i2f (zI ((nn t : Int) - 1)))) ∧ MS G ad c1 0 lim no dn gn gg dg nn pt ln wi ∧ ∀ q, (q < 120 ∨ 137 ≤ q) → c1 q = c q)) 0 0 := by
  refine MCf.of (cc := cX8_average) (maxL := 2) (by decide) rfl (Nat.le_of_ble_eq_true rfl) ?_
  intro p e s m args below meth kc A Q hx hb hts hown hml fin H locs w ls hl
  have hown : s.vm.findClass RX8 = some m.cls := hown
  have hl : lv_has ls 2 [(0, .ref (ad 120)), (1, .int (zI (t : Int)))] := hl
  obtain ⟨⟨row, hm⟩, hh, hB, hDr, hMT, hMR⟩ := id hS
  obtain ⟨hlim, hOV, hdn4, hdg, hUV⟩ := id hV
  have hlb : bnd lim := ⟨by omega, by omega⟩
  have hno8 := hOV.1
  have hnt := (hUV t ht).1
  have hTV := TV_bd (lim := lim) hOV (hUV t ht)
  refine lv_aload_n hx hb dX8_average_0 rfl (lv_at hl 0 rfl) ?_
  refine lv_aload_n hx hb dX8_average_1 rfl (lv_at hl 0 rfl) ?_
  refine lv_iload_n hx hb dX8_average_2 rfl (lv_at hl 1 rfl) ?_
  refine pw_ci w (pw_runV (r := 120) (ci := 8) (As := [.int (zI (t : Int))]) (rest := [.ref (ad 120)]) w ⟨hx, hb, hml, hown, hts⟩ (c_X8_faultOfTune_ok l D G ad N c (t := t) hN hS hV ht) (cwV 1 hts gX8_average_X8_faultOfTune rfl rfl rfl (by decide +kernel) ⟨Nat.le_of_ble_eq_true rfl, Nat.le_of_ble_eq_true rfl⟩) (by omega) hm rfl rfl hl.1 rfl (lv_room (Nat.le_of_ble_eq_true rfl)) dX8_average_3 ⟨Nat.le_of_ble_eq_true rfl, Nat.le_of_ble_eq_true rfl⟩) (fun r_ c1 H locs hp w => ?_)
  have w : PW D G A s ad N c1 H locs := w
  obtain ⟨hv1, hLd1, fr1⟩ := hp
  subst hv1
  have hS1 := hS.laid hLd1 fr1
  obtain ⟨-, hh, hB, hDr, hMT, hMR⟩ := id hS1
  refine pz_top (b := 0) (if_neg hW) ?_
  refine pw_ci w (pw_runV (r := 120) (ci := 8) (As := [.int (zI 0)]) (rest := []) w ⟨hx, hb, hml, hown, hts⟩ (c_X8_goesWell l D G ad N c1 (pl := 0) hN hLd1.1 ⟨by decide, by decide⟩) (cwV 1 hts gX8_average_X8_goesWell rfl rfl rfl (by decide +kernel) ⟨Nat.le_of_ble_eq_true rfl, Nat.le_of_ble_eq_true rfl⟩) (by omega) hLd1.1 rfl rfl hl.1 rfl (lv_room (Nat.le_of_ble_eq_true rfl)) dX8_average_6 ⟨Nat.le_of_ble_eq_true rfl, Nat.le_of_ble_eq_true rfl⟩) (fun r_ c2 H locs hp w => ?_)
  have w : PW D G A s ad N c2 H locs := w
  obtain ⟨hv2, hm2, fr2⟩ := hp
  subst hv2
  refine pz_top (b := 1) (if_pos (by omega)) ?_
  have hLd2 := hLd1.th hm2 fr2
  have hS2 := hS1.to hm2 fr2
  have hm := hm2
  obtain ⟨-, hh, hB, hDr, hMT, hMR⟩ := id hS2
  obtain ⟨⟨gL, l1, eL⟩, ⟨gW, l2, eW⟩, gM, l3, eM⟩ := hLd2.v
  refine pz_ifne (tgt := 14) hx hb dX8_average_9 (by decide) (⟨by omega, by omega⟩) (fun h3 => ?_) (fun h3 => ?_)
  · refine lv_aload_n hx hb dX8_average_14 rfl (lv_at hl 0 rfl) ?_
    refine pw_get (r := 120) (ci := 8) (C := RX8) (T := TX8) (Nf := 21) hx hb w hts hin_X8_average_8 hown (by omega) hm rfl 15 (by decide) (hts _ fl_X8_average_105) (fun _ h9 => h9) rfl dX8_average_15 ?_
    refine lv_iconst (v := zI (2)) hx hb dX8_average_18 rfl ?_
    refine pz_icmpge (tgt := 26) hx hb dX8_average_19 (by decide) (⟨by omega, by omega⟩) (⟨by omega, by omega⟩) (fun h4 => ?_) (fun h4 => ?_)
    · refine lv_aload_n hx hb dX8_average_26 rfl (lv_at hl 0 rfl) ?_
      refine pw_get (r := 120) (ci := 8) (C := RX8) (T := TX8) (Nf := 21) hx hb w hts hin_X8_average_8 hown (by omega) hm rfl 16 (by decide) (hts _ fl_X8_average_48) (fun _ h9 => h9) rfl dX8_average_27 ?_
      refine lv_iconst (v := zI (0)) hx hb dX8_average_30 rfl ?_
      refine pw_iald (r := 132) (j := 0) hx hb w (by omega) l1 (by omega) (by omega) (by decide) dX8_average_31 ?_
      refine pz_top (b := (TV lim no gn gg (nn t) (pt t) (ln t) (wi t)).1) (eL) ?_
      refine lv_i2f hx hb dX8_average_32 ?_
      refine lv_aload_n hx hb dX8_average_33 rfl (lv_at hl 0 rfl) ?_
      refine pw_get (r := 120) (ci := 8) (C := RX8) (T := TX8) (Nf := 21) hx hb w hts hin_X8_average_8 hown (by omega) hm rfl 15 (by decide) (hts _ fl_X8_average_105) (fun _ h9 => h9) rfl dX8_average_34 ?_
      refine lv_iconst (v := zI (1)) hx hb dX8_average_37 rfl ?_
      refine pz_isub hx hb dX8_average_38 ?_
      refine lv_i2f hx hb dX8_average_39 ?_
      have hN9 := avN (TV lim no gn gg (nn t) (pt t) (ln t) (wi t)).1.toNat (by have := hTV.2.2.2.2.2.2 (by omega); omega) (nn t - 2) (by omega)
      rw [show (((TV lim no gn gg (nn t) (pt t) (ln t) (wi t)).1.toNat : Nat) : Int) = (TV lim no gn gg (nn t) (pt t) (ln t) (wi t)).1 from by omega, show ((nn t - 2 + 1 : Nat) : Int) = (nn t : Int) - 1 from by omega] at hN9
      refine lv_fdiv hx hb dX8_average_40 hN9 ?_
      exact fin (ad, N, c2) c2 _ _ _ _ _ _ _ rfl ⟨by rw [if_neg (by omega)], hS2, fun q hq => ((fr2 q (by omega)).trans ((fr1 q (by omega)).trans rfl))⟩ w dX8_average_41 (Nat.le_refl _) (Nat.le_refl _)
    · refine lv_fconst0 hx hb dX8_average_22 ?_
      refine lv_goto (tgt := 41) hx hb dX8_average_23 (by decide) ?_
      exact fin (ad, N, c2) c2 _ _ _ _ _ _ _ rfl ⟨by rw [if_pos (by omega)], hS2, fun q hq => ((fr2 q (by omega)).trans ((fr1 q (by omega)).trans rfl))⟩ w dX8_average_41 (Nat.le_refl _) (Nat.le_refl _)
  · omega
