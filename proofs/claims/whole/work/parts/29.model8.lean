theorem loS_le (nn od : Nat → Nat) : ∀ p, (loS nn od p).2.2 ≤ 1
  | 0 => Nat.le_refl 1
  | p + 1 => by
    unfold loS
    dsimp only
    split <;> omega
section MSX
variable {G : Nat → ClassId} {ad : Nat → Nat} {c c1 : Nat → va_E} {th lim : Int} {no dn : Nat} {gn : Nat → Nat} {gg : Nat → Nat → Nat} {dg nn : Nat → Nat} {pt ln : Nat → Nat → Nat} {wi : Nat → Nat → Int}
theorem MS.order (h : MS G ad c th lim no dn gn gg dg nn pt ln wi) {g : Nat → Int} (hO : isA 0 G (c1 135) 4 g) (hf : ∀ q, q ≠ 135 → c1 q = c q) : MS G ad c1 th lim no dn gn gg dg nn pt ln wi := by
  obtain ⟨⟨row, h1⟩, h2, h3, h4, h5, h6⟩ := h
  obtain ⟨⟨g1, r1⟩, ⟨g2, r2⟩, ⟨g3, r3⟩, ⟨g4, r4⟩, ⟨g5, r5⟩, ⟨g6, r6⟩, ⟨g7, r7⟩, g8, r8⟩ := h6
  exact ⟨⟨row, (hf _ (by omega)).trans h1⟩, isA.fr (hf _ (by omega)) h2, h3.fr (hf _ (by omega)) (hf _ (by omega)), isA.fr (hf _ (by omega)) h4, h5.fr (fun q _ _ => hf q (by omega)), ⟨g1, isA.fr (hf _ (by omega)) r1⟩, ⟨g2, isA.fr (hf _ (by omega)) r2⟩, ⟨g3, isA.fr (hf _ (by omega)) r3⟩, ⟨g4, isA.fr (hf _ (by omega)) r4⟩, ⟨g5, isA.fr (hf _ (by omega)) r5⟩, ⟨g6, isA.fr (hf _ (by omega)) r6⟩, ⟨_, hO⟩, g8, isA.fr (hf _ (by omega)) r8⟩
theorem MS.best (h : MS G ad c th lim no dn gn gg dg nn pt ln wi) {g : Nat → Int} (hO : isA 0 G (c1 136) 4 g) (hf : ∀ q, q ≠ 136 → c1 q = c q) : MS G ad c1 th lim no dn gn gg dg nn pt ln wi := by
  obtain ⟨⟨row, h1⟩, h2, h3, h4, h5, h6⟩ := h
  obtain ⟨⟨g1, r1⟩, ⟨g2, r2⟩, ⟨g3, r3⟩, ⟨g4, r4⟩, ⟨g5, r5⟩, ⟨g6, r6⟩, ⟨g7, r7⟩, g8, r8⟩ := h6
  exact ⟨⟨row, (hf _ (by omega)).trans h1⟩, isA.fr (hf _ (by omega)) h2, h3.fr (hf _ (by omega)) (hf _ (by omega)), isA.fr (hf _ (by omega)) h4, h5.fr (fun q _ _ => hf q (by omega)), ⟨g1, isA.fr (hf _ (by omega)) r1⟩, ⟨g2, isA.fr (hf _ (by omega)) r2⟩, ⟨g3, isA.fr (hf _ (by omega)) r3⟩, ⟨g4, isA.fr (hf _ (by omega)) r4⟩, ⟨g5, isA.fr (hf _ (by omega)) r5⟩, ⟨g6, isA.fr (hf _ (by omega)) r6⟩, ⟨g7, isA.fr (hf _ (by omega)) r7⟩, _, hO⟩
theorem MS.rows (h : MS G ad c th lim no dn gn gg dg nn pt ln wi) {r : Int} (h1 : c1 120 = .inr (8, moV ad th lim (no : Int) (dn : Int) r)) {n : Nat} {rp rl : Nat → Nat} {rw : Nat → Int} (hR : RowP G c1 n rp rl rw) (hf : ∀ q, q ≠ 120 ∧ q ≠ 129 ∧ q ≠ 130 ∧ q ≠ 131 → c1 q = c q) : MS G ad c1 th lim no dn gn gg dg nn pt ln wi := by
  obtain ⟨-, h2, h3, h4, h5, h6⟩ := h
  obtain ⟨-, -, -, ⟨g4, r4⟩, ⟨g5, r5⟩, ⟨g6, r6⟩, ⟨g7, r7⟩, g8, r8⟩ := h6
  obtain ⟨⟨g1, r1, -⟩, ⟨g2, r2, -⟩, g3, r3, -⟩ := hR
  exact ⟨⟨_, h1⟩, isA.fr (hf _ (by omega)) h2, h3.fr (hf _ (by omega)) (hf _ (by omega)), isA.fr (hf _ (by omega)) h4, h5.fr (fun q _ _ => hf q (by omega)), ⟨g1, r1⟩, ⟨g2, r2⟩, ⟨g3, r3⟩, ⟨g4, isA.fr (hf _ (by omega)) r4⟩, ⟨g5, isA.fr (hf _ (by omega)) r5⟩, ⟨g6, isA.fr (hf _ (by omega)) r6⟩, ⟨g7, isA.fr (hf _ (by omega)) r7⟩, g8, isA.fr (hf _ (by omega)) r8⟩
theorem MS.cnt (h : MS G ad c th lim no dn gn gg dg nn pt ln wi) {at_ : Nat → Nat → Int} {n9 g i0 a0 : Nat} (hL : LWp G c1 at_ n9 g i0 a0) (hf : ∀ q, q ≠ 132 ∧ q ≠ 133 ∧ q ≠ 134 → c1 q = c q) : MS G ad c1 th lim no dn gn gg dg nn pt ln wi := by
  obtain ⟨⟨row, h1⟩, h2, h3, h4, h5, h6⟩ := h
  obtain ⟨⟨g1, r1⟩, ⟨g2, r2⟩, ⟨g3, r3⟩, -, -, -, ⟨g7, r7⟩, g8, r8⟩ := h6
  obtain ⟨⟨g4, r4, -⟩, ⟨g5, r5, -⟩, g6, r6, -⟩ := hL
  exact ⟨⟨row, (hf _ (by omega)).trans h1⟩, isA.fr (hf _ (by omega)) h2, h3.fr (hf _ (by omega)) (hf _ (by omega)), isA.fr (hf _ (by omega)) h4, h5.fr (fun q _ _ => hf q (by omega)), ⟨g1, isA.fr (hf _ (by omega)) r1⟩, ⟨g2, isA.fr (hf _ (by omega)) r2⟩, ⟨g3, isA.fr (hf _ (by omega)) r3⟩, ⟨g4, r4⟩, ⟨g5, r5⟩, ⟨g6, r6⟩, ⟨g7, isA.fr (hf _ (by omega)) r7⟩, g8, isA.fr (hf _ (by omega)) r8⟩
end MSX

theorem wd_X8_goThrough_k91 : Cond.constant RX8 91 (1000000) ∈ wsX8_goThrough := by decide +kernel
theorem hin_X8_goThrough_8 : ∀ w ∈ u_ws RX8 TX8 21, w ∈ wsX8_goThrough := by decide +kernel
theorem fl_X8_goThrough_105 : Cond.fieldLink RX8 105 "PipersDeskModel" "row" "I" ∈ wsX8_goThrough := by decide +kernel
theorem fl_X8_goThrough_57 : Cond.fieldLink RX8 57 "PipersDeskModel" "order" "[I" ∈ wsX8_goThrough := by decide +kernel
theorem fl_X8_goThrough_51 : Cond.fieldLink RX8 51 "PipersDeskModel" "ways" "[I" ∈ wsX8_goThrough := by decide +kernel
theorem fl_X8_goThrough_48 : Cond.fieldLink RX8 48 "PipersDeskModel" "least" "[I" ∈ wsX8_goThrough := by decide +kernel
theorem fl_X8_goThrough_60 : Cond.fieldLink RX8 60 "PipersDeskModel" "bestOrder" "[I" ∈ wsX8_goThrough := by decide +kernel
abbrev rm_X8_goThrough : Room := { frames := 7, cells := 0, slots := 0, locals := 210 }
set_option maxHeartbeats 4000000 in
set_option maxRecDepth 100000 in
/-- goThrough -/
theorem c_X8_goThrough (l : Launch) (D : va_G) (G : Nat → ClassId) (ad : Nat → Nat) (N : Nat) (c : Nat → va_E) {th lim : Int} {no dn : Nat} {gn : Nat → Nat} {gg : Nat → Nat → Nat} {dg nn : Nat → Nat} {pt ln : Nat → Nat → Nat} {wi : Nat → Nat → Int} (hN : 139 ≤ N) (hS : MS G ad c th lim no dn gn gg dg nn pt ln wi) (hV : SV lim no dn gn gg dg nn pt ln wi) {cn : Int} (hcn : cn = 0 ∨ cn = 1) {bo : Nat → Int} (hb0 : isA 0 G (c 136) 4 bo) : MC l yX8_goThrough wsX8_goThrough rm_X8_goThrough [.ref (ad 120), .int (zI cn)] D G ad N c (qI D G (fx ad N) (fun v c1 => v = zI (if cn = 0 then (goF lim no gn gg nn pt ln wi bo 256).2.1 else (goF lim no gn gg nn pt ln wi bo 256).1) ∧ MS G ad c1 th lim no dn gn gg dg nn pt ln wi ∧ isA 0 G (c1 136) 4 (goF lim no gn gg nn pt ln wi bo 256).2.2 ∧ ∀ q, (q < 120 ∨ 137 ≤ q) → c1 q = c q)) 0 0 := by
  refine MCi.of (cc := cX8_goThrough) (maxL := 6) (by decide) rfl (Nat.le_of_ble_eq_true rfl) ?_
  intro p e s m args below meth kc A Q hx hb hts hown hml fin H locs w ls hl
  have hown : s.vm.findClass RX8 = some m.cls := hown
  have hl : lv_has ls 6 [(0, .ref (ad 120)), (1, .int (zI cn))] := hl
  obtain ⟨⟨row, hm⟩, hh, hB, hDr, hMT, hMR⟩ := id hS
  obtain ⟨hlim, hOV, hdn4, hdg, hUV⟩ := id hV
  have hlb : bnd lim := ⟨by omega, by omega⟩
  have hno8 := hOV.1
  refine lv_iconst (v := zI (0)) hx hb dX8_goThrough_0 rfl ?_
  refine lv_istore_n (lv' := [(2, .int (zI 0)), (0, .ref (ad 120)), (1, .int (zI cn))]) hx hb dX8_goThrough_1 rfl hl (by decide) rfl (fun ls hl => ?_)
  refine lv_ldc hx hb hown (hts _ wd_X8_goThrough_k91) dX8_goThrough_2 (pz_topI (y := zI (1000000)) (by decide +kernel) ?_)
  refine lv_istore_n (lv' := [(3, .int (zI 1000000)), (2, .int (zI 0)), (0, .ref (ad 120)), (1, .int (zI cn))]) hx hb dX8_goThrough_4 rfl hl (by decide) rfl (fun ls hl => ?_)
  refine lv_iconst (v := zI (0)) hx hb dX8_goThrough_5 rfl ?_
  refine lv_istore (lv' := [(4, .int (zI 0)), (3, .int (zI 1000000)), (2, .int (zI 0)), (0, .ref (ad 120)), (1, .int (zI cn))]) hx hb dX8_goThrough_6 hl (by decide) rfl (fun ls hl => ?_)
  have lp : ∀ (f : Nat) (kq : Nat) (sm : Int) (ch : Int) (bo2 : Nat → Int) (c1 : Nat → va_E) (H : Heap) (locs : List Loc) (ls : Array Slot), kq ≤ 256 → (goF lim no gn gg nn pt ln wi bo kq) = (sm, ch, bo2) → 0 ≤ ch ∧ ch ≤ 1000000 → MS G ad c1 th lim no dn gn gg dg nn pt ln wi → isA 0 G (c1 136) 4 bo2 → (∀ q, (q < 120 ∨ 137 ≤ q) → c1 q = c q) → 256 < kq + f → PW D G A s ad N c1 H locs → lv_has ls 6 [(0, .ref (ad 120)), (1, .int (zI cn)), (2, .int (zI sm)), (3, .int (zI ch)), (4, .int (zI (kq : Int)))] → W p l e rm_X8_goThrough s m args below meth kc H locs 0 0 Q (F0 m 8 ls []) := by
    intro f
    induction f with
    | zero => intro kq sm ch bo2 c1 H locs ls h9 hst hch hS1 hb1 hf hfu w hl; omega
    | succ f ih =>
      intro kq sm ch bo2 c1 H locs ls h9 hst hch hS1 hb1 hf hfu w hl
      obtain ⟨⟨row, hm⟩, hh, hB, hDr, hMT, hMR⟩ := id hS1
      refine lv_iload hx hb dX8_goThrough_8 (lv_at hl 4 rfl) ?_
      refine lv_sipush (v := zI (256)) hx hb dX8_goThrough_10 (by decide +kernel) ?_
      refine pz_icmpge (tgt := 138) hx hb dX8_goThrough_13 (by decide) (⟨by omega, by omega⟩) (⟨by omega, by omega⟩) (fun hkq => ?_) (fun hkq => ?_)
      · have k9 : kq = 256 := by omega
        subst k9
        refine lv_iload_n hx hb dX8_goThrough_138 rfl (lv_at hl 1 rfl) ?_
        refine pz_ifeq (tgt := 146) hx hb dX8_goThrough_139 (by decide) (⟨by omega, by omega⟩) (fun hc0 => ?_) (fun hc0 => ?_)
        · refine lv_iload_n hx hb dX8_goThrough_146 rfl (lv_at hl 3 rfl) ?_
          exact fin (ad, N, c1) c1 _ _ _ _ _ _ _ rfl ⟨by rw [if_pos hc0, hst], hS1, by rw [hst]; exact hb1, hf⟩ w dX8_goThrough_147 (Nat.le_refl _) (Nat.le_refl _)
        · refine lv_iload_n hx hb dX8_goThrough_142 rfl (lv_at hl 2 rfl) ?_
          refine lv_goto (tgt := 147) hx hb dX8_goThrough_143 (by decide) ?_
          exact fin (ad, N, c1) c1 _ _ _ _ _ _ _ rfl ⟨by rw [if_neg hc0, hst], hS1, by rw [hst]; exact hb1, hf⟩ w dX8_goThrough_147 (Nat.le_refl _) (Nat.le_refl _)
      · refine lv_aload_n hx hb dX8_goThrough_16 rfl (lv_at hl 0 rfl) ?_
        refine lv_iload hx hb dX8_goThrough_17 (lv_at hl 4 rfl) ?_
        refine pw_ci w (pw_runV (r := 120) (ci := 8) (As := [.int (zI (kq : Int))]) (rest := []) w ⟨hx, hb, hml, hown, hts⟩ (c_X8_layOrder l D G ad N c1 (n := kq) hN hm hMT hUV hMR.2.2.2.2.2.2.1 (by omega)) (cwV 1 hts gX8_goThrough_X8_layOrder rfl rfl rfl (by decide +kernel) ⟨Nat.le_of_ble_eq_true rfl, Nat.le_of_ble_eq_true rfl⟩) (by omega) hm rfl rfl hl.1 rfl (lv_room (Nat.le_of_ble_eq_true rfl)) dX8_goThrough_19 ⟨Nat.le_of_ble_eq_true rfl, Nat.le_of_ble_eq_true rfl⟩) (fun r_ c1 H locs hp w => ?_)
        have w : PW D G A s ad N c1 H locs := w
        obtain ⟨hv1, hO, fr1⟩ := hp
        subst hv1
        have hlo := loS_le nn (dgs kq) 4
        have hS1 := hS1.order hO fr1
        obtain ⟨⟨row, hm⟩, hh, hB, hDr, hMT, hMR⟩ := id hS1
        have hf : ∀ q, (q < 120 ∨ 137 ≤ q) → c1 q = c q := fun q hq => (fr1 q (by omega)).trans (hf q hq)
        have hb1 := isA.fr (fr1 136 (by omega)) hb1
        refine pz_ifeq (tgt := 132) hx hb dX8_goThrough_22 (by decide) (⟨by omega, by omega⟩) (fun hlz => ?_) (fun hlz => ?_)
        · refine pz_iinc (lv' := [(4, .int (zI ((kq + 1 : Nat) : Int))), (0, .ref (ad 120)), (1, .int (zI cn)), (2, .int (zI sm)), (3, .int (zI ch))]) hx hb dX8_goThrough_132 hl (j := 4) rfl ((kq + 1 : Nat) : Int) (by omega) (by decide) rfl (fun ls hl => ?_)
          refine lv_goto (tgt := 8) hx hb dX8_goThrough_135 (by decide) ?_
          exact ih (kq + 1) sm ch bo2 _ H locs ls (by omega) (by rw [goF, if_neg (by omega)]; exact hst) hch hS1 hb1 hf (by omega) w (lv_sub hl [1, 2, 3, 4, 0] rfl)
        · have hok : (loS nn (dgs kq) 4).2.2 = 1 := by omega
          have hrv := RVv_bd (lim := lim) (pt := pt) (ln := ln) (wi := wi) hOV hUV (od := dgs kq) (fun j _ => dgs_lt kq j)
          refine lv_aload_n hx hb dX8_goThrough_25 rfl (lv_at hl 0 rfl) ?_
          refine lv_iconst (v := zI (0)) hx hb dX8_goThrough_26 rfl ?_
          refine pw_put' (r := 120) (ci := 8) (C := RX8) (T := TX8) (Nf := 21) hx hb w hts hin_X8_goThrough_8 tyX8 tyX8_ok nmX8 hown (by omega) hm rfl 15 (by decide) (hts _ fl_X8_goThrough_105) (fun _ h9 => h9) rfl (ty := .int) (by decide +kernel) rfl rfl (Nat.le_of_ble_eq_true rfl) dX8_goThrough_27 (fun H locs c2 hc2 fr2 w => ?_)
          have hmx := hc2
          have hb1 := isA.fr (fr2 136 (by omega)) hb1
          have hO := isA.fr (fr2 135 (by omega)) hO
          have hS1 := hS1.to hmx fr2
          obtain ⟨⟨row, hm⟩, hh, hB, hDr, hMT, hMR⟩ := id hS1
          have hm := hmx
          have hf : ∀ q, (q < 120 ∨ 137 ≤ q) → c2 q = c q := fun q hq => (fr2 q (by omega)).trans (hf q hq)
          obtain ⟨⟨p1, q1⟩, ⟨p2, q2⟩, ⟨p3, q3⟩, hl0, hw0, hm0, -, -⟩ := id hMR
          have hR : RowP G c2 (rc nn pt ln wi (dgs kq) 0).1 (rc nn pt ln wi (dgs kq) 0).2.1 (rc nn pt ln wi (dgs kq) 0).2.2.1 (rc nn pt ln wi (dgs kq) 0).2.2.2 := ⟨⟨p1, q1, fun i hi => absurd hi (Nat.not_lt_zero i)⟩, ⟨p2, q2, fun i hi => absurd hi (Nat.not_lt_zero i)⟩, p3, q3, fun i hi => absurd hi (Nat.not_lt_zero i)⟩
          refine lv_iconst (v := zI (0)) hx hb dX8_goThrough_30 rfl ?_
          refine lv_istore (lv' := [(5, .int (zI 0)), (0, .ref (ad 120)), (1, .int (zI cn)), (2, .int (zI sm)), (3, .int (zI ch)), (4, .int (zI (kq : Int)))]) hx hb dX8_goThrough_31 hl (by decide) rfl (fun ls hl => ?_)
          refine lv_iload hx hb dX8_goThrough_33 (lv_at hl 0 rfl) ?_
          refine lv_iconst (v := zI (4)) hx hb dX8_goThrough_35 rfl ?_
          refine pz_icmpge (tgt := 56) hx hb dX8_goThrough_36 (by decide) (⟨by omega, by omega⟩) (⟨by omega, by omega⟩) (fun h3 => ?_) (fun h3 => ?_)
          · omega
          · refine lv_aload_n hx hb dX8_goThrough_39 rfl (lv_at hl 1 rfl) ?_
            refine lv_aload_n hx hb dX8_goThrough_40 rfl (lv_at hl 1 rfl) ?_
            refine pw_get (r := 120) (ci := 8) (C := RX8) (T := TX8) (Nf := 21) hx hb w hts hin_X8_goThrough_8 hown (by omega) hm rfl 19 (by decide) (hts _ fl_X8_goThrough_57) (fun _ h9 => h9) rfl dX8_goThrough_41 ?_
            refine lv_iload hx hb dX8_goThrough_44 (lv_at hl 0 rfl) ?_
            refine pw_iald (r := 135) (j := 0) hx hb w (by omega) hO (by omega) (by omega) (by decide) dX8_goThrough_46 ?_
            refine pz_top (b := (dgs kq 0 : Int)) (rfl) ?_
            have hr9 := (rc_V hUV (pt := pt) (ln := ln) (wi := wi) 0 (fun j _ => dgs_lt kq j)).1
            have hn9 := (hUV _ (dgs_lt kq 0)).1
            refine pw_cv w (pw_runV (r := 120) (ci := 8) (As := [.int (zI (dgs kq 0 : Int))]) (rest := []) w ⟨hx, hb, hml, hown, hts⟩ (c_X8_append l D G ad N c2 (r := (rc nn pt ln wi (dgs kq) 0).1) (t := dgs kq 0) hN hm hR hMT hUV (dgs_lt kq 0) (by omega)) (cwV 1 hts gX8_goThrough_X8_append rfl rfl rfl (by decide +kernel) ⟨Nat.le_of_ble_eq_true rfl, Nat.le_of_ble_eq_true rfl⟩) (by omega) hm rfl rfl hl.1 rfl (lv_room (Nat.le_of_ble_eq_true rfl)) dX8_goThrough_47 ⟨Nat.le_of_ble_eq_true rfl, Nat.le_of_ble_eq_true rfl⟩) (fun c4 H locs hp w => ?_)
            have w : PW D G A s ad N c4 H locs := w
            obtain ⟨hm4, hR4, fr4⟩ := hp
            have hR : RowP G c4 (rc nn pt ln wi (dgs kq) 1).1 (rc nn pt ln wi (dgs kq) 1).2.1 (rc nn pt ln wi (dgs kq) 1).2.2.1 (rc nn pt ln wi (dgs kq) 1).2.2.2 := hR4
            have hmx : c4 120 = .inr (8, moV ad th lim (no : Int) (dn : Int) ((rc nn pt ln wi (dgs kq) 1).1 : Int)) := hm4
            have hS1 := hS1.rows hmx hR fr4
            obtain ⟨⟨row, hm⟩, hh, hB, hDr, hMT, hMR⟩ := id hS1
            have hm := hmx
            have hf : ∀ q, (q < 120 ∨ 137 ≤ q) → c4 q = c q := fun q hq => (fr4 q (by omega)).trans (hf q hq)
            have hb1 := isA.fr (fr4 136 (by omega)) hb1
            have hO := isA.fr (fr4 135 (by omega)) hO
            refine pz_iinc (lv' := [(5, .int (zI 1)), (0, .ref (ad 120)), (1, .int (zI cn)), (2, .int (zI sm)), (3, .int (zI ch)), (4, .int (zI (kq : Int)))]) hx hb dX8_goThrough_50 hl (j := 0) rfl 1 (by omega) (by decide) rfl (fun ls hl => ?_)
            refine lv_goto (tgt := 33) hx hb dX8_goThrough_53 (by decide) ?_
            refine lv_iload hx hb dX8_goThrough_33 (lv_at hl 0 rfl) ?_
            refine lv_iconst (v := zI (4)) hx hb dX8_goThrough_35 rfl ?_
            refine pz_icmpge (tgt := 56) hx hb dX8_goThrough_36 (by decide) (⟨by omega, by omega⟩) (⟨by omega, by omega⟩) (fun h5 => ?_) (fun h5 => ?_)
            · omega
            · refine lv_aload_n hx hb dX8_goThrough_39 rfl (lv_at hl 1 rfl) ?_
              refine lv_aload_n hx hb dX8_goThrough_40 rfl (lv_at hl 1 rfl) ?_
              refine pw_get (r := 120) (ci := 8) (C := RX8) (T := TX8) (Nf := 21) hx hb w hts hin_X8_goThrough_8 hown (by omega) hm rfl 19 (by decide) (hts _ fl_X8_goThrough_57) (fun _ h9 => h9) rfl dX8_goThrough_41 ?_
              refine lv_iload hx hb dX8_goThrough_44 (lv_at hl 0 rfl) ?_
              refine pw_iald (r := 135) (j := 1) hx hb w (by omega) hO (by omega) (by omega) (by decide) dX8_goThrough_46 ?_
              refine pz_top (b := (dgs kq 1 : Int)) (rfl) ?_
              have hr9 := (rc_V hUV (pt := pt) (ln := ln) (wi := wi) 1 (fun j _ => dgs_lt kq j)).1
              have hn9 := (hUV _ (dgs_lt kq 1)).1
              refine pw_cv w (pw_runV (r := 120) (ci := 8) (As := [.int (zI (dgs kq 1 : Int))]) (rest := []) w ⟨hx, hb, hml, hown, hts⟩ (c_X8_append l D G ad N c4 (r := (rc nn pt ln wi (dgs kq) 1).1) (t := dgs kq 1) hN hm hR hMT hUV (dgs_lt kq 1) (by omega)) (cwV 1 hts gX8_goThrough_X8_append rfl rfl rfl (by decide +kernel) ⟨Nat.le_of_ble_eq_true rfl, Nat.le_of_ble_eq_true rfl⟩) (by omega) hm rfl rfl hl.1 rfl (lv_room (Nat.le_of_ble_eq_true rfl)) dX8_goThrough_47 ⟨Nat.le_of_ble_eq_true rfl, Nat.le_of_ble_eq_true rfl⟩) (fun c6 H locs hp w => ?_)
              have w : PW D G A s ad N c6 H locs := w
              obtain ⟨hm6, hR6, fr6⟩ := hp
              have hR : RowP G c6 (rc nn pt ln wi (dgs kq) 2).1 (rc nn pt ln wi (dgs kq) 2).2.1 (rc nn pt ln wi (dgs kq) 2).2.2.1 (rc nn pt ln wi (dgs kq) 2).2.2.2 := hR6
              have hmx : c6 120 = .inr (8, moV ad th lim (no : Int) (dn : Int) ((rc nn pt ln wi (dgs kq) 2).1 : Int)) := hm6
              have hS1 := hS1.rows hmx hR fr6
              obtain ⟨⟨row, hm⟩, hh, hB, hDr, hMT, hMR⟩ := id hS1
              have hm := hmx
              have hf : ∀ q, (q < 120 ∨ 137 ≤ q) → c6 q = c q := fun q hq => (fr6 q (by omega)).trans (hf q hq)
              have hb1 := isA.fr (fr6 136 (by omega)) hb1
              have hO := isA.fr (fr6 135 (by omega)) hO
              refine pz_iinc (lv' := [(5, .int (zI 2)), (0, .ref (ad 120)), (1, .int (zI cn)), (2, .int (zI sm)), (3, .int (zI ch)), (4, .int (zI (kq : Int)))]) hx hb dX8_goThrough_50 hl (j := 0) rfl 2 (by omega) (by decide) rfl (fun ls hl => ?_)
              refine lv_goto (tgt := 33) hx hb dX8_goThrough_53 (by decide) ?_
              refine lv_iload hx hb dX8_goThrough_33 (lv_at hl 0 rfl) ?_
              refine lv_iconst (v := zI (4)) hx hb dX8_goThrough_35 rfl ?_
              refine pz_icmpge (tgt := 56) hx hb dX8_goThrough_36 (by decide) (⟨by omega, by omega⟩) (⟨by omega, by omega⟩) (fun h7 => ?_) (fun h7 => ?_)
              · omega
              · refine lv_aload_n hx hb dX8_goThrough_39 rfl (lv_at hl 1 rfl) ?_
                refine lv_aload_n hx hb dX8_goThrough_40 rfl (lv_at hl 1 rfl) ?_
                refine pw_get (r := 120) (ci := 8) (C := RX8) (T := TX8) (Nf := 21) hx hb w hts hin_X8_goThrough_8 hown (by omega) hm rfl 19 (by decide) (hts _ fl_X8_goThrough_57) (fun _ h9 => h9) rfl dX8_goThrough_41 ?_
                refine lv_iload hx hb dX8_goThrough_44 (lv_at hl 0 rfl) ?_
                refine pw_iald (r := 135) (j := 2) hx hb w (by omega) hO (by omega) (by omega) (by decide) dX8_goThrough_46 ?_
                refine pz_top (b := (dgs kq 2 : Int)) (rfl) ?_
                have hr9 := (rc_V hUV (pt := pt) (ln := ln) (wi := wi) 2 (fun j _ => dgs_lt kq j)).1
                have hn9 := (hUV _ (dgs_lt kq 2)).1
                refine pw_cv w (pw_runV (r := 120) (ci := 8) (As := [.int (zI (dgs kq 2 : Int))]) (rest := []) w ⟨hx, hb, hml, hown, hts⟩ (c_X8_append l D G ad N c6 (r := (rc nn pt ln wi (dgs kq) 2).1) (t := dgs kq 2) hN hm hR hMT hUV (dgs_lt kq 2) (by omega)) (cwV 1 hts gX8_goThrough_X8_append rfl rfl rfl (by decide +kernel) ⟨Nat.le_of_ble_eq_true rfl, Nat.le_of_ble_eq_true rfl⟩) (by omega) hm rfl rfl hl.1 rfl (lv_room (Nat.le_of_ble_eq_true rfl)) dX8_goThrough_47 ⟨Nat.le_of_ble_eq_true rfl, Nat.le_of_ble_eq_true rfl⟩) (fun c8 H locs hp w => ?_)
                have w : PW D G A s ad N c8 H locs := w
                obtain ⟨hm8, hR8, fr8⟩ := hp
                have hR : RowP G c8 (rc nn pt ln wi (dgs kq) 3).1 (rc nn pt ln wi (dgs kq) 3).2.1 (rc nn pt ln wi (dgs kq) 3).2.2.1 (rc nn pt ln wi (dgs kq) 3).2.2.2 := hR8
                have hmx : c8 120 = .inr (8, moV ad th lim (no : Int) (dn : Int) ((rc nn pt ln wi (dgs kq) 3).1 : Int)) := hm8
                have hS1 := hS1.rows hmx hR fr8
                obtain ⟨⟨row, hm⟩, hh, hB, hDr, hMT, hMR⟩ := id hS1
                have hm := hmx
                have hf : ∀ q, (q < 120 ∨ 137 ≤ q) → c8 q = c q := fun q hq => (fr8 q (by omega)).trans (hf q hq)
                have hb1 := isA.fr (fr8 136 (by omega)) hb1
                have hO := isA.fr (fr8 135 (by omega)) hO
                refine pz_iinc (lv' := [(5, .int (zI 3)), (0, .ref (ad 120)), (1, .int (zI cn)), (2, .int (zI sm)), (3, .int (zI ch)), (4, .int (zI (kq : Int)))]) hx hb dX8_goThrough_50 hl (j := 0) rfl 3 (by omega) (by decide) rfl (fun ls hl => ?_)
                refine lv_goto (tgt := 33) hx hb dX8_goThrough_53 (by decide) ?_
                refine lv_iload hx hb dX8_goThrough_33 (lv_at hl 0 rfl) ?_
                refine lv_iconst (v := zI (4)) hx hb dX8_goThrough_35 rfl ?_
                refine pz_icmpge (tgt := 56) hx hb dX8_goThrough_36 (by decide) (⟨by omega, by omega⟩) (⟨by omega, by omega⟩) (fun h9 => ?_) (fun h9 => ?_)
                · omega
                · refine lv_aload_n hx hb dX8_goThrough_39 rfl (lv_at hl 1 rfl) ?_
                  refine lv_aload_n hx hb dX8_goThrough_40 rfl (lv_at hl 1 rfl) ?_
                  refine pw_get (r := 120) (ci := 8) (C := RX8) (T := TX8) (Nf := 21) hx hb w hts hin_X8_goThrough_8 hown (by omega) hm rfl 19 (by decide) (hts _ fl_X8_goThrough_57) (fun _ h9 => h9) rfl dX8_goThrough_41 ?_
                  refine lv_iload hx hb dX8_goThrough_44 (lv_at hl 0 rfl) ?_
                  refine pw_iald (r := 135) (j := 3) hx hb w (by omega) hO (by omega) (by omega) (by decide) dX8_goThrough_46 ?_
                  refine pz_top (b := (dgs kq 3 : Int)) (rfl) ?_
                  have hr9 := (rc_V hUV (pt := pt) (ln := ln) (wi := wi) 3 (fun j _ => dgs_lt kq j)).1
                  have hn9 := (hUV _ (dgs_lt kq 3)).1
                  refine pw_cv w (pw_runV (r := 120) (ci := 8) (As := [.int (zI (dgs kq 3 : Int))]) (rest := []) w ⟨hx, hb, hml, hown, hts⟩ (c_X8_append l D G ad N c8 (r := (rc nn pt ln wi (dgs kq) 3).1) (t := dgs kq 3) hN hm hR hMT hUV (dgs_lt kq 3) (by omega)) (cwV 1 hts gX8_goThrough_X8_append rfl rfl rfl (by decide +kernel) ⟨Nat.le_of_ble_eq_true rfl, Nat.le_of_ble_eq_true rfl⟩) (by omega) hm rfl rfl hl.1 rfl (lv_room (Nat.le_of_ble_eq_true rfl)) dX8_goThrough_47 ⟨Nat.le_of_ble_eq_true rfl, Nat.le_of_ble_eq_true rfl⟩) (fun c10 H locs hp w => ?_)
                  have w : PW D G A s ad N c10 H locs := w
                  obtain ⟨hm10, hR10, fr10⟩ := hp
                  have hR : RowP G c10 (rc nn pt ln wi (dgs kq) 4).1 (rc nn pt ln wi (dgs kq) 4).2.1 (rc nn pt ln wi (dgs kq) 4).2.2.1 (rc nn pt ln wi (dgs kq) 4).2.2.2 := hR10
                  have hmx : c10 120 = .inr (8, moV ad th lim (no : Int) (dn : Int) ((rc nn pt ln wi (dgs kq) 4).1 : Int)) := hm10
                  have hS1 := hS1.rows hmx hR fr10
                  obtain ⟨⟨row, hm⟩, hh, hB, hDr, hMT, hMR⟩ := id hS1
                  have hm := hmx
                  have hf : ∀ q, (q < 120 ∨ 137 ≤ q) → c10 q = c q := fun q hq => (fr10 q (by omega)).trans (hf q hq)
                  have hb1 := isA.fr (fr10 136 (by omega)) hb1
                  have hO := isA.fr (fr10 135 (by omega)) hO
                  refine pz_iinc (lv' := [(5, .int (zI 4)), (0, .ref (ad 120)), (1, .int (zI cn)), (2, .int (zI sm)), (3, .int (zI ch)), (4, .int (zI (kq : Int)))]) hx hb dX8_goThrough_50 hl (j := 0) rfl 4 (by omega) (by decide) rfl (fun ls hl => ?_)
                  refine lv_goto (tgt := 33) hx hb dX8_goThrough_53 (by decide) ?_
                  refine lv_iload hx hb dX8_goThrough_33 (lv_at hl 0 rfl) ?_
                  refine lv_iconst (v := zI (4)) hx hb dX8_goThrough_35 rfl ?_
                  refine pz_icmpge (tgt := 56) hx hb dX8_goThrough_36 (by decide) (⟨by omega, by omega⟩) (⟨by omega, by omega⟩) (fun h11 => ?_) (fun h11 => ?_)
                  · refine lv_aload_n hx hb dX8_goThrough_56 rfl (lv_at hl 1 rfl) ?_
                    have hr9 := rc_V hUV (pt := pt) (ln := ln) (wi := wi) 4 (fun j _ => dgs_lt kq j)
                    have hsl := hMR.2.2.2
                    refine pw_cv w (pw_runV (r := 120) (ci := 8) (As := []) (rest := []) w ⟨hx, hb, hml, hown, hts⟩ (c_X8_count l D G ad N c10 (r := (rc nn pt ln wi (dgs kq) 4).1) hN hm hh hlb hB hOV hR ⟨by omega, hr9.2⟩ rfl hsl.1 hsl.2.1 hsl.2.2.1) (cwV 0 hts gX8_goThrough_X8_count rfl rfl rfl (by decide +kernel) ⟨Nat.le_of_ble_eq_true rfl, Nat.le_of_ble_eq_true rfl⟩) (by omega) hm rfl rfl hl.1 rfl (lv_room (Nat.le_of_ble_eq_true rfl)) dX8_goThrough_57 ⟨Nat.le_of_ble_eq_true rfl, Nat.le_of_ble_eq_true rfl⟩) (fun c12 H locs hp w => ?_)
                    have w : PW D G A s ad N c12 H locs := w
                    obtain ⟨hL12, fr12⟩ := hp
                    have hS1 := hS1.cnt hL12 fr12
                    obtain ⟨⟨row, hm⟩, hh, hB, hDr, hMT, hMR⟩ := id hS1
                    have hf : ∀ q, (q < 120 ∨ 137 ≤ q) → c12 q = c q := fun q hq => (fr12 q (by omega)).trans (hf q hq)
                    have hb1 := isA.fr (fr12 136 (by omega)) hb1
                    have hO := isA.fr (fr12 135 (by omega)) hO
                    obtain ⟨⟨gL, l1, b1⟩, ⟨gW, l2, b2⟩, -⟩ := id hL12
                    have eL : gL 0 = (RVv lim no gn gg nn pt ln wi (dgs kq)).1 := b1 0 0 (by omega) (by omega) (Or.inl (by omega))
                    have eW : gW 0 = (RVv lim no gn gg nn pt ln wi (dgs kq)).2.1 := b2 0 0 (by omega) (by omega) (Or.inl (by omega))
                    refine lv_iload_n hx hb dX8_goThrough_60 rfl (lv_at hl 3 rfl) ?_
                    refine lv_aload_n hx hb dX8_goThrough_61 rfl (lv_at hl 1 rfl) ?_
                    refine pw_get (r := 120) (ci := 8) (C := RX8) (T := TX8) (Nf := 21) hx hb w hts hin_X8_goThrough_8 hown (by omega) hm rfl 17 (by decide) (hts _ fl_X8_goThrough_51) (fun _ h9 => h9) rfl dX8_goThrough_62 ?_
                    refine lv_iconst (v := zI (0)) hx hb dX8_goThrough_65 rfl ?_
                    refine pw_iald (r := 133) (j := 0) hx hb w (by omega) l2 (by omega) (by omega) (by decide) dX8_goThrough_66 ?_
                    refine pz_top (b := (RVv lim no gn gg nn pt ln wi (dgs kq)).2.1) (eW) ?_
                    refine pz_ifle (tgt := 74) hx hb dX8_goThrough_67 (by decide) (⟨by omega, by omega⟩) (fun hW => ?_) (fun hW => ?_)
                    · refine lv_iconst (v := zI (0)) hx hb dX8_goThrough_74 rfl ?_
                      refine pz_iadd hx hb dX8_goThrough_75 ?_
                      refine pz_top (b := sm) (by omega) ?_
                      refine lv_istore_n (lv' := [(2, .int (zI sm)), (5, .int (zI 4)), (0, .ref (ad 120)), (1, .int (zI cn)), (3, .int (zI ch)), (4, .int (zI (kq : Int)))]) hx hb dX8_goThrough_76 rfl hl (by decide) rfl (fun ls hl => ?_)
                      refine lv_aload_n hx hb dX8_goThrough_77 rfl (lv_at hl 2 rfl) ?_
                      refine pw_get (r := 120) (ci := 8) (C := RX8) (T := TX8) (Nf := 21) hx hb w hts hin_X8_goThrough_8 hown (by omega) hm rfl 17 (by decide) (hts _ fl_X8_goThrough_51) (fun _ h9 => h9) rfl dX8_goThrough_78 ?_
                      refine lv_iconst (v := zI (0)) hx hb dX8_goThrough_81 rfl ?_
                      refine pw_iald (r := 133) (j := 0) hx hb w (by omega) l2 (by omega) (by omega) (by decide) dX8_goThrough_82 ?_
                      refine pz_top (b := (RVv lim no gn gg nn pt ln wi (dgs kq)).2.1) (eW) ?_
                      refine pz_ifle (tgt := 132) hx hb dX8_goThrough_83 (by decide) (⟨by omega, by omega⟩) (fun h13 => ?_) (fun h13 => ?_)
                      · refine pz_iinc (lv' := [(4, .int (zI ((kq + 1 : Nat) : Int))), (2, .int (zI sm)), (5, .int (zI 4)), (0, .ref (ad 120)), (1, .int (zI cn)), (3, .int (zI ch))]) hx hb dX8_goThrough_132 hl (j := 5) rfl ((kq + 1 : Nat) : Int) (by omega) (by decide) rfl (fun ls hl => ?_)
                        refine lv_goto (tgt := 8) hx hb dX8_goThrough_135 (by decide) ?_
                        exact ih (kq + 1) sm ch bo2 _ H locs ls (by omega) (by rw [goF, if_pos hok, if_neg (by omega), if_neg (by omega), if_neg (by omega), hst]) hch hS1 hb1 hf (by omega) w (lv_sub hl [3, 4, 1, 5, 0] rfl)
                      · omega
                    · refine lv_iconst (v := zI (1)) hx hb dX8_goThrough_70 rfl ?_
                      refine lv_goto (tgt := 75) hx hb dX8_goThrough_71 (by decide) ?_
                      refine pz_iadd hx hb dX8_goThrough_75 ?_
                      refine lv_istore_n (lv' := [(2, .int (zI (sm + 1))), (5, .int (zI 4)), (0, .ref (ad 120)), (1, .int (zI cn)), (3, .int (zI ch)), (4, .int (zI (kq : Int)))]) hx hb dX8_goThrough_76 rfl hl (by decide) rfl (fun ls hl => ?_)
                      refine lv_aload_n hx hb dX8_goThrough_77 rfl (lv_at hl 2 rfl) ?_
                      refine pw_get (r := 120) (ci := 8) (C := RX8) (T := TX8) (Nf := 21) hx hb w hts hin_X8_goThrough_8 hown (by omega) hm rfl 17 (by decide) (hts _ fl_X8_goThrough_51) (fun _ h9 => h9) rfl dX8_goThrough_78 ?_
                      refine lv_iconst (v := zI (0)) hx hb dX8_goThrough_81 rfl ?_
                      refine pw_iald (r := 133) (j := 0) hx hb w (by omega) l2 (by omega) (by omega) (by decide) dX8_goThrough_82 ?_
                      refine pz_top (b := (RVv lim no gn gg nn pt ln wi (dgs kq)).2.1) (eW) ?_
                      refine pz_ifle (tgt := 132) hx hb dX8_goThrough_83 (by decide) (⟨by omega, by omega⟩) (fun h99 => ?_) (fun h99 => ?_)
                      · omega
                      · refine lv_aload_n hx hb dX8_goThrough_86 rfl (lv_at hl 2 rfl) ?_
                        refine pw_get (r := 120) (ci := 8) (C := RX8) (T := TX8) (Nf := 21) hx hb w hts hin_X8_goThrough_8 hown (by omega) hm rfl 16 (by decide) (hts _ fl_X8_goThrough_48) (fun _ h9 => h9) rfl dX8_goThrough_87 ?_
                        refine lv_iconst (v := zI (0)) hx hb dX8_goThrough_90 rfl ?_
                        refine pw_iald (r := 132) (j := 0) hx hb w (by omega) l1 (by omega) (by omega) (by decide) dX8_goThrough_91 ?_
                        refine pz_top (b := (RVv lim no gn gg nn pt ln wi (dgs kq)).1) (eL) ?_
                        refine lv_iload_n hx hb dX8_goThrough_92 rfl (lv_at hl 4 rfl) ?_
                        refine pz_icmpge (tgt := 132) hx hb dX8_goThrough_93 (by decide) (⟨by omega, by omega⟩) (⟨by omega, by omega⟩) (fun hlt => ?_) (fun hlt => ?_)
                        · refine pz_iinc (lv' := [(4, .int (zI ((kq + 1 : Nat) : Int))), (2, .int (zI (sm + 1))), (5, .int (zI 4)), (0, .ref (ad 120)), (1, .int (zI cn)), (3, .int (zI ch))]) hx hb dX8_goThrough_132 hl (j := 5) rfl ((kq + 1 : Nat) : Int) (by omega) (by decide) rfl (fun ls hl => ?_)
                          refine lv_goto (tgt := 8) hx hb dX8_goThrough_135 (by decide) ?_
                          exact ih (kq + 1) (sm + 1) ch bo2 _ H locs ls (by omega) (by rw [goF, if_pos hok, hst]; dsimp only; rw [if_pos hW, if_neg (by omega), if_neg (by omega)]) hch hS1 hb1 hf (by omega) w (lv_sub hl [3, 4, 1, 5, 0] rfl)
                        · refine lv_aload_n hx hb dX8_goThrough_96 rfl (lv_at hl 2 rfl) ?_
                          refine pw_get (r := 120) (ci := 8) (C := RX8) (T := TX8) (Nf := 21) hx hb w hts hin_X8_goThrough_8 hown (by omega) hm rfl 16 (by decide) (hts _ fl_X8_goThrough_48) (fun _ h9 => h9) rfl dX8_goThrough_97 ?_
                          refine lv_iconst (v := zI (0)) hx hb dX8_goThrough_100 rfl ?_
                          refine pw_iald (r := 132) (j := 0) hx hb w (by omega) l1 (by omega) (by omega) (by decide) dX8_goThrough_101 ?_
                          refine pz_top (b := (RVv lim no gn gg nn pt ln wi (dgs kq)).1) (eL) ?_
                          refine lv_istore_n (lv' := [(3, .int (zI ((RVv lim no gn gg nn pt ln wi (dgs kq)).1))), (2, .int (zI (sm + 1))), (5, .int (zI 4)), (0, .ref (ad 120)), (1, .int (zI cn)), (4, .int (zI (kq : Int)))]) hx hb dX8_goThrough_102 rfl hl (by decide) rfl (fun ls hl => ?_)
                          refine lv_iconst (v := zI (0)) hx hb dX8_goThrough_103 rfl ?_
                          refine lv_istore (lv' := [(5, .int (zI 0)), (3, .int (zI ((RVv lim no gn gg nn pt ln wi (dgs kq)).1))), (2, .int (zI (sm + 1))), (0, .ref (ad 120)), (1, .int (zI cn)), (4, .int (zI (kq : Int)))]) hx hb dX8_goThrough_104 hl (by decide) rfl (fun ls hl => ?_)
                          refine lv_iload hx hb dX8_goThrough_106 (lv_at hl 0 rfl) ?_
                          refine lv_iconst (v := zI (4)) hx hb dX8_goThrough_108 rfl ?_
                          refine pz_icmpge (tgt := 132) hx hb dX8_goThrough_109 (by decide) (⟨by omega, by omega⟩) (⟨by omega, by omega⟩) (fun h14 => ?_) (fun h14 => ?_)
                          · omega
                          · refine lv_aload_n hx hb dX8_goThrough_112 rfl (lv_at hl 3 rfl) ?_
                            refine pw_get (r := 120) (ci := 8) (C := RX8) (T := TX8) (Nf := 21) hx hb w hts hin_X8_goThrough_8 hown (by omega) hm rfl 20 (by decide) (hts _ fl_X8_goThrough_60) (fun _ h9 => h9) rfl dX8_goThrough_113 ?_
                            refine lv_iload hx hb dX8_goThrough_116 (lv_at hl 0 rfl) ?_
                            refine lv_aload_n hx hb dX8_goThrough_118 rfl (lv_at hl 3 rfl) ?_
                            refine pw_get (r := 120) (ci := 8) (C := RX8) (T := TX8) (Nf := 21) hx hb w hts hin_X8_goThrough_8 hown (by omega) hm rfl 19 (by decide) (hts _ fl_X8_goThrough_57) (fun _ h9 => h9) rfl dX8_goThrough_119 ?_
                            refine lv_iload hx hb dX8_goThrough_122 (lv_at hl 0 rfl) ?_
                            refine pw_iald (r := 135) (j := 0) hx hb w (by omega) hO (by omega) (by omega) (by decide) dX8_goThrough_124 ?_
                            refine pw_iast' (r := 136) (j := 0) hx hb w (by omega) hb1 (by omega) (by omega) (by decide) dX8_goThrough_125 (fun H locs c15 hc15 fr15 w => ?_)
                            refine pz_iinc (lv' := [(5, .int (zI 1)), (3, .int (zI ((RVv lim no gn gg nn pt ln wi (dgs kq)).1))), (2, .int (zI (sm + 1))), (0, .ref (ad 120)), (1, .int (zI cn)), (4, .int (zI (kq : Int)))]) hx hb dX8_goThrough_126 hl (j := 0) rfl 1 (by omega) (by decide) rfl (fun ls hl => ?_)
                            refine lv_goto (tgt := 106) hx hb dX8_goThrough_129 (by decide) ?_
                            refine lv_iload hx hb dX8_goThrough_106 (lv_at hl 0 rfl) ?_
                            refine lv_iconst (v := zI (4)) hx hb dX8_goThrough_108 rfl ?_
                            refine pz_icmpge (tgt := 132) hx hb dX8_goThrough_109 (by decide) (⟨by omega, by omega⟩) (⟨by omega, by omega⟩) (fun h16 => ?_) (fun h16 => ?_)
                            · omega
                            · refine lv_aload_n hx hb dX8_goThrough_112 rfl (lv_at hl 3 rfl) ?_
                              refine pw_get (r := 120) (ci := 8) (C := RX8) (T := TX8) (Nf := 21) hx hb w hts hin_X8_goThrough_8 hown (by omega) ((fr15 120 (by omega)).trans hm) rfl 20 (by decide) (hts _ fl_X8_goThrough_60) (fun _ h9 => h9) rfl dX8_goThrough_113 ?_
                              refine lv_iload hx hb dX8_goThrough_116 (lv_at hl 0 rfl) ?_
                              refine lv_aload_n hx hb dX8_goThrough_118 rfl (lv_at hl 3 rfl) ?_
                              refine pw_get (r := 120) (ci := 8) (C := RX8) (T := TX8) (Nf := 21) hx hb w hts hin_X8_goThrough_8 hown (by omega) ((fr15 120 (by omega)).trans hm) rfl 19 (by decide) (hts _ fl_X8_goThrough_57) (fun _ h9 => h9) rfl dX8_goThrough_119 ?_
                              refine lv_iload hx hb dX8_goThrough_122 (lv_at hl 0 rfl) ?_
                              refine pw_iald (r := 135) (j := 1) hx hb w (by omega) (isA.fr (fr15 135 (by omega)) hO) (by omega) (by omega) (by decide) dX8_goThrough_124 ?_
                              refine pw_iast' (r := 136) (j := 1) hx hb w (by omega) hc15 (by omega) (by omega) (by decide) dX8_goThrough_125 (fun H locs c17 hc17 fr17 w => ?_)
                              refine pz_iinc (lv' := [(5, .int (zI 2)), (3, .int (zI ((RVv lim no gn gg nn pt ln wi (dgs kq)).1))), (2, .int (zI (sm + 1))), (0, .ref (ad 120)), (1, .int (zI cn)), (4, .int (zI (kq : Int)))]) hx hb dX8_goThrough_126 hl (j := 0) rfl 2 (by omega) (by decide) rfl (fun ls hl => ?_)
                              refine lv_goto (tgt := 106) hx hb dX8_goThrough_129 (by decide) ?_
                              refine lv_iload hx hb dX8_goThrough_106 (lv_at hl 0 rfl) ?_
                              refine lv_iconst (v := zI (4)) hx hb dX8_goThrough_108 rfl ?_
                              refine pz_icmpge (tgt := 132) hx hb dX8_goThrough_109 (by decide) (⟨by omega, by omega⟩) (⟨by omega, by omega⟩) (fun h18 => ?_) (fun h18 => ?_)
                              · omega
                              · refine lv_aload_n hx hb dX8_goThrough_112 rfl (lv_at hl 3 rfl) ?_
                                refine pw_get (r := 120) (ci := 8) (C := RX8) (T := TX8) (Nf := 21) hx hb w hts hin_X8_goThrough_8 hown (by omega) ((fr17 120 (by omega)).trans ((fr15 120 (by omega)).trans hm)) rfl 20 (by decide) (hts _ fl_X8_goThrough_60) (fun _ h9 => h9) rfl dX8_goThrough_113 ?_
                                refine lv_iload hx hb dX8_goThrough_116 (lv_at hl 0 rfl) ?_
                                refine lv_aload_n hx hb dX8_goThrough_118 rfl (lv_at hl 3 rfl) ?_
                                refine pw_get (r := 120) (ci := 8) (C := RX8) (T := TX8) (Nf := 21) hx hb w hts hin_X8_goThrough_8 hown (by omega) ((fr17 120 (by omega)).trans ((fr15 120 (by omega)).trans hm)) rfl 19 (by decide) (hts _ fl_X8_goThrough_57) (fun _ h9 => h9) rfl dX8_goThrough_119 ?_
                                refine lv_iload hx hb dX8_goThrough_122 (lv_at hl 0 rfl) ?_
                                refine pw_iald (r := 135) (j := 2) hx hb w (by omega) (isA.fr (fr17 135 (by omega)) (isA.fr (fr15 135 (by omega)) hO)) (by omega) (by omega) (by decide) dX8_goThrough_124 ?_
                                refine pw_iast' (r := 136) (j := 2) hx hb w (by omega) hc17 (by omega) (by omega) (by decide) dX8_goThrough_125 (fun H locs c19 hc19 fr19 w => ?_)
                                refine pz_iinc (lv' := [(5, .int (zI 3)), (3, .int (zI ((RVv lim no gn gg nn pt ln wi (dgs kq)).1))), (2, .int (zI (sm + 1))), (0, .ref (ad 120)), (1, .int (zI cn)), (4, .int (zI (kq : Int)))]) hx hb dX8_goThrough_126 hl (j := 0) rfl 3 (by omega) (by decide) rfl (fun ls hl => ?_)
                                refine lv_goto (tgt := 106) hx hb dX8_goThrough_129 (by decide) ?_
                                refine lv_iload hx hb dX8_goThrough_106 (lv_at hl 0 rfl) ?_
                                refine lv_iconst (v := zI (4)) hx hb dX8_goThrough_108 rfl ?_
                                refine pz_icmpge (tgt := 132) hx hb dX8_goThrough_109 (by decide) (⟨by omega, by omega⟩) (⟨by omega, by omega⟩) (fun h20 => ?_) (fun h20 => ?_)
                                · omega
                                · refine lv_aload_n hx hb dX8_goThrough_112 rfl (lv_at hl 3 rfl) ?_
                                  refine pw_get (r := 120) (ci := 8) (C := RX8) (T := TX8) (Nf := 21) hx hb w hts hin_X8_goThrough_8 hown (by omega) ((fr19 120 (by omega)).trans ((fr17 120 (by omega)).trans ((fr15 120 (by omega)).trans hm))) rfl 20 (by decide) (hts _ fl_X8_goThrough_60) (fun _ h9 => h9) rfl dX8_goThrough_113 ?_
                                  refine lv_iload hx hb dX8_goThrough_116 (lv_at hl 0 rfl) ?_
                                  refine lv_aload_n hx hb dX8_goThrough_118 rfl (lv_at hl 3 rfl) ?_
                                  refine pw_get (r := 120) (ci := 8) (C := RX8) (T := TX8) (Nf := 21) hx hb w hts hin_X8_goThrough_8 hown (by omega) ((fr19 120 (by omega)).trans ((fr17 120 (by omega)).trans ((fr15 120 (by omega)).trans hm))) rfl 19 (by decide) (hts _ fl_X8_goThrough_57) (fun _ h9 => h9) rfl dX8_goThrough_119 ?_
                                  refine lv_iload hx hb dX8_goThrough_122 (lv_at hl 0 rfl) ?_
                                  refine pw_iald (r := 135) (j := 3) hx hb w (by omega) (isA.fr (fr19 135 (by omega)) (isA.fr (fr17 135 (by omega)) (isA.fr (fr15 135 (by omega)) hO))) (by omega) (by omega) (by decide) dX8_goThrough_124 ?_
                                  refine pw_iast' (r := 136) (j := 3) hx hb w (by omega) hc19 (by omega) (by omega) (by decide) dX8_goThrough_125 (fun H locs c21 hc21 fr21 w => ?_)
                                  refine pz_iinc (lv' := [(5, .int (zI 4)), (3, .int (zI ((RVv lim no gn gg nn pt ln wi (dgs kq)).1))), (2, .int (zI (sm + 1))), (0, .ref (ad 120)), (1, .int (zI cn)), (4, .int (zI (kq : Int)))]) hx hb dX8_goThrough_126 hl (j := 0) rfl 4 (by omega) (by decide) rfl (fun ls hl => ?_)
                                  refine lv_goto (tgt := 106) hx hb dX8_goThrough_129 (by decide) ?_
                                  refine lv_iload hx hb dX8_goThrough_106 (lv_at hl 0 rfl) ?_
                                  refine lv_iconst (v := zI (4)) hx hb dX8_goThrough_108 rfl ?_
                                  refine pz_icmpge (tgt := 132) hx hb dX8_goThrough_109 (by decide) (⟨by omega, by omega⟩) (⟨by omega, by omega⟩) (fun h22 => ?_) (fun h22 => ?_)
                                  · have hb1 : isA 0 G (c21 136) 4 (fun j => (dgs kq j : Int)) := hc21.to (fun j hj => by
                                      unfold upI
                                      rcases (by omega : j = 0 ∨ j = 1 ∨ j = 2 ∨ j = 3) with h | h | h | h <;> subst h <;> simp)
                                    have hS1 := hS1.best hb1 (fun q hq => ((fr21 q (by omega)).trans ((fr19 q (by omega)).trans ((fr17 q (by omega)).trans ((fr15 q (by omega)).trans rfl)))))
                                    have hf : ∀ q, (q < 120 ∨ 137 ≤ q) → c21 q = c q := fun q hq => ((fr21 q (by omega)).trans ((fr19 q (by omega)).trans ((fr17 q (by omega)).trans ((fr15 q (by omega)).trans (hf q hq)))))
                                    refine pz_iinc (lv' := [(4, .int (zI ((kq + 1 : Nat) : Int))), (5, .int (zI 4)), (3, .int (zI ((RVv lim no gn gg nn pt ln wi (dgs kq)).1))), (2, .int (zI (sm + 1))), (0, .ref (ad 120)), (1, .int (zI cn))]) hx hb dX8_goThrough_132 hl (j := 5) rfl ((kq + 1 : Nat) : Int) (by omega) (by decide) rfl (fun ls hl => ?_)
                                    refine lv_goto (tgt := 8) hx hb dX8_goThrough_135 (by decide) ?_
                                    exact ih (kq + 1) (sm + 1) (RVv lim no gn gg nn pt ln wi (dgs kq)).1 _ _ H locs ls (by omega) (by rw [goF, if_pos hok, hst]; dsimp only; rw [if_pos hW, if_pos ⟨hW, hlt⟩, if_pos ⟨hW, hlt⟩]) ⟨by omega, by omega⟩ hS1 hb1 hf (by omega) w (lv_sub hl [4, 5, 3, 2, 0] rfl)
                                  · omega
                  · omega
  exact lp 257 0 0 1000000 bo c H locs ls (by omega) rfl ⟨by omega, by omega⟩ hS hb0 (fun _ _ => rfl) (by omega) w (lv_sub hl [3, 4, 2, 1, 0] rfl)
