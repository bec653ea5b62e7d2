def upT {α : Type} (f : Nat → α) (t : Nat) (g : α) : Nat → α := fun u => if u = t then g else f u
theorem upT_eq {α : Type} (f : Nat → α) (t : Nat) (g : α) : upT f t g t = g := if_pos rfl
theorem upT_ne {α : Type} (f : Nat → α) {t u : Nat} (g : α) (h : u ≠ t) : upT f t g u = f u := if_neg h
theorem upI_upT (nn : Nat → Nat) (t v : Nat) (z : Int) (hz : z = (v : Int)) : upI (fun t => (nn t : Int)) t z = fun u => ((upT nn t v u : Nat) : Int) := by
  funext u
  unfold upI upT
  by_cases h : u = t <;> simp [h, hz]

theorem hin_X8_enter_8 : ∀ w ∈ u_ws RX8 TX8 21, w ∈ wsX8_enter := by decide +kernel
theorem fl_X8_enter_85 : Cond.fieldLink RX8 85 "PipersDeskModel" "drafted" "I" ∈ wsX8_enter := by decide +kernel
theorem fl_X8_enter_88 : Cond.fieldLink RX8 88 "PipersDeskModel" "ornaments" "I" ∈ wsX8_enter := by decide +kernel
abbrev rm_X8_enter : Room := { frames := 2, cells := 0, slots := 0, locals := 60 }
set_option maxHeartbeats 4000000 in
set_option maxRecDepth 100000 in
/-- X8_enter_bad -/
theorem c_X8_enter_bad (l : Launch) (D : va_G) (G : Nat → ClassId) (ad : Nat → Nat) (N : Nat) (c : Nat → va_E) {th lim : Int} {no dn : Nat} {gn : Nat → Nat} {gg : Nat → Nat → Nat} {dg nn : Nat → Nat} {pt ln : Nat → Nat → Nat} {wi : Nat → Nat → Int} (hN : 139 ≤ N) (hS : MS G ad c th lim no dn gn gg dg nn pt ln wi) (hV : SV lim no dn gn gg dg nn pt ln wi) (hbad : dn = 0 ∨ no = 8) : MC l yX8_enter wsX8_enter rm_X8_enter [.ref (ad 120)] D G ad N c (qI D G (fx ad N) (fun v c1 => v = zI 0 ∧ MS G ad c1 1 lim no dn gn gg dg nn pt ln wi ∧ ∀ q, (q < 120 ∨ 137 ≤ q) → c1 q = c q)) 0 0 := by
  refine MCi.of (cc := cX8_enter) (maxL := 2) (by decide) rfl (Nat.le_of_ble_eq_true rfl) ?_
  intro p e s m args below meth kc A Q hx hb hts hown hml fin H locs w ls hl
  have hown : s.vm.findClass RX8 = some m.cls := hown
  have hl : lv_has ls 2 [(0, .ref (ad 120))] := hl
  obtain ⟨⟨row, hm⟩, hh, hB, hDr, hMT, hMR⟩ := id hS
  obtain ⟨hlim, hOV, hdn4, hdg, hUV⟩ := id hV
  have hlb : bnd lim := ⟨by omega, by omega⟩
  have hno8 := hOV.1
  refine lv_aload_n hx hb dX8_enter_0 rfl (lv_at hl 0 rfl) ?_
  refine lv_aload_n hx hb dX8_enter_1 rfl (lv_at hl 0 rfl) ?_
  refine pw_get (r := 120) (ci := 8) (C := RX8) (T := TX8) (Nf := 21) hx hb w hts hin_X8_enter_8 hown (by omega) hm rfl 7 (by decide) (hts _ fl_X8_enter_85) (fun _ h9 => h9) rfl dX8_enter_2 ?_
  refine pz_ifeq (tgt := 17) hx hb dX8_enter_5 (by decide) (⟨by omega, by omega⟩) (fun h1 => ?_) (fun h1 => ?_)
  · refine lv_iconst (v := zI (1)) hx hb dX8_enter_17 rfl ?_
    refine lv_goto (tgt := 22) hx hb dX8_enter_18 (by decide) ?_
    refine pw_ci w (pw_runV (r := 120) (ci := 8) (As := [.int (zI 1)]) (rest := []) w ⟨hx, hb, hml, hown, hts⟩ (c_X8_goesWell l D G ad N c (pl := 1) hN hm ⟨by decide, by decide⟩) (cwV 1 hts gX8_enter_X8_goesWell rfl rfl rfl (by decide +kernel) ⟨Nat.le_of_ble_eq_true rfl, Nat.le_of_ble_eq_true rfl⟩) (by omega) hm rfl rfl hl.1 rfl (lv_room (Nat.le_of_ble_eq_true rfl)) dX8_enter_22 ⟨Nat.le_of_ble_eq_true rfl, Nat.le_of_ble_eq_true rfl⟩) (fun r_ c2 H locs hp w => ?_)
    have w : PW D G A s ad N c2 H locs := w
    obtain ⟨hv2, hm2, fr2⟩ := hp
    subst hv2
    refine pz_top (b := 0) (if_neg (by omega)) ?_
    have hS2 := hS.to hm2 fr2
    have hm := hm2
    obtain ⟨-, hh, hB, hDr, hMT, hMR⟩ := id hS2
    refine pz_ifne (tgt := 30) hx hb dX8_enter_25 (by decide) (⟨by omega, by omega⟩) (fun h3 => ?_) (fun h3 => ?_)
    · omega
    · refine lv_iconst (v := zI (0)) hx hb dX8_enter_28 rfl ?_
      exact fin (ad, N, c2) c2 _ _ _ _ _ _ _ rfl ⟨rfl, hS2, fun q hq => ((fr2 q (by omega)).trans rfl)⟩ w dX8_enter_29 (Nat.le_refl _) (Nat.le_refl _)
  · refine lv_aload_n hx hb dX8_enter_8 rfl (lv_at hl 0 rfl) ?_
    refine pw_get (r := 120) (ci := 8) (C := RX8) (T := TX8) (Nf := 21) hx hb w hts hin_X8_enter_8 hown (by omega) hm rfl 5 (by decide) (hts _ fl_X8_enter_88) (fun _ h9 => h9) rfl dX8_enter_9 ?_
    refine lv_bipush (v := zI (8)) hx hb dX8_enter_12 (by decide +kernel) ?_
    refine pz_icmpne (tgt := 21) hx hb dX8_enter_14 (by decide) (⟨by omega, by omega⟩) (⟨by omega, by omega⟩) (fun h4 => ?_) (fun h4 => ?_)
    · refine lv_iconst (v := zI (0)) hx hb dX8_enter_21 rfl ?_
      omega
    · refine lv_iconst (v := zI (1)) hx hb dX8_enter_17 rfl ?_
      refine lv_goto (tgt := 22) hx hb dX8_enter_18 (by decide) ?_
      refine pw_ci w (pw_runV (r := 120) (ci := 8) (As := [.int (zI 1)]) (rest := []) w ⟨hx, hb, hml, hown, hts⟩ (c_X8_goesWell l D G ad N c (pl := 1) hN hm ⟨by decide, by decide⟩) (cwV 1 hts gX8_enter_X8_goesWell rfl rfl rfl (by decide +kernel) ⟨Nat.le_of_ble_eq_true rfl, Nat.le_of_ble_eq_true rfl⟩) (by omega) hm rfl rfl hl.1 rfl (lv_room (Nat.le_of_ble_eq_true rfl)) dX8_enter_22 ⟨Nat.le_of_ble_eq_true rfl, Nat.le_of_ble_eq_true rfl⟩) (fun r_ c5 H locs hp w => ?_)
      have w : PW D G A s ad N c5 H locs := w
      obtain ⟨hv5, hm5, fr5⟩ := hp
      subst hv5
      refine pz_top (b := 0) (if_neg (by omega)) ?_
      have hS5 := hS.to hm5 fr5
      have hm := hm5
      obtain ⟨-, hh, hB, hDr, hMT, hMR⟩ := id hS5
      refine pz_ifne (tgt := 30) hx hb dX8_enter_25 (by decide) (⟨by omega, by omega⟩) (fun h6 => ?_) (fun h6 => ?_)
      · omega
      · refine lv_iconst (v := zI (0)) hx hb dX8_enter_28 rfl ?_
        exact fin (ad, N, c5) c5 _ _ _ _ _ _ _ rfl ⟨rfl, hS5, fun q hq => ((fr5 q (by omega)).trans rfl)⟩ w dX8_enter_29 (Nat.le_refl _) (Nat.le_refl _)

theorem fl_X8_enter_20 : Cond.fieldLink RX8 20 "PipersDeskModel" "graceMany" "[I" ∈ wsX8_enter := by decide +kernel
theorem fl_X8_enter_17 : Cond.fieldLink RX8 17 "PipersDeskModel" "graces" "[I" ∈ wsX8_enter := by decide +kernel
theorem fl_X8_enter_23 : Cond.fieldLink RX8 23 "PipersDeskModel" "draft" "[I" ∈ wsX8_enter := by decide +kernel
set_option maxHeartbeats 4000000 in
set_option maxRecDepth 100000 in
/-- X8_enter_ok -/
theorem c_X8_enter_ok (l : Launch) (D : va_G) (G : Nat → ClassId) (ad : Nat → Nat) (N : Nat) (c : Nat → va_E) {th lim : Int} {no dn : Nat} {gn : Nat → Nat} {gg : Nat → Nat → Nat} {dg nn : Nat → Nat} {pt ln : Nat → Nat → Nat} {wi : Nat → Nat → Int} (hN : 139 ≤ N) (hS : MS G ad c th lim no dn gn gg dg nn pt ln wi) (hV : SV lim no dn gn gg dg nn pt ln wi) (hd1 : 1 ≤ dn) (ho7 : no < 8) : MC l yX8_enter wsX8_enter rm_X8_enter [.ref (ad 120)] D G ad N c (qI D G (fx ad N) (fun v c1 => v = zI (no : Int) ∧ MS G ad c1 0 lim (no + 1) 0 (fun k => if k = no then dn else gn k) (fun k => if k = no then dg else gg k) dg nn pt ln wi ∧ ∀ q, (q < 120 ∨ 137 ≤ q) → c1 q = c q)) 0 0 := by
  refine MCi.of (cc := cX8_enter) (maxL := 2) (by decide) rfl (Nat.le_of_ble_eq_true rfl) ?_
  intro p e s m args below meth kc A Q hx hb hts hown hml fin H locs w ls hl
  have hown : s.vm.findClass RX8 = some m.cls := hown
  have hl : lv_has ls 2 [(0, .ref (ad 120))] := hl
  obtain ⟨⟨row, hm⟩, hh, hB, hDr, hMT, hMR⟩ := id hS
  obtain ⟨hlim, hOV, hdn4, hdg, hUV⟩ := id hV
  have hlb : bnd lim := ⟨by omega, by omega⟩
  have hno8 := hOV.1
  refine lv_aload_n hx hb dX8_enter_0 rfl (lv_at hl 0 rfl) ?_
  refine lv_aload_n hx hb dX8_enter_1 rfl (lv_at hl 0 rfl) ?_
  refine pw_get (r := 120) (ci := 8) (C := RX8) (T := TX8) (Nf := 21) hx hb w hts hin_X8_enter_8 hown (by omega) hm rfl 7 (by decide) (hts _ fl_X8_enter_85) (fun _ h9 => h9) rfl dX8_enter_2 ?_
  refine pz_ifeq (tgt := 17) hx hb dX8_enter_5 (by decide) (⟨by omega, by omega⟩) (fun h1 => ?_) (fun h1 => ?_)
  · refine lv_iconst (v := zI (1)) hx hb dX8_enter_17 rfl ?_
    refine lv_goto (tgt := 22) hx hb dX8_enter_18 (by decide) ?_
    omega
  · refine lv_aload_n hx hb dX8_enter_8 rfl (lv_at hl 0 rfl) ?_
    refine pw_get (r := 120) (ci := 8) (C := RX8) (T := TX8) (Nf := 21) hx hb w hts hin_X8_enter_8 hown (by omega) hm rfl 5 (by decide) (hts _ fl_X8_enter_88) (fun _ h9 => h9) rfl dX8_enter_9 ?_
    refine lv_bipush (v := zI (8)) hx hb dX8_enter_12 (by decide +kernel) ?_
    refine pz_icmpne (tgt := 21) hx hb dX8_enter_14 (by decide) (⟨by omega, by omega⟩) (⟨by omega, by omega⟩) (fun h2 => ?_) (fun h2 => ?_)
    · refine lv_iconst (v := zI (0)) hx hb dX8_enter_21 rfl ?_
      refine pw_ci w (pw_runV (r := 120) (ci := 8) (As := [.int (zI 0)]) (rest := []) w ⟨hx, hb, hml, hown, hts⟩ (c_X8_goesWell l D G ad N c (pl := 0) hN hm ⟨by decide, by decide⟩) (cwV 1 hts gX8_enter_X8_goesWell rfl rfl rfl (by decide +kernel) ⟨Nat.le_of_ble_eq_true rfl, Nat.le_of_ble_eq_true rfl⟩) (by omega) hm rfl rfl hl.1 rfl (lv_room (Nat.le_of_ble_eq_true rfl)) dX8_enter_22 ⟨Nat.le_of_ble_eq_true rfl, Nat.le_of_ble_eq_true rfl⟩) (fun r_ c3 H locs hp w => ?_)
      have w : PW D G A s ad N c3 H locs := w
      obtain ⟨hv3, hm3, fr3⟩ := hp
      subst hv3
      refine pz_top (b := 1) (if_pos (by omega)) ?_
      have hS3 := hS.to hm3 fr3
      have hm := hm3
      obtain ⟨-, hh, hB, hDr, hMT, hMR⟩ := id hS3
      refine pz_ifne (tgt := 30) hx hb dX8_enter_25 (by decide) (⟨by omega, by omega⟩) (fun h4 => ?_) (fun h4 => ?_)
      · obtain ⟨⟨g2, b2, b2p⟩, g3, b3, b3p⟩ := id hB
        refine lv_iconst (v := zI (0)) hx hb dX8_enter_30 rfl ?_
        refine lv_istore_n (lv' := [(1, .int (zI 0)), (0, .ref (ad 120))]) hx hb dX8_enter_31 rfl hl (by decide) rfl (fun ls hl => ?_)
        have lp : ∀ (f : Nat) (i : Nat) (u2 : Nat → Int) (c1 : Nat → va_E) (H : Heap) (locs : List Loc) (ls : Array Slot), i ≤ dn → isA 0 G (c1 122) 32 u2 → (∀ k, k < no → ∀ j, j < gn k → u2 (4 * k + j) = (gg k j : Int)) → (∀ j, j < i → u2 (4 * no + j) = (dg j : Int)) → (∀ q, q ≠ 122 → c1 q = c3 q) → dn < i + f → PW D G A s ad N c1 H locs → lv_has ls 2 [(0, .ref (ad 120)), (1, .int (zI (i : Int)))] → W p l e rm_X8_enter s m args below meth kc H locs 0 0 Q (F0 m 32 ls []) := by
          intro f
          induction f with
          | zero => intro i u2 c1 H locs ls h9 q2 q2p q2d hf hfu w hl; omega
          | succ f ih =>
            intro i u2 c1 H locs ls h9 q2 q2p q2d hf hfu w hl
            refine lv_iload_n hx hb dX8_enter_32 rfl (lv_at hl 1 rfl) ?_
            refine lv_aload_n hx hb dX8_enter_33 rfl (lv_at hl 0 rfl) ?_
            refine pw_get (r := 120) (ci := 8) (C := RX8) (T := TX8) (Nf := 21) hx hb w hts hin_X8_enter_8 hown (by omega) ((hf 120 (by omega)).trans hm) rfl 7 (by decide) (hts _ fl_X8_enter_85) (fun _ h9 => h9) rfl dX8_enter_34 ?_
            refine pz_icmpge (tgt := 65) hx hb dX8_enter_37 (by decide) (⟨by omega, by omega⟩) (⟨by omega, by omega⟩) (fun hi => ?_) (fun hi => ?_)
            · have i9 : i = dn := by omega
              rw [i9] at q2d
              refine lv_aload_n hx hb dX8_enter_65 rfl (lv_at hl 0 rfl) ?_
              refine pw_get (r := 120) (ci := 8) (C := RX8) (T := TX8) (Nf := 21) hx hb w hts hin_X8_enter_8 hown (by omega) ((hf 120 (by omega)).trans hm) rfl 4 (by decide) (hts _ fl_X8_enter_20) (fun _ h9 => h9) rfl dX8_enter_66 ?_
              refine lv_aload_n hx hb dX8_enter_69 rfl (lv_at hl 0 rfl) ?_
              refine pw_get (r := 120) (ci := 8) (C := RX8) (T := TX8) (Nf := 21) hx hb w hts hin_X8_enter_8 hown (by omega) ((hf 120 (by omega)).trans hm) rfl 5 (by decide) (hts _ fl_X8_enter_88) (fun _ h9 => h9) rfl dX8_enter_70 ?_
              refine lv_aload_n hx hb dX8_enter_73 rfl (lv_at hl 0 rfl) ?_
              refine pw_get (r := 120) (ci := 8) (C := RX8) (T := TX8) (Nf := 21) hx hb w hts hin_X8_enter_8 hown (by omega) ((hf 120 (by omega)).trans hm) rfl 7 (by decide) (hts _ fl_X8_enter_85) (fun _ h9 => h9) rfl dX8_enter_74 ?_
              refine pw_iast' (r := 123) (j := no) hx hb w (by omega) (isA.fr (hf 123 (by omega)) b3) (by omega) (by omega) (by decide) dX8_enter_77 (fun H locs c5 hc5 fr5 w => ?_)
              refine lv_aload_n hx hb dX8_enter_78 rfl (lv_at hl 0 rfl) ?_
              refine lv_iconst (v := zI (0)) hx hb dX8_enter_79 rfl ?_
              refine pw_put' (r := 120) (ci := 8) (C := RX8) (T := TX8) (Nf := 21) hx hb w hts hin_X8_enter_8 tyX8 tyX8_ok nmX8 hown (by omega) ((fr5 120 (by omega)).trans ((hf 120 (by omega)).trans hm)) rfl 7 (by decide) (hts _ fl_X8_enter_85) (fun _ h9 => h9) rfl (ty := .int) (by decide +kernel) rfl rfl (Nat.le_of_ble_eq_true rfl) dX8_enter_80 (fun H locs c6 hc6 fr6 w => ?_)
              refine lv_aload_n hx hb dX8_enter_83 rfl (lv_at hl 0 rfl) ?_
              refine lv_dup hx hb dX8_enter_84 rfl ?_
              refine pw_get (r := 120) (ci := 8) (C := RX8) (T := TX8) (Nf := 21) hx hb w hts hin_X8_enter_8 hown (by omega) hc6 rfl 5 (by decide) (hts _ fl_X8_enter_88) (fun _ h9 => h9) rfl dX8_enter_85 ?_
              refine lv_iconst (v := zI (1)) hx hb dX8_enter_88 rfl ?_
              refine pz_iadd hx hb dX8_enter_89 ?_
              refine pw_put' (r := 120) (ci := 8) (C := RX8) (T := TX8) (Nf := 21) hx hb w hts hin_X8_enter_8 tyX8 tyX8_ok nmX8 hown (by omega) hc6 rfl 5 (by decide) (hts _ fl_X8_enter_88) (fun _ h9 => h9) rfl (ty := .int) (by decide +kernel) rfl rfl (Nat.le_of_ble_eq_true rfl) dX8_enter_90 (fun H locs c7 hc7 fr7 w => ?_)
              refine lv_aload_n hx hb dX8_enter_93 rfl (lv_at hl 0 rfl) ?_
              refine pw_get (r := 120) (ci := 8) (C := RX8) (T := TX8) (Nf := 21) hx hb w hts hin_X8_enter_8 hown (by omega) hc7 rfl 5 (by decide) (hts _ fl_X8_enter_88) (fun _ h9 => h9) rfl dX8_enter_94 ?_
              refine lv_iconst (v := zI (1)) hx hb dX8_enter_97 rfl ?_
              refine pz_isub hx hb dX8_enter_98 ?_
              refine pz_top (b := (no : Int)) (by omega) ?_
              have hS9 : MS G ad c7 0 lim (no + 1) 0 (fun k => if k = no then dn else gn k) (fun k => if k = no then dg else gg k) dg nn pt ln wi := ⟨⟨_, by rw [show ((no + 1 : Nat) : Int) = (no : Int) + 1 from by omega]; exact hc7⟩, isA.fr ((fr7 121 (by omega)).trans ((fr6 121 (by omega)).trans ((fr5 121 (by omega)).trans (hf 121 (by omega))))) hh, ⟨⟨u2, isA.fr ((fr7 122 (by omega)).trans ((fr6 122 (by omega)).trans ((fr5 122 (by omega)).trans rfl))) q2, fun k hk j hj => by
                by_cases h : k = no
                · subst h
                  simp only [if_true] at hj ⊢
                  exact q2d j hj
                · simp only [if_neg h] at hj ⊢
                  exact q2p k (by omega) j hj⟩, _, (isA.fr (fr7 123 (by omega)) (isA.fr (fr6 123 (by omega)) hc5)), fun k hk => by
                unfold upI
                by_cases h : k = no
                · simp [h]
                · simp only [if_neg h]
                  exact b3p k (by omega)⟩, isA.fr ((fr7 124 (by omega)).trans ((fr6 124 (by omega)).trans ((fr5 124 (by omega)).trans (hf 124 (by omega))))) hDr, hMT.fr (fun q _ _ => ((fr7 q (by omega)).trans ((fr6 q (by omega)).trans ((fr5 q (by omega)).trans (hf q (by omega)))))), hMR.fr (fun q _ _ => ((fr7 q (by omega)).trans ((fr6 q (by omega)).trans ((fr5 q (by omega)).trans (hf q (by omega))))))⟩
              exact fin (ad, N, c7) c7 _ _ _ _ _ _ _ rfl ⟨rfl, hS9, fun q hq => ((fr7 q (by omega)).trans ((fr6 q (by omega)).trans ((fr5 q (by omega)).trans ((hf q (by omega)).trans ((fr3 q (by omega)).trans rfl)))))⟩ w dX8_enter_99 (Nat.le_refl _) (Nat.le_refl _)
            · refine lv_aload_n hx hb dX8_enter_40 rfl (lv_at hl 0 rfl) ?_
              refine pw_get (r := 120) (ci := 8) (C := RX8) (T := TX8) (Nf := 21) hx hb w hts hin_X8_enter_8 hown (by omega) ((hf 120 (by omega)).trans hm) rfl 3 (by decide) (hts _ fl_X8_enter_17) (fun _ h9 => h9) rfl dX8_enter_41 ?_
              refine lv_iconst (v := zI (4)) hx hb dX8_enter_44 rfl ?_
              refine lv_aload_n hx hb dX8_enter_45 rfl (lv_at hl 0 rfl) ?_
              refine pw_get (r := 120) (ci := 8) (C := RX8) (T := TX8) (Nf := 21) hx hb w hts hin_X8_enter_8 hown (by omega) ((hf 120 (by omega)).trans hm) rfl 5 (by decide) (hts _ fl_X8_enter_88) (fun _ h9 => h9) rfl dX8_enter_46 ?_
              refine pz_imul hx hb dX8_enter_49 ?_
              refine lv_iload_n hx hb dX8_enter_50 rfl (lv_at hl 1 rfl) ?_
              refine pz_iadd hx hb dX8_enter_51 ?_
              refine lv_aload_n hx hb dX8_enter_52 rfl (lv_at hl 0 rfl) ?_
              refine pw_get (r := 120) (ci := 8) (C := RX8) (T := TX8) (Nf := 21) hx hb w hts hin_X8_enter_8 hown (by omega) ((hf 120 (by omega)).trans hm) rfl 6 (by decide) (hts _ fl_X8_enter_23) (fun _ h9 => h9) rfl dX8_enter_53 ?_
              refine lv_iload_n hx hb dX8_enter_56 rfl (lv_at hl 1 rfl) ?_
              refine pw_iald (r := 124) (j := i) hx hb w (by omega) (isA.fr (hf 124 (by omega)) hDr) (by omega) (by omega) (by decide) dX8_enter_57 ?_
              refine pw_iast' (r := 122) (j := (4 * no + i)) hx hb w (by omega) q2 (by omega) (by omega) (by decide) dX8_enter_58 (fun H locs c8 hc8 fr8 w => ?_)
              refine pz_iinc (lv' := [(1, .int (zI ((i + 1 : Nat) : Int))), (0, .ref (ad 120))]) hx hb dX8_enter_59 hl (j := 1) rfl ((i + 1 : Nat) : Int) (by omega) (by decide) rfl (fun ls hl => ?_)
              refine lv_goto (tgt := 32) hx hb dX8_enter_62 (by decide) ?_
              exact ih (i + 1) _ c8 H locs ls (by omega) hc8 (fun k hk j hj => by
                have h4 := (hOV.2 k hk).2.1
                unfold upI
                rw [if_neg (by omega)]
                exact q2p k hk j hj) (fun j hj => by
                unfold upI
                by_cases h : j = i
                · simp [h]
                · rw [if_neg (by omega)]
                  exact q2d j (by omega)) (fun q hq => (fr8 q hq).trans (hf q hq)) (by omega) w (lv_sub hl [1, 0] rfl)
        exact lp (dn + 1) 0 g2 c3 H locs ls (by omega) b2 b2p (fun j hj => by omega) (fun _ _ => rfl) (by omega) w (lv_sub hl [1, 0] rfl)
      · omega
    · refine lv_iconst (v := zI (1)) hx hb dX8_enter_17 rfl ?_
      refine lv_goto (tgt := 22) hx hb dX8_enter_18 (by decide) ?_
      omega

theorem hin_X8_fits_8 : ∀ w ∈ u_ws RX8 TX8 21, w ∈ wsX8_fits := by decide +kernel
theorem fl_X8_fits_88 : Cond.fieldLink RX8 88 "PipersDeskModel" "ornaments" "I" ∈ wsX8_fits := by decide +kernel
theorem wd_X8_fits_k91 : Cond.constant RX8 91 (1000000) ∈ wsX8_fits := by decide +kernel
abbrev rm_X8_fits : Room := { frames := 4, cells := 0, slots := 0, locals := 120 }
set_option maxHeartbeats 4000000 in
set_option maxRecDepth 100000 in
/-- X8_fits_ok -/
theorem c_X8_fits_ok (l : Launch) (D : va_G) (G : Nat → ClassId) (ad : Nat → Nat) (N : Nat) (c : Nat → va_E) {th lim : Int} {no dn : Nat} {gn : Nat → Nat} {gg : Nat → Nat → Nat} {dg nn : Nat → Nat} {pt ln : Nat → Nat → Nat} {wi : Nat → Nat → Int} (hN : 139 ≤ N) (hS : MS G ad c th lim no dn gn gg dg nn pt ln wi) (hV : SV lim no dn gn gg dg nn pt ln wi) {o x mm y : Nat} (ho : 1 ≤ o ∧ o ≤ no) (hx9 : x < 9) (hmm : 1 ≤ mm ∧ mm ≤ 32) (hy9 : y < 9) : MC l yX8_fits wsX8_fits rm_X8_fits [.ref (ad 120), .int (zI ((o : Int) - 1)), .int (zI (x : Int)), .int (zI (mm : Int)), .int (zI (y : Int))] D G ad N c (qI D G (fx ad N) (fun v c1 => v = zI (if (bw lim gn gg x mm y o) < 1000000 then 1 else 0) ∧ MS G ad c1 0 lim no dn gn gg dg nn pt ln wi ∧ ∀ q, (q < 120 ∨ 137 ≤ q) → c1 q = c q)) 0 0 := by
  refine MCz.of (cc := cX8_fits) (maxL := 6) (by decide) rfl (Nat.le_of_ble_eq_true rfl) ?_
  intro p e s m args below meth kc A Q hx hb hts hown hml fin H locs w ls hl
  have hown : s.vm.findClass RX8 = some m.cls := hown
  have hl : lv_has ls 6 [(0, .ref (ad 120)), (1, .int (zI ((o : Int) - 1))), (2, .int (zI (x : Int))), (3, .int (zI (mm : Int))), (4, .int (zI (y : Int)))] := hl
  obtain ⟨⟨row, hm⟩, hh, hB, hDr, hMT, hMR⟩ := id hS
  obtain ⟨hlim, hOV, hdn4, hdg, hUV⟩ := id hV
  have hlb : bnd lim := ⟨by omega, by omega⟩
  have hno8 := hOV.1
  refine lv_iload_n hx hb dX8_fits_0 rfl (lv_at hl 2 rfl) ?_
  refine pw_ci w (pw_runS (As := [.int (zI (x : Int))]) (rest := []) w ⟨hx, hb, hml, hown, hts⟩ (c_X8_isPitch l D G ad N c (v := (x : Int)) ⟨by omega, by omega⟩) (va_cwS 1 hts gX8_fits_X8_isPitch rfl rfl rfl (by decide +kernel) ⟨Nat.le_of_ble_eq_true rfl, Nat.le_of_ble_eq_true rfl⟩) rfl hl.1 rfl (lv_room (Nat.le_of_ble_eq_true rfl)) dX8_fits_1 ⟨Nat.le_of_ble_eq_true rfl, Nat.le_of_ble_eq_true rfl⟩) (fun r_ u H locs hp w => ?_)
  obtain ⟨hv, hu⟩ := hp
  subst hv
  have w : PW D G A s ad N c H locs := by rw [hu] at w; exact w
  clear hu
  refine pz_top (b := 1) (if_pos (by omega)) ?_
  refine pz_ifeq (tgt := 29) hx hb dX8_fits_4 (by decide) (⟨by omega, by omega⟩) (fun h1 => ?_) (fun h1 => ?_)
  · omega
  · refine lv_iload_n hx hb dX8_fits_7 rfl (lv_at hl 3 rfl) ?_
    refine lv_iconst (v := zI (1)) hx hb dX8_fits_8 rfl ?_
    refine lv_bipush (v := zI (32)) hx hb dX8_fits_9 (by decide +kernel) ?_
    refine pw_ci w (pw_runS (As := [.int (zI (mm : Int)), .int (zI 1), .int (zI 32)]) (rest := []) w ⟨hx, hb, hml, hown, hts⟩ (c_X8_in l D G ad N c (v := (mm : Int)) (lo := 1) (hi := 32) ⟨by omega, by omega⟩ ⟨by omega, by omega⟩ ⟨by omega, by omega⟩) (va_cwS 3 hts gX8_fits_X8_in rfl rfl rfl (by decide +kernel) ⟨Nat.le_of_ble_eq_true rfl, Nat.le_of_ble_eq_true rfl⟩) rfl hl.1 rfl (lv_room (Nat.le_of_ble_eq_true rfl)) dX8_fits_11 ⟨Nat.le_of_ble_eq_true rfl, Nat.le_of_ble_eq_true rfl⟩) (fun r_ u H locs hp w => ?_)
    obtain ⟨hv, hu⟩ := hp
    subst hv
    have w : PW D G A s ad N c H locs := by rw [hu] at w; exact w
    clear hu
    refine pz_top (b := 1) (if_pos (by omega)) ?_
    refine pz_ifeq (tgt := 29) hx hb dX8_fits_14 (by decide) (⟨by omega, by omega⟩) (fun h2 => ?_) (fun h2 => ?_)
    · omega
    · refine lv_iload hx hb dX8_fits_17 (lv_at hl 4 rfl) ?_
      refine pw_ci w (pw_runS (As := [.int (zI (y : Int))]) (rest := []) w ⟨hx, hb, hml, hown, hts⟩ (c_X8_isPitch l D G ad N c (v := (y : Int)) ⟨by omega, by omega⟩) (va_cwS 1 hts gX8_fits_X8_isPitch rfl rfl rfl (by decide +kernel) ⟨Nat.le_of_ble_eq_true rfl, Nat.le_of_ble_eq_true rfl⟩) rfl hl.1 rfl (lv_room (Nat.le_of_ble_eq_true rfl)) dX8_fits_19 ⟨Nat.le_of_ble_eq_true rfl, Nat.le_of_ble_eq_true rfl⟩) (fun r_ u H locs hp w => ?_)
      obtain ⟨hv, hu⟩ := hp
      subst hv
      have w : PW D G A s ad N c H locs := by rw [hu] at w; exact w
      clear hu
      refine pz_top (b := 1) (if_pos (by omega)) ?_
      refine pz_ifeq (tgt := 29) hx hb dX8_fits_22 (by decide) (⟨by omega, by omega⟩) (fun h3 => ?_) (fun h3 => ?_)
      · omega
      · refine lv_iconst (v := zI (1)) hx hb dX8_fits_25 rfl ?_
        refine lv_goto (tgt := 30) hx hb dX8_fits_26 (by decide) ?_
        refine lv_istore (lv' := [(5, .int (zI 1)), (0, .ref (ad 120)), (1, .int (zI ((o : Int) - 1))), (2, .int (zI (x : Int))), (3, .int (zI (mm : Int))), (4, .int (zI (y : Int)))]) hx hb dX8_fits_30 hl (by decide) rfl (fun ls hl => ?_)
        refine lv_aload_n hx hb dX8_fits_32 rfl (lv_at hl 1 rfl) ?_
        refine lv_iload_n hx hb dX8_fits_33 rfl (lv_at hl 2 rfl) ?_
        refine lv_iconst (v := zI (0)) hx hb dX8_fits_34 rfl ?_
        refine lv_aload_n hx hb dX8_fits_35 rfl (lv_at hl 1 rfl) ?_
        refine pw_get (r := 120) (ci := 8) (C := RX8) (T := TX8) (Nf := 21) hx hb w hts hin_X8_fits_8 hown (by omega) hm rfl 5 (by decide) (hts _ fl_X8_fits_88) (fun _ h9 => h9) rfl dX8_fits_36 ?_
        refine lv_iconst (v := zI (1)) hx hb dX8_fits_39 rfl ?_
        refine pz_isub hx hb dX8_fits_40 ?_
        refine pw_ci w (pw_runS (As := [.int (zI ((o : Int) - 1)), .int (zI 0), .int (zI ((no : Int) - 1))]) (rest := [.ref (ad 120)]) w ⟨hx, hb, hml, hown, hts⟩ (c_X8_in l D G ad N c (v := ((o : Int) - 1)) (lo := 0) (hi := ((no : Int) - 1)) ⟨by omega, by omega⟩ ⟨by omega, by omega⟩ ⟨by omega, by omega⟩) (va_cwS 3 hts gX8_fits_X8_in rfl rfl rfl (by decide +kernel) ⟨Nat.le_of_ble_eq_true rfl, Nat.le_of_ble_eq_true rfl⟩) rfl hl.1 rfl (lv_room (Nat.le_of_ble_eq_true rfl)) dX8_fits_41 ⟨Nat.le_of_ble_eq_true rfl, Nat.le_of_ble_eq_true rfl⟩) (fun r_ u H locs hp w => ?_)
        obtain ⟨hv, hu⟩ := hp
        subst hv
        have w : PW D G A s ad N c H locs := by rw [hu] at w; exact w
        clear hu
        refine pz_top (b := 1) (if_pos (by omega)) ?_
        refine pz_ifne (tgt := 51) hx hb dX8_fits_44 (by decide) (⟨by omega, by omega⟩) (fun h4 => ?_) (fun h4 => ?_)
        · refine lv_iload hx hb dX8_fits_51 (lv_at hl 0 rfl) ?_
          refine pz_ifeq (tgt := 60) hx hb dX8_fits_53 (by decide) (⟨by omega, by omega⟩) (fun h5 => ?_) (fun h5 => ?_)
          · omega
          · refine lv_iconst (v := zI (0)) hx hb dX8_fits_56 rfl ?_
            refine lv_goto (tgt := 61) hx hb dX8_fits_57 (by decide) ?_
            refine pw_ci w (pw_runV (r := 120) (ci := 8) (As := [.int (zI 0)]) (rest := []) w ⟨hx, hb, hml, hown, hts⟩ (c_X8_goesWell l D G ad N c (pl := 0) hN hm ⟨by decide, by decide⟩) (cwV 1 hts gX8_fits_X8_goesWell rfl rfl rfl (by decide +kernel) ⟨Nat.le_of_ble_eq_true rfl, Nat.le_of_ble_eq_true rfl⟩) (by omega) hm rfl rfl hl.1 rfl (lv_room (Nat.le_of_ble_eq_true rfl)) dX8_fits_61 ⟨Nat.le_of_ble_eq_true rfl, Nat.le_of_ble_eq_true rfl⟩) (fun r_ c6 H locs hp w => ?_)
            have w : PW D G A s ad N c6 H locs := w
            obtain ⟨hv6, hm6, fr6⟩ := hp
            subst hv6
            refine pz_top (b := 1) (if_pos (by omega)) ?_
            have hS6 := hS.to hm6 fr6
            have hm := hm6
            obtain ⟨-, hh, hB, hDr, hMT, hMR⟩ := id hS6
            refine pz_ifeq (tgt := 85) hx hb dX8_fits_64 (by decide) (⟨by omega, by omega⟩) (fun h7 => ?_) (fun h7 => ?_)
            · omega
            · refine lv_aload_n hx hb dX8_fits_67 rfl (lv_at hl 1 rfl) ?_
              refine lv_iload_n hx hb dX8_fits_68 rfl (lv_at hl 2 rfl) ?_
              refine lv_iload_n hx hb dX8_fits_69 rfl (lv_at hl 3 rfl) ?_
              refine lv_iload_n hx hb dX8_fits_70 rfl (lv_at hl 4 rfl) ?_
              refine lv_iload hx hb dX8_fits_71 (lv_at hl 5 rfl) ?_
              refine pw_ci w (pw_runV (r := 120) (ci := 8) (As := [.int (zI ((o : Int) - 1)), .int (zI (x : Int)), .int (zI (mm : Int)), .int (zI (y : Int))]) (rest := []) w ⟨hx, hb, hml, hown, hts⟩ (c_X8_between l D G ad N c6 (o := o) (x := x) (mm := mm) (y := y) hN hm hh hlb hB hOV ho.2 hx9 hy9 hmm.2) (cwV 4 hts gX8_fits_X8_between rfl rfl rfl (by decide +kernel) ⟨Nat.le_of_ble_eq_true rfl, Nat.le_of_ble_eq_true rfl⟩) (by omega) hm rfl rfl hl.1 rfl (lv_room (Nat.le_of_ble_eq_true rfl)) dX8_fits_73 ⟨Nat.le_of_ble_eq_true rfl, Nat.le_of_ble_eq_true rfl⟩) (fun r_ u H locs hp w => ?_)
              obtain ⟨hv, hu⟩ := hp
              subst hv
              have w : PW D G A s ad N c6 H locs := by rw [hu] at w; exact w
              clear hu
              have hbw := bw_bd (lim := lim) (m := mm) (x := x) (y := y) hOV.g hx9 hy9 ho.2
              refine lv_ldc hx hb hown (hts _ wd_X8_fits_k91) dX8_fits_76 (pz_topI (y := zI (1000000)) (by decide +kernel) ?_)
              refine pz_icmpge (tgt := 85) hx hb dX8_fits_78 (by decide) (⟨by omega, by omega⟩) (⟨by omega, by omega⟩) (fun h9 => ?_) (fun h9 => ?_)
              · refine lv_iconst (v := zI (0)) hx hb dX8_fits_85 rfl ?_
                exact fin (ad, N, c6) c6 _ _ _ _ _ _ _ rfl (Or.inl rfl) ⟨by rw [if_neg (by omega)], hS6, fun q hq => ((fr6 q (by omega)).trans rfl)⟩ w dX8_fits_86 (Nat.le_refl _) (Nat.le_refl _)
              · refine lv_iconst (v := zI (1)) hx hb dX8_fits_81 rfl ?_
                refine lv_goto (tgt := 86) hx hb dX8_fits_82 (by decide) ?_
                exact fin (ad, N, c6) c6 _ _ _ _ _ _ _ rfl (Or.inr rfl) ⟨by rw [if_pos h9], hS6, fun q hq => ((fr6 q (by omega)).trans rfl)⟩ w dX8_fits_86 (Nat.le_refl _) (Nat.le_refl _)
        · omega

set_option maxHeartbeats 4000000 in
set_option maxRecDepth 100000 in
/-- X8_fits_bad1 -/
theorem c_X8_fits_bad1 (l : Launch) (D : va_G) (G : Nat → ClassId) (ad : Nat → Nat) (N : Nat) (c : Nat → va_E) {th lim : Int} {no dn : Nat} {gn : Nat → Nat} {gg : Nat → Nat → Nat} {dg nn : Nat → Nat} {pt ln : Nat → Nat → Nat} {wi : Nat → Nat → Int} (hN : 139 ≤ N) (hS : MS G ad c th lim no dn gn gg dg nn pt ln wi) (hV : SV lim no dn gn gg dg nn pt ln wi) {zo zx zm zy : Int} (hbzo : bnd zo) (hbzx : bnd zx) (hbzm : bnd zm) (hbzy : bnd zy) (hbad : ¬ (0 ≤ zo ∧ zo ≤ (no : Int) - 1)) : MC l yX8_fits wsX8_fits rm_X8_fits [.ref (ad 120), .int (zI zo), .int (zI zx), .int (zI zm), .int (zI zy)] D G ad N c (qI D G (fx ad N) (fun v c1 => v = zI 0 ∧ MS G ad c1 1 lim no dn gn gg dg nn pt ln wi ∧ ∀ q, (q < 120 ∨ 137 ≤ q) → c1 q = c q)) 0 0 := by
  refine MCz.of (cc := cX8_fits) (maxL := 6) (by decide) rfl (Nat.le_of_ble_eq_true rfl) ?_
  intro p e s m args below meth kc A Q hx hb hts hown hml fin H locs w ls hl
  have hown : s.vm.findClass RX8 = some m.cls := hown
  have hl : lv_has ls 6 [(0, .ref (ad 120)), (1, .int (zI zo)), (2, .int (zI zx)), (3, .int (zI zm)), (4, .int (zI zy))] := hl
  obtain ⟨⟨row, hm⟩, hh, hB, hDr, hMT, hMR⟩ := id hS
  obtain ⟨hlim, hOV, hdn4, hdg, hUV⟩ := id hV
  have hlb : bnd lim := ⟨by omega, by omega⟩
  have hno8 := hOV.1
  have hbzo1 := hbzo.1
  have hbzo2 := hbzo.2
  have hbzx1 := hbzx.1
  have hbzx2 := hbzx.2
  have hbzm1 := hbzm.1
  have hbzm2 := hbzm.2
  have hbzy1 := hbzy.1
  have hbzy2 := hbzy.2
  refine lv_iload_n hx hb dX8_fits_0 rfl (lv_at hl 2 rfl) ?_
  refine pw_ci w (pw_runS (As := [.int (zI zx)]) (rest := []) w ⟨hx, hb, hml, hown, hts⟩ (c_X8_isPitch l D G ad N c (v := zx) ⟨by omega, by omega⟩) (va_cwS 1 hts gX8_fits_X8_isPitch rfl rfl rfl (by decide +kernel) ⟨Nat.le_of_ble_eq_true rfl, Nat.le_of_ble_eq_true rfl⟩) rfl hl.1 rfl (lv_room (Nat.le_of_ble_eq_true rfl)) dX8_fits_1 ⟨Nat.le_of_ble_eq_true rfl, Nat.le_of_ble_eq_true rfl⟩) (fun r_ u H locs hp w => ?_)
  obtain ⟨hv, hu⟩ := hp
  subst hv
  have w : PW D G A s ad N c H locs := by rw [hu] at w; exact w
  clear hu
  by_cases h1 : 0 ≤ zx ∧ zx ≤ 8
  · refine pz_top (b := 1) (if_pos h1) ?_
    refine pz_ifeq (tgt := 29) hx hb dX8_fits_4 (by decide) (⟨by omega, by omega⟩) (fun h1 => ?_) (fun h1 => ?_)
    · omega
    · refine lv_iload_n hx hb dX8_fits_7 rfl (lv_at hl 3 rfl) ?_
      refine lv_iconst (v := zI (1)) hx hb dX8_fits_8 rfl ?_
      refine lv_bipush (v := zI (32)) hx hb dX8_fits_9 (by decide +kernel) ?_
      refine pw_ci w (pw_runS (As := [.int (zI zm), .int (zI 1), .int (zI 32)]) (rest := []) w ⟨hx, hb, hml, hown, hts⟩ (c_X8_in l D G ad N c (v := zm) (lo := 1) (hi := 32) ⟨by omega, by omega⟩ ⟨by omega, by omega⟩ ⟨by omega, by omega⟩) (va_cwS 3 hts gX8_fits_X8_in rfl rfl rfl (by decide +kernel) ⟨Nat.le_of_ble_eq_true rfl, Nat.le_of_ble_eq_true rfl⟩) rfl hl.1 rfl (lv_room (Nat.le_of_ble_eq_true rfl)) dX8_fits_11 ⟨Nat.le_of_ble_eq_true rfl, Nat.le_of_ble_eq_true rfl⟩) (fun r_ u H locs hp w => ?_)
      obtain ⟨hv, hu⟩ := hp
      subst hv
      have w : PW D G A s ad N c H locs := by rw [hu] at w; exact w
      clear hu
      by_cases h2 : 1 ≤ zm ∧ zm ≤ 32
      · refine pz_top (b := 1) (if_pos h2) ?_
        refine pz_ifeq (tgt := 29) hx hb dX8_fits_14 (by decide) (⟨by omega, by omega⟩) (fun h2 => ?_) (fun h2 => ?_)
        · omega
        · refine lv_iload hx hb dX8_fits_17 (lv_at hl 4 rfl) ?_
          refine pw_ci w (pw_runS (As := [.int (zI zy)]) (rest := []) w ⟨hx, hb, hml, hown, hts⟩ (c_X8_isPitch l D G ad N c (v := zy) ⟨by omega, by omega⟩) (va_cwS 1 hts gX8_fits_X8_isPitch rfl rfl rfl (by decide +kernel) ⟨Nat.le_of_ble_eq_true rfl, Nat.le_of_ble_eq_true rfl⟩) rfl hl.1 rfl (lv_room (Nat.le_of_ble_eq_true rfl)) dX8_fits_19 ⟨Nat.le_of_ble_eq_true rfl, Nat.le_of_ble_eq_true rfl⟩) (fun r_ u H locs hp w => ?_)
          obtain ⟨hv, hu⟩ := hp
          subst hv
          have w : PW D G A s ad N c H locs := by rw [hu] at w; exact w
          clear hu
          by_cases h3 : 0 ≤ zy ∧ zy ≤ 8
          · refine pz_top (b := 1) (if_pos h3) ?_
            refine pz_ifeq (tgt := 29) hx hb dX8_fits_22 (by decide) (⟨by omega, by omega⟩) (fun h3 => ?_) (fun h3 => ?_)
            · omega
            · refine lv_iconst (v := zI (1)) hx hb dX8_fits_25 rfl ?_
              refine lv_goto (tgt := 30) hx hb dX8_fits_26 (by decide) ?_
              refine lv_istore (lv' := [(5, .int (zI 1)), (0, .ref (ad 120)), (1, .int (zI zo)), (2, .int (zI zx)), (3, .int (zI zm)), (4, .int (zI zy))]) hx hb dX8_fits_30 hl (by decide) rfl (fun ls hl => ?_)
              refine lv_aload_n hx hb dX8_fits_32 rfl (lv_at hl 1 rfl) ?_
              refine lv_iload_n hx hb dX8_fits_33 rfl (lv_at hl 2 rfl) ?_
              refine lv_iconst (v := zI (0)) hx hb dX8_fits_34 rfl ?_
              refine lv_aload_n hx hb dX8_fits_35 rfl (lv_at hl 1 rfl) ?_
              refine pw_get (r := 120) (ci := 8) (C := RX8) (T := TX8) (Nf := 21) hx hb w hts hin_X8_fits_8 hown (by omega) hm rfl 5 (by decide) (hts _ fl_X8_fits_88) (fun _ h9 => h9) rfl dX8_fits_36 ?_
              refine lv_iconst (v := zI (1)) hx hb dX8_fits_39 rfl ?_
              refine pz_isub hx hb dX8_fits_40 ?_
              refine pw_ci w (pw_runS (As := [.int (zI zo), .int (zI 0), .int (zI ((no : Int) - 1))]) (rest := [.ref (ad 120)]) w ⟨hx, hb, hml, hown, hts⟩ (c_X8_in l D G ad N c (v := zo) (lo := 0) (hi := ((no : Int) - 1)) ⟨by omega, by omega⟩ ⟨by omega, by omega⟩ ⟨by omega, by omega⟩) (va_cwS 3 hts gX8_fits_X8_in rfl rfl rfl (by decide +kernel) ⟨Nat.le_of_ble_eq_true rfl, Nat.le_of_ble_eq_true rfl⟩) rfl hl.1 rfl (lv_room (Nat.le_of_ble_eq_true rfl)) dX8_fits_41 ⟨Nat.le_of_ble_eq_true rfl, Nat.le_of_ble_eq_true rfl⟩) (fun r_ u H locs hp w => ?_)
              obtain ⟨hv, hu⟩ := hp
              subst hv
              have w : PW D G A s ad N c H locs := by rw [hu] at w; exact w
              clear hu
              refine pz_top (b := 0) (if_neg (by omega)) ?_
              refine pz_ifne (tgt := 51) hx hb dX8_fits_44 (by decide) (⟨by omega, by omega⟩) (fun h4 => ?_) (fun h4 => ?_)
              · omega
              · refine lv_iconst (v := zI (1)) hx hb dX8_fits_47 rfl ?_
                refine lv_goto (tgt := 61) hx hb dX8_fits_48 (by decide) ?_
                refine pw_ci w (pw_runV (r := 120) (ci := 8) (As := [.int (zI 1)]) (rest := []) w ⟨hx, hb, hml, hown, hts⟩ (c_X8_goesWell l D G ad N c (pl := 1) hN hm ⟨by decide, by decide⟩) (cwV 1 hts gX8_fits_X8_goesWell rfl rfl rfl (by decide +kernel) ⟨Nat.le_of_ble_eq_true rfl, Nat.le_of_ble_eq_true rfl⟩) (by omega) hm rfl rfl hl.1 rfl (lv_room (Nat.le_of_ble_eq_true rfl)) dX8_fits_61 ⟨Nat.le_of_ble_eq_true rfl, Nat.le_of_ble_eq_true rfl⟩) (fun r_ c5 H locs hp w => ?_)
                have w : PW D G A s ad N c5 H locs := w
                obtain ⟨hv5, hm5, fr5⟩ := hp
                subst hv5
                refine pz_top (b := 0) (if_neg (by omega)) ?_
                have hS5 := hS.to hm5 fr5
                have hm := hm5
                obtain ⟨-, hh, hB, hDr, hMT, hMR⟩ := id hS5
                refine pz_ifeq (tgt := 85) hx hb dX8_fits_64 (by decide) (⟨by omega, by omega⟩) (fun h6 => ?_) (fun h6 => ?_)
                · refine lv_iconst (v := zI (0)) hx hb dX8_fits_85 rfl ?_
                  exact fin (ad, N, c5) c5 _ _ _ _ _ _ _ rfl (Or.inl rfl) ⟨rfl, hS5, fun q hq => ((fr5 q (by omega)).trans rfl)⟩ w dX8_fits_86 (Nat.le_refl _) (Nat.le_refl _)
                · omega
          · refine pz_top (b := 0) (if_neg h3) ?_
            refine pz_ifeq (tgt := 29) hx hb dX8_fits_22 (by decide) (⟨by omega, by omega⟩) (fun h7 => ?_) (fun h7 => ?_)
            · refine lv_iconst (v := zI (0)) hx hb dX8_fits_29 rfl ?_
              refine lv_istore (lv' := [(5, .int (zI 0)), (0, .ref (ad 120)), (1, .int (zI zo)), (2, .int (zI zx)), (3, .int (zI zm)), (4, .int (zI zy))]) hx hb dX8_fits_30 hl (by decide) rfl (fun ls hl => ?_)
              refine lv_aload_n hx hb dX8_fits_32 rfl (lv_at hl 1 rfl) ?_
              refine lv_iload_n hx hb dX8_fits_33 rfl (lv_at hl 2 rfl) ?_
              refine lv_iconst (v := zI (0)) hx hb dX8_fits_34 rfl ?_
              refine lv_aload_n hx hb dX8_fits_35 rfl (lv_at hl 1 rfl) ?_
              refine pw_get (r := 120) (ci := 8) (C := RX8) (T := TX8) (Nf := 21) hx hb w hts hin_X8_fits_8 hown (by omega) hm rfl 5 (by decide) (hts _ fl_X8_fits_88) (fun _ h9 => h9) rfl dX8_fits_36 ?_
              refine lv_iconst (v := zI (1)) hx hb dX8_fits_39 rfl ?_
              refine pz_isub hx hb dX8_fits_40 ?_
              refine pw_ci w (pw_runS (As := [.int (zI zo), .int (zI 0), .int (zI ((no : Int) - 1))]) (rest := [.ref (ad 120)]) w ⟨hx, hb, hml, hown, hts⟩ (c_X8_in l D G ad N c (v := zo) (lo := 0) (hi := ((no : Int) - 1)) ⟨by omega, by omega⟩ ⟨by omega, by omega⟩ ⟨by omega, by omega⟩) (va_cwS 3 hts gX8_fits_X8_in rfl rfl rfl (by decide +kernel) ⟨Nat.le_of_ble_eq_true rfl, Nat.le_of_ble_eq_true rfl⟩) rfl hl.1 rfl (lv_room (Nat.le_of_ble_eq_true rfl)) dX8_fits_41 ⟨Nat.le_of_ble_eq_true rfl, Nat.le_of_ble_eq_true rfl⟩) (fun r_ u H locs hp w => ?_)
              obtain ⟨hv, hu⟩ := hp
              subst hv
              have w : PW D G A s ad N c H locs := by rw [hu] at w; exact w
              clear hu
              refine pz_top (b := 0) (if_neg (by omega)) ?_
              refine pz_ifne (tgt := 51) hx hb dX8_fits_44 (by decide) (⟨by omega, by omega⟩) (fun h8 => ?_) (fun h8 => ?_)
              · omega
              · refine lv_iconst (v := zI (1)) hx hb dX8_fits_47 rfl ?_
                refine lv_goto (tgt := 61) hx hb dX8_fits_48 (by decide) ?_
                refine pw_ci w (pw_runV (r := 120) (ci := 8) (As := [.int (zI 1)]) (rest := []) w ⟨hx, hb, hml, hown, hts⟩ (c_X8_goesWell l D G ad N c (pl := 1) hN hm ⟨by decide, by decide⟩) (cwV 1 hts gX8_fits_X8_goesWell rfl rfl rfl (by decide +kernel) ⟨Nat.le_of_ble_eq_true rfl, Nat.le_of_ble_eq_true rfl⟩) (by omega) hm rfl rfl hl.1 rfl (lv_room (Nat.le_of_ble_eq_true rfl)) dX8_fits_61 ⟨Nat.le_of_ble_eq_true rfl, Nat.le_of_ble_eq_true rfl⟩) (fun r_ c9 H locs hp w => ?_)
                have w : PW D G A s ad N c9 H locs := w
                obtain ⟨hv9, hm9, fr9⟩ := hp
                subst hv9
                refine pz_top (b := 0) (if_neg (by omega)) ?_
                have hS9 := hS.to hm9 fr9
                have hm := hm9
                obtain ⟨-, hh, hB, hDr, hMT, hMR⟩ := id hS9
                refine pz_ifeq (tgt := 85) hx hb dX8_fits_64 (by decide) (⟨by omega, by omega⟩) (fun h10 => ?_) (fun h10 => ?_)
                · refine lv_iconst (v := zI (0)) hx hb dX8_fits_85 rfl ?_
                  exact fin (ad, N, c9) c9 _ _ _ _ _ _ _ rfl (Or.inl rfl) ⟨rfl, hS9, fun q hq => ((fr9 q (by omega)).trans rfl)⟩ w dX8_fits_86 (Nat.le_refl _) (Nat.le_refl _)
                · omega
            · omega
      · refine pz_top (b := 0) (if_neg h2) ?_
        refine pz_ifeq (tgt := 29) hx hb dX8_fits_14 (by decide) (⟨by omega, by omega⟩) (fun h11 => ?_) (fun h11 => ?_)
        · refine lv_iconst (v := zI (0)) hx hb dX8_fits_29 rfl ?_
          refine lv_istore (lv' := [(5, .int (zI 0)), (0, .ref (ad 120)), (1, .int (zI zo)), (2, .int (zI zx)), (3, .int (zI zm)), (4, .int (zI zy))]) hx hb dX8_fits_30 hl (by decide) rfl (fun ls hl => ?_)
          refine lv_aload_n hx hb dX8_fits_32 rfl (lv_at hl 1 rfl) ?_
          refine lv_iload_n hx hb dX8_fits_33 rfl (lv_at hl 2 rfl) ?_
          refine lv_iconst (v := zI (0)) hx hb dX8_fits_34 rfl ?_
          refine lv_aload_n hx hb dX8_fits_35 rfl (lv_at hl 1 rfl) ?_
          refine pw_get (r := 120) (ci := 8) (C := RX8) (T := TX8) (Nf := 21) hx hb w hts hin_X8_fits_8 hown (by omega) hm rfl 5 (by decide) (hts _ fl_X8_fits_88) (fun _ h9 => h9) rfl dX8_fits_36 ?_
          refine lv_iconst (v := zI (1)) hx hb dX8_fits_39 rfl ?_
          refine pz_isub hx hb dX8_fits_40 ?_
          refine pw_ci w (pw_runS (As := [.int (zI zo), .int (zI 0), .int (zI ((no : Int) - 1))]) (rest := [.ref (ad 120)]) w ⟨hx, hb, hml, hown, hts⟩ (c_X8_in l D G ad N c (v := zo) (lo := 0) (hi := ((no : Int) - 1)) ⟨by omega, by omega⟩ ⟨by omega, by omega⟩ ⟨by omega, by omega⟩) (va_cwS 3 hts gX8_fits_X8_in rfl rfl rfl (by decide +kernel) ⟨Nat.le_of_ble_eq_true rfl, Nat.le_of_ble_eq_true rfl⟩) rfl hl.1 rfl (lv_room (Nat.le_of_ble_eq_true rfl)) dX8_fits_41 ⟨Nat.le_of_ble_eq_true rfl, Nat.le_of_ble_eq_true rfl⟩) (fun r_ u H locs hp w => ?_)
          obtain ⟨hv, hu⟩ := hp
          subst hv
          have w : PW D G A s ad N c H locs := by rw [hu] at w; exact w
          clear hu
          refine pz_top (b := 0) (if_neg (by omega)) ?_
          refine pz_ifne (tgt := 51) hx hb dX8_fits_44 (by decide) (⟨by omega, by omega⟩) (fun h12 => ?_) (fun h12 => ?_)
          · omega
          · refine lv_iconst (v := zI (1)) hx hb dX8_fits_47 rfl ?_
            refine lv_goto (tgt := 61) hx hb dX8_fits_48 (by decide) ?_
            refine pw_ci w (pw_runV (r := 120) (ci := 8) (As := [.int (zI 1)]) (rest := []) w ⟨hx, hb, hml, hown, hts⟩ (c_X8_goesWell l D G ad N c (pl := 1) hN hm ⟨by decide, by decide⟩) (cwV 1 hts gX8_fits_X8_goesWell rfl rfl rfl (by decide +kernel) ⟨Nat.le_of_ble_eq_true rfl, Nat.le_of_ble_eq_true rfl⟩) (by omega) hm rfl rfl hl.1 rfl (lv_room (Nat.le_of_ble_eq_true rfl)) dX8_fits_61 ⟨Nat.le_of_ble_eq_true rfl, Nat.le_of_ble_eq_true rfl⟩) (fun r_ c13 H locs hp w => ?_)
            have w : PW D G A s ad N c13 H locs := w
            obtain ⟨hv13, hm13, fr13⟩ := hp
            subst hv13
            refine pz_top (b := 0) (if_neg (by omega)) ?_
            have hS13 := hS.to hm13 fr13
            have hm := hm13
            obtain ⟨-, hh, hB, hDr, hMT, hMR⟩ := id hS13
            refine pz_ifeq (tgt := 85) hx hb dX8_fits_64 (by decide) (⟨by omega, by omega⟩) (fun h14 => ?_) (fun h14 => ?_)
            · refine lv_iconst (v := zI (0)) hx hb dX8_fits_85 rfl ?_
              exact fin (ad, N, c13) c13 _ _ _ _ _ _ _ rfl (Or.inl rfl) ⟨rfl, hS13, fun q hq => ((fr13 q (by omega)).trans rfl)⟩ w dX8_fits_86 (Nat.le_refl _) (Nat.le_refl _)
            · omega
        · omega
  · refine pz_top (b := 0) (if_neg h1) ?_
    refine pz_ifeq (tgt := 29) hx hb dX8_fits_4 (by decide) (⟨by omega, by omega⟩) (fun h15 => ?_) (fun h15 => ?_)
    · refine lv_iconst (v := zI (0)) hx hb dX8_fits_29 rfl ?_
      refine lv_istore (lv' := [(5, .int (zI 0)), (0, .ref (ad 120)), (1, .int (zI zo)), (2, .int (zI zx)), (3, .int (zI zm)), (4, .int (zI zy))]) hx hb dX8_fits_30 hl (by decide) rfl (fun ls hl => ?_)
      refine lv_aload_n hx hb dX8_fits_32 rfl (lv_at hl 1 rfl) ?_
      refine lv_iload_n hx hb dX8_fits_33 rfl (lv_at hl 2 rfl) ?_
      refine lv_iconst (v := zI (0)) hx hb dX8_fits_34 rfl ?_
      refine lv_aload_n hx hb dX8_fits_35 rfl (lv_at hl 1 rfl) ?_
      refine pw_get (r := 120) (ci := 8) (C := RX8) (T := TX8) (Nf := 21) hx hb w hts hin_X8_fits_8 hown (by omega) hm rfl 5 (by decide) (hts _ fl_X8_fits_88) (fun _ h9 => h9) rfl dX8_fits_36 ?_
      refine lv_iconst (v := zI (1)) hx hb dX8_fits_39 rfl ?_
      refine pz_isub hx hb dX8_fits_40 ?_
      refine pw_ci w (pw_runS (As := [.int (zI zo), .int (zI 0), .int (zI ((no : Int) - 1))]) (rest := [.ref (ad 120)]) w ⟨hx, hb, hml, hown, hts⟩ (c_X8_in l D G ad N c (v := zo) (lo := 0) (hi := ((no : Int) - 1)) ⟨by omega, by omega⟩ ⟨by omega, by omega⟩ ⟨by omega, by omega⟩) (va_cwS 3 hts gX8_fits_X8_in rfl rfl rfl (by decide +kernel) ⟨Nat.le_of_ble_eq_true rfl, Nat.le_of_ble_eq_true rfl⟩) rfl hl.1 rfl (lv_room (Nat.le_of_ble_eq_true rfl)) dX8_fits_41 ⟨Nat.le_of_ble_eq_true rfl, Nat.le_of_ble_eq_true rfl⟩) (fun r_ u H locs hp w => ?_)
      obtain ⟨hv, hu⟩ := hp
      subst hv
      have w : PW D G A s ad N c H locs := by rw [hu] at w; exact w
      clear hu
      refine pz_top (b := 0) (if_neg (by omega)) ?_
      refine pz_ifne (tgt := 51) hx hb dX8_fits_44 (by decide) (⟨by omega, by omega⟩) (fun h16 => ?_) (fun h16 => ?_)
      · omega
      · refine lv_iconst (v := zI (1)) hx hb dX8_fits_47 rfl ?_
        refine lv_goto (tgt := 61) hx hb dX8_fits_48 (by decide) ?_
        refine pw_ci w (pw_runV (r := 120) (ci := 8) (As := [.int (zI 1)]) (rest := []) w ⟨hx, hb, hml, hown, hts⟩ (c_X8_goesWell l D G ad N c (pl := 1) hN hm ⟨by decide, by decide⟩) (cwV 1 hts gX8_fits_X8_goesWell rfl rfl rfl (by decide +kernel) ⟨Nat.le_of_ble_eq_true rfl, Nat.le_of_ble_eq_true rfl⟩) (by omega) hm rfl rfl hl.1 rfl (lv_room (Nat.le_of_ble_eq_true rfl)) dX8_fits_61 ⟨Nat.le_of_ble_eq_true rfl, Nat.le_of_ble_eq_true rfl⟩) (fun r_ c17 H locs hp w => ?_)
        have w : PW D G A s ad N c17 H locs := w
        obtain ⟨hv17, hm17, fr17⟩ := hp
        subst hv17
        refine pz_top (b := 0) (if_neg (by omega)) ?_
        have hS17 := hS.to hm17 fr17
        have hm := hm17
        obtain ⟨-, hh, hB, hDr, hMT, hMR⟩ := id hS17
        refine pz_ifeq (tgt := 85) hx hb dX8_fits_64 (by decide) (⟨by omega, by omega⟩) (fun h18 => ?_) (fun h18 => ?_)
        · refine lv_iconst (v := zI (0)) hx hb dX8_fits_85 rfl ?_
          exact fin (ad, N, c17) c17 _ _ _ _ _ _ _ rfl (Or.inl rfl) ⟨rfl, hS17, fun q hq => ((fr17 q (by omega)).trans rfl)⟩ w dX8_fits_86 (Nat.le_refl _) (Nat.le_refl _)
        · omega
    · omega

set_option maxHeartbeats 4000000 in
set_option maxRecDepth 100000 in
/-- X8_fits_bad2 -/
theorem c_X8_fits_bad2 (l : Launch) (D : va_G) (G : Nat → ClassId) (ad : Nat → Nat) (N : Nat) (c : Nat → va_E) {th lim : Int} {no dn : Nat} {gn : Nat → Nat} {gg : Nat → Nat → Nat} {dg nn : Nat → Nat} {pt ln : Nat → Nat → Nat} {wi : Nat → Nat → Int} (hN : 139 ≤ N) (hS : MS G ad c th lim no dn gn gg dg nn pt ln wi) (hV : SV lim no dn gn gg dg nn pt ln wi) {zo zx zm zy : Int} (hbzo : bnd zo) (hbzx : bnd zx) (hbzm : bnd zm) (hbzy : bnd zy) (hok : 0 ≤ zo ∧ zo ≤ (no : Int) - 1) (hbad : ¬ ((0 ≤ zx ∧ zx ≤ 8) ∧ (1 ≤ zm ∧ zm ≤ 32) ∧ 0 ≤ zy ∧ zy ≤ 8)) : MC l yX8_fits wsX8_fits rm_X8_fits [.ref (ad 120), .int (zI zo), .int (zI zx), .int (zI zm), .int (zI zy)] D G ad N c (qI D G (fx ad N) (fun v c1 => v = zI 0 ∧ MS G ad c1 2 lim no dn gn gg dg nn pt ln wi ∧ ∀ q, (q < 120 ∨ 137 ≤ q) → c1 q = c q)) 0 0 := by
  refine MCz.of (cc := cX8_fits) (maxL := 6) (by decide) rfl (Nat.le_of_ble_eq_true rfl) ?_
  intro p e s m args below meth kc A Q hx hb hts hown hml fin H locs w ls hl
  have hown : s.vm.findClass RX8 = some m.cls := hown
  have hl : lv_has ls 6 [(0, .ref (ad 120)), (1, .int (zI zo)), (2, .int (zI zx)), (3, .int (zI zm)), (4, .int (zI zy))] := hl
  obtain ⟨⟨row, hm⟩, hh, hB, hDr, hMT, hMR⟩ := id hS
  obtain ⟨hlim, hOV, hdn4, hdg, hUV⟩ := id hV
  have hlb : bnd lim := ⟨by omega, by omega⟩
  have hno8 := hOV.1
  have hbzo1 := hbzo.1
  have hbzo2 := hbzo.2
  have hbzx1 := hbzx.1
  have hbzx2 := hbzx.2
  have hbzm1 := hbzm.1
  have hbzm2 := hbzm.2
  have hbzy1 := hbzy.1
  have hbzy2 := hbzy.2
  refine lv_iload_n hx hb dX8_fits_0 rfl (lv_at hl 2 rfl) ?_
  refine pw_ci w (pw_runS (As := [.int (zI zx)]) (rest := []) w ⟨hx, hb, hml, hown, hts⟩ (c_X8_isPitch l D G ad N c (v := zx) ⟨by omega, by omega⟩) (va_cwS 1 hts gX8_fits_X8_isPitch rfl rfl rfl (by decide +kernel) ⟨Nat.le_of_ble_eq_true rfl, Nat.le_of_ble_eq_true rfl⟩) rfl hl.1 rfl (lv_room (Nat.le_of_ble_eq_true rfl)) dX8_fits_1 ⟨Nat.le_of_ble_eq_true rfl, Nat.le_of_ble_eq_true rfl⟩) (fun r_ u H locs hp w => ?_)
  obtain ⟨hv, hu⟩ := hp
  subst hv
  have w : PW D G A s ad N c H locs := by rw [hu] at w; exact w
  clear hu
  by_cases h1 : 0 ≤ zx ∧ zx ≤ 8
  · refine pz_top (b := 1) (if_pos h1) ?_
    refine pz_ifeq (tgt := 29) hx hb dX8_fits_4 (by decide) (⟨by omega, by omega⟩) (fun h1 => ?_) (fun h1 => ?_)
    · omega
    · refine lv_iload_n hx hb dX8_fits_7 rfl (lv_at hl 3 rfl) ?_
      refine lv_iconst (v := zI (1)) hx hb dX8_fits_8 rfl ?_
      refine lv_bipush (v := zI (32)) hx hb dX8_fits_9 (by decide +kernel) ?_
      refine pw_ci w (pw_runS (As := [.int (zI zm), .int (zI 1), .int (zI 32)]) (rest := []) w ⟨hx, hb, hml, hown, hts⟩ (c_X8_in l D G ad N c (v := zm) (lo := 1) (hi := 32) ⟨by omega, by omega⟩ ⟨by omega, by omega⟩ ⟨by omega, by omega⟩) (va_cwS 3 hts gX8_fits_X8_in rfl rfl rfl (by decide +kernel) ⟨Nat.le_of_ble_eq_true rfl, Nat.le_of_ble_eq_true rfl⟩) rfl hl.1 rfl (lv_room (Nat.le_of_ble_eq_true rfl)) dX8_fits_11 ⟨Nat.le_of_ble_eq_true rfl, Nat.le_of_ble_eq_true rfl⟩) (fun r_ u H locs hp w => ?_)
      obtain ⟨hv, hu⟩ := hp
      subst hv
      have w : PW D G A s ad N c H locs := by rw [hu] at w; exact w
      clear hu
      by_cases h2 : 1 ≤ zm ∧ zm ≤ 32
      · refine pz_top (b := 1) (if_pos h2) ?_
        refine pz_ifeq (tgt := 29) hx hb dX8_fits_14 (by decide) (⟨by omega, by omega⟩) (fun h2 => ?_) (fun h2 => ?_)
        · omega
        · refine lv_iload hx hb dX8_fits_17 (lv_at hl 4 rfl) ?_
          refine pw_ci w (pw_runS (As := [.int (zI zy)]) (rest := []) w ⟨hx, hb, hml, hown, hts⟩ (c_X8_isPitch l D G ad N c (v := zy) ⟨by omega, by omega⟩) (va_cwS 1 hts gX8_fits_X8_isPitch rfl rfl rfl (by decide +kernel) ⟨Nat.le_of_ble_eq_true rfl, Nat.le_of_ble_eq_true rfl⟩) rfl hl.1 rfl (lv_room (Nat.le_of_ble_eq_true rfl)) dX8_fits_19 ⟨Nat.le_of_ble_eq_true rfl, Nat.le_of_ble_eq_true rfl⟩) (fun r_ u H locs hp w => ?_)
          obtain ⟨hv, hu⟩ := hp
          subst hv
          have w : PW D G A s ad N c H locs := by rw [hu] at w; exact w
          clear hu
          refine pz_top (b := 0) (if_neg (by omega)) ?_
          refine pz_ifeq (tgt := 29) hx hb dX8_fits_22 (by decide) (⟨by omega, by omega⟩) (fun h3 => ?_) (fun h3 => ?_)
          · refine lv_iconst (v := zI (0)) hx hb dX8_fits_29 rfl ?_
            refine lv_istore (lv' := [(5, .int (zI 0)), (0, .ref (ad 120)), (1, .int (zI zo)), (2, .int (zI zx)), (3, .int (zI zm)), (4, .int (zI zy))]) hx hb dX8_fits_30 hl (by decide) rfl (fun ls hl => ?_)
            refine lv_aload_n hx hb dX8_fits_32 rfl (lv_at hl 1 rfl) ?_
            refine lv_iload_n hx hb dX8_fits_33 rfl (lv_at hl 2 rfl) ?_
            refine lv_iconst (v := zI (0)) hx hb dX8_fits_34 rfl ?_
            refine lv_aload_n hx hb dX8_fits_35 rfl (lv_at hl 1 rfl) ?_
            refine pw_get (r := 120) (ci := 8) (C := RX8) (T := TX8) (Nf := 21) hx hb w hts hin_X8_fits_8 hown (by omega) hm rfl 5 (by decide) (hts _ fl_X8_fits_88) (fun _ h9 => h9) rfl dX8_fits_36 ?_
            refine lv_iconst (v := zI (1)) hx hb dX8_fits_39 rfl ?_
            refine pz_isub hx hb dX8_fits_40 ?_
            refine pw_ci w (pw_runS (As := [.int (zI zo), .int (zI 0), .int (zI ((no : Int) - 1))]) (rest := [.ref (ad 120)]) w ⟨hx, hb, hml, hown, hts⟩ (c_X8_in l D G ad N c (v := zo) (lo := 0) (hi := ((no : Int) - 1)) ⟨by omega, by omega⟩ ⟨by omega, by omega⟩ ⟨by omega, by omega⟩) (va_cwS 3 hts gX8_fits_X8_in rfl rfl rfl (by decide +kernel) ⟨Nat.le_of_ble_eq_true rfl, Nat.le_of_ble_eq_true rfl⟩) rfl hl.1 rfl (lv_room (Nat.le_of_ble_eq_true rfl)) dX8_fits_41 ⟨Nat.le_of_ble_eq_true rfl, Nat.le_of_ble_eq_true rfl⟩) (fun r_ u H locs hp w => ?_)
            obtain ⟨hv, hu⟩ := hp
            subst hv
            have w : PW D G A s ad N c H locs := by rw [hu] at w; exact w
            clear hu
            refine pz_top (b := 1) (if_pos (by omega)) ?_
            refine pz_ifne (tgt := 51) hx hb dX8_fits_44 (by decide) (⟨by omega, by omega⟩) (fun h4 => ?_) (fun h4 => ?_)
            · refine lv_iload hx hb dX8_fits_51 (lv_at hl 0 rfl) ?_
              refine pz_ifeq (tgt := 60) hx hb dX8_fits_53 (by decide) (⟨by omega, by omega⟩) (fun h5 => ?_) (fun h5 => ?_)
              · refine lv_iconst (v := zI (2)) hx hb dX8_fits_60 rfl ?_
                refine pw_ci w (pw_runV (r := 120) (ci := 8) (As := [.int (zI 2)]) (rest := []) w ⟨hx, hb, hml, hown, hts⟩ (c_X8_goesWell l D G ad N c (pl := 2) hN hm ⟨by decide, by decide⟩) (cwV 1 hts gX8_fits_X8_goesWell rfl rfl rfl (by decide +kernel) ⟨Nat.le_of_ble_eq_true rfl, Nat.le_of_ble_eq_true rfl⟩) (by omega) hm rfl rfl hl.1 rfl (lv_room (Nat.le_of_ble_eq_true rfl)) dX8_fits_61 ⟨Nat.le_of_ble_eq_true rfl, Nat.le_of_ble_eq_true rfl⟩) (fun r_ c6 H locs hp w => ?_)
                have w : PW D G A s ad N c6 H locs := w
                obtain ⟨hv6, hm6, fr6⟩ := hp
                subst hv6
                refine pz_top (b := 0) (if_neg (by omega)) ?_
                have hS6 := hS.to hm6 fr6
                have hm := hm6
                obtain ⟨-, hh, hB, hDr, hMT, hMR⟩ := id hS6
                refine pz_ifeq (tgt := 85) hx hb dX8_fits_64 (by decide) (⟨by omega, by omega⟩) (fun h7 => ?_) (fun h7 => ?_)
                · refine lv_iconst (v := zI (0)) hx hb dX8_fits_85 rfl ?_
                  exact fin (ad, N, c6) c6 _ _ _ _ _ _ _ rfl (Or.inl rfl) ⟨rfl, hS6, fun q hq => ((fr6 q (by omega)).trans rfl)⟩ w dX8_fits_86 (Nat.le_refl _) (Nat.le_refl _)
                · omega
              · omega
            · omega
          · omega
      · refine pz_top (b := 0) (if_neg h2) ?_
        refine pz_ifeq (tgt := 29) hx hb dX8_fits_14 (by decide) (⟨by omega, by omega⟩) (fun h8 => ?_) (fun h8 => ?_)
        · refine lv_iconst (v := zI (0)) hx hb dX8_fits_29 rfl ?_
          refine lv_istore (lv' := [(5, .int (zI 0)), (0, .ref (ad 120)), (1, .int (zI zo)), (2, .int (zI zx)), (3, .int (zI zm)), (4, .int (zI zy))]) hx hb dX8_fits_30 hl (by decide) rfl (fun ls hl => ?_)
          refine lv_aload_n hx hb dX8_fits_32 rfl (lv_at hl 1 rfl) ?_
          refine lv_iload_n hx hb dX8_fits_33 rfl (lv_at hl 2 rfl) ?_
          refine lv_iconst (v := zI (0)) hx hb dX8_fits_34 rfl ?_
          refine lv_aload_n hx hb dX8_fits_35 rfl (lv_at hl 1 rfl) ?_
          refine pw_get (r := 120) (ci := 8) (C := RX8) (T := TX8) (Nf := 21) hx hb w hts hin_X8_fits_8 hown (by omega) hm rfl 5 (by decide) (hts _ fl_X8_fits_88) (fun _ h9 => h9) rfl dX8_fits_36 ?_
          refine lv_iconst (v := zI (1)) hx hb dX8_fits_39 rfl ?_
          refine pz_isub hx hb dX8_fits_40 ?_
          refine pw_ci w (pw_runS (As := [.int (zI zo), .int (zI 0), .int (zI ((no : Int) - 1))]) (rest := [.ref (ad 120)]) w ⟨hx, hb, hml, hown, hts⟩ (c_X8_in l D G ad N c (v := zo) (lo := 0) (hi := ((no : Int) - 1)) ⟨by omega, by omega⟩ ⟨by omega, by omega⟩ ⟨by omega, by omega⟩) (va_cwS 3 hts gX8_fits_X8_in rfl rfl rfl (by decide +kernel) ⟨Nat.le_of_ble_eq_true rfl, Nat.le_of_ble_eq_true rfl⟩) rfl hl.1 rfl (lv_room (Nat.le_of_ble_eq_true rfl)) dX8_fits_41 ⟨Nat.le_of_ble_eq_true rfl, Nat.le_of_ble_eq_true rfl⟩) (fun r_ u H locs hp w => ?_)
          obtain ⟨hv, hu⟩ := hp
          subst hv
          have w : PW D G A s ad N c H locs := by rw [hu] at w; exact w
          clear hu
          refine pz_top (b := 1) (if_pos (by omega)) ?_
          refine pz_ifne (tgt := 51) hx hb dX8_fits_44 (by decide) (⟨by omega, by omega⟩) (fun h9 => ?_) (fun h9 => ?_)
          · refine lv_iload hx hb dX8_fits_51 (lv_at hl 0 rfl) ?_
            refine pz_ifeq (tgt := 60) hx hb dX8_fits_53 (by decide) (⟨by omega, by omega⟩) (fun h10 => ?_) (fun h10 => ?_)
            · refine lv_iconst (v := zI (2)) hx hb dX8_fits_60 rfl ?_
              refine pw_ci w (pw_runV (r := 120) (ci := 8) (As := [.int (zI 2)]) (rest := []) w ⟨hx, hb, hml, hown, hts⟩ (c_X8_goesWell l D G ad N c (pl := 2) hN hm ⟨by decide, by decide⟩) (cwV 1 hts gX8_fits_X8_goesWell rfl rfl rfl (by decide +kernel) ⟨Nat.le_of_ble_eq_true rfl, Nat.le_of_ble_eq_true rfl⟩) (by omega) hm rfl rfl hl.1 rfl (lv_room (Nat.le_of_ble_eq_true rfl)) dX8_fits_61 ⟨Nat.le_of_ble_eq_true rfl, Nat.le_of_ble_eq_true rfl⟩) (fun r_ c11 H locs hp w => ?_)
              have w : PW D G A s ad N c11 H locs := w
              obtain ⟨hv11, hm11, fr11⟩ := hp
              subst hv11
              refine pz_top (b := 0) (if_neg (by omega)) ?_
              have hS11 := hS.to hm11 fr11
              have hm := hm11
              obtain ⟨-, hh, hB, hDr, hMT, hMR⟩ := id hS11
              refine pz_ifeq (tgt := 85) hx hb dX8_fits_64 (by decide) (⟨by omega, by omega⟩) (fun h12 => ?_) (fun h12 => ?_)
              · refine lv_iconst (v := zI (0)) hx hb dX8_fits_85 rfl ?_
                exact fin (ad, N, c11) c11 _ _ _ _ _ _ _ rfl (Or.inl rfl) ⟨rfl, hS11, fun q hq => ((fr11 q (by omega)).trans rfl)⟩ w dX8_fits_86 (Nat.le_refl _) (Nat.le_refl _)
              · omega
            · omega
          · omega
        · omega
  · refine pz_top (b := 0) (if_neg h1) ?_
    refine pz_ifeq (tgt := 29) hx hb dX8_fits_4 (by decide) (⟨by omega, by omega⟩) (fun h13 => ?_) (fun h13 => ?_)
    · refine lv_iconst (v := zI (0)) hx hb dX8_fits_29 rfl ?_
      refine lv_istore (lv' := [(5, .int (zI 0)), (0, .ref (ad 120)), (1, .int (zI zo)), (2, .int (zI zx)), (3, .int (zI zm)), (4, .int (zI zy))]) hx hb dX8_fits_30 hl (by decide) rfl (fun ls hl => ?_)
      refine lv_aload_n hx hb dX8_fits_32 rfl (lv_at hl 1 rfl) ?_
      refine lv_iload_n hx hb dX8_fits_33 rfl (lv_at hl 2 rfl) ?_
      refine lv_iconst (v := zI (0)) hx hb dX8_fits_34 rfl ?_
      refine lv_aload_n hx hb dX8_fits_35 rfl (lv_at hl 1 rfl) ?_
      refine pw_get (r := 120) (ci := 8) (C := RX8) (T := TX8) (Nf := 21) hx hb w hts hin_X8_fits_8 hown (by omega) hm rfl 5 (by decide) (hts _ fl_X8_fits_88) (fun _ h9 => h9) rfl dX8_fits_36 ?_
      refine lv_iconst (v := zI (1)) hx hb dX8_fits_39 rfl ?_
      refine pz_isub hx hb dX8_fits_40 ?_
      refine pw_ci w (pw_runS (As := [.int (zI zo), .int (zI 0), .int (zI ((no : Int) - 1))]) (rest := [.ref (ad 120)]) w ⟨hx, hb, hml, hown, hts⟩ (c_X8_in l D G ad N c (v := zo) (lo := 0) (hi := ((no : Int) - 1)) ⟨by omega, by omega⟩ ⟨by omega, by omega⟩ ⟨by omega, by omega⟩) (va_cwS 3 hts gX8_fits_X8_in rfl rfl rfl (by decide +kernel) ⟨Nat.le_of_ble_eq_true rfl, Nat.le_of_ble_eq_true rfl⟩) rfl hl.1 rfl (lv_room (Nat.le_of_ble_eq_true rfl)) dX8_fits_41 ⟨Nat.le_of_ble_eq_true rfl, Nat.le_of_ble_eq_true rfl⟩) (fun r_ u H locs hp w => ?_)
      obtain ⟨hv, hu⟩ := hp
      subst hv
      have w : PW D G A s ad N c H locs := by rw [hu] at w; exact w
      clear hu
      refine pz_top (b := 1) (if_pos (by omega)) ?_
      refine pz_ifne (tgt := 51) hx hb dX8_fits_44 (by decide) (⟨by omega, by omega⟩) (fun h14 => ?_) (fun h14 => ?_)
      · refine lv_iload hx hb dX8_fits_51 (lv_at hl 0 rfl) ?_
        refine pz_ifeq (tgt := 60) hx hb dX8_fits_53 (by decide) (⟨by omega, by omega⟩) (fun h15 => ?_) (fun h15 => ?_)
        · refine lv_iconst (v := zI (2)) hx hb dX8_fits_60 rfl ?_
          refine pw_ci w (pw_runV (r := 120) (ci := 8) (As := [.int (zI 2)]) (rest := []) w ⟨hx, hb, hml, hown, hts⟩ (c_X8_goesWell l D G ad N c (pl := 2) hN hm ⟨by decide, by decide⟩) (cwV 1 hts gX8_fits_X8_goesWell rfl rfl rfl (by decide +kernel) ⟨Nat.le_of_ble_eq_true rfl, Nat.le_of_ble_eq_true rfl⟩) (by omega) hm rfl rfl hl.1 rfl (lv_room (Nat.le_of_ble_eq_true rfl)) dX8_fits_61 ⟨Nat.le_of_ble_eq_true rfl, Nat.le_of_ble_eq_true rfl⟩) (fun r_ c16 H locs hp w => ?_)
          have w : PW D G A s ad N c16 H locs := w
          obtain ⟨hv16, hm16, fr16⟩ := hp
          subst hv16
          refine pz_top (b := 0) (if_neg (by omega)) ?_
          have hS16 := hS.to hm16 fr16
          have hm := hm16
          obtain ⟨-, hh, hB, hDr, hMT, hMR⟩ := id hS16
          refine pz_ifeq (tgt := 85) hx hb dX8_fits_64 (by decide) (⟨by omega, by omega⟩) (fun h17 => ?_) (fun h17 => ?_)
          · refine lv_iconst (v := zI (0)) hx hb dX8_fits_85 rfl ?_
            exact fin (ad, N, c16) c16 _ _ _ _ _ _ _ rfl (Or.inl rfl) ⟨rfl, hS16, fun q hq => ((fr16 q (by omega)).trans rfl)⟩ w dX8_fits_86 (Nat.le_refl _) (Nat.le_refl _)
          · omega
        · omega
      · omega
    · omega

abbrev rm_X8_addNote : Room := { frames := 2, cells := 0, slots := 0, locals := 60 }
set_option maxHeartbeats 4000000 in
set_option maxRecDepth 100000 in
/-- X8_addNote_bad1 -/
theorem c_X8_addNote_bad1 (l : Launch) (D : va_G) (G : Nat → ClassId) (ad : Nat → Nat) (N : Nat) (c : Nat → va_E) {th lim : Int} {no dn : Nat} {gn : Nat → Nat} {gg : Nat → Nat → Nat} {dg nn : Nat → Nat} {pt ln : Nat → Nat → Nat} {wi : Nat → Nat → Int} (hN : 139 ≤ N) (hS : MS G ad c th lim no dn gn gg dg nn pt ln wi) (hV : SV lim no dn gn gg dg nn pt ln wi) {zt zx zm : Int} (hbzt : bnd zt) (hbzx : bnd zx) (hbzm : bnd zm) (hbad : ¬ ((0 ≤ zt ∧ zt ≤ 3) ∧ (0 ≤ zx ∧ zx ≤ 8) ∧ 1 ≤ zm ∧ zm ≤ 32)) : MC l yX8_addNote wsX8_addNote rm_X8_addNote [.ref (ad 120), .int (zI zt), .int (zI zx), .int (zI zm)] D G ad N c (qI D G (fx ad N) (fun v c1 => v = zI 0 ∧ MS G ad c1 1 lim no dn gn gg dg nn pt ln wi ∧ ∀ q, (q < 120 ∨ 137 ≤ q) → c1 q = c q)) 0 0 := by
  refine MCi.of (cc := cX8_addNote) (maxL := 6) (by decide) rfl (Nat.le_of_ble_eq_true rfl) ?_
  intro p e s m args below meth kc A Q hx hb hts hown hml fin H locs w ls hl
  have hown : s.vm.findClass RX8 = some m.cls := hown
  have hl : lv_has ls 6 [(0, .ref (ad 120)), (1, .int (zI zt)), (2, .int (zI zx)), (3, .int (zI zm))] := hl
  obtain ⟨⟨row, hm⟩, hh, hB, hDr, hMT, hMR⟩ := id hS
  obtain ⟨hlim, hOV, hdn4, hdg, hUV⟩ := id hV
  have hlb : bnd lim := ⟨by omega, by omega⟩
  have hno8 := hOV.1
  have hbzt1 := hbzt.1
  have hbzt2 := hbzt.2
  have hbzx1 := hbzx.1
  have hbzx2 := hbzx.2
  have hbzm1 := hbzm.1
  have hbzm2 := hbzm.2
  refine lv_iload_n hx hb dX8_addNote_0 rfl (lv_at hl 1 rfl) ?_
  refine pw_ci w (pw_runS (As := [.int (zI zt)]) (rest := []) w ⟨hx, hb, hml, hown, hts⟩ (c_X8_isTune l D G ad N c (v := zt) ⟨by omega, by omega⟩) (va_cwS 1 hts gX8_addNote_X8_isTune rfl rfl rfl (by decide +kernel) ⟨Nat.le_of_ble_eq_true rfl, Nat.le_of_ble_eq_true rfl⟩) rfl hl.1 rfl (lv_room (Nat.le_of_ble_eq_true rfl)) dX8_addNote_1 ⟨Nat.le_of_ble_eq_true rfl, Nat.le_of_ble_eq_true rfl⟩) (fun r_ u H locs hp w => ?_)
  obtain ⟨hv, hu⟩ := hp
  subst hv
  have w : PW D G A s ad N c H locs := by rw [hu] at w; exact w
  clear hu
  by_cases h0 : 0 ≤ zt ∧ zt ≤ 3
  · refine pz_top (b := 1) (if_pos h0) ?_
    refine pz_ifeq (tgt := 28) hx hb dX8_addNote_4 (by decide) (⟨by omega, by omega⟩) (fun h1 => ?_) (fun h1 => ?_)
    · omega
    · refine lv_iload_n hx hb dX8_addNote_7 rfl (lv_at hl 2 rfl) ?_
      refine pw_ci w (pw_runS (As := [.int (zI zx)]) (rest := []) w ⟨hx, hb, hml, hown, hts⟩ (c_X8_isPitch l D G ad N c (v := zx) ⟨by omega, by omega⟩) (va_cwS 1 hts gX8_addNote_X8_isPitch rfl rfl rfl (by decide +kernel) ⟨Nat.le_of_ble_eq_true rfl, Nat.le_of_ble_eq_true rfl⟩) rfl hl.1 rfl (lv_room (Nat.le_of_ble_eq_true rfl)) dX8_addNote_8 ⟨Nat.le_of_ble_eq_true rfl, Nat.le_of_ble_eq_true rfl⟩) (fun r_ u H locs hp w => ?_)
      obtain ⟨hv, hu⟩ := hp
      subst hv
      have w : PW D G A s ad N c H locs := by rw [hu] at w; exact w
      clear hu
      by_cases h1 : 0 ≤ zx ∧ zx ≤ 8
      · refine pz_top (b := 1) (if_pos h1) ?_
        refine pz_ifeq (tgt := 28) hx hb dX8_addNote_11 (by decide) (⟨by omega, by omega⟩) (fun h2 => ?_) (fun h2 => ?_)
        · omega
        · refine lv_iload_n hx hb dX8_addNote_14 rfl (lv_at hl 3 rfl) ?_
          refine lv_iconst (v := zI (1)) hx hb dX8_addNote_15 rfl ?_
          refine lv_bipush (v := zI (32)) hx hb dX8_addNote_16 (by decide +kernel) ?_
          refine pw_ci w (pw_runS (As := [.int (zI zm), .int (zI 1), .int (zI 32)]) (rest := []) w ⟨hx, hb, hml, hown, hts⟩ (c_X8_in l D G ad N c (v := zm) (lo := 1) (hi := 32) ⟨by omega, by omega⟩ ⟨by omega, by omega⟩ ⟨by omega, by omega⟩) (va_cwS 3 hts gX8_addNote_X8_in rfl rfl rfl (by decide +kernel) ⟨Nat.le_of_ble_eq_true rfl, Nat.le_of_ble_eq_true rfl⟩) rfl hl.1 rfl (lv_room (Nat.le_of_ble_eq_true rfl)) dX8_addNote_18 ⟨Nat.le_of_ble_eq_true rfl, Nat.le_of_ble_eq_true rfl⟩) (fun r_ u H locs hp w => ?_)
          obtain ⟨hv, hu⟩ := hp
          subst hv
          have w : PW D G A s ad N c H locs := by rw [hu] at w; exact w
          clear hu
          refine pz_top (b := 0) (if_neg (by omega)) ?_
          refine pz_ifeq (tgt := 28) hx hb dX8_addNote_21 (by decide) (⟨by omega, by omega⟩) (fun h3 => ?_) (fun h3 => ?_)
          · refine lv_iconst (v := zI (0)) hx hb dX8_addNote_28 rfl ?_
            refine lv_istore (lv' := [(4, .int (zI 0)), (0, .ref (ad 120)), (1, .int (zI zt)), (2, .int (zI zx)), (3, .int (zI zm))]) hx hb dX8_addNote_29 hl (by decide) rfl (fun ls hl => ?_)
            refine lv_aload_n hx hb dX8_addNote_31 rfl (lv_at hl 1 rfl) ?_
            refine lv_iload hx hb dX8_addNote_32 (lv_at hl 0 rfl) ?_
            refine pz_ifne (tgt := 41) hx hb dX8_addNote_34 (by decide) (⟨by omega, by omega⟩) (fun h4 => ?_) (fun h4 => ?_)
            · omega
            · refine lv_iconst (v := zI (1)) hx hb dX8_addNote_37 rfl ?_
              refine lv_goto (tgt := 57) hx hb dX8_addNote_38 (by decide) ?_
              refine pw_ci w (pw_runV (r := 120) (ci := 8) (As := [.int (zI 1)]) (rest := []) w ⟨hx, hb, hml, hown, hts⟩ (c_X8_goesWell l D G ad N c (pl := 1) hN hm ⟨by decide, by decide⟩) (cwV 1 hts gX8_addNote_X8_goesWell rfl rfl rfl (by decide +kernel) ⟨Nat.le_of_ble_eq_true rfl, Nat.le_of_ble_eq_true rfl⟩) (by omega) hm rfl rfl hl.1 rfl (lv_room (Nat.le_of_ble_eq_true rfl)) dX8_addNote_57 ⟨Nat.le_of_ble_eq_true rfl, Nat.le_of_ble_eq_true rfl⟩) (fun r_ c5 H locs hp w => ?_)
              have w : PW D G A s ad N c5 H locs := w
              obtain ⟨hv5, hm5, fr5⟩ := hp
              subst hv5
              refine pz_top (b := 0) (if_neg (by omega)) ?_
              have hS5 := hS.to hm5 fr5
              have hm := hm5
              obtain ⟨-, hh, hB, hDr, hMT, hMR⟩ := id hS5
              refine pz_ifne (tgt := 65) hx hb dX8_addNote_60 (by decide) (⟨by omega, by omega⟩) (fun h6 => ?_) (fun h6 => ?_)
              · omega
              · refine lv_iconst (v := zI (0)) hx hb dX8_addNote_63 rfl ?_
                exact fin (ad, N, c5) c5 _ _ _ _ _ _ _ rfl ⟨rfl, hS5, fun q hq => ((fr5 q (by omega)).trans rfl)⟩ w dX8_addNote_64 (Nat.le_refl _) (Nat.le_refl _)
          · omega
      · refine pz_top (b := 0) (if_neg h1) ?_
        refine pz_ifeq (tgt := 28) hx hb dX8_addNote_11 (by decide) (⟨by omega, by omega⟩) (fun h7 => ?_) (fun h7 => ?_)
        · refine lv_iconst (v := zI (0)) hx hb dX8_addNote_28 rfl ?_
          refine lv_istore (lv' := [(4, .int (zI 0)), (0, .ref (ad 120)), (1, .int (zI zt)), (2, .int (zI zx)), (3, .int (zI zm))]) hx hb dX8_addNote_29 hl (by decide) rfl (fun ls hl => ?_)
          refine lv_aload_n hx hb dX8_addNote_31 rfl (lv_at hl 1 rfl) ?_
          refine lv_iload hx hb dX8_addNote_32 (lv_at hl 0 rfl) ?_
          refine pz_ifne (tgt := 41) hx hb dX8_addNote_34 (by decide) (⟨by omega, by omega⟩) (fun h8 => ?_) (fun h8 => ?_)
          · omega
          · refine lv_iconst (v := zI (1)) hx hb dX8_addNote_37 rfl ?_
            refine lv_goto (tgt := 57) hx hb dX8_addNote_38 (by decide) ?_
            refine pw_ci w (pw_runV (r := 120) (ci := 8) (As := [.int (zI 1)]) (rest := []) w ⟨hx, hb, hml, hown, hts⟩ (c_X8_goesWell l D G ad N c (pl := 1) hN hm ⟨by decide, by decide⟩) (cwV 1 hts gX8_addNote_X8_goesWell rfl rfl rfl (by decide +kernel) ⟨Nat.le_of_ble_eq_true rfl, Nat.le_of_ble_eq_true rfl⟩) (by omega) hm rfl rfl hl.1 rfl (lv_room (Nat.le_of_ble_eq_true rfl)) dX8_addNote_57 ⟨Nat.le_of_ble_eq_true rfl, Nat.le_of_ble_eq_true rfl⟩) (fun r_ c9 H locs hp w => ?_)
            have w : PW D G A s ad N c9 H locs := w
            obtain ⟨hv9, hm9, fr9⟩ := hp
            subst hv9
            refine pz_top (b := 0) (if_neg (by omega)) ?_
            have hS9 := hS.to hm9 fr9
            have hm := hm9
            obtain ⟨-, hh, hB, hDr, hMT, hMR⟩ := id hS9
            refine pz_ifne (tgt := 65) hx hb dX8_addNote_60 (by decide) (⟨by omega, by omega⟩) (fun h10 => ?_) (fun h10 => ?_)
            · omega
            · refine lv_iconst (v := zI (0)) hx hb dX8_addNote_63 rfl ?_
              exact fin (ad, N, c9) c9 _ _ _ _ _ _ _ rfl ⟨rfl, hS9, fun q hq => ((fr9 q (by omega)).trans rfl)⟩ w dX8_addNote_64 (Nat.le_refl _) (Nat.le_refl _)
        · omega
  · refine pz_top (b := 0) (if_neg h0) ?_
    refine pz_ifeq (tgt := 28) hx hb dX8_addNote_4 (by decide) (⟨by omega, by omega⟩) (fun h11 => ?_) (fun h11 => ?_)
    · refine lv_iconst (v := zI (0)) hx hb dX8_addNote_28 rfl ?_
      refine lv_istore (lv' := [(4, .int (zI 0)), (0, .ref (ad 120)), (1, .int (zI zt)), (2, .int (zI zx)), (3, .int (zI zm))]) hx hb dX8_addNote_29 hl (by decide) rfl (fun ls hl => ?_)
      refine lv_aload_n hx hb dX8_addNote_31 rfl (lv_at hl 1 rfl) ?_
      refine lv_iload hx hb dX8_addNote_32 (lv_at hl 0 rfl) ?_
      refine pz_ifne (tgt := 41) hx hb dX8_addNote_34 (by decide) (⟨by omega, by omega⟩) (fun h12 => ?_) (fun h12 => ?_)
      · omega
      · refine lv_iconst (v := zI (1)) hx hb dX8_addNote_37 rfl ?_
        refine lv_goto (tgt := 57) hx hb dX8_addNote_38 (by decide) ?_
        refine pw_ci w (pw_runV (r := 120) (ci := 8) (As := [.int (zI 1)]) (rest := []) w ⟨hx, hb, hml, hown, hts⟩ (c_X8_goesWell l D G ad N c (pl := 1) hN hm ⟨by decide, by decide⟩) (cwV 1 hts gX8_addNote_X8_goesWell rfl rfl rfl (by decide +kernel) ⟨Nat.le_of_ble_eq_true rfl, Nat.le_of_ble_eq_true rfl⟩) (by omega) hm rfl rfl hl.1 rfl (lv_room (Nat.le_of_ble_eq_true rfl)) dX8_addNote_57 ⟨Nat.le_of_ble_eq_true rfl, Nat.le_of_ble_eq_true rfl⟩) (fun r_ c13 H locs hp w => ?_)
        have w : PW D G A s ad N c13 H locs := w
        obtain ⟨hv13, hm13, fr13⟩ := hp
        subst hv13
        refine pz_top (b := 0) (if_neg (by omega)) ?_
        have hS13 := hS.to hm13 fr13
        have hm := hm13
        obtain ⟨-, hh, hB, hDr, hMT, hMR⟩ := id hS13
        refine pz_ifne (tgt := 65) hx hb dX8_addNote_60 (by decide) (⟨by omega, by omega⟩) (fun h14 => ?_) (fun h14 => ?_)
        · omega
        · refine lv_iconst (v := zI (0)) hx hb dX8_addNote_63 rfl ?_
          exact fin (ad, N, c13) c13 _ _ _ _ _ _ _ rfl ⟨rfl, hS13, fun q hq => ((fr13 q (by omega)).trans rfl)⟩ w dX8_addNote_64 (Nat.le_refl _) (Nat.le_refl _)
    · omega

theorem hin_X8_addNote_8 : ∀ w ∈ u_ws RX8 TX8 21, w ∈ wsX8_addNote := by decide +kernel
theorem fl_X8_addNote_36 : Cond.fieldLink RX8 36 "PipersDeskModel" "noteMany" "[I" ∈ wsX8_addNote := by decide +kernel
set_option maxHeartbeats 4000000 in
set_option maxRecDepth 100000 in
/-- X8_addNote_bad2 -/
theorem c_X8_addNote_bad2 (l : Launch) (D : va_G) (G : Nat → ClassId) (ad : Nat → Nat) (N : Nat) (c : Nat → va_E) {th lim : Int} {no dn : Nat} {gn : Nat → Nat} {gg : Nat → Nat → Nat} {dg nn : Nat → Nat} {pt ln : Nat → Nat → Nat} {wi : Nat → Nat → Int} (hN : 139 ≤ N) (hS : MS G ad c th lim no dn gn gg dg nn pt ln wi) (hV : SV lim no dn gn gg dg nn pt ln wi) {t x mm : Nat} (ht : t < 4) (hx9 : x < 9) (hmm : 1 ≤ mm ∧ mm ≤ 32) (hfull : nn t = 10) : MC l yX8_addNote wsX8_addNote rm_X8_addNote [.ref (ad 120), .int (zI (t : Int)), .int (zI (x : Int)), .int (zI (mm : Int))] D G ad N c (qI D G (fx ad N) (fun v c1 => v = zI 0 ∧ MS G ad c1 2 lim no dn gn gg dg nn pt ln wi ∧ ∀ q, (q < 120 ∨ 137 ≤ q) → c1 q = c q)) 0 0 := by
  refine MCi.of (cc := cX8_addNote) (maxL := 6) (by decide) rfl (Nat.le_of_ble_eq_true rfl) ?_
  intro p e s m args below meth kc A Q hx hb hts hown hml fin H locs w ls hl
  have hown : s.vm.findClass RX8 = some m.cls := hown
  have hl : lv_has ls 6 [(0, .ref (ad 120)), (1, .int (zI (t : Int))), (2, .int (zI (x : Int))), (3, .int (zI (mm : Int)))] := hl
  obtain ⟨⟨row, hm⟩, hh, hB, hDr, hMT, hMR⟩ := id hS
  obtain ⟨hlim, hOV, hdn4, hdg, hUV⟩ := id hV
  have hlb : bnd lim := ⟨by omega, by omega⟩
  have hno8 := hOV.1
  have hnt := (hUV t ht).1
  refine lv_iload_n hx hb dX8_addNote_0 rfl (lv_at hl 1 rfl) ?_
  refine pw_ci w (pw_runS (As := [.int (zI (t : Int))]) (rest := []) w ⟨hx, hb, hml, hown, hts⟩ (c_X8_isTune l D G ad N c (v := (t : Int)) ⟨by omega, by omega⟩) (va_cwS 1 hts gX8_addNote_X8_isTune rfl rfl rfl (by decide +kernel) ⟨Nat.le_of_ble_eq_true rfl, Nat.le_of_ble_eq_true rfl⟩) rfl hl.1 rfl (lv_room (Nat.le_of_ble_eq_true rfl)) dX8_addNote_1 ⟨Nat.le_of_ble_eq_true rfl, Nat.le_of_ble_eq_true rfl⟩) (fun r_ u H locs hp w => ?_)
  obtain ⟨hv, hu⟩ := hp
  subst hv
  have w : PW D G A s ad N c H locs := by rw [hu] at w; exact w
  clear hu
  refine pz_top (b := 1) (if_pos (by omega)) ?_
  refine pz_ifeq (tgt := 28) hx hb dX8_addNote_4 (by decide) (⟨by omega, by omega⟩) (fun h1 => ?_) (fun h1 => ?_)
  · omega
  · refine lv_iload_n hx hb dX8_addNote_7 rfl (lv_at hl 2 rfl) ?_
    refine pw_ci w (pw_runS (As := [.int (zI (x : Int))]) (rest := []) w ⟨hx, hb, hml, hown, hts⟩ (c_X8_isPitch l D G ad N c (v := (x : Int)) ⟨by omega, by omega⟩) (va_cwS 1 hts gX8_addNote_X8_isPitch rfl rfl rfl (by decide +kernel) ⟨Nat.le_of_ble_eq_true rfl, Nat.le_of_ble_eq_true rfl⟩) rfl hl.1 rfl (lv_room (Nat.le_of_ble_eq_true rfl)) dX8_addNote_8 ⟨Nat.le_of_ble_eq_true rfl, Nat.le_of_ble_eq_true rfl⟩) (fun r_ u H locs hp w => ?_)
    obtain ⟨hv, hu⟩ := hp
    subst hv
    have w : PW D G A s ad N c H locs := by rw [hu] at w; exact w
    clear hu
    refine pz_top (b := 1) (if_pos (by omega)) ?_
    refine pz_ifeq (tgt := 28) hx hb dX8_addNote_11 (by decide) (⟨by omega, by omega⟩) (fun h2 => ?_) (fun h2 => ?_)
    · omega
    · refine lv_iload_n hx hb dX8_addNote_14 rfl (lv_at hl 3 rfl) ?_
      refine lv_iconst (v := zI (1)) hx hb dX8_addNote_15 rfl ?_
      refine lv_bipush (v := zI (32)) hx hb dX8_addNote_16 (by decide +kernel) ?_
      refine pw_ci w (pw_runS (As := [.int (zI (mm : Int)), .int (zI 1), .int (zI 32)]) (rest := []) w ⟨hx, hb, hml, hown, hts⟩ (c_X8_in l D G ad N c (v := (mm : Int)) (lo := 1) (hi := 32) ⟨by omega, by omega⟩ ⟨by omega, by omega⟩ ⟨by omega, by omega⟩) (va_cwS 3 hts gX8_addNote_X8_in rfl rfl rfl (by decide +kernel) ⟨Nat.le_of_ble_eq_true rfl, Nat.le_of_ble_eq_true rfl⟩) rfl hl.1 rfl (lv_room (Nat.le_of_ble_eq_true rfl)) dX8_addNote_18 ⟨Nat.le_of_ble_eq_true rfl, Nat.le_of_ble_eq_true rfl⟩) (fun r_ u H locs hp w => ?_)
      obtain ⟨hv, hu⟩ := hp
      subst hv
      have w : PW D G A s ad N c H locs := by rw [hu] at w; exact w
      clear hu
      refine pz_top (b := 1) (if_pos (by omega)) ?_
      refine pz_ifeq (tgt := 28) hx hb dX8_addNote_21 (by decide) (⟨by omega, by omega⟩) (fun h3 => ?_) (fun h3 => ?_)
      · omega
      · refine lv_iconst (v := zI (1)) hx hb dX8_addNote_24 rfl ?_
        refine lv_goto (tgt := 29) hx hb dX8_addNote_25 (by decide) ?_
        refine lv_istore (lv' := [(4, .int (zI 1)), (0, .ref (ad 120)), (1, .int (zI (t : Int))), (2, .int (zI (x : Int))), (3, .int (zI (mm : Int)))]) hx hb dX8_addNote_29 hl (by decide) rfl (fun ls hl => ?_)
        refine lv_aload_n hx hb dX8_addNote_31 rfl (lv_at hl 1 rfl) ?_
        refine lv_iload hx hb dX8_addNote_32 (lv_at hl 0 rfl) ?_
        refine pz_ifne (tgt := 41) hx hb dX8_addNote_34 (by decide) (⟨by omega, by omega⟩) (fun h4 => ?_) (fun h4 => ?_)
        · refine lv_aload_n hx hb dX8_addNote_41 rfl (lv_at hl 1 rfl) ?_
          refine pw_get (r := 120) (ci := 8) (C := RX8) (T := TX8) (Nf := 21) hx hb w hts hin_X8_addNote_8 hown (by omega) hm rfl 11 (by decide) (hts _ fl_X8_addNote_36) (fun _ h9 => h9) rfl dX8_addNote_42 ?_
          refine lv_iload_n hx hb dX8_addNote_45 rfl (lv_at hl 2 rfl) ?_
          refine pw_iald (r := 128) (j := t) hx hb w (by omega) hMT.2.2.2 (by omega) (by omega) (by decide) dX8_addNote_46 ?_
          refine lv_bipush (v := zI (10)) hx hb dX8_addNote_47 (by decide +kernel) ?_
          refine pz_icmpne (tgt := 56) hx hb dX8_addNote_49 (by decide) (⟨by omega, by omega⟩) (⟨by omega, by omega⟩) (fun h5 => ?_) (fun h5 => ?_)
          · omega
          · refine lv_iconst (v := zI (2)) hx hb dX8_addNote_52 rfl ?_
            refine lv_goto (tgt := 57) hx hb dX8_addNote_53 (by decide) ?_
            refine pw_ci w (pw_runV (r := 120) (ci := 8) (As := [.int (zI 2)]) (rest := []) w ⟨hx, hb, hml, hown, hts⟩ (c_X8_goesWell l D G ad N c (pl := 2) hN hm ⟨by decide, by decide⟩) (cwV 1 hts gX8_addNote_X8_goesWell rfl rfl rfl (by decide +kernel) ⟨Nat.le_of_ble_eq_true rfl, Nat.le_of_ble_eq_true rfl⟩) (by omega) hm rfl rfl hl.1 rfl (lv_room (Nat.le_of_ble_eq_true rfl)) dX8_addNote_57 ⟨Nat.le_of_ble_eq_true rfl, Nat.le_of_ble_eq_true rfl⟩) (fun r_ c6 H locs hp w => ?_)
            have w : PW D G A s ad N c6 H locs := w
            obtain ⟨hv6, hm6, fr6⟩ := hp
            subst hv6
            refine pz_top (b := 0) (if_neg (by omega)) ?_
            have hS6 := hS.to hm6 fr6
            have hm := hm6
            obtain ⟨-, hh, hB, hDr, hMT, hMR⟩ := id hS6
            refine pz_ifne (tgt := 65) hx hb dX8_addNote_60 (by decide) (⟨by omega, by omega⟩) (fun h7 => ?_) (fun h7 => ?_)
            · omega
            · refine lv_iconst (v := zI (0)) hx hb dX8_addNote_63 rfl ?_
              exact fin (ad, N, c6) c6 _ _ _ _ _ _ _ rfl ⟨rfl, hS6, fun q hq => ((fr6 q (by omega)).trans rfl)⟩ w dX8_addNote_64 (Nat.le_refl _) (Nat.le_refl _)
        · omega

theorem fl_X8_addNote_26 : Cond.fieldLink RX8 26 "PipersDeskModel" "pitches" "[I" ∈ wsX8_addNote := by decide +kernel
theorem fl_X8_addNote_29 : Cond.fieldLink RX8 29 "PipersDeskModel" "lengths" "[I" ∈ wsX8_addNote := by decide +kernel
theorem fl_X8_addNote_32 : Cond.fieldLink RX8 32 "PipersDeskModel" "wishes" "[Z" ∈ wsX8_addNote := by decide +kernel
set_option maxHeartbeats 4000000 in
set_option maxRecDepth 100000 in
/-- X8_addNote_ok -/
theorem c_X8_addNote_ok (l : Launch) (D : va_G) (G : Nat → ClassId) (ad : Nat → Nat) (N : Nat) (c : Nat → va_E) {th lim : Int} {no dn : Nat} {gn : Nat → Nat} {gg : Nat → Nat → Nat} {dg nn : Nat → Nat} {pt ln : Nat → Nat → Nat} {wi : Nat → Nat → Int} (hN : 139 ≤ N) (hS : MS G ad c th lim no dn gn gg dg nn pt ln wi) (hV : SV lim no dn gn gg dg nn pt ln wi) {t x mm : Nat} (ht : t < 4) (hx9 : x < 9) (hmm : 1 ≤ mm ∧ mm ≤ 32) (hn10 : nn t < 10) : MC l yX8_addNote wsX8_addNote rm_X8_addNote [.ref (ad 120), .int (zI (t : Int)), .int (zI (x : Int)), .int (zI (mm : Int))] D G ad N c (qI D G (fx ad N) (fun v c1 => v = zI ((nn t + 1 : Nat) : Int) ∧ MS G ad c1 0 lim no dn gn gg dg (upT nn t (nn t + 1)) (upT pt t (fun i => if i = nn t then x else pt t i)) (upT ln t (fun i => if i = nn t then mm else ln t i)) (upT wi t (fun i => if i + 1 = nn t then 0 else wi t i)) ∧ ∀ q, (q < 120 ∨ 137 ≤ q) → c1 q = c q)) 0 0 := by
  refine MCi.of (cc := cX8_addNote) (maxL := 6) (by decide) rfl (Nat.le_of_ble_eq_true rfl) ?_
  intro p e s m args below meth kc A Q hx hb hts hown hml fin H locs w ls hl
  have hown : s.vm.findClass RX8 = some m.cls := hown
  have hl : lv_has ls 6 [(0, .ref (ad 120)), (1, .int (zI (t : Int))), (2, .int (zI (x : Int))), (3, .int (zI (mm : Int)))] := hl
  obtain ⟨⟨row, hm⟩, hh, hB, hDr, hMT, hMR⟩ := id hS
  obtain ⟨hlim, hOV, hdn4, hdg, hUV⟩ := id hV
  have hlb : bnd lim := ⟨by omega, by omega⟩
  have hno8 := hOV.1
  have hnt := (hUV t ht).1
  refine lv_iload_n hx hb dX8_addNote_0 rfl (lv_at hl 1 rfl) ?_
  refine pw_ci w (pw_runS (As := [.int (zI (t : Int))]) (rest := []) w ⟨hx, hb, hml, hown, hts⟩ (c_X8_isTune l D G ad N c (v := (t : Int)) ⟨by omega, by omega⟩) (va_cwS 1 hts gX8_addNote_X8_isTune rfl rfl rfl (by decide +kernel) ⟨Nat.le_of_ble_eq_true rfl, Nat.le_of_ble_eq_true rfl⟩) rfl hl.1 rfl (lv_room (Nat.le_of_ble_eq_true rfl)) dX8_addNote_1 ⟨Nat.le_of_ble_eq_true rfl, Nat.le_of_ble_eq_true rfl⟩) (fun r_ u H locs hp w => ?_)
  obtain ⟨hv, hu⟩ := hp
  subst hv
  have w : PW D G A s ad N c H locs := by rw [hu] at w; exact w
  clear hu
  refine pz_top (b := 1) (if_pos (by omega)) ?_
  refine pz_ifeq (tgt := 28) hx hb dX8_addNote_4 (by decide) (⟨by omega, by omega⟩) (fun h1 => ?_) (fun h1 => ?_)
  · omega
  · refine lv_iload_n hx hb dX8_addNote_7 rfl (lv_at hl 2 rfl) ?_
    refine pw_ci w (pw_runS (As := [.int (zI (x : Int))]) (rest := []) w ⟨hx, hb, hml, hown, hts⟩ (c_X8_isPitch l D G ad N c (v := (x : Int)) ⟨by omega, by omega⟩) (va_cwS 1 hts gX8_addNote_X8_isPitch rfl rfl rfl (by decide +kernel) ⟨Nat.le_of_ble_eq_true rfl, Nat.le_of_ble_eq_true rfl⟩) rfl hl.1 rfl (lv_room (Nat.le_of_ble_eq_true rfl)) dX8_addNote_8 ⟨Nat.le_of_ble_eq_true rfl, Nat.le_of_ble_eq_true rfl⟩) (fun r_ u H locs hp w => ?_)
    obtain ⟨hv, hu⟩ := hp
    subst hv
    have w : PW D G A s ad N c H locs := by rw [hu] at w; exact w
    clear hu
    refine pz_top (b := 1) (if_pos (by omega)) ?_
    refine pz_ifeq (tgt := 28) hx hb dX8_addNote_11 (by decide) (⟨by omega, by omega⟩) (fun h2 => ?_) (fun h2 => ?_)
    · omega
    · refine lv_iload_n hx hb dX8_addNote_14 rfl (lv_at hl 3 rfl) ?_
      refine lv_iconst (v := zI (1)) hx hb dX8_addNote_15 rfl ?_
      refine lv_bipush (v := zI (32)) hx hb dX8_addNote_16 (by decide +kernel) ?_
      refine pw_ci w (pw_runS (As := [.int (zI (mm : Int)), .int (zI 1), .int (zI 32)]) (rest := []) w ⟨hx, hb, hml, hown, hts⟩ (c_X8_in l D G ad N c (v := (mm : Int)) (lo := 1) (hi := 32) ⟨by omega, by omega⟩ ⟨by omega, by omega⟩ ⟨by omega, by omega⟩) (va_cwS 3 hts gX8_addNote_X8_in rfl rfl rfl (by decide +kernel) ⟨Nat.le_of_ble_eq_true rfl, Nat.le_of_ble_eq_true rfl⟩) rfl hl.1 rfl (lv_room (Nat.le_of_ble_eq_true rfl)) dX8_addNote_18 ⟨Nat.le_of_ble_eq_true rfl, Nat.le_of_ble_eq_true rfl⟩) (fun r_ u H locs hp w => ?_)
      obtain ⟨hv, hu⟩ := hp
      subst hv
      have w : PW D G A s ad N c H locs := by rw [hu] at w; exact w
      clear hu
      refine pz_top (b := 1) (if_pos (by omega)) ?_
      refine pz_ifeq (tgt := 28) hx hb dX8_addNote_21 (by decide) (⟨by omega, by omega⟩) (fun h3 => ?_) (fun h3 => ?_)
      · omega
      · refine lv_iconst (v := zI (1)) hx hb dX8_addNote_24 rfl ?_
        refine lv_goto (tgt := 29) hx hb dX8_addNote_25 (by decide) ?_
        refine lv_istore (lv' := [(4, .int (zI 1)), (0, .ref (ad 120)), (1, .int (zI (t : Int))), (2, .int (zI (x : Int))), (3, .int (zI (mm : Int)))]) hx hb dX8_addNote_29 hl (by decide) rfl (fun ls hl => ?_)
        refine lv_aload_n hx hb dX8_addNote_31 rfl (lv_at hl 1 rfl) ?_
        refine lv_iload hx hb dX8_addNote_32 (lv_at hl 0 rfl) ?_
        refine pz_ifne (tgt := 41) hx hb dX8_addNote_34 (by decide) (⟨by omega, by omega⟩) (fun h4 => ?_) (fun h4 => ?_)
        · refine lv_aload_n hx hb dX8_addNote_41 rfl (lv_at hl 1 rfl) ?_
          refine pw_get (r := 120) (ci := 8) (C := RX8) (T := TX8) (Nf := 21) hx hb w hts hin_X8_addNote_8 hown (by omega) hm rfl 11 (by decide) (hts _ fl_X8_addNote_36) (fun _ h9 => h9) rfl dX8_addNote_42 ?_
          refine lv_iload_n hx hb dX8_addNote_45 rfl (lv_at hl 2 rfl) ?_
          refine pw_iald (r := 128) (j := t) hx hb w (by omega) hMT.2.2.2 (by omega) (by omega) (by decide) dX8_addNote_46 ?_
          refine lv_bipush (v := zI (10)) hx hb dX8_addNote_47 (by decide +kernel) ?_
          refine pz_icmpne (tgt := 56) hx hb dX8_addNote_49 (by decide) (⟨by omega, by omega⟩) (⟨by omega, by omega⟩) (fun h5 => ?_) (fun h5 => ?_)
          · refine lv_iconst (v := zI (0)) hx hb dX8_addNote_56 rfl ?_
            refine pw_ci w (pw_runV (r := 120) (ci := 8) (As := [.int (zI 0)]) (rest := []) w ⟨hx, hb, hml, hown, hts⟩ (c_X8_goesWell l D G ad N c (pl := 0) hN hm ⟨by decide, by decide⟩) (cwV 1 hts gX8_addNote_X8_goesWell rfl rfl rfl (by decide +kernel) ⟨Nat.le_of_ble_eq_true rfl, Nat.le_of_ble_eq_true rfl⟩) (by omega) hm rfl rfl hl.1 rfl (lv_room (Nat.le_of_ble_eq_true rfl)) dX8_addNote_57 ⟨Nat.le_of_ble_eq_true rfl, Nat.le_of_ble_eq_true rfl⟩) (fun r_ c6 H locs hp w => ?_)
            have w : PW D G A s ad N c6 H locs := w
            obtain ⟨hv6, hm6, fr6⟩ := hp
            subst hv6
            refine pz_top (b := 1) (if_pos (by omega)) ?_
            have hS6 := hS.to hm6 fr6
            have hm := hm6
            obtain ⟨-, hh, hB, hDr, hMT, hMR⟩ := id hS6
            refine pz_ifne (tgt := 65) hx hb dX8_addNote_60 (by decide) (⟨by omega, by omega⟩) (fun h7 => ?_) (fun h7 => ?_)
            · obtain ⟨⟨h5, m5, m5p⟩, ⟨h6, m6, m6p⟩, ⟨h7, m7, m7p⟩, m8⟩ := id hMT
              refine lv_bipush (v := zI (10)) hx hb dX8_addNote_65 (by decide +kernel) ?_
              refine lv_iload_n hx hb dX8_addNote_67 rfl (lv_at hl 2 rfl) ?_
              refine pz_imul hx hb dX8_addNote_68 ?_
              refine lv_aload_n hx hb dX8_addNote_69 rfl (lv_at hl 1 rfl) ?_
              refine pw_get (r := 120) (ci := 8) (C := RX8) (T := TX8) (Nf := 21) hx hb w hts hin_X8_addNote_8 hown (by omega) hm rfl 11 (by decide) (hts _ fl_X8_addNote_36) (fun _ h9 => h9) rfl dX8_addNote_70 ?_
              refine lv_iload_n hx hb dX8_addNote_73 rfl (lv_at hl 2 rfl) ?_
              refine pw_iald (r := 128) (j := t) hx hb w (by omega) hMT.2.2.2 (by omega) (by omega) (by decide) dX8_addNote_74 ?_
              refine pz_top (b := (nn t : Int)) (rfl) ?_
              refine pz_iadd hx hb dX8_addNote_75 ?_
              refine pz_top (b := ((10 * t + nn t : Nat) : Int)) (by omega) ?_
              refine lv_istore (lv' := [(5, .int (zI ((10 * t + nn t : Nat) : Int))), (4, .int (zI 1)), (0, .ref (ad 120)), (1, .int (zI (t : Int))), (2, .int (zI (x : Int))), (3, .int (zI (mm : Int)))]) hx hb dX8_addNote_76 hl (by decide) rfl (fun ls hl => ?_)
              refine lv_aload_n hx hb dX8_addNote_78 rfl (lv_at hl 2 rfl) ?_
              refine pw_get (r := 120) (ci := 8) (C := RX8) (T := TX8) (Nf := 21) hx hb w hts hin_X8_addNote_8 hown (by omega) hm rfl 8 (by decide) (hts _ fl_X8_addNote_26) (fun _ h9 => h9) rfl dX8_addNote_79 ?_
              refine lv_iload hx hb dX8_addNote_82 (lv_at hl 0 rfl) ?_
              refine lv_iload_n hx hb dX8_addNote_84 rfl (lv_at hl 4 rfl) ?_
              refine pw_iast' (r := 125) (j := (10 * t + nn t)) hx hb w (by omega) m5 (by omega) (by omega) (by decide) dX8_addNote_85 (fun H locs c8 hc8 fr8 w => ?_)
              refine lv_aload_n hx hb dX8_addNote_86 rfl (lv_at hl 2 rfl) ?_
              refine pw_get (r := 120) (ci := 8) (C := RX8) (T := TX8) (Nf := 21) hx hb w hts hin_X8_addNote_8 hown (by omega) ((fr8 120 (by omega)).trans hm) rfl 9 (by decide) (hts _ fl_X8_addNote_29) (fun _ h9 => h9) rfl dX8_addNote_87 ?_
              refine lv_iload hx hb dX8_addNote_90 (lv_at hl 0 rfl) ?_
              refine lv_iload_n hx hb dX8_addNote_92 rfl (lv_at hl 5 rfl) ?_
              refine pw_iast' (r := 126) (j := (10 * t + nn t)) hx hb w (by omega) (isA.fr (fr8 126 (by omega)) m6) (by omega) (by omega) (by decide) dX8_addNote_93 (fun H locs c9 hc9 fr9 w => ?_)
              refine lv_aload_n hx hb dX8_addNote_94 rfl (lv_at hl 2 rfl) ?_
              refine pw_get (r := 120) (ci := 8) (C := RX8) (T := TX8) (Nf := 21) hx hb w hts hin_X8_addNote_8 hown (by omega) ((fr9 120 (by omega)).trans ((fr8 120 (by omega)).trans hm)) rfl 10 (by decide) (hts _ fl_X8_addNote_32) (fun _ h9 => h9) rfl dX8_addNote_95 ?_
              refine lv_iload hx hb dX8_addNote_98 (lv_at hl 0 rfl) ?_
              refine lv_iconst (v := zI (0)) hx hb dX8_addNote_100 rfl ?_
              refine pw_zast' (r := 127) (j := (10 * t + nn t)) hx hb w (by omega) (isA.fr (fr9 127 (by omega)) (isA.fr (fr8 127 (by omega)) m7)) (by omega) (by omega) (by omega) (by decide) dX8_addNote_101 (fun H locs c10 hc10 fr10 w => ?_)
              refine lv_aload_n hx hb dX8_addNote_102 rfl (lv_at hl 2 rfl) ?_
              refine pw_get (r := 120) (ci := 8) (C := RX8) (T := TX8) (Nf := 21) hx hb w hts hin_X8_addNote_8 hown (by omega) ((fr10 120 (by omega)).trans ((fr9 120 (by omega)).trans ((fr8 120 (by omega)).trans hm))) rfl 11 (by decide) (hts _ fl_X8_addNote_36) (fun _ h9 => h9) rfl dX8_addNote_103 ?_
              refine lv_iload_n hx hb dX8_addNote_106 rfl (lv_at hl 3 rfl) ?_
              refine pw_iald (r := 128) (j := t) hx hb w (by omega) (isA.fr (fr10 128 (by omega)) (isA.fr (fr9 128 (by omega)) (isA.fr (fr8 128 (by omega)) hMT.2.2.2))) (by omega) (by omega) (by decide) dX8_addNote_107 ?_
              refine pz_ifle (tgt := 121) hx hb dX8_addNote_108 (by decide) (⟨by omega, by omega⟩) (fun hn0 => ?_) (fun hn0 => ?_)
              · refine lv_aload_n hx hb dX8_addNote_121 rfl (lv_at hl 2 rfl) ?_
                refine pw_get (r := 120) (ci := 8) (C := RX8) (T := TX8) (Nf := 21) hx hb w hts hin_X8_addNote_8 hown (by omega) ((fr10 120 (by omega)).trans ((fr9 120 (by omega)).trans ((fr8 120 (by omega)).trans hm))) rfl 11 (by decide) (hts _ fl_X8_addNote_36) (fun _ h9 => h9) rfl dX8_addNote_122 ?_
                refine lv_iload_n hx hb dX8_addNote_125 rfl (lv_at hl 3 rfl) ?_
                refine lv_dup2_11 hx hb dX8_addNote_126 rfl rfl ?_
                refine pw_iald (r := 128) (j := t) hx hb w (by omega) (isA.fr (fr10 128 (by omega)) (isA.fr (fr9 128 (by omega)) (isA.fr (fr8 128 (by omega)) hMT.2.2.2))) (by omega) (by omega) (by decide) dX8_addNote_127 ?_
                refine lv_iconst (v := zI (1)) hx hb dX8_addNote_128 rfl ?_
                refine pz_iadd hx hb dX8_addNote_129 ?_
                refine pz_top (b := ((nn t + 1 : Nat) : Int)) (by show (nn t : Int) + 1 = _; omega) ?_
                refine pw_iast' (r := 128) (j := t) hx hb w (by omega) (isA.fr (fr10 128 (by omega)) (isA.fr (fr9 128 (by omega)) (isA.fr (fr8 128 (by omega)) hMT.2.2.2))) (by omega) (by omega) (by decide) dX8_addNote_130 (fun H locs c11 hc11 fr11 w => ?_)
                refine lv_aload_n hx hb dX8_addNote_131 rfl (lv_at hl 2 rfl) ?_
                refine pw_get (r := 120) (ci := 8) (C := RX8) (T := TX8) (Nf := 21) hx hb w hts hin_X8_addNote_8 hown (by omega) ((fr11 120 (by omega)).trans ((fr10 120 (by omega)).trans ((fr9 120 (by omega)).trans ((fr8 120 (by omega)).trans hm)))) rfl 11 (by decide) (hts _ fl_X8_addNote_36) (fun _ h9 => h9) rfl dX8_addNote_132 ?_
                refine lv_iload_n hx hb dX8_addNote_135 rfl (lv_at hl 3 rfl) ?_
                refine pw_iald (r := 128) (j := t) hx hb w (by omega) hc11 (by omega) (by omega) (by decide) dX8_addNote_136 ?_
                refine pz_top (b := ((nn t + 1 : Nat) : Int)) (upI_self _ _ _) ?_
                have hS9 : MS G ad c11 0 lim no dn gn gg dg (upT nn t (nn t + 1)) (upT pt t (fun i => if i = nn t then x else pt t i)) (upT ln t (fun i => if i = nn t then mm else ln t i)) (upT wi t (fun i => if i + 1 = nn t then 0 else wi t i)) := ⟨⟨_, ((fr11 120 (by omega)).trans ((fr10 120 (by omega)).trans ((fr9 120 (by omega)).trans ((fr8 120 (by omega)).trans hm))))⟩, isA.fr ((fr11 121 (by omega)).trans ((fr10 121 (by omega)).trans ((fr9 121 (by omega)).trans ((fr8 121 (by omega)).trans rfl)))) hh, hB.fr ((fr11 122 (by omega)).trans ((fr10 122 (by omega)).trans ((fr9 122 (by omega)).trans ((fr8 122 (by omega)).trans rfl)))) ((fr11 123 (by omega)).trans ((fr10 123 (by omega)).trans ((fr9 123 (by omega)).trans ((fr8 123 (by omega)).trans rfl)))), isA.fr ((fr11 124 (by omega)).trans ((fr10 124 (by omega)).trans ((fr9 124 (by omega)).trans ((fr8 124 (by omega)).trans rfl)))) hDr, ⟨⟨_, (isA.fr (fr11 125 (by omega)) (isA.fr (fr10 125 (by omega)) (isA.fr (fr9 125 (by omega)) hc8))), fun u hu i hi => by
                  unfold upI
                  by_cases h : u = t
                  · subst h
                    rw [upT_eq] at hi ⊢
                    by_cases h1 : i = nn u
                    · simp [h1]
                    · rw [if_neg (by omega), if_neg h1]
                      exact m5p u hu i (by omega)
                  · rw [upT_ne _ _ h] at hi ⊢
                    have := (hUV u hu).1
                    rw [if_neg (by omega)]
                    exact m5p u hu i hi⟩, ⟨_, (isA.fr (fr11 126 (by omega)) (isA.fr (fr10 126 (by omega)) hc9)), fun u hu i hi => by
                  unfold upI
                  by_cases h : u = t
                  · subst h
                    rw [upT_eq] at hi ⊢
                    by_cases h1 : i = nn u
                    · simp [h1]
                    · rw [if_neg (by omega), if_neg h1]
                      exact m6p u hu i (by omega)
                  · rw [upT_ne _ _ h] at hi ⊢
                    have := (hUV u hu).1
                    rw [if_neg (by omega)]
                    exact m6p u hu i hi⟩, ⟨_, (isA.fr (fr11 127 (by omega)) hc10), fun u hu i hi => by
                  have := (hUV u hu).1
                  by_cases h : u = t
                  · subst h
                    rw [upT_eq] at hi ⊢
                    simp only [upI]
                    by_cases h1 : i + 1 = nn u
                    · rw [if_pos h1]
                      omega
                    · rw [if_neg h1]
                      rw [if_neg (by omega)]
                      exact m7p u hu i (by omega)
                  · rw [upT_ne _ _ h] at hi ⊢
                    simp only [upI]
                    rw [if_neg (by omega)]
                    exact m7p u hu i hi⟩, by rw [← upI_upT nn t (nn t + 1) _ rfl]; exact hc11⟩, hMR.fr (fun q _ _ => ((fr11 q (by omega)).trans ((fr10 q (by omega)).trans ((fr9 q (by omega)).trans ((fr8 q (by omega)).trans rfl)))))⟩
                exact fin (ad, N, c11) c11 _ _ _ _ _ _ _ rfl ⟨rfl, hS9, fun q hq => ((fr11 q (by omega)).trans ((fr10 q (by omega)).trans ((fr9 q (by omega)).trans ((fr8 q (by omega)).trans ((fr6 q (by omega)).trans rfl)))))⟩ w dX8_addNote_137 (Nat.le_refl _) (Nat.le_refl _)
              · refine lv_aload_n hx hb dX8_addNote_111 rfl (lv_at hl 2 rfl) ?_
                refine pw_get (r := 120) (ci := 8) (C := RX8) (T := TX8) (Nf := 21) hx hb w hts hin_X8_addNote_8 hown (by omega) ((fr10 120 (by omega)).trans ((fr9 120 (by omega)).trans ((fr8 120 (by omega)).trans hm))) rfl 10 (by decide) (hts _ fl_X8_addNote_32) (fun _ h9 => h9) rfl dX8_addNote_112 ?_
                refine lv_iload hx hb dX8_addNote_115 (lv_at hl 0 rfl) ?_
                refine lv_iconst (v := zI (1)) hx hb dX8_addNote_117 rfl ?_
                refine pz_isub hx hb dX8_addNote_118 ?_
                refine lv_iconst (v := zI (0)) hx hb dX8_addNote_119 rfl ?_
                refine pw_zast' (r := 127) (j := (10 * t + nn t - 1)) hx hb w (by omega) hc10 (by omega) (by omega) (by omega) (by decide) dX8_addNote_120 (fun H locs c12 hc12 fr12 w => ?_)
                refine lv_aload_n hx hb dX8_addNote_121 rfl (lv_at hl 2 rfl) ?_
                refine pw_get (r := 120) (ci := 8) (C := RX8) (T := TX8) (Nf := 21) hx hb w hts hin_X8_addNote_8 hown (by omega) ((fr12 120 (by omega)).trans ((fr10 120 (by omega)).trans ((fr9 120 (by omega)).trans ((fr8 120 (by omega)).trans hm)))) rfl 11 (by decide) (hts _ fl_X8_addNote_36) (fun _ h9 => h9) rfl dX8_addNote_122 ?_
                refine lv_iload_n hx hb dX8_addNote_125 rfl (lv_at hl 3 rfl) ?_
                refine lv_dup2_11 hx hb dX8_addNote_126 rfl rfl ?_
                refine pw_iald (r := 128) (j := t) hx hb w (by omega) (isA.fr (fr12 128 (by omega)) (isA.fr (fr10 128 (by omega)) (isA.fr (fr9 128 (by omega)) (isA.fr (fr8 128 (by omega)) hMT.2.2.2)))) (by omega) (by omega) (by decide) dX8_addNote_127 ?_
                refine lv_iconst (v := zI (1)) hx hb dX8_addNote_128 rfl ?_
                refine pz_iadd hx hb dX8_addNote_129 ?_
                refine pz_top (b := ((nn t + 1 : Nat) : Int)) (by show (nn t : Int) + 1 = _; omega) ?_
                refine pw_iast' (r := 128) (j := t) hx hb w (by omega) (isA.fr (fr12 128 (by omega)) (isA.fr (fr10 128 (by omega)) (isA.fr (fr9 128 (by omega)) (isA.fr (fr8 128 (by omega)) hMT.2.2.2)))) (by omega) (by omega) (by decide) dX8_addNote_130 (fun H locs c13 hc13 fr13 w => ?_)
                refine lv_aload_n hx hb dX8_addNote_131 rfl (lv_at hl 2 rfl) ?_
                refine pw_get (r := 120) (ci := 8) (C := RX8) (T := TX8) (Nf := 21) hx hb w hts hin_X8_addNote_8 hown (by omega) ((fr13 120 (by omega)).trans ((fr12 120 (by omega)).trans ((fr10 120 (by omega)).trans ((fr9 120 (by omega)).trans ((fr8 120 (by omega)).trans hm))))) rfl 11 (by decide) (hts _ fl_X8_addNote_36) (fun _ h9 => h9) rfl dX8_addNote_132 ?_
                refine lv_iload_n hx hb dX8_addNote_135 rfl (lv_at hl 3 rfl) ?_
                refine pw_iald (r := 128) (j := t) hx hb w (by omega) hc13 (by omega) (by omega) (by decide) dX8_addNote_136 ?_
                refine pz_top (b := ((nn t + 1 : Nat) : Int)) (upI_self _ _ _) ?_
                have hS9 : MS G ad c13 0 lim no dn gn gg dg (upT nn t (nn t + 1)) (upT pt t (fun i => if i = nn t then x else pt t i)) (upT ln t (fun i => if i = nn t then mm else ln t i)) (upT wi t (fun i => if i + 1 = nn t then 0 else wi t i)) := ⟨⟨_, ((fr13 120 (by omega)).trans ((fr12 120 (by omega)).trans ((fr10 120 (by omega)).trans ((fr9 120 (by omega)).trans ((fr8 120 (by omega)).trans hm)))))⟩, isA.fr ((fr13 121 (by omega)).trans ((fr12 121 (by omega)).trans ((fr10 121 (by omega)).trans ((fr9 121 (by omega)).trans ((fr8 121 (by omega)).trans rfl))))) hh, hB.fr ((fr13 122 (by omega)).trans ((fr12 122 (by omega)).trans ((fr10 122 (by omega)).trans ((fr9 122 (by omega)).trans ((fr8 122 (by omega)).trans rfl))))) ((fr13 123 (by omega)).trans ((fr12 123 (by omega)).trans ((fr10 123 (by omega)).trans ((fr9 123 (by omega)).trans ((fr8 123 (by omega)).trans rfl))))), isA.fr ((fr13 124 (by omega)).trans ((fr12 124 (by omega)).trans ((fr10 124 (by omega)).trans ((fr9 124 (by omega)).trans ((fr8 124 (by omega)).trans rfl))))) hDr, ⟨⟨_, (isA.fr (fr13 125 (by omega)) (isA.fr (fr12 125 (by omega)) (isA.fr (fr10 125 (by omega)) (isA.fr (fr9 125 (by omega)) hc8)))), fun u hu i hi => by
                  unfold upI
                  by_cases h : u = t
                  · subst h
                    rw [upT_eq] at hi ⊢
                    by_cases h1 : i = nn u
                    · simp [h1]
                    · rw [if_neg (by omega), if_neg h1]
                      exact m5p u hu i (by omega)
                  · rw [upT_ne _ _ h] at hi ⊢
                    have := (hUV u hu).1
                    rw [if_neg (by omega)]
                    exact m5p u hu i hi⟩, ⟨_, (isA.fr (fr13 126 (by omega)) (isA.fr (fr12 126 (by omega)) (isA.fr (fr10 126 (by omega)) hc9))), fun u hu i hi => by
                  unfold upI
                  by_cases h : u = t
                  · subst h
                    rw [upT_eq] at hi ⊢
                    by_cases h1 : i = nn u
                    · simp [h1]
                    · rw [if_neg (by omega), if_neg h1]
                      exact m6p u hu i (by omega)
                  · rw [upT_ne _ _ h] at hi ⊢
                    have := (hUV u hu).1
                    rw [if_neg (by omega)]
                    exact m6p u hu i hi⟩, ⟨_, (isA.fr (fr13 127 (by omega)) hc12), fun u hu i hi => by
                  have := (hUV u hu).1
                  by_cases h : u = t
                  · subst h
                    rw [upT_eq] at hi ⊢
                    simp only [upI]
                    by_cases h1 : i + 1 = nn u
                    · rw [if_pos h1]
                      rw [if_pos (by omega)]
                    · rw [if_neg h1]
                      rw [if_neg (by omega), if_neg (by omega)]
                      exact m7p u hu i (by omega)
                  · rw [upT_ne _ _ h] at hi ⊢
                    simp only [upI]
                    rw [if_neg (by omega), if_neg (by omega)]
                    exact m7p u hu i hi⟩, by rw [← upI_upT nn t (nn t + 1) _ rfl]; exact hc13⟩, hMR.fr (fun q _ _ => ((fr13 q (by omega)).trans ((fr12 q (by omega)).trans ((fr10 q (by omega)).trans ((fr9 q (by omega)).trans ((fr8 q (by omega)).trans rfl))))))⟩
                exact fin (ad, N, c13) c13 _ _ _ _ _ _ _ rfl ⟨rfl, hS9, fun q hq => ((fr13 q (by omega)).trans ((fr12 q (by omega)).trans ((fr10 q (by omega)).trans ((fr9 q (by omega)).trans ((fr8 q (by omega)).trans ((fr6 q (by omega)).trans rfl))))))⟩ w dX8_addNote_137 (Nat.le_refl _) (Nat.le_refl _)
            · omega
          · omega
        · omega

abbrev rm_X8_removeNote : Room := { frames := 2, cells := 0, slots := 0, locals := 60 }
set_option maxHeartbeats 4000000 in
set_option maxRecDepth 100000 in
/-- X8_removeNote_bad1 -/
theorem c_X8_removeNote_bad1 (l : Launch) (D : va_G) (G : Nat → ClassId) (ad : Nat → Nat) (N : Nat) (c : Nat → va_E) {th lim : Int} {no dn : Nat} {gn : Nat → Nat} {gg : Nat → Nat → Nat} {dg nn : Nat → Nat} {pt ln : Nat → Nat → Nat} {wi : Nat → Nat → Int} (hN : 139 ≤ N) (hS : MS G ad c th lim no dn gn gg dg nn pt ln wi) (hV : SV lim no dn gn gg dg nn pt ln wi) {zt : Int} (hbzt : bnd zt) (hbad : ¬ (0 ≤ zt ∧ zt ≤ 3)) : MC l yX8_removeNote wsX8_removeNote rm_X8_removeNote [.ref (ad 120), .int (zI zt)] D G ad N c (qI D G (fx ad N) (fun v c1 => v = zI 0 ∧ MS G ad c1 1 lim no dn gn gg dg nn pt ln wi ∧ ∀ q, (q < 120 ∨ 137 ≤ q) → c1 q = c q)) 0 0 := by
  refine MCi.of (cc := cX8_removeNote) (maxL := 2) (by decide) rfl (Nat.le_of_ble_eq_true rfl) ?_
  intro p e s m args below meth kc A Q hx hb hts hown hml fin H locs w ls hl
  have hown : s.vm.findClass RX8 = some m.cls := hown
  have hl : lv_has ls 2 [(0, .ref (ad 120)), (1, .int (zI zt))] := hl
  obtain ⟨⟨row, hm⟩, hh, hB, hDr, hMT, hMR⟩ := id hS
  obtain ⟨hlim, hOV, hdn4, hdg, hUV⟩ := id hV
  have hlb : bnd lim := ⟨by omega, by omega⟩
  have hno8 := hOV.1
  have hbzt1 := hbzt.1
  have hbzt2 := hbzt.2
  refine lv_aload_n hx hb dX8_removeNote_0 rfl (lv_at hl 0 rfl) ?_
  refine lv_iload_n hx hb dX8_removeNote_1 rfl (lv_at hl 1 rfl) ?_
  refine pw_ci w (pw_runS (As := [.int (zI zt)]) (rest := [.ref (ad 120)]) w ⟨hx, hb, hml, hown, hts⟩ (c_X8_isTune l D G ad N c (v := zt) ⟨by omega, by omega⟩) (va_cwS 1 hts gX8_removeNote_X8_isTune rfl rfl rfl (by decide +kernel) ⟨Nat.le_of_ble_eq_true rfl, Nat.le_of_ble_eq_true rfl⟩) rfl hl.1 rfl (lv_room (Nat.le_of_ble_eq_true rfl)) dX8_removeNote_2 ⟨Nat.le_of_ble_eq_true rfl, Nat.le_of_ble_eq_true rfl⟩) (fun r_ u H locs hp w => ?_)
  obtain ⟨hv, hu⟩ := hp
  subst hv
  have w : PW D G A s ad N c H locs := by rw [hu] at w; exact w
  clear hu
  refine pz_top (b := 0) (if_neg (by omega)) ?_
  refine pz_ifne (tgt := 12) hx hb dX8_removeNote_5 (by decide) (⟨by omega, by omega⟩) (fun h1 => ?_) (fun h1 => ?_)
  · omega
  · refine lv_iconst (v := zI (1)) hx hb dX8_removeNote_8 rfl ?_
    refine lv_goto (tgt := 26) hx hb dX8_removeNote_9 (by decide) ?_
    refine pw_ci w (pw_runV (r := 120) (ci := 8) (As := [.int (zI 1)]) (rest := []) w ⟨hx, hb, hml, hown, hts⟩ (c_X8_goesWell l D G ad N c (pl := 1) hN hm ⟨by decide, by decide⟩) (cwV 1 hts gX8_removeNote_X8_goesWell rfl rfl rfl (by decide +kernel) ⟨Nat.le_of_ble_eq_true rfl, Nat.le_of_ble_eq_true rfl⟩) (by omega) hm rfl rfl hl.1 rfl (lv_room (Nat.le_of_ble_eq_true rfl)) dX8_removeNote_26 ⟨Nat.le_of_ble_eq_true rfl, Nat.le_of_ble_eq_true rfl⟩) (fun r_ c2 H locs hp w => ?_)
    have w : PW D G A s ad N c2 H locs := w
    obtain ⟨hv2, hm2, fr2⟩ := hp
    subst hv2
    refine pz_top (b := 0) (if_neg (by omega)) ?_
    have hS2 := hS.to hm2 fr2
    have hm := hm2
    obtain ⟨-, hh, hB, hDr, hMT, hMR⟩ := id hS2
    refine pz_ifne (tgt := 34) hx hb dX8_removeNote_29 (by decide) (⟨by omega, by omega⟩) (fun h3 => ?_) (fun h3 => ?_)
    · omega
    · refine lv_iconst (v := zI (0)) hx hb dX8_removeNote_32 rfl ?_
      exact fin (ad, N, c2) c2 _ _ _ _ _ _ _ rfl ⟨rfl, hS2, fun q hq => ((fr2 q (by omega)).trans rfl)⟩ w dX8_removeNote_33 (Nat.le_refl _) (Nat.le_refl _)

theorem hin_X8_removeNote_8 : ∀ w ∈ u_ws RX8 TX8 21, w ∈ wsX8_removeNote := by decide +kernel
theorem fl_X8_removeNote_36 : Cond.fieldLink RX8 36 "PipersDeskModel" "noteMany" "[I" ∈ wsX8_removeNote := by decide +kernel
set_option maxHeartbeats 4000000 in
set_option maxRecDepth 100000 in
/-- X8_removeNote_bad2 -/
theorem c_X8_removeNote_bad2 (l : Launch) (D : va_G) (G : Nat → ClassId) (ad : Nat → Nat) (N : Nat) (c : Nat → va_E) {th lim : Int} {no dn : Nat} {gn : Nat → Nat} {gg : Nat → Nat → Nat} {dg nn : Nat → Nat} {pt ln : Nat → Nat → Nat} {wi : Nat → Nat → Int} (hN : 139 ≤ N) (hS : MS G ad c th lim no dn gn gg dg nn pt ln wi) (hV : SV lim no dn gn gg dg nn pt ln wi) {t : Nat} (ht : t < 4) (hn0 : nn t = 0) : MC l yX8_removeNote wsX8_removeNote rm_X8_removeNote [.ref (ad 120), .int (zI (t : Int))] D G ad N c (qI D G (fx ad N) (fun v c1 => v = zI 0 ∧ MS G ad c1 2 lim no dn gn gg dg nn pt ln wi ∧ ∀ q, (q < 120 ∨ 137 ≤ q) → c1 q = c q)) 0 0 := by
  refine MCi.of (cc := cX8_removeNote) (maxL := 2) (by decide) rfl (Nat.le_of_ble_eq_true rfl) ?_
  intro p e s m args below meth kc A Q hx hb hts hown hml fin H locs w ls hl
  have hown : s.vm.findClass RX8 = some m.cls := hown
  have hl : lv_has ls 2 [(0, .ref (ad 120)), (1, .int (zI (t : Int)))] := hl
  obtain ⟨⟨row, hm⟩, hh, hB, hDr, hMT, hMR⟩ := id hS
  obtain ⟨hlim, hOV, hdn4, hdg, hUV⟩ := id hV
  have hlb : bnd lim := ⟨by omega, by omega⟩
  have hno8 := hOV.1
  have hnt := (hUV t ht).1
  refine lv_aload_n hx hb dX8_removeNote_0 rfl (lv_at hl 0 rfl) ?_
  refine lv_iload_n hx hb dX8_removeNote_1 rfl (lv_at hl 1 rfl) ?_
  refine pw_ci w (pw_runS (As := [.int (zI (t : Int))]) (rest := [.ref (ad 120)]) w ⟨hx, hb, hml, hown, hts⟩ (c_X8_isTune l D G ad N c (v := (t : Int)) ⟨by omega, by omega⟩) (va_cwS 1 hts gX8_removeNote_X8_isTune rfl rfl rfl (by decide +kernel) ⟨Nat.le_of_ble_eq_true rfl, Nat.le_of_ble_eq_true rfl⟩) rfl hl.1 rfl (lv_room (Nat.le_of_ble_eq_true rfl)) dX8_removeNote_2 ⟨Nat.le_of_ble_eq_true rfl, Nat.le_of_ble_eq_true rfl⟩) (fun r_ u H locs hp w => ?_)
  obtain ⟨hv, hu⟩ := hp
  subst hv
  have w : PW D G A s ad N c H locs := by rw [hu] at w; exact w
  clear hu
  refine pz_top (b := 1) (if_pos (by omega)) ?_
  refine pz_ifne (tgt := 12) hx hb dX8_removeNote_5 (by decide) (⟨by omega, by omega⟩) (fun h1 => ?_) (fun h1 => ?_)
  · refine lv_aload_n hx hb dX8_removeNote_12 rfl (lv_at hl 0 rfl) ?_
    refine pw_get (r := 120) (ci := 8) (C := RX8) (T := TX8) (Nf := 21) hx hb w hts hin_X8_removeNote_8 hown (by omega) hm rfl 11 (by decide) (hts _ fl_X8_removeNote_36) (fun _ h9 => h9) rfl dX8_removeNote_13 ?_
    refine lv_iload_n hx hb dX8_removeNote_16 rfl (lv_at hl 1 rfl) ?_
    refine pw_iald (r := 128) (j := t) hx hb w (by omega) hMT.2.2.2 (by omega) (by omega) (by decide) dX8_removeNote_17 ?_
    refine pz_ifne (tgt := 25) hx hb dX8_removeNote_18 (by decide) (⟨by omega, by omega⟩) (fun h2 => ?_) (fun h2 => ?_)
    · omega
    · refine lv_iconst (v := zI (2)) hx hb dX8_removeNote_21 rfl ?_
      refine lv_goto (tgt := 26) hx hb dX8_removeNote_22 (by decide) ?_
      refine pw_ci w (pw_runV (r := 120) (ci := 8) (As := [.int (zI 2)]) (rest := []) w ⟨hx, hb, hml, hown, hts⟩ (c_X8_goesWell l D G ad N c (pl := 2) hN hm ⟨by decide, by decide⟩) (cwV 1 hts gX8_removeNote_X8_goesWell rfl rfl rfl (by decide +kernel) ⟨Nat.le_of_ble_eq_true rfl, Nat.le_of_ble_eq_true rfl⟩) (by omega) hm rfl rfl hl.1 rfl (lv_room (Nat.le_of_ble_eq_true rfl)) dX8_removeNote_26 ⟨Nat.le_of_ble_eq_true rfl, Nat.le_of_ble_eq_true rfl⟩) (fun r_ c3 H locs hp w => ?_)
      have w : PW D G A s ad N c3 H locs := w
      obtain ⟨hv3, hm3, fr3⟩ := hp
      subst hv3
      refine pz_top (b := 0) (if_neg (by omega)) ?_
      have hS3 := hS.to hm3 fr3
      have hm := hm3
      obtain ⟨-, hh, hB, hDr, hMT, hMR⟩ := id hS3
      refine pz_ifne (tgt := 34) hx hb dX8_removeNote_29 (by decide) (⟨by omega, by omega⟩) (fun h4 => ?_) (fun h4 => ?_)
      · omega
      · refine lv_iconst (v := zI (0)) hx hb dX8_removeNote_32 rfl ?_
        exact fin (ad, N, c3) c3 _ _ _ _ _ _ _ rfl ⟨rfl, hS3, fun q hq => ((fr3 q (by omega)).trans rfl)⟩ w dX8_removeNote_33 (Nat.le_refl _) (Nat.le_refl _)
  · omega

theorem fl_X8_removeNote_26 : Cond.fieldLink RX8 26 "PipersDeskModel" "pitches" "[I" ∈ wsX8_removeNote := by decide +kernel
set_option maxHeartbeats 4000000 in
set_option maxRecDepth 100000 in
/-- X8_removeNote_ok -/
theorem c_X8_removeNote_ok (l : Launch) (D : va_G) (G : Nat → ClassId) (ad : Nat → Nat) (N : Nat) (c : Nat → va_E) {th lim : Int} {no dn : Nat} {gn : Nat → Nat} {gg : Nat → Nat → Nat} {dg nn : Nat → Nat} {pt ln : Nat → Nat → Nat} {wi : Nat → Nat → Int} (hN : 139 ≤ N) (hS : MS G ad c th lim no dn gn gg dg nn pt ln wi) (hV : SV lim no dn gn gg dg nn pt ln wi) {t : Nat} (ht : t < 4) (hn0 : 0 < nn t) : MC l yX8_removeNote wsX8_removeNote rm_X8_removeNote [.ref (ad 120), .int (zI (t : Int))] D G ad N c (qI D G (fx ad N) (fun v c1 => v = zI (pt t (nn t - 1) : Int) ∧ MS G ad c1 0 lim no dn gn gg dg (upT nn t (nn t - 1)) pt ln wi ∧ ∀ q, (q < 120 ∨ 137 ≤ q) → c1 q = c q)) 0 0 := by
  refine MCi.of (cc := cX8_removeNote) (maxL := 2) (by decide) rfl (Nat.le_of_ble_eq_true rfl) ?_
  intro p e s m args below meth kc A Q hx hb hts hown hml fin H locs w ls hl
  have hown : s.vm.findClass RX8 = some m.cls := hown
  have hl : lv_has ls 2 [(0, .ref (ad 120)), (1, .int (zI (t : Int)))] := hl
  obtain ⟨⟨row, hm⟩, hh, hB, hDr, hMT, hMR⟩ := id hS
  obtain ⟨hlim, hOV, hdn4, hdg, hUV⟩ := id hV
  have hlb : bnd lim := ⟨by omega, by omega⟩
  have hno8 := hOV.1
  have hnt := (hUV t ht).1
  refine lv_aload_n hx hb dX8_removeNote_0 rfl (lv_at hl 0 rfl) ?_
  refine lv_iload_n hx hb dX8_removeNote_1 rfl (lv_at hl 1 rfl) ?_
  refine pw_ci w (pw_runS (As := [.int (zI (t : Int))]) (rest := [.ref (ad 120)]) w ⟨hx, hb, hml, hown, hts⟩ (c_X8_isTune l D G ad N c (v := (t : Int)) ⟨by omega, by omega⟩) (va_cwS 1 hts gX8_removeNote_X8_isTune rfl rfl rfl (by decide +kernel) ⟨Nat.le_of_ble_eq_true rfl, Nat.le_of_ble_eq_true rfl⟩) rfl hl.1 rfl (lv_room (Nat.le_of_ble_eq_true rfl)) dX8_removeNote_2 ⟨Nat.le_of_ble_eq_true rfl, Nat.le_of_ble_eq_true rfl⟩) (fun r_ u H locs hp w => ?_)
  obtain ⟨hv, hu⟩ := hp
  subst hv
  have w : PW D G A s ad N c H locs := by rw [hu] at w; exact w
  clear hu
  refine pz_top (b := 1) (if_pos (by omega)) ?_
  refine pz_ifne (tgt := 12) hx hb dX8_removeNote_5 (by decide) (⟨by omega, by omega⟩) (fun h1 => ?_) (fun h1 => ?_)
  · refine lv_aload_n hx hb dX8_removeNote_12 rfl (lv_at hl 0 rfl) ?_
    refine pw_get (r := 120) (ci := 8) (C := RX8) (T := TX8) (Nf := 21) hx hb w hts hin_X8_removeNote_8 hown (by omega) hm rfl 11 (by decide) (hts _ fl_X8_removeNote_36) (fun _ h9 => h9) rfl dX8_removeNote_13 ?_
    refine lv_iload_n hx hb dX8_removeNote_16 rfl (lv_at hl 1 rfl) ?_
    refine pw_iald (r := 128) (j := t) hx hb w (by omega) hMT.2.2.2 (by omega) (by omega) (by decide) dX8_removeNote_17 ?_
    refine pz_ifne (tgt := 25) hx hb dX8_removeNote_18 (by decide) (⟨by omega, by omega⟩) (fun h2 => ?_) (fun h2 => ?_)
    · refine lv_iconst (v := zI (0)) hx hb dX8_removeNote_25 rfl ?_
      refine pw_ci w (pw_runV (r := 120) (ci := 8) (As := [.int (zI 0)]) (rest := []) w ⟨hx, hb, hml, hown, hts⟩ (c_X8_goesWell l D G ad N c (pl := 0) hN hm ⟨by decide, by decide⟩) (cwV 1 hts gX8_removeNote_X8_goesWell rfl rfl rfl (by decide +kernel) ⟨Nat.le_of_ble_eq_true rfl, Nat.le_of_ble_eq_true rfl⟩) (by omega) hm rfl rfl hl.1 rfl (lv_room (Nat.le_of_ble_eq_true rfl)) dX8_removeNote_26 ⟨Nat.le_of_ble_eq_true rfl, Nat.le_of_ble_eq_true rfl⟩) (fun r_ c3 H locs hp w => ?_)
      have w : PW D G A s ad N c3 H locs := w
      obtain ⟨hv3, hm3, fr3⟩ := hp
      subst hv3
      refine pz_top (b := 1) (if_pos (by omega)) ?_
      have hS3 := hS.to hm3 fr3
      have hm := hm3
      obtain ⟨-, hh, hB, hDr, hMT, hMR⟩ := id hS3
      refine pz_ifne (tgt := 34) hx hb dX8_removeNote_29 (by decide) (⟨by omega, by omega⟩) (fun h4 => ?_) (fun h4 => ?_)
      · obtain ⟨⟨h5, m5, m5p⟩, ⟨h6, m6, m6p⟩, ⟨h7, m7, m7p⟩, m8⟩ := id hMT
        refine lv_aload_n hx hb dX8_removeNote_34 rfl (lv_at hl 0 rfl) ?_
        refine pw_get (r := 120) (ci := 8) (C := RX8) (T := TX8) (Nf := 21) hx hb w hts hin_X8_removeNote_8 hown (by omega) hm rfl 11 (by decide) (hts _ fl_X8_removeNote_36) (fun _ h9 => h9) rfl dX8_removeNote_35 ?_
        refine lv_iload_n hx hb dX8_removeNote_38 rfl (lv_at hl 1 rfl) ?_
        refine lv_dup2_11 hx hb dX8_removeNote_39 rfl rfl ?_
        refine pw_iald (r := 128) (j := t) hx hb w (by omega) hMT.2.2.2 (by omega) (by omega) (by decide) dX8_removeNote_40 ?_
        refine lv_iconst (v := zI (1)) hx hb dX8_removeNote_41 rfl ?_
        refine pz_isub hx hb dX8_removeNote_42 ?_
        refine pz_top (b := ((nn t - 1 : Nat) : Int)) (by show (nn t : Int) - 1 = _; omega) ?_
        refine pw_iast' (r := 128) (j := t) hx hb w (by omega) hMT.2.2.2 (by omega) (by omega) (by decide) dX8_removeNote_43 (fun H locs c5 hc5 fr5 w => ?_)
        refine lv_aload_n hx hb dX8_removeNote_44 rfl (lv_at hl 0 rfl) ?_
        refine pw_get (r := 120) (ci := 8) (C := RX8) (T := TX8) (Nf := 21) hx hb w hts hin_X8_removeNote_8 hown (by omega) ((fr5 120 (by omega)).trans hm) rfl 8 (by decide) (hts _ fl_X8_removeNote_26) (fun _ h9 => h9) rfl dX8_removeNote_45 ?_
        refine lv_bipush (v := zI (10)) hx hb dX8_removeNote_48 (by decide +kernel) ?_
        refine lv_iload_n hx hb dX8_removeNote_50 rfl (lv_at hl 1 rfl) ?_
        refine pz_imul hx hb dX8_removeNote_51 ?_
        refine lv_aload_n hx hb dX8_removeNote_52 rfl (lv_at hl 0 rfl) ?_
        refine pw_get (r := 120) (ci := 8) (C := RX8) (T := TX8) (Nf := 21) hx hb w hts hin_X8_removeNote_8 hown (by omega) ((fr5 120 (by omega)).trans hm) rfl 11 (by decide) (hts _ fl_X8_removeNote_36) (fun _ h9 => h9) rfl dX8_removeNote_53 ?_
        refine lv_iload_n hx hb dX8_removeNote_56 rfl (lv_at hl 1 rfl) ?_
        refine pw_iald (r := 128) (j := t) hx hb w (by omega) hc5 (by omega) (by omega) (by decide) dX8_removeNote_57 ?_
        refine pz_top (b := ((nn t - 1 : Nat) : Int)) (upI_self _ _ _) ?_
        refine pz_iadd hx hb dX8_removeNote_58 ?_
        refine pz_top (b := ((10 * t + (nn t - 1) : Nat) : Int)) (by omega) ?_
        refine pw_iald (r := 125) (j := (10 * t + (nn t - 1))) hx hb w (by omega) (isA.fr (fr5 125 (by omega)) m5) (by omega) (by omega) (by decide) dX8_removeNote_59 ?_
        refine pz_top (b := (pt t (nn t - 1) : Int)) (m5p t ht (nn t - 1) (by omega)) ?_
        have hS9 : MS G ad c5 0 lim no dn gn gg dg (upT nn t (nn t - 1)) pt ln wi := ⟨⟨_, ((fr5 120 (by omega)).trans hm)⟩, isA.fr ((fr5 121 (by omega)).trans rfl) hh, hB.fr ((fr5 122 (by omega)).trans rfl) ((fr5 123 (by omega)).trans rfl), isA.fr ((fr5 124 (by omega)).trans rfl) hDr, ⟨⟨_, isA.fr ((fr5 125 (by omega)).trans rfl) m5, fun u hu i hi => by
          by_cases h : u = t
          · subst h
            rw [upT_eq] at hi
            exact m5p u hu i (by omega)
          · rw [upT_ne _ _ h] at hi
            exact m5p u hu i hi⟩, ⟨_, isA.fr ((fr5 126 (by omega)).trans rfl) m6, fun u hu i hi => by
          by_cases h : u = t
          · subst h
            rw [upT_eq] at hi
            exact m6p u hu i (by omega)
          · rw [upT_ne _ _ h] at hi
            exact m6p u hu i hi⟩, ⟨_, isA.fr ((fr5 127 (by omega)).trans rfl) m7, fun u hu i hi => by
          by_cases h : u = t
          · subst h
            rw [upT_eq] at hi
            exact m7p u hu i (by omega)
          · rw [upT_ne _ _ h] at hi
            exact m7p u hu i hi⟩, by rw [← upI_upT nn t (nn t - 1) _ rfl]; exact hc5⟩, hMR.fr (fun q _ _ => ((fr5 q (by omega)).trans rfl))⟩
        exact fin (ad, N, c5) c5 _ _ _ _ _ _ _ rfl ⟨rfl, hS9, fun q hq => ((fr5 q (by omega)).trans ((fr3 q (by omega)).trans rfl))⟩ w dX8_removeNote_60 (Nat.le_refl _) (Nat.le_refl _)
      · omega
    · omega
  · omega

abbrev rm_X8_setWish : Room := { frames := 2, cells := 0, slots := 0, locals := 60 }
set_option maxHeartbeats 4000000 in
set_option maxRecDepth 100000 in
/-- X8_setWish_bad1 -/
theorem c_X8_setWish_bad1 (l : Launch) (D : va_G) (G : Nat → ClassId) (ad : Nat → Nat) (N : Nat) (c : Nat → va_E) {th lim : Int} {no dn : Nat} {gn : Nat → Nat} {gg : Nat → Nat → Nat} {dg nn : Nat → Nat} {pt ln : Nat → Nat → Nat} {wi : Nat → Nat → Int} (hN : 139 ≤ N) (hS : MS G ad c th lim no dn gn gg dg nn pt ln wi) (hV : SV lim no dn gn gg dg nn pt ln wi) {zt : Int} (hbzt : bnd zt) (hbad : ¬ (0 ≤ zt ∧ zt ≤ 3)) {zi xw : Int} : MC l yX8_setWish wsX8_setWish rm_X8_setWish [.ref (ad 120), .int (zI zt), .int (zI zi), .int (zI xw)] D G ad N c (qI D G (fx ad N) (fun v c1 => v = zI 0 ∧ MS G ad c1 1 lim no dn gn gg dg nn pt ln wi ∧ ∀ q, (q < 120 ∨ 137 ≤ q) → c1 q = c q)) 0 0 := by
  refine MCz.of (cc := cX8_setWish) (maxL := 5) (by decide) rfl (Nat.le_of_ble_eq_true rfl) ?_
  intro p e s m args below meth kc A Q hx hb hts hown hml fin H locs w ls hl
  have hown : s.vm.findClass RX8 = some m.cls := hown
  have hl : lv_has ls 5 [(0, .ref (ad 120)), (1, .int (zI zt)), (2, .int (zI zi)), (3, .int (zI xw))] := hl
  obtain ⟨⟨row, hm⟩, hh, hB, hDr, hMT, hMR⟩ := id hS
  obtain ⟨hlim, hOV, hdn4, hdg, hUV⟩ := id hV
  have hlb : bnd lim := ⟨by omega, by omega⟩
  have hno8 := hOV.1
  have hbzt1 := hbzt.1
  have hbzt2 := hbzt.2
  refine lv_aload_n hx hb dX8_setWish_0 rfl (lv_at hl 0 rfl) ?_
  refine lv_iload_n hx hb dX8_setWish_1 rfl (lv_at hl 1 rfl) ?_
  refine pw_ci w (pw_runS (As := [.int (zI zt)]) (rest := [.ref (ad 120)]) w ⟨hx, hb, hml, hown, hts⟩ (c_X8_isTune l D G ad N c (v := zt) ⟨by omega, by omega⟩) (va_cwS 1 hts gX8_setWish_X8_isTune rfl rfl rfl (by decide +kernel) ⟨Nat.le_of_ble_eq_true rfl, Nat.le_of_ble_eq_true rfl⟩) rfl hl.1 rfl (lv_room (Nat.le_of_ble_eq_true rfl)) dX8_setWish_2 ⟨Nat.le_of_ble_eq_true rfl, Nat.le_of_ble_eq_true rfl⟩) (fun r_ u H locs hp w => ?_)
  obtain ⟨hv, hu⟩ := hp
  subst hv
  have w : PW D G A s ad N c H locs := by rw [hu] at w; exact w
  clear hu
  refine pz_top (b := 0) (if_neg (by omega)) ?_
  refine pz_ifne (tgt := 12) hx hb dX8_setWish_5 (by decide) (⟨by omega, by omega⟩) (fun h1 => ?_) (fun h1 => ?_)
  · omega
  · refine lv_iconst (v := zI (1)) hx hb dX8_setWish_8 rfl ?_
    refine lv_goto (tgt := 26) hx hb dX8_setWish_9 (by decide) ?_
    refine pw_ci w (pw_runV (r := 120) (ci := 8) (As := [.int (zI 1)]) (rest := []) w ⟨hx, hb, hml, hown, hts⟩ (c_X8_goesWell l D G ad N c (pl := 1) hN hm ⟨by decide, by decide⟩) (cwV 1 hts gX8_setWish_X8_goesWell rfl rfl rfl (by decide +kernel) ⟨Nat.le_of_ble_eq_true rfl, Nat.le_of_ble_eq_true rfl⟩) (by omega) hm rfl rfl hl.1 rfl (lv_room (Nat.le_of_ble_eq_true rfl)) dX8_setWish_26 ⟨Nat.le_of_ble_eq_true rfl, Nat.le_of_ble_eq_true rfl⟩) (fun r_ c2 H locs hp w => ?_)
    have w : PW D G A s ad N c2 H locs := w
    obtain ⟨hv2, hm2, fr2⟩ := hp
    subst hv2
    refine pz_top (b := 0) (if_neg (by omega)) ?_
    have hS2 := hS.to hm2 fr2
    have hm := hm2
    obtain ⟨-, hh, hB, hDr, hMT, hMR⟩ := id hS2
    refine pz_ifne (tgt := 34) hx hb dX8_setWish_29 (by decide) (⟨by omega, by omega⟩) (fun h3 => ?_) (fun h3 => ?_)
    · omega
    · refine lv_iconst (v := zI (0)) hx hb dX8_setWish_32 rfl ?_
      exact fin (ad, N, c2) c2 _ _ _ _ _ _ _ rfl (Or.inl rfl) ⟨rfl, hS2, fun q hq => ((fr2 q (by omega)).trans rfl)⟩ w dX8_setWish_33 (Nat.le_refl _) (Nat.le_refl _)

set_option maxHeartbeats 4000000 in
set_option maxRecDepth 100000 in
/-- X8_setWish_bad2 -/
theorem c_X8_setWish_bad2 (l : Launch) (D : va_G) (G : Nat → ClassId) (ad : Nat → Nat) (N : Nat) (c : Nat → va_E) {th lim : Int} {no dn : Nat} {gn : Nat → Nat} {gg : Nat → Nat → Nat} {dg nn : Nat → Nat} {pt ln : Nat → Nat → Nat} {wi : Nat → Nat → Int} (hN : 139 ≤ N) (hS : MS G ad c th lim no dn gn gg dg nn pt ln wi) (hV : SV lim no dn gn gg dg nn pt ln wi) {t : Nat} (ht : t < 4) {zi : Int} (hbzi : bnd zi) {xw : Int} (hbad : ¬ (0 ≤ zi ∧ zi ≤ (nn t : Int) - 2)) : MC l yX8_setWish wsX8_setWish rm_X8_setWish [.ref (ad 120), .int (zI (t : Int)), .int (zI zi), .int (zI xw)] D G ad N c (qI D G (fx ad N) (fun v c1 => v = zI 0 ∧ MS G ad c1 2 lim no dn gn gg dg nn pt ln wi ∧ ∀ q, (q < 120 ∨ 137 ≤ q) → c1 q = c q)) 0 0 := by
  refine MCz.of (cc := cX8_setWish) (maxL := 5) (by decide) rfl (Nat.le_of_ble_eq_true rfl) ?_
  intro p e s m args below meth kc A Q hx hb hts hown hml fin H locs w ls hl
  have hown : s.vm.findClass RX8 = some m.cls := hown
  have hl : lv_has ls 5 [(0, .ref (ad 120)), (1, .int (zI (t : Int))), (2, .int (zI zi)), (3, .int (zI xw))] := hl
  obtain ⟨⟨row, hm⟩, hh, hB, hDr, hMT, hMR⟩ := id hS
  obtain ⟨hlim, hOV, hdn4, hdg, hUV⟩ := id hV
  have hlb : bnd lim := ⟨by omega, by omega⟩
  have hno8 := hOV.1
  have hnt := (hUV t ht).1
  have hbzi1 := hbzi.1
  have hbzi2 := hbzi.2
  refine lv_aload_n hx hb dX8_setWish_0 rfl (lv_at hl 0 rfl) ?_
  refine lv_iload_n hx hb dX8_setWish_1 rfl (lv_at hl 1 rfl) ?_
  refine pw_ci w (pw_runS (As := [.int (zI (t : Int))]) (rest := [.ref (ad 120)]) w ⟨hx, hb, hml, hown, hts⟩ (c_X8_isTune l D G ad N c (v := (t : Int)) ⟨by omega, by omega⟩) (va_cwS 1 hts gX8_setWish_X8_isTune rfl rfl rfl (by decide +kernel) ⟨Nat.le_of_ble_eq_true rfl, Nat.le_of_ble_eq_true rfl⟩) rfl hl.1 rfl (lv_room (Nat.le_of_ble_eq_true rfl)) dX8_setWish_2 ⟨Nat.le_of_ble_eq_true rfl, Nat.le_of_ble_eq_true rfl⟩) (fun r_ u H locs hp w => ?_)
  obtain ⟨hv, hu⟩ := hp
  subst hv
  have w : PW D G A s ad N c H locs := by rw [hu] at w; exact w
  clear hu
  refine pz_top (b := 1) (if_pos (by omega)) ?_
  refine pz_ifne (tgt := 12) hx hb dX8_setWish_5 (by decide) (⟨by omega, by omega⟩) (fun h1 => ?_) (fun h1 => ?_)
  · refine lv_aload_n hx hb dX8_setWish_12 rfl (lv_at hl 0 rfl) ?_
    refine lv_iload_n hx hb dX8_setWish_13 rfl (lv_at hl 1 rfl) ?_
    refine lv_iload_n hx hb dX8_setWish_14 rfl (lv_at hl 2 rfl) ?_
    refine pw_ci w (pw_runV (r := 120) (ci := 8) (As := [.int (zI (t : Int)), .int (zI zi)]) (rest := [.ref (ad 120)]) w ⟨hx, hb, hml, hown, hts⟩ (c_X8_isGap l D G ad N c (t := t) (z := zi) hN hm hMT hUV (by omega) ⟨by omega, by omega⟩) (cwV 2 hts gX8_setWish_X8_isGap rfl rfl rfl (by decide +kernel) ⟨Nat.le_of_ble_eq_true rfl, Nat.le_of_ble_eq_true rfl⟩) (by omega) hm rfl rfl hl.1 rfl (lv_room (Nat.le_of_ble_eq_true rfl)) dX8_setWish_15 ⟨Nat.le_of_ble_eq_true rfl, Nat.le_of_ble_eq_true rfl⟩) (fun r_ u H locs hp w => ?_)
    obtain ⟨hv, hu⟩ := hp
    subst hv
    have w : PW D G A s ad N c H locs := by rw [hu] at w; exact w
    clear hu
    refine pz_top (b := 0) (if_neg (by omega)) ?_
    refine pz_ifeq (tgt := 25) hx hb dX8_setWish_18 (by decide) (⟨by omega, by omega⟩) (fun h2 => ?_) (fun h2 => ?_)
    · refine lv_iconst (v := zI (2)) hx hb dX8_setWish_25 rfl ?_
      refine pw_ci w (pw_runV (r := 120) (ci := 8) (As := [.int (zI 2)]) (rest := []) w ⟨hx, hb, hml, hown, hts⟩ (c_X8_goesWell l D G ad N c (pl := 2) hN hm ⟨by decide, by decide⟩) (cwV 1 hts gX8_setWish_X8_goesWell rfl rfl rfl (by decide +kernel) ⟨Nat.le_of_ble_eq_true rfl, Nat.le_of_ble_eq_true rfl⟩) (by omega) hm rfl rfl hl.1 rfl (lv_room (Nat.le_of_ble_eq_true rfl)) dX8_setWish_26 ⟨Nat.le_of_ble_eq_true rfl, Nat.le_of_ble_eq_true rfl⟩) (fun r_ c3 H locs hp w => ?_)
      have w : PW D G A s ad N c3 H locs := w
      obtain ⟨hv3, hm3, fr3⟩ := hp
      subst hv3
      refine pz_top (b := 0) (if_neg (by omega)) ?_
      have hS3 := hS.to hm3 fr3
      have hm := hm3
      obtain ⟨-, hh, hB, hDr, hMT, hMR⟩ := id hS3
      refine pz_ifne (tgt := 34) hx hb dX8_setWish_29 (by decide) (⟨by omega, by omega⟩) (fun h4 => ?_) (fun h4 => ?_)
      · omega
      · refine lv_iconst (v := zI (0)) hx hb dX8_setWish_32 rfl ?_
        exact fin (ad, N, c3) c3 _ _ _ _ _ _ _ rfl (Or.inl rfl) ⟨rfl, hS3, fun q hq => ((fr3 q (by omega)).trans rfl)⟩ w dX8_setWish_33 (Nat.le_refl _) (Nat.le_refl _)
    · omega
  · omega

theorem hin_X8_setWish_8 : ∀ w ∈ u_ws RX8 TX8 21, w ∈ wsX8_setWish := by decide +kernel
theorem fl_X8_setWish_32 : Cond.fieldLink RX8 32 "PipersDeskModel" "wishes" "[Z" ∈ wsX8_setWish := by decide +kernel
set_option maxHeartbeats 4000000 in
set_option maxRecDepth 100000 in
/-- X8_setWish_ok -/
theorem c_X8_setWish_ok (l : Launch) (D : va_G) (G : Nat → ClassId) (ad : Nat → Nat) (N : Nat) (c : Nat → va_E) {th lim : Int} {no dn : Nat} {gn : Nat → Nat} {gg : Nat → Nat → Nat} {dg nn : Nat → Nat} {pt ln : Nat → Nat → Nat} {wi : Nat → Nat → Int} (hN : 139 ≤ N) (hS : MS G ad c th lim no dn gn gg dg nn pt ln wi) (hV : SV lim no dn gn gg dg nn pt ln wi) {t : Nat} (ht : t < 4) {i : Nat} {xw : Int} (hi : i + 1 < nn t) (hxw : xw = 0 ∨ xw = 1) : MC l yX8_setWish wsX8_setWish rm_X8_setWish [.ref (ad 120), .int (zI (t : Int)), .int (zI (i : Int)), .int (zI xw)] D G ad N c (qI D G (fx ad N) (fun v c1 => v = zI (wi t i) ∧ MS G ad c1 0 lim no dn gn gg dg nn pt ln (upT wi t (fun j => if j = i then xw else wi t j)) ∧ ∀ q, (q < 120 ∨ 137 ≤ q) → c1 q = c q)) 0 0 := by
  refine MCz.of (cc := cX8_setWish) (maxL := 5) (by decide) rfl (Nat.le_of_ble_eq_true rfl) ?_
  intro p e s m args below meth kc A Q hx hb hts hown hml fin H locs w ls hl
  have hown : s.vm.findClass RX8 = some m.cls := hown
  have hl : lv_has ls 5 [(0, .ref (ad 120)), (1, .int (zI (t : Int))), (2, .int (zI (i : Int))), (3, .int (zI xw))] := hl
  obtain ⟨⟨row, hm⟩, hh, hB, hDr, hMT, hMR⟩ := id hS
  obtain ⟨hlim, hOV, hdn4, hdg, hUV⟩ := id hV
  have hlb : bnd lim := ⟨by omega, by omega⟩
  have hno8 := hOV.1
  have hnt := (hUV t ht).1
  have hwi := (hUV t ht).2.2 i hi
  refine lv_aload_n hx hb dX8_setWish_0 rfl (lv_at hl 0 rfl) ?_
  refine lv_iload_n hx hb dX8_setWish_1 rfl (lv_at hl 1 rfl) ?_
  refine pw_ci w (pw_runS (As := [.int (zI (t : Int))]) (rest := [.ref (ad 120)]) w ⟨hx, hb, hml, hown, hts⟩ (c_X8_isTune l D G ad N c (v := (t : Int)) ⟨by omega, by omega⟩) (va_cwS 1 hts gX8_setWish_X8_isTune rfl rfl rfl (by decide +kernel) ⟨Nat.le_of_ble_eq_true rfl, Nat.le_of_ble_eq_true rfl⟩) rfl hl.1 rfl (lv_room (Nat.le_of_ble_eq_true rfl)) dX8_setWish_2 ⟨Nat.le_of_ble_eq_true rfl, Nat.le_of_ble_eq_true rfl⟩) (fun r_ u H locs hp w => ?_)
  obtain ⟨hv, hu⟩ := hp
  subst hv
  have w : PW D G A s ad N c H locs := by rw [hu] at w; exact w
  clear hu
  refine pz_top (b := 1) (if_pos (by omega)) ?_
  refine pz_ifne (tgt := 12) hx hb dX8_setWish_5 (by decide) (⟨by omega, by omega⟩) (fun h1 => ?_) (fun h1 => ?_)
  · refine lv_aload_n hx hb dX8_setWish_12 rfl (lv_at hl 0 rfl) ?_
    refine lv_iload_n hx hb dX8_setWish_13 rfl (lv_at hl 1 rfl) ?_
    refine lv_iload_n hx hb dX8_setWish_14 rfl (lv_at hl 2 rfl) ?_
    refine pw_ci w (pw_runV (r := 120) (ci := 8) (As := [.int (zI (t : Int)), .int (zI (i : Int))]) (rest := [.ref (ad 120)]) w ⟨hx, hb, hml, hown, hts⟩ (c_X8_isGap l D G ad N c (t := t) (z := (i : Int)) hN hm hMT hUV (by omega) ⟨by omega, by omega⟩) (cwV 2 hts gX8_setWish_X8_isGap rfl rfl rfl (by decide +kernel) ⟨Nat.le_of_ble_eq_true rfl, Nat.le_of_ble_eq_true rfl⟩) (by omega) hm rfl rfl hl.1 rfl (lv_room (Nat.le_of_ble_eq_true rfl)) dX8_setWish_15 ⟨Nat.le_of_ble_eq_true rfl, Nat.le_of_ble_eq_true rfl⟩) (fun r_ u H locs hp w => ?_)
    obtain ⟨hv, hu⟩ := hp
    subst hv
    have w : PW D G A s ad N c H locs := by rw [hu] at w; exact w
    clear hu
    refine pz_top (b := 1) (if_pos (by omega)) ?_
    refine pz_ifeq (tgt := 25) hx hb dX8_setWish_18 (by decide) (⟨by omega, by omega⟩) (fun h2 => ?_) (fun h2 => ?_)
    · omega
    · refine lv_iconst (v := zI (0)) hx hb dX8_setWish_21 rfl ?_
      refine lv_goto (tgt := 26) hx hb dX8_setWish_22 (by decide) ?_
      refine pw_ci w (pw_runV (r := 120) (ci := 8) (As := [.int (zI 0)]) (rest := []) w ⟨hx, hb, hml, hown, hts⟩ (c_X8_goesWell l D G ad N c (pl := 0) hN hm ⟨by decide, by decide⟩) (cwV 1 hts gX8_setWish_X8_goesWell rfl rfl rfl (by decide +kernel) ⟨Nat.le_of_ble_eq_true rfl, Nat.le_of_ble_eq_true rfl⟩) (by omega) hm rfl rfl hl.1 rfl (lv_room (Nat.le_of_ble_eq_true rfl)) dX8_setWish_26 ⟨Nat.le_of_ble_eq_true rfl, Nat.le_of_ble_eq_true rfl⟩) (fun r_ c3 H locs hp w => ?_)
      have w : PW D G A s ad N c3 H locs := w
      obtain ⟨hv3, hm3, fr3⟩ := hp
      subst hv3
      refine pz_top (b := 1) (if_pos (by omega)) ?_
      have hS3 := hS.to hm3 fr3
      have hm := hm3
      obtain ⟨-, hh, hB, hDr, hMT, hMR⟩ := id hS3
      refine pz_ifne (tgt := 34) hx hb dX8_setWish_29 (by decide) (⟨by omega, by omega⟩) (fun h4 => ?_) (fun h4 => ?_)
      · obtain ⟨⟨h5, m5, m5p⟩, ⟨h6, m6, m6p⟩, ⟨h7, m7, m7p⟩, m8⟩ := id hMT
        refine lv_aload_n hx hb dX8_setWish_34 rfl (lv_at hl 0 rfl) ?_
        refine pw_get (r := 120) (ci := 8) (C := RX8) (T := TX8) (Nf := 21) hx hb w hts hin_X8_setWish_8 hown (by omega) hm rfl 10 (by decide) (hts _ fl_X8_setWish_32) (fun _ h9 => h9) rfl dX8_setWish_35 ?_
        refine lv_bipush (v := zI (10)) hx hb dX8_setWish_38 (by decide +kernel) ?_
        refine lv_iload_n hx hb dX8_setWish_40 rfl (lv_at hl 1 rfl) ?_
        refine pz_imul hx hb dX8_setWish_41 ?_
        refine lv_iload_n hx hb dX8_setWish_42 rfl (lv_at hl 2 rfl) ?_
        refine pz_iadd hx hb dX8_setWish_43 ?_
        refine pw_zald (r := 127) (j := (10 * t + i)) hx hb w (by omega) m7 (by omega) (by omega) (by decide) dX8_setWish_44 ?_
        refine pz_top (b := (wi t i)) (m7p t ht i hi) ?_
        refine lv_istore (lv' := [(4, .int (zI (wi t i))), (0, .ref (ad 120)), (1, .int (zI (t : Int))), (2, .int (zI (i : Int))), (3, .int (zI xw))]) hx hb dX8_setWish_45 hl (by decide) rfl (fun ls hl => ?_)
        refine lv_aload_n hx hb dX8_setWish_47 rfl (lv_at hl 1 rfl) ?_
        refine pw_get (r := 120) (ci := 8) (C := RX8) (T := TX8) (Nf := 21) hx hb w hts hin_X8_setWish_8 hown (by omega) hm rfl 10 (by decide) (hts _ fl_X8_setWish_32) (fun _ h9 => h9) rfl dX8_setWish_48 ?_
        refine lv_bipush (v := zI (10)) hx hb dX8_setWish_51 (by decide +kernel) ?_
        refine lv_iload_n hx hb dX8_setWish_53 rfl (lv_at hl 2 rfl) ?_
        refine pz_imul hx hb dX8_setWish_54 ?_
        refine lv_iload_n hx hb dX8_setWish_55 rfl (lv_at hl 3 rfl) ?_
        refine pz_iadd hx hb dX8_setWish_56 ?_
        refine lv_iload_n hx hb dX8_setWish_57 rfl (lv_at hl 4 rfl) ?_
        refine pw_zast' (r := 127) (j := (10 * t + i)) hx hb w (by omega) m7 (by omega) (by omega) (by omega) (by decide) dX8_setWish_58 (fun H locs c5 hc5 fr5 w => ?_)
        refine lv_iload hx hb dX8_setWish_59 (lv_at hl 0 rfl) ?_
        have hw9 : zI (wi t i) = zI 0 ∨ zI (wi t i) = zI 1 := (hwi.elim (fun h => Or.inl (by rw [h])) (fun h => Or.inr (by rw [h])))
        have hS9 : MS G ad c5 0 lim no dn gn gg dg nn pt ln (upT wi t (fun j => if j = i then xw else wi t j)) := ⟨⟨_, ((fr5 120 (by omega)).trans hm)⟩, isA.fr ((fr5 121 (by omega)).trans rfl) hh, hB.fr ((fr5 122 (by omega)).trans rfl) ((fr5 123 (by omega)).trans rfl), isA.fr ((fr5 124 (by omega)).trans rfl) hDr, ⟨⟨_, isA.fr ((fr5 125 (by omega)).trans rfl) m5, m5p⟩, ⟨_, isA.fr ((fr5 126 (by omega)).trans rfl) m6, m6p⟩, ⟨_, hc5, fun u hu j hj => by
          have := (hUV u hu).1
          by_cases h : u = t
          · subst h
            rw [upT_eq]
            simp only [upI]
            by_cases h1 : j = i
            · rw [if_pos h1, if_pos (by omega)]
            · rw [if_neg h1, if_neg (by omega)]
              exact m7p u hu j hj
          · rw [upT_ne _ _ h]
            simp only [upI]
            rw [if_neg (by omega)]
            exact m7p u hu j hj⟩, isA.fr ((fr5 128 (by omega)).trans rfl) m8⟩, hMR.fr (fun q _ _ => ((fr5 q (by omega)).trans rfl))⟩
        exact fin (ad, N, c5) c5 _ _ _ _ _ _ _ rfl hw9 ⟨rfl, hS9, fun q hq => ((fr5 q (by omega)).trans ((fr3 q (by omega)).trans rfl))⟩ w dX8_setWish_61 (Nat.le_refl _) (Nat.le_refl _)
      · omega
  · omega
