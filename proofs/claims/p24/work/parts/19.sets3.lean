theorem hin_X4_weighJoins_4 : ∀ w ∈ u_ws RX4 TX4 6, w ∈ wsX4_weighJoins := by decide +kernel
theorem fl_X4_weighJoins_11 : Cond.fieldLink RX4 11 "PipersDesk$SetSearch" "joinCosts" "[[I" ∈ wsX4_weighJoins := by decide +kernel
abbrev rm_X4_weighJoins : Room := { frames := 4, cells := 0, slots := 0, locals := 120 }
set_option maxHeartbeats 4000000 in
set_option maxRecDepth 100000 in
/-- SetSearch.weighJoins -/
theorem c_X4_weighJoins (l : Launch) (D : va_G) (G : Nat → ClassId) (ad : Nat → Nat) (N : Nat) (c : Nat → va_E) {mz : Nat} {lc : Int} {od bt : Nat → Nat} (hN : 120 ≤ N) (hS : SS G ad c mz lc od bt) {nn : Nat → Nat} {pt ln : Nat → Nat → Nat} {wi : Nat → Nat → Int} (hU : Tus G ad c nn pt ln wi) (hUV : TusV nn pt ln wi) {lim : Int} {no dn : Nat} {gn : Nat → Nat} {gg : Nat → Nat → Nat} {dg : Nat → Nat} (hNb : 120 + 2 * no ≤ N) (hB : Book G ad c no dn gn gg dg) (hBV : BookV no dn gn gg dg) (hF : Fing G ad c lim) (hR0 : ∀ i, i < 16 → ∃ g, isA 0 G (c (100 + i)) 9 g) : MC l yX4_weighJoins wsX4_weighJoins rm_X4_weighJoins [.ref (ad 98), .ref (ad 15), .ref (ad 1), .ref (ad 12)] D G ad N c (qV D G (fx ad N) (fun c1 => (∀ a b, a < 4 → b < 4 → 0 < nn a → 0 < nn b → isA 0 G (c1 (100 + (a * 4 + b))) 9 (gapC lim no gn gg (pt a (nn a - 1)) (ln a (nn a - 1)) (pt b 0) 0)) ∧ (∀ i, i < 16 → ∃ g, isA 0 G (c1 (100 + i)) 9 g) ∧ ∀ q, (q < 100 ∨ 116 ≤ q) → c1 q = c q)) 0 0 := by
  refine MCv.of (cc := cX4_weighJoins) (maxL := 11) (by decide) rfl (Nat.le_of_ble_eq_true rfl) ?_
  intro p e s m args below meth kc A Q hx hb hts hown hml hin2 fin H locs w ls hl
  have hown : s.vm.findClass RX4 = some m.cls := hown
  have hl : lv_has ls 11 [(0, .ref (ad 98)), (1, .ref (ad 15)), (2, .ref (ad 1)), (3, .ref (ad 12))] := hl
  obtain ⟨s1, ⟨fs, s2, s3⟩, s4, ⟨g117, s5⟩, s6, s7⟩ := id hS
  obtain ⟨⟨fu, u1, u2⟩, u3⟩ := id hU
  refine lv_iconst (v := zI (0)) hx hb dX4_weighJoins_0 rfl ?_
  refine lv_istore (lv' := [(4, .int (zI 0)), (0, .ref (ad 98)), (1, .ref (ad 15)), (2, .ref (ad 1)), (3, .ref (ad 12))]) hx hb dX4_weighJoins_1 hl (by decide) rfl (fun ls hl => ?_)
  have lp : ∀ (f : Nat) (a : Nat) (c1 : Nat → va_E) (H : Heap) (locs : List Loc) (ls : Array Slot), a ≤ 4 → (∀ x y, x < a → y < 4 → 0 < nn x → 0 < nn y → isA 0 G (c1 (100 + (x * 4 + y))) 9 (gapC lim no gn gg (pt x (nn x - 1)) (ln x (nn x - 1)) (pt y 0) 0)) → (∀ i, i < 16 → ∃ g, isA 0 G (c1 (100 + i)) 9 g) → (∀ q, (q < 100 ∨ 116 ≤ q) → c1 q = c q) → 4 < a + f → PW D G A s ad N c1 H locs → lv_has ls 11 [(0, .ref (ad 98)), (1, .ref (ad 15)), (2, .ref (ad 1)), (3, .ref (ad 12)), (4, .int (zI (a : Int)))] → W p l e rm_X4_weighJoins s m args below meth kc H locs 0 0 Q (F0 m 3 ls []) := by
    intro f
    induction f with
    | zero => intro a c1 H locs ls h9 hG hR hf hfu w hl; omega
    | succ f ih =>
      intro a c1 H locs ls h9 hG hR hf hfu w hl
      refine lv_iload hx hb dX4_weighJoins_3 (lv_at hl 4 rfl) ?_
      refine lv_iconst (v := zI (4)) hx hb dX4_weighJoins_5 rfl ?_
      refine pz_icmpge (tgt := 116) hx hb dX4_weighJoins_6 (by decide) (⟨by omega, by omega⟩) (⟨by omega, by omega⟩) (fun ha => ?_) (fun ha => ?_)
      · have a4 : a = 4 := by omega
        subst a4
        exact fin (ad, N, c1) c1 _ _ _ _ _ _ rfl ⟨fun x y hx hy h1 h2 => hG x y hx hy h1 h2, hR, hf⟩ w dX4_weighJoins_116 (Nat.le_refl _) (Nat.le_refl _)
      · have hU1 := hU.fr (c1 := c1) (fun q hq => hf q (by omega))
        have ha4 : a < 4 := by omega
        have hva := hUV a ha4
        have hva1 := hva.1
        refine lv_aload_n hx hb dX4_weighJoins_9 rfl (lv_at hl 1 rfl) ?_
        refine lv_iload hx hb dX4_weighJoins_10 (lv_at hl 4 rfl) ?_
        refine pw_aaldR (r := 15) (j := a) hx hb w (by omega) ((hf 15 (by omega)).trans u1) rfl rfl (by omega) (by omega) (by decide) (16 + 14 * a) (u2 a (by omega)) dX4_weighJoins_12 ?_
        refine pw_ci w (pw_runV (r := (16 + 14 * a)) (ci := 5) (As := []) (rest := []) w ⟨hx, hb, hml, hown, hts⟩ (c_X5_size l D G ad N c1 (T := 16 + 14 * a) (by omega) hN (hU1.2 a ha4) hva) (cwV 0 hts gX4_weighJoins_X5_size rfl rfl rfl (by decide +kernel) ⟨Nat.le_of_ble_eq_true rfl, Nat.le_of_ble_eq_true rfl⟩) (by omega) (hU1.2 a (by omega)).1 rfl rfl hl.1 rfl (lv_room (Nat.le_of_ble_eq_true rfl)) dX4_weighJoins_13 ⟨Nat.le_of_ble_eq_true rfl, Nat.le_of_ble_eq_true rfl⟩) (fun r_ u H locs hp w => ?_)
        obtain ⟨hv, hu⟩ := hp
        subst hv
        have w : PW D G A s ad N c1 H locs := by rw [hu] at w; exact w
        clear hu
        refine lv_iconst (v := zI (1)) hx hb dX4_weighJoins_16 rfl ?_
        refine pz_isub hx hb dX4_weighJoins_17 ?_
        refine lv_istore (lv' := [(5, .int (zI ((nn a : Int) - 1))), (0, .ref (ad 98)), (1, .ref (ad 15)), (2, .ref (ad 1)), (3, .ref (ad 12)), (4, .int (zI (a : Int)))]) hx hb dX4_weighJoins_18 hl (by decide) rfl (fun ls hl => ?_)
        refine lv_iconst (v := zI (0)) hx hb dX4_weighJoins_20 rfl ?_
        refine lv_istore (lv' := [(6, .int (zI 0)), (5, .int (zI ((nn a : Int) - 1))), (0, .ref (ad 98)), (1, .ref (ad 15)), (2, .ref (ad 1)), (3, .ref (ad 12)), (4, .int (zI (a : Int)))]) hx hb dX4_weighJoins_21 hl (by decide) rfl (fun ls hl => ?_)
        have lq : ∀ (f2 : Nat) (b9 : Nat) (c2 : Nat → va_E) (H : Heap) (locs : List Loc) (ls : Array Slot), b9 ≤ 4 → (∀ x y, (x < a ∨ (x = a ∧ y < b9)) → y < 4 → 0 < nn x → 0 < nn y → isA 0 G (c2 (100 + (x * 4 + y))) 9 (gapC lim no gn gg (pt x (nn x - 1)) (ln x (nn x - 1)) (pt y 0) 0)) → (∀ i, i < 16 → ∃ g, isA 0 G (c2 (100 + i)) 9 g) → (∀ q, (q < 100 ∨ 116 ≤ q) → c2 q = c q) → 4 < b9 + f2 → PW D G A s ad N c2 H locs → lv_has ls 11 [(0, .ref (ad 98)), (1, .ref (ad 15)), (2, .ref (ad 1)), (3, .ref (ad 12)), (4, .int (zI (a : Int))), (5, .int (zI ((nn a : Int) - 1))), (6, .int (zI (b9 : Int)))] → W p l e rm_X4_weighJoins s m args below meth kc H locs 0 0 Q (F0 m 23 ls []) := by
          intro f2
          induction f2 with
          | zero => intro b9 c2 H locs ls h9b hG2 hR2 hf2 hfu w hl; omega
          | succ f2 ih2 =>
            intro b9 c2 H locs ls h9b hG2 hR2 hf2 hfu w hl
            have hU2 := hU.fr (c1 := c2) (fun q hq => hf2 q (by omega))
            refine lv_iload hx hb dX4_weighJoins_23 (lv_at hl 6 rfl) ?_
            refine lv_iconst (v := zI (4)) hx hb dX4_weighJoins_25 rfl ?_
            refine pz_icmpge (tgt := 110) hx hb dX4_weighJoins_26 (by decide) (⟨by omega, by omega⟩) (⟨by omega, by omega⟩) (fun hbb => ?_) (fun hbb => ?_)
            · have b4 : b9 = 4 := by omega
              subst b4
              refine pz_iinc (lv' := [(4, .int (zI ((a + 1 : Nat) : Int))), (0, .ref (ad 98)), (1, .ref (ad 15)), (2, .ref (ad 1)), (3, .ref (ad 12)), (5, .int (zI ((nn a : Int) - 1))), (6, .int (zI ((4 : Nat) : Int)))]) hx hb dX4_weighJoins_110 hl (j := 4) rfl ((a + 1 : Nat) : Int) (by omega) (by decide) rfl (fun ls hl => ?_)
              refine lv_goto (tgt := 3) hx hb dX4_weighJoins_113 (by decide) ?_
              exact ih (a + 1) c2 H locs ls (by omega) (fun x y hx hy h1 h2 => hG2 x y (by omega) hy h1 h2) hR2 hf2 (by omega) w (lv_sub hl [1, 2, 3, 4, 0] rfl)
            · have hb4 : b9 < 4 := by omega
              have hvb := hUV b9 hb4
              have hvb1 := hvb.1
              refine lv_iload hx hb dX4_weighJoins_29 (lv_at hl 5 rfl) ?_
              refine pz_iflt (tgt := 104) hx hb dX4_weighJoins_31 (by decide) (⟨by omega, by omega⟩) (fun hna0 => ?_) (fun hna0 => ?_)
              · refine pz_iinc (lv' := [(6, .int (zI ((b9 + 1 : Nat) : Int))), (0, .ref (ad 98)), (1, .ref (ad 15)), (2, .ref (ad 1)), (3, .ref (ad 12)), (4, .int (zI (a : Int))), (5, .int (zI ((nn a : Int) - 1)))]) hx hb dX4_weighJoins_104 hl (j := 6) rfl ((b9 + 1 : Nat) : Int) (by omega) (by decide) rfl (fun ls hl => ?_)
                refine lv_goto (tgt := 23) hx hb dX4_weighJoins_107 (by decide) ?_
                exact ih2 (b9 + 1) c2 H locs ls (by omega) (fun x y hx hy h1 h2 => by
                  by_cases e : x = a ∧ y = b9
                  · exfalso
                    obtain ⟨e1, e2⟩ := e
                    subst e1
                    subst e2
                    omega
                  · exact hG2 x y (by omega) hy h1 h2) hR2 hf2 (by omega) w (lv_sub hl [1, 2, 3, 4, 5, 6, 0] rfl)
              · refine lv_aload_n hx hb dX4_weighJoins_34 rfl (lv_at hl 1 rfl) ?_
                refine lv_iload hx hb dX4_weighJoins_35 (lv_at hl 6 rfl) ?_
                refine pw_aaldR (r := 15) (j := b9) hx hb w (by omega) ((hf2 15 (by omega)).trans u1) rfl rfl (by omega) (by omega) (by decide) (16 + 14 * b9) (u2 b9 (by omega)) dX4_weighJoins_37 ?_
                refine pw_ci w (pw_runV (r := (16 + 14 * b9)) (ci := 5) (As := []) (rest := []) w ⟨hx, hb, hml, hown, hts⟩ (c_X5_size l D G ad N c2 (T := 16 + 14 * b9) (by omega) hN (hU2.2 b9 hb4) hvb) (cwV 0 hts gX4_weighJoins_X5_size rfl rfl rfl (by decide +kernel) ⟨Nat.le_of_ble_eq_true rfl, Nat.le_of_ble_eq_true rfl⟩) (by omega) (hU2.2 b9 (by omega)).1 rfl rfl hl.1 rfl (lv_room (Nat.le_of_ble_eq_true rfl)) dX4_weighJoins_38 ⟨Nat.le_of_ble_eq_true rfl, Nat.le_of_ble_eq_true rfl⟩) (fun r_ u H locs hp w => ?_)
                obtain ⟨hv, hu⟩ := hp
                subst hv
                have w : PW D G A s ad N c2 H locs := by rw [hu] at w; exact w
                clear hu
                refine pz_ifle (tgt := 104) hx hb dX4_weighJoins_41 (by decide) (⟨by omega, by omega⟩) (fun hnb0 => ?_) (fun hnb0 => ?_)
                · refine pz_iinc (lv' := [(6, .int (zI ((b9 + 1 : Nat) : Int))), (0, .ref (ad 98)), (1, .ref (ad 15)), (2, .ref (ad 1)), (3, .ref (ad 12)), (4, .int (zI (a : Int))), (5, .int (zI ((nn a : Int) - 1)))]) hx hb dX4_weighJoins_104 hl (j := 6) rfl ((b9 + 1 : Nat) : Int) (by omega) (by decide) rfl (fun ls hl => ?_)
                  refine lv_goto (tgt := 23) hx hb dX4_weighJoins_107 (by decide) ?_
                  exact ih2 (b9 + 1) c2 H locs ls (by omega) (fun x y hx hy h1 h2 => by
                    by_cases e : x = a ∧ y = b9
                    · exfalso
                      obtain ⟨e1, e2⟩ := e
                      subst e1
                      subst e2
                      omega
                    · exact hG2 x y (by omega) hy h1 h2) hR2 hf2 (by omega) w (lv_sub hl [1, 2, 3, 4, 5, 6, 0] rfl)
                · have hna : 0 < nn a := by omega
                  have hnb : 0 < nn b9 := by omega
                  have hpa := hva.2.1 (nn a - 1) (by omega)
                  have hpb := hvb.2.1 0 hnb
                  refine lv_aload_n hx hb dX4_weighJoins_44 rfl (lv_at hl 1 rfl) ?_
                  refine lv_iload hx hb dX4_weighJoins_45 (lv_at hl 4 rfl) ?_
                  refine pw_aaldR (r := 15) (j := a) hx hb w (by omega) ((hf2 15 (by omega)).trans u1) rfl rfl (by omega) (by omega) (by decide) (16 + 14 * a) (u2 a (by omega)) dX4_weighJoins_47 ?_
                  refine lv_iload hx hb dX4_weighJoins_48 (lv_at hl 5 rfl) ?_
                  refine pz_top (b := ((nn a - 1 : Nat) : Int)) (by omega) ?_
                  refine pw_ci w (pw_runV (r := (16 + 14 * a)) (ci := 5) (As := [.int (zI ((nn a - 1 : Nat) : Int))]) (rest := []) w ⟨hx, hb, hml, hown, hts⟩ (c_X5_pitchOf l D G ad N c2 (T := 16 + 14 * a) (by omega) hN (hU2.2 a ha4) hva (i := nn a - 1) (by omega)) (cwV 1 hts gX4_weighJoins_X5_pitchOf rfl rfl rfl (by decide +kernel) ⟨Nat.le_of_ble_eq_true rfl, Nat.le_of_ble_eq_true rfl⟩) (by omega) (hU2.2 a (by omega)).1 rfl rfl hl.1 rfl (lv_room (Nat.le_of_ble_eq_true rfl)) dX4_weighJoins_50 ⟨Nat.le_of_ble_eq_true rfl, Nat.le_of_ble_eq_true rfl⟩) (fun r_ u H locs hp w => ?_)
                  obtain ⟨hv, hu⟩ := hp
                  subst hv
                  have w : PW D G A s ad N c2 H locs := by rw [hu] at w; exact w
                  clear hu
                  refine lv_istore (lv' := [(7, .int (zI (pt a (nn a - 1) : Int))), (0, .ref (ad 98)), (1, .ref (ad 15)), (2, .ref (ad 1)), (3, .ref (ad 12)), (4, .int (zI (a : Int))), (5, .int (zI ((nn a : Int) - 1))), (6, .int (zI (b9 : Int)))]) hx hb dX4_weighJoins_53 hl (by decide) rfl (fun ls hl => ?_)
                  refine lv_aload_n hx hb dX4_weighJoins_55 rfl (lv_at hl 2 rfl) ?_
                  refine lv_iload hx hb dX4_weighJoins_56 (lv_at hl 5 rfl) ?_
                  refine pw_aaldR (r := 15) (j := a) hx hb w (by omega) ((hf2 15 (by omega)).trans u1) rfl rfl (by omega) (by omega) (by decide) (16 + 14 * a) (u2 a (by omega)) dX4_weighJoins_58 ?_
                  refine lv_iload hx hb dX4_weighJoins_59 (lv_at hl 6 rfl) ?_
                  refine pz_top (b := ((nn a - 1 : Nat) : Int)) (by omega) ?_
                  refine pw_ci w (pw_runV (r := (16 + 14 * a)) (ci := 5) (As := [.int (zI ((nn a - 1 : Nat) : Int))]) (rest := []) w ⟨hx, hb, hml, hown, hts⟩ (c_X5_lengthOf l D G ad N c2 (T := 16 + 14 * a) (by omega) hN (hU2.2 a ha4) hva (i := nn a - 1) (by omega)) (cwV 1 hts gX4_weighJoins_X5_lengthOf rfl rfl rfl (by decide +kernel) ⟨Nat.le_of_ble_eq_true rfl, Nat.le_of_ble_eq_true rfl⟩) (by omega) (hU2.2 a (by omega)).1 rfl rfl hl.1 rfl (lv_room (Nat.le_of_ble_eq_true rfl)) dX4_weighJoins_61 ⟨Nat.le_of_ble_eq_true rfl, Nat.le_of_ble_eq_true rfl⟩) (fun r_ u H locs hp w => ?_)
                  obtain ⟨hv, hu⟩ := hp
                  subst hv
                  have w : PW D G A s ad N c2 H locs := by rw [hu] at w; exact w
                  clear hu
                  refine lv_istore (lv' := [(8, .int (zI (ln a (nn a - 1) : Int))), (7, .int (zI (pt a (nn a - 1) : Int))), (0, .ref (ad 98)), (1, .ref (ad 15)), (2, .ref (ad 1)), (3, .ref (ad 12)), (4, .int (zI (a : Int))), (5, .int (zI ((nn a : Int) - 1))), (6, .int (zI (b9 : Int)))]) hx hb dX4_weighJoins_64 hl (by decide) rfl (fun ls hl => ?_)
                  refine lv_aload_n hx hb dX4_weighJoins_66 rfl (lv_at hl 3 rfl) ?_
                  refine lv_iload hx hb dX4_weighJoins_67 (lv_at hl 8 rfl) ?_
                  refine pw_aaldR (r := 15) (j := b9) hx hb w (by omega) ((hf2 15 (by omega)).trans u1) rfl rfl (by omega) (by omega) (by decide) (16 + 14 * b9) (u2 b9 (by omega)) dX4_weighJoins_69 ?_
                  refine lv_iconst (v := zI (0)) hx hb dX4_weighJoins_70 rfl ?_
                  refine pw_ci w (pw_runV (r := (16 + 14 * b9)) (ci := 5) (As := [.int (zI 0)]) (rest := []) w ⟨hx, hb, hml, hown, hts⟩ (c_X5_pitchOf l D G ad N c2 (T := 16 + 14 * b9) (by omega) hN (hU2.2 b9 hb4) hvb (i := 0) hnb) (cwV 1 hts gX4_weighJoins_X5_pitchOf rfl rfl rfl (by decide +kernel) ⟨Nat.le_of_ble_eq_true rfl, Nat.le_of_ble_eq_true rfl⟩) (by omega) (hU2.2 b9 (by omega)).1 rfl rfl hl.1 rfl (lv_room (Nat.le_of_ble_eq_true rfl)) dX4_weighJoins_71 ⟨Nat.le_of_ble_eq_true rfl, Nat.le_of_ble_eq_true rfl⟩) (fun r_ u H locs hp w => ?_)
                  obtain ⟨hv, hu⟩ := hp
                  subst hv
                  have w : PW D G A s ad N c2 H locs := by rw [hu] at w; exact w
                  clear hu
                  refine lv_istore (lv' := [(9, .int (zI (pt b9 0 : Int))), (8, .int (zI (ln a (nn a - 1) : Int))), (7, .int (zI (pt a (nn a - 1) : Int))), (0, .ref (ad 98)), (1, .ref (ad 15)), (2, .ref (ad 1)), (3, .ref (ad 12)), (4, .int (zI (a : Int))), (5, .int (zI ((nn a : Int) - 1))), (6, .int (zI (b9 : Int)))]) hx hb dX4_weighJoins_74 hl (by decide) rfl (fun ls hl => ?_)
                  refine lv_aload_n hx hb dX4_weighJoins_76 rfl (lv_at hl 3 rfl) ?_
                  refine pw_get (r := 98) (ci := 4) (C := RX4) (T := TX4) (Nf := 6) hx hb w hts hin_X4_weighJoins_4 hown (by omega) ((hf2 98 (by omega)).trans s1) rfl 0 (by decide) (hts _ fl_X4_weighJoins_11) (fun _ h9 => h9) rfl dX4_weighJoins_77 ?_
                  refine lv_iload hx hb dX4_weighJoins_80 (lv_at hl 7 rfl) ?_
                  refine lv_iconst (v := zI (4)) hx hb dX4_weighJoins_82 rfl ?_
                  refine pz_imul hx hb dX4_weighJoins_83 ?_
                  refine lv_iload hx hb dX4_weighJoins_84 (lv_at hl 9 rfl) ?_
                  refine pz_iadd hx hb dX4_weighJoins_86 ?_
                  refine pw_aaldR (r := 99) (j := (a * 4 + b9)) hx hb w (by omega) ((hf2 99 (by omega)).trans s2) rfl rfl (by omega) (by omega) (by decide) (100 + (a * 4 + b9)) (s3 (a * 4 + b9) (by omega)) dX4_weighJoins_87 ?_
                  refine lv_astore (lv' := [(10, .ref (ad (100 + (a * 4 + b9)))), (9, .int (zI (pt b9 0 : Int))), (8, .int (zI (ln a (nn a - 1) : Int))), (7, .int (zI (pt a (nn a - 1) : Int))), (0, .ref (ad 98)), (1, .ref (ad 15)), (2, .ref (ad 1)), (3, .ref (ad 12)), (4, .int (zI (a : Int))), (5, .int (zI ((nn a : Int) - 1))), (6, .int (zI (b9 : Int)))]) hx hb dX4_weighJoins_88 hl (by decide) rfl (fun ls hl => ?_)
                  refine lv_aload_n hx hb dX4_weighJoins_90 rfl (lv_at hl 7 rfl) ?_
                  refine lv_aload_n hx hb dX4_weighJoins_91 rfl (lv_at hl 6 rfl) ?_
                  refine lv_iload hx hb dX4_weighJoins_92 (lv_at hl 3 rfl) ?_
                  refine lv_iload hx hb dX4_weighJoins_94 (lv_at hl 2 rfl) ?_
                  refine lv_iload hx hb dX4_weighJoins_96 (lv_at hl 1 rfl) ?_
                  refine lv_iconst (v := zI (0)) hx hb dX4_weighJoins_98 rfl ?_
                  refine lv_aload hx hb dX4_weighJoins_99 (lv_at hl 0 rfl) ?_
                  obtain ⟨g0, hg0⟩ := hR2 (a * 4 + b9) (by omega)
                  have hF2 := hF.fr (c1 := c2) (fun q h1 h2 => hf2 q (by omega))
                  have hB2 := hB.fr (c1 := c2) (fun q h => hf2 q (by omega))
                  refine pw_cv w (pw_runV (r := 12) (ci := 3) (As := [.ref (ad 1), .int (zI (pt a (nn a - 1) : Int)), .int (zI (ln a (nn a - 1) : Int)), .int (zI (pt b9 0 : Int)), .int (zI 0), .ref (ad (100 + (a * 4 + b9)))]) (rest := []) w ⟨hx, hb, hml, hown, hts⟩ (c_X3_weigh l D G ad N c2 (no := no) (dn := dn) (gn := gn) (gg := gg) (dg := dg) (lim := lim) (wish := 0) (x := pt a (nn a - 1)) (y := pt b9 0) (mm := ln a (nn a - 1)) (t := 100 + (a * 4 + b9)) (g0 := g0) hNb hB2 hBV hF2 hpa.1 hpb.1 hpa.2.2 (Or.inl rfl) (by omega) (by omega) hg0) (cwV 6 hts gX4_weighJoins_X3_weigh rfl rfl rfl (by decide +kernel) ⟨Nat.le_of_ble_eq_true rfl, Nat.le_of_ble_eq_true rfl⟩) (by omega) ((hf2 12 (by omega)).trans hB.1) rfl rfl hl.1 rfl (lv_room (Nat.le_of_ble_eq_true rfl)) dX4_weighJoins_101 ⟨Nat.le_of_ble_eq_true rfl, Nat.le_of_ble_eq_true rfl⟩) (fun c1 H locs hp w => ?_)
                  have w : PW D G A s ad N c1 H locs := w
                  obtain ⟨hA1, fr1⟩ := hp
                  refine pz_iinc (lv' := [(6, .int (zI ((b9 + 1 : Nat) : Int))), (10, .ref (ad (100 + (a * 4 + b9)))), (9, .int (zI (pt b9 0 : Int))), (8, .int (zI (ln a (nn a - 1) : Int))), (7, .int (zI (pt a (nn a - 1) : Int))), (0, .ref (ad 98)), (1, .ref (ad 15)), (2, .ref (ad 1)), (3, .ref (ad 12)), (4, .int (zI (a : Int))), (5, .int (zI ((nn a : Int) - 1)))]) hx hb dX4_weighJoins_104 hl (j := 10) rfl ((b9 + 1 : Nat) : Int) (by omega) (by decide) rfl (fun ls hl => ?_)
                  refine lv_goto (tgt := 23) hx hb dX4_weighJoins_107 (by decide) ?_
                  exact ih2 (b9 + 1) c1 H locs ls (by omega) (fun x y hx hy h1 h2 => by
                    by_cases e : x = a ∧ y = b9
                    · obtain ⟨e1, e2⟩ := e
                      subst e1
                      subst e2
                      exact hA1
                    · exact isA.fr (fr1 _ (by omega)) (hG2 x y (by omega) hy h1 h2)) (fun i hi => by
                    by_cases e : i = a * 4 + b9
                    · subst e
                      exact ⟨_, hA1⟩
                    · obtain ⟨g, hg⟩ := hR2 i hi
                      exact ⟨g, isA.fr (fr1 _ (by omega)) hg⟩) (fun q hq => (fr1 q (by omega)).trans (hf2 q hq)) (by omega) w (lv_sub hl [5, 6, 7, 8, 9, 10, 0] rfl)
        exact lq 5 0 c1 H locs ls (by omega) (fun x y hx hy h1 h2 => hG x y (by omega) hy h1 h2) hR hf (by omega) w (lv_sub hl [2, 3, 4, 5, 6, 1, 0] rfl)
  exact lp 5 0 c H locs ls (by omega) (fun x y hx hy h1 h2 => by omega) hR0 (fun _ _ => rfl) (by omega) w (lv_sub hl [1, 2, 3, 4, 0] rfl)

theorem wd_X4_tryAllOrders_k59 : Cond.constant RX4 59 (1000000) ∈ wsX4_tryAllOrders := by decide +kernel
theorem hin_X4_tryAllOrders_4 : ∀ w ∈ u_ws RX4 TX4 6, w ∈ wsX4_tryAllOrders := by decide +kernel
theorem fl_X4_tryAllOrders_34 : Cond.fieldLink RX4 34 "PipersDesk$SetSearch" "leastCost" "I" ∈ wsX4_tryAllOrders := by decide +kernel
abbrev rm_X4_tryAllOrders : Room := { frames := 3, cells := 0, slots := 0, locals := 90 }
set_option maxHeartbeats 4000000 in
set_option maxRecDepth 100000 in
/-- SetSearch.tryAllOrders -/
theorem c_X4_tryAllOrders (l : Launch) (D : va_G) (G : Nat → ClassId) (ad : Nat → Nat) (N : Nat) (c : Nat → va_E) {mz : Nat} {lc : Int} {od bt : Nat → Nat} (hN : 120 ≤ N) (hS : SS G ad c mz lc od bt) {nn : Nat → Nat} {pt ln : Nat → Nat → Nat} {wi : Nat → Nat → Int} (hU : Tus G ad c nn pt ln wi) (hUV : TusV nn pt ln wi) {cw jw : Nat → Nat → Nat → Int} (hW : GWs G c nn cw) (hJ : ∀ a b, a < 4 → b < 4 → 0 < nn a → 0 < nn b → isA 0 G (c (100 + (a * 4 + b))) 9 (jw a b)) (hcw : ∀ t i j, j < 9 → 0 ≤ cw t i j ∧ cw t i j ≤ 1000000) (hjw : ∀ a b j, j < 9 → 0 ≤ jw a b j ∧ jw a b j ≤ 1000000) {M : Nat} {OD : Nat → Nat} {Co : (Nat → Nat) → Int} (hM : M = (sO nn od 4).1) (hOD : OD = (sO nn od 4).2) (hCo : Co = fun o => lessOf (cOF nn cw jw o M)) : MC l yX4_tryAllOrders wsX4_tryAllOrders rm_X4_tryAllOrders [.ref (ad 98), .ref (ad 15)] D G ad N c (qI D G (fx ad N) (fun v c1 => v = zI (tA M Co OD bt 24).1 ∧ SS G ad c1 M (tA M Co OD bt 24).2.1 (tA M Co OD bt 24).2.2.1 (tA M Co OD bt 24).2.2.2.1 ∧ ∀ q, (q < 98 ∨ q = 99 ∨ (100 ≤ q ∧ q < 117) ∨ 120 ≤ q) → c1 q = c q)) 0 0 := by
  refine MCi.of (cc := cX4_tryAllOrders) (maxL := 6) (by decide) rfl (Nat.le_of_ble_eq_true rfl) ?_
  intro p e s m args below meth kc A Q hx hb hts hown hml fin H locs w ls hl
  have hown : s.vm.findClass RX4 = some m.cls := hown
  have hl : lv_has ls 6 [(0, .ref (ad 98)), (1, .ref (ad 15))] := hl
  obtain ⟨s1, ⟨fs, s2, s3⟩, s4, ⟨g117, s5⟩, s6, s7⟩ := id hS
  obtain ⟨⟨fu, u1, u2⟩, u3⟩ := id hU
  have hle := sO_le nn od 4
  rw [← hM, ← hOD] at hle
  have hCb : ∀ o, 0 ≤ Co o ∧ Co o ≤ 1000000 := fun o => by rw [hCo]; exact cOF_bd hcw hjw M _ (flb_lt _ _)
  refine lv_aload_n hx hb dX4_tryAllOrders_0 rfl (lv_at hl 0 rfl) ?_
  refine lv_aload_n hx hb dX4_tryAllOrders_1 rfl (lv_at hl 1 rfl) ?_
  refine pw_cv w (pw_runV (r := 98) (ci := 4) (As := [.ref (ad 15)]) (rest := []) w ⟨hx, hb, hml, hown, hts⟩ (c_X4_startOrder l D G ad N c hN hS hU hUV) (cwV 1 hts gX4_tryAllOrders_X4_startOrder rfl rfl rfl (by decide +kernel) ⟨Nat.le_of_ble_eq_true rfl, Nat.le_of_ble_eq_true rfl⟩) (by omega) s1 rfl rfl hl.1 rfl (lv_room (Nat.le_of_ble_eq_true rfl)) dX4_tryAllOrders_2 ⟨Nat.le_of_ble_eq_true rfl, Nat.le_of_ble_eq_true rfl⟩) (fun c1 H locs hp w => ?_)
  have w : PW D G A s ad N c1 H locs := w
  obtain ⟨h981, hA1, fr1⟩ := hp
  rw [← hM] at h981
  rw [← hOD] at hA1
  refine lv_aload_n hx hb dX4_tryAllOrders_5 rfl (lv_at hl 0 rfl) ?_
  refine lv_ldc hx hb hown (hts _ wd_X4_tryAllOrders_k59) dX4_tryAllOrders_6 (pz_topI (y := zI (1000000)) (by decide +kernel) ?_)
  refine pw_put' (r := 98) (ci := 4) (C := RX4) (T := TX4) (Nf := 6) hx hb w hts hin_X4_tryAllOrders_4 tyX4 tyX4_ok nmX4 hown (by omega) h981 rfl 5 (by decide) (hts _ fl_X4_tryAllOrders_34) (fun _ h9 => h9) rfl (ty := .int) (by decide +kernel) rfl rfl (Nat.le_of_ble_eq_true rfl) dX4_tryAllOrders_8 (fun H locs c2 hc2 fr2 w => ?_)
  refine lv_iconst (v := zI (0)) hx hb dX4_tryAllOrders_11 rfl ?_
  refine lv_istore_n (lv' := [(2, .int (zI 0)), (0, .ref (ad 98)), (1, .ref (ad 15))]) hx hb dX4_tryAllOrders_12 rfl hl (by decide) rfl (fun ls hl => ?_)
  refine lv_iconst (v := zI (1)) hx hb dX4_tryAllOrders_13 rfl ?_
  refine lv_istore_n (lv' := [(3, .int (zI 1)), (2, .int (zI 0)), (0, .ref (ad 98)), (1, .ref (ad 15))]) hx hb dX4_tryAllOrders_14 rfl hl (by decide) rfl (fun ls hl => ?_)
  refine lv_iconst (v := zI (0)) hx hb dX4_tryAllOrders_15 rfl ?_
  refine lv_istore (lv' := [(4, .int (zI 0)), (3, .int (zI 1)), (2, .int (zI 0)), (0, .ref (ad 98)), (1, .ref (ad 15))]) hx hb dX4_tryAllOrders_16 hl (by decide) rfl (fun ls hl => ?_)
  have hS0 : SS G ad c2 M 1000000 OD bt := ⟨hc2, ⟨fs, (fr2 99 (by omega)).trans ((fr1 99 (by omega)).trans s2), s3⟩, (fr2 116 (by omega)).trans ((fr1 116 (by omega)).trans s4), ⟨g117, isA.fr ((fr2 117 (by omega)).trans (fr1 117 (by omega))) s5⟩, isA.fr (fr2 118 (by omega)) hA1, isA.fr ((fr2 119 (by omega)).trans (fr1 119 (by omega))) s7⟩
  have lp : ∀ (f : Nat) (i : Nat) (c1 : Nat → va_E) (H : Heap) (locs : List Loc) (ls : Array Slot), i ≤ 24 → SS G ad c1 M (tA M Co OD bt i).2.1 (tA M Co OD bt i).2.2.1 (tA M Co OD bt i).2.2.2.1 → (∀ q, (q < 98 ∨ q = 99 ∨ (100 ≤ q ∧ q < 117) ∨ 120 ≤ q) → c1 q = c q) → 24 < i + f → PW D G A s ad N c1 H locs → lv_has ls 6 [(0, .ref (ad 98)), (1, .ref (ad 15)), (2, .int (zI ((tA M Co OD bt i).1))), (3, .int (zI (if (tA M Co OD bt i).2.2.2.2 = true then 1 else 0))), (4, .int (zI (i : Int)))] → W p l e rm_X4_tryAllOrders s m args below meth kc H locs 0 0 Q (F0 m 18 ls []) := by
    intro f
    induction f with
    | zero => intro i c1 H locs ls h9 hSi hf hfu w hl; omega
    | succ f ih =>
      intro i c1 H locs ls h9 hSi hf hfu w hl
      have htb := tA_bd (m := M) (od := OD) (bt := bt) hCb i
      have hoP := tA_P (m := M) (Co := Co) (bt := bt) (P := fun t => t < 4 ∧ 0 < nn t) (od := OD) hle.2 i
      refine lv_iload_n hx hb dX4_tryAllOrders_18 rfl (lv_at hl 3 rfl) ?_
      refine pz_ifeq (tgt := 63) hx hb dX4_tryAllOrders_19 (by decide) ((by split <;> exact ⟨by decide, by decide⟩)) (fun hmo => ?_) (fun hmo => ?_)
      · refine lv_iload_n hx hb dX4_tryAllOrders_63 rfl (lv_at hl 2 rfl) ?_
        have e9 : tA M Co OD bt 24 = (tA M Co OD bt i) := by
          have hm : (tA M Co OD bt i).2.2.2.2 = false := by
            cases h : (tA M Co OD bt i).2.2.2.2 with
            | false => rfl
            | true => rw [if_pos h] at hmo; omega
          have e := tA_stop hm (24 - i)
          rw [show i + (24 - i) = 24 from by omega] at e
          exact e
        exact fin (ad, N, c1) c1 _ _ _ _ _ _ _ rfl ⟨by rw [e9], by rw [e9]; exact hSi, hf⟩ w dX4_tryAllOrders_64 (Nat.le_refl _) (Nat.le_refl _)
      · have hmo1 : (tA M Co OD bt i).2.2.2.2 = true := by
          cases h : (tA M Co OD bt i).2.2.2.2 with
          | true => rfl
          | false => rw [if_neg (by rw [h]; decide)] at hmo; omega
        refine lv_iload hx hb dX4_tryAllOrders_22 (lv_at hl 4 rfl) ?_
        refine lv_bipush (v := zI (24)) hx hb dX4_tryAllOrders_24 (by decide +kernel) ?_
        refine pz_icmpge (tgt := 63) hx hb dX4_tryAllOrders_26 (by decide) (⟨by omega, by omega⟩) (⟨by omega, by omega⟩) (fun hi => ?_) (fun hi => ?_)
        · refine lv_iload_n hx hb dX4_tryAllOrders_63 rfl (lv_at hl 2 rfl) ?_
          have e9 : tA M Co OD bt 24 = (tA M Co OD bt i) := by rw [show i = 24 from by omega]
          exact fin (ad, N, c1) c1 _ _ _ _ _ _ _ rfl ⟨by rw [e9], by rw [e9]; exact hSi, hf⟩ w dX4_tryAllOrders_64 (Nat.le_refl _) (Nat.le_refl _)
        · have hUi := hU.fr (c1 := c1) (fun q hq => hf q (by omega))
          have hWi := hW.fr (c1 := c1) (fun t ht => (hUV t ht).1) (fun q hq => hf q (by omega))
          refine lv_aload_n hx hb dX4_tryAllOrders_29 rfl (lv_at hl 0 rfl) ?_
          refine lv_aload_n hx hb dX4_tryAllOrders_30 rfl (lv_at hl 1 rfl) ?_
          refine pw_ci w (pw_runV (r := 98) (ci := 4) (As := [.ref (ad 15)]) (rest := []) w ⟨hx, hb, hml, hown, hts⟩ (c_X4_costOfOrder l D G ad N c1 (mz := M) (lc := (tA M Co OD bt i).2.1) (od := (tA M Co OD bt i).2.2.1) (bt := (tA M Co OD bt i).2.2.2.1) hN hSi hUi hUV hWi (fun a b ha hb h1 h2 => isA.fr (hf _ (by omega)) (hJ a b ha hb h1 h2)) hoP hle.1 hcw hjw) (cwV 1 hts gX4_tryAllOrders_X4_costOfOrder rfl rfl rfl (by decide +kernel) ⟨Nat.le_of_ble_eq_true rfl, Nat.le_of_ble_eq_true rfl⟩) (by omega) hSi.1 rfl rfl hl.1 rfl (lv_room (Nat.le_of_ble_eq_true rfl)) dX4_tryAllOrders_31 ⟨Nat.le_of_ble_eq_true rfl, Nat.le_of_ble_eq_true rfl⟩) (fun r_ c3 H locs hp w => ?_)
          have w : PW D G A s ad N c3 H locs := w
          obtain ⟨hv3, ⟨gz3, hz3⟩, fr3⟩ := hp
          have hco : lessOf (cOF nn cw jw (tA M Co OD bt i).2.2.1 M) = Co (tA M Co OD bt i).2.2.1 := by rw [hCo]
          rw [hco] at hv3
          subst hv3
          have hSk : SS G ad c3 M (tA M Co OD bt i).2.1 (tA M Co OD bt i).2.2.1 (tA M Co OD bt i).2.2.2.1 := ⟨(fr3 98 (by omega)).trans hSi.1, ⟨fs, (fr3 99 (by omega)).trans ((hf 99 (by omega)).trans s2), s3⟩, (fr3 116 (by omega)).trans hSi.2.2.1, ⟨_, hz3⟩, isA.fr (fr3 118 (by omega)) hSi.2.2.2.2.1, isA.fr (fr3 119 (by omega)) hSi.2.2.2.2.2⟩
          have hcb := hCb (tA M Co OD bt i).2.2.1
          refine lv_istore (lv' := [(5, .int (zI (Co (tA M Co OD bt i).2.2.1))), (0, .ref (ad 98)), (1, .ref (ad 15)), (2, .int (zI ((tA M Co OD bt i).1))), (3, .int (zI (if (tA M Co OD bt i).2.2.2.2 = true then 1 else 0))), (4, .int (zI (i : Int)))]) hx hb dX4_tryAllOrders_34 hl (by decide) rfl (fun ls hl => ?_)
          refine lv_iload hx hb dX4_tryAllOrders_36 (lv_at hl 0 rfl) ?_
          refine lv_ldc hx hb hown (hts _ wd_X4_tryAllOrders_k59) dX4_tryAllOrders_38 (pz_topI (y := zI (1000000)) (by decide +kernel) ?_)
          refine pz_icmpge (tgt := 52) hx hb dX4_tryAllOrders_40 (by decide) (⟨by omega, by omega⟩) (⟨by omega, by omega⟩) (fun hc9 => ?_) (fun hc9 => ?_)
          · refine lv_aload_n hx hb dX4_tryAllOrders_52 rfl (lv_at hl 1 rfl) ?_
            refine pw_ci w (pw_runV (r := 98) (ci := 4) (As := []) (rest := []) w ⟨hx, hb, hml, hown, hts⟩ (c_X4_goToNextOrder l D G ad N c3 (mz := M) (lc := (tA M Co OD bt i).2.1) (od := (tA M Co OD bt i).2.2.1) (bt := (tA M Co OD bt i).2.2.2.1) hN hSk hle.1 (fun j hj => (hoP j hj).1)) (cwV 0 hts gX4_tryAllOrders_X4_goToNextOrder rfl rfl rfl (by decide +kernel) ⟨Nat.le_of_ble_eq_true rfl, Nat.le_of_ble_eq_true rfl⟩) (by omega) hSk.1 rfl rfl hl.1 rfl (lv_room (Nat.le_of_ble_eq_true rfl)) dX4_tryAllOrders_53 ⟨Nat.le_of_ble_eq_true rfl, Nat.le_of_ble_eq_true rfl⟩) (fun r_ c4 H locs hp w => ?_)
            have w : PW D G A s ad N c4 H locs := w
            obtain ⟨hv4, hA4, fr4⟩ := hp
            subst hv4
            have e5 : tA M Co OD bt (i + 1) = ((tA M Co OD bt i).1, (tA M Co OD bt i).2.1, nxO M (tA M Co OD bt i).2.2.1, (tA M Co OD bt i).2.2.2.1, decide (tnF (tA M Co OD bt i).2.2.1 (M - 1) ≠ 0)) := by
              rw [tA]
              simp only [hmo1, if_true]
              rw [if_neg (by omega), if_neg (by omega), if_neg (by omega)]
            refine lv_istore_n (lv' := [(3, .int (zI (if tnF (tA M Co OD bt i).2.2.1 (M - 1) = 0 then 0 else 1))), (5, .int (zI (Co (tA M Co OD bt i).2.2.1))), (0, .ref (ad 98)), (1, .ref (ad 15)), (2, .int (zI ((tA M Co OD bt i).1))), (4, .int (zI (i : Int)))]) hx hb dX4_tryAllOrders_56 rfl hl (by decide) rfl (fun ls hl => ?_)
            refine pz_iinc (lv' := [(4, .int (zI ((i + 1 : Nat) : Int))), (3, .int (zI (if tnF (tA M Co OD bt i).2.2.1 (M - 1) = 0 then 0 else 1))), (5, .int (zI (Co (tA M Co OD bt i).2.2.1))), (0, .ref (ad 98)), (1, .ref (ad 15)), (2, .int (zI ((tA M Co OD bt i).1)))]) hx hb dX4_tryAllOrders_57 hl (j := 5) rfl ((i + 1 : Nat) : Int) (by omega) (by decide) rfl (fun ls hl => ?_)
            refine lv_goto (tgt := 18) hx hb dX4_tryAllOrders_60 (by decide) ?_
            have hl : lv_has ls 6 [(0, .ref (ad 98)), (1, .ref (ad 15)), (2, .int (zI ((tA M Co OD bt (i + 1)).1))), (3, .int (zI (if (tA M Co OD bt (i + 1)).2.2.2.2 = true then 1 else 0))), (4, .int (zI ((i + 1 : Nat) : Int)))] := by
              have h1 := (lv_sub hl [3, 4, 5, 1, 0] rfl)
              rw [e5]
              simp only [decide_eq_true_eq, ite_not]
              exact h1
            exact ih (i + 1) c4 H locs ls (by omega) (by rw [e5]; exact ⟨(fr4 98 (by omega)).trans hSk.1, ⟨fs, (fr4 99 (by omega)).trans ((fr3 99 (by omega)).trans ((hf 99 (by omega)).trans s2)), s3⟩, (fr4 116 (by omega)).trans hSk.2.2.1, ⟨_, isA.fr (fr4 117 (by omega)) hSk.2.2.2.1.choose_spec⟩, hA4, isA.fr (fr4 119 (by omega)) hSk.2.2.2.2.2⟩) (fun q hq => (fr4 q (by omega)).trans ((fr3 q (by omega)).trans (hf q hq))) (by omega) w hl
          · have hck : Co (tA M Co OD bt i).2.2.1 < 1000000 := by omega
            refine pz_iinc (lv' := [(2, .int (zI ((tA M Co OD bt i).1 + 1))), (5, .int (zI (Co (tA M Co OD bt i).2.2.1))), (0, .ref (ad 98)), (1, .ref (ad 15)), (3, .int (zI (if (tA M Co OD bt i).2.2.2.2 = true then 1 else 0))), (4, .int (zI (i : Int)))]) hx hb dX4_tryAllOrders_43 hl (j := 3) rfl ((tA M Co OD bt i).1 + 1) rfl (by decide) rfl (fun ls hl => ?_)
            refine lv_aload_n hx hb dX4_tryAllOrders_46 rfl (lv_at hl 2 rfl) ?_
            refine lv_iload hx hb dX4_tryAllOrders_47 (lv_at hl 1 rfl) ?_
            refine pw_cv w (pw_runV (r := 98) (ci := 4) (As := [.int (zI (Co (tA M Co OD bt i).2.2.1))]) (rest := []) w ⟨hx, hb, hml, hown, hts⟩ (c_X4_keepIfLess l D G ad N c3 (mz := M) (lc := (tA M Co OD bt i).2.1) (od := (tA M Co OD bt i).2.2.1) (bt := (tA M Co OD bt i).2.2.2.1) (co := Co (tA M Co OD bt i).2.2.1) hN hSk hle.1 ⟨by omega, by omega⟩ hcb) (cwV 1 hts gX4_tryAllOrders_X4_keepIfLess rfl rfl rfl (by decide +kernel) ⟨Nat.le_of_ble_eq_true rfl, Nat.le_of_ble_eq_true rfl⟩) (by omega) hSk.1 rfl rfl hl.1 rfl (lv_room (Nat.le_of_ble_eq_true rfl)) dX4_tryAllOrders_49 ⟨Nat.le_of_ble_eq_true rfl, Nat.le_of_ble_eq_true rfl⟩) (fun c5 H locs hp w => ?_)
            have w : PW D G A s ad N c5 H locs := w
            obtain ⟨hc5, hb5, fr5⟩ := hp
            have hSq : SS G ad c5 M (if Co (tA M Co OD bt i).2.2.1 < (tA M Co OD bt i).2.1 then Co (tA M Co OD bt i).2.2.1 else (tA M Co OD bt i).2.1) (tA M Co OD bt i).2.2.1 (if Co (tA M Co OD bt i).2.2.1 < (tA M Co OD bt i).2.1 then (fun j => if j < M then (tA M Co OD bt i).2.2.1 j else (tA M Co OD bt i).2.2.2.1 j) else (tA M Co OD bt i).2.2.2.1) := ⟨hc5, ⟨fs, (fr5 99 (by omega)).trans ((fr3 99 (by omega)).trans ((hf 99 (by omega)).trans s2)), s3⟩, (fr5 116 (by omega)).trans hSk.2.2.1, ⟨_, isA.fr (fr5 117 (by omega)) hz3⟩, isA.fr (fr5 118 (by omega)) hSk.2.2.2.2.1, hb5⟩
            refine lv_aload_n hx hb dX4_tryAllOrders_52 rfl (lv_at hl 2 rfl) ?_
            refine pw_ci w (pw_runV (r := 98) (ci := 4) (As := []) (rest := []) w ⟨hx, hb, hml, hown, hts⟩ (c_X4_goToNextOrder l D G ad N c5 (mz := M) (lc := (if Co (tA M Co OD bt i).2.2.1 < (tA M Co OD bt i).2.1 then Co (tA M Co OD bt i).2.2.1 else (tA M Co OD bt i).2.1)) (od := (tA M Co OD bt i).2.2.1) (bt := (if Co (tA M Co OD bt i).2.2.1 < (tA M Co OD bt i).2.1 then (fun j => if j < M then (tA M Co OD bt i).2.2.1 j else (tA M Co OD bt i).2.2.2.1 j) else (tA M Co OD bt i).2.2.2.1)) hN hSq hle.1 (fun j hj => (hoP j hj).1)) (cwV 0 hts gX4_tryAllOrders_X4_goToNextOrder rfl rfl rfl (by decide +kernel) ⟨Nat.le_of_ble_eq_true rfl, Nat.le_of_ble_eq_true rfl⟩) (by omega) hSq.1 rfl rfl hl.1 rfl (lv_room (Nat.le_of_ble_eq_true rfl)) dX4_tryAllOrders_53 ⟨Nat.le_of_ble_eq_true rfl, Nat.le_of_ble_eq_true rfl⟩) (fun r_ c6 H locs hp w => ?_)
            have w : PW D G A s ad N c6 H locs := w
            obtain ⟨hv6, hA6, fr6⟩ := hp
            subst hv6
            have e5 : tA M Co OD bt (i + 1) = (((tA M Co OD bt i).1 + 1), (if Co (tA M Co OD bt i).2.2.1 < (tA M Co OD bt i).2.1 then Co (tA M Co OD bt i).2.2.1 else (tA M Co OD bt i).2.1), nxO M (tA M Co OD bt i).2.2.1, (if Co (tA M Co OD bt i).2.2.1 < (tA M Co OD bt i).2.1 then (fun j => if j < M then (tA M Co OD bt i).2.2.1 j else (tA M Co OD bt i).2.2.2.1 j) else (tA M Co OD bt i).2.2.2.1), decide (tnF (tA M Co OD bt i).2.2.1 (M - 1) ≠ 0)) := by
              rw [tA]
              simp only [hmo1, if_true]
              simp only [hck, true_and, if_true]
            refine lv_istore_n (lv' := [(3, .int (zI (if tnF (tA M Co OD bt i).2.2.1 (M - 1) = 0 then 0 else 1))), (2, .int (zI ((tA M Co OD bt i).1 + 1))), (5, .int (zI (Co (tA M Co OD bt i).2.2.1))), (0, .ref (ad 98)), (1, .ref (ad 15)), (4, .int (zI (i : Int)))]) hx hb dX4_tryAllOrders_56 rfl hl (by decide) rfl (fun ls hl => ?_)
            refine pz_iinc (lv' := [(4, .int (zI ((i + 1 : Nat) : Int))), (3, .int (zI (if tnF (tA M Co OD bt i).2.2.1 (M - 1) = 0 then 0 else 1))), (2, .int (zI ((tA M Co OD bt i).1 + 1))), (5, .int (zI (Co (tA M Co OD bt i).2.2.1))), (0, .ref (ad 98)), (1, .ref (ad 15))]) hx hb dX4_tryAllOrders_57 hl (j := 5) rfl ((i + 1 : Nat) : Int) (by omega) (by decide) rfl (fun ls hl => ?_)
            refine lv_goto (tgt := 18) hx hb dX4_tryAllOrders_60 (by decide) ?_
            have hl : lv_has ls 6 [(0, .ref (ad 98)), (1, .ref (ad 15)), (2, .int (zI ((tA M Co OD bt (i + 1)).1))), (3, .int (zI (if (tA M Co OD bt (i + 1)).2.2.2.2 = true then 1 else 0))), (4, .int (zI ((i + 1 : Nat) : Int)))] := by
              have h1 := (lv_sub hl [4, 5, 2, 1, 0] rfl)
              rw [e5]
              simp only [decide_eq_true_eq, ite_not]
              exact h1
            exact ih (i + 1) c6 H locs ls (by omega) (by rw [e5]; exact ⟨(fr6 98 (by omega)).trans hSq.1, ⟨fs, (fr6 99 (by omega)).trans ((fr5 99 (by omega)).trans ((fr3 99 (by omega)).trans ((hf 99 (by omega)).trans s2))), s3⟩, (fr6 116 (by omega)).trans hSq.2.2.1, ⟨_, isA.fr (fr6 117 (by omega)) hSq.2.2.2.1.choose_spec⟩, hA6, isA.fr (fr6 119 (by omega)) hSq.2.2.2.2.2⟩) (fun q hq => (fr6 q (by omega)).trans ((fr5 q (by omega)).trans ((fr3 q (by omega)).trans (hf q hq)))) (by omega) w hl
  exact lp 25 0 c2 H locs ls (by omega) hS0 (fun q hq => (fr2 q (by omega)).trans (fr1 q (by omega))) (by omega) w (lv_sub hl [3, 4, 2, 1, 0] rfl)
