theorem hin_X2_size_2 : ∀ w ∈ u_ws RX2 TX2 1, w ∈ wsX2_size := by decide +kernel
theorem fl_X2_size_9 : Cond.fieldLink RX2 9 "PipersDesk$Ornament" "graces" "[I" ∈ wsX2_size := by decide +kernel
abbrev rm_X2_size : Room := { frames := 0, cells := 0, slots := 0, locals := 0 }
set_option maxHeartbeats 4000000 in
set_option maxRecDepth 100000 in
/-- Ornament.size -/
theorem c_X2_size (l : Launch) (D : va_G) (G : Nat → ClassId) (ad : Nat → Nat) (N : Nat) (c : Nat → va_E) {o n : Nat} {gr : Nat → Nat} (hoN : o + 1 < N) (ho : c o = .inr (2, [.ref (ad (o + 1))])) (ha : isA 0 G (c (o + 1)) n (fun j => (gr j : Int))) (hn4 : n ≤ 4) : MC l yX2_size wsX2_size rm_X2_size [.ref (ad o)] D G ad N c (qI D G (fx ad N) (fun v c1 => v = zI (n : Int) ∧ c1 = c)) 0 0 := by
  refine MCi.of (cc := cX2_size) (maxL := 1) (by decide) rfl (Nat.le_of_ble_eq_true rfl) ?_
  intro p e s m args below meth kc A Q hx hb hts hown hml fin H locs w ls hl
  have hown : s.vm.findClass RX2 = some m.cls := hown
  have hl : lv_has ls 1 [(0, .ref (ad o))] := hl
  refine lv_aload_n hx hb dX2_size_0 rfl (lv_at hl 0 rfl) ?_
  refine pw_get (r := o) (ci := 2) (C := RX2) (T := TX2) (Nf := 1) hx hb w hts hin_X2_size_2 hown (by omega) ho rfl 0 (by decide) (hts _ fl_X2_size_9) (fun _ h9 => h9) rfl dX2_size_1 ?_
  refine pw_len (r := (o + 1)) hx hb w (by omega) 0 rfl ha dX2_size_4 ?_
  exact fin (ad, N, c) c _ _ _ _ _ _ _ rfl ⟨rfl, rfl⟩ w dX2_size_5 (Nat.le_refl _) (Nat.le_refl _)

abbrev rm_X2_soundOf : Room := { frames := 0, cells := 0, slots := 0, locals := 0 }
set_option maxHeartbeats 4000000 in
set_option maxRecDepth 100000 in
/-- Ornament.soundOf -/
theorem c_X2_soundOf (l : Launch) (D : va_G) (G : Nat → ClassId) (ad : Nat → Nat) (N : Nat) (c : Nat → va_E) {g x y : Nat} (hg : g ≤ 10) : MC l yX2_soundOf wsX2_soundOf rm_X2_soundOf [.int (zI (g : Int)), .int (zI (x : Int)), .int (zI (y : Int))] D G ad N c (qI D G (fx ad N) (fun v c1 => v = zI (snd g x y : Int) ∧ c1 = c)) 0 0 := by
  refine MCi.of (cc := cX2_soundOf) (maxL := 3) (by decide) rfl (Nat.le_of_ble_eq_true rfl) ?_
  intro p e s m args below meth kc A Q hx hb hts hown hml fin H locs w ls hl
  have hown : s.vm.findClass RX2 = some m.cls := hown
  have hl : lv_has ls 3 [(0, .int (zI (g : Int))), (1, .int (zI (x : Int))), (2, .int (zI (y : Int)))] := hl
  refine lv_iload_n hx hb dX2_soundOf_0 rfl (lv_at hl 0 rfl) ?_
  refine lv_bipush (v := zI (9)) hx hb dX2_soundOf_1 (by decide +kernel) ?_
  refine pz_icmpne (tgt := 8) hx hb dX2_soundOf_3 (by decide) (⟨by omega, by omega⟩) (⟨by omega, by omega⟩) (fun h1 => ?_) (fun h1 => ?_)
  · refine lv_iload_n hx hb dX2_soundOf_8 rfl (lv_at hl 0 rfl) ?_
    refine lv_bipush (v := zI (10)) hx hb dX2_soundOf_9 (by decide +kernel) ?_
    refine pz_icmpne (tgt := 18) hx hb dX2_soundOf_11 (by decide) (⟨by omega, by omega⟩) (⟨by omega, by omega⟩) (fun h2 => ?_) (fun h2 => ?_)
    · refine lv_iload_n hx hb dX2_soundOf_18 rfl (lv_at hl 0 rfl) ?_
      exact fin (ad, N, c) c _ _ _ _ _ _ _ rfl ⟨by unfold snd; rw [if_neg (by omega), if_neg (by omega)], rfl⟩ w dX2_soundOf_19 (Nat.le_refl _) (Nat.le_refl _)
    · refine lv_iload_n hx hb dX2_soundOf_14 rfl (lv_at hl 1 rfl) ?_
      refine lv_goto (tgt := 19) hx hb dX2_soundOf_15 (by decide) ?_
      exact fin (ad, N, c) c _ _ _ _ _ _ _ rfl ⟨by unfold snd; rw [if_neg (by omega), if_pos (by omega)], rfl⟩ w dX2_soundOf_19 (Nat.le_refl _) (Nat.le_refl _)
  · refine lv_iload_n hx hb dX2_soundOf_6 rfl (lv_at hl 2 rfl) ?_
    exact fin (ad, N, c) c _ _ _ _ _ _ _ rfl ⟨by unfold snd; rw [if_pos (by omega)], rfl⟩ w dX2_soundOf_7 (Nat.le_refl _) (Nat.le_refl _)

theorem hin_X2_costBetween_2 : ∀ w ∈ u_ws RX2 TX2 1, w ∈ wsX2_costBetween := by decide +kernel
theorem fl_X2_costBetween_9 : Cond.fieldLink RX2 9 "PipersDesk$Ornament" "graces" "[I" ∈ wsX2_costBetween := by decide +kernel
theorem wd_X2_costBetween_k15 : Cond.constant RX2 15 (1000000) ∈ wsX2_costBetween := by decide +kernel
theorem wd_X2_costBetween_minl : Cond.methodLink RX2 26 Lib.Math.min.name ∈ wsX2_costBetween := by decide +kernel
theorem wd_X2_costBetween_mins : Cond.static Lib.Math.min.name ∈ wsX2_costBetween := by decide +kernel
theorem wd_X2_costBetween_mini : Cond.initialized "java/lang/Math" ∈ wsX2_costBetween := by decide +kernel
theorem wd_X2_costBetween_minc : Cond.code Lib.Math.min.name Lib.Math.min.code 2 (some .int) ∈ wsX2_costBetween := by decide +kernel
abbrev rm_X2_costBetween : Room := { frames := 1, cells := 0, slots := 0, locals := 30 }
set_option maxHeartbeats 4000000 in
set_option maxRecDepth 100000 in
/-- Ornament.costBetween -/
theorem c_X2_costBetween (l : Launch) (D : va_G) (G : Nat → ClassId) (ad : Nat → Nat) (N : Nat) (c : Nat → va_E) {o n : Nat} {gr : Nat → Nat} (hoN : o + 1 < N) (ho : c o = .inr (2, [.ref (ad (o + 1))])) (ha : isA 0 G (c (o + 1)) n (fun j => (gr j : Int))) (hn4 : n ≤ 4) {lim : Int} {x y mm : Nat} (hN : 12 ≤ N) (hF : Fing G ad c lim) (hgr : ∀ j, j < n → gr j ≤ 10) (hx9 : x < 9) (hy9 : y < 9) (hmm : mm ≤ 32) : MC l yX2_costBetween wsX2_costBetween rm_X2_costBetween [.ref (ad o), .ref (ad 1), .int (zI (x : Int)), .int (zI (mm : Int)), .int (zI (y : Int))] D G ad N c (qI D G (fx ad N) (fun v c1 => v = zI (orC lim n gr x mm y) ∧ c1 = c)) 0 0 := by
  refine MCi.of (cc := cX2_costBetween) (maxL := 9) (by decide) rfl (Nat.le_of_ble_eq_true rfl) ?_
  intro p e s m args below meth kc A Q hx hb hts hown hml fin H locs w ls hl
  have hown : s.vm.findClass RX2 = some m.cls := hown
  have hl : lv_has ls 9 [(0, .ref (ad o)), (1, .ref (ad 1)), (2, .int (zI (x : Int))), (3, .int (zI (mm : Int))), (4, .int (zI (y : Int)))] := hl
  refine lv_aload_n hx hb dX2_costBetween_0 rfl (lv_at hl 0 rfl) ?_
  refine pw_get (r := o) (ci := 2) (C := RX2) (T := TX2) (Nf := 1) hx hb w hts hin_X2_costBetween_2 hown (by omega) ho rfl 0 (by decide) (hts _ fl_X2_costBetween_9) (fun _ h9 => h9) rfl dX2_costBetween_1 ?_
  refine pw_len (r := (o + 1)) hx hb w (by omega) 0 rfl ha dX2_costBetween_4 ?_
  refine lv_iload_n hx hb dX2_costBetween_5 rfl (lv_at hl 3 rfl) ?_
  refine pz_icmplt (tgt := 12) hx hb dX2_costBetween_6 (by decide) (⟨by omega, by omega⟩) (⟨by omega, by omega⟩) (fun hlen => ?_) (fun hlen => ?_)
  · refine lv_iconst (v := zI (0)) hx hb dX2_costBetween_12 rfl ?_
    refine lv_istore (lv' := [(5, .int (zI 0)), (0, .ref (ad o)), (1, .ref (ad 1)), (2, .int (zI (x : Int))), (3, .int (zI (mm : Int))), (4, .int (zI (y : Int)))]) hx hb dX2_costBetween_13 hl (by decide) rfl (fun ls hl => ?_)
    refine lv_iload_n hx hb dX2_costBetween_15 rfl (lv_at hl 3 rfl) ?_
    refine lv_istore (lv' := [(6, .int (zI (x : Int))), (5, .int (zI 0)), (0, .ref (ad o)), (1, .ref (ad 1)), (2, .int (zI (x : Int))), (3, .int (zI (mm : Int))), (4, .int (zI (y : Int)))]) hx hb dX2_costBetween_16 hl (by decide) rfl (fun ls hl => ?_)
    refine lv_iconst (v := zI (0)) hx hb dX2_costBetween_18 rfl ?_
    refine lv_istore (lv' := [(7, .int (zI 0)), (6, .int (zI (x : Int))), (5, .int (zI 0)), (0, .ref (ad o)), (1, .ref (ad 1)), (2, .int (zI (x : Int))), (3, .int (zI (mm : Int))), (4, .int (zI (y : Int)))]) hx hb dX2_costBetween_19 hl (by decide) rfl (fun ls hl => ?_)
    have lp : ∀ (f i : Nat) (H : Heap) (locs : List Loc) (ls : Array Slot), i ≤ n → n < i + f → PW D G A s ad N c H locs → lv_has ls 9 [(0, .ref (ad o)), (1, .ref (ad 1)), (2, .int (zI (x : Int))), (3, .int (zI (mm : Int))), (4, .int (zI (y : Int))), (5, .int (zI (orS lim gr x y i))), (6, .int (zI (orF gr x y i : Int))), (7, .int (zI (i : Int)))] → W p l e rm_X2_costBetween s m args below meth kc H locs 0 0 Q (F0 m 21 ls []) := by
      intro f
      induction f with
      | zero => intro i H locs ls h9 hfu w hl; omega
      | succ f ih =>
        intro i H locs ls h9 hfu w hl
        have hs := orS_bd hgr hx9 hy9 (lim := lim) i (by omega)
        have hf := orF_lt hgr hx9 hy9 i (by omega)
        refine lv_iload hx hb dX2_costBetween_21 (lv_at hl 7 rfl) ?_
        refine lv_aload_n hx hb dX2_costBetween_23 rfl (lv_at hl 0 rfl) ?_
        refine pw_get (r := o) (ci := 2) (C := RX2) (T := TX2) (Nf := 1) hx hb w hts hin_X2_costBetween_2 hown (by omega) ho rfl 0 (by decide) (hts _ fl_X2_costBetween_9) (fun _ h9 => h9) rfl dX2_costBetween_24 ?_
        refine pw_len (r := (o + 1)) hx hb w (by omega) 0 rfl ha dX2_costBetween_27 ?_
        refine pz_icmpge (tgt := 69) hx hb dX2_costBetween_28 (by decide) (⟨by omega, by omega⟩) (⟨by omega, by omega⟩) (fun hi => ?_) (fun hi => ?_)
        · have i9 : i = n := by omega
          subst i9
          have hst := stp_bd (lim := lim) hf hy9
          refine lv_ldc hx hb hown (hts _ wd_X2_costBetween_k15) dX2_costBetween_69 (pz_topI (y := zI (1000000)) (by decide +kernel) ?_)
          refine lv_iload hx hb dX2_costBetween_71 (lv_at hl 5 rfl) ?_
          refine lv_aload_n hx hb dX2_costBetween_73 rfl (lv_at hl 1 rfl) ?_
          refine lv_iload hx hb dX2_costBetween_74 (lv_at hl 6 rfl) ?_
          refine lv_iload hx hb dX2_costBetween_76 (lv_at hl 4 rfl) ?_
          refine pw_ci w (pw_runV (r := 1) (ci := 0) (As := [.int (zI (orF gr x y i : Int)), .int (zI (y : Int))]) (rest := [.int (zI (orS lim gr x y i)), .int (zI 1000000)]) w ⟨hx, hb, hml, hown, hts⟩ (c_X0_stepCost l D G ad N c hN hF (x := orF gr x y i) (y := y) hf hy9) (cwV 2 hts gX2_costBetween_X0_stepCost rfl rfl rfl (by decide +kernel) ⟨Nat.le_of_ble_eq_true rfl, Nat.le_of_ble_eq_true rfl⟩) (by omega) hF.1 rfl rfl hl.1 rfl (lv_room (Nat.le_of_ble_eq_true rfl)) dX2_costBetween_78 ⟨Nat.le_of_ble_eq_true rfl, Nat.le_of_ble_eq_true rfl⟩) (fun r_ u H locs hp w => ?_)
          obtain ⟨hv, hu⟩ := hp
          subst hv
          have w : PW D G A s ad N c H locs := by rw [hu] at w; exact w
          clear hu
          refine pz_iadd hx hb dX2_costBetween_81 ?_
          refine pz_min hx hb (by rw [hml]; exact hl.1.symm) hown (hts _ wd_X2_costBetween_minl) (hts _ wd_X2_costBetween_mins) (hts _ wd_X2_costBetween_mini) (hts _ wd_X2_costBetween_minc) (Nat.le_of_ble_eq_true rfl) (Nat.le_of_ble_eq_true rfl) (Nat.le_of_ble_eq_true rfl) (Nat.le_of_ble_eq_true rfl) ⟨by omega, by omega⟩ ⟨by omega, by omega⟩ dX2_costBetween_82 ?_
          exact fin (ad, N, c) c _ _ _ _ _ _ _ rfl ⟨by unfold orC; rw [if_neg (by omega)], rfl⟩ w dX2_costBetween_85 (Nat.le_refl _) (Nat.le_refl _)
        · have hgi := hgr i (by omega)
          have hsn := snd_lt hgi hx9 hy9
          have hst := stp_bd (lim := lim) hf hsn
          refine lv_aload_n hx hb dX2_costBetween_31 rfl (lv_at hl 0 rfl) ?_
          refine pw_get (r := o) (ci := 2) (C := RX2) (T := TX2) (Nf := 1) hx hb w hts hin_X2_costBetween_2 hown (by omega) ho rfl 0 (by decide) (hts _ fl_X2_costBetween_9) (fun _ h9 => h9) rfl dX2_costBetween_32 ?_
          refine lv_iload hx hb dX2_costBetween_35 (lv_at hl 7 rfl) ?_
          refine pw_iald (r := (o + 1)) (j := i) hx hb w (by omega) ha (by omega) (by omega) (by omega) dX2_costBetween_37 ?_
          refine lv_iload_n hx hb dX2_costBetween_38 rfl (lv_at hl 2 rfl) ?_
          refine lv_iload hx hb dX2_costBetween_39 (lv_at hl 4 rfl) ?_
          refine pw_ci w (pw_runS (As := [.int (zI ((fun j => (gr j : Int)) i)), .int (zI (x : Int)), .int (zI (y : Int))]) (rest := []) w ⟨hx, hb, hml, hown, hts⟩ (c_X2_soundOf l D G ad N c (g := gr i) (x := x) (y := y) hgi) (va_cwS 3 hts gX2_costBetween_X2_soundOf rfl rfl rfl (by decide +kernel) ⟨Nat.le_of_ble_eq_true rfl, Nat.le_of_ble_eq_true rfl⟩) rfl hl.1 rfl (lv_room (Nat.le_of_ble_eq_true rfl)) dX2_costBetween_41 ⟨Nat.le_of_ble_eq_true rfl, Nat.le_of_ble_eq_true rfl⟩) (fun r_ u H locs hp w => ?_)
          obtain ⟨hv, hu⟩ := hp
          subst hv
          have w : PW D G A s ad N c H locs := by rw [hu] at w; exact w
          clear hu
          refine lv_istore (lv' := [(8, .int (zI (snd (gr i) x y : Int))), (0, .ref (ad o)), (1, .ref (ad 1)), (2, .int (zI (x : Int))), (3, .int (zI (mm : Int))), (4, .int (zI (y : Int))), (5, .int (zI (orS lim gr x y i))), (6, .int (zI (orF gr x y i : Int))), (7, .int (zI (i : Int)))]) hx hb dX2_costBetween_44 hl (by decide) rfl (fun ls hl => ?_)
          refine lv_iload hx hb dX2_costBetween_46 (lv_at hl 6 rfl) ?_
          refine lv_aload_n hx hb dX2_costBetween_48 rfl (lv_at hl 2 rfl) ?_
          refine lv_iload hx hb dX2_costBetween_49 (lv_at hl 7 rfl) ?_
          refine lv_iload hx hb dX2_costBetween_51 (lv_at hl 0 rfl) ?_
          refine pw_ci w (pw_runV (r := 1) (ci := 0) (As := [.int (zI (orF gr x y i : Int)), .int (zI (snd (gr i) x y : Int))]) (rest := [.int (zI (orS lim gr x y i))]) w ⟨hx, hb, hml, hown, hts⟩ (c_X0_stepCost l D G ad N c hN hF (x := orF gr x y i) (y := snd (gr i) x y) hf hsn) (cwV 2 hts gX2_costBetween_X0_stepCost rfl rfl rfl (by decide +kernel) ⟨Nat.le_of_ble_eq_true rfl, Nat.le_of_ble_eq_true rfl⟩) (by omega) hF.1 rfl rfl hl.1 rfl (lv_room (Nat.le_of_ble_eq_true rfl)) dX2_costBetween_53 ⟨Nat.le_of_ble_eq_true rfl, Nat.le_of_ble_eq_true rfl⟩) (fun r_ u H locs hp w => ?_)
          obtain ⟨hv, hu⟩ := hp
          subst hv
          have w : PW D G A s ad N c H locs := by rw [hu] at w; exact w
          clear hu
          refine pz_iadd hx hb dX2_costBetween_56 ?_
          refine pz_top (b := orS lim gr x y (i + 1)) (rfl) ?_
          refine lv_istore (lv' := [(5, .int (zI (orS lim gr x y (i + 1)))), (8, .int (zI (snd (gr i) x y : Int))), (0, .ref (ad o)), (1, .ref (ad 1)), (2, .int (zI (x : Int))), (3, .int (zI (mm : Int))), (4, .int (zI (y : Int))), (6, .int (zI (orF gr x y i : Int))), (7, .int (zI (i : Int)))]) hx hb dX2_costBetween_57 hl (by decide) rfl (fun ls hl => ?_)
          refine lv_iload hx hb dX2_costBetween_59 (lv_at hl 1 rfl) ?_
          refine lv_istore (lv' := [(6, .int (zI (snd (gr i) x y : Int))), (5, .int (zI (orS lim gr x y (i + 1)))), (8, .int (zI (snd (gr i) x y : Int))), (0, .ref (ad o)), (1, .ref (ad 1)), (2, .int (zI (x : Int))), (3, .int (zI (mm : Int))), (4, .int (zI (y : Int))), (7, .int (zI (i : Int)))]) hx hb dX2_costBetween_61 hl (by decide) rfl (fun ls hl => ?_)
          refine pz_iinc (lv' := [(7, .int (zI ((i + 1 : Nat) : Int))), (6, .int (zI (snd (gr i) x y : Int))), (5, .int (zI (orS lim gr x y (i + 1)))), (8, .int (zI (snd (gr i) x y : Int))), (0, .ref (ad o)), (1, .ref (ad 1)), (2, .int (zI (x : Int))), (3, .int (zI (mm : Int))), (4, .int (zI (y : Int)))]) hx hb dX2_costBetween_63 hl (j := 8) rfl ((i + 1 : Nat) : Int) (by omega) (by decide) rfl (fun ls hl => ?_)
          refine lv_goto (tgt := 21) hx hb dX2_costBetween_66 (by decide) ?_
          exact ih (i + 1) H locs ls (by omega) (by omega) w (lv_sub hl [4, 5, 6, 7, 8, 2, 1, 0] rfl)
    exact lp (n + 1) 0 H locs ls (by omega) (by omega) w (lv_sub hl [3, 4, 5, 6, 7, 2, 1, 0] rfl)
  · refine lv_ldc hx hb hown (hts _ wd_X2_costBetween_k15) dX2_costBetween_9 (pz_topI (y := zI (1000000)) (by decide +kernel) ?_)
    exact fin (ad, N, c) c _ _ _ _ _ _ _ rfl ⟨by unfold orC; rw [if_pos (by omega)], rfl⟩ w dX2_costBetween_11 (Nat.le_refl _) (Nat.le_refl _)

/-- the book of ornaments: no of them, with gn k grace notes gg k; the draft's dn first grace notes dg -/
def Book (G : Nat → ClassId) (ad : Nat → Nat) (c : Nat → va_E) (no dn : Nat) (gn : Nat → Nat) (gg : Nat → Nat → Nat) (dg : Nat → Nat) : Prop :=
  c 12 = .inr (3, [.ref (ad 13), .ref (ad 14), .int (zI (no : Int)), .int (zI (dn : Int))]) ∧ (∃ f : Nat → Option Nat, c 13 = rfs 4 G 8 f ∧ ∀ k, k < 8 → f k = if k < no then some (ad (120 + 2 * k)) else none) ∧
  isA 0 G (c 14) 4 (fun j => (dg j : Int)) ∧ ∀ k, k < no → c (120 + 2 * k) = .inr (2, [.ref (ad (120 + 2 * k + 1))]) ∧ isA 0 G (c (120 + 2 * k + 1)) (gn k) (fun j => (gg k j : Int))
def BookV (no dn : Nat) (gn : Nat → Nat) (gg : Nat → Nat → Nat) (dg : Nat → Nat) : Prop := no ≤ 8 ∧ (∀ k, k < no → 1 ≤ gn k ∧ gn k ≤ 4 ∧ ∀ j, j < gn k → gg k j ≤ 10) ∧ dn ≤ 4 ∧ ∀ j, j < dn → dg j ≤ 10
theorem BookV.g {no dn : Nat} {gn : Nat → Nat} {gg : Nat → Nat → Nat} {dg : Nat → Nat} (h : BookV no dn gn gg dg) : ∀ j, j < no → gn j ≤ 4 ∧ ∀ i, i < gn j → gg j i ≤ 10 := fun j hj => ⟨(h.2.1 j hj).2.1, (h.2.1 j hj).2.2⟩
theorem Book.fr {G : Nat → ClassId} {ad : Nat → Nat} {c c1 : Nat → va_E} {no dn : Nat} {gn : Nat → Nat} {gg : Nat → Nat → Nat} {dg : Nat → Nat} (h : Book G ad c no dn gn gg dg) (hf : ∀ q, (12 ≤ q ∧ q < 15) ∨ 120 ≤ q → c1 q = c q) : Book G ad c1 no dn gn gg dg := by
  obtain ⟨h1, ⟨f, h2, h3⟩, h4, h5⟩ := h
  exact ⟨(hf 12 (by omega)).trans h1, ⟨f, (hf 13 (by omega)).trans h2, h3⟩, isA.fr (hf 14 (by omega)) h4, fun k hk => ⟨(hf _ (by omega)).trans (h5 k hk).1, isA.fr (hf _ (by omega)) (h5 k hk).2⟩⟩

theorem hin_X3_size_3 : ∀ w ∈ u_ws RX3 TX3 4, w ∈ wsX3_size := by decide +kernel
theorem fl_X3_size_21 : Cond.fieldLink RX3 21 "PipersDesk$OrnamentBook" "size" "I" ∈ wsX3_size := by decide +kernel
abbrev rm_X3_size : Room := { frames := 0, cells := 0, slots := 0, locals := 0 }
set_option maxHeartbeats 4000000 in
set_option maxRecDepth 100000 in
/-- OrnamentBook.size -/
theorem c_X3_size (l : Launch) (D : va_G) (G : Nat → ClassId) (ad : Nat → Nat) (N : Nat) (c : Nat → va_E) {no dn : Nat} {gn : Nat → Nat} {gg : Nat → Nat → Nat} {dg : Nat → Nat} (hN : 120 + 2 * no ≤ N) (hB : Book G ad c no dn gn gg dg) (hV : BookV no dn gn gg dg) : MC l yX3_size wsX3_size rm_X3_size [.ref (ad 12)] D G ad N c (qI D G (fx ad N) (fun v c1 => v = zI (no : Int) ∧ c1 = c)) 0 0 := by
  refine MCi.of (cc := cX3_size) (maxL := 1) (by decide) rfl (Nat.le_of_ble_eq_true rfl) ?_
  intro p e s m args below meth kc A Q hx hb hts hown hml fin H locs w ls hl
  have hown : s.vm.findClass RX3 = some m.cls := hown
  have hl : lv_has ls 1 [(0, .ref (ad 12))] := hl
  obtain ⟨b1, ⟨fe, b2, b3⟩, b4, b5⟩ := id hB
  obtain ⟨v1, v2, v3, v4⟩ := id hV
  refine lv_aload_n hx hb dX3_size_0 rfl (lv_at hl 0 rfl) ?_
  refine pw_get (r := 12) (ci := 3) (C := RX3) (T := TX3) (Nf := 4) hx hb w hts hin_X3_size_3 hown (by omega) b1 rfl 2 (by decide) (hts _ fl_X3_size_21) (fun _ h9 => h9) rfl dX3_size_1 ?_
  exact fin (ad, N, c) c _ _ _ _ _ _ _ rfl ⟨rfl, rfl⟩ w dX3_size_4 (Nat.le_refl _) (Nat.le_refl _)

theorem hin_X3_isFull_3 : ∀ w ∈ u_ws RX3 TX3 4, w ∈ wsX3_isFull := by decide +kernel
theorem fl_X3_isFull_21 : Cond.fieldLink RX3 21 "PipersDesk$OrnamentBook" "size" "I" ∈ wsX3_isFull := by decide +kernel
abbrev rm_X3_isFull : Room := { frames := 0, cells := 0, slots := 0, locals := 0 }
set_option maxHeartbeats 4000000 in
set_option maxRecDepth 100000 in
/-- OrnamentBook.isFull -/
theorem c_X3_isFull (l : Launch) (D : va_G) (G : Nat → ClassId) (ad : Nat → Nat) (N : Nat) (c : Nat → va_E) {no dn : Nat} {gn : Nat → Nat} {gg : Nat → Nat → Nat} {dg : Nat → Nat} (hN : 120 + 2 * no ≤ N) (hB : Book G ad c no dn gn gg dg) (hV : BookV no dn gn gg dg) : MC l yX3_isFull wsX3_isFull rm_X3_isFull [.ref (ad 12)] D G ad N c (qI D G (fx ad N) (fun v c1 => v = zI (if 8 ≤ no then 1 else 0) ∧ c1 = c)) 0 0 := by
  refine MCz.of (cc := cX3_isFull) (maxL := 1) (by decide) rfl (Nat.le_of_ble_eq_true rfl) ?_
  intro p e s m args below meth kc A Q hx hb hts hown hml fin H locs w ls hl
  have hown : s.vm.findClass RX3 = some m.cls := hown
  have hl : lv_has ls 1 [(0, .ref (ad 12))] := hl
  obtain ⟨b1, ⟨fe, b2, b3⟩, b4, b5⟩ := id hB
  obtain ⟨v1, v2, v3, v4⟩ := id hV
  refine lv_aload_n hx hb dX3_isFull_0 rfl (lv_at hl 0 rfl) ?_
  refine pw_get (r := 12) (ci := 3) (C := RX3) (T := TX3) (Nf := 4) hx hb w hts hin_X3_isFull_3 hown (by omega) b1 rfl 2 (by decide) (hts _ fl_X3_isFull_21) (fun _ h9 => h9) rfl dX3_isFull_1 ?_
  refine lv_bipush (v := zI (8)) hx hb dX3_isFull_4 (by decide +kernel) ?_
  refine pz_icmplt (tgt := 13) hx hb dX3_isFull_6 (by decide) (⟨by omega, by omega⟩) (⟨by omega, by omega⟩) (fun h => ?_) (fun h => ?_)
  · refine lv_iconst (v := zI (0)) hx hb dX3_isFull_13 rfl ?_
    exact fin (ad, N, c) c _ _ _ _ _ _ _ rfl (Or.inl rfl) ⟨by rw [if_neg (by omega)], rfl⟩ w dX3_isFull_14 (Nat.le_refl _) (Nat.le_refl _)
  · refine lv_iconst (v := zI (1)) hx hb dX3_isFull_9 rfl ?_
    refine lv_goto (tgt := 14) hx hb dX3_isFull_10 (by decide) ?_
    exact fin (ad, N, c) c _ _ _ _ _ _ _ rfl (Or.inr rfl) ⟨by rw [if_pos (by omega)], rfl⟩ w dX3_isFull_14 (Nat.le_refl _) (Nat.le_refl _)

theorem hin_X3_isDraftEmpty_3 : ∀ w ∈ u_ws RX3 TX3 4, w ∈ wsX3_isDraftEmpty := by decide +kernel
theorem fl_X3_isDraftEmpty_25 : Cond.fieldLink RX3 25 "PipersDesk$OrnamentBook" "draftSize" "I" ∈ wsX3_isDraftEmpty := by decide +kernel
abbrev rm_X3_isDraftEmpty : Room := { frames := 0, cells := 0, slots := 0, locals := 0 }
set_option maxHeartbeats 4000000 in
set_option maxRecDepth 100000 in
/-- OrnamentBook.isDraftEmpty -/
theorem c_X3_isDraftEmpty (l : Launch) (D : va_G) (G : Nat → ClassId) (ad : Nat → Nat) (N : Nat) (c : Nat → va_E) {no dn : Nat} {gn : Nat → Nat} {gg : Nat → Nat → Nat} {dg : Nat → Nat} (hN : 120 + 2 * no ≤ N) (hB : Book G ad c no dn gn gg dg) (hV : BookV no dn gn gg dg) : MC l yX3_isDraftEmpty wsX3_isDraftEmpty rm_X3_isDraftEmpty [.ref (ad 12)] D G ad N c (qI D G (fx ad N) (fun v c1 => v = zI (if dn = 0 then 1 else 0) ∧ c1 = c)) 0 0 := by
  refine MCz.of (cc := cX3_isDraftEmpty) (maxL := 1) (by decide) rfl (Nat.le_of_ble_eq_true rfl) ?_
  intro p e s m args below meth kc A Q hx hb hts hown hml fin H locs w ls hl
  have hown : s.vm.findClass RX3 = some m.cls := hown
  have hl : lv_has ls 1 [(0, .ref (ad 12))] := hl
  obtain ⟨b1, ⟨fe, b2, b3⟩, b4, b5⟩ := id hB
  obtain ⟨v1, v2, v3, v4⟩ := id hV
  refine lv_aload_n hx hb dX3_isDraftEmpty_0 rfl (lv_at hl 0 rfl) ?_
  refine pw_get (r := 12) (ci := 3) (C := RX3) (T := TX3) (Nf := 4) hx hb w hts hin_X3_isDraftEmpty_3 hown (by omega) b1 rfl 3 (by decide) (hts _ fl_X3_isDraftEmpty_25) (fun _ h9 => h9) rfl dX3_isDraftEmpty_1 ?_
  refine pz_ifne (tgt := 11) hx hb dX3_isDraftEmpty_4 (by decide) (⟨by omega, by omega⟩) (fun h => ?_) (fun h => ?_)
  · refine lv_iconst (v := zI (0)) hx hb dX3_isDraftEmpty_11 rfl ?_
    exact fin (ad, N, c) c _ _ _ _ _ _ _ rfl (Or.inl rfl) ⟨by rw [if_neg (by omega)], rfl⟩ w dX3_isDraftEmpty_12 (Nat.le_refl _) (Nat.le_refl _)
  · refine lv_iconst (v := zI (1)) hx hb dX3_isDraftEmpty_7 rfl ?_
    refine lv_goto (tgt := 12) hx hb dX3_isDraftEmpty_8 (by decide) ?_
    exact fin (ad, N, c) c _ _ _ _ _ _ _ rfl (Or.inr rfl) ⟨by rw [if_pos (by omega)], rfl⟩ w dX3_isDraftEmpty_12 (Nat.le_refl _) (Nat.le_refl _)

theorem hin_X3_isDraftFull_3 : ∀ w ∈ u_ws RX3 TX3 4, w ∈ wsX3_isDraftFull := by decide +kernel
theorem fl_X3_isDraftFull_25 : Cond.fieldLink RX3 25 "PipersDesk$OrnamentBook" "draftSize" "I" ∈ wsX3_isDraftFull := by decide +kernel
abbrev rm_X3_isDraftFull : Room := { frames := 0, cells := 0, slots := 0, locals := 0 }
set_option maxHeartbeats 4000000 in
set_option maxRecDepth 100000 in
/-- OrnamentBook.isDraftFull -/
theorem c_X3_isDraftFull (l : Launch) (D : va_G) (G : Nat → ClassId) (ad : Nat → Nat) (N : Nat) (c : Nat → va_E) {no dn : Nat} {gn : Nat → Nat} {gg : Nat → Nat → Nat} {dg : Nat → Nat} (hN : 120 + 2 * no ≤ N) (hB : Book G ad c no dn gn gg dg) (hV : BookV no dn gn gg dg) : MC l yX3_isDraftFull wsX3_isDraftFull rm_X3_isDraftFull [.ref (ad 12)] D G ad N c (qI D G (fx ad N) (fun v c1 => v = zI (if 4 ≤ dn then 1 else 0) ∧ c1 = c)) 0 0 := by
  refine MCz.of (cc := cX3_isDraftFull) (maxL := 1) (by decide) rfl (Nat.le_of_ble_eq_true rfl) ?_
  intro p e s m args below meth kc A Q hx hb hts hown hml fin H locs w ls hl
  have hown : s.vm.findClass RX3 = some m.cls := hown
  have hl : lv_has ls 1 [(0, .ref (ad 12))] := hl
  obtain ⟨b1, ⟨fe, b2, b3⟩, b4, b5⟩ := id hB
  obtain ⟨v1, v2, v3, v4⟩ := id hV
  refine lv_aload_n hx hb dX3_isDraftFull_0 rfl (lv_at hl 0 rfl) ?_
  refine pw_get (r := 12) (ci := 3) (C := RX3) (T := TX3) (Nf := 4) hx hb w hts hin_X3_isDraftFull_3 hown (by omega) b1 rfl 3 (by decide) (hts _ fl_X3_isDraftFull_25) (fun _ h9 => h9) rfl dX3_isDraftFull_1 ?_
  refine lv_iconst (v := zI (4)) hx hb dX3_isDraftFull_4 rfl ?_
  refine pz_icmplt (tgt := 12) hx hb dX3_isDraftFull_5 (by decide) (⟨by omega, by omega⟩) (⟨by omega, by omega⟩) (fun h => ?_) (fun h => ?_)
  · refine lv_iconst (v := zI (0)) hx hb dX3_isDraftFull_12 rfl ?_
    exact fin (ad, N, c) c _ _ _ _ _ _ _ rfl (Or.inl rfl) ⟨by rw [if_neg (by omega)], rfl⟩ w dX3_isDraftFull_13 (Nat.le_refl _) (Nat.le_refl _)
  · refine lv_iconst (v := zI (1)) hx hb dX3_isDraftFull_8 rfl ?_
    refine lv_goto (tgt := 13) hx hb dX3_isDraftFull_9 (by decide) ?_
    exact fin (ad, N, c) c _ _ _ _ _ _ _ rfl (Or.inr rfl) ⟨by rw [if_pos (by omega)], rfl⟩ w dX3_isDraftFull_13 (Nat.le_refl _) (Nat.le_refl _)

theorem hin_X3_addToDraft_3 : ∀ w ∈ u_ws RX3 TX3 4, w ∈ wsX3_addToDraft := by decide +kernel
theorem fl_X3_addToDraft_17 : Cond.fieldLink RX3 17 "PipersDesk$OrnamentBook" "draft" "[I" ∈ wsX3_addToDraft := by decide +kernel
theorem fl_X3_addToDraft_25 : Cond.fieldLink RX3 25 "PipersDesk$OrnamentBook" "draftSize" "I" ∈ wsX3_addToDraft := by decide +kernel
abbrev rm_X3_addToDraft : Room := { frames := 0, cells := 0, slots := 0, locals := 0 }
set_option maxHeartbeats 4000000 in
set_option maxRecDepth 100000 in
/-- OrnamentBook.addToDraft -/
theorem c_X3_addToDraft (l : Launch) (D : va_G) (G : Nat → ClassId) (ad : Nat → Nat) (N : Nat) (c : Nat → va_E) {no dn : Nat} {gn : Nat → Nat} {gg : Nat → Nat → Nat} {dg : Nat → Nat} (hN : 120 + 2 * no ≤ N) (hB : Book G ad c no dn gn gg dg) (hV : BookV no dn gn gg dg) {g : Nat} (hd : dn < 4) (hg : g ≤ 10) : MC l yX3_addToDraft wsX3_addToDraft rm_X3_addToDraft [.ref (ad 12), .int (zI (g : Int))] D G ad N c (qI D G (fx ad N) (fun v c1 => v = zI ((dn + 1 : Nat) : Int) ∧ Book G ad c1 no (dn + 1) gn gg (fun j => if j = dn then g else dg j) ∧ ∀ q, (q < 12 ∨ (14 < q ∧ q < 120)) → c1 q = c q)) 0 0 := by
  refine MCi.of (cc := cX3_addToDraft) (maxL := 2) (by decide) rfl (Nat.le_of_ble_eq_true rfl) ?_
  intro p e s m args below meth kc A Q hx hb hts hown hml fin H locs w ls hl
  have hown : s.vm.findClass RX3 = some m.cls := hown
  have hl : lv_has ls 2 [(0, .ref (ad 12)), (1, .int (zI (g : Int)))] := hl
  obtain ⟨b1, ⟨fe, b2, b3⟩, b4, b5⟩ := id hB
  obtain ⟨v1, v2, v3, v4⟩ := id hV
  refine lv_aload_n hx hb dX3_addToDraft_0 rfl (lv_at hl 0 rfl) ?_
  refine pw_get (r := 12) (ci := 3) (C := RX3) (T := TX3) (Nf := 4) hx hb w hts hin_X3_addToDraft_3 hown (by omega) b1 rfl 1 (by decide) (hts _ fl_X3_addToDraft_17) (fun _ h9 => h9) rfl dX3_addToDraft_1 ?_
  refine lv_aload_n hx hb dX3_addToDraft_4 rfl (lv_at hl 0 rfl) ?_
  refine pw_get (r := 12) (ci := 3) (C := RX3) (T := TX3) (Nf := 4) hx hb w hts hin_X3_addToDraft_3 hown (by omega) b1 rfl 3 (by decide) (hts _ fl_X3_addToDraft_25) (fun _ h9 => h9) rfl dX3_addToDraft_5 ?_
  refine lv_iload_n hx hb dX3_addToDraft_8 rfl (lv_at hl 1 rfl) ?_
  refine pw_iast' (r := 14) (j := dn) hx hb w (by omega) b4 (by omega) (by omega) (by decide) dX3_addToDraft_9 (fun H locs c1 hc1 fr1 w => ?_)
  refine lv_aload_n hx hb dX3_addToDraft_10 rfl (lv_at hl 0 rfl) ?_
  refine lv_dup hx hb dX3_addToDraft_11 rfl ?_
  refine pw_get (r := 12) (ci := 3) (C := RX3) (T := TX3) (Nf := 4) hx hb w hts hin_X3_addToDraft_3 hown (by omega) ((fr1 12 (by omega)).trans b1) rfl 3 (by decide) (hts _ fl_X3_addToDraft_25) (fun _ h9 => h9) rfl dX3_addToDraft_12 ?_
  refine lv_iconst (v := zI (1)) hx hb dX3_addToDraft_15 rfl ?_
  refine pz_iadd hx hb dX3_addToDraft_16 ?_
  refine pw_put' (r := 12) (ci := 3) (C := RX3) (T := TX3) (Nf := 4) hx hb w hts hin_X3_addToDraft_3 tyX3 tyX3_ok nmX3 hown (by omega) ((fr1 12 (by omega)).trans b1) rfl 3 (by decide) (hts _ fl_X3_addToDraft_25) (fun _ h9 => h9) rfl (ty := .int) (by decide +kernel) rfl rfl (Nat.le_of_ble_eq_true rfl) dX3_addToDraft_17 (fun H locs c2 hc2 fr2 w => ?_)
  refine lv_aload_n hx hb dX3_addToDraft_20 rfl (lv_at hl 0 rfl) ?_
  refine pw_get (r := 12) (ci := 3) (C := RX3) (T := TX3) (Nf := 4) hx hb w hts hin_X3_addToDraft_3 hown (by omega) hc2 rfl 3 (by decide) (hts _ fl_X3_addToDraft_25) (fun _ h9 => h9) rfl dX3_addToDraft_21 ?_
  have hB1 : Book G ad c2 no (dn + 1) gn gg (fun j => if j = dn then g else dg j) := ⟨by rw [show ((dn + 1 : Nat) : Int) = (dn : Int) + 1 from by omega]; exact hc2, ⟨fe, ((fr2 13 (by omega)).trans ((fr1 13 (by omega)).trans b2)), b3⟩, (isA.fr (fr2 14 (by omega)) hc1).to (fun j hj => by unfold upI; by_cases h : j = dn <;> simp [h]), fun k hk => ⟨((fr2 (120 + 2 * k) (by omega)).trans ((fr1 (120 + 2 * k) (by omega)).trans (b5 k hk).1)), (isA.fr (fr2 (120 + 2 * k + 1) (by omega)) (isA.fr (fr1 (120 + 2 * k + 1) (by omega)) (b5 k hk).2))⟩⟩
  exact fin (ad, N, c2) c2 _ _ _ _ _ _ _ rfl ⟨by rw [show ((dn + 1 : Nat) : Int) = (dn : Int) + 1 from by omega], hB1, fun q hq => ((fr2 q (by omega)).trans ((fr1 q (by omega)).trans rfl))⟩ w dX3_addToDraft_24 (Nat.le_refl _) (Nat.le_refl _)

theorem hin_X3_costOf_3 : ∀ w ∈ u_ws RX3 TX3 4, w ∈ wsX3_costOf := by decide +kernel
theorem fl_X3_costOf_11 : Cond.fieldLink RX3 11 "PipersDesk$OrnamentBook" "entries" "[LPipersDesk$Ornament;" ∈ wsX3_costOf := by decide +kernel
theorem wd_X3_costOf_k37 : Cond.constant RX3 37 (1000000) ∈ wsX3_costOf := by decide +kernel
abbrev rm_X3_costOf : Room := { frames := 2, cells := 0, slots := 0, locals := 60 }
set_option maxHeartbeats 4000000 in
set_option maxRecDepth 100000 in
/-- OrnamentBook.costOf -/
theorem c_X3_costOf (l : Launch) (D : va_G) (G : Nat → ClassId) (ad : Nat → Nat) (N : Nat) (c : Nat → va_E) {no dn : Nat} {gn : Nat → Nat} {gg : Nat → Nat → Nat} {dg : Nat → Nat} (hN : 120 + 2 * no ≤ N) (hB : Book G ad c no dn gn gg dg) (hV : BookV no dn gn gg dg) {lim : Int} {x y mm k : Nat} (hF : Fing G ad c lim) (hx9 : x < 9) (hy9 : y < 9) (hmm : mm ≤ 32) (hk8 : k < 8) : MC l yX3_costOf wsX3_costOf rm_X3_costOf [.ref (ad 12), .int (zI (k : Int)), .ref (ad 1), .int (zI (x : Int)), .int (zI (mm : Int)), .int (zI (y : Int))] D G ad N c (qI D G (fx ad N) (fun v c1 => v = zI (gapC lim no gn gg x mm y 0 (k + 1)) ∧ c1 = c)) 0 0 := by
  refine MCi.of (cc := cX3_costOf) (maxL := 7) (by decide) rfl (Nat.le_of_ble_eq_true rfl) ?_
  intro p e s m args below meth kc A Q hx hb hts hown hml fin H locs w ls hl
  have hown : s.vm.findClass RX3 = some m.cls := hown
  have hl : lv_has ls 7 [(0, .ref (ad 12)), (1, .int (zI (k : Int))), (2, .ref (ad 1)), (3, .int (zI (x : Int))), (4, .int (zI (mm : Int))), (5, .int (zI (y : Int)))] := hl
  obtain ⟨b1, ⟨fe, b2, b3⟩, b4, b5⟩ := id hB
  obtain ⟨v1, v2, v3, v4⟩ := id hV
  by_cases hk : k < no
  · refine lv_aload_n hx hb dX3_costOf_0 rfl (lv_at hl 0 rfl) ?_
    refine pw_get (r := 12) (ci := 3) (C := RX3) (T := TX3) (Nf := 4) hx hb w hts hin_X3_costOf_3 hown (by omega) b1 rfl 0 (by decide) (hts _ fl_X3_costOf_11) (fun _ h9 => h9) rfl dX3_costOf_1 ?_
    refine lv_iload_n hx hb dX3_costOf_4 rfl (lv_at hl 1 rfl) ?_
    refine pw_aaldR (r := 13) (j := k) hx hb w (by omega) b2 rfl rfl (by omega) (by omega) (by decide) (120 + 2 * k) (by rw [b3 k (by omega), if_pos hk]) dX3_costOf_5 ?_
    refine lv_astore (lv' := [(6, .ref (ad (120 + 2 * k))), (0, .ref (ad 12)), (1, .int (zI (k : Int))), (2, .ref (ad 1)), (3, .int (zI (x : Int))), (4, .int (zI (mm : Int))), (5, .int (zI (y : Int)))]) hx hb dX3_costOf_6 hl (by decide) rfl (fun ls hl => ?_)
    refine lv_aload hx hb dX3_costOf_8 (lv_at hl 0 rfl) ?_
    refine lv_ifnonnull (tgt := 18) hx hb dX3_costOf_10 (by decide) ?_
    refine lv_aload hx hb dX3_costOf_18 (lv_at hl 0 rfl) ?_
    refine lv_aload_n hx hb dX3_costOf_20 rfl (lv_at hl 3 rfl) ?_
    refine lv_iload_n hx hb dX3_costOf_21 rfl (lv_at hl 4 rfl) ?_
    refine lv_iload hx hb dX3_costOf_22 (lv_at hl 5 rfl) ?_
    refine lv_iload hx hb dX3_costOf_24 (lv_at hl 6 rfl) ?_
    refine pw_ci w (pw_runV (r := (120 + 2 * k)) (ci := 2) (As := [.ref (ad 1), .int (zI (x : Int)), .int (zI (mm : Int)), .int (zI (y : Int))]) (rest := []) w ⟨hx, hb, hml, hown, hts⟩ (c_X2_costBetween l D G ad N c (o := 120 + 2 * k) (n := gn k) (gr := gg k) (x := x) (y := y) (mm := mm) (by omega) (b5 k hk).1 (b5 k hk).2 (v2 k hk).2.1 (by omega) hF (v2 k hk).2.2 hx9 hy9 hmm) (cwV 4 hts gX3_costOf_X2_costBetween rfl rfl rfl (by decide +kernel) ⟨Nat.le_of_ble_eq_true rfl, Nat.le_of_ble_eq_true rfl⟩) (by omega) (b5 k hk).1 rfl rfl hl.1 rfl (lv_room (Nat.le_of_ble_eq_true rfl)) dX3_costOf_26 ⟨Nat.le_of_ble_eq_true rfl, Nat.le_of_ble_eq_true rfl⟩) (fun r_ u H locs hp w => ?_)
    obtain ⟨hv, hu⟩ := hp
    subst hv
    have w : PW D G A s ad N c H locs := by rw [hu] at w; exact w
    clear hu
    exact fin (ad, N, c) c _ _ _ _ _ _ _ rfl ⟨by unfold gapC; rw [if_neg (by omega), show k + 1 - 1 = k from by omega, if_pos hk], rfl⟩ w dX3_costOf_29 (Nat.le_refl _) (Nat.le_refl _)
  · refine lv_aload_n hx hb dX3_costOf_0 rfl (lv_at hl 0 rfl) ?_
    refine pw_get (r := 12) (ci := 3) (C := RX3) (T := TX3) (Nf := 4) hx hb w hts hin_X3_costOf_3 hown (by omega) b1 rfl 0 (by decide) (hts _ fl_X3_costOf_11) (fun _ h9 => h9) rfl dX3_costOf_1 ?_
    refine lv_iload_n hx hb dX3_costOf_4 rfl (lv_at hl 1 rfl) ?_
    refine pw_aaldN (r := 13) (j := k) hx hb w (by omega) b2 rfl rfl (by omega) (by omega) (by decide) (by rw [b3 k (by omega), if_neg hk]) dX3_costOf_5 ?_
    refine lv_astoreN (lv' := [(6, .null), (0, .ref (ad 12)), (1, .int (zI (k : Int))), (2, .ref (ad 1)), (3, .int (zI (x : Int))), (4, .int (zI (mm : Int))), (5, .int (zI (y : Int)))]) hx hb dX3_costOf_6 hl (by decide) rfl (fun ls hl => ?_)
    refine lv_aloadN hx hb dX3_costOf_8 (lv_at hl 0 rfl) ?_
    refine lv_ifnonnullN hx hb dX3_costOf_10 ?_
    refine lv_ldc hx hb hown (hts _ wd_X3_costOf_k37) dX3_costOf_13 (pz_topI (y := zI (1000000)) (by decide +kernel) ?_)
    refine lv_goto (tgt := 29) hx hb dX3_costOf_15 (by decide) ?_
    exact fin (ad, N, c) c _ _ _ _ _ _ _ rfl ⟨by unfold gapC; rw [if_neg (by omega), if_neg (by omega)], rfl⟩ w dX3_costOf_29 (Nat.le_refl _) (Nat.le_refl _)

/-- how many grace notes an option has -/
def graN (no : Nat) (gn : Nat → Nat) (o : Nat) : Nat := if o = 0 then 0 else if o - 1 < no then gn (o - 1) else 0

theorem hin_X3_gracesOf_3 : ∀ w ∈ u_ws RX3 TX3 4, w ∈ wsX3_gracesOf := by decide +kernel
theorem fl_X3_gracesOf_11 : Cond.fieldLink RX3 11 "PipersDesk$OrnamentBook" "entries" "[LPipersDesk$Ornament;" ∈ wsX3_gracesOf := by decide +kernel
abbrev rm_X3_gracesOf : Room := { frames := 1, cells := 0, slots := 0, locals := 30 }
set_option maxHeartbeats 4000000 in
set_option maxRecDepth 100000 in
/-- OrnamentBook.gracesOf -/
theorem c_X3_gracesOf (l : Launch) (D : va_G) (G : Nat → ClassId) (ad : Nat → Nat) (N : Nat) (c : Nat → va_E) {no dn : Nat} {gn : Nat → Nat} {gg : Nat → Nat → Nat} {dg : Nat → Nat} (hN : 120 + 2 * no ≤ N) (hB : Book G ad c no dn gn gg dg) (hV : BookV no dn gn gg dg) {o : Nat} (ho : o < 9) : MC l yX3_gracesOf wsX3_gracesOf rm_X3_gracesOf [.ref (ad 12), .int (zI (o : Int))] D G ad N c (qI D G (fx ad N) (fun v c1 => v = zI (graN no gn o : Int) ∧ c1 = c)) 0 0 := by
  refine MCi.of (cc := cX3_gracesOf) (maxL := 3) (by decide) rfl (Nat.le_of_ble_eq_true rfl) ?_
  intro p e s m args below meth kc A Q hx hb hts hown hml fin H locs w ls hl
  have hown : s.vm.findClass RX3 = some m.cls := hown
  have hl : lv_has ls 3 [(0, .ref (ad 12)), (1, .int (zI (o : Int)))] := hl
  obtain ⟨b1, ⟨fe, b2, b3⟩, b4, b5⟩ := id hB
  obtain ⟨v1, v2, v3, v4⟩ := id hV
  refine lv_iload_n hx hb dX3_gracesOf_0 rfl (lv_at hl 1 rfl) ?_
  refine pz_ifne (tgt := 6) hx hb dX3_gracesOf_1 (by decide) (⟨by omega, by omega⟩) (fun h0 => ?_) (fun h0 => ?_)
  · by_cases hk : o - 1 < no
    · refine lv_aload_n hx hb dX3_gracesOf_6 rfl (lv_at hl 0 rfl) ?_
      refine pw_get (r := 12) (ci := 3) (C := RX3) (T := TX3) (Nf := 4) hx hb w hts hin_X3_gracesOf_3 hown (by omega) b1 rfl 0 (by decide) (hts _ fl_X3_gracesOf_11) (fun _ h9 => h9) rfl dX3_gracesOf_7 ?_
      refine lv_iload_n hx hb dX3_gracesOf_10 rfl (lv_at hl 1 rfl) ?_
      refine lv_iconst (v := zI (1)) hx hb dX3_gracesOf_11 rfl ?_
      refine pz_isub hx hb dX3_gracesOf_12 ?_
      refine pw_aaldR (r := 13) (j := (o - 1)) hx hb w (by omega) b2 rfl rfl (by omega) (by omega) (by decide) (120 + 2 * (o - 1)) (by rw [b3 _ (by omega), if_pos hk]) dX3_gracesOf_13 ?_
      refine lv_astore_n (lv' := [(2, .ref (ad (120 + 2 * (o - 1)))), (0, .ref (ad 12)), (1, .int (zI (o : Int)))]) hx hb dX3_gracesOf_14 rfl hl (by decide) rfl (fun ls hl => ?_)
      refine lv_aload_n hx hb dX3_gracesOf_15 rfl (lv_at hl 0 rfl) ?_
      refine lv_ifnonnull (tgt := 23) hx hb dX3_gracesOf_16 (by decide) ?_
      refine lv_aload_n hx hb dX3_gracesOf_23 rfl (lv_at hl 0 rfl) ?_
      refine pw_ci w (pw_runV (r := (120 + 2 * (o - 1))) (ci := 2) (As := []) (rest := []) w ⟨hx, hb, hml, hown, hts⟩ (c_X2_size l D G ad N c (o := 120 + 2 * (o - 1)) (n := gn (o - 1)) (gr := gg (o - 1)) (by omega) (b5 _ hk).1 (b5 _ hk).2 (v2 _ hk).2.1) (cwV 0 hts gX3_gracesOf_X2_size rfl rfl rfl (by decide +kernel) ⟨Nat.le_of_ble_eq_true rfl, Nat.le_of_ble_eq_true rfl⟩) (by omega) (b5 (o - 1) hk).1 rfl rfl hl.1 rfl (lv_room (Nat.le_of_ble_eq_true rfl)) dX3_gracesOf_24 ⟨Nat.le_of_ble_eq_true rfl, Nat.le_of_ble_eq_true rfl⟩) (fun r_ u H locs hp w => ?_)
      obtain ⟨hv, hu⟩ := hp
      subst hv
      have w : PW D G A s ad N c H locs := by rw [hu] at w; exact w
      clear hu
      exact fin (ad, N, c) c _ _ _ _ _ _ _ rfl ⟨by unfold graN; rw [if_neg (by omega), if_pos hk], rfl⟩ w dX3_gracesOf_27 (Nat.le_refl _) (Nat.le_refl _)
    · refine lv_aload_n hx hb dX3_gracesOf_6 rfl (lv_at hl 0 rfl) ?_
      refine pw_get (r := 12) (ci := 3) (C := RX3) (T := TX3) (Nf := 4) hx hb w hts hin_X3_gracesOf_3 hown (by omega) b1 rfl 0 (by decide) (hts _ fl_X3_gracesOf_11) (fun _ h9 => h9) rfl dX3_gracesOf_7 ?_
      refine lv_iload_n hx hb dX3_gracesOf_10 rfl (lv_at hl 1 rfl) ?_
      refine lv_iconst (v := zI (1)) hx hb dX3_gracesOf_11 rfl ?_
      refine pz_isub hx hb dX3_gracesOf_12 ?_
      refine pw_aaldN (r := 13) (j := (o - 1)) hx hb w (by omega) b2 rfl rfl (by omega) (by omega) (by decide) (by rw [b3 _ (by omega), if_neg hk]) dX3_gracesOf_13 ?_
      refine lv_astore_nN (lv' := [(2, .null), (0, .ref (ad 12)), (1, .int (zI (o : Int)))]) hx hb dX3_gracesOf_14 rfl hl (by decide) rfl (fun ls hl => ?_)
      refine lv_aload_nN hx hb dX3_gracesOf_15 rfl (lv_at hl 0 rfl) ?_
      refine lv_ifnonnullN hx hb dX3_gracesOf_16 ?_
      refine lv_iconst (v := zI (0)) hx hb dX3_gracesOf_19 rfl ?_
      refine lv_goto (tgt := 27) hx hb dX3_gracesOf_20 (by decide) ?_
      exact fin (ad, N, c) c _ _ _ _ _ _ _ rfl ⟨by unfold graN; rw [if_neg (by omega), if_neg hk]; rfl, rfl⟩ w dX3_gracesOf_27 (Nat.le_refl _) (Nat.le_refl _)
  · refine lv_iconst (v := zI (0)) hx hb dX3_gracesOf_4 rfl ?_
    exact fin (ad, N, c) c _ _ _ _ _ _ _ rfl ⟨by unfold graN; rw [if_pos (by omega)]; rfl, rfl⟩ w dX3_gracesOf_5 (Nat.le_refl _) (Nat.le_refl _)

theorem wd_X3_weigh_k37 : Cond.constant RX3 37 (1000000) ∈ wsX3_weigh := by decide +kernel
abbrev rm_X3_weigh : Room := { frames := 3, cells := 0, slots := 0, locals := 90 }
set_option maxHeartbeats 4000000 in
set_option maxRecDepth 100000 in
/-- OrnamentBook.weigh -/
theorem c_X3_weigh (l : Launch) (D : va_G) (G : Nat → ClassId) (ad : Nat → Nat) (N : Nat) (c : Nat → va_E) {no dn : Nat} {gn : Nat → Nat} {gg : Nat → Nat → Nat} {dg : Nat → Nat} (hN : 120 + 2 * no ≤ N) (hB : Book G ad c no dn gn gg dg) (hV : BookV no dn gn gg dg) {lim wish : Int} {x y mm t : Nat} {g0 : Nat → Int} (hF : Fing G ad c lim) (hx9 : x < 9) (hy9 : y < 9) (hmm : mm ≤ 32) (hwish : wish = 0 ∨ wish = 1) (ht15 : 15 ≤ t ∧ t < 120) (htN : t < N) (ht : isA 0 G (c t) 9 g0) : MC l yX3_weigh wsX3_weigh rm_X3_weigh [.ref (ad 12), .ref (ad 1), .int (zI (x : Int)), .int (zI (mm : Int)), .int (zI (y : Int)), .int (zI wish), .ref (ad t)] D G ad N c (qV D G (fx ad N) (fun c1 => isA 0 G (c1 t) 9 (gapC lim no gn gg x mm y wish) ∧ ∀ q, q ≠ t → c1 q = c q)) 0 0 := by
  refine MCv.of (cc := cX3_weigh) (maxL := 8) (by decide) rfl (Nat.le_of_ble_eq_true rfl) ?_
  intro p e s m args below meth kc A Q hx hb hts hown hml hin2 fin H locs w ls hl
  have hown : s.vm.findClass RX3 = some m.cls := hown
  have hl : lv_has ls 8 [(0, .ref (ad 12)), (1, .ref (ad 1)), (2, .int (zI (x : Int))), (3, .int (zI (mm : Int))), (4, .int (zI (y : Int))), (5, .int (zI wish)), (6, .ref (ad t))] := hl
  obtain ⟨b1, ⟨fe, b2, b3⟩, b4, b5⟩ := id hB
  obtain ⟨v1, v2, v3, v4⟩ := id hV
  refine lv_aload hx hb dX3_weigh_0 (lv_at hl 6 rfl) ?_
  refine lv_iconst (v := zI (0)) hx hb dX3_weigh_2 rfl ?_
  refine lv_iload hx hb dX3_weigh_3 (lv_at hl 5 rfl) ?_
  refine pz_ifeq (tgt := 13) hx hb dX3_weigh_5 (by decide) (⟨by omega, by omega⟩) (fun hw => ?_) (fun hw => ?_)
  · refine lv_aload_n hx hb dX3_weigh_13 rfl (lv_at hl 1 rfl) ?_
    refine lv_iload_n hx hb dX3_weigh_14 rfl (lv_at hl 2 rfl) ?_
    refine lv_iload hx hb dX3_weigh_15 (lv_at hl 4 rfl) ?_
    refine pw_ci w (pw_runV (r := 1) (ci := 0) (As := [.int (zI (x : Int)), .int (zI (y : Int))]) (rest := [.int (zI 0), .ref (ad t)]) w ⟨hx, hb, hml, hown, hts⟩ (c_X0_stepCost l D G ad N c (by omega) hF (x := x) (y := y) hx9 hy9) (cwV 2 hts gX3_weigh_X0_stepCost rfl rfl rfl (by decide +kernel) ⟨Nat.le_of_ble_eq_true rfl, Nat.le_of_ble_eq_true rfl⟩) (by omega) hF.1 rfl rfl hl.1 rfl (lv_room (Nat.le_of_ble_eq_true rfl)) dX3_weigh_17 ⟨Nat.le_of_ble_eq_true rfl, Nat.le_of_ble_eq_true rfl⟩) (fun r_ u H locs hp w => ?_)
    obtain ⟨hv, hu⟩ := hp
    subst hv
    have w : PW D G A s ad N c H locs := by rw [hu] at w; exact w
    clear hu
    refine pz_top (b := gapC lim no gn gg x mm y wish 0) (by unfold gapC; rw [if_pos rfl, if_pos (by omega)]) ?_
    refine pw_iast' (r := t) (j := 0) hx hb w htN ht (by omega) (by omega) (by decide) dX3_weigh_20 (fun H locs c1 hc1 fr1 w => ?_)
    refine lv_iconst (v := zI (0)) hx hb dX3_weigh_21 rfl ?_
    refine lv_istore (lv' := [(7, .int (zI 0)), (0, .ref (ad 12)), (1, .ref (ad 1)), (2, .int (zI (x : Int))), (3, .int (zI (mm : Int))), (4, .int (zI (y : Int))), (5, .int (zI wish)), (6, .ref (ad t))]) hx hb dX3_weigh_22 hl (by decide) rfl (fun ls hl => ?_)
    have lp : ∀ (f : Nat) (k : Nat) (gi : Nat → Int) (c1 : Nat → va_E) (H : Heap) (locs : List Loc) (ls : Array Slot), k ≤ 8 → isA 0 G (c1 t) 9 gi → (∀ j, j < k + 1 → gi j = gapC lim no gn gg x mm y wish j) → (∀ q, q ≠ t → c1 q = c q) → 8 < k + f → PW D G A s ad N c1 H locs → lv_has ls 8 [(0, .ref (ad 12)), (1, .ref (ad 1)), (2, .int (zI (x : Int))), (3, .int (zI (mm : Int))), (4, .int (zI (y : Int))), (5, .int (zI wish)), (6, .ref (ad t)), (7, .int (zI (k : Int)))] → W p l e rm_X3_weigh s m args below meth kc H locs 0 0 Q (F0 m 24 ls []) := by
      intro f
      induction f with
      | zero => intro k gi c1 H locs ls h9 hA hG hf hfu w hl; omega
      | succ f ih =>
        intro k gi c1 H locs ls h9 hA hG hf hfu w hl
        have hF1 := hF.fr (c1 := c1) (fun q h1 h2 => hf q (by omega))
        have hB1 := hB.fr (c1 := c1) (fun q h => hf q (by omega))
        refine lv_iload hx hb dX3_weigh_24 (lv_at hl 7 rfl) ?_
        refine lv_bipush (v := zI (8)) hx hb dX3_weigh_26 (by decide +kernel) ?_
        refine pz_icmpge (tgt := 55) hx hb dX3_weigh_28 (by decide) (⟨by omega, by omega⟩) (⟨by omega, by omega⟩) (fun hi => ?_) (fun hi => ?_)
        · exact fin (ad, N, c1) c1 _ _ _ _ _ _ rfl ⟨hA.to (fun j hj => hG j (by omega)), hf⟩ w dX3_weigh_55 (Nat.le_refl _) (Nat.le_refl _)
        · refine lv_aload hx hb dX3_weigh_31 (lv_at hl 6 rfl) ?_
          refine lv_iload hx hb dX3_weigh_33 (lv_at hl 7 rfl) ?_
          refine lv_iconst (v := zI (1)) hx hb dX3_weigh_35 rfl ?_
          refine pz_iadd hx hb dX3_weigh_36 ?_
          refine lv_aload_n hx hb dX3_weigh_37 rfl (lv_at hl 0 rfl) ?_
          refine lv_iload hx hb dX3_weigh_38 (lv_at hl 7 rfl) ?_
          refine lv_aload_n hx hb dX3_weigh_40 rfl (lv_at hl 1 rfl) ?_
          refine lv_iload_n hx hb dX3_weigh_41 rfl (lv_at hl 2 rfl) ?_
          refine lv_iload_n hx hb dX3_weigh_42 rfl (lv_at hl 3 rfl) ?_
          refine lv_iload hx hb dX3_weigh_43 (lv_at hl 4 rfl) ?_
          refine pw_ci w (pw_runV (r := 12) (ci := 3) (As := [.int (zI (k : Int)), .ref (ad 1), .int (zI (x : Int)), .int (zI (mm : Int)), .int (zI (y : Int))]) (rest := [.int (zI ((k : Int) + 1)), .ref (ad t)]) w ⟨hx, hb, hml, hown, hts⟩ (c_X3_costOf l D G ad N c1 (lim := lim) (x := x) (y := y) (mm := mm) (k := k) hN hB1 hV hF1 hx9 hy9 hmm (by omega)) (cwV 5 hts gX3_weigh_X3_costOf rfl rfl rfl (by decide +kernel) ⟨Nat.le_of_ble_eq_true rfl, Nat.le_of_ble_eq_true rfl⟩) (by omega) ((hf 12 (by omega)).trans b1) rfl rfl hl.1 rfl (lv_room (Nat.le_of_ble_eq_true rfl)) dX3_weigh_45 ⟨Nat.le_of_ble_eq_true rfl, Nat.le_of_ble_eq_true rfl⟩) (fun r_ u H locs hp w => ?_)
          obtain ⟨hv, hu⟩ := hp
          subst hv
          have w : PW D G A s ad N c1 H locs := by rw [hu] at w; exact w
          clear hu
          rw [show gapC lim no gn gg x mm y 0 (k + 1) = gapC lim no gn gg x mm y wish (k + 1) from by simp [gapC]]
          refine pw_iast' (r := t) (j := (k + 1)) hx hb w htN hA (by omega) (by omega) (by decide) dX3_weigh_48 (fun H locs c2 hc2 fr2 w => ?_)
          refine pz_iinc (lv' := [(7, .int (zI ((k + 1 : Nat) : Int))), (0, .ref (ad 12)), (1, .ref (ad 1)), (2, .int (zI (x : Int))), (3, .int (zI (mm : Int))), (4, .int (zI (y : Int))), (5, .int (zI wish)), (6, .ref (ad t))]) hx hb dX3_weigh_49 hl (j := 7) rfl ((k + 1 : Nat) : Int) (by omega) (by decide) rfl (fun ls hl => ?_)
          refine lv_goto (tgt := 24) hx hb dX3_weigh_52 (by decide) ?_
          exact ih (k + 1) (upI gi (k + 1) (gapC lim no gn gg x mm y wish (k + 1))) c2 H locs ls (by omega) hc2 (fun j hj => by unfold upI; split <;> first | (rename_i e9; rw [e9]; done) | exact hG j (by omega)) (fun q hq => (fr2 q hq).trans (hf q hq)) (by omega) w (lv_sub hl [1, 2, 3, 4, 5, 6, 7, 0] rfl)
    exact lp 9 0 (upI g0 0 (gapC lim no gn gg x mm y wish 0)) c1 H locs ls (by omega) hc1 (fun j hj => by unfold upI; rw [if_pos (by omega), show j = 0 from by omega]) (fun q hq => fr1 q hq) (by omega) w (lv_sub hl [1, 2, 3, 4, 5, 6, 7, 0] rfl)
  · refine lv_ldc hx hb hown (hts _ wd_X3_weigh_k37) dX3_weigh_8 (pz_topI (y := zI (1000000)) (by decide +kernel) ?_)
    refine lv_goto (tgt := 20) hx hb dX3_weigh_10 (by decide) ?_
    refine pz_top (b := gapC lim no gn gg x mm y wish 0) (by unfold gapC; rw [if_pos rfl, if_neg (by omega)]) ?_
    refine pw_iast' (r := t) (j := 0) hx hb w htN ht (by omega) (by omega) (by decide) dX3_weigh_20 (fun H locs c3 hc3 fr3 w => ?_)
    refine lv_iconst (v := zI (0)) hx hb dX3_weigh_21 rfl ?_
    refine lv_istore (lv' := [(7, .int (zI 0)), (0, .ref (ad 12)), (1, .ref (ad 1)), (2, .int (zI (x : Int))), (3, .int (zI (mm : Int))), (4, .int (zI (y : Int))), (5, .int (zI wish)), (6, .ref (ad t))]) hx hb dX3_weigh_22 hl (by decide) rfl (fun ls hl => ?_)
    have lp : ∀ (f : Nat) (k : Nat) (gi : Nat → Int) (c1 : Nat → va_E) (H : Heap) (locs : List Loc) (ls : Array Slot), k ≤ 8 → isA 0 G (c1 t) 9 gi → (∀ j, j < k + 1 → gi j = gapC lim no gn gg x mm y wish j) → (∀ q, q ≠ t → c1 q = c q) → 8 < k + f → PW D G A s ad N c1 H locs → lv_has ls 8 [(0, .ref (ad 12)), (1, .ref (ad 1)), (2, .int (zI (x : Int))), (3, .int (zI (mm : Int))), (4, .int (zI (y : Int))), (5, .int (zI wish)), (6, .ref (ad t)), (7, .int (zI (k : Int)))] → W p l e rm_X3_weigh s m args below meth kc H locs 0 0 Q (F0 m 24 ls []) := by
      intro f
      induction f with
      | zero => intro k gi c1 H locs ls h9 hA hG hf hfu w hl; omega
      | succ f ih =>
        intro k gi c1 H locs ls h9 hA hG hf hfu w hl
        have hF1 := hF.fr (c1 := c1) (fun q h1 h2 => hf q (by omega))
        have hB1 := hB.fr (c1 := c1) (fun q h => hf q (by omega))
        refine lv_iload hx hb dX3_weigh_24 (lv_at hl 7 rfl) ?_
        refine lv_bipush (v := zI (8)) hx hb dX3_weigh_26 (by decide +kernel) ?_
        refine pz_icmpge (tgt := 55) hx hb dX3_weigh_28 (by decide) (⟨by omega, by omega⟩) (⟨by omega, by omega⟩) (fun hi => ?_) (fun hi => ?_)
        · exact fin (ad, N, c1) c1 _ _ _ _ _ _ rfl ⟨hA.to (fun j hj => hG j (by omega)), hf⟩ w dX3_weigh_55 (Nat.le_refl _) (Nat.le_refl _)
        · refine lv_aload hx hb dX3_weigh_31 (lv_at hl 6 rfl) ?_
          refine lv_iload hx hb dX3_weigh_33 (lv_at hl 7 rfl) ?_
          refine lv_iconst (v := zI (1)) hx hb dX3_weigh_35 rfl ?_
          refine pz_iadd hx hb dX3_weigh_36 ?_
          refine lv_aload_n hx hb dX3_weigh_37 rfl (lv_at hl 0 rfl) ?_
          refine lv_iload hx hb dX3_weigh_38 (lv_at hl 7 rfl) ?_
          refine lv_aload_n hx hb dX3_weigh_40 rfl (lv_at hl 1 rfl) ?_
          refine lv_iload_n hx hb dX3_weigh_41 rfl (lv_at hl 2 rfl) ?_
          refine lv_iload_n hx hb dX3_weigh_42 rfl (lv_at hl 3 rfl) ?_
          refine lv_iload hx hb dX3_weigh_43 (lv_at hl 4 rfl) ?_
          refine pw_ci w (pw_runV (r := 12) (ci := 3) (As := [.int (zI (k : Int)), .ref (ad 1), .int (zI (x : Int)), .int (zI (mm : Int)), .int (zI (y : Int))]) (rest := [.int (zI ((k : Int) + 1)), .ref (ad t)]) w ⟨hx, hb, hml, hown, hts⟩ (c_X3_costOf l D G ad N c1 (lim := lim) (x := x) (y := y) (mm := mm) (k := k) hN hB1 hV hF1 hx9 hy9 hmm (by omega)) (cwV 5 hts gX3_weigh_X3_costOf rfl rfl rfl (by decide +kernel) ⟨Nat.le_of_ble_eq_true rfl, Nat.le_of_ble_eq_true rfl⟩) (by omega) ((hf 12 (by omega)).trans b1) rfl rfl hl.1 rfl (lv_room (Nat.le_of_ble_eq_true rfl)) dX3_weigh_45 ⟨Nat.le_of_ble_eq_true rfl, Nat.le_of_ble_eq_true rfl⟩) (fun r_ u H locs hp w => ?_)
          obtain ⟨hv, hu⟩ := hp
          subst hv
          have w : PW D G A s ad N c1 H locs := by rw [hu] at w; exact w
          clear hu
          rw [show gapC lim no gn gg x mm y 0 (k + 1) = gapC lim no gn gg x mm y wish (k + 1) from by simp [gapC]]
          refine pw_iast' (r := t) (j := (k + 1)) hx hb w htN hA (by omega) (by omega) (by decide) dX3_weigh_48 (fun H locs c4 hc4 fr4 w => ?_)
          refine pz_iinc (lv' := [(7, .int (zI ((k + 1 : Nat) : Int))), (0, .ref (ad 12)), (1, .ref (ad 1)), (2, .int (zI (x : Int))), (3, .int (zI (mm : Int))), (4, .int (zI (y : Int))), (5, .int (zI wish)), (6, .ref (ad t))]) hx hb dX3_weigh_49 hl (j := 7) rfl ((k + 1 : Nat) : Int) (by omega) (by decide) rfl (fun ls hl => ?_)
          refine lv_goto (tgt := 24) hx hb dX3_weigh_52 (by decide) ?_
          exact ih (k + 1) (upI gi (k + 1) (gapC lim no gn gg x mm y wish (k + 1))) c4 H locs ls (by omega) hc4 (fun j hj => by unfold upI; split <;> first | (rename_i e9; rw [e9]; done) | exact hG j (by omega)) (fun q hq => (fr4 q hq).trans (hf q hq)) (by omega) w (lv_sub hl [1, 2, 3, 4, 5, 6, 7, 0] rfl)
    exact lp 9 0 (upI g0 0 (gapC lim no gn gg x mm y wish 0)) c3 H locs ls (by omega) hc3 (fun j hj => by unfold upI; rw [if_pos (by omega), show j = 0 from by omega]) (fun q hq => fr3 q hq) (by omega) w (lv_sub hl [1, 2, 3, 4, 5, 6, 7, 0] rfl)
