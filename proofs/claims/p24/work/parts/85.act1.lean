/-! OURS: one action of the law: a walk for each way -/
abbrev rm_L_act : Room := { frames := 10, cells := 2, slots := 6, locals := 300 }
set_option maxHeartbeats 2000000 in
set_option maxRecDepth 100000 in
theorem act_o_0a (l : Launch) (D : va_G) (G : Nat → ClassId) (ad : Nat → Nat) (N : Nat) (c : Nat → va_E) {v : Int32} {told : Int} {P1 : PT} (ho : lwF (v >>> (zI 24 &&& 31)) 9 = 0) (hk : lwF v 16 = 0) (h0 : lwF (v >>> (zI 5 &&& 31)) 3 = 0) (hM : MC l yL_setLimit wsL_setLimit rm_L_setLimit [.ref (ad 0), .int (zI ((lwF (v >>> (zI 7 &&& 31)) 11) - 1))] D G ad N c (qI D G wI (hP G ad told P1)) 2 6) : MC l yL_act wsL_act rm_L_act [.ref (ad 0), .int v] D G ad N c (qI D G wI (hP G ad told P1)) 2 6 := by
  refine MCi.of (cc := cL_act) (maxL := 5) (by decide) rfl (Nat.le_of_ble_eq_true rfl) ?_
  intro p e s m args below meth kc A Q hx hb hts hown hml fin H locs w ls hl
  have hown : s.vm.findClass RL = some m.cls := hown
  have hl : lv_has ls 5 [(0, .ref (ad 0)), (1, .int v)] := hl
  refine lv_iload_n hx hb dL_act_0 rfl (lv_at hl 1 rfl) ?_
  refine lv_bipush (v := zI (24)) hx hb dL_act_1 (by decide +kernel) ?_
  refine lv_ishr hx hb dL_act_3 ?_
  refine lv_bipush (v := zI (9)) hx hb dL_act_4 (by decide +kernel) ?_
  refine pw_ci w (pw_runS (As := [.int (v >>> ((zI 24) &&& 31)), .int (zI 9)]) (rest := []) w ⟨hx, hb, hml, hown, hts⟩ (c_L_low l D G ad N c (x := (v >>> ((zI 24) &&& 31))) (n := 9) (by decide) (by decide)) (va_cwS 2 hts gL_act_L_low rfl rfl rfl (by decide +kernel) ⟨Nat.le_of_ble_eq_true rfl, Nat.le_of_ble_eq_true rfl⟩) rfl hl.1 rfl (lv_room (Nat.le_of_ble_eq_true rfl)) dL_act_6 ⟨Nat.le_of_ble_eq_true rfl, Nat.le_of_ble_eq_true rfl⟩) (fun r_ u H locs hp w => ?_)
  obtain ⟨hv, hu⟩ := hp
  subst hv
  have w : PW D G A s ad N c H locs := by rw [hu] at w; exact w
  clear hu
  have hb9 := lwF_bd (v >>> ((zI 24) &&& 31)) (n := 9) (by decide) (by decide)
  refine pz_ifne (tgt := 16) hx hb dL_act_9 (by decide) (⟨by omega, by omega⟩) (fun h1 => ?_) (fun h1 => ?_)
  · omega
  · refine lv_iconst (v := zI (1)) hx hb dL_act_12 rfl ?_
    refine lv_goto (tgt := 17) hx hb dL_act_13 (by decide) ?_
    refine lv_istore_n (lv' := [(2, .int (zI 1)), (0, .ref (ad 0)), (1, .int v)]) hx hb dL_act_17 rfl hl (by decide) rfl (fun ls hl => ?_)
    refine lv_iload_n hx hb dL_act_18 rfl (lv_at hl 0 rfl) ?_
    refine pz_ifeq (tgt := 35) hx hb dL_act_19 (by decide) (⟨by omega, by omega⟩) (fun h2 => ?_) (fun h2 => ?_)
    · omega
    · refine lv_iload_n hx hb dL_act_22 rfl (lv_at hl 2 rfl) ?_
      refine lv_iconst (v := zI (4)) hx hb dL_act_23 rfl ?_
      refine lv_ishr hx hb dL_act_24 ?_
      refine lv_bipush (v := zI (6)) hx hb dL_act_25 (by decide +kernel) ?_
      refine pw_ci w (pw_runS (As := [.int (v >>> ((zI 4) &&& 31)), .int (zI 6)]) (rest := []) w ⟨hx, hb, hml, hown, hts⟩ (c_L_low l D G ad N c (x := (v >>> ((zI 4) &&& 31))) (n := 6) (by decide) (by decide)) (va_cwS 2 hts gL_act_L_low rfl rfl rfl (by decide +kernel) ⟨Nat.le_of_ble_eq_true rfl, Nat.le_of_ble_eq_true rfl⟩) rfl hl.1 rfl (lv_room (Nat.le_of_ble_eq_true rfl)) dL_act_27 ⟨Nat.le_of_ble_eq_true rfl, Nat.le_of_ble_eq_true rfl⟩) (fun r_ u H locs hp w => ?_)
      obtain ⟨hv, hu⟩ := hp
      subst hv
      have w : PW D G A s ad N c H locs := by rw [hu] at w; exact w
      clear hu
      have hb30 := lwF_bd (v >>> ((zI 4) &&& 31)) (n := 6) (by decide) (by decide)
      refine lv_iconst (v := zI (1)) hx hb dL_act_30 rfl ?_
      refine pz_isub hx hb dL_act_31 ?_
      refine lv_goto (tgt := 42) hx hb dL_act_32 (by decide) ?_
      refine lv_istore_n (lv' := [(3, .int (zI ((lwF (v >>> ((zI 4) &&& 31)) 6) - 1))), (2, .int (zI 1)), (0, .ref (ad 0)), (1, .int v)]) hx hb dL_act_42 rfl hl (by decide) rfl (fun ls hl => ?_)
      refine lv_iload_n hx hb dL_act_43 rfl (lv_at hl 1 rfl) ?_
      refine pz_ifeq (tgt := 61) hx hb dL_act_44 (by decide) (⟨by omega, by omega⟩) (fun h3 => ?_) (fun h3 => ?_)
      · omega
      · refine lv_iload_n hx hb dL_act_47 rfl (lv_at hl 3 rfl) ?_
        refine lv_bipush (v := zI (7)) hx hb dL_act_48 (by decide +kernel) ?_
        refine lv_ishr hx hb dL_act_50 ?_
        refine lv_bipush (v := zI (11)) hx hb dL_act_51 (by decide +kernel) ?_
        refine pw_ci w (pw_runS (As := [.int (v >>> ((zI 7) &&& 31)), .int (zI 11)]) (rest := []) w ⟨hx, hb, hml, hown, hts⟩ (c_L_low l D G ad N c (x := (v >>> ((zI 7) &&& 31))) (n := 11) (by decide) (by decide)) (va_cwS 2 hts gL_act_L_low rfl rfl rfl (by decide +kernel) ⟨Nat.le_of_ble_eq_true rfl, Nat.le_of_ble_eq_true rfl⟩) rfl hl.1 rfl (lv_room (Nat.le_of_ble_eq_true rfl)) dL_act_53 ⟨Nat.le_of_ble_eq_true rfl, Nat.le_of_ble_eq_true rfl⟩) (fun r_ u H locs hp w => ?_)
        obtain ⟨hv, hu⟩ := hp
        subst hv
        have w : PW D G A s ad N c H locs := by rw [hu] at w; exact w
        clear hu
        have hb56 := lwF_bd (v >>> ((zI 7) &&& 31)) (n := 11) (by decide) (by decide)
        refine lv_iconst (v := zI (1)) hx hb dL_act_56 rfl ?_
        refine pz_isub hx hb dL_act_57 ?_
        refine lv_goto (tgt := 70) hx hb dL_act_58 (by decide) ?_
        refine lv_istore (lv' := [(4, .int (zI ((lwF (v >>> ((zI 7) &&& 31)) 11) - 1))), (3, .int (zI ((lwF (v >>> ((zI 4) &&& 31)) 6) - 1))), (2, .int (zI 1)), (0, .ref (ad 0)), (1, .int v)]) hx hb dL_act_70 hl (by decide) rfl (fun ls hl => ?_)
        refine lv_iload_n hx hb dL_act_72 rfl (lv_at hl 4 rfl) ?_
        refine lv_bipush (v := zI (16)) hx hb dL_act_73 (by decide +kernel) ?_
        refine pw_ci w (pw_runS (As := [.int v, .int (zI 16)]) (rest := []) w ⟨hx, hb, hml, hown, hts⟩ (c_L_low l D G ad N c (x := v) (n := 16) (by decide) (by decide)) (va_cwS 2 hts gL_act_L_low rfl rfl rfl (by decide +kernel) ⟨Nat.le_of_ble_eq_true rfl, Nat.le_of_ble_eq_true rfl⟩) rfl hl.1 rfl (lv_room (Nat.le_of_ble_eq_true rfl)) dL_act_75 ⟨Nat.le_of_ble_eq_true rfl, Nat.le_of_ble_eq_true rfl⟩) (fun r_ u H locs hp w => ?_)
        obtain ⟨hv, hu⟩ := hp
        subst hv
        have w : PW D G A s ad N c H locs := by rw [hu] at w; exact w
        clear hu
        have hb78 := lwF_bd v (n := 16) (by decide) (by decide)
        have kk : W p l e rm_L_act s m args below meth kc H locs 0 0 Q (F0 m 124 ls []) := by
          refine lv_iload_n hx hb dL_act_124 rfl (lv_at hl 4 rfl) ?_
          refine lv_iconst (v := zI (5)) hx hb dL_act_125 rfl ?_
          refine lv_ishr hx hb dL_act_126 ?_
          refine lv_iconst (v := zI (3)) hx hb dL_act_127 rfl ?_
          refine pw_ci w (pw_runS (As := [.int (v >>> ((zI 5) &&& 31)), .int (zI 3)]) (rest := []) w ⟨hx, hb, hml, hown, hts⟩ (c_L_low l D G ad N c (x := (v >>> ((zI 5) &&& 31))) (n := 3) (by decide) (by decide)) (va_cwS 2 hts gL_act_L_low rfl rfl rfl (by decide +kernel) ⟨Nat.le_of_ble_eq_true rfl, Nat.le_of_ble_eq_true rfl⟩) rfl hl.1 rfl (lv_room (Nat.le_of_ble_eq_true rfl)) dL_act_128 ⟨Nat.le_of_ble_eq_true rfl, Nat.le_of_ble_eq_true rfl⟩) (fun r_ u H locs hp w => ?_)
          obtain ⟨hv, hu⟩ := hp
          subst hv
          have w : PW D G A s ad N c H locs := by rw [hu] at w; exact w
          clear hu
          have hb131 := lwF_bd (v >>> ((zI 5) &&& 31)) (n := 3) (by decide) (by decide)
          refine pz_ifne (tgt := 170) hx hb dL_act_131 (by decide) (⟨by omega, by omega⟩) (fun h4 => ?_) (fun h4 => ?_)
          · omega
          · refine lv_aload_n hx hb dL_act_134 rfl (lv_at hl 3 rfl) ?_
            refine lv_iload_n hx hb dL_act_135 rfl (lv_at hl 2 rfl) ?_
            refine pz_ifeq (tgt := 153) hx hb dL_act_136 (by decide) (⟨by omega, by omega⟩) (fun h5 => ?_) (fun h5 => ?_)
            · omega
            · refine lv_iload_n hx hb dL_act_139 rfl (lv_at hl 4 rfl) ?_
              refine lv_bipush (v := zI (7)) hx hb dL_act_140 (by decide +kernel) ?_
              refine lv_ishr hx hb dL_act_142 ?_
              refine lv_bipush (v := zI (11)) hx hb dL_act_143 (by decide +kernel) ?_
              refine pw_ci w (pw_runS (As := [.int (v >>> ((zI 7) &&& 31)), .int (zI 11)]) (rest := [.ref (ad 0)]) w ⟨hx, hb, hml, hown, hts⟩ (c_L_low l D G ad N c (x := (v >>> ((zI 7) &&& 31))) (n := 11) (by decide) (by decide)) (va_cwS 2 hts gL_act_L_low rfl rfl rfl (by decide +kernel) ⟨Nat.le_of_ble_eq_true rfl, Nat.le_of_ble_eq_true rfl⟩) rfl hl.1 rfl (lv_room (Nat.le_of_ble_eq_true rfl)) dL_act_145 ⟨Nat.le_of_ble_eq_true rfl, Nat.le_of_ble_eq_true rfl⟩) (fun r_ u H locs hp w => ?_)
              obtain ⟨hv, hu⟩ := hp
              subst hv
              have w : PW D G A s ad N c H locs := by rw [hu] at w; exact w
              clear hu
              have hb148 := lwF_bd (v >>> ((zI 7) &&& 31)) (n := 11) (by decide) (by decide)
              refine lv_iconst (v := zI (1)) hx hb dL_act_148 rfl ?_
              refine pz_isub hx hb dL_act_149 ?_
              refine lv_goto (tgt := 164) hx hb dL_act_150 (by decide) ?_
              refine pw_ci w (pw_runSW (As := [.ref (ad 0), .int (zI ((lwF (v >>> ((zI 7) &&& 31)) 11) - 1))]) (rest := []) w ⟨hx, hb, hml, hown, hts⟩ hM (vx_cwSW 2 hts gL_act_L_setLimit rfl rfl rfl (by decide +kernel) ⟨Nat.le_of_ble_eq_true rfl, Nat.le_of_ble_eq_true rfl⟩) rfl hl.1 rfl (lv_room (Nat.le_of_ble_eq_true rfl)) dL_act_164 ⟨Nat.le_of_ble_eq_true rfl, Nat.le_of_ble_eq_true rfl⟩) (fun r_ u H locs hp w => ?_)
              refine lv_goto (tgt := 175) hx hb dL_act_167 (by decide) ?_
              exact fin u u _ _ _ _ _ _ _ rfl hp w dL_act_175 (Nat.le_of_ble_eq_true rfl) (Nat.le_of_ble_eq_true rfl)
        have hxi : (zI (lwF v 16)).toInt = lwF v 16 := zI_toInt ⟨by omega, by omega⟩
        have h9 := hk
        exact lv_tableIn (off := 46) (tgt := 124) hx hb dL_act_78 (by rw [hxi]; omega) (by rw [hxi]; omega) (by rw [hxi, h9]; rfl) (by decide) kk

set_option maxHeartbeats 2000000 in
set_option maxRecDepth 100000 in
theorem act_o_0b (l : Launch) (D : va_G) (G : Nat → ClassId) (ad : Nat → Nat) (N : Nat) (c : Nat → va_E) {v : Int32} {told : Int} {P1 : PT} (ho : lwF (v >>> (zI 24 &&& 31)) 9 = 0) (hk : lwF v 16 = 0) (h0 : ¬ lwF (v >>> (zI 5 &&& 31)) 3 = 0) (hM : MC l yL_removeNote wsL_removeNote rm_L_removeNote [.ref (ad 0), .int (zI ((lwF (v >>> (zI 4 &&& 31)) 6) - 1))] D G ad N c (qI D G wI (hP G ad told P1)) 2 6) : MC l yL_act wsL_act rm_L_act [.ref (ad 0), .int v] D G ad N c (qI D G wI (hP G ad told P1)) 2 6 := by
  refine MCi.of (cc := cL_act) (maxL := 5) (by decide) rfl (Nat.le_of_ble_eq_true rfl) ?_
  intro p e s m args below meth kc A Q hx hb hts hown hml fin H locs w ls hl
  have hown : s.vm.findClass RL = some m.cls := hown
  have hl : lv_has ls 5 [(0, .ref (ad 0)), (1, .int v)] := hl
  refine lv_iload_n hx hb dL_act_0 rfl (lv_at hl 1 rfl) ?_
  refine lv_bipush (v := zI (24)) hx hb dL_act_1 (by decide +kernel) ?_
  refine lv_ishr hx hb dL_act_3 ?_
  refine lv_bipush (v := zI (9)) hx hb dL_act_4 (by decide +kernel) ?_
  refine pw_ci w (pw_runS (As := [.int (v >>> ((zI 24) &&& 31)), .int (zI 9)]) (rest := []) w ⟨hx, hb, hml, hown, hts⟩ (c_L_low l D G ad N c (x := (v >>> ((zI 24) &&& 31))) (n := 9) (by decide) (by decide)) (va_cwS 2 hts gL_act_L_low rfl rfl rfl (by decide +kernel) ⟨Nat.le_of_ble_eq_true rfl, Nat.le_of_ble_eq_true rfl⟩) rfl hl.1 rfl (lv_room (Nat.le_of_ble_eq_true rfl)) dL_act_6 ⟨Nat.le_of_ble_eq_true rfl, Nat.le_of_ble_eq_true rfl⟩) (fun r_ u H locs hp w => ?_)
  obtain ⟨hv, hu⟩ := hp
  subst hv
  have w : PW D G A s ad N c H locs := by rw [hu] at w; exact w
  clear hu
  have hb9 := lwF_bd (v >>> ((zI 24) &&& 31)) (n := 9) (by decide) (by decide)
  refine pz_ifne (tgt := 16) hx hb dL_act_9 (by decide) (⟨by omega, by omega⟩) (fun h1 => ?_) (fun h1 => ?_)
  · omega
  · refine lv_iconst (v := zI (1)) hx hb dL_act_12 rfl ?_
    refine lv_goto (tgt := 17) hx hb dL_act_13 (by decide) ?_
    refine lv_istore_n (lv' := [(2, .int (zI 1)), (0, .ref (ad 0)), (1, .int v)]) hx hb dL_act_17 rfl hl (by decide) rfl (fun ls hl => ?_)
    refine lv_iload_n hx hb dL_act_18 rfl (lv_at hl 0 rfl) ?_
    refine pz_ifeq (tgt := 35) hx hb dL_act_19 (by decide) (⟨by omega, by omega⟩) (fun h2 => ?_) (fun h2 => ?_)
    · omega
    · refine lv_iload_n hx hb dL_act_22 rfl (lv_at hl 2 rfl) ?_
      refine lv_iconst (v := zI (4)) hx hb dL_act_23 rfl ?_
      refine lv_ishr hx hb dL_act_24 ?_
      refine lv_bipush (v := zI (6)) hx hb dL_act_25 (by decide +kernel) ?_
      refine pw_ci w (pw_runS (As := [.int (v >>> ((zI 4) &&& 31)), .int (zI 6)]) (rest := []) w ⟨hx, hb, hml, hown, hts⟩ (c_L_low l D G ad N c (x := (v >>> ((zI 4) &&& 31))) (n := 6) (by decide) (by decide)) (va_cwS 2 hts gL_act_L_low rfl rfl rfl (by decide +kernel) ⟨Nat.le_of_ble_eq_true rfl, Nat.le_of_ble_eq_true rfl⟩) rfl hl.1 rfl (lv_room (Nat.le_of_ble_eq_true rfl)) dL_act_27 ⟨Nat.le_of_ble_eq_true rfl, Nat.le_of_ble_eq_true rfl⟩) (fun r_ u H locs hp w => ?_)
      obtain ⟨hv, hu⟩ := hp
      subst hv
      have w : PW D G A s ad N c H locs := by rw [hu] at w; exact w
      clear hu
      have hb30 := lwF_bd (v >>> ((zI 4) &&& 31)) (n := 6) (by decide) (by decide)
      refine lv_iconst (v := zI (1)) hx hb dL_act_30 rfl ?_
      refine pz_isub hx hb dL_act_31 ?_
      refine lv_goto (tgt := 42) hx hb dL_act_32 (by decide) ?_
      refine lv_istore_n (lv' := [(3, .int (zI ((lwF (v >>> ((zI 4) &&& 31)) 6) - 1))), (2, .int (zI 1)), (0, .ref (ad 0)), (1, .int v)]) hx hb dL_act_42 rfl hl (by decide) rfl (fun ls hl => ?_)
      refine lv_iload_n hx hb dL_act_43 rfl (lv_at hl 1 rfl) ?_
      refine pz_ifeq (tgt := 61) hx hb dL_act_44 (by decide) (⟨by omega, by omega⟩) (fun h3 => ?_) (fun h3 => ?_)
      · omega
      · refine lv_iload_n hx hb dL_act_47 rfl (lv_at hl 3 rfl) ?_
        refine lv_bipush (v := zI (7)) hx hb dL_act_48 (by decide +kernel) ?_
        refine lv_ishr hx hb dL_act_50 ?_
        refine lv_bipush (v := zI (11)) hx hb dL_act_51 (by decide +kernel) ?_
        refine pw_ci w (pw_runS (As := [.int (v >>> ((zI 7) &&& 31)), .int (zI 11)]) (rest := []) w ⟨hx, hb, hml, hown, hts⟩ (c_L_low l D G ad N c (x := (v >>> ((zI 7) &&& 31))) (n := 11) (by decide) (by decide)) (va_cwS 2 hts gL_act_L_low rfl rfl rfl (by decide +kernel) ⟨Nat.le_of_ble_eq_true rfl, Nat.le_of_ble_eq_true rfl⟩) rfl hl.1 rfl (lv_room (Nat.le_of_ble_eq_true rfl)) dL_act_53 ⟨Nat.le_of_ble_eq_true rfl, Nat.le_of_ble_eq_true rfl⟩) (fun r_ u H locs hp w => ?_)
        obtain ⟨hv, hu⟩ := hp
        subst hv
        have w : PW D G A s ad N c H locs := by rw [hu] at w; exact w
        clear hu
        have hb56 := lwF_bd (v >>> ((zI 7) &&& 31)) (n := 11) (by decide) (by decide)
        refine lv_iconst (v := zI (1)) hx hb dL_act_56 rfl ?_
        refine pz_isub hx hb dL_act_57 ?_
        refine lv_goto (tgt := 70) hx hb dL_act_58 (by decide) ?_
        refine lv_istore (lv' := [(4, .int (zI ((lwF (v >>> ((zI 7) &&& 31)) 11) - 1))), (3, .int (zI ((lwF (v >>> ((zI 4) &&& 31)) 6) - 1))), (2, .int (zI 1)), (0, .ref (ad 0)), (1, .int v)]) hx hb dL_act_70 hl (by decide) rfl (fun ls hl => ?_)
        refine lv_iload_n hx hb dL_act_72 rfl (lv_at hl 4 rfl) ?_
        refine lv_bipush (v := zI (16)) hx hb dL_act_73 (by decide +kernel) ?_
        refine pw_ci w (pw_runS (As := [.int v, .int (zI 16)]) (rest := []) w ⟨hx, hb, hml, hown, hts⟩ (c_L_low l D G ad N c (x := v) (n := 16) (by decide) (by decide)) (va_cwS 2 hts gL_act_L_low rfl rfl rfl (by decide +kernel) ⟨Nat.le_of_ble_eq_true rfl, Nat.le_of_ble_eq_true rfl⟩) rfl hl.1 rfl (lv_room (Nat.le_of_ble_eq_true rfl)) dL_act_75 ⟨Nat.le_of_ble_eq_true rfl, Nat.le_of_ble_eq_true rfl⟩) (fun r_ u H locs hp w => ?_)
        obtain ⟨hv, hu⟩ := hp
        subst hv
        have w : PW D G A s ad N c H locs := by rw [hu] at w; exact w
        clear hu
        have hb78 := lwF_bd v (n := 16) (by decide) (by decide)
        have kk : W p l e rm_L_act s m args below meth kc H locs 0 0 Q (F0 m 124 ls []) := by
          refine lv_iload_n hx hb dL_act_124 rfl (lv_at hl 4 rfl) ?_
          refine lv_iconst (v := zI (5)) hx hb dL_act_125 rfl ?_
          refine lv_ishr hx hb dL_act_126 ?_
          refine lv_iconst (v := zI (3)) hx hb dL_act_127 rfl ?_
          refine pw_ci w (pw_runS (As := [.int (v >>> ((zI 5) &&& 31)), .int (zI 3)]) (rest := []) w ⟨hx, hb, hml, hown, hts⟩ (c_L_low l D G ad N c (x := (v >>> ((zI 5) &&& 31))) (n := 3) (by decide) (by decide)) (va_cwS 2 hts gL_act_L_low rfl rfl rfl (by decide +kernel) ⟨Nat.le_of_ble_eq_true rfl, Nat.le_of_ble_eq_true rfl⟩) rfl hl.1 rfl (lv_room (Nat.le_of_ble_eq_true rfl)) dL_act_128 ⟨Nat.le_of_ble_eq_true rfl, Nat.le_of_ble_eq_true rfl⟩) (fun r_ u H locs hp w => ?_)
          obtain ⟨hv, hu⟩ := hp
          subst hv
          have w : PW D G A s ad N c H locs := by rw [hu] at w; exact w
          clear hu
          have hb131 := lwF_bd (v >>> ((zI 5) &&& 31)) (n := 3) (by decide) (by decide)
          refine pz_ifne (tgt := 170) hx hb dL_act_131 (by decide) (⟨by omega, by omega⟩) (fun h4 => ?_) (fun h4 => ?_)
          · refine lv_aload_n hx hb dL_act_170 rfl (lv_at hl 3 rfl) ?_
            refine lv_iload_n hx hb dL_act_171 rfl (lv_at hl 1 rfl) ?_
            refine pw_ci w (pw_runSW (As := [.ref (ad 0), .int (zI ((lwF (v >>> ((zI 4) &&& 31)) 6) - 1))]) (rest := []) w ⟨hx, hb, hml, hown, hts⟩ hM (vx_cwSW 2 hts gL_act_L_removeNote rfl rfl rfl (by decide +kernel) ⟨Nat.le_of_ble_eq_true rfl, Nat.le_of_ble_eq_true rfl⟩) rfl hl.1 rfl (lv_room (Nat.le_of_ble_eq_true rfl)) dL_act_172 ⟨Nat.le_of_ble_eq_true rfl, Nat.le_of_ble_eq_true rfl⟩) (fun r_ u H locs hp w => ?_)
            exact fin u u _ _ _ _ _ _ _ rfl hp w dL_act_175 (Nat.le_of_ble_eq_true rfl) (Nat.le_of_ble_eq_true rfl)
          · omega
        have hxi : (zI (lwF v 16)).toInt = lwF v 16 := zI_toInt ⟨by omega, by omega⟩
        have h9 := hk
        exact lv_tableIn (off := 46) (tgt := 124) hx hb dL_act_78 (by rw [hxi]; omega) (by rw [hxi]; omega) (by rw [hxi, h9]; rfl) (by decide) kk

set_option maxHeartbeats 2000000 in
set_option maxRecDepth 100000 in
theorem act_o_1 (l : Launch) (D : va_G) (G : Nat → ClassId) (ad : Nat → Nat) (N : Nat) (c : Nat → va_E) {v : Int32} {told : Int} {P1 : PT} (ho : lwF (v >>> (zI 24 &&& 31)) 9 = 0) (hk : 1 ≤ lwF v 16 ∧ lwF v 16 ≤ 4) (hM : MC l yL_grace wsL_grace rm_L_grace [.ref (ad 0), .int (zI ((lwF (v >>> (zI 7 &&& 31)) 13) - 1))] D G ad N c (qI D G wI (hP G ad told P1)) 2 6) : MC l yL_act wsL_act rm_L_act [.ref (ad 0), .int v] D G ad N c (qI D G wI (hP G ad told P1)) 2 6 := by
  refine MCi.of (cc := cL_act) (maxL := 5) (by decide) rfl (Nat.le_of_ble_eq_true rfl) ?_
  intro p e s m args below meth kc A Q hx hb hts hown hml fin H locs w ls hl
  have hown : s.vm.findClass RL = some m.cls := hown
  have hl : lv_has ls 5 [(0, .ref (ad 0)), (1, .int v)] := hl
  refine lv_iload_n hx hb dL_act_0 rfl (lv_at hl 1 rfl) ?_
  refine lv_bipush (v := zI (24)) hx hb dL_act_1 (by decide +kernel) ?_
  refine lv_ishr hx hb dL_act_3 ?_
  refine lv_bipush (v := zI (9)) hx hb dL_act_4 (by decide +kernel) ?_
  refine pw_ci w (pw_runS (As := [.int (v >>> ((zI 24) &&& 31)), .int (zI 9)]) (rest := []) w ⟨hx, hb, hml, hown, hts⟩ (c_L_low l D G ad N c (x := (v >>> ((zI 24) &&& 31))) (n := 9) (by decide) (by decide)) (va_cwS 2 hts gL_act_L_low rfl rfl rfl (by decide +kernel) ⟨Nat.le_of_ble_eq_true rfl, Nat.le_of_ble_eq_true rfl⟩) rfl hl.1 rfl (lv_room (Nat.le_of_ble_eq_true rfl)) dL_act_6 ⟨Nat.le_of_ble_eq_true rfl, Nat.le_of_ble_eq_true rfl⟩) (fun r_ u H locs hp w => ?_)
  obtain ⟨hv, hu⟩ := hp
  subst hv
  have w : PW D G A s ad N c H locs := by rw [hu] at w; exact w
  clear hu
  have hb9 := lwF_bd (v >>> ((zI 24) &&& 31)) (n := 9) (by decide) (by decide)
  refine pz_ifne (tgt := 16) hx hb dL_act_9 (by decide) (⟨by omega, by omega⟩) (fun h1 => ?_) (fun h1 => ?_)
  · omega
  · refine lv_iconst (v := zI (1)) hx hb dL_act_12 rfl ?_
    refine lv_goto (tgt := 17) hx hb dL_act_13 (by decide) ?_
    refine lv_istore_n (lv' := [(2, .int (zI 1)), (0, .ref (ad 0)), (1, .int v)]) hx hb dL_act_17 rfl hl (by decide) rfl (fun ls hl => ?_)
    refine lv_iload_n hx hb dL_act_18 rfl (lv_at hl 0 rfl) ?_
    refine pz_ifeq (tgt := 35) hx hb dL_act_19 (by decide) (⟨by omega, by omega⟩) (fun h2 => ?_) (fun h2 => ?_)
    · omega
    · refine lv_iload_n hx hb dL_act_22 rfl (lv_at hl 2 rfl) ?_
      refine lv_iconst (v := zI (4)) hx hb dL_act_23 rfl ?_
      refine lv_ishr hx hb dL_act_24 ?_
      refine lv_bipush (v := zI (6)) hx hb dL_act_25 (by decide +kernel) ?_
      refine pw_ci w (pw_runS (As := [.int (v >>> ((zI 4) &&& 31)), .int (zI 6)]) (rest := []) w ⟨hx, hb, hml, hown, hts⟩ (c_L_low l D G ad N c (x := (v >>> ((zI 4) &&& 31))) (n := 6) (by decide) (by decide)) (va_cwS 2 hts gL_act_L_low rfl rfl rfl (by decide +kernel) ⟨Nat.le_of_ble_eq_true rfl, Nat.le_of_ble_eq_true rfl⟩) rfl hl.1 rfl (lv_room (Nat.le_of_ble_eq_true rfl)) dL_act_27 ⟨Nat.le_of_ble_eq_true rfl, Nat.le_of_ble_eq_true rfl⟩) (fun r_ u H locs hp w => ?_)
      obtain ⟨hv, hu⟩ := hp
      subst hv
      have w : PW D G A s ad N c H locs := by rw [hu] at w; exact w
      clear hu
      have hb30 := lwF_bd (v >>> ((zI 4) &&& 31)) (n := 6) (by decide) (by decide)
      refine lv_iconst (v := zI (1)) hx hb dL_act_30 rfl ?_
      refine pz_isub hx hb dL_act_31 ?_
      refine lv_goto (tgt := 42) hx hb dL_act_32 (by decide) ?_
      refine lv_istore_n (lv' := [(3, .int (zI ((lwF (v >>> ((zI 4) &&& 31)) 6) - 1))), (2, .int (zI 1)), (0, .ref (ad 0)), (1, .int v)]) hx hb dL_act_42 rfl hl (by decide) rfl (fun ls hl => ?_)
      refine lv_iload_n hx hb dL_act_43 rfl (lv_at hl 1 rfl) ?_
      refine pz_ifeq (tgt := 61) hx hb dL_act_44 (by decide) (⟨by omega, by omega⟩) (fun h3 => ?_) (fun h3 => ?_)
      · omega
      · refine lv_iload_n hx hb dL_act_47 rfl (lv_at hl 3 rfl) ?_
        refine lv_bipush (v := zI (7)) hx hb dL_act_48 (by decide +kernel) ?_
        refine lv_ishr hx hb dL_act_50 ?_
        refine lv_bipush (v := zI (11)) hx hb dL_act_51 (by decide +kernel) ?_
        refine pw_ci w (pw_runS (As := [.int (v >>> ((zI 7) &&& 31)), .int (zI 11)]) (rest := []) w ⟨hx, hb, hml, hown, hts⟩ (c_L_low l D G ad N c (x := (v >>> ((zI 7) &&& 31))) (n := 11) (by decide) (by decide)) (va_cwS 2 hts gL_act_L_low rfl rfl rfl (by decide +kernel) ⟨Nat.le_of_ble_eq_true rfl, Nat.le_of_ble_eq_true rfl⟩) rfl hl.1 rfl (lv_room (Nat.le_of_ble_eq_true rfl)) dL_act_53 ⟨Nat.le_of_ble_eq_true rfl, Nat.le_of_ble_eq_true rfl⟩) (fun r_ u H locs hp w => ?_)
        obtain ⟨hv, hu⟩ := hp
        subst hv
        have w : PW D G A s ad N c H locs := by rw [hu] at w; exact w
        clear hu
        have hb56 := lwF_bd (v >>> ((zI 7) &&& 31)) (n := 11) (by decide) (by decide)
        refine lv_iconst (v := zI (1)) hx hb dL_act_56 rfl ?_
        refine pz_isub hx hb dL_act_57 ?_
        refine lv_goto (tgt := 70) hx hb dL_act_58 (by decide) ?_
        refine lv_istore (lv' := [(4, .int (zI ((lwF (v >>> ((zI 7) &&& 31)) 11) - 1))), (3, .int (zI ((lwF (v >>> ((zI 4) &&& 31)) 6) - 1))), (2, .int (zI 1)), (0, .ref (ad 0)), (1, .int v)]) hx hb dL_act_70 hl (by decide) rfl (fun ls hl => ?_)
        refine lv_iload_n hx hb dL_act_72 rfl (lv_at hl 4 rfl) ?_
        refine lv_bipush (v := zI (16)) hx hb dL_act_73 (by decide +kernel) ?_
        refine pw_ci w (pw_runS (As := [.int v, .int (zI 16)]) (rest := []) w ⟨hx, hb, hml, hown, hts⟩ (c_L_low l D G ad N c (x := v) (n := 16) (by decide) (by decide)) (va_cwS 2 hts gL_act_L_low rfl rfl rfl (by decide +kernel) ⟨Nat.le_of_ble_eq_true rfl, Nat.le_of_ble_eq_true rfl⟩) rfl hl.1 rfl (lv_room (Nat.le_of_ble_eq_true rfl)) dL_act_75 ⟨Nat.le_of_ble_eq_true rfl, Nat.le_of_ble_eq_true rfl⟩) (fun r_ u H locs hp w => ?_)
        obtain ⟨hv, hu⟩ := hp
        subst hv
        have w : PW D G A s ad N c H locs := by rw [hu] at w; exact w
        clear hu
        have hb78 := lwF_bd v (n := 16) (by decide) (by decide)
        have kk : W p l e rm_L_act s m args below meth kc H locs 0 0 Q (F0 m 176 ls []) := by
          refine lv_aload_n hx hb dL_act_176 rfl (lv_at hl 3 rfl) ?_
          refine lv_iload_n hx hb dL_act_177 rfl (lv_at hl 2 rfl) ?_
          refine pz_ifeq (tgt := 195) hx hb dL_act_178 (by decide) (⟨by omega, by omega⟩) (fun h4 => ?_) (fun h4 => ?_)
          · omega
          · refine lv_iload_n hx hb dL_act_181 rfl (lv_at hl 4 rfl) ?_
            refine lv_bipush (v := zI (7)) hx hb dL_act_182 (by decide +kernel) ?_
            refine lv_ishr hx hb dL_act_184 ?_
            refine lv_bipush (v := zI (13)) hx hb dL_act_185 (by decide +kernel) ?_
            refine pw_ci w (pw_runS (As := [.int (v >>> ((zI 7) &&& 31)), .int (zI 13)]) (rest := [.ref (ad 0)]) w ⟨hx, hb, hml, hown, hts⟩ (c_L_low l D G ad N c (x := (v >>> ((zI 7) &&& 31))) (n := 13) (by decide) (by decide)) (va_cwS 2 hts gL_act_L_low rfl rfl rfl (by decide +kernel) ⟨Nat.le_of_ble_eq_true rfl, Nat.le_of_ble_eq_true rfl⟩) rfl hl.1 rfl (lv_room (Nat.le_of_ble_eq_true rfl)) dL_act_187 ⟨Nat.le_of_ble_eq_true rfl, Nat.le_of_ble_eq_true rfl⟩) (fun r_ u H locs hp w => ?_)
            obtain ⟨hv, hu⟩ := hp
            subst hv
            have w : PW D G A s ad N c H locs := by rw [hu] at w; exact w
            clear hu
            have hb190 := lwF_bd (v >>> ((zI 7) &&& 31)) (n := 13) (by decide) (by decide)
            refine lv_iconst (v := zI (1)) hx hb dL_act_190 rfl ?_
            refine pz_isub hx hb dL_act_191 ?_
            refine lv_goto (tgt := 204) hx hb dL_act_192 (by decide) ?_
            refine pw_ci w (pw_runSW (As := [.ref (ad 0), .int (zI ((lwF (v >>> ((zI 7) &&& 31)) 13) - 1))]) (rest := []) w ⟨hx, hb, hml, hown, hts⟩ hM (vx_cwSW 2 hts gL_act_L_grace rfl rfl rfl (by decide +kernel) ⟨Nat.le_of_ble_eq_true rfl, Nat.le_of_ble_eq_true rfl⟩) rfl hl.1 rfl (lv_room (Nat.le_of_ble_eq_true rfl)) dL_act_204 ⟨Nat.le_of_ble_eq_true rfl, Nat.le_of_ble_eq_true rfl⟩) (fun r_ u H locs hp w => ?_)
            exact fin u u _ _ _ _ _ _ _ rfl hp w dL_act_207 (Nat.le_of_ble_eq_true rfl) (Nat.le_of_ble_eq_true rfl)
        have hxi : (zI (lwF v 16)).toInt = lwF v 16 := zI_toInt ⟨by omega, by omega⟩
        rcases (by omega : lwF v 16 = 1 ∨ lwF v 16 = 2 ∨ lwF v 16 = 3 ∨ lwF v 16 = 4) with h9 | h9 | h9 | h9
        · exact lv_tableIn (off := 98) (tgt := 176) hx hb dL_act_78 (by rw [hxi]; omega) (by rw [hxi]; omega) (by rw [hxi, h9]; rfl) (by decide) kk
        · exact lv_tableIn (off := 98) (tgt := 176) hx hb dL_act_78 (by rw [hxi]; omega) (by rw [hxi]; omega) (by rw [hxi, h9]; rfl) (by decide) kk
        · exact lv_tableIn (off := 98) (tgt := 176) hx hb dL_act_78 (by rw [hxi]; omega) (by rw [hxi]; omega) (by rw [hxi, h9]; rfl) (by decide) kk
        · exact lv_tableIn (off := 98) (tgt := 176) hx hb dL_act_78 (by rw [hxi]; omega) (by rw [hxi]; omega) (by rw [hxi, h9]; rfl) (by decide) kk

set_option maxHeartbeats 2000000 in
set_option maxRecDepth 100000 in
theorem act_o_5 (l : Launch) (D : va_G) (G : Nat → ClassId) (ad : Nat → Nat) (N : Nat) (c : Nat → va_E) {v : Int32} {told : Int} {P1 : PT} (ho : lwF (v >>> (zI 24 &&& 31)) 9 = 0) (hk : lwF v 16 = 5 ∨ lwF v 16 = 6) (hM : MC l yL_enter wsL_enter rm_L_enter [.ref (ad 0)] D G ad N c (qI D G wI (hP G ad told P1)) 2 6) : MC l yL_act wsL_act rm_L_act [.ref (ad 0), .int v] D G ad N c (qI D G wI (hP G ad told P1)) 2 6 := by
  refine MCi.of (cc := cL_act) (maxL := 5) (by decide) rfl (Nat.le_of_ble_eq_true rfl) ?_
  intro p e s m args below meth kc A Q hx hb hts hown hml fin H locs w ls hl
  have hown : s.vm.findClass RL = some m.cls := hown
  have hl : lv_has ls 5 [(0, .ref (ad 0)), (1, .int v)] := hl
  refine lv_iload_n hx hb dL_act_0 rfl (lv_at hl 1 rfl) ?_
  refine lv_bipush (v := zI (24)) hx hb dL_act_1 (by decide +kernel) ?_
  refine lv_ishr hx hb dL_act_3 ?_
  refine lv_bipush (v := zI (9)) hx hb dL_act_4 (by decide +kernel) ?_
  refine pw_ci w (pw_runS (As := [.int (v >>> ((zI 24) &&& 31)), .int (zI 9)]) (rest := []) w ⟨hx, hb, hml, hown, hts⟩ (c_L_low l D G ad N c (x := (v >>> ((zI 24) &&& 31))) (n := 9) (by decide) (by decide)) (va_cwS 2 hts gL_act_L_low rfl rfl rfl (by decide +kernel) ⟨Nat.le_of_ble_eq_true rfl, Nat.le_of_ble_eq_true rfl⟩) rfl hl.1 rfl (lv_room (Nat.le_of_ble_eq_true rfl)) dL_act_6 ⟨Nat.le_of_ble_eq_true rfl, Nat.le_of_ble_eq_true rfl⟩) (fun r_ u H locs hp w => ?_)
  obtain ⟨hv, hu⟩ := hp
  subst hv
  have w : PW D G A s ad N c H locs := by rw [hu] at w; exact w
  clear hu
  have hb9 := lwF_bd (v >>> ((zI 24) &&& 31)) (n := 9) (by decide) (by decide)
  refine pz_ifne (tgt := 16) hx hb dL_act_9 (by decide) (⟨by omega, by omega⟩) (fun h1 => ?_) (fun h1 => ?_)
  · omega
  · refine lv_iconst (v := zI (1)) hx hb dL_act_12 rfl ?_
    refine lv_goto (tgt := 17) hx hb dL_act_13 (by decide) ?_
    refine lv_istore_n (lv' := [(2, .int (zI 1)), (0, .ref (ad 0)), (1, .int v)]) hx hb dL_act_17 rfl hl (by decide) rfl (fun ls hl => ?_)
    refine lv_iload_n hx hb dL_act_18 rfl (lv_at hl 0 rfl) ?_
    refine pz_ifeq (tgt := 35) hx hb dL_act_19 (by decide) (⟨by omega, by omega⟩) (fun h2 => ?_) (fun h2 => ?_)
    · omega
    · refine lv_iload_n hx hb dL_act_22 rfl (lv_at hl 2 rfl) ?_
      refine lv_iconst (v := zI (4)) hx hb dL_act_23 rfl ?_
      refine lv_ishr hx hb dL_act_24 ?_
      refine lv_bipush (v := zI (6)) hx hb dL_act_25 (by decide +kernel) ?_
      refine pw_ci w (pw_runS (As := [.int (v >>> ((zI 4) &&& 31)), .int (zI 6)]) (rest := []) w ⟨hx, hb, hml, hown, hts⟩ (c_L_low l D G ad N c (x := (v >>> ((zI 4) &&& 31))) (n := 6) (by decide) (by decide)) (va_cwS 2 hts gL_act_L_low rfl rfl rfl (by decide +kernel) ⟨Nat.le_of_ble_eq_true rfl, Nat.le_of_ble_eq_true rfl⟩) rfl hl.1 rfl (lv_room (Nat.le_of_ble_eq_true rfl)) dL_act_27 ⟨Nat.le_of_ble_eq_true rfl, Nat.le_of_ble_eq_true rfl⟩) (fun r_ u H locs hp w => ?_)
      obtain ⟨hv, hu⟩ := hp
      subst hv
      have w : PW D G A s ad N c H locs := by rw [hu] at w; exact w
      clear hu
      have hb30 := lwF_bd (v >>> ((zI 4) &&& 31)) (n := 6) (by decide) (by decide)
      refine lv_iconst (v := zI (1)) hx hb dL_act_30 rfl ?_
      refine pz_isub hx hb dL_act_31 ?_
      refine lv_goto (tgt := 42) hx hb dL_act_32 (by decide) ?_
      refine lv_istore_n (lv' := [(3, .int (zI ((lwF (v >>> ((zI 4) &&& 31)) 6) - 1))), (2, .int (zI 1)), (0, .ref (ad 0)), (1, .int v)]) hx hb dL_act_42 rfl hl (by decide) rfl (fun ls hl => ?_)
      refine lv_iload_n hx hb dL_act_43 rfl (lv_at hl 1 rfl) ?_
      refine pz_ifeq (tgt := 61) hx hb dL_act_44 (by decide) (⟨by omega, by omega⟩) (fun h3 => ?_) (fun h3 => ?_)
      · omega
      · refine lv_iload_n hx hb dL_act_47 rfl (lv_at hl 3 rfl) ?_
        refine lv_bipush (v := zI (7)) hx hb dL_act_48 (by decide +kernel) ?_
        refine lv_ishr hx hb dL_act_50 ?_
        refine lv_bipush (v := zI (11)) hx hb dL_act_51 (by decide +kernel) ?_
        refine pw_ci w (pw_runS (As := [.int (v >>> ((zI 7) &&& 31)), .int (zI 11)]) (rest := []) w ⟨hx, hb, hml, hown, hts⟩ (c_L_low l D G ad N c (x := (v >>> ((zI 7) &&& 31))) (n := 11) (by decide) (by decide)) (va_cwS 2 hts gL_act_L_low rfl rfl rfl (by decide +kernel) ⟨Nat.le_of_ble_eq_true rfl, Nat.le_of_ble_eq_true rfl⟩) rfl hl.1 rfl (lv_room (Nat.le_of_ble_eq_true rfl)) dL_act_53 ⟨Nat.le_of_ble_eq_true rfl, Nat.le_of_ble_eq_true rfl⟩) (fun r_ u H locs hp w => ?_)
        obtain ⟨hv, hu⟩ := hp
        subst hv
        have w : PW D G A s ad N c H locs := by rw [hu] at w; exact w
        clear hu
        have hb56 := lwF_bd (v >>> ((zI 7) &&& 31)) (n := 11) (by decide) (by decide)
        refine lv_iconst (v := zI (1)) hx hb dL_act_56 rfl ?_
        refine pz_isub hx hb dL_act_57 ?_
        refine lv_goto (tgt := 70) hx hb dL_act_58 (by decide) ?_
        refine lv_istore (lv' := [(4, .int (zI ((lwF (v >>> ((zI 7) &&& 31)) 11) - 1))), (3, .int (zI ((lwF (v >>> ((zI 4) &&& 31)) 6) - 1))), (2, .int (zI 1)), (0, .ref (ad 0)), (1, .int v)]) hx hb dL_act_70 hl (by decide) rfl (fun ls hl => ?_)
        refine lv_iload_n hx hb dL_act_72 rfl (lv_at hl 4 rfl) ?_
        refine lv_bipush (v := zI (16)) hx hb dL_act_73 (by decide +kernel) ?_
        refine pw_ci w (pw_runS (As := [.int v, .int (zI 16)]) (rest := []) w ⟨hx, hb, hml, hown, hts⟩ (c_L_low l D G ad N c (x := v) (n := 16) (by decide) (by decide)) (va_cwS 2 hts gL_act_L_low rfl rfl rfl (by decide +kernel) ⟨Nat.le_of_ble_eq_true rfl, Nat.le_of_ble_eq_true rfl⟩) rfl hl.1 rfl (lv_room (Nat.le_of_ble_eq_true rfl)) dL_act_75 ⟨Nat.le_of_ble_eq_true rfl, Nat.le_of_ble_eq_true rfl⟩) (fun r_ u H locs hp w => ?_)
        obtain ⟨hv, hu⟩ := hp
        subst hv
        have w : PW D G A s ad N c H locs := by rw [hu] at w; exact w
        clear hu
        have hb78 := lwF_bd v (n := 16) (by decide) (by decide)
        have kk : W p l e rm_L_act s m args below meth kc H locs 0 0 Q (F0 m 208 ls []) := by
          refine lv_aload_n hx hb dL_act_208 rfl (lv_at hl 3 rfl) ?_
          refine pw_ci w (pw_runSW (As := [.ref (ad 0)]) (rest := []) w ⟨hx, hb, hml, hown, hts⟩ hM (vx_cwSW 1 hts gL_act_L_enter rfl rfl rfl (by decide +kernel) ⟨Nat.le_of_ble_eq_true rfl, Nat.le_of_ble_eq_true rfl⟩) rfl hl.1 rfl (lv_room (Nat.le_of_ble_eq_true rfl)) dL_act_209 ⟨Nat.le_of_ble_eq_true rfl, Nat.le_of_ble_eq_true rfl⟩) (fun r_ u H locs hp w => ?_)
          exact fin u u _ _ _ _ _ _ _ rfl hp w dL_act_212 (Nat.le_of_ble_eq_true rfl) (Nat.le_of_ble_eq_true rfl)
        have hxi : (zI (lwF v 16)).toInt = lwF v 16 := zI_toInt ⟨by omega, by omega⟩
        rcases (by omega : lwF v 16 = 5 ∨ lwF v 16 = 6) with h9 | h9
        · exact lv_tableIn (off := 130) (tgt := 208) hx hb dL_act_78 (by rw [hxi]; omega) (by rw [hxi]; omega) (by rw [hxi, h9]; rfl) (by decide) kk
        · exact lv_tableIn (off := 130) (tgt := 208) hx hb dL_act_78 (by rw [hxi]; omega) (by rw [hxi]; omega) (by rw [hxi, h9]; rfl) (by decide) kk

set_option maxHeartbeats 2000000 in
set_option maxRecDepth 100000 in
theorem act_o_7w (l : Launch) (D : va_G) (G : Nat → ClassId) (ad : Nat → Nat) (N : Nat) (c : Nat → va_E) {v : Int32} {told : Int} {P1 : PT} (ho : lwF (v >>> (zI 24 &&& 31)) 9 = 0) (hk : lwF v 16 = 7) (h7 : ((v >>> (zI 15 &&& 31)) &&& zI 1) = zI 1) (hM : MC l yL_setWish wsL_setWish rm_L_setWish [.ref (ad 0), .int (zI ((lwF (v >>> (zI 4 &&& 31)) 6) - 1)), .int (zI ((lwF (v >>> (zI 11 &&& 31)) 11) - 1)), .int (zI 1)] D G ad N c (qI D G wI (hP G ad told P1)) 2 6) : MC l yL_act wsL_act rm_L_act [.ref (ad 0), .int v] D G ad N c (qI D G wI (hP G ad told P1)) 2 6 := by
  refine MCi.of (cc := cL_act) (maxL := 5) (by decide) rfl (Nat.le_of_ble_eq_true rfl) ?_
  intro p e s m args below meth kc A Q hx hb hts hown hml fin H locs w ls hl
  have hown : s.vm.findClass RL = some m.cls := hown
  have hl : lv_has ls 5 [(0, .ref (ad 0)), (1, .int v)] := hl
  refine lv_iload_n hx hb dL_act_0 rfl (lv_at hl 1 rfl) ?_
  refine lv_bipush (v := zI (24)) hx hb dL_act_1 (by decide +kernel) ?_
  refine lv_ishr hx hb dL_act_3 ?_
  refine lv_bipush (v := zI (9)) hx hb dL_act_4 (by decide +kernel) ?_
  refine pw_ci w (pw_runS (As := [.int (v >>> ((zI 24) &&& 31)), .int (zI 9)]) (rest := []) w ⟨hx, hb, hml, hown, hts⟩ (c_L_low l D G ad N c (x := (v >>> ((zI 24) &&& 31))) (n := 9) (by decide) (by decide)) (va_cwS 2 hts gL_act_L_low rfl rfl rfl (by decide +kernel) ⟨Nat.le_of_ble_eq_true rfl, Nat.le_of_ble_eq_true rfl⟩) rfl hl.1 rfl (lv_room (Nat.le_of_ble_eq_true rfl)) dL_act_6 ⟨Nat.le_of_ble_eq_true rfl, Nat.le_of_ble_eq_true rfl⟩) (fun r_ u H locs hp w => ?_)
  obtain ⟨hv, hu⟩ := hp
  subst hv
  have w : PW D G A s ad N c H locs := by rw [hu] at w; exact w
  clear hu
  have hb9 := lwF_bd (v >>> ((zI 24) &&& 31)) (n := 9) (by decide) (by decide)
  refine pz_ifne (tgt := 16) hx hb dL_act_9 (by decide) (⟨by omega, by omega⟩) (fun h1 => ?_) (fun h1 => ?_)
  · omega
  · refine lv_iconst (v := zI (1)) hx hb dL_act_12 rfl ?_
    refine lv_goto (tgt := 17) hx hb dL_act_13 (by decide) ?_
    refine lv_istore_n (lv' := [(2, .int (zI 1)), (0, .ref (ad 0)), (1, .int v)]) hx hb dL_act_17 rfl hl (by decide) rfl (fun ls hl => ?_)
    refine lv_iload_n hx hb dL_act_18 rfl (lv_at hl 0 rfl) ?_
    refine pz_ifeq (tgt := 35) hx hb dL_act_19 (by decide) (⟨by omega, by omega⟩) (fun h2 => ?_) (fun h2 => ?_)
    · omega
    · refine lv_iload_n hx hb dL_act_22 rfl (lv_at hl 2 rfl) ?_
      refine lv_iconst (v := zI (4)) hx hb dL_act_23 rfl ?_
      refine lv_ishr hx hb dL_act_24 ?_
      refine lv_bipush (v := zI (6)) hx hb dL_act_25 (by decide +kernel) ?_
      refine pw_ci w (pw_runS (As := [.int (v >>> ((zI 4) &&& 31)), .int (zI 6)]) (rest := []) w ⟨hx, hb, hml, hown, hts⟩ (c_L_low l D G ad N c (x := (v >>> ((zI 4) &&& 31))) (n := 6) (by decide) (by decide)) (va_cwS 2 hts gL_act_L_low rfl rfl rfl (by decide +kernel) ⟨Nat.le_of_ble_eq_true rfl, Nat.le_of_ble_eq_true rfl⟩) rfl hl.1 rfl (lv_room (Nat.le_of_ble_eq_true rfl)) dL_act_27 ⟨Nat.le_of_ble_eq_true rfl, Nat.le_of_ble_eq_true rfl⟩) (fun r_ u H locs hp w => ?_)
      obtain ⟨hv, hu⟩ := hp
      subst hv
      have w : PW D G A s ad N c H locs := by rw [hu] at w; exact w
      clear hu
      have hb30 := lwF_bd (v >>> ((zI 4) &&& 31)) (n := 6) (by decide) (by decide)
      refine lv_iconst (v := zI (1)) hx hb dL_act_30 rfl ?_
      refine pz_isub hx hb dL_act_31 ?_
      refine lv_goto (tgt := 42) hx hb dL_act_32 (by decide) ?_
      refine lv_istore_n (lv' := [(3, .int (zI ((lwF (v >>> ((zI 4) &&& 31)) 6) - 1))), (2, .int (zI 1)), (0, .ref (ad 0)), (1, .int v)]) hx hb dL_act_42 rfl hl (by decide) rfl (fun ls hl => ?_)
      refine lv_iload_n hx hb dL_act_43 rfl (lv_at hl 1 rfl) ?_
      refine pz_ifeq (tgt := 61) hx hb dL_act_44 (by decide) (⟨by omega, by omega⟩) (fun h3 => ?_) (fun h3 => ?_)
      · omega
      · refine lv_iload_n hx hb dL_act_47 rfl (lv_at hl 3 rfl) ?_
        refine lv_bipush (v := zI (7)) hx hb dL_act_48 (by decide +kernel) ?_
        refine lv_ishr hx hb dL_act_50 ?_
        refine lv_bipush (v := zI (11)) hx hb dL_act_51 (by decide +kernel) ?_
        refine pw_ci w (pw_runS (As := [.int (v >>> ((zI 7) &&& 31)), .int (zI 11)]) (rest := []) w ⟨hx, hb, hml, hown, hts⟩ (c_L_low l D G ad N c (x := (v >>> ((zI 7) &&& 31))) (n := 11) (by decide) (by decide)) (va_cwS 2 hts gL_act_L_low rfl rfl rfl (by decide +kernel) ⟨Nat.le_of_ble_eq_true rfl, Nat.le_of_ble_eq_true rfl⟩) rfl hl.1 rfl (lv_room (Nat.le_of_ble_eq_true rfl)) dL_act_53 ⟨Nat.le_of_ble_eq_true rfl, Nat.le_of_ble_eq_true rfl⟩) (fun r_ u H locs hp w => ?_)
        obtain ⟨hv, hu⟩ := hp
        subst hv
        have w : PW D G A s ad N c H locs := by rw [hu] at w; exact w
        clear hu
        have hb56 := lwF_bd (v >>> ((zI 7) &&& 31)) (n := 11) (by decide) (by decide)
        refine lv_iconst (v := zI (1)) hx hb dL_act_56 rfl ?_
        refine pz_isub hx hb dL_act_57 ?_
        refine lv_goto (tgt := 70) hx hb dL_act_58 (by decide) ?_
        refine lv_istore (lv' := [(4, .int (zI ((lwF (v >>> ((zI 7) &&& 31)) 11) - 1))), (3, .int (zI ((lwF (v >>> ((zI 4) &&& 31)) 6) - 1))), (2, .int (zI 1)), (0, .ref (ad 0)), (1, .int v)]) hx hb dL_act_70 hl (by decide) rfl (fun ls hl => ?_)
        refine lv_iload_n hx hb dL_act_72 rfl (lv_at hl 4 rfl) ?_
        refine lv_bipush (v := zI (16)) hx hb dL_act_73 (by decide +kernel) ?_
        refine pw_ci w (pw_runS (As := [.int v, .int (zI 16)]) (rest := []) w ⟨hx, hb, hml, hown, hts⟩ (c_L_low l D G ad N c (x := v) (n := 16) (by decide) (by decide)) (va_cwS 2 hts gL_act_L_low rfl rfl rfl (by decide +kernel) ⟨Nat.le_of_ble_eq_true rfl, Nat.le_of_ble_eq_true rfl⟩) rfl hl.1 rfl (lv_room (Nat.le_of_ble_eq_true rfl)) dL_act_75 ⟨Nat.le_of_ble_eq_true rfl, Nat.le_of_ble_eq_true rfl⟩) (fun r_ u H locs hp w => ?_)
        obtain ⟨hv, hu⟩ := hp
        subst hv
        have w : PW D G A s ad N c H locs := by rw [hu] at w; exact w
        clear hu
        have hb78 := lwF_bd v (n := 16) (by decide) (by decide)
        have kk : W p l e rm_L_act s m args below meth kc H locs 0 0 Q (F0 m 213 ls []) := by
          refine lv_aload_n hx hb dL_act_213 rfl (lv_at hl 3 rfl) ?_
          refine lv_iload_n hx hb dL_act_214 rfl (lv_at hl 1 rfl) ?_
          refine lv_iload_n hx hb dL_act_215 rfl (lv_at hl 4 rfl) ?_
          refine lv_bipush (v := zI (11)) hx hb dL_act_216 (by decide +kernel) ?_
          refine lv_ishr hx hb dL_act_218 ?_
          refine lv_iload_n hx hb dL_act_219 rfl (lv_at hl 2 rfl) ?_
          refine pz_ifeq (tgt := 228) hx hb dL_act_220 (by decide) (⟨by omega, by omega⟩) (fun h4 => ?_) (fun h4 => ?_)
          · omega
          · refine lv_bipush (v := zI (11)) hx hb dL_act_223 (by decide +kernel) ?_
            refine lv_goto (tgt := 229) hx hb dL_act_225 (by decide) ?_
            refine pw_ci w (pw_runS (As := [.int (v >>> ((zI 11) &&& 31)), .int (zI 11)]) (rest := [.int (zI ((lwF (v >>> ((zI 4) &&& 31)) 6) - 1)), .ref (ad 0)]) w ⟨hx, hb, hml, hown, hts⟩ (c_L_low l D G ad N c (x := (v >>> ((zI 11) &&& 31))) (n := 11) (by decide) (by decide)) (va_cwS 2 hts gL_act_L_low rfl rfl rfl (by decide +kernel) ⟨Nat.le_of_ble_eq_true rfl, Nat.le_of_ble_eq_true rfl⟩) rfl hl.1 rfl (lv_room (Nat.le_of_ble_eq_true rfl)) dL_act_229 ⟨Nat.le_of_ble_eq_true rfl, Nat.le_of_ble_eq_true rfl⟩) (fun r_ u H locs hp w => ?_)
            obtain ⟨hv, hu⟩ := hp
            subst hv
            have w : PW D G A s ad N c H locs := by rw [hu] at w; exact w
            clear hu
            have hb232 := lwF_bd (v >>> ((zI 11) &&& 31)) (n := 11) (by decide) (by decide)
            refine lv_iload_n hx hb dL_act_232 rfl (lv_at hl 2 rfl) ?_
            refine pz_ifeq (tgt := 240) hx hb dL_act_233 (by decide) (⟨by omega, by omega⟩) (fun h5 => ?_) (fun h5 => ?_)
            · omega
            · refine lv_iconst (v := zI (1)) hx hb dL_act_236 rfl ?_
              refine lv_goto (tgt := 241) hx hb dL_act_237 (by decide) ?_
              refine pz_isub hx hb dL_act_241 ?_
              refine lv_iload_n hx hb dL_act_242 rfl (lv_at hl 4 rfl) ?_
              refine lv_bipush (v := zI (15)) hx hb dL_act_243 (by decide +kernel) ?_
              refine lv_ishr hx hb dL_act_245 ?_
              refine lv_iconst (v := zI (1)) hx hb dL_act_246 rfl ?_
              refine lv_iand hx hb dL_act_247 ?_
              refine lv_iconst (v := zI (1)) hx hb dL_act_248 rfl ?_
              refine lv_icmp_ne (tgt := 256) hx hb dL_act_249 (by decide) (fun hq => ?_) (fun hq => ?_)
              · exact (by first | exact absurd h7 hq | exact absurd hq h7)
              · refine lv_iconst (v := zI (1)) hx hb dL_act_252 rfl ?_
                refine lv_goto (tgt := 257) hx hb dL_act_253 (by decide) ?_
                refine pw_ci w (pw_runSW (As := [.ref (ad 0), .int (zI ((lwF (v >>> ((zI 4) &&& 31)) 6) - 1)), .int (zI ((lwF (v >>> ((zI 11) &&& 31)) 11) - 1)), .int (zI 1)]) (rest := []) w ⟨hx, hb, hml, hown, hts⟩ hM (vx_cwSW 4 hts gL_act_L_setWish rfl rfl rfl (by decide +kernel) ⟨Nat.le_of_ble_eq_true rfl, Nat.le_of_ble_eq_true rfl⟩) rfl hl.1 rfl (lv_room (Nat.le_of_ble_eq_true rfl)) dL_act_257 ⟨Nat.le_of_ble_eq_true rfl, Nat.le_of_ble_eq_true rfl⟩) (fun r_ u H locs hp w => ?_)
                exact fin u u _ _ _ _ _ _ _ rfl hp w dL_act_260 (Nat.le_of_ble_eq_true rfl) (Nat.le_of_ble_eq_true rfl)
        have hxi : (zI (lwF v 16)).toInt = lwF v 16 := zI_toInt ⟨by omega, by omega⟩
        have h9 := hk
        exact lv_tableIn (off := 135) (tgt := 213) hx hb dL_act_78 (by rw [hxi]; omega) (by rw [hxi]; omega) (by rw [hxi, h9]; rfl) (by decide) kk

set_option maxHeartbeats 2000000 in
set_option maxRecDepth 100000 in
theorem act_o_7n (l : Launch) (D : va_G) (G : Nat → ClassId) (ad : Nat → Nat) (N : Nat) (c : Nat → va_E) {v : Int32} {told : Int} {P1 : PT} (ho : lwF (v >>> (zI 24 &&& 31)) 9 = 0) (hk : lwF v 16 = 7) (h7 : ¬ ((v >>> (zI 15 &&& 31)) &&& zI 1) = zI 1) (hM : MC l yL_setWish wsL_setWish rm_L_setWish [.ref (ad 0), .int (zI ((lwF (v >>> (zI 4 &&& 31)) 6) - 1)), .int (zI ((lwF (v >>> (zI 11 &&& 31)) 11) - 1)), .int (zI 0)] D G ad N c (qI D G wI (hP G ad told P1)) 2 6) : MC l yL_act wsL_act rm_L_act [.ref (ad 0), .int v] D G ad N c (qI D G wI (hP G ad told P1)) 2 6 := by
  refine MCi.of (cc := cL_act) (maxL := 5) (by decide) rfl (Nat.le_of_ble_eq_true rfl) ?_
  intro p e s m args below meth kc A Q hx hb hts hown hml fin H locs w ls hl
  have hown : s.vm.findClass RL = some m.cls := hown
  have hl : lv_has ls 5 [(0, .ref (ad 0)), (1, .int v)] := hl
  refine lv_iload_n hx hb dL_act_0 rfl (lv_at hl 1 rfl) ?_
  refine lv_bipush (v := zI (24)) hx hb dL_act_1 (by decide +kernel) ?_
  refine lv_ishr hx hb dL_act_3 ?_
  refine lv_bipush (v := zI (9)) hx hb dL_act_4 (by decide +kernel) ?_
  refine pw_ci w (pw_runS (As := [.int (v >>> ((zI 24) &&& 31)), .int (zI 9)]) (rest := []) w ⟨hx, hb, hml, hown, hts⟩ (c_L_low l D G ad N c (x := (v >>> ((zI 24) &&& 31))) (n := 9) (by decide) (by decide)) (va_cwS 2 hts gL_act_L_low rfl rfl rfl (by decide +kernel) ⟨Nat.le_of_ble_eq_true rfl, Nat.le_of_ble_eq_true rfl⟩) rfl hl.1 rfl (lv_room (Nat.le_of_ble_eq_true rfl)) dL_act_6 ⟨Nat.le_of_ble_eq_true rfl, Nat.le_of_ble_eq_true rfl⟩) (fun r_ u H locs hp w => ?_)
  obtain ⟨hv, hu⟩ := hp
  subst hv
  have w : PW D G A s ad N c H locs := by rw [hu] at w; exact w
  clear hu
  have hb9 := lwF_bd (v >>> ((zI 24) &&& 31)) (n := 9) (by decide) (by decide)
  refine pz_ifne (tgt := 16) hx hb dL_act_9 (by decide) (⟨by omega, by omega⟩) (fun h1 => ?_) (fun h1 => ?_)
  · omega
  · refine lv_iconst (v := zI (1)) hx hb dL_act_12 rfl ?_
    refine lv_goto (tgt := 17) hx hb dL_act_13 (by decide) ?_
    refine lv_istore_n (lv' := [(2, .int (zI 1)), (0, .ref (ad 0)), (1, .int v)]) hx hb dL_act_17 rfl hl (by decide) rfl (fun ls hl => ?_)
    refine lv_iload_n hx hb dL_act_18 rfl (lv_at hl 0 rfl) ?_
    refine pz_ifeq (tgt := 35) hx hb dL_act_19 (by decide) (⟨by omega, by omega⟩) (fun h2 => ?_) (fun h2 => ?_)
    · omega
    · refine lv_iload_n hx hb dL_act_22 rfl (lv_at hl 2 rfl) ?_
      refine lv_iconst (v := zI (4)) hx hb dL_act_23 rfl ?_
      refine lv_ishr hx hb dL_act_24 ?_
      refine lv_bipush (v := zI (6)) hx hb dL_act_25 (by decide +kernel) ?_
      refine pw_ci w (pw_runS (As := [.int (v >>> ((zI 4) &&& 31)), .int (zI 6)]) (rest := []) w ⟨hx, hb, hml, hown, hts⟩ (c_L_low l D G ad N c (x := (v >>> ((zI 4) &&& 31))) (n := 6) (by decide) (by decide)) (va_cwS 2 hts gL_act_L_low rfl rfl rfl (by decide +kernel) ⟨Nat.le_of_ble_eq_true rfl, Nat.le_of_ble_eq_true rfl⟩) rfl hl.1 rfl (lv_room (Nat.le_of_ble_eq_true rfl)) dL_act_27 ⟨Nat.le_of_ble_eq_true rfl, Nat.le_of_ble_eq_true rfl⟩) (fun r_ u H locs hp w => ?_)
      obtain ⟨hv, hu⟩ := hp
      subst hv
      have w : PW D G A s ad N c H locs := by rw [hu] at w; exact w
      clear hu
      have hb30 := lwF_bd (v >>> ((zI 4) &&& 31)) (n := 6) (by decide) (by decide)
      refine lv_iconst (v := zI (1)) hx hb dL_act_30 rfl ?_
      refine pz_isub hx hb dL_act_31 ?_
      refine lv_goto (tgt := 42) hx hb dL_act_32 (by decide) ?_
      refine lv_istore_n (lv' := [(3, .int (zI ((lwF (v >>> ((zI 4) &&& 31)) 6) - 1))), (2, .int (zI 1)), (0, .ref (ad 0)), (1, .int v)]) hx hb dL_act_42 rfl hl (by decide) rfl (fun ls hl => ?_)
      refine lv_iload_n hx hb dL_act_43 rfl (lv_at hl 1 rfl) ?_
      refine pz_ifeq (tgt := 61) hx hb dL_act_44 (by decide) (⟨by omega, by omega⟩) (fun h3 => ?_) (fun h3 => ?_)
      · omega
      · refine lv_iload_n hx hb dL_act_47 rfl (lv_at hl 3 rfl) ?_
        refine lv_bipush (v := zI (7)) hx hb dL_act_48 (by decide +kernel) ?_
        refine lv_ishr hx hb dL_act_50 ?_
        refine lv_bipush (v := zI (11)) hx hb dL_act_51 (by decide +kernel) ?_
        refine pw_ci w (pw_runS (As := [.int (v >>> ((zI 7) &&& 31)), .int (zI 11)]) (rest := []) w ⟨hx, hb, hml, hown, hts⟩ (c_L_low l D G ad N c (x := (v >>> ((zI 7) &&& 31))) (n := 11) (by decide) (by decide)) (va_cwS 2 hts gL_act_L_low rfl rfl rfl (by decide +kernel) ⟨Nat.le_of_ble_eq_true rfl, Nat.le_of_ble_eq_true rfl⟩) rfl hl.1 rfl (lv_room (Nat.le_of_ble_eq_true rfl)) dL_act_53 ⟨Nat.le_of_ble_eq_true rfl, Nat.le_of_ble_eq_true rfl⟩) (fun r_ u H locs hp w => ?_)
        obtain ⟨hv, hu⟩ := hp
        subst hv
        have w : PW D G A s ad N c H locs := by rw [hu] at w; exact w
        clear hu
        have hb56 := lwF_bd (v >>> ((zI 7) &&& 31)) (n := 11) (by decide) (by decide)
        refine lv_iconst (v := zI (1)) hx hb dL_act_56 rfl ?_
        refine pz_isub hx hb dL_act_57 ?_
        refine lv_goto (tgt := 70) hx hb dL_act_58 (by decide) ?_
        refine lv_istore (lv' := [(4, .int (zI ((lwF (v >>> ((zI 7) &&& 31)) 11) - 1))), (3, .int (zI ((lwF (v >>> ((zI 4) &&& 31)) 6) - 1))), (2, .int (zI 1)), (0, .ref (ad 0)), (1, .int v)]) hx hb dL_act_70 hl (by decide) rfl (fun ls hl => ?_)
        refine lv_iload_n hx hb dL_act_72 rfl (lv_at hl 4 rfl) ?_
        refine lv_bipush (v := zI (16)) hx hb dL_act_73 (by decide +kernel) ?_
        refine pw_ci w (pw_runS (As := [.int v, .int (zI 16)]) (rest := []) w ⟨hx, hb, hml, hown, hts⟩ (c_L_low l D G ad N c (x := v) (n := 16) (by decide) (by decide)) (va_cwS 2 hts gL_act_L_low rfl rfl rfl (by decide +kernel) ⟨Nat.le_of_ble_eq_true rfl, Nat.le_of_ble_eq_true rfl⟩) rfl hl.1 rfl (lv_room (Nat.le_of_ble_eq_true rfl)) dL_act_75 ⟨Nat.le_of_ble_eq_true rfl, Nat.le_of_ble_eq_true rfl⟩) (fun r_ u H locs hp w => ?_)
        obtain ⟨hv, hu⟩ := hp
        subst hv
        have w : PW D G A s ad N c H locs := by rw [hu] at w; exact w
        clear hu
        have hb78 := lwF_bd v (n := 16) (by decide) (by decide)
        have kk : W p l e rm_L_act s m args below meth kc H locs 0 0 Q (F0 m 213 ls []) := by
          refine lv_aload_n hx hb dL_act_213 rfl (lv_at hl 3 rfl) ?_
          refine lv_iload_n hx hb dL_act_214 rfl (lv_at hl 1 rfl) ?_
          refine lv_iload_n hx hb dL_act_215 rfl (lv_at hl 4 rfl) ?_
          refine lv_bipush (v := zI (11)) hx hb dL_act_216 (by decide +kernel) ?_
          refine lv_ishr hx hb dL_act_218 ?_
          refine lv_iload_n hx hb dL_act_219 rfl (lv_at hl 2 rfl) ?_
          refine pz_ifeq (tgt := 228) hx hb dL_act_220 (by decide) (⟨by omega, by omega⟩) (fun h4 => ?_) (fun h4 => ?_)
          · omega
          · refine lv_bipush (v := zI (11)) hx hb dL_act_223 (by decide +kernel) ?_
            refine lv_goto (tgt := 229) hx hb dL_act_225 (by decide) ?_
            refine pw_ci w (pw_runS (As := [.int (v >>> ((zI 11) &&& 31)), .int (zI 11)]) (rest := [.int (zI ((lwF (v >>> ((zI 4) &&& 31)) 6) - 1)), .ref (ad 0)]) w ⟨hx, hb, hml, hown, hts⟩ (c_L_low l D G ad N c (x := (v >>> ((zI 11) &&& 31))) (n := 11) (by decide) (by decide)) (va_cwS 2 hts gL_act_L_low rfl rfl rfl (by decide +kernel) ⟨Nat.le_of_ble_eq_true rfl, Nat.le_of_ble_eq_true rfl⟩) rfl hl.1 rfl (lv_room (Nat.le_of_ble_eq_true rfl)) dL_act_229 ⟨Nat.le_of_ble_eq_true rfl, Nat.le_of_ble_eq_true rfl⟩) (fun r_ u H locs hp w => ?_)
            obtain ⟨hv, hu⟩ := hp
            subst hv
            have w : PW D G A s ad N c H locs := by rw [hu] at w; exact w
            clear hu
            have hb232 := lwF_bd (v >>> ((zI 11) &&& 31)) (n := 11) (by decide) (by decide)
            refine lv_iload_n hx hb dL_act_232 rfl (lv_at hl 2 rfl) ?_
            refine pz_ifeq (tgt := 240) hx hb dL_act_233 (by decide) (⟨by omega, by omega⟩) (fun h5 => ?_) (fun h5 => ?_)
            · omega
            · refine lv_iconst (v := zI (1)) hx hb dL_act_236 rfl ?_
              refine lv_goto (tgt := 241) hx hb dL_act_237 (by decide) ?_
              refine pz_isub hx hb dL_act_241 ?_
              refine lv_iload_n hx hb dL_act_242 rfl (lv_at hl 4 rfl) ?_
              refine lv_bipush (v := zI (15)) hx hb dL_act_243 (by decide +kernel) ?_
              refine lv_ishr hx hb dL_act_245 ?_
              refine lv_iconst (v := zI (1)) hx hb dL_act_246 rfl ?_
              refine lv_iand hx hb dL_act_247 ?_
              refine lv_iconst (v := zI (1)) hx hb dL_act_248 rfl ?_
              refine lv_icmp_ne (tgt := 256) hx hb dL_act_249 (by decide) (fun hq => ?_) (fun hq => ?_)
              · refine lv_iconst (v := zI (0)) hx hb dL_act_256 rfl ?_
                refine pw_ci w (pw_runSW (As := [.ref (ad 0), .int (zI ((lwF (v >>> ((zI 4) &&& 31)) 6) - 1)), .int (zI ((lwF (v >>> ((zI 11) &&& 31)) 11) - 1)), .int (zI 0)]) (rest := []) w ⟨hx, hb, hml, hown, hts⟩ hM (vx_cwSW 4 hts gL_act_L_setWish rfl rfl rfl (by decide +kernel) ⟨Nat.le_of_ble_eq_true rfl, Nat.le_of_ble_eq_true rfl⟩) rfl hl.1 rfl (lv_room (Nat.le_of_ble_eq_true rfl)) dL_act_257 ⟨Nat.le_of_ble_eq_true rfl, Nat.le_of_ble_eq_true rfl⟩) (fun r_ u H locs hp w => ?_)
                exact fin u u _ _ _ _ _ _ _ rfl hp w dL_act_260 (Nat.le_of_ble_eq_true rfl) (Nat.le_of_ble_eq_true rfl)
              · exact (by first | exact absurd h7 hq | exact absurd hq h7)
        have hxi : (zI (lwF v 16)).toInt = lwF v 16 := zI_toInt ⟨by omega, by omega⟩
        have h9 := hk
        exact lv_tableIn (off := 135) (tgt := 213) hx hb dL_act_78 (by rw [hxi]; omega) (by rw [hxi]; omega) (by rw [hxi, h9]; rfl) (by decide) kk

set_option maxHeartbeats 2000000 in
set_option maxRecDepth 100000 in
theorem act_o_8 (l : Launch) (D : va_G) (G : Nat → ClassId) (ad : Nat → Nat) (N : Nat) (c : Nat → va_E) {v : Int32} {told : Int} {P1 : PT} (ho : lwF (v >>> (zI 24 &&& 31)) 9 = 0) (hk : 8 ≤ lwF v 16) (hM : MC l yL_addNote wsL_addNote rm_L_addNote [.ref (ad 0), .int (zI ((lwF (v >>> (zI 4 &&& 31)) 6) - 1)), .int (zI ((lwF (v >>> (zI 7 &&& 31)) 11) - 1)), .int (zI (lwF (v >>> (zI 11 &&& 31)) 35))] D G ad N c (qI D G wI (hP G ad told P1)) 2 6) : MC l yL_act wsL_act rm_L_act [.ref (ad 0), .int v] D G ad N c (qI D G wI (hP G ad told P1)) 2 6 := by
  refine MCi.of (cc := cL_act) (maxL := 5) (by decide) rfl (Nat.le_of_ble_eq_true rfl) ?_
  intro p e s m args below meth kc A Q hx hb hts hown hml fin H locs w ls hl
  have hown : s.vm.findClass RL = some m.cls := hown
  have hl : lv_has ls 5 [(0, .ref (ad 0)), (1, .int v)] := hl
  refine lv_iload_n hx hb dL_act_0 rfl (lv_at hl 1 rfl) ?_
  refine lv_bipush (v := zI (24)) hx hb dL_act_1 (by decide +kernel) ?_
  refine lv_ishr hx hb dL_act_3 ?_
  refine lv_bipush (v := zI (9)) hx hb dL_act_4 (by decide +kernel) ?_
  refine pw_ci w (pw_runS (As := [.int (v >>> ((zI 24) &&& 31)), .int (zI 9)]) (rest := []) w ⟨hx, hb, hml, hown, hts⟩ (c_L_low l D G ad N c (x := (v >>> ((zI 24) &&& 31))) (n := 9) (by decide) (by decide)) (va_cwS 2 hts gL_act_L_low rfl rfl rfl (by decide +kernel) ⟨Nat.le_of_ble_eq_true rfl, Nat.le_of_ble_eq_true rfl⟩) rfl hl.1 rfl (lv_room (Nat.le_of_ble_eq_true rfl)) dL_act_6 ⟨Nat.le_of_ble_eq_true rfl, Nat.le_of_ble_eq_true rfl⟩) (fun r_ u H locs hp w => ?_)
  obtain ⟨hv, hu⟩ := hp
  subst hv
  have w : PW D G A s ad N c H locs := by rw [hu] at w; exact w
  clear hu
  have hb9 := lwF_bd (v >>> ((zI 24) &&& 31)) (n := 9) (by decide) (by decide)
  refine pz_ifne (tgt := 16) hx hb dL_act_9 (by decide) (⟨by omega, by omega⟩) (fun h1 => ?_) (fun h1 => ?_)
  · omega
  · refine lv_iconst (v := zI (1)) hx hb dL_act_12 rfl ?_
    refine lv_goto (tgt := 17) hx hb dL_act_13 (by decide) ?_
    refine lv_istore_n (lv' := [(2, .int (zI 1)), (0, .ref (ad 0)), (1, .int v)]) hx hb dL_act_17 rfl hl (by decide) rfl (fun ls hl => ?_)
    refine lv_iload_n hx hb dL_act_18 rfl (lv_at hl 0 rfl) ?_
    refine pz_ifeq (tgt := 35) hx hb dL_act_19 (by decide) (⟨by omega, by omega⟩) (fun h2 => ?_) (fun h2 => ?_)
    · omega
    · refine lv_iload_n hx hb dL_act_22 rfl (lv_at hl 2 rfl) ?_
      refine lv_iconst (v := zI (4)) hx hb dL_act_23 rfl ?_
      refine lv_ishr hx hb dL_act_24 ?_
      refine lv_bipush (v := zI (6)) hx hb dL_act_25 (by decide +kernel) ?_
      refine pw_ci w (pw_runS (As := [.int (v >>> ((zI 4) &&& 31)), .int (zI 6)]) (rest := []) w ⟨hx, hb, hml, hown, hts⟩ (c_L_low l D G ad N c (x := (v >>> ((zI 4) &&& 31))) (n := 6) (by decide) (by decide)) (va_cwS 2 hts gL_act_L_low rfl rfl rfl (by decide +kernel) ⟨Nat.le_of_ble_eq_true rfl, Nat.le_of_ble_eq_true rfl⟩) rfl hl.1 rfl (lv_room (Nat.le_of_ble_eq_true rfl)) dL_act_27 ⟨Nat.le_of_ble_eq_true rfl, Nat.le_of_ble_eq_true rfl⟩) (fun r_ u H locs hp w => ?_)
      obtain ⟨hv, hu⟩ := hp
      subst hv
      have w : PW D G A s ad N c H locs := by rw [hu] at w; exact w
      clear hu
      have hb30 := lwF_bd (v >>> ((zI 4) &&& 31)) (n := 6) (by decide) (by decide)
      refine lv_iconst (v := zI (1)) hx hb dL_act_30 rfl ?_
      refine pz_isub hx hb dL_act_31 ?_
      refine lv_goto (tgt := 42) hx hb dL_act_32 (by decide) ?_
      refine lv_istore_n (lv' := [(3, .int (zI ((lwF (v >>> ((zI 4) &&& 31)) 6) - 1))), (2, .int (zI 1)), (0, .ref (ad 0)), (1, .int v)]) hx hb dL_act_42 rfl hl (by decide) rfl (fun ls hl => ?_)
      refine lv_iload_n hx hb dL_act_43 rfl (lv_at hl 1 rfl) ?_
      refine pz_ifeq (tgt := 61) hx hb dL_act_44 (by decide) (⟨by omega, by omega⟩) (fun h3 => ?_) (fun h3 => ?_)
      · omega
      · refine lv_iload_n hx hb dL_act_47 rfl (lv_at hl 3 rfl) ?_
        refine lv_bipush (v := zI (7)) hx hb dL_act_48 (by decide +kernel) ?_
        refine lv_ishr hx hb dL_act_50 ?_
        refine lv_bipush (v := zI (11)) hx hb dL_act_51 (by decide +kernel) ?_
        refine pw_ci w (pw_runS (As := [.int (v >>> ((zI 7) &&& 31)), .int (zI 11)]) (rest := []) w ⟨hx, hb, hml, hown, hts⟩ (c_L_low l D G ad N c (x := (v >>> ((zI 7) &&& 31))) (n := 11) (by decide) (by decide)) (va_cwS 2 hts gL_act_L_low rfl rfl rfl (by decide +kernel) ⟨Nat.le_of_ble_eq_true rfl, Nat.le_of_ble_eq_true rfl⟩) rfl hl.1 rfl (lv_room (Nat.le_of_ble_eq_true rfl)) dL_act_53 ⟨Nat.le_of_ble_eq_true rfl, Nat.le_of_ble_eq_true rfl⟩) (fun r_ u H locs hp w => ?_)
        obtain ⟨hv, hu⟩ := hp
        subst hv
        have w : PW D G A s ad N c H locs := by rw [hu] at w; exact w
        clear hu
        have hb56 := lwF_bd (v >>> ((zI 7) &&& 31)) (n := 11) (by decide) (by decide)
        refine lv_iconst (v := zI (1)) hx hb dL_act_56 rfl ?_
        refine pz_isub hx hb dL_act_57 ?_
        refine lv_goto (tgt := 70) hx hb dL_act_58 (by decide) ?_
        refine lv_istore (lv' := [(4, .int (zI ((lwF (v >>> ((zI 7) &&& 31)) 11) - 1))), (3, .int (zI ((lwF (v >>> ((zI 4) &&& 31)) 6) - 1))), (2, .int (zI 1)), (0, .ref (ad 0)), (1, .int v)]) hx hb dL_act_70 hl (by decide) rfl (fun ls hl => ?_)
        refine lv_iload_n hx hb dL_act_72 rfl (lv_at hl 4 rfl) ?_
        refine lv_bipush (v := zI (16)) hx hb dL_act_73 (by decide +kernel) ?_
        refine pw_ci w (pw_runS (As := [.int v, .int (zI 16)]) (rest := []) w ⟨hx, hb, hml, hown, hts⟩ (c_L_low l D G ad N c (x := v) (n := 16) (by decide) (by decide)) (va_cwS 2 hts gL_act_L_low rfl rfl rfl (by decide +kernel) ⟨Nat.le_of_ble_eq_true rfl, Nat.le_of_ble_eq_true rfl⟩) rfl hl.1 rfl (lv_room (Nat.le_of_ble_eq_true rfl)) dL_act_75 ⟨Nat.le_of_ble_eq_true rfl, Nat.le_of_ble_eq_true rfl⟩) (fun r_ u H locs hp w => ?_)
        obtain ⟨hv, hu⟩ := hp
        subst hv
        have w : PW D G A s ad N c H locs := by rw [hu] at w; exact w
        clear hu
        have hb78 := lwF_bd v (n := 16) (by decide) (by decide)
        have kk : W p l e rm_L_act s m args below meth kc H locs 0 0 Q (F0 m 261 ls []) := by
          refine lv_aload_n hx hb dL_act_261 rfl (lv_at hl 3 rfl) ?_
          refine lv_iload_n hx hb dL_act_262 rfl (lv_at hl 1 rfl) ?_
          refine lv_iload hx hb dL_act_263 (lv_at hl 0 rfl) ?_
          refine lv_iload_n hx hb dL_act_265 rfl (lv_at hl 2 rfl) ?_
          refine pz_ifeq (tgt := 281) hx hb dL_act_266 (by decide) (⟨by omega, by omega⟩) (fun h4 => ?_) (fun h4 => ?_)
          · omega
          · refine lv_iload_n hx hb dL_act_269 rfl (lv_at hl 4 rfl) ?_
            refine lv_bipush (v := zI (11)) hx hb dL_act_270 (by decide +kernel) ?_
            refine lv_ishr hx hb dL_act_272 ?_
            refine lv_bipush (v := zI (35)) hx hb dL_act_273 (by decide +kernel) ?_
            refine pw_ci w (pw_runS (As := [.int (v >>> ((zI 11) &&& 31)), .int (zI 35)]) (rest := [.int (zI ((lwF (v >>> ((zI 7) &&& 31)) 11) - 1)), .int (zI ((lwF (v >>> ((zI 4) &&& 31)) 6) - 1)), .ref (ad 0)]) w ⟨hx, hb, hml, hown, hts⟩ (c_L_low l D G ad N c (x := (v >>> ((zI 11) &&& 31))) (n := 35) (by decide) (by decide)) (va_cwS 2 hts gL_act_L_low rfl rfl rfl (by decide +kernel) ⟨Nat.le_of_ble_eq_true rfl, Nat.le_of_ble_eq_true rfl⟩) rfl hl.1 rfl (lv_room (Nat.le_of_ble_eq_true rfl)) dL_act_275 ⟨Nat.le_of_ble_eq_true rfl, Nat.le_of_ble_eq_true rfl⟩) (fun r_ u H locs hp w => ?_)
            obtain ⟨hv, hu⟩ := hp
            subst hv
            have w : PW D G A s ad N c H locs := by rw [hu] at w; exact w
            clear hu
            have hb278 := lwF_bd (v >>> ((zI 11) &&& 31)) (n := 35) (by decide) (by decide)
            refine lv_goto (tgt := 292) hx hb dL_act_278 (by decide) ?_
            refine pw_ci w (pw_runSW (As := [.ref (ad 0), .int (zI ((lwF (v >>> ((zI 4) &&& 31)) 6) - 1)), .int (zI ((lwF (v >>> ((zI 7) &&& 31)) 11) - 1)), .int (zI (lwF (v >>> ((zI 11) &&& 31)) 35))]) (rest := []) w ⟨hx, hb, hml, hown, hts⟩ hM (vx_cwSW 4 hts gL_act_L_addNote rfl rfl rfl (by decide +kernel) ⟨Nat.le_of_ble_eq_true rfl, Nat.le_of_ble_eq_true rfl⟩) rfl hl.1 rfl (lv_room (Nat.le_of_ble_eq_true rfl)) dL_act_292 ⟨Nat.le_of_ble_eq_true rfl, Nat.le_of_ble_eq_true rfl⟩) (fun r_ u H locs hp w => ?_)
            exact fin u u _ _ _ _ _ _ _ rfl hp w dL_act_295 (Nat.le_of_ble_eq_true rfl) (Nat.le_of_ble_eq_true rfl)
        have hxi : (zI (lwF v 16)).toInt = lwF v 16 := zI_toInt ⟨by omega, by omega⟩
        exact lv_tableOut (tgt := 261) hx hb dL_act_78 (Or.inr (by rw [hxi]; omega)) (by decide) kk
