theorem LWp.next {G : Nat → ClassId} {c : Nat → va_E} {at_ : Nat → Nat → Int} {no g i0 : Nat} (h : LWp G c at_ no g (i0 + 1) 9) : LWp G c at_ no g i0 0 := by
  obtain ⟨⟨g1, a1, b1⟩, ⟨g2, a2, b2⟩, g3, a3, b3⟩ := h
  exact ⟨⟨g1, a1, fun i a ha hi hia => b1 i a ha hi (by omega)⟩, ⟨g2, a2, fun i a ha hi hia => b2 i a ha hi (by omega)⟩, g3, a3, fun i a ha hi hia => b3 i a ha hi (by omega)⟩
/-- the model's arrays that hold nothing between the calls -/
def MoR (G : Nat → ClassId) (c : Nat → va_E) : Prop := (∃ g, isA 0 G (c 129) 40 g) ∧ (∃ g, isA 0 G (c 130) 40 g) ∧ (∃ g, isA 1 G (c 131) 40 g) ∧ (∃ g, isA 0 G (c 132) 369 g) ∧ (∃ g, isA 0 G (c 133) 369 g) ∧ (∃ g, isA 0 G (c 134) 369 g) ∧ (∃ g, isA 0 G (c 135) 4 g) ∧ ∃ g, isA 0 G (c 136) 4 g

theorem hin_X8_count_8 : ∀ w ∈ u_ws RX8 TX8 21, w ∈ wsX8_count := by decide +kernel
theorem fl_X8_count_105 : Cond.fieldLink RX8 105 "PipersDeskModel" "row" "I" ∈ wsX8_count := by decide +kernel
theorem fl_X8_count_48 : Cond.fieldLink RX8 48 "PipersDeskModel" "least" "[I" ∈ wsX8_count := by decide +kernel
theorem fl_X8_count_51 : Cond.fieldLink RX8 51 "PipersDeskModel" "ways" "[I" ∈ wsX8_count := by decide +kernel
theorem fl_X8_count_54 : Cond.fieldLink RX8 54 "PipersDeskModel" "most" "[I" ∈ wsX8_count := by decide +kernel
abbrev rm_X8_count : Room := { frames := 6, cells := 0, slots := 0, locals := 180 }
set_option maxHeartbeats 4000000 in
set_option maxRecDepth 100000 in
/-- count -/
theorem c_X8_count (l : Launch) (D : va_G) (G : Nat → ClassId) (ad : Nat → Nat) (N : Nat) (c : Nat → va_E) {th lim dn : Int} {no r : Nat} (hN : 139 ≤ N) (hm : c 120 = .inr (8, moV ad th lim (no : Int) dn (r : Int))) {gn : Nat → Nat} {gg : Nat → Nat → Nat} (hh : isA 0 G (c 121) 9 closedN) (hlim : bnd lim) (hB : MoB G c no gn gg) (hOV : OV no gn gg) {rp rl : Nat → Nat} {rw : Nat → Int} (hR : RowP G c r rp rl rw) (hRV : RowV r rp rl rw) {at_ : Nat → Nat → Int} (hat : at_ = atc lim gn gg rp rl rw) (hL0 : ∃ g, isA 0 G (c 132) 369 g) (hW0 : ∃ g, isA 0 G (c 133) 369 g) (hM0 : ∃ g, isA 0 G (c 134) 369 g) : MC l yX8_count wsX8_count rm_X8_count [.ref (ad 120)] D G ad N c (qV D G (fx ad N) (fun c1 => LWp G c1 at_ no (r - 1) 0 0 ∧ ∀ q, q ≠ 132 ∧ q ≠ 133 ∧ q ≠ 134 → c1 q = c q)) 0 0 := by
  refine MCv.of (cc := cX8_count) (maxL := 4) (by decide) rfl (Nat.le_of_ble_eq_true rfl) ?_
  intro p e s m args below meth kc A Q hx hb hts hown hml hin2 fin H locs w ls hl
  have hown : s.vm.findClass RX8 = some m.cls := hown
  have hl : lv_has ls 4 [(0, .ref (ad 120))] := hl
  have hr8 := hRV.1
  refine lv_aload_n hx hb dX8_count_0 rfl (lv_at hl 0 rfl) ?_
  refine pw_get (r := 120) (ci := 8) (C := RX8) (T := TX8) (Nf := 21) hx hb w hts hin_X8_count_8 hown (by omega) hm rfl 15 (by decide) (hts _ fl_X8_count_105) (fun _ h9 => h9) rfl dX8_count_1 ?_
  have j17 : ∀ (ls : Array Slot), lv_has ls 4 [(0, .ref (ad 120))] → W p l e rm_X8_count s m args below meth kc H locs 0 0 Q (F0 m 17 ls [.int (zI ((r - 1 : Nat) : Int))]) := by
    intro ls hl
    obtain ⟨gL0, l1⟩ := hL0
    obtain ⟨gW0, l2⟩ := hW0
    obtain ⟨gM0, l3⟩ := hM0
    refine lv_istore_n (lv' := [(1, .int (zI ((r - 1 : Nat) : Int))), (0, .ref (ad 120))]) hx hb dX8_count_17 rfl hl (by decide) rfl (fun ls hl => ?_)
    refine lv_iconst (v := zI (0)) hx hb dX8_count_18 rfl ?_
    refine lv_istore_n (lv' := [(2, .int (zI 0)), (1, .int (zI ((r - 1 : Nat) : Int))), (0, .ref (ad 120))]) hx hb dX8_count_19 rfl hl (by decide) rfl (fun ls hl => ?_)
    have lp : ∀ (f : Nat) (ah : Nat) (c1 : Nat → va_E) (H : Heap) (locs : List Loc) (ls : Array Slot), ah ≤ 9 → LWp G c1 at_ no (r - 1) (r - 1 + 1) ah → (∀ q, q ≠ 132 ∧ q ≠ 133 ∧ q ≠ 134 → c1 q = c q) → 9 < ah + f → PW D G A s ad N c1 H locs → lv_has ls 4 [(0, .ref (ad 120)), (1, .int (zI ((r - 1 : Nat) : Int))), (2, .int (zI (ah : Int)))] → W p l e rm_X8_count s m args below meth kc H locs 0 0 Q (F0 m 20 ls []) := by
      intro f
      induction f with
      | zero => intro ah c1 H locs ls h9 hL hf hfu w hl; omega
      | succ f ih =>
        intro ah c1 H locs ls h9 hL hf hfu w hl
        obtain ⟨⟨gL, q1, q1p⟩, ⟨gW, q2, q2p⟩, gM, q3, q3p⟩ := id hL
        refine lv_iload_n hx hb dX8_count_20 rfl (lv_at hl 2 rfl) ?_
        refine lv_bipush (v := zI (8)) hx hb dX8_count_21 (by decide +kernel) ?_
        refine pz_icmpgt (tgt := 68) hx hb dX8_count_23 (by decide) (⟨by omega, by omega⟩) (⟨by omega, by omega⟩) (fun hah => ?_) (fun hah => ?_)
        · have a9 : ah = 9 := by omega
          rw [a9] at hL
          have hL9 := hL.next
          refine lv_iload_n hx hb dX8_count_68 rfl (lv_at hl 1 rfl) ?_
          refine lv_iconst (v := zI (1)) hx hb dX8_count_69 rfl ?_
          refine pz_isub hx hb dX8_count_70 ?_
          refine lv_istore_n (lv' := [(2, .int (zI (((r - 1 : Nat) : Int) - 1))), (0, .ref (ad 120)), (1, .int (zI ((r - 1 : Nat) : Int)))]) hx hb dX8_count_71 rfl hl (by decide) rfl (fun ls hl => ?_)
          have lq : ∀ (f2 : Nat) (i : Nat) (c2 : Nat → va_E) (H : Heap) (locs : List Loc) (ls : Array Slot), i ≤ r - 1 → LWp G c2 at_ no (r - 1) i 0 → (∀ q, q ≠ 132 ∧ q ≠ 133 ∧ q ≠ 134 → c2 q = c q) → i < f2 → PW D G A s ad N c2 H locs → lv_has ls 4 [(0, .ref (ad 120)), (1, .int (zI ((r - 1 : Nat) : Int))), (2, .int (zI ((i : Int) - 1)))] → W p l e rm_X8_count s m args below meth kc H locs 0 0 Q (F0 m 72 ls []) := by
            intro f2
            induction f2 with
            | zero => intro i c2 H locs ls h9b hL2 hf2 hfu w hl; omega
            | succ f2 ih2 =>
              intro i c2 H locs ls h9b hL2 hf2 hfu w hl
              refine lv_iload_n hx hb dX8_count_72 rfl (lv_at hl 2 rfl) ?_
              refine pz_iflt (tgt := 102) hx hb dX8_count_73 (by decide) (⟨by omega, by omega⟩) (fun hi => ?_) (fun hi => ?_)
              · have i0 : i = 0 := by omega
                rw [i0] at hL2
                exact fin (ad, N, c2) c2 _ _ _ _ _ _ rfl ⟨hL2, hf2⟩ w dX8_count_102 (Nat.le_refl _) (Nat.le_refl _)
              · have hi0 : 0 < i := by omega
                refine lv_iconst (v := zI (0)) hx hb dX8_count_76 rfl ?_
                refine lv_istore_n (lv' := [(3, .int (zI 0)), (0, .ref (ad 120)), (1, .int (zI ((r - 1 : Nat) : Int))), (2, .int (zI ((i : Int) - 1)))]) hx hb dX8_count_77 rfl hl (by decide) rfl (fun ls hl => ?_)
                have lr : ∀ (f3 : Nat) (a3 : Nat) (c3 : Nat → va_E) (H : Heap) (locs : List Loc) (ls : Array Slot), a3 ≤ 9 → LWp G c3 at_ no (r - 1) (i - 1 + 1) a3 → (∀ q, q ≠ 132 ∧ q ≠ 133 ∧ q ≠ 134 → c3 q = c q) → 9 < a3 + f3 → PW D G A s ad N c3 H locs → lv_has ls 4 [(0, .ref (ad 120)), (1, .int (zI ((r - 1 : Nat) : Int))), (2, .int (zI ((i : Int) - 1))), (3, .int (zI (a3 : Int)))] → W p l e rm_X8_count s m args below meth kc H locs 0 0 Q (F0 m 78 ls []) := by
                  intro f3
                  induction f3 with
                  | zero => intro a3 c3 H locs ls h9c hL3 hf3 hfu w hl; omega
                  | succ f3 ih3 =>
                    intro a3 c3 H locs ls h9c hL3 hf3 hfu w hl
                    refine lv_iload_n hx hb dX8_count_78 rfl (lv_at hl 3 rfl) ?_
                    refine lv_bipush (v := zI (8)) hx hb dX8_count_79 (by decide +kernel) ?_
                    refine pz_icmpgt (tgt := 96) hx hb dX8_count_81 (by decide) (⟨by omega, by omega⟩) (⟨by omega, by omega⟩) (fun ha3 => ?_) (fun ha3 => ?_)
                    · have a9 : a3 = 9 := by omega
                      rw [a9] at hL3
                      have hL4 := hL3.next
                      refine pz_iinc (lv' := [(2, .int (zI (((i - 1 : Nat) : Int) - 1))), (0, .ref (ad 120)), (1, .int (zI ((r - 1 : Nat) : Int))), (3, .int (zI (a3 : Int)))]) hx hb dX8_count_96 hl (j := 2) rfl (((i - 1 : Nat) : Int) - 1) (by omega) (by decide) rfl (fun ls hl => ?_)
                      refine lv_goto (tgt := 72) hx hb dX8_count_99 (by decide) ?_
                      exact ih2 (i - 1) c3 H locs ls (by omega) hL4 hf3 (by omega) w (lv_sub hl [1, 2, 0] rfl)
                    · refine lv_aload_n hx hb dX8_count_84 rfl (lv_at hl 0 rfl) ?_
                      refine lv_iload_n hx hb dX8_count_85 rfl (lv_at hl 2 rfl) ?_
                      refine lv_iload_n hx hb dX8_count_86 rfl (lv_at hl 3 rfl) ?_
                      have e9 : ((i : Int) - 1) = ((i - 1 : Nat) : Int) := by omega
                      rw [e9]
                      have hab : ∀ j o, i - 1 + 1 ≤ j → j < i - 1 + 1 + (r - 1 - (i - 1 + 1)) → o ≤ no → 0 ≤ at_ j o := fun j o h1 h2 h3 => by
                        rw [hat]
                        have h := bw_bd (lim := lim) (m := rl j) (x := rp j) (y := rp (j + 1)) hOV.g (hRV.2 j (by omega)).1 (hRV.2 (j + 1) (by omega)).1 h3
                        unfold atc
                        split <;> omega
                      have hlb := fun o => lwm_bd (r - 1 - (i - 1 + 1)) (i - 1 + 1) o hab
                      refine pw_cv w (pw_runV (r := 120) (ci := 8) (As := [.int (zI ((i - 1 : Nat) : Int)), .int (zI (a3 : Int))]) (rest := []) w ⟨hx, hb, hml, hown, hts⟩ (c_X8_countAt l D G ad N c3 (gap := i - 1) (ah := a3) (g9 := r - 1) (at_ := at_) hN ((hf3 120 (by omega)).trans hm) (isA.fr (hf3 121 (by omega)) hh) hlim (hB.fr (hf3 122 (by omega)) (hf3 123 (by omega))) hOV (hR.fr (fun q h1 h2 => hf3 q (by omega))) hRV hat (by omega) rfl rfl rfl (fun o => ⟨(hlb o).1, (hlb o).2.1, (hlb o).2.2.1, (hlb o).2.2.2.1, (hlb o).2.2.2.2.1, by have := (hlb o).2.2.2.2.2; omega⟩) (by omega) (by omega) hL3) (cwV 2 hts gX8_count_X8_countAt rfl rfl rfl (by decide +kernel) ⟨Nat.le_of_ble_eq_true rfl, Nat.le_of_ble_eq_true rfl⟩) (by omega) ((hf3 120 (by omega)).trans hm) rfl rfl hl.1 rfl (lv_room (Nat.le_of_ble_eq_true rfl)) dX8_count_87 ⟨Nat.le_of_ble_eq_true rfl, Nat.le_of_ble_eq_true rfl⟩) (fun c1 H locs hp w => ?_)
                      have w : PW D G A s ad N c1 H locs := w
                      obtain ⟨hL1, fr1⟩ := hp
                      refine pz_iinc (lv' := [(3, .int (zI ((a3 + 1 : Nat) : Int))), (0, .ref (ad 120)), (1, .int (zI ((r - 1 : Nat) : Int))), (2, .int (zI ((i : Int) - 1)))]) hx hb dX8_count_90 hl (j := 3) rfl ((a3 + 1 : Nat) : Int) (by omega) (by decide) rfl (fun ls hl => ?_)
                      refine lv_goto (tgt := 78) hx hb dX8_count_93 (by decide) ?_
                      exact ih3 (a3 + 1) c1 H locs ls (by omega) hL1 (fun q hq => (fr1 q (by omega)).trans (hf3 q hq)) (by omega) w (lv_sub hl [1, 2, 3, 0] rfl)
                exact lr 10 0 c2 H locs ls (by omega) (by rw [show i - 1 + 1 = i from by omega]; exact hL2) hf2 (by omega) w (lv_sub hl [1, 2, 3, 0] rfl)
          exact lq (r + 1) (r - 1) c1 H locs ls (by omega) hL9 hf (by omega) w (lv_sub hl [1, 2, 0] rfl)
        · refine lv_aload_n hx hb dX8_count_26 rfl (lv_at hl 0 rfl) ?_
          refine pw_get (r := 120) (ci := 8) (C := RX8) (T := TX8) (Nf := 21) hx hb w hts hin_X8_count_8 hown (by omega) ((hf 120 (by omega)).trans hm) rfl 16 (by decide) (hts _ fl_X8_count_48) (fun _ h9 => h9) rfl dX8_count_27 ?_
          refine lv_bipush (v := zI (9)) hx hb dX8_count_30 (by decide +kernel) ?_
          refine lv_iload_n hx hb dX8_count_32 rfl (lv_at hl 1 rfl) ?_
          refine pz_imul hx hb dX8_count_33 ?_
          refine lv_iload_n hx hb dX8_count_34 rfl (lv_at hl 2 rfl) ?_
          refine pz_iadd hx hb dX8_count_35 ?_
          refine lv_iconst (v := zI (0)) hx hb dX8_count_36 rfl ?_
          refine pw_iast' (r := 132) (j := (9 * (r - 1) + ah)) hx hb w (by omega) q1 (by omega) (by omega) (by decide) dX8_count_37 (fun H locs c2 hc2 fr2 w => ?_)
          refine lv_aload_n hx hb dX8_count_38 rfl (lv_at hl 0 rfl) ?_
          refine pw_get (r := 120) (ci := 8) (C := RX8) (T := TX8) (Nf := 21) hx hb w hts hin_X8_count_8 hown (by omega) ((fr2 120 (by omega)).trans ((hf 120 (by omega)).trans hm)) rfl 17 (by decide) (hts _ fl_X8_count_51) (fun _ h9 => h9) rfl dX8_count_39 ?_
          refine lv_bipush (v := zI (9)) hx hb dX8_count_42 (by decide +kernel) ?_
          refine lv_iload_n hx hb dX8_count_44 rfl (lv_at hl 1 rfl) ?_
          refine pz_imul hx hb dX8_count_45 ?_
          refine lv_iload_n hx hb dX8_count_46 rfl (lv_at hl 2 rfl) ?_
          refine pz_iadd hx hb dX8_count_47 ?_
          refine lv_iconst (v := zI (1)) hx hb dX8_count_48 rfl ?_
          refine pw_iast' (r := 133) (j := (9 * (r - 1) + ah)) hx hb w (by omega) (isA.fr (fr2 133 (by omega)) q2) (by omega) (by omega) (by decide) dX8_count_49 (fun H locs c3 hc3 fr3 w => ?_)
          refine lv_aload_n hx hb dX8_count_50 rfl (lv_at hl 0 rfl) ?_
          refine pw_get (r := 120) (ci := 8) (C := RX8) (T := TX8) (Nf := 21) hx hb w hts hin_X8_count_8 hown (by omega) ((fr3 120 (by omega)).trans ((fr2 120 (by omega)).trans ((hf 120 (by omega)).trans hm))) rfl 18 (by decide) (hts _ fl_X8_count_54) (fun _ h9 => h9) rfl dX8_count_51 ?_
          refine lv_bipush (v := zI (9)) hx hb dX8_count_54 (by decide +kernel) ?_
          refine lv_iload_n hx hb dX8_count_56 rfl (lv_at hl 1 rfl) ?_
          refine pz_imul hx hb dX8_count_57 ?_
          refine lv_iload_n hx hb dX8_count_58 rfl (lv_at hl 2 rfl) ?_
          refine pz_iadd hx hb dX8_count_59 ?_
          refine lv_iconst (v := zI (0)) hx hb dX8_count_60 rfl ?_
          refine pw_iast' (r := 134) (j := (9 * (r - 1) + ah)) hx hb w (by omega) (isA.fr (fr3 134 (by omega)) (isA.fr (fr2 134 (by omega)) q3)) (by omega) (by omega) (by decide) dX8_count_61 (fun H locs c4 hc4 fr4 w => ?_)
          refine pz_iinc (lv' := [(2, .int (zI ((ah + 1 : Nat) : Int))), (0, .ref (ad 120)), (1, .int (zI ((r - 1 : Nat) : Int)))]) hx hb dX8_count_62 hl (j := 2) rfl ((ah + 1 : Nat) : Int) (by omega) (by decide) rfl (fun ls hl => ?_)
          refine lv_goto (tgt := 20) hx hb dX8_count_65 (by decide) ?_
          exact ih (ah + 1) c4 H locs ls (by omega) ⟨⟨_, (isA.fr (fr4 132 (by omega)) (isA.fr (fr3 132 (by omega)) hc2)), (fun i a ha hi hia => by
            unfold upI
            by_cases h : 9 * i + a = 9 * (r - 1) + ah
            · rw [if_pos h]
              have e1 : i = r - 1 := by omega
              rw [e1, show r - 1 - (r - 1) = 0 from by omega]
              rfl
            · rw [if_neg h]
              exact q1p i a ha hi (by omega))⟩, ⟨_, (isA.fr (fr4 133 (by omega)) hc3), (fun i a ha hi hia => by
            unfold upI
            by_cases h : 9 * i + a = 9 * (r - 1) + ah
            · rw [if_pos h]
              have e1 : i = r - 1 := by omega
              rw [e1, show r - 1 - (r - 1) = 0 from by omega]
              rfl
            · rw [if_neg h]
              exact q2p i a ha hi (by omega))⟩, _, hc4, (fun i a ha hi hia => by
            unfold upI
            by_cases h : 9 * i + a = 9 * (r - 1) + ah
            · rw [if_pos h]
              have e1 : i = r - 1 := by omega
              rw [e1, show r - 1 - (r - 1) = 0 from by omega]
              rfl
            · rw [if_neg h]
              exact q3p i a ha hi (by omega))⟩ (fun q hq => ((fr4 q (by omega)).trans ((fr3 q (by omega)).trans ((fr2 q (by omega)).trans (hf q hq))))) (by omega) w (lv_sub hl [1, 2, 0] rfl)
    exact lp 10 0 c H locs ls (by omega) ⟨⟨gL0, l1, fun i a ha hi hia => by omega⟩, ⟨gW0, l2, fun i a ha hi hia => by omega⟩, gM0, l3, fun i a ha hi hia => by omega⟩ (fun _ _ => rfl) (by omega) w (lv_sub hl [2, 1, 0] rfl)
  refine pz_ifle (tgt := 16) hx hb dX8_count_4 (by decide) (⟨by omega, by omega⟩) (fun hr0 => ?_) (fun hr0 => ?_)
  · refine lv_iconst (v := zI (0)) hx hb dX8_count_16 rfl ?_
    refine pz_top (b := ((r - 1 : Nat) : Int)) (by omega) ?_
    exact j17 ls (lv_sub hl [0] rfl)
  · refine lv_aload_n hx hb dX8_count_7 rfl (lv_at hl 0 rfl) ?_
    refine pw_get (r := 120) (ci := 8) (C := RX8) (T := TX8) (Nf := 21) hx hb w hts hin_X8_count_8 hown (by omega) hm rfl 15 (by decide) (hts _ fl_X8_count_105) (fun _ h9 => h9) rfl dX8_count_8 ?_
    refine lv_iconst (v := zI (1)) hx hb dX8_count_11 rfl ?_
    refine pz_isub hx hb dX8_count_12 ?_
    refine lv_goto (tgt := 17) hx hb dX8_count_13 (by decide) ?_
    refine pz_top (b := ((r - 1 : Nat) : Int)) (by omega) ?_
    exact j17 ls (lv_sub hl [0] rfl)

def rwT (n : Nat) (w : Nat → Int) : Nat → Int := fun i => if i + 1 < n then w i else 0
theorem rwT_V {n : Nat} {pt ln : Nat → Nat} {wi : Nat → Int} (h : TuneV n pt ln wi) : RowV n pt ln (rwT n wi) := ⟨by have := h.1; omega, fun i hi => ⟨(h.2.1 i hi).1, (h.2.1 i hi).2.1, (h.2.1 i hi).2.2, by
  unfold rwT
  split
  · exact h.2.2 i (by omega)
  · exact Or.inl rfl⟩⟩
theorem apN_0 {α : Type} (f g : Nat → α) : apN 0 f g = g := by
  funext i
  simp [apN]
/-- a row of n notes is laid and counted -/
def Laid (G : Nat → ClassId) (ad : Nat → Nat) (c : Nat → va_E) (th lim : Int) (no : Nat) (dn : Int) (gn : Nat → Nat) (gg : Nat → Nat → Nat) (n : Nat) (p l : Nat → Nat) (w : Nat → Int) : Prop := c 120 = .inr (8, moV ad th lim (no : Int) dn (n : Int)) ∧ RowP G c n p l w ∧ LWp G c (atc lim gn gg p l w) no (n - 1) 0 0
theorem Laid.R {G : Nat → ClassId} {ad : Nat → Nat} {c c1 : Nat → va_E} {th lim : Int} {no : Nat} {dn : Int} {gn : Nat → Nat} {gg : Nat → Nat → Nat} {n : Nat} {p l : Nat → Nat} {w : Nat → Int} (h : Laid G ad c1 th lim no dn gn gg n p l w) (hR : MoR G c) (h5 : c1 135 = c 135) (h6 : c1 136 = c 136) : MoR G c1 := by
  obtain ⟨-, -, -, -, -, -, ⟨g5, r5⟩, g6, r6⟩ := hR
  obtain ⟨-, ⟨⟨g1, a1, -⟩, ⟨g2, a2, -⟩, g3, a3, -⟩, ⟨gl, l1, -⟩, ⟨gw, l2, -⟩, gm, l3, -⟩ := h
  exact ⟨⟨g1, a1⟩, ⟨g2, a2⟩, ⟨g3, a3⟩, ⟨gl, l1⟩, ⟨gw, l2⟩, ⟨gm, l3⟩, ⟨g5, isA.fr h5 r5⟩, g6, isA.fr h6 r6⟩
theorem Laid.th {G : Nat → ClassId} {ad : Nat → Nat} {c c1 : Nat → va_E} {th th1 lim : Int} {no : Nat} {dn : Int} {gn : Nat → Nat} {gg : Nat → Nat → Nat} {n : Nat} {p l : Nat → Nat} {w : Nat → Int} (h : Laid G ad c th lim no dn gn gg n p l w) (h1 : c1 120 = .inr (8, moV ad th1 lim (no : Int) dn (n : Int))) (hf : ∀ q, q ≠ 120 → c1 q = c q) : Laid G ad c1 th1 lim no dn gn gg n p l w := ⟨h1, h.2.1.fr (fun q _ _ => hf q (by omega)), h.2.2.fr (fun q _ _ => hf q (by omega))⟩

theorem hin_X8_layTune_8 : ∀ w ∈ u_ws RX8 TX8 21, w ∈ wsX8_layTune := by decide +kernel
theorem fl_X8_layTune_105 : Cond.fieldLink RX8 105 "PipersDeskModel" "row" "I" ∈ wsX8_layTune := by decide +kernel
abbrev rm_X8_layTune : Room := { frames := 7, cells := 0, slots := 0, locals := 210 }
set_option maxHeartbeats 4000000 in
set_option maxRecDepth 100000 in
/-- layTune -/
theorem c_X8_layTune (l : Launch) (D : va_G) (G : Nat → ClassId) (ad : Nat → Nat) (N : Nat) (c : Nat → va_E) {th lim dn row : Int} {no : Nat} (hN : 139 ≤ N) (hm : c 120 = .inr (8, moV ad th lim (no : Int) dn row)) {gn : Nat → Nat} {gg : Nat → Nat → Nat} (hh : isA 0 G (c 121) 9 closedN) (hlim : bnd lim) (hB : MoB G c no gn gg) (hOV : OV no gn gg) {nn : Nat → Nat} {pt ln : Nat → Nat → Nat} {wi : Nat → Nat → Int} (hMT : MoT G c nn pt ln wi) (hUV : TusV nn pt ln wi) (hMR : MoR G c) {t : Nat} (ht : t < 4) : MC l yX8_layTune wsX8_layTune rm_X8_layTune [.ref (ad 120), .int (zI (t : Int))] D G ad N c (qV D G (fx ad N) (fun c1 => Laid G ad c1 th lim no dn gn gg (nn t) (pt t) (ln t) (rwT (nn t) (wi t)) ∧ ∀ q, (q < 120 ∨ (121 ≤ q ∧ q < 129) ∨ 135 ≤ q) → c1 q = c q)) 0 0 := by
  refine MCv.of (cc := cX8_layTune) (maxL := 2) (by decide) rfl (Nat.le_of_ble_eq_true rfl) ?_
  intro p e s m args below meth kc A Q hx hb hts hown hml hin2 fin H locs w ls hl
  have hown : s.vm.findClass RX8 = some m.cls := hown
  have hl : lv_has ls 2 [(0, .ref (ad 120)), (1, .int (zI (t : Int)))] := hl
  obtain ⟨⟨p1, q1⟩, ⟨p2, q2⟩, ⟨p3, q3⟩, hl0, hw0, hm0, -, -⟩ := id hMR
  have hn := hUV t ht
  have hn1 := hn.1
  refine lv_aload_n hx hb dX8_layTune_0 rfl (lv_at hl 0 rfl) ?_
  refine lv_iconst (v := zI (0)) hx hb dX8_layTune_1 rfl ?_
  refine pw_put' (r := 120) (ci := 8) (C := RX8) (T := TX8) (Nf := 21) hx hb w hts hin_X8_layTune_8 tyX8 tyX8_ok nmX8 hown (by omega) hm rfl 15 (by decide) (hts _ fl_X8_layTune_105) (fun _ h9 => h9) rfl (ty := .int) (by decide +kernel) rfl rfl (Nat.le_of_ble_eq_true rfl) dX8_layTune_2 (fun H locs c1 hc1 fr1 w => ?_)
  refine lv_aload_n hx hb dX8_layTune_5 rfl (lv_at hl 0 rfl) ?_
  refine lv_iload_n hx hb dX8_layTune_6 rfl (lv_at hl 1 rfl) ?_
  have hR0 : RowP G c1 0 (pt t) (ln t) (wi t) := ⟨⟨p1, isA.fr (fr1 129 (by omega)) q1, fun i hi => by omega⟩, ⟨p2, isA.fr (fr1 130 (by omega)) q2, fun i hi => by omega⟩, p3, isA.fr (fr1 131 (by omega)) q3, fun i hi => by omega⟩
  refine pw_cv w (pw_runV (r := 120) (ci := 8) (As := [.int (zI (t : Int))]) (rest := []) w ⟨hx, hb, hml, hown, hts⟩ (c_X8_append l D G ad N c1 (r := 0) (t := t) hN hc1 hR0 (hMT.fr (fun q _ _ => fr1 q (by omega))) hUV ht (by omega)) (cwV 1 hts gX8_layTune_X8_append rfl rfl rfl (by decide +kernel) ⟨Nat.le_of_ble_eq_true rfl, Nat.le_of_ble_eq_true rfl⟩) (by omega) hc1 rfl rfl hl.1 rfl (lv_room (Nat.le_of_ble_eq_true rfl)) dX8_layTune_7 ⟨Nat.le_of_ble_eq_true rfl, Nat.le_of_ble_eq_true rfl⟩) (fun c2 H locs hp w => ?_)
  have w : PW D G A s ad N c2 H locs := w
  obtain ⟨hm2, hR2, fr2⟩ := hp
  rw [apN_0, apN_0, apN_0, Nat.zero_add] at hR2
  rw [Nat.zero_add] at hm2
  refine lv_aload_n hx hb dX8_layTune_10 rfl (lv_at hl 0 rfl) ?_
  have hsl : (∃ g, isA 0 G (c2 132) 369 g) ∧ (∃ g, isA 0 G (c2 133) 369 g) ∧ ∃ g, isA 0 G (c2 134) 369 g := by
    obtain ⟨a, ha⟩ := hl0
    obtain ⟨b2, hb2⟩ := hw0
    obtain ⟨d, hd⟩ := hm0
    exact ⟨⟨a, isA.fr ((fr2 132 (by omega)).trans (fr1 132 (by omega))) ha⟩, ⟨b2, isA.fr ((fr2 133 (by omega)).trans (fr1 133 (by omega))) hb2⟩, d, isA.fr ((fr2 134 (by omega)).trans (fr1 134 (by omega))) hd⟩
  refine pw_cv w (pw_runV (r := 120) (ci := 8) (As := []) (rest := []) w ⟨hx, hb, hml, hown, hts⟩ (c_X8_count l D G ad N c2 (r := nn t) (rp := pt t) (rl := ln t) (rw := rwT (nn t) (wi t)) hN hm2 (isA.fr ((fr2 121 (by omega)).trans (fr1 121 (by omega))) hh) hlim (hB.fr ((fr2 122 (by omega)).trans (fr1 122 (by omega))) ((fr2 123 (by omega)).trans (fr1 123 (by omega)))) hOV hR2 (rwT_V hn) rfl hsl.1 hsl.2.1 hsl.2.2) (cwV 0 hts gX8_layTune_X8_count rfl rfl rfl (by decide +kernel) ⟨Nat.le_of_ble_eq_true rfl, Nat.le_of_ble_eq_true rfl⟩) (by omega) hm2 rfl rfl hl.1 rfl (lv_room (Nat.le_of_ble_eq_true rfl)) dX8_layTune_11 ⟨Nat.le_of_ble_eq_true rfl, Nat.le_of_ble_eq_true rfl⟩) (fun c3 H locs hp w => ?_)
  have w : PW D G A s ad N c3 H locs := w
  obtain ⟨hL3, fr3⟩ := hp
  exact fin (ad, N, c3) c3 _ _ _ _ _ _ rfl ⟨⟨(fr3 120 (by omega)).trans hm2, hR2.fr (fun q _ _ => fr3 q (by omega)), hL3⟩, fun q hq => (fr3 q (by omega)).trans ((fr2 q (by omega)).trans (fr1 q (by omega)))⟩ w dX8_layTune_14 (Nat.le_refl _) (Nat.le_refl _)

def isF (at_ : Nat → Nat → Int) (no g gap ah o : Nat) : Prop := (o = 0 ∨ o ≠ ah) ∧ 0 < (lwm at_ no (g - (gap + 1)) (gap + 1) o).2.1 ∧ at_ gap o + (lwm at_ no (g - (gap + 1)) (gap + 1) o).1 = (lwm at_ no (g - gap) gap ah).1

theorem hin_X8_isFirst_8 : ∀ w ∈ u_ws RX8 TX8 21, w ∈ wsX8_isFirst := by decide +kernel
theorem fl_X8_isFirst_51 : Cond.fieldLink RX8 51 "PipersDeskModel" "ways" "[I" ∈ wsX8_isFirst := by decide +kernel
theorem fl_X8_isFirst_48 : Cond.fieldLink RX8 48 "PipersDeskModel" "least" "[I" ∈ wsX8_isFirst := by decide +kernel
abbrev rm_X8_isFirst : Room := { frames := 5, cells := 0, slots := 0, locals := 150 }
set_option maxHeartbeats 4000000 in
set_option maxRecDepth 100000 in
/-- isFirst -/
theorem c_X8_isFirst (l : Launch) (D : va_G) (G : Nat → ClassId) (ad : Nat → Nat) (N : Nat) (c : Nat → va_E) {th lim dn row : Int} {no : Nat} (hN : 139 ≤ N) (hm : c 120 = .inr (8, moV ad th lim (no : Int) dn row)) {gn : Nat → Nat} {gg : Nat → Nat → Nat} (hh : isA 0 G (c 121) 9 closedN) (hlim : bnd lim) (hB : MoB G c no gn gg) (hOV : OV no gn gg) {r : Nat} {rp rl : Nat → Nat} {rw : Nat → Int} (hR : RowP G c r rp rl rw) (hRV : RowV r rp rl rw) {at_ : Nat → Nat → Int} {g9 : Nat} (hat : at_ = atc lim gn gg rp rl rw) (hg9 : g9 + 1 = r) (hL : LWp G c at_ no g9 0 0) {gap ah o : Nat} (hgap : gap < g9) (hah : ah < 9) (ho9 : o ≤ no) : MC l yX8_isFirst wsX8_isFirst rm_X8_isFirst [.ref (ad 120), .int (zI (gap : Int)), .int (zI (ah : Int)), .int (zI ((o : Int) - 1))] D G ad N c (qI D G (fx ad N) (fun v c1 => ((isF at_ no g9 gap ah o ∧ v = zI 1) ∨ (¬ isF at_ no g9 gap ah o ∧ v = zI 0)) ∧ c1 = c)) 0 0 := by
  refine MCz.of (cc := cX8_isFirst) (maxL := 6) (by decide) rfl (Nat.le_of_ble_eq_true rfl) ?_
  intro p e s m args below meth kc A Q hx hb hts hown hml fin H locs w ls hl
  have hown : s.vm.findClass RX8 = some m.cls := hown
  have hl : lv_has ls 6 [(0, .ref (ad 120)), (1, .int (zI (gap : Int))), (2, .int (zI (ah : Int))), (3, .int (zI ((o : Int) - 1)))] := hl
  obtain ⟨⟨gL, l1, l1p⟩, ⟨gW, l2, l2p⟩, gM, l3, l3p⟩ := id hL
  have hr8 := hRV.1
  have hno8 := hOV.1
  have hab : ∀ j o, 0 ≤ j → j < 0 + g9 → o ≤ no → 0 ≤ at_ j o ∧ at_ j o ≤ 6000000 := fun j o h1 h2 h3 => by
    rw [hat]
    have h := bw_bd (lim := lim) (m := rl j) (x := rp j) (y := rp (j + 1)) hOV.g (hRV.2 j (by omega)).1 (hRV.2 (j + 1) (by omega)).1 h3
    unfold atc
    split <;> omega
  have hb1 := lwm_bd (at_ := at_) (no := no) (g9 - (gap + 1)) (gap + 1) o (fun j o h1 h2 h3 => (hab j o (by omega) (by omega) h3).1)
  have hb2 := lwm_bd (at_ := at_) (no := no) (g9 - gap) gap ah (fun j o h1 h2 h3 => (hab j o (by omega) (by omega) h3).1)
  have hao := hab gap o (by omega) (by omega) ho9
  have eL := l1p (gap + 1) o (by omega) (by omega) (Or.inl (by omega))
  have eW := l2p (gap + 1) o (by omega) (by omega) (Or.inl (by omega))
  have eA := l1p gap ah hah (by omega) (Or.inl (by omega))
  refine lv_bipush (v := zI (9)) hx hb dX8_isFirst_0 (by decide +kernel) ?_
  refine lv_iload_n hx hb dX8_isFirst_2 rfl (lv_at hl 1 rfl) ?_
  refine lv_iconst (v := zI (1)) hx hb dX8_isFirst_3 rfl ?_
  refine pz_iadd hx hb dX8_isFirst_4 ?_
  refine pz_imul hx hb dX8_isFirst_5 ?_
  refine lv_iload_n hx hb dX8_isFirst_6 rfl (lv_at hl 3 rfl) ?_
  refine pz_iadd hx hb dX8_isFirst_7 ?_
  refine lv_iconst (v := zI (1)) hx hb dX8_isFirst_8 rfl ?_
  refine pz_iadd hx hb dX8_isFirst_9 ?_
  refine pz_top (b := ((9 * (gap + 1) + o : Nat) : Int)) (by omega) ?_
  refine lv_istore (lv' := [(4, .int (zI ((9 * (gap + 1) + o : Nat) : Int))), (0, .ref (ad 120)), (1, .int (zI (gap : Int))), (2, .int (zI (ah : Int))), (3, .int (zI ((o : Int) - 1)))]) hx hb dX8_isFirst_10 hl (by decide) rfl (fun ls hl => ?_)
  refine lv_iload_n hx hb dX8_isFirst_12 rfl (lv_at hl 4 rfl) ?_
  refine lv_iconst (v := zI (-1)) hx hb dX8_isFirst_13 rfl ?_
  have j24 : ∀ (ls : Array Slot), (o = 0 ∨ o ≠ ah) → lv_has ls 6 [(4, .int (zI ((9 * (gap + 1) + o : Nat) : Int))), (0, .ref (ad 120)), (1, .int (zI (gap : Int))), (2, .int (zI (ah : Int))), (3, .int (zI ((o : Int) - 1)))] → W p l e rm_X8_isFirst s m args below meth kc H locs 0 0 Q (F0 m 24 ls []) := by
    intro ls hal hl
    refine lv_aload_n hx hb dX8_isFirst_24 rfl (lv_at hl 1 rfl) ?_
    refine pw_get (r := 120) (ci := 8) (C := RX8) (T := TX8) (Nf := 21) hx hb w hts hin_X8_isFirst_8 hown (by omega) hm rfl 17 (by decide) (hts _ fl_X8_isFirst_51) (fun _ h9 => h9) rfl dX8_isFirst_25 ?_
    refine lv_iload hx hb dX8_isFirst_28 (lv_at hl 0 rfl) ?_
    refine pw_iald (r := 133) (j := (9 * (gap + 1) + o)) hx hb w (by omega) l2 (by omega) (by omega) (by decide) dX8_isFirst_30 ?_
    refine pz_top (b := (lwm at_ no (g9 - (gap + 1)) (gap + 1) o).2.1) (eW) ?_
    refine pz_ifle (tgt := 38) hx hb dX8_isFirst_31 (by decide) (⟨by omega, by omega⟩) (fun hw => ?_) (fun hw => ?_)
    · refine lv_iconst (v := zI (0)) hx hb dX8_isFirst_38 rfl ?_
      refine lv_istore (lv' := [(5, .int (zI 0)), (4, .int (zI ((9 * (gap + 1) + o : Nat) : Int))), (0, .ref (ad 120)), (1, .int (zI (gap : Int))), (2, .int (zI (ah : Int))), (3, .int (zI ((o : Int) - 1)))]) hx hb dX8_isFirst_39 hl (by decide) rfl (fun ls hl => ?_)
      refine lv_iload hx hb dX8_isFirst_41 (lv_at hl 0 rfl) ?_
      refine pz_ifeq (tgt := 78) hx hb dX8_isFirst_43 (by decide) (⟨by omega, by omega⟩) (fun h1 => ?_) (fun h1 => ?_)
      · refine lv_iconst (v := zI (0)) hx hb dX8_isFirst_78 rfl ?_
        exact fin (ad, N, c) c _ _ _ _ _ _ _ rfl (Or.inl rfl) ⟨Or.inr ⟨fun h => by have := h.2.1; omega, rfl⟩, rfl⟩ w dX8_isFirst_79 (Nat.le_refl _) (Nat.le_refl _)
      · omega
    · refine lv_iconst (v := zI (1)) hx hb dX8_isFirst_34 rfl ?_
      refine lv_goto (tgt := 39) hx hb dX8_isFirst_35 (by decide) ?_
      refine lv_istore (lv' := [(5, .int (zI 1)), (4, .int (zI ((9 * (gap + 1) + o : Nat) : Int))), (0, .ref (ad 120)), (1, .int (zI (gap : Int))), (2, .int (zI (ah : Int))), (3, .int (zI ((o : Int) - 1)))]) hx hb dX8_isFirst_39 hl (by decide) rfl (fun ls hl => ?_)
      refine lv_iload hx hb dX8_isFirst_41 (lv_at hl 0 rfl) ?_
      refine pz_ifeq (tgt := 78) hx hb dX8_isFirst_43 (by decide) (⟨by omega, by omega⟩) (fun h2 => ?_) (fun h2 => ?_)
      · omega
      · refine lv_aload_n hx hb dX8_isFirst_46 rfl (lv_at hl 2 rfl) ?_
        refine lv_iload_n hx hb dX8_isFirst_47 rfl (lv_at hl 3 rfl) ?_
        refine lv_iload_n hx hb dX8_isFirst_48 rfl (lv_at hl 5 rfl) ?_
        refine pw_ci w (pw_runV (r := 120) (ci := 8) (As := [.int (zI (gap : Int)), .int (zI ((o : Int) - 1))]) (rest := []) w ⟨hx, hb, hml, hown, hts⟩ (c_X8_at l D G ad N c (gap := gap) (o := o) hN hm hh hlim hB hOV hR hRV (by omega) ho9) (cwV 2 hts gX8_isFirst_X8_at rfl rfl rfl (by decide +kernel) ⟨Nat.le_of_ble_eq_true rfl, Nat.le_of_ble_eq_true rfl⟩) (by omega) hm rfl rfl hl.1 rfl (lv_room (Nat.le_of_ble_eq_true rfl)) dX8_isFirst_49 ⟨Nat.le_of_ble_eq_true rfl, Nat.le_of_ble_eq_true rfl⟩) (fun r_ u H locs hp w => ?_)
        obtain ⟨hv, hu⟩ := hp
        subst hv
        have w : PW D G A s ad N c H locs := by rw [hu] at w; exact w
        clear hu
        refine pz_top (b := (at_ gap o)) (by rw [hat]) ?_
        refine lv_aload_n hx hb dX8_isFirst_52 rfl (lv_at hl 2 rfl) ?_
        refine pw_get (r := 120) (ci := 8) (C := RX8) (T := TX8) (Nf := 21) hx hb w hts hin_X8_isFirst_8 hown (by omega) hm rfl 16 (by decide) (hts _ fl_X8_isFirst_48) (fun _ h9 => h9) rfl dX8_isFirst_53 ?_
        refine lv_iload hx hb dX8_isFirst_56 (lv_at hl 1 rfl) ?_
        refine pw_iald (r := 132) (j := (9 * (gap + 1) + o)) hx hb w (by omega) l1 (by omega) (by omega) (by decide) dX8_isFirst_58 ?_
        refine pz_top (b := (lwm at_ no (g9 - (gap + 1)) (gap + 1) o).1) (eL) ?_
        refine pz_iadd hx hb dX8_isFirst_59 ?_
        refine lv_aload_n hx hb dX8_isFirst_60 rfl (lv_at hl 2 rfl) ?_
        refine pw_get (r := 120) (ci := 8) (C := RX8) (T := TX8) (Nf := 21) hx hb w hts hin_X8_isFirst_8 hown (by omega) hm rfl 16 (by decide) (hts _ fl_X8_isFirst_48) (fun _ h9 => h9) rfl dX8_isFirst_61 ?_
        refine lv_bipush (v := zI (9)) hx hb dX8_isFirst_64 (by decide +kernel) ?_
        refine lv_iload_n hx hb dX8_isFirst_66 rfl (lv_at hl 3 rfl) ?_
        refine pz_imul hx hb dX8_isFirst_67 ?_
        refine lv_iload_n hx hb dX8_isFirst_68 rfl (lv_at hl 4 rfl) ?_
        refine pz_iadd hx hb dX8_isFirst_69 ?_
        refine pw_iald (r := 132) (j := (9 * gap + ah)) hx hb w (by omega) l1 (by omega) (by omega) (by decide) dX8_isFirst_70 ?_
        refine pz_top (b := (lwm at_ no (g9 - gap) gap ah).1) (eA) ?_
        refine pz_icmpne (tgt := 78) hx hb dX8_isFirst_71 (by decide) (⟨by omega, by omega⟩) (⟨by omega, by omega⟩) (fun hq => ?_) (fun hq => ?_)
        · refine lv_iconst (v := zI (0)) hx hb dX8_isFirst_78 rfl ?_
          exact fin (ad, N, c) c _ _ _ _ _ _ _ rfl (Or.inl rfl) ⟨Or.inr ⟨fun h => hq h.2.2, rfl⟩, rfl⟩ w dX8_isFirst_79 (Nat.le_refl _) (Nat.le_refl _)
        · refine lv_iconst (v := zI (1)) hx hb dX8_isFirst_74 rfl ?_
          refine lv_goto (tgt := 79) hx hb dX8_isFirst_75 (by decide) ?_
          exact fin (ad, N, c) c _ _ _ _ _ _ _ rfl (Or.inr rfl) ⟨Or.inl ⟨⟨hal, by omega, hq⟩, rfl⟩, rfl⟩ w dX8_isFirst_79 (Nat.le_refl _) (Nat.le_refl _)
  refine pz_icmpeq (tgt := 24) hx hb dX8_isFirst_14 (by decide) (⟨by omega, by omega⟩) (⟨by omega, by omega⟩) (fun ho => ?_) (fun ho => ?_)
  · exact j24 ls (Or.inl (by omega)) (lv_sub hl [0, 1, 2, 3, 4] rfl)
  · refine lv_iload_n hx hb dX8_isFirst_17 rfl (lv_at hl 4 rfl) ?_
    refine lv_iconst (v := zI (1)) hx hb dX8_isFirst_18 rfl ?_
    refine pz_iadd hx hb dX8_isFirst_19 ?_
    refine lv_iload_n hx hb dX8_isFirst_20 rfl (lv_at hl 3 rfl) ?_
    refine pz_icmpeq (tgt := 38) hx hb dX8_isFirst_21 (by decide) (⟨by omega, by omega⟩) (⟨by omega, by omega⟩) (fun hah2 => ?_) (fun hah2 => ?_)
    · refine lv_iconst (v := zI (0)) hx hb dX8_isFirst_38 rfl ?_
      refine lv_istore (lv' := [(5, .int (zI 0)), (4, .int (zI ((9 * (gap + 1) + o : Nat) : Int))), (0, .ref (ad 120)), (1, .int (zI (gap : Int))), (2, .int (zI (ah : Int))), (3, .int (zI ((o : Int) - 1)))]) hx hb dX8_isFirst_39 hl (by decide) rfl (fun ls hl => ?_)
      refine lv_iload hx hb dX8_isFirst_41 (lv_at hl 0 rfl) ?_
      refine pz_ifeq (tgt := 78) hx hb dX8_isFirst_43 (by decide) (⟨by omega, by omega⟩) (fun h3 => ?_) (fun h3 => ?_)
      · refine lv_iconst (v := zI (0)) hx hb dX8_isFirst_78 rfl ?_
        exact fin (ad, N, c) c _ _ _ _ _ _ _ rfl (Or.inl rfl) ⟨Or.inr ⟨fun h => by have := h.1; omega, rfl⟩, rfl⟩ w dX8_isFirst_79 (Nat.le_refl _) (Nat.le_refl _)
      · omega
    · exact j24 ls (Or.inr (by omega)) (lv_sub hl [0, 1, 2, 3, 4] rfl)

abbrev rm_X8_chosenAt : Room := { frames := 6, cells := 0, slots := 0, locals := 180 }
set_option maxHeartbeats 4000000 in
set_option maxRecDepth 100000 in
/-- chosenAt -/
theorem c_X8_chosenAt (l : Launch) (D : va_G) (G : Nat → ClassId) (ad : Nat → Nat) (N : Nat) (c : Nat → va_E) {th lim dn row : Int} {no : Nat} (hN : 139 ≤ N) (hm : c 120 = .inr (8, moV ad th lim (no : Int) dn row)) {gn : Nat → Nat} {gg : Nat → Nat → Nat} (hh : isA 0 G (c 121) 9 closedN) (hlim : bnd lim) (hB : MoB G c no gn gg) (hOV : OV no gn gg) {r : Nat} {rp rl : Nat → Nat} {rw : Nat → Int} (hR : RowP G c r rp rl rw) (hRV : RowV r rp rl rw) {at_ : Nat → Nat → Int} {g9 : Nat} (hat : at_ = atc lim gn gg rp rl rw) (hg9 : g9 + 1 = r) (hL : LWp G c at_ no g9 0 0) {gp : Nat} {ch : Nat → Nat} (hgp : gp < g9) (hch0 : ch 0 = 0) (hch : ∀ i, i ≤ gp → ch i < 9 ∧ ch (i + 1) ≤ no ∧ isF at_ no g9 i (ch i) (ch (i + 1)) ∧ ∀ o, o < ch (i + 1) → ¬ isF at_ no g9 i (ch i) o) : MC l yX8_chosenAt wsX8_chosenAt rm_X8_chosenAt [.ref (ad 120), .int (zI (gp : Int))] D G ad N c (qI D G (fx ad N) (fun v c1 => v = zI ((ch (gp + 1) : Int) - 1) ∧ c1 = c)) 0 0 := by
  refine MCi.of (cc := cX8_chosenAt) (maxL := 5) (by decide) rfl (Nat.le_of_ble_eq_true rfl) ?_
  intro p e s m args below meth kc A Q hx hb hts hown hml fin H locs w ls hl
  have hown : s.vm.findClass RX8 = some m.cls := hown
  have hl : lv_has ls 5 [(0, .ref (ad 120)), (1, .int (zI (gp : Int)))] := hl
  have hr8 := hRV.1
  have hno8 := hOV.1
  refine lv_iconst (v := zI (0)) hx hb dX8_chosenAt_0 rfl ?_
  refine lv_istore_n (lv' := [(2, .int (zI 0)), (0, .ref (ad 120)), (1, .int (zI (gp : Int)))]) hx hb dX8_chosenAt_1 rfl hl (by decide) rfl (fun ls hl => ?_)
  refine lv_iconst (v := zI (-1)) hx hb dX8_chosenAt_2 rfl ?_
  refine lv_istore_n (lv' := [(3, .int (zI (-1))), (2, .int (zI 0)), (0, .ref (ad 120)), (1, .int (zI (gp : Int)))]) hx hb dX8_chosenAt_3 rfl hl (by decide) rfl (fun ls hl => ?_)
  refine lv_iconst (v := zI (0)) hx hb dX8_chosenAt_4 rfl ?_
  refine lv_istore (lv' := [(4, .int (zI 0)), (3, .int (zI (-1))), (2, .int (zI 0)), (0, .ref (ad 120)), (1, .int (zI (gp : Int)))]) hx hb dX8_chosenAt_5 hl (by decide) rfl (fun ls hl => ?_)
  have lp : ∀ (n : Nat) (i : Nat) (H : Heap) (locs : List Loc) (ls : Array Slot), i ≤ gp + 1 → gp + 1 < i + n → PW D G A s ad N c H locs → lv_has ls 5 [(0, .ref (ad 120)), (1, .int (zI (gp : Int))), (2, .int (zI (ch i : Int))), (3, .int (zI ((ch i : Int) - 1))), (4, .int (zI (i : Int)))] → W p l e rm_X8_chosenAt s m args below meth kc H locs 0 0 Q (F0 m 7 ls []) := by
    intro n
    induction n with
    | zero => intro i H locs ls h9 hfu w hl; omega
    | succ n ih =>
      intro i H locs ls h9 hfu w hl
      refine lv_iload hx hb dX8_chosenAt_7 (lv_at hl 4 rfl) ?_
      refine lv_iload_n hx hb dX8_chosenAt_9 rfl (lv_at hl 1 rfl) ?_
      refine pz_icmpgt (tgt := 42) hx hb dX8_chosenAt_10 (by decide) (⟨by omega, by omega⟩) (⟨by omega, by omega⟩) (fun hi => ?_) (fun hi => ?_)
      · have i9 : i = gp + 1 := by omega
        rw [i9] at hl
        refine lv_iload_n hx hb dX8_chosenAt_42 rfl (lv_at hl 3 rfl) ?_
        exact fin (ad, N, c) c _ _ _ _ _ _ _ rfl ⟨rfl, rfl⟩ w dX8_chosenAt_43 (Nat.le_refl _) (Nat.le_refl _)
      · have hci := hch i (by omega)
        refine lv_iconst (v := zI (-1)) hx hb dX8_chosenAt_13 rfl ?_
        refine lv_istore_n (lv' := [(3, .int (zI (-1))), (0, .ref (ad 120)), (1, .int (zI (gp : Int))), (2, .int (zI (ch i : Int))), (4, .int (zI (i : Int)))]) hx hb dX8_chosenAt_14 rfl hl (by decide) rfl (fun ls hl => ?_)
        have lq : ∀ (f2 o : Nat) (H : Heap) (locs : List Loc) (ls : Array Slot), o ≤ ch (i + 1) → ch (i + 1) < o + f2 → PW D G A s ad N c H locs → lv_has ls 5 [(0, .ref (ad 120)), (1, .int (zI (gp : Int))), (2, .int (zI (ch i : Int))), (3, .int (zI ((o : Int) - 1))), (4, .int (zI (i : Int)))] → W p l e rm_X8_chosenAt s m args below meth kc H locs 0 0 Q (F0 m 15 ls []) := by
          intro f2
          induction f2 with
          | zero => intro o H locs ls h9o hfu w hl; omega
          | succ f2 ih2 =>
            intro o H locs ls h9o hfu w hl
            refine lv_aload_n hx hb dX8_chosenAt_15 rfl (lv_at hl 0 rfl) ?_
            refine lv_iload hx hb dX8_chosenAt_16 (lv_at hl 4 rfl) ?_
            refine lv_iload_n hx hb dX8_chosenAt_18 rfl (lv_at hl 2 rfl) ?_
            refine lv_iload_n hx hb dX8_chosenAt_19 rfl (lv_at hl 3 rfl) ?_
            refine pw_ci w (pw_runV (r := 120) (ci := 8) (As := [.int (zI (i : Int)), .int (zI (ch i : Int)), .int (zI ((o : Int) - 1))]) (rest := []) w ⟨hx, hb, hml, hown, hts⟩ (c_X8_isFirst l D G ad N c (gap := i) (ah := ch i) (o := o) hN hm hh hlim hB hOV hR hRV hat hg9 hL (by omega) hci.1 (by omega)) (cwV 3 hts gX8_chosenAt_X8_isFirst rfl rfl rfl (by decide +kernel) ⟨Nat.le_of_ble_eq_true rfl, Nat.le_of_ble_eq_true rfl⟩) (by omega) hm rfl rfl hl.1 rfl (lv_room (Nat.le_of_ble_eq_true rfl)) dX8_chosenAt_20 ⟨Nat.le_of_ble_eq_true rfl, Nat.le_of_ble_eq_true rfl⟩) (fun r_ u H locs hp w => ?_)
            obtain ⟨hv, hu⟩ := hp
            have w : PW D G A s ad N c H locs := by rw [hu] at w; exact w
            clear hu
            rcases hv with ⟨hF, hv⟩ | ⟨hF, hv⟩
            · subst hv
              refine pz_ifne (tgt := 32) hx hb dX8_chosenAt_23 (by decide) (⟨by omega, by omega⟩) (fun h1 => ?_) (fun h1 => ?_)
              · have e9 : o = ch (i + 1) := by
                  rcases Nat.lt_or_ge o (ch (i + 1)) with h | h
                  · exact absurd hF (hci.2.2.2 o h)
                  · omega
                rw [e9] at hl
                refine lv_iload_n hx hb dX8_chosenAt_32 rfl (lv_at hl 3 rfl) ?_
                refine lv_iconst (v := zI (1)) hx hb dX8_chosenAt_33 rfl ?_
                refine pz_iadd hx hb dX8_chosenAt_34 ?_
                refine pz_top (b := (ch (i + 1) : Int)) (by omega) ?_
                refine lv_istore_n (lv' := [(2, .int (zI (ch (i + 1) : Int))), (0, .ref (ad 120)), (1, .int (zI (gp : Int))), (3, .int (zI ((ch (i + 1) : Int) - 1))), (4, .int (zI (i : Int)))]) hx hb dX8_chosenAt_35 rfl hl (by decide) rfl (fun ls hl => ?_)
                refine pz_iinc (lv' := [(4, .int (zI ((i + 1 : Nat) : Int))), (2, .int (zI (ch (i + 1) : Int))), (0, .ref (ad 120)), (1, .int (zI (gp : Int))), (3, .int (zI ((ch (i + 1) : Int) - 1)))]) hx hb dX8_chosenAt_36 hl (j := 4) rfl ((i + 1 : Nat) : Int) (by omega) (by decide) rfl (fun ls hl => ?_)
                refine lv_goto (tgt := 7) hx hb dX8_chosenAt_39 (by decide) ?_
                exact ih (i + 1) H locs ls (by omega) (by omega) w (lv_sub hl [2, 3, 1, 4, 0] rfl)
              · omega
            · subst hv
              refine pz_ifne (tgt := 32) hx hb dX8_chosenAt_23 (by decide) (⟨by omega, by omega⟩) (fun h1 => ?_) (fun h1 => ?_)
              · omega
              · refine pz_iinc (lv' := [(3, .int (zI (((o + 1 : Nat) : Int) - 1))), (0, .ref (ad 120)), (1, .int (zI (gp : Int))), (2, .int (zI (ch i : Int))), (4, .int (zI (i : Int)))]) hx hb dX8_chosenAt_26 hl (j := 3) rfl (((o + 1 : Nat) : Int) - 1) (by omega) (by decide) rfl (fun ls hl => ?_)
                refine lv_goto (tgt := 15) hx hb dX8_chosenAt_29 (by decide) ?_
                have hne : o ≠ ch (i + 1) := fun e => hF (by rw [e]; exact hci.2.2.1)
                exact ih2 (o + 1) H locs ls (by omega) (by omega) w (lv_sub hl [1, 2, 3, 0, 4] rfl)
        exact lq (ch (i + 1) + 1) 0 H locs ls (by omega) (by omega) w (lv_sub hl [1, 2, 3, 0, 4] rfl)
  exact lp (gp + 2) 0 H locs ls (by omega) (by omega) w (by rw [hch0]; exact (lv_sub hl [3, 4, 2, 1, 0] rfl))
