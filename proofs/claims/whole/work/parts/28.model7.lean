/-- an order's digits -/
def dgs (n : Nat) : Nat → Nat := fun j => if j = 0 then n / 4 / 4 / 4 % 4 else if j = 1 then n / 4 / 4 % 4 else if j = 2 then n / 4 % 4 else n % 4
theorem dgs_lt (n j : Nat) : dgs n j < 4 := by
  unfold dgs
  split
  · omega
  · split
    · omega
    · split <;> omega
def bi (M t : Nat) : Nat := M / 2 ^ t % 2
theorem bi_le (M t : Nat) : bi M t ≤ 1 := by
  unfold bi
  omega
/-- the tunes met (bits), whether an empty one was met, whether the order is one -/
def loS (nn od : Nat → Nat) : Nat → Nat × Nat × Nat
  | 0 => (0, 0, 1)
  | p + 1 => ((loS nn od p).1 ||| 1 <<< od p, if (loS nn od p).2.1 = 1 ∨ nn (od p) = 0 then 1 else 0, if (loS nn od p).2.2 = 1 ∧ bi (loS nn od p).1 (od p) = 0 ∧ ¬ (0 < p ∧ nn (od p) = 0 ∧ (loS nn od p).2.1 = 1 ∧ od p < od (p - 1)) ∧ (nn (od p) = 0 ∨ (loS nn od p).2.1 = 0) then 1 else 0)
theorem lo_rem : ∀ a : Nat, a < 256 → zI (a : Int) - zI (a : Int) / zI 4 * zI 4 = zI ((a % 4 : Nat) : Int) := by decide +kernel
theorem lo_div : ∀ a : Nat, a < 256 → zI (a : Int) / zI 4 = zI ((a / 4 : Nat) : Int) := by decide +kernel
theorem lo_4 : ¬ zI 4 = 0 := by decide +kernel
theorem lo_bit : ∀ a : Nat, a < 16 → ∀ t : Nat, t < 4 → ((zI (a : Int) >>> (zI (t : Int) &&& 31)) &&& zI 1) = zI ((bi a t : Nat) : Int) := by decide +kernel
theorem lo_or : ∀ a : Nat, a < 16 → ∀ t : Nat, t < 4 → (zI (a : Int) ||| (zI 1 <<< (zI (t : Int) &&& 31))) = zI ((a ||| 1 <<< t : Nat) : Int) := by decide +kernel
theorem lo_lt : ∀ a : Nat, a < 16 → ∀ t : Nat, t < 4 → (a ||| 1 <<< t) < 16 := by decide +kernel
/-- the tunes of an order one behind the other -/
def rc (nn : Nat → Nat) (pt ln : Nat → Nat → Nat) (wi : Nat → Nat → Int) (od : Nat → Nat) : Nat → Nat × (Nat → Nat) × (Nat → Nat) × (Nat → Int)
  | 0 => (0, fun _ => 0, fun _ => 0, fun _ => 0)
  | p + 1 => ((rc nn pt ln wi od p).1 + nn (od p), apN (rc nn pt ln wi od p).1 (rc nn pt ln wi od p).2.1 (pt (od p)), apN (rc nn pt ln wi od p).1 (rc nn pt ln wi od p).2.2.1 (ln (od p)), apN (rc nn pt ln wi od p).1 (rc nn pt ln wi od p).2.2.2 (fun i => if i + 1 < nn (od p) then wi (od p) i else 0))
theorem rc_V {nn : Nat → Nat} {pt ln : Nat → Nat → Nat} {wi : Nat → Nat → Int} (hU : TusV nn pt ln wi) {od : Nat → Nat} : ∀ p, (∀ j, j < p → od j < 4) → (rc nn pt ln wi od p).1 ≤ 10 * p ∧ ∀ i, i < (rc nn pt ln wi od p).1 → (rc nn pt ln wi od p).2.1 i < 9 ∧ 1 ≤ (rc nn pt ln wi od p).2.2.1 i ∧ (rc nn pt ln wi od p).2.2.1 i ≤ 32 ∧ ((rc nn pt ln wi od p).2.2.2 i = 0 ∨ (rc nn pt ln wi od p).2.2.2 i = 1)
  | 0, _ => ⟨Nat.le_refl 0, fun i hi => absurd hi (Nat.not_lt_zero i)⟩
  | p + 1, h => by
    have h1 := rc_V hU p (fun j hj => h j (by omega))
    have h2 := hU (od p) (h p (by omega))
    refine ⟨?_, fun i hi => ?_⟩
    · have := h2.1
      show (rc nn pt ln wi od p).1 + nn (od p) ≤ _
      omega
    · have hi' : i < (rc nn pt ln wi od p).1 + nn (od p) := hi
      show apN (rc nn pt ln wi od p).1 (rc nn pt ln wi od p).2.1 (pt (od p)) i < 9 ∧ 1 ≤ apN (rc nn pt ln wi od p).1 (rc nn pt ln wi od p).2.2.1 (ln (od p)) i ∧ apN (rc nn pt ln wi od p).1 (rc nn pt ln wi od p).2.2.1 (ln (od p)) i ≤ 32 ∧ (apN (rc nn pt ln wi od p).1 (rc nn pt ln wi od p).2.2.2 (fun i => if i + 1 < nn (od p) then wi (od p) i else 0) i = 0 ∨ apN (rc nn pt ln wi od p).1 (rc nn pt ln wi od p).2.2.2 (fun i => if i + 1 < nn (od p) then wi (od p) i else 0) i = 1)
      unfold apN
      by_cases h3 : i < (rc nn pt ln wi od p).1
      · simp only [if_pos h3]
        exact h1.2 i h3
      · simp only [if_neg h3]
        have h4 := h2.2.1 (i - (rc nn pt ln wi od p).1) (by omega)
        refine ⟨h4.1, h4.2.1, h4.2.2, ?_⟩
        split
        · exact h2.2.2 _ (by assumption)
        · exact Or.inl rfl
/-- what a laid order is worth -/
def RVv (lim : Int) (no : Nat) (gn : Nat → Nat) (gg : Nat → Nat → Nat) (nn : Nat → Nat) (pt ln : Nat → Nat → Nat) (wi : Nat → Nat → Int) (od : Nat → Nat) : Int × Int × Int := lwm (atc lim gn gg (rc nn pt ln wi od 4).2.1 (rc nn pt ln wi od 4).2.2.1 (rc nn pt ln wi od 4).2.2.2) no ((rc nn pt ln wi od 4).1 - 1) 0 0
theorem RVv_bd {lim : Int} {no : Nat} {gn : Nat → Nat} {gg : Nat → Nat → Nat} {nn : Nat → Nat} {pt ln : Nat → Nat → Nat} {wi : Nat → Nat → Int} (hOV : OV no gn gg) (hU : TusV nn pt ln wi) {od : Nat → Nat} (hod : ∀ j, j < 4 → od j < 4) : 0 ≤ (RVv lim no gn gg nn pt ln wi od).1 ∧ (RVv lim no gn gg nn pt ln wi od).1 ≤ 1000000 ∧ 0 ≤ (RVv lim no gn gg nn pt ln wi od).2.1 ∧ (RVv lim no gn gg nn pt ln wi od).2.1 ≤ 500000000 := by
  have hR := rc_V hU 4 hod
  have h1 := lwm_bd (at_ := atc lim gn gg (rc nn pt ln wi od 4).2.1 (rc nn pt ln wi od 4).2.2.1 (rc nn pt ln wi od 4).2.2.2) (no := no) ((rc nn pt ln wi od 4).1 - 1) 0 0 (fun j o h1 h2 h3 => (atc_bd hOV ⟨by omega, hR.2⟩ (by omega) h3).1)
  exact ⟨h1.1, h1.2.1, h1.2.2.1, h1.2.2.2.1⟩
/-- through the first k numbers -/
def goF (lim : Int) (no : Nat) (gn : Nat → Nat) (gg : Nat → Nat → Nat) (nn : Nat → Nat) (pt ln : Nat → Nat → Nat) (wi : Nat → Nat → Int) (bo : Nat → Int) : Nat → Int × Int × (Nat → Int)
  | 0 => (0, 1000000, bo)
  | k + 1 => if (loS nn (dgs k) 4).2.2 = 1 then (if 0 < (RVv lim no gn gg nn pt ln wi (dgs k)).2.1 then (goF lim no gn gg nn pt ln wi bo k).1 + 1 else (goF lim no gn gg nn pt ln wi bo k).1, if 0 < (RVv lim no gn gg nn pt ln wi (dgs k)).2.1 ∧ (RVv lim no gn gg nn pt ln wi (dgs k)).1 < (goF lim no gn gg nn pt ln wi bo k).2.1 then (RVv lim no gn gg nn pt ln wi (dgs k)).1 else (goF lim no gn gg nn pt ln wi bo k).2.1, if 0 < (RVv lim no gn gg nn pt ln wi (dgs k)).2.1 ∧ (RVv lim no gn gg nn pt ln wi (dgs k)).1 < (goF lim no gn gg nn pt ln wi bo k).2.1 then (fun j => (dgs k j : Int)) else (goF lim no gn gg nn pt ln wi bo k).2.2) else goF lim no gn gg nn pt ln wi bo k
/-- how many tunes have notes -/
def tC (nn : Nat → Nat) : Nat → Nat
  | 0 => 0
  | t + 1 => tC nn t + (if 0 < nn t then 1 else 0)
theorem tC_le (nn : Nat → Nat) : ∀ t, tC nn t ≤ t
  | 0 => Nat.le_refl 0
  | t + 1 => by
    have := tC_le nn t
    unfold tC
    split <;> omega

theorem hin_X8_layOrder_8 : ∀ w ∈ u_ws RX8 TX8 21, w ∈ wsX8_layOrder := by decide +kernel
theorem fl_X8_layOrder_57 : Cond.fieldLink RX8 57 "PipersDeskModel" "order" "[I" ∈ wsX8_layOrder := by decide +kernel
theorem fl_X8_layOrder_36 : Cond.fieldLink RX8 36 "PipersDeskModel" "noteMany" "[I" ∈ wsX8_layOrder := by decide +kernel
abbrev rm_X8_layOrder : Room := { frames := 0, cells := 0, slots := 0, locals := 0 }
set_option maxHeartbeats 4000000 in
set_option maxRecDepth 100000 in
/-- layOrder -/
theorem c_X8_layOrder (l : Launch) (D : va_G) (G : Nat → ClassId) (ad : Nat → Nat) (N : Nat) (c : Nat → va_E) {th lim dn row : Int} {no : Nat} (hN : 139 ≤ N) (hm : c 120 = .inr (8, moV ad th lim (no : Int) dn row)) {nn : Nat → Nat} {pt ln : Nat → Nat → Nat} {wi : Nat → Nat → Int} (hMT : MoT G c nn pt ln wi) (hUV : TusV nn pt ln wi) (hO : ∃ g, isA 0 G (c 135) 4 g) {n : Nat} (hn : n < 256) : MC l yX8_layOrder wsX8_layOrder rm_X8_layOrder [.ref (ad 120), .int (zI (n : Int))] D G ad N c (qI D G (fx ad N) (fun v c1 => v = zI ((loS nn (dgs n) 4).2.2 : Int) ∧ isA 0 G (c1 135) 4 (fun j => (dgs n j : Int)) ∧ ∀ q, q ≠ 135 → c1 q = c q)) 0 0 := by
  refine MCz.of (cc := cX8_layOrder) (maxL := 9) (by decide) rfl (Nat.le_of_ble_eq_true rfl) ?_
  intro p e s m args below meth kc A Q hx hb hts hown hml fin H locs w ls hl
  have hown : s.vm.findClass RX8 = some m.cls := hown
  have hl : lv_has ls 9 [(0, .ref (ad 120)), (1, .int (zI (n : Int)))] := hl
  have hn9 := fun t (ht : t < 4) => (hUV t ht).1
  obtain ⟨go, ho⟩ := id hO
  refine lv_iload_n hx hb dX8_layOrder_0 rfl (lv_at hl 1 rfl) ?_
  refine lv_istore_n (lv' := [(2, .int (zI (n : Int))), (0, .ref (ad 120)), (1, .int (zI (n : Int)))]) hx hb dX8_layOrder_1 rfl hl (by decide) rfl (fun ls hl => ?_)
  refine lv_iconst (v := zI (0)) hx hb dX8_layOrder_2 rfl ?_
  refine lv_istore_n (lv' := [(3, .int (zI 0)), (2, .int (zI (n : Int))), (0, .ref (ad 120)), (1, .int (zI (n : Int)))]) hx hb dX8_layOrder_3 rfl hl (by decide) rfl (fun ls hl => ?_)
  refine lv_iconst (v := zI (0)) hx hb dX8_layOrder_4 rfl ?_
  refine lv_istore (lv' := [(4, .int (zI 0)), (3, .int (zI 0)), (2, .int (zI (n : Int))), (0, .ref (ad 120)), (1, .int (zI (n : Int)))]) hx hb dX8_layOrder_5 hl (by decide) rfl (fun ls hl => ?_)
  refine lv_iconst (v := zI (1)) hx hb dX8_layOrder_7 rfl ?_
  refine lv_istore (lv' := [(5, .int (zI 1)), (4, .int (zI 0)), (3, .int (zI 0)), (2, .int (zI (n : Int))), (0, .ref (ad 120)), (1, .int (zI (n : Int)))]) hx hb dX8_layOrder_8 hl (by decide) rfl (fun ls hl => ?_)
  refine lv_iconst (v := zI (3)) hx hb dX8_layOrder_10 rfl ?_
  refine lv_istore (lv' := [(6, .int (zI 3)), (5, .int (zI 1)), (4, .int (zI 0)), (3, .int (zI 0)), (2, .int (zI (n : Int))), (0, .ref (ad 120)), (1, .int (zI (n : Int)))]) hx hb dX8_layOrder_11 hl (by decide) rfl (fun ls hl => ?_)
  refine lv_iload hx hb dX8_layOrder_13 (lv_at hl 0 rfl) ?_
  refine pz_iflt (tgt := 38) hx hb dX8_layOrder_15 (by decide) (⟨by omega, by omega⟩) (fun h1 => ?_) (fun h1 => ?_)
  · omega
  · refine lv_aload_n hx hb dX8_layOrder_18 rfl (lv_at hl 5 rfl) ?_
    refine pw_get (r := 120) (ci := 8) (C := RX8) (T := TX8) (Nf := 21) hx hb w hts hin_X8_layOrder_8 hown (by omega) hm rfl 19 (by decide) (hts _ fl_X8_layOrder_57) (fun _ h9 => h9) rfl dX8_layOrder_19 ?_
    refine lv_iload hx hb dX8_layOrder_22 (lv_at hl 0 rfl) ?_
    refine lv_iload_n hx hb dX8_layOrder_24 rfl (lv_at hl 4 rfl) ?_
    refine lv_iconst (v := zI (4)) hx hb dX8_layOrder_25 rfl ?_
    refine lv_irem hx hb dX8_layOrder_26 lo_4 ?_
    refine pz_topI (y := zI ((n % 4 : Nat) : Int)) (lo_rem (n) (by omega)) ?_
    refine pw_iast' (r := 135) (j := 3) hx hb w (by omega) ho (by omega) (by omega) (by decide) dX8_layOrder_27 (fun H locs c2 hc2 fr2 w => ?_)
    refine lv_iload_n hx hb dX8_layOrder_28 rfl (lv_at hl 4 rfl) ?_
    refine lv_iconst (v := zI (4)) hx hb dX8_layOrder_29 rfl ?_
    refine lv_idiv hx hb dX8_layOrder_30 lo_4 ?_
    refine pz_topI (y := zI ((n / 4 : Nat) : Int)) (lo_div (n) (by omega)) ?_
    refine lv_istore_n (lv' := [(2, .int (zI ((n / 4 : Nat) : Int))), (6, .int (zI 3)), (5, .int (zI 1)), (4, .int (zI 0)), (3, .int (zI 0)), (0, .ref (ad 120)), (1, .int (zI (n : Int)))]) hx hb dX8_layOrder_31 rfl hl (by decide) rfl (fun ls hl => ?_)
    refine pz_iinc (lv' := [(6, .int (zI 2)), (2, .int (zI ((n / 4 : Nat) : Int))), (5, .int (zI 1)), (4, .int (zI 0)), (3, .int (zI 0)), (0, .ref (ad 120)), (1, .int (zI (n : Int)))]) hx hb dX8_layOrder_32 hl (j := 1) rfl 2 (by omega) (by decide) rfl (fun ls hl => ?_)
    refine lv_goto (tgt := 13) hx hb dX8_layOrder_35 (by decide) ?_
    refine lv_iload hx hb dX8_layOrder_13 (lv_at hl 0 rfl) ?_
    refine pz_iflt (tgt := 38) hx hb dX8_layOrder_15 (by decide) (⟨by omega, by omega⟩) (fun h3 => ?_) (fun h3 => ?_)
    · omega
    · refine lv_aload_n hx hb dX8_layOrder_18 rfl (lv_at hl 5 rfl) ?_
      refine pw_get (r := 120) (ci := 8) (C := RX8) (T := TX8) (Nf := 21) hx hb w hts hin_X8_layOrder_8 hown (by omega) ((fr2 120 (by omega)).trans hm) rfl 19 (by decide) (hts _ fl_X8_layOrder_57) (fun _ h9 => h9) rfl dX8_layOrder_19 ?_
      refine lv_iload hx hb dX8_layOrder_22 (lv_at hl 0 rfl) ?_
      refine lv_iload_n hx hb dX8_layOrder_24 rfl (lv_at hl 1 rfl) ?_
      refine lv_iconst (v := zI (4)) hx hb dX8_layOrder_25 rfl ?_
      refine lv_irem hx hb dX8_layOrder_26 lo_4 ?_
      refine pz_topI (y := zI ((n / 4 % 4 : Nat) : Int)) (lo_rem (n / 4) (by omega)) ?_
      refine pw_iast' (r := 135) (j := 2) hx hb w (by omega) hc2 (by omega) (by omega) (by decide) dX8_layOrder_27 (fun H locs c4 hc4 fr4 w => ?_)
      refine lv_iload_n hx hb dX8_layOrder_28 rfl (lv_at hl 1 rfl) ?_
      refine lv_iconst (v := zI (4)) hx hb dX8_layOrder_29 rfl ?_
      refine lv_idiv hx hb dX8_layOrder_30 lo_4 ?_
      refine pz_topI (y := zI ((n / 4 / 4 : Nat) : Int)) (lo_div (n / 4) (by omega)) ?_
      refine lv_istore_n (lv' := [(2, .int (zI ((n / 4 / 4 : Nat) : Int))), (6, .int (zI 2)), (5, .int (zI 1)), (4, .int (zI 0)), (3, .int (zI 0)), (0, .ref (ad 120)), (1, .int (zI (n : Int)))]) hx hb dX8_layOrder_31 rfl hl (by decide) rfl (fun ls hl => ?_)
      refine pz_iinc (lv' := [(6, .int (zI 1)), (2, .int (zI ((n / 4 / 4 : Nat) : Int))), (5, .int (zI 1)), (4, .int (zI 0)), (3, .int (zI 0)), (0, .ref (ad 120)), (1, .int (zI (n : Int)))]) hx hb dX8_layOrder_32 hl (j := 1) rfl 1 (by omega) (by decide) rfl (fun ls hl => ?_)
      refine lv_goto (tgt := 13) hx hb dX8_layOrder_35 (by decide) ?_
      refine lv_iload hx hb dX8_layOrder_13 (lv_at hl 0 rfl) ?_
      refine pz_iflt (tgt := 38) hx hb dX8_layOrder_15 (by decide) (⟨by omega, by omega⟩) (fun h5 => ?_) (fun h5 => ?_)
      · omega
      · refine lv_aload_n hx hb dX8_layOrder_18 rfl (lv_at hl 5 rfl) ?_
        refine pw_get (r := 120) (ci := 8) (C := RX8) (T := TX8) (Nf := 21) hx hb w hts hin_X8_layOrder_8 hown (by omega) ((fr4 120 (by omega)).trans ((fr2 120 (by omega)).trans hm)) rfl 19 (by decide) (hts _ fl_X8_layOrder_57) (fun _ h9 => h9) rfl dX8_layOrder_19 ?_
        refine lv_iload hx hb dX8_layOrder_22 (lv_at hl 0 rfl) ?_
        refine lv_iload_n hx hb dX8_layOrder_24 rfl (lv_at hl 1 rfl) ?_
        refine lv_iconst (v := zI (4)) hx hb dX8_layOrder_25 rfl ?_
        refine lv_irem hx hb dX8_layOrder_26 lo_4 ?_
        refine pz_topI (y := zI ((n / 4 / 4 % 4 : Nat) : Int)) (lo_rem (n / 4 / 4) (by omega)) ?_
        refine pw_iast' (r := 135) (j := 1) hx hb w (by omega) hc4 (by omega) (by omega) (by decide) dX8_layOrder_27 (fun H locs c6 hc6 fr6 w => ?_)
        refine lv_iload_n hx hb dX8_layOrder_28 rfl (lv_at hl 1 rfl) ?_
        refine lv_iconst (v := zI (4)) hx hb dX8_layOrder_29 rfl ?_
        refine lv_idiv hx hb dX8_layOrder_30 lo_4 ?_
        refine pz_topI (y := zI ((n / 4 / 4 / 4 : Nat) : Int)) (lo_div (n / 4 / 4) (by omega)) ?_
        refine lv_istore_n (lv' := [(2, .int (zI ((n / 4 / 4 / 4 : Nat) : Int))), (6, .int (zI 1)), (5, .int (zI 1)), (4, .int (zI 0)), (3, .int (zI 0)), (0, .ref (ad 120)), (1, .int (zI (n : Int)))]) hx hb dX8_layOrder_31 rfl hl (by decide) rfl (fun ls hl => ?_)
        refine pz_iinc (lv' := [(6, .int (zI 0)), (2, .int (zI ((n / 4 / 4 / 4 : Nat) : Int))), (5, .int (zI 1)), (4, .int (zI 0)), (3, .int (zI 0)), (0, .ref (ad 120)), (1, .int (zI (n : Int)))]) hx hb dX8_layOrder_32 hl (j := 1) rfl 0 (by omega) (by decide) rfl (fun ls hl => ?_)
        refine lv_goto (tgt := 13) hx hb dX8_layOrder_35 (by decide) ?_
        refine lv_iload hx hb dX8_layOrder_13 (lv_at hl 0 rfl) ?_
        refine pz_iflt (tgt := 38) hx hb dX8_layOrder_15 (by decide) (⟨by omega, by omega⟩) (fun h7 => ?_) (fun h7 => ?_)
        · omega
        · refine lv_aload_n hx hb dX8_layOrder_18 rfl (lv_at hl 5 rfl) ?_
          refine pw_get (r := 120) (ci := 8) (C := RX8) (T := TX8) (Nf := 21) hx hb w hts hin_X8_layOrder_8 hown (by omega) ((fr6 120 (by omega)).trans ((fr4 120 (by omega)).trans ((fr2 120 (by omega)).trans hm))) rfl 19 (by decide) (hts _ fl_X8_layOrder_57) (fun _ h9 => h9) rfl dX8_layOrder_19 ?_
          refine lv_iload hx hb dX8_layOrder_22 (lv_at hl 0 rfl) ?_
          refine lv_iload_n hx hb dX8_layOrder_24 rfl (lv_at hl 1 rfl) ?_
          refine lv_iconst (v := zI (4)) hx hb dX8_layOrder_25 rfl ?_
          refine lv_irem hx hb dX8_layOrder_26 lo_4 ?_
          refine pz_topI (y := zI ((n / 4 / 4 / 4 % 4 : Nat) : Int)) (lo_rem (n / 4 / 4 / 4) (by omega)) ?_
          refine pw_iast' (r := 135) (j := 0) hx hb w (by omega) hc6 (by omega) (by omega) (by decide) dX8_layOrder_27 (fun H locs c8 hc8 fr8 w => ?_)
          refine lv_iload_n hx hb dX8_layOrder_28 rfl (lv_at hl 1 rfl) ?_
          refine lv_iconst (v := zI (4)) hx hb dX8_layOrder_29 rfl ?_
          refine lv_idiv hx hb dX8_layOrder_30 lo_4 ?_
          refine pz_topI (y := zI ((n / 4 / 4 / 4 / 4 : Nat) : Int)) (lo_div (n / 4 / 4 / 4) (by omega)) ?_
          refine lv_istore_n (lv' := [(2, .int (zI ((n / 4 / 4 / 4 / 4 : Nat) : Int))), (6, .int (zI 0)), (5, .int (zI 1)), (4, .int (zI 0)), (3, .int (zI 0)), (0, .ref (ad 120)), (1, .int (zI (n : Int)))]) hx hb dX8_layOrder_31 rfl hl (by decide) rfl (fun ls hl => ?_)
          refine pz_iinc (lv' := [(6, .int (zI (-1))), (2, .int (zI ((n / 4 / 4 / 4 / 4 : Nat) : Int))), (5, .int (zI 1)), (4, .int (zI 0)), (3, .int (zI 0)), (0, .ref (ad 120)), (1, .int (zI (n : Int)))]) hx hb dX8_layOrder_32 hl (j := 1) rfl (-1) (by omega) (by decide) rfl (fun ls hl => ?_)
          refine lv_goto (tgt := 13) hx hb dX8_layOrder_35 (by decide) ?_
          refine lv_iload hx hb dX8_layOrder_13 (lv_at hl 0 rfl) ?_
          refine pz_iflt (tgt := 38) hx hb dX8_layOrder_15 (by decide) (⟨by omega, by omega⟩) (fun h9 => ?_) (fun h9 => ?_)
          · have hO1 : isA 0 G (c8 135) 4 (fun j => (dgs n j : Int)) := hc8.to (fun j hj => by
              unfold upI dgs
              rcases (by omega : j = 0 ∨ j = 1 ∨ j = 2 ∨ j = 3) with h | h | h | h <;> subst h <;> simp)
            refine lv_iconst (v := zI (0)) hx hb dX8_layOrder_38 rfl ?_
            refine lv_istore (lv' := [(6, .int (zI 0)), (2, .int (zI ((n / 4 / 4 / 4 / 4 : Nat) : Int))), (5, .int (zI 1)), (4, .int (zI 0)), (3, .int (zI 0)), (0, .ref (ad 120)), (1, .int (zI (n : Int)))]) hx hb dX8_layOrder_39 hl (by decide) rfl (fun ls hl => ?_)
            have hd4 := fun j => dgs_lt n j
            have hM1 : isA 0 G (c8 128) 4 (fun t => (nn t : Int)) := (isA.fr (fr8 128 (by omega)) (isA.fr (fr6 128 (by omega)) (isA.fr (fr4 128 (by omega)) (isA.fr (fr2 128 (by omega)) hMT.2.2.2))))
            have hm1 := ((fr8 120 (by omega)).trans ((fr6 120 (by omega)).trans ((fr4 120 (by omega)).trans ((fr2 120 (by omega)).trans hm))))
            have hf1 : ∀ q, q ≠ 135 → c8 q = c q := fun q hq => ((fr8 q hq).trans ((fr6 q hq).trans ((fr4 q hq).trans ((fr2 q hq).trans rfl))))
            have lp : ∀ (f p9 M e9 s9 : Nat) (ls : Array Slot), p9 ≤ 4 → M < 16 → e9 ≤ 1 → s9 ≤ 1 → loS nn (dgs n) p9 = (M, e9, s9) → 4 < p9 + f → lv_has ls 9 [(0, .ref (ad 120)), (3, .int (zI (M : Int))), (4, .int (zI (e9 : Int))), (5, .int (zI (s9 : Int))), (6, .int (zI (p9 : Int)))] → W p l e rm_X8_layOrder s m args below meth kc H locs 0 0 Q (F0 m 41 ls []) := by
              intro f
              induction f with
              | zero => intro p9 M e9 s9 ls h4 hM he hs hst hfu hl; omega
              | succ f ih =>
                intro p9 M e9 s9 ls h4 hM he hs hst hfu hl
                refine lv_iload hx hb dX8_layOrder_41 (lv_at hl 4 rfl) ?_
                refine lv_iconst (v := zI (4)) hx hb dX8_layOrder_43 rfl ?_
                refine pz_icmpge (tgt := 173) hx hb dX8_layOrder_44 (by decide) (⟨by omega, by omega⟩) (⟨by omega, by omega⟩) (fun hp4 => ?_) (fun hp4 => ?_)
                · have p4 : p9 = 4 := by omega
                  subst p4
                  refine lv_iload hx hb dX8_layOrder_173 (lv_at hl 3 rfl) ?_
                  exact fin (ad, N, c8) c8 _ _ _ _ _ _ _ rfl (by rcases (by omega : s9 = 0 ∨ s9 = 1) with h | h <;> subst h <;> first | exact Or.inl rfl | exact Or.inr rfl) ⟨by rw [hst], hO1, hf1⟩ w dX8_layOrder_175 (Nat.le_refl _) (Nat.le_refl _)
                · have hdp := hd4 p9
                  have hdq := hd4 (p9 - 1)
                  have hnp := hn9 _ hdp
                  have hbi := bi_le M (dgs n p9)
                  rcases (by omega : (e9 = 0 ∧ s9 = 0) ∨ (e9 = 0 ∧ s9 = 1) ∨ (e9 = 1 ∧ s9 = 0) ∨ (e9 = 1 ∧ s9 = 1)) with ⟨h, h'⟩ | ⟨h, h'⟩ | ⟨h, h'⟩ | ⟨h, h'⟩
                  · subst h h'
                    have hl : lv_has ls 9 [(0, .ref (ad 120)), (3, .int (zI (M : Int))), (4, .int (zI 0)), (5, .int (zI 0)), (6, .int (zI (p9 : Int)))] := hl
                    refine lv_aload_n hx hb dX8_layOrder_47 rfl (lv_at hl 0 rfl) ?_
                    refine pw_get (r := 120) (ci := 8) (C := RX8) (T := TX8) (Nf := 21) hx hb w hts hin_X8_layOrder_8 hown (by omega) hm1 rfl 19 (by decide) (hts _ fl_X8_layOrder_57) (fun _ h9 => h9) rfl dX8_layOrder_48 ?_
                    refine lv_iload hx hb dX8_layOrder_51 (lv_at hl 4 rfl) ?_
                    refine pw_iald (r := 135) (j := p9) hx hb w (by omega) hO1 (by omega) (by omega) (by decide) dX8_layOrder_53 ?_
                    refine pz_top (b := (dgs n p9 : Int)) (rfl) ?_
                    refine lv_istore (lv' := [(7, .int (zI (dgs n p9 : Int))), (0, .ref (ad 120)), (3, .int (zI (M : Int))), (4, .int (zI 0)), (5, .int (zI 0)), (6, .int (zI (p9 : Int)))]) hx hb dX8_layOrder_54 hl (by decide) rfl (fun ls hl => ?_)
                    refine lv_iload hx hb dX8_layOrder_56 (lv_at hl 5 rfl) ?_
                    refine pz_ifle (tgt := 94) hx hb dX8_layOrder_58 (by decide) (⟨by omega, by omega⟩) (fun h10 => ?_) (fun h10 => ?_)
                    · refine lv_iconst (v := zI (0)) hx hb dX8_layOrder_94 rfl ?_
                      refine lv_istore (lv' := [(8, .int (zI 0)), (7, .int (zI (dgs n p9 : Int))), (0, .ref (ad 120)), (3, .int (zI (M : Int))), (4, .int (zI 0)), (5, .int (zI 0)), (6, .int (zI (p9 : Int)))]) hx hb dX8_layOrder_95 hl (by decide) rfl (fun ls hl => ?_)
                      refine lv_iload hx hb dX8_layOrder_97 (lv_at hl 5 rfl) ?_
                      refine pz_ifeq (tgt := 135) hx hb dX8_layOrder_99 (by decide) (⟨by omega, by omega⟩) (fun h11 => ?_) (fun h11 => ?_)
                      · refine lv_iconst (v := zI (0)) hx hb dX8_layOrder_135 rfl ?_
                        refine lv_istore (lv' := [(5, .int (zI 0)), (8, .int (zI 0)), (7, .int (zI (dgs n p9 : Int))), (0, .ref (ad 120)), (3, .int (zI (M : Int))), (4, .int (zI 0)), (6, .int (zI (p9 : Int)))]) hx hb dX8_layOrder_136 hl (by decide) rfl (fun ls hl => ?_)
                        refine lv_iload hx hb dX8_layOrder_138 (lv_at hl 5 rfl) ?_
                        refine pz_ifne (tgt := 153) hx hb dX8_layOrder_140 (by decide) (⟨by omega, by omega⟩) (fun h12 => ?_) (fun h12 => ?_)
                        · omega
                        · refine lv_aload_n hx hb dX8_layOrder_143 rfl (lv_at hl 3 rfl) ?_
                          refine pw_get (r := 120) (ci := 8) (C := RX8) (T := TX8) (Nf := 21) hx hb w hts hin_X8_layOrder_8 hown (by omega) hm1 rfl 11 (by decide) (hts _ fl_X8_layOrder_36) (fun _ h9 => h9) rfl dX8_layOrder_144 ?_
                          refine lv_iload hx hb dX8_layOrder_147 (lv_at hl 2 rfl) ?_
                          refine pw_iald (r := 128) (j := (dgs n p9)) hx hb w (by omega) hM1 (by omega) (by omega) (by decide) dX8_layOrder_149 ?_
                          refine pz_ifne (tgt := 157) hx hb dX8_layOrder_150 (by decide) (⟨by omega, by omega⟩) (fun h13 => ?_) (fun h13 => ?_)
                          · refine lv_iconst (v := zI (0)) hx hb dX8_layOrder_157 rfl ?_
                            refine lv_istore (lv' := [(4, .int (zI 0)), (5, .int (zI 0)), (8, .int (zI 0)), (7, .int (zI (dgs n p9 : Int))), (0, .ref (ad 120)), (3, .int (zI (M : Int))), (6, .int (zI (p9 : Int)))]) hx hb dX8_layOrder_158 hl (by decide) rfl (fun ls hl => ?_)
                            refine lv_iload_n hx hb dX8_layOrder_160 rfl (lv_at hl 5 rfl) ?_
                            refine lv_iconst (v := zI (1)) hx hb dX8_layOrder_161 rfl ?_
                            refine lv_iload hx hb dX8_layOrder_162 (lv_at hl 3 rfl) ?_
                            refine lv_ishl hx hb dX8_layOrder_164 ?_
                            refine lv_ior hx hb dX8_layOrder_165 ?_
                            refine pz_topI (y := zI ((M ||| 1 <<< dgs n p9 : Nat) : Int)) (lo_or M hM _ hdp) ?_
                            refine lv_istore_n (lv' := [(3, .int (zI ((M ||| 1 <<< dgs n p9 : Nat) : Int))), (4, .int (zI 0)), (5, .int (zI 0)), (8, .int (zI 0)), (7, .int (zI (dgs n p9 : Int))), (0, .ref (ad 120)), (6, .int (zI (p9 : Int)))]) hx hb dX8_layOrder_166 rfl hl (by decide) rfl (fun ls hl => ?_)
                            refine pz_iinc (lv' := [(6, .int (zI ((p9 + 1 : Nat) : Int))), (3, .int (zI ((M ||| 1 <<< dgs n p9 : Nat) : Int))), (4, .int (zI 0)), (5, .int (zI 0)), (8, .int (zI 0)), (7, .int (zI (dgs n p9 : Int))), (0, .ref (ad 120))]) hx hb dX8_layOrder_167 hl (j := 6) rfl ((p9 + 1 : Nat) : Int) (by omega) (by decide) rfl (fun ls hl => ?_)
                            refine lv_goto (tgt := 41) hx hb dX8_layOrder_170 (by decide) ?_
                            refine ih (p9 + 1) (M ||| 1 <<< dgs n p9) 0 0 ls (by omega) (lo_lt M hM _ hdp) (by omega) (by omega) ?_ (by omega) (lv_sub hl [6, 1, 2, 3, 0] rfl)
                            rw [loS, hst]
                            refine Prod.ext rfl (Prod.ext ?_ ?_) <;> dsimp only <;> split <;> omega
                          · refine lv_iconst (v := zI (1)) hx hb dX8_layOrder_153 rfl ?_
                            refine lv_goto (tgt := 158) hx hb dX8_layOrder_154 (by decide) ?_
                            refine lv_istore (lv' := [(4, .int (zI 1)), (5, .int (zI 0)), (8, .int (zI 0)), (7, .int (zI (dgs n p9 : Int))), (0, .ref (ad 120)), (3, .int (zI (M : Int))), (6, .int (zI (p9 : Int)))]) hx hb dX8_layOrder_158 hl (by decide) rfl (fun ls hl => ?_)
                            refine lv_iload_n hx hb dX8_layOrder_160 rfl (lv_at hl 5 rfl) ?_
                            refine lv_iconst (v := zI (1)) hx hb dX8_layOrder_161 rfl ?_
                            refine lv_iload hx hb dX8_layOrder_162 (lv_at hl 3 rfl) ?_
                            refine lv_ishl hx hb dX8_layOrder_164 ?_
                            refine lv_ior hx hb dX8_layOrder_165 ?_
                            refine pz_topI (y := zI ((M ||| 1 <<< dgs n p9 : Nat) : Int)) (lo_or M hM _ hdp) ?_
                            refine lv_istore_n (lv' := [(3, .int (zI ((M ||| 1 <<< dgs n p9 : Nat) : Int))), (4, .int (zI 1)), (5, .int (zI 0)), (8, .int (zI 0)), (7, .int (zI (dgs n p9 : Int))), (0, .ref (ad 120)), (6, .int (zI (p9 : Int)))]) hx hb dX8_layOrder_166 rfl hl (by decide) rfl (fun ls hl => ?_)
                            refine pz_iinc (lv' := [(6, .int (zI ((p9 + 1 : Nat) : Int))), (3, .int (zI ((M ||| 1 <<< dgs n p9 : Nat) : Int))), (4, .int (zI 1)), (5, .int (zI 0)), (8, .int (zI 0)), (7, .int (zI (dgs n p9 : Int))), (0, .ref (ad 120))]) hx hb dX8_layOrder_167 hl (j := 6) rfl ((p9 + 1 : Nat) : Int) (by omega) (by decide) rfl (fun ls hl => ?_)
                            refine lv_goto (tgt := 41) hx hb dX8_layOrder_170 (by decide) ?_
                            refine ih (p9 + 1) (M ||| 1 <<< dgs n p9) 1 0 ls (by omega) (lo_lt M hM _ hdp) (by omega) (by omega) ?_ (by omega) (lv_sub hl [6, 1, 2, 3, 0] rfl)
                            rw [loS, hst]
                            refine Prod.ext rfl (Prod.ext ?_ ?_) <;> dsimp only <;> split <;> omega
                      · omega
                    · refine lv_aload_n hx hb dX8_layOrder_61 rfl (lv_at hl 1 rfl) ?_
                      refine pw_get (r := 120) (ci := 8) (C := RX8) (T := TX8) (Nf := 21) hx hb w hts hin_X8_layOrder_8 hown (by omega) hm1 rfl 11 (by decide) (hts _ fl_X8_layOrder_36) (fun _ h9 => h9) rfl dX8_layOrder_62 ?_
                      refine lv_iload hx hb dX8_layOrder_65 (lv_at hl 0 rfl) ?_
                      refine pw_iald (r := 128) (j := (dgs n p9)) hx hb w (by omega) hM1 (by omega) (by omega) (by decide) dX8_layOrder_67 ?_
                      refine pz_ifne (tgt := 94) hx hb dX8_layOrder_68 (by decide) (⟨by omega, by omega⟩) (fun h14 => ?_) (fun h14 => ?_)
                      · refine lv_iconst (v := zI (0)) hx hb dX8_layOrder_94 rfl ?_
                        refine lv_istore (lv' := [(8, .int (zI 0)), (7, .int (zI (dgs n p9 : Int))), (0, .ref (ad 120)), (3, .int (zI (M : Int))), (4, .int (zI 0)), (5, .int (zI 0)), (6, .int (zI (p9 : Int)))]) hx hb dX8_layOrder_95 hl (by decide) rfl (fun ls hl => ?_)
                        refine lv_iload hx hb dX8_layOrder_97 (lv_at hl 5 rfl) ?_
                        refine pz_ifeq (tgt := 135) hx hb dX8_layOrder_99 (by decide) (⟨by omega, by omega⟩) (fun h15 => ?_) (fun h15 => ?_)
                        · refine lv_iconst (v := zI (0)) hx hb dX8_layOrder_135 rfl ?_
                          refine lv_istore (lv' := [(5, .int (zI 0)), (8, .int (zI 0)), (7, .int (zI (dgs n p9 : Int))), (0, .ref (ad 120)), (3, .int (zI (M : Int))), (4, .int (zI 0)), (6, .int (zI (p9 : Int)))]) hx hb dX8_layOrder_136 hl (by decide) rfl (fun ls hl => ?_)
                          refine lv_iload hx hb dX8_layOrder_138 (lv_at hl 5 rfl) ?_
                          refine pz_ifne (tgt := 153) hx hb dX8_layOrder_140 (by decide) (⟨by omega, by omega⟩) (fun h16 => ?_) (fun h16 => ?_)
                          · omega
                          · refine lv_aload_n hx hb dX8_layOrder_143 rfl (lv_at hl 3 rfl) ?_
                            refine pw_get (r := 120) (ci := 8) (C := RX8) (T := TX8) (Nf := 21) hx hb w hts hin_X8_layOrder_8 hown (by omega) hm1 rfl 11 (by decide) (hts _ fl_X8_layOrder_36) (fun _ h9 => h9) rfl dX8_layOrder_144 ?_
                            refine lv_iload hx hb dX8_layOrder_147 (lv_at hl 2 rfl) ?_
                            refine pw_iald (r := 128) (j := (dgs n p9)) hx hb w (by omega) hM1 (by omega) (by omega) (by decide) dX8_layOrder_149 ?_
                            refine pz_ifne (tgt := 157) hx hb dX8_layOrder_150 (by decide) (⟨by omega, by omega⟩) (fun h17 => ?_) (fun h17 => ?_)
                            · refine lv_iconst (v := zI (0)) hx hb dX8_layOrder_157 rfl ?_
                              refine lv_istore (lv' := [(4, .int (zI 0)), (5, .int (zI 0)), (8, .int (zI 0)), (7, .int (zI (dgs n p9 : Int))), (0, .ref (ad 120)), (3, .int (zI (M : Int))), (6, .int (zI (p9 : Int)))]) hx hb dX8_layOrder_158 hl (by decide) rfl (fun ls hl => ?_)
                              refine lv_iload_n hx hb dX8_layOrder_160 rfl (lv_at hl 5 rfl) ?_
                              refine lv_iconst (v := zI (1)) hx hb dX8_layOrder_161 rfl ?_
                              refine lv_iload hx hb dX8_layOrder_162 (lv_at hl 3 rfl) ?_
                              refine lv_ishl hx hb dX8_layOrder_164 ?_
                              refine lv_ior hx hb dX8_layOrder_165 ?_
                              refine pz_topI (y := zI ((M ||| 1 <<< dgs n p9 : Nat) : Int)) (lo_or M hM _ hdp) ?_
                              refine lv_istore_n (lv' := [(3, .int (zI ((M ||| 1 <<< dgs n p9 : Nat) : Int))), (4, .int (zI 0)), (5, .int (zI 0)), (8, .int (zI 0)), (7, .int (zI (dgs n p9 : Int))), (0, .ref (ad 120)), (6, .int (zI (p9 : Int)))]) hx hb dX8_layOrder_166 rfl hl (by decide) rfl (fun ls hl => ?_)
                              refine pz_iinc (lv' := [(6, .int (zI ((p9 + 1 : Nat) : Int))), (3, .int (zI ((M ||| 1 <<< dgs n p9 : Nat) : Int))), (4, .int (zI 0)), (5, .int (zI 0)), (8, .int (zI 0)), (7, .int (zI (dgs n p9 : Int))), (0, .ref (ad 120))]) hx hb dX8_layOrder_167 hl (j := 6) rfl ((p9 + 1 : Nat) : Int) (by omega) (by decide) rfl (fun ls hl => ?_)
                              refine lv_goto (tgt := 41) hx hb dX8_layOrder_170 (by decide) ?_
                              refine ih (p9 + 1) (M ||| 1 <<< dgs n p9) 0 0 ls (by omega) (lo_lt M hM _ hdp) (by omega) (by omega) ?_ (by omega) (lv_sub hl [6, 1, 2, 3, 0] rfl)
                              rw [loS, hst]
                              refine Prod.ext rfl (Prod.ext ?_ ?_) <;> dsimp only <;> split <;> omega
                            · refine lv_iconst (v := zI (1)) hx hb dX8_layOrder_153 rfl ?_
                              refine lv_goto (tgt := 158) hx hb dX8_layOrder_154 (by decide) ?_
                              refine lv_istore (lv' := [(4, .int (zI 1)), (5, .int (zI 0)), (8, .int (zI 0)), (7, .int (zI (dgs n p9 : Int))), (0, .ref (ad 120)), (3, .int (zI (M : Int))), (6, .int (zI (p9 : Int)))]) hx hb dX8_layOrder_158 hl (by decide) rfl (fun ls hl => ?_)
                              refine lv_iload_n hx hb dX8_layOrder_160 rfl (lv_at hl 5 rfl) ?_
                              refine lv_iconst (v := zI (1)) hx hb dX8_layOrder_161 rfl ?_
                              refine lv_iload hx hb dX8_layOrder_162 (lv_at hl 3 rfl) ?_
                              refine lv_ishl hx hb dX8_layOrder_164 ?_
                              refine lv_ior hx hb dX8_layOrder_165 ?_
                              refine pz_topI (y := zI ((M ||| 1 <<< dgs n p9 : Nat) : Int)) (lo_or M hM _ hdp) ?_
                              refine lv_istore_n (lv' := [(3, .int (zI ((M ||| 1 <<< dgs n p9 : Nat) : Int))), (4, .int (zI 1)), (5, .int (zI 0)), (8, .int (zI 0)), (7, .int (zI (dgs n p9 : Int))), (0, .ref (ad 120)), (6, .int (zI (p9 : Int)))]) hx hb dX8_layOrder_166 rfl hl (by decide) rfl (fun ls hl => ?_)
                              refine pz_iinc (lv' := [(6, .int (zI ((p9 + 1 : Nat) : Int))), (3, .int (zI ((M ||| 1 <<< dgs n p9 : Nat) : Int))), (4, .int (zI 1)), (5, .int (zI 0)), (8, .int (zI 0)), (7, .int (zI (dgs n p9 : Int))), (0, .ref (ad 120))]) hx hb dX8_layOrder_167 hl (j := 6) rfl ((p9 + 1 : Nat) : Int) (by omega) (by decide) rfl (fun ls hl => ?_)
                              refine lv_goto (tgt := 41) hx hb dX8_layOrder_170 (by decide) ?_
                              refine ih (p9 + 1) (M ||| 1 <<< dgs n p9) 1 0 ls (by omega) (lo_lt M hM _ hdp) (by omega) (by omega) ?_ (by omega) (lv_sub hl [6, 1, 2, 3, 0] rfl)
                              rw [loS, hst]
                              refine Prod.ext rfl (Prod.ext ?_ ?_) <;> dsimp only <;> split <;> omega
                        · omega
                      · refine lv_iload hx hb dX8_layOrder_71 (lv_at hl 3 rfl) ?_
                        refine pz_ifeq (tgt := 94) hx hb dX8_layOrder_73 (by decide) (⟨by omega, by omega⟩) (fun h18 => ?_) (fun h18 => ?_)
                        · refine lv_iconst (v := zI (0)) hx hb dX8_layOrder_94 rfl ?_
                          refine lv_istore (lv' := [(8, .int (zI 0)), (7, .int (zI (dgs n p9 : Int))), (0, .ref (ad 120)), (3, .int (zI (M : Int))), (4, .int (zI 0)), (5, .int (zI 0)), (6, .int (zI (p9 : Int)))]) hx hb dX8_layOrder_95 hl (by decide) rfl (fun ls hl => ?_)
                          refine lv_iload hx hb dX8_layOrder_97 (lv_at hl 5 rfl) ?_
                          refine pz_ifeq (tgt := 135) hx hb dX8_layOrder_99 (by decide) (⟨by omega, by omega⟩) (fun h19 => ?_) (fun h19 => ?_)
                          · refine lv_iconst (v := zI (0)) hx hb dX8_layOrder_135 rfl ?_
                            refine lv_istore (lv' := [(5, .int (zI 0)), (8, .int (zI 0)), (7, .int (zI (dgs n p9 : Int))), (0, .ref (ad 120)), (3, .int (zI (M : Int))), (4, .int (zI 0)), (6, .int (zI (p9 : Int)))]) hx hb dX8_layOrder_136 hl (by decide) rfl (fun ls hl => ?_)
                            refine lv_iload hx hb dX8_layOrder_138 (lv_at hl 5 rfl) ?_
                            refine pz_ifne (tgt := 153) hx hb dX8_layOrder_140 (by decide) (⟨by omega, by omega⟩) (fun h20 => ?_) (fun h20 => ?_)
                            · omega
                            · refine lv_aload_n hx hb dX8_layOrder_143 rfl (lv_at hl 3 rfl) ?_
                              refine pw_get (r := 120) (ci := 8) (C := RX8) (T := TX8) (Nf := 21) hx hb w hts hin_X8_layOrder_8 hown (by omega) hm1 rfl 11 (by decide) (hts _ fl_X8_layOrder_36) (fun _ h9 => h9) rfl dX8_layOrder_144 ?_
                              refine lv_iload hx hb dX8_layOrder_147 (lv_at hl 2 rfl) ?_
                              refine pw_iald (r := 128) (j := (dgs n p9)) hx hb w (by omega) hM1 (by omega) (by omega) (by decide) dX8_layOrder_149 ?_
                              refine pz_ifne (tgt := 157) hx hb dX8_layOrder_150 (by decide) (⟨by omega, by omega⟩) (fun h21 => ?_) (fun h21 => ?_)
                              · refine lv_iconst (v := zI (0)) hx hb dX8_layOrder_157 rfl ?_
                                refine lv_istore (lv' := [(4, .int (zI 0)), (5, .int (zI 0)), (8, .int (zI 0)), (7, .int (zI (dgs n p9 : Int))), (0, .ref (ad 120)), (3, .int (zI (M : Int))), (6, .int (zI (p9 : Int)))]) hx hb dX8_layOrder_158 hl (by decide) rfl (fun ls hl => ?_)
                                refine lv_iload_n hx hb dX8_layOrder_160 rfl (lv_at hl 5 rfl) ?_
                                refine lv_iconst (v := zI (1)) hx hb dX8_layOrder_161 rfl ?_
                                refine lv_iload hx hb dX8_layOrder_162 (lv_at hl 3 rfl) ?_
                                refine lv_ishl hx hb dX8_layOrder_164 ?_
                                refine lv_ior hx hb dX8_layOrder_165 ?_
                                refine pz_topI (y := zI ((M ||| 1 <<< dgs n p9 : Nat) : Int)) (lo_or M hM _ hdp) ?_
                                refine lv_istore_n (lv' := [(3, .int (zI ((M ||| 1 <<< dgs n p9 : Nat) : Int))), (4, .int (zI 0)), (5, .int (zI 0)), (8, .int (zI 0)), (7, .int (zI (dgs n p9 : Int))), (0, .ref (ad 120)), (6, .int (zI (p9 : Int)))]) hx hb dX8_layOrder_166 rfl hl (by decide) rfl (fun ls hl => ?_)
                                refine pz_iinc (lv' := [(6, .int (zI ((p9 + 1 : Nat) : Int))), (3, .int (zI ((M ||| 1 <<< dgs n p9 : Nat) : Int))), (4, .int (zI 0)), (5, .int (zI 0)), (8, .int (zI 0)), (7, .int (zI (dgs n p9 : Int))), (0, .ref (ad 120))]) hx hb dX8_layOrder_167 hl (j := 6) rfl ((p9 + 1 : Nat) : Int) (by omega) (by decide) rfl (fun ls hl => ?_)
                                refine lv_goto (tgt := 41) hx hb dX8_layOrder_170 (by decide) ?_
                                refine ih (p9 + 1) (M ||| 1 <<< dgs n p9) 0 0 ls (by omega) (lo_lt M hM _ hdp) (by omega) (by omega) ?_ (by omega) (lv_sub hl [6, 1, 2, 3, 0] rfl)
                                rw [loS, hst]
                                refine Prod.ext rfl (Prod.ext ?_ ?_) <;> dsimp only <;> split <;> omega
                              · refine lv_iconst (v := zI (1)) hx hb dX8_layOrder_153 rfl ?_
                                refine lv_goto (tgt := 158) hx hb dX8_layOrder_154 (by decide) ?_
                                refine lv_istore (lv' := [(4, .int (zI 1)), (5, .int (zI 0)), (8, .int (zI 0)), (7, .int (zI (dgs n p9 : Int))), (0, .ref (ad 120)), (3, .int (zI (M : Int))), (6, .int (zI (p9 : Int)))]) hx hb dX8_layOrder_158 hl (by decide) rfl (fun ls hl => ?_)
                                refine lv_iload_n hx hb dX8_layOrder_160 rfl (lv_at hl 5 rfl) ?_
                                refine lv_iconst (v := zI (1)) hx hb dX8_layOrder_161 rfl ?_
                                refine lv_iload hx hb dX8_layOrder_162 (lv_at hl 3 rfl) ?_
                                refine lv_ishl hx hb dX8_layOrder_164 ?_
                                refine lv_ior hx hb dX8_layOrder_165 ?_
                                refine pz_topI (y := zI ((M ||| 1 <<< dgs n p9 : Nat) : Int)) (lo_or M hM _ hdp) ?_
                                refine lv_istore_n (lv' := [(3, .int (zI ((M ||| 1 <<< dgs n p9 : Nat) : Int))), (4, .int (zI 1)), (5, .int (zI 0)), (8, .int (zI 0)), (7, .int (zI (dgs n p9 : Int))), (0, .ref (ad 120)), (6, .int (zI (p9 : Int)))]) hx hb dX8_layOrder_166 rfl hl (by decide) rfl (fun ls hl => ?_)
                                refine pz_iinc (lv' := [(6, .int (zI ((p9 + 1 : Nat) : Int))), (3, .int (zI ((M ||| 1 <<< dgs n p9 : Nat) : Int))), (4, .int (zI 1)), (5, .int (zI 0)), (8, .int (zI 0)), (7, .int (zI (dgs n p9 : Int))), (0, .ref (ad 120))]) hx hb dX8_layOrder_167 hl (j := 6) rfl ((p9 + 1 : Nat) : Int) (by omega) (by decide) rfl (fun ls hl => ?_)
                                refine lv_goto (tgt := 41) hx hb dX8_layOrder_170 (by decide) ?_
                                refine ih (p9 + 1) (M ||| 1 <<< dgs n p9) 1 0 ls (by omega) (lo_lt M hM _ hdp) (by omega) (by omega) ?_ (by omega) (lv_sub hl [6, 1, 2, 3, 0] rfl)
                                rw [loS, hst]
                                refine Prod.ext rfl (Prod.ext ?_ ?_) <;> dsimp only <;> split <;> omega
                          · omega
                        · omega
                  · subst h h'
                    have hl : lv_has ls 9 [(0, .ref (ad 120)), (3, .int (zI (M : Int))), (4, .int (zI 0)), (5, .int (zI 1)), (6, .int (zI (p9 : Int)))] := hl
                    refine lv_aload_n hx hb dX8_layOrder_47 rfl (lv_at hl 0 rfl) ?_
                    refine pw_get (r := 120) (ci := 8) (C := RX8) (T := TX8) (Nf := 21) hx hb w hts hin_X8_layOrder_8 hown (by omega) hm1 rfl 19 (by decide) (hts _ fl_X8_layOrder_57) (fun _ h9 => h9) rfl dX8_layOrder_48 ?_
                    refine lv_iload hx hb dX8_layOrder_51 (lv_at hl 4 rfl) ?_
                    refine pw_iald (r := 135) (j := p9) hx hb w (by omega) hO1 (by omega) (by omega) (by decide) dX8_layOrder_53 ?_
                    refine pz_top (b := (dgs n p9 : Int)) (rfl) ?_
                    refine lv_istore (lv' := [(7, .int (zI (dgs n p9 : Int))), (0, .ref (ad 120)), (3, .int (zI (M : Int))), (4, .int (zI 0)), (5, .int (zI 1)), (6, .int (zI (p9 : Int)))]) hx hb dX8_layOrder_54 hl (by decide) rfl (fun ls hl => ?_)
                    refine lv_iload hx hb dX8_layOrder_56 (lv_at hl 5 rfl) ?_
                    refine pz_ifle (tgt := 94) hx hb dX8_layOrder_58 (by decide) (⟨by omega, by omega⟩) (fun h22 => ?_) (fun h22 => ?_)
                    · refine lv_iconst (v := zI (0)) hx hb dX8_layOrder_94 rfl ?_
                      refine lv_istore (lv' := [(8, .int (zI 0)), (7, .int (zI (dgs n p9 : Int))), (0, .ref (ad 120)), (3, .int (zI (M : Int))), (4, .int (zI 0)), (5, .int (zI 1)), (6, .int (zI (p9 : Int)))]) hx hb dX8_layOrder_95 hl (by decide) rfl (fun ls hl => ?_)
                      refine lv_iload hx hb dX8_layOrder_97 (lv_at hl 5 rfl) ?_
                      refine pz_ifeq (tgt := 135) hx hb dX8_layOrder_99 (by decide) (⟨by omega, by omega⟩) (fun h23 => ?_) (fun h23 => ?_)
                      · omega
                      · refine lv_iload_n hx hb dX8_layOrder_102 rfl (lv_at hl 3 rfl) ?_
                        refine lv_iload hx hb dX8_layOrder_103 (lv_at hl 1 rfl) ?_
                        refine lv_ishr hx hb dX8_layOrder_105 ?_
                        refine lv_iconst (v := zI (1)) hx hb dX8_layOrder_106 rfl ?_
                        refine lv_iand hx hb dX8_layOrder_107 ?_
                        refine pz_topI (y := zI ((bi M (dgs n p9) : Nat) : Int)) (lo_bit M hM _ hdp) ?_
                        refine pz_ifne (tgt := 135) hx hb dX8_layOrder_108 (by decide) (⟨by omega, by omega⟩) (fun h24 => ?_) (fun h24 => ?_)
                        · refine lv_iconst (v := zI (0)) hx hb dX8_layOrder_135 rfl ?_
                          refine lv_istore (lv' := [(5, .int (zI 0)), (8, .int (zI 0)), (7, .int (zI (dgs n p9 : Int))), (0, .ref (ad 120)), (3, .int (zI (M : Int))), (4, .int (zI 0)), (6, .int (zI (p9 : Int)))]) hx hb dX8_layOrder_136 hl (by decide) rfl (fun ls hl => ?_)
                          refine lv_iload hx hb dX8_layOrder_138 (lv_at hl 5 rfl) ?_
                          refine pz_ifne (tgt := 153) hx hb dX8_layOrder_140 (by decide) (⟨by omega, by omega⟩) (fun h25 => ?_) (fun h25 => ?_)
                          · omega
                          · refine lv_aload_n hx hb dX8_layOrder_143 rfl (lv_at hl 3 rfl) ?_
                            refine pw_get (r := 120) (ci := 8) (C := RX8) (T := TX8) (Nf := 21) hx hb w hts hin_X8_layOrder_8 hown (by omega) hm1 rfl 11 (by decide) (hts _ fl_X8_layOrder_36) (fun _ h9 => h9) rfl dX8_layOrder_144 ?_
                            refine lv_iload hx hb dX8_layOrder_147 (lv_at hl 2 rfl) ?_
                            refine pw_iald (r := 128) (j := (dgs n p9)) hx hb w (by omega) hM1 (by omega) (by omega) (by decide) dX8_layOrder_149 ?_
                            refine pz_ifne (tgt := 157) hx hb dX8_layOrder_150 (by decide) (⟨by omega, by omega⟩) (fun h26 => ?_) (fun h26 => ?_)
                            · refine lv_iconst (v := zI (0)) hx hb dX8_layOrder_157 rfl ?_
                              refine lv_istore (lv' := [(4, .int (zI 0)), (5, .int (zI 0)), (8, .int (zI 0)), (7, .int (zI (dgs n p9 : Int))), (0, .ref (ad 120)), (3, .int (zI (M : Int))), (6, .int (zI (p9 : Int)))]) hx hb dX8_layOrder_158 hl (by decide) rfl (fun ls hl => ?_)
                              refine lv_iload_n hx hb dX8_layOrder_160 rfl (lv_at hl 5 rfl) ?_
                              refine lv_iconst (v := zI (1)) hx hb dX8_layOrder_161 rfl ?_
                              refine lv_iload hx hb dX8_layOrder_162 (lv_at hl 3 rfl) ?_
                              refine lv_ishl hx hb dX8_layOrder_164 ?_
                              refine lv_ior hx hb dX8_layOrder_165 ?_
                              refine pz_topI (y := zI ((M ||| 1 <<< dgs n p9 : Nat) : Int)) (lo_or M hM _ hdp) ?_
                              refine lv_istore_n (lv' := [(3, .int (zI ((M ||| 1 <<< dgs n p9 : Nat) : Int))), (4, .int (zI 0)), (5, .int (zI 0)), (8, .int (zI 0)), (7, .int (zI (dgs n p9 : Int))), (0, .ref (ad 120)), (6, .int (zI (p9 : Int)))]) hx hb dX8_layOrder_166 rfl hl (by decide) rfl (fun ls hl => ?_)
                              refine pz_iinc (lv' := [(6, .int (zI ((p9 + 1 : Nat) : Int))), (3, .int (zI ((M ||| 1 <<< dgs n p9 : Nat) : Int))), (4, .int (zI 0)), (5, .int (zI 0)), (8, .int (zI 0)), (7, .int (zI (dgs n p9 : Int))), (0, .ref (ad 120))]) hx hb dX8_layOrder_167 hl (j := 6) rfl ((p9 + 1 : Nat) : Int) (by omega) (by decide) rfl (fun ls hl => ?_)
                              refine lv_goto (tgt := 41) hx hb dX8_layOrder_170 (by decide) ?_
                              refine ih (p9 + 1) (M ||| 1 <<< dgs n p9) 0 0 ls (by omega) (lo_lt M hM _ hdp) (by omega) (by omega) ?_ (by omega) (lv_sub hl [6, 1, 2, 3, 0] rfl)
                              rw [loS, hst]
                              refine Prod.ext rfl (Prod.ext ?_ ?_) <;> dsimp only <;> split <;> omega
                            · refine lv_iconst (v := zI (1)) hx hb dX8_layOrder_153 rfl ?_
                              refine lv_goto (tgt := 158) hx hb dX8_layOrder_154 (by decide) ?_
                              refine lv_istore (lv' := [(4, .int (zI 1)), (5, .int (zI 0)), (8, .int (zI 0)), (7, .int (zI (dgs n p9 : Int))), (0, .ref (ad 120)), (3, .int (zI (M : Int))), (6, .int (zI (p9 : Int)))]) hx hb dX8_layOrder_158 hl (by decide) rfl (fun ls hl => ?_)
                              refine lv_iload_n hx hb dX8_layOrder_160 rfl (lv_at hl 5 rfl) ?_
                              refine lv_iconst (v := zI (1)) hx hb dX8_layOrder_161 rfl ?_
                              refine lv_iload hx hb dX8_layOrder_162 (lv_at hl 3 rfl) ?_
                              refine lv_ishl hx hb dX8_layOrder_164 ?_
                              refine lv_ior hx hb dX8_layOrder_165 ?_
                              refine pz_topI (y := zI ((M ||| 1 <<< dgs n p9 : Nat) : Int)) (lo_or M hM _ hdp) ?_
                              refine lv_istore_n (lv' := [(3, .int (zI ((M ||| 1 <<< dgs n p9 : Nat) : Int))), (4, .int (zI 1)), (5, .int (zI 0)), (8, .int (zI 0)), (7, .int (zI (dgs n p9 : Int))), (0, .ref (ad 120)), (6, .int (zI (p9 : Int)))]) hx hb dX8_layOrder_166 rfl hl (by decide) rfl (fun ls hl => ?_)
                              refine pz_iinc (lv' := [(6, .int (zI ((p9 + 1 : Nat) : Int))), (3, .int (zI ((M ||| 1 <<< dgs n p9 : Nat) : Int))), (4, .int (zI 1)), (5, .int (zI 0)), (8, .int (zI 0)), (7, .int (zI (dgs n p9 : Int))), (0, .ref (ad 120))]) hx hb dX8_layOrder_167 hl (j := 6) rfl ((p9 + 1 : Nat) : Int) (by omega) (by decide) rfl (fun ls hl => ?_)
                              refine lv_goto (tgt := 41) hx hb dX8_layOrder_170 (by decide) ?_
                              refine ih (p9 + 1) (M ||| 1 <<< dgs n p9) 1 0 ls (by omega) (lo_lt M hM _ hdp) (by omega) (by omega) ?_ (by omega) (lv_sub hl [6, 1, 2, 3, 0] rfl)
                              rw [loS, hst]
                              refine Prod.ext rfl (Prod.ext ?_ ?_) <;> dsimp only <;> split <;> omega
                        · refine lv_iload hx hb dX8_layOrder_111 (lv_at hl 0 rfl) ?_
                          refine pz_ifne (tgt := 135) hx hb dX8_layOrder_113 (by decide) (⟨by omega, by omega⟩) (fun h27 => ?_) (fun h27 => ?_)
                          · omega
                          · refine lv_aload_n hx hb dX8_layOrder_116 rfl (lv_at hl 2 rfl) ?_
                            refine pw_get (r := 120) (ci := 8) (C := RX8) (T := TX8) (Nf := 21) hx hb w hts hin_X8_layOrder_8 hown (by omega) hm1 rfl 11 (by decide) (hts _ fl_X8_layOrder_36) (fun _ h9 => h9) rfl dX8_layOrder_117 ?_
                            refine lv_iload hx hb dX8_layOrder_120 (lv_at hl 1 rfl) ?_
                            refine pw_iald (r := 128) (j := (dgs n p9)) hx hb w (by omega) hM1 (by omega) (by omega) (by decide) dX8_layOrder_122 ?_
                            refine pz_ifeq (tgt := 131) hx hb dX8_layOrder_123 (by decide) (⟨by omega, by omega⟩) (fun h28 => ?_) (fun h28 => ?_)
                            · refine lv_iconst (v := zI (1)) hx hb dX8_layOrder_131 rfl ?_
                              refine lv_goto (tgt := 136) hx hb dX8_layOrder_132 (by decide) ?_
                              refine lv_istore (lv' := [(5, .int (zI 1)), (8, .int (zI 0)), (7, .int (zI (dgs n p9 : Int))), (0, .ref (ad 120)), (3, .int (zI (M : Int))), (4, .int (zI 0)), (6, .int (zI (p9 : Int)))]) hx hb dX8_layOrder_136 hl (by decide) rfl (fun ls hl => ?_)
                              refine lv_iload hx hb dX8_layOrder_138 (lv_at hl 5 rfl) ?_
                              refine pz_ifne (tgt := 153) hx hb dX8_layOrder_140 (by decide) (⟨by omega, by omega⟩) (fun h29 => ?_) (fun h29 => ?_)
                              · omega
                              · refine lv_aload_n hx hb dX8_layOrder_143 rfl (lv_at hl 3 rfl) ?_
                                refine pw_get (r := 120) (ci := 8) (C := RX8) (T := TX8) (Nf := 21) hx hb w hts hin_X8_layOrder_8 hown (by omega) hm1 rfl 11 (by decide) (hts _ fl_X8_layOrder_36) (fun _ h9 => h9) rfl dX8_layOrder_144 ?_
                                refine lv_iload hx hb dX8_layOrder_147 (lv_at hl 2 rfl) ?_
                                refine pw_iald (r := 128) (j := (dgs n p9)) hx hb w (by omega) hM1 (by omega) (by omega) (by decide) dX8_layOrder_149 ?_
                                refine pz_ifne (tgt := 157) hx hb dX8_layOrder_150 (by decide) (⟨by omega, by omega⟩) (fun h30 => ?_) (fun h30 => ?_)
                                · refine lv_iconst (v := zI (0)) hx hb dX8_layOrder_157 rfl ?_
                                  refine lv_istore (lv' := [(4, .int (zI 0)), (5, .int (zI 1)), (8, .int (zI 0)), (7, .int (zI (dgs n p9 : Int))), (0, .ref (ad 120)), (3, .int (zI (M : Int))), (6, .int (zI (p9 : Int)))]) hx hb dX8_layOrder_158 hl (by decide) rfl (fun ls hl => ?_)
                                  refine lv_iload_n hx hb dX8_layOrder_160 rfl (lv_at hl 5 rfl) ?_
                                  refine lv_iconst (v := zI (1)) hx hb dX8_layOrder_161 rfl ?_
                                  refine lv_iload hx hb dX8_layOrder_162 (lv_at hl 3 rfl) ?_
                                  refine lv_ishl hx hb dX8_layOrder_164 ?_
                                  refine lv_ior hx hb dX8_layOrder_165 ?_
                                  refine pz_topI (y := zI ((M ||| 1 <<< dgs n p9 : Nat) : Int)) (lo_or M hM _ hdp) ?_
                                  refine lv_istore_n (lv' := [(3, .int (zI ((M ||| 1 <<< dgs n p9 : Nat) : Int))), (4, .int (zI 0)), (5, .int (zI 1)), (8, .int (zI 0)), (7, .int (zI (dgs n p9 : Int))), (0, .ref (ad 120)), (6, .int (zI (p9 : Int)))]) hx hb dX8_layOrder_166 rfl hl (by decide) rfl (fun ls hl => ?_)
                                  refine pz_iinc (lv' := [(6, .int (zI ((p9 + 1 : Nat) : Int))), (3, .int (zI ((M ||| 1 <<< dgs n p9 : Nat) : Int))), (4, .int (zI 0)), (5, .int (zI 1)), (8, .int (zI 0)), (7, .int (zI (dgs n p9 : Int))), (0, .ref (ad 120))]) hx hb dX8_layOrder_167 hl (j := 6) rfl ((p9 + 1 : Nat) : Int) (by omega) (by decide) rfl (fun ls hl => ?_)
                                  refine lv_goto (tgt := 41) hx hb dX8_layOrder_170 (by decide) ?_
                                  refine ih (p9 + 1) (M ||| 1 <<< dgs n p9) 0 1 ls (by omega) (lo_lt M hM _ hdp) (by omega) (by omega) ?_ (by omega) (lv_sub hl [6, 1, 2, 3, 0] rfl)
                                  rw [loS, hst]
                                  refine Prod.ext rfl (Prod.ext ?_ ?_) <;> dsimp only <;> split <;> omega
                                · refine lv_iconst (v := zI (1)) hx hb dX8_layOrder_153 rfl ?_
                                  refine lv_goto (tgt := 158) hx hb dX8_layOrder_154 (by decide) ?_
                                  refine lv_istore (lv' := [(4, .int (zI 1)), (5, .int (zI 1)), (8, .int (zI 0)), (7, .int (zI (dgs n p9 : Int))), (0, .ref (ad 120)), (3, .int (zI (M : Int))), (6, .int (zI (p9 : Int)))]) hx hb dX8_layOrder_158 hl (by decide) rfl (fun ls hl => ?_)
                                  refine lv_iload_n hx hb dX8_layOrder_160 rfl (lv_at hl 5 rfl) ?_
                                  refine lv_iconst (v := zI (1)) hx hb dX8_layOrder_161 rfl ?_
                                  refine lv_iload hx hb dX8_layOrder_162 (lv_at hl 3 rfl) ?_
                                  refine lv_ishl hx hb dX8_layOrder_164 ?_
                                  refine lv_ior hx hb dX8_layOrder_165 ?_
                                  refine pz_topI (y := zI ((M ||| 1 <<< dgs n p9 : Nat) : Int)) (lo_or M hM _ hdp) ?_
                                  refine lv_istore_n (lv' := [(3, .int (zI ((M ||| 1 <<< dgs n p9 : Nat) : Int))), (4, .int (zI 1)), (5, .int (zI 1)), (8, .int (zI 0)), (7, .int (zI (dgs n p9 : Int))), (0, .ref (ad 120)), (6, .int (zI (p9 : Int)))]) hx hb dX8_layOrder_166 rfl hl (by decide) rfl (fun ls hl => ?_)
                                  refine pz_iinc (lv' := [(6, .int (zI ((p9 + 1 : Nat) : Int))), (3, .int (zI ((M ||| 1 <<< dgs n p9 : Nat) : Int))), (4, .int (zI 1)), (5, .int (zI 1)), (8, .int (zI 0)), (7, .int (zI (dgs n p9 : Int))), (0, .ref (ad 120))]) hx hb dX8_layOrder_167 hl (j := 6) rfl ((p9 + 1 : Nat) : Int) (by omega) (by decide) rfl (fun ls hl => ?_)
                                  refine lv_goto (tgt := 41) hx hb dX8_layOrder_170 (by decide) ?_
                                  refine ih (p9 + 1) (M ||| 1 <<< dgs n p9) 1 1 ls (by omega) (lo_lt M hM _ hdp) (by omega) (by omega) ?_ (by omega) (lv_sub hl [6, 1, 2, 3, 0] rfl)
                                  rw [loS, hst]
                                  refine Prod.ext rfl (Prod.ext ?_ ?_) <;> dsimp only <;> split <;> omega
                            · refine lv_iload hx hb dX8_layOrder_126 (lv_at hl 4 rfl) ?_
                              refine pz_ifne (tgt := 135) hx hb dX8_layOrder_128 (by decide) (⟨by omega, by omega⟩) (fun h31 => ?_) (fun h31 => ?_)
                              · omega
                              · refine lv_iconst (v := zI (1)) hx hb dX8_layOrder_131 rfl ?_
                                refine lv_goto (tgt := 136) hx hb dX8_layOrder_132 (by decide) ?_
                                refine lv_istore (lv' := [(5, .int (zI 1)), (8, .int (zI 0)), (7, .int (zI (dgs n p9 : Int))), (0, .ref (ad 120)), (3, .int (zI (M : Int))), (4, .int (zI 0)), (6, .int (zI (p9 : Int)))]) hx hb dX8_layOrder_136 hl (by decide) rfl (fun ls hl => ?_)
                                refine lv_iload hx hb dX8_layOrder_138 (lv_at hl 5 rfl) ?_
                                refine pz_ifne (tgt := 153) hx hb dX8_layOrder_140 (by decide) (⟨by omega, by omega⟩) (fun h32 => ?_) (fun h32 => ?_)
                                · omega
                                · refine lv_aload_n hx hb dX8_layOrder_143 rfl (lv_at hl 3 rfl) ?_
                                  refine pw_get (r := 120) (ci := 8) (C := RX8) (T := TX8) (Nf := 21) hx hb w hts hin_X8_layOrder_8 hown (by omega) hm1 rfl 11 (by decide) (hts _ fl_X8_layOrder_36) (fun _ h9 => h9) rfl dX8_layOrder_144 ?_
                                  refine lv_iload hx hb dX8_layOrder_147 (lv_at hl 2 rfl) ?_
                                  refine pw_iald (r := 128) (j := (dgs n p9)) hx hb w (by omega) hM1 (by omega) (by omega) (by decide) dX8_layOrder_149 ?_
                                  refine pz_ifne (tgt := 157) hx hb dX8_layOrder_150 (by decide) (⟨by omega, by omega⟩) (fun h33 => ?_) (fun h33 => ?_)
                                  · refine lv_iconst (v := zI (0)) hx hb dX8_layOrder_157 rfl ?_
                                    refine lv_istore (lv' := [(4, .int (zI 0)), (5, .int (zI 1)), (8, .int (zI 0)), (7, .int (zI (dgs n p9 : Int))), (0, .ref (ad 120)), (3, .int (zI (M : Int))), (6, .int (zI (p9 : Int)))]) hx hb dX8_layOrder_158 hl (by decide) rfl (fun ls hl => ?_)
                                    refine lv_iload_n hx hb dX8_layOrder_160 rfl (lv_at hl 5 rfl) ?_
                                    refine lv_iconst (v := zI (1)) hx hb dX8_layOrder_161 rfl ?_
                                    refine lv_iload hx hb dX8_layOrder_162 (lv_at hl 3 rfl) ?_
                                    refine lv_ishl hx hb dX8_layOrder_164 ?_
                                    refine lv_ior hx hb dX8_layOrder_165 ?_
                                    refine pz_topI (y := zI ((M ||| 1 <<< dgs n p9 : Nat) : Int)) (lo_or M hM _ hdp) ?_
                                    refine lv_istore_n (lv' := [(3, .int (zI ((M ||| 1 <<< dgs n p9 : Nat) : Int))), (4, .int (zI 0)), (5, .int (zI 1)), (8, .int (zI 0)), (7, .int (zI (dgs n p9 : Int))), (0, .ref (ad 120)), (6, .int (zI (p9 : Int)))]) hx hb dX8_layOrder_166 rfl hl (by decide) rfl (fun ls hl => ?_)
                                    refine pz_iinc (lv' := [(6, .int (zI ((p9 + 1 : Nat) : Int))), (3, .int (zI ((M ||| 1 <<< dgs n p9 : Nat) : Int))), (4, .int (zI 0)), (5, .int (zI 1)), (8, .int (zI 0)), (7, .int (zI (dgs n p9 : Int))), (0, .ref (ad 120))]) hx hb dX8_layOrder_167 hl (j := 6) rfl ((p9 + 1 : Nat) : Int) (by omega) (by decide) rfl (fun ls hl => ?_)
                                    refine lv_goto (tgt := 41) hx hb dX8_layOrder_170 (by decide) ?_
                                    refine ih (p9 + 1) (M ||| 1 <<< dgs n p9) 0 1 ls (by omega) (lo_lt M hM _ hdp) (by omega) (by omega) ?_ (by omega) (lv_sub hl [6, 1, 2, 3, 0] rfl)
                                    rw [loS, hst]
                                    refine Prod.ext rfl (Prod.ext ?_ ?_) <;> dsimp only <;> split <;> omega
                                  · refine lv_iconst (v := zI (1)) hx hb dX8_layOrder_153 rfl ?_
                                    refine lv_goto (tgt := 158) hx hb dX8_layOrder_154 (by decide) ?_
                                    refine lv_istore (lv' := [(4, .int (zI 1)), (5, .int (zI 1)), (8, .int (zI 0)), (7, .int (zI (dgs n p9 : Int))), (0, .ref (ad 120)), (3, .int (zI (M : Int))), (6, .int (zI (p9 : Int)))]) hx hb dX8_layOrder_158 hl (by decide) rfl (fun ls hl => ?_)
                                    refine lv_iload_n hx hb dX8_layOrder_160 rfl (lv_at hl 5 rfl) ?_
                                    refine lv_iconst (v := zI (1)) hx hb dX8_layOrder_161 rfl ?_
                                    refine lv_iload hx hb dX8_layOrder_162 (lv_at hl 3 rfl) ?_
                                    refine lv_ishl hx hb dX8_layOrder_164 ?_
                                    refine lv_ior hx hb dX8_layOrder_165 ?_
                                    refine pz_topI (y := zI ((M ||| 1 <<< dgs n p9 : Nat) : Int)) (lo_or M hM _ hdp) ?_
                                    refine lv_istore_n (lv' := [(3, .int (zI ((M ||| 1 <<< dgs n p9 : Nat) : Int))), (4, .int (zI 1)), (5, .int (zI 1)), (8, .int (zI 0)), (7, .int (zI (dgs n p9 : Int))), (0, .ref (ad 120)), (6, .int (zI (p9 : Int)))]) hx hb dX8_layOrder_166 rfl hl (by decide) rfl (fun ls hl => ?_)
                                    refine pz_iinc (lv' := [(6, .int (zI ((p9 + 1 : Nat) : Int))), (3, .int (zI ((M ||| 1 <<< dgs n p9 : Nat) : Int))), (4, .int (zI 1)), (5, .int (zI 1)), (8, .int (zI 0)), (7, .int (zI (dgs n p9 : Int))), (0, .ref (ad 120))]) hx hb dX8_layOrder_167 hl (j := 6) rfl ((p9 + 1 : Nat) : Int) (by omega) (by decide) rfl (fun ls hl => ?_)
                                    refine lv_goto (tgt := 41) hx hb dX8_layOrder_170 (by decide) ?_
                                    refine ih (p9 + 1) (M ||| 1 <<< dgs n p9) 1 1 ls (by omega) (lo_lt M hM _ hdp) (by omega) (by omega) ?_ (by omega) (lv_sub hl [6, 1, 2, 3, 0] rfl)
                                    rw [loS, hst]
                                    refine Prod.ext rfl (Prod.ext ?_ ?_) <;> dsimp only <;> split <;> omega
                    · refine lv_aload_n hx hb dX8_layOrder_61 rfl (lv_at hl 1 rfl) ?_
                      refine pw_get (r := 120) (ci := 8) (C := RX8) (T := TX8) (Nf := 21) hx hb w hts hin_X8_layOrder_8 hown (by omega) hm1 rfl 11 (by decide) (hts _ fl_X8_layOrder_36) (fun _ h9 => h9) rfl dX8_layOrder_62 ?_
                      refine lv_iload hx hb dX8_layOrder_65 (lv_at hl 0 rfl) ?_
                      refine pw_iald (r := 128) (j := (dgs n p9)) hx hb w (by omega) hM1 (by omega) (by omega) (by decide) dX8_layOrder_67 ?_
                      refine pz_ifne (tgt := 94) hx hb dX8_layOrder_68 (by decide) (⟨by omega, by omega⟩) (fun h34 => ?_) (fun h34 => ?_)
                      · refine lv_iconst (v := zI (0)) hx hb dX8_layOrder_94 rfl ?_
                        refine lv_istore (lv' := [(8, .int (zI 0)), (7, .int (zI (dgs n p9 : Int))), (0, .ref (ad 120)), (3, .int (zI (M : Int))), (4, .int (zI 0)), (5, .int (zI 1)), (6, .int (zI (p9 : Int)))]) hx hb dX8_layOrder_95 hl (by decide) rfl (fun ls hl => ?_)
                        refine lv_iload hx hb dX8_layOrder_97 (lv_at hl 5 rfl) ?_
                        refine pz_ifeq (tgt := 135) hx hb dX8_layOrder_99 (by decide) (⟨by omega, by omega⟩) (fun h35 => ?_) (fun h35 => ?_)
                        · omega
                        · refine lv_iload_n hx hb dX8_layOrder_102 rfl (lv_at hl 3 rfl) ?_
                          refine lv_iload hx hb dX8_layOrder_103 (lv_at hl 1 rfl) ?_
                          refine lv_ishr hx hb dX8_layOrder_105 ?_
                          refine lv_iconst (v := zI (1)) hx hb dX8_layOrder_106 rfl ?_
                          refine lv_iand hx hb dX8_layOrder_107 ?_
                          refine pz_topI (y := zI ((bi M (dgs n p9) : Nat) : Int)) (lo_bit M hM _ hdp) ?_
                          refine pz_ifne (tgt := 135) hx hb dX8_layOrder_108 (by decide) (⟨by omega, by omega⟩) (fun h36 => ?_) (fun h36 => ?_)
                          · refine lv_iconst (v := zI (0)) hx hb dX8_layOrder_135 rfl ?_
                            refine lv_istore (lv' := [(5, .int (zI 0)), (8, .int (zI 0)), (7, .int (zI (dgs n p9 : Int))), (0, .ref (ad 120)), (3, .int (zI (M : Int))), (4, .int (zI 0)), (6, .int (zI (p9 : Int)))]) hx hb dX8_layOrder_136 hl (by decide) rfl (fun ls hl => ?_)
                            refine lv_iload hx hb dX8_layOrder_138 (lv_at hl 5 rfl) ?_
                            refine pz_ifne (tgt := 153) hx hb dX8_layOrder_140 (by decide) (⟨by omega, by omega⟩) (fun h37 => ?_) (fun h37 => ?_)
                            · omega
                            · refine lv_aload_n hx hb dX8_layOrder_143 rfl (lv_at hl 3 rfl) ?_
                              refine pw_get (r := 120) (ci := 8) (C := RX8) (T := TX8) (Nf := 21) hx hb w hts hin_X8_layOrder_8 hown (by omega) hm1 rfl 11 (by decide) (hts _ fl_X8_layOrder_36) (fun _ h9 => h9) rfl dX8_layOrder_144 ?_
                              refine lv_iload hx hb dX8_layOrder_147 (lv_at hl 2 rfl) ?_
                              refine pw_iald (r := 128) (j := (dgs n p9)) hx hb w (by omega) hM1 (by omega) (by omega) (by decide) dX8_layOrder_149 ?_
                              refine pz_ifne (tgt := 157) hx hb dX8_layOrder_150 (by decide) (⟨by omega, by omega⟩) (fun h38 => ?_) (fun h38 => ?_)
                              · refine lv_iconst (v := zI (0)) hx hb dX8_layOrder_157 rfl ?_
                                refine lv_istore (lv' := [(4, .int (zI 0)), (5, .int (zI 0)), (8, .int (zI 0)), (7, .int (zI (dgs n p9 : Int))), (0, .ref (ad 120)), (3, .int (zI (M : Int))), (6, .int (zI (p9 : Int)))]) hx hb dX8_layOrder_158 hl (by decide) rfl (fun ls hl => ?_)
                                refine lv_iload_n hx hb dX8_layOrder_160 rfl (lv_at hl 5 rfl) ?_
                                refine lv_iconst (v := zI (1)) hx hb dX8_layOrder_161 rfl ?_
                                refine lv_iload hx hb dX8_layOrder_162 (lv_at hl 3 rfl) ?_
                                refine lv_ishl hx hb dX8_layOrder_164 ?_
                                refine lv_ior hx hb dX8_layOrder_165 ?_
                                refine pz_topI (y := zI ((M ||| 1 <<< dgs n p9 : Nat) : Int)) (lo_or M hM _ hdp) ?_
                                refine lv_istore_n (lv' := [(3, .int (zI ((M ||| 1 <<< dgs n p9 : Nat) : Int))), (4, .int (zI 0)), (5, .int (zI 0)), (8, .int (zI 0)), (7, .int (zI (dgs n p9 : Int))), (0, .ref (ad 120)), (6, .int (zI (p9 : Int)))]) hx hb dX8_layOrder_166 rfl hl (by decide) rfl (fun ls hl => ?_)
                                refine pz_iinc (lv' := [(6, .int (zI ((p9 + 1 : Nat) : Int))), (3, .int (zI ((M ||| 1 <<< dgs n p9 : Nat) : Int))), (4, .int (zI 0)), (5, .int (zI 0)), (8, .int (zI 0)), (7, .int (zI (dgs n p9 : Int))), (0, .ref (ad 120))]) hx hb dX8_layOrder_167 hl (j := 6) rfl ((p9 + 1 : Nat) : Int) (by omega) (by decide) rfl (fun ls hl => ?_)
                                refine lv_goto (tgt := 41) hx hb dX8_layOrder_170 (by decide) ?_
                                refine ih (p9 + 1) (M ||| 1 <<< dgs n p9) 0 0 ls (by omega) (lo_lt M hM _ hdp) (by omega) (by omega) ?_ (by omega) (lv_sub hl [6, 1, 2, 3, 0] rfl)
                                rw [loS, hst]
                                refine Prod.ext rfl (Prod.ext ?_ ?_) <;> dsimp only <;> split <;> omega
                              · refine lv_iconst (v := zI (1)) hx hb dX8_layOrder_153 rfl ?_
                                refine lv_goto (tgt := 158) hx hb dX8_layOrder_154 (by decide) ?_
                                refine lv_istore (lv' := [(4, .int (zI 1)), (5, .int (zI 0)), (8, .int (zI 0)), (7, .int (zI (dgs n p9 : Int))), (0, .ref (ad 120)), (3, .int (zI (M : Int))), (6, .int (zI (p9 : Int)))]) hx hb dX8_layOrder_158 hl (by decide) rfl (fun ls hl => ?_)
                                refine lv_iload_n hx hb dX8_layOrder_160 rfl (lv_at hl 5 rfl) ?_
                                refine lv_iconst (v := zI (1)) hx hb dX8_layOrder_161 rfl ?_
                                refine lv_iload hx hb dX8_layOrder_162 (lv_at hl 3 rfl) ?_
                                refine lv_ishl hx hb dX8_layOrder_164 ?_
                                refine lv_ior hx hb dX8_layOrder_165 ?_
                                refine pz_topI (y := zI ((M ||| 1 <<< dgs n p9 : Nat) : Int)) (lo_or M hM _ hdp) ?_
                                refine lv_istore_n (lv' := [(3, .int (zI ((M ||| 1 <<< dgs n p9 : Nat) : Int))), (4, .int (zI 1)), (5, .int (zI 0)), (8, .int (zI 0)), (7, .int (zI (dgs n p9 : Int))), (0, .ref (ad 120)), (6, .int (zI (p9 : Int)))]) hx hb dX8_layOrder_166 rfl hl (by decide) rfl (fun ls hl => ?_)
                                refine pz_iinc (lv' := [(6, .int (zI ((p9 + 1 : Nat) : Int))), (3, .int (zI ((M ||| 1 <<< dgs n p9 : Nat) : Int))), (4, .int (zI 1)), (5, .int (zI 0)), (8, .int (zI 0)), (7, .int (zI (dgs n p9 : Int))), (0, .ref (ad 120))]) hx hb dX8_layOrder_167 hl (j := 6) rfl ((p9 + 1 : Nat) : Int) (by omega) (by decide) rfl (fun ls hl => ?_)
                                refine lv_goto (tgt := 41) hx hb dX8_layOrder_170 (by decide) ?_
                                refine ih (p9 + 1) (M ||| 1 <<< dgs n p9) 1 0 ls (by omega) (lo_lt M hM _ hdp) (by omega) (by omega) ?_ (by omega) (lv_sub hl [6, 1, 2, 3, 0] rfl)
                                rw [loS, hst]
                                refine Prod.ext rfl (Prod.ext ?_ ?_) <;> dsimp only <;> split <;> omega
                          · refine lv_iload hx hb dX8_layOrder_111 (lv_at hl 0 rfl) ?_
                            refine pz_ifne (tgt := 135) hx hb dX8_layOrder_113 (by decide) (⟨by omega, by omega⟩) (fun h39 => ?_) (fun h39 => ?_)
                            · omega
                            · refine lv_aload_n hx hb dX8_layOrder_116 rfl (lv_at hl 2 rfl) ?_
                              refine pw_get (r := 120) (ci := 8) (C := RX8) (T := TX8) (Nf := 21) hx hb w hts hin_X8_layOrder_8 hown (by omega) hm1 rfl 11 (by decide) (hts _ fl_X8_layOrder_36) (fun _ h9 => h9) rfl dX8_layOrder_117 ?_
                              refine lv_iload hx hb dX8_layOrder_120 (lv_at hl 1 rfl) ?_
                              refine pw_iald (r := 128) (j := (dgs n p9)) hx hb w (by omega) hM1 (by omega) (by omega) (by decide) dX8_layOrder_122 ?_
                              refine pz_ifeq (tgt := 131) hx hb dX8_layOrder_123 (by decide) (⟨by omega, by omega⟩) (fun h40 => ?_) (fun h40 => ?_)
                              · refine lv_iconst (v := zI (1)) hx hb dX8_layOrder_131 rfl ?_
                                refine lv_goto (tgt := 136) hx hb dX8_layOrder_132 (by decide) ?_
                                refine lv_istore (lv' := [(5, .int (zI 1)), (8, .int (zI 0)), (7, .int (zI (dgs n p9 : Int))), (0, .ref (ad 120)), (3, .int (zI (M : Int))), (4, .int (zI 0)), (6, .int (zI (p9 : Int)))]) hx hb dX8_layOrder_136 hl (by decide) rfl (fun ls hl => ?_)
                                refine lv_iload hx hb dX8_layOrder_138 (lv_at hl 5 rfl) ?_
                                refine pz_ifne (tgt := 153) hx hb dX8_layOrder_140 (by decide) (⟨by omega, by omega⟩) (fun h41 => ?_) (fun h41 => ?_)
                                · omega
                                · refine lv_aload_n hx hb dX8_layOrder_143 rfl (lv_at hl 3 rfl) ?_
                                  refine pw_get (r := 120) (ci := 8) (C := RX8) (T := TX8) (Nf := 21) hx hb w hts hin_X8_layOrder_8 hown (by omega) hm1 rfl 11 (by decide) (hts _ fl_X8_layOrder_36) (fun _ h9 => h9) rfl dX8_layOrder_144 ?_
                                  refine lv_iload hx hb dX8_layOrder_147 (lv_at hl 2 rfl) ?_
                                  refine pw_iald (r := 128) (j := (dgs n p9)) hx hb w (by omega) hM1 (by omega) (by omega) (by decide) dX8_layOrder_149 ?_
                                  refine pz_ifne (tgt := 157) hx hb dX8_layOrder_150 (by decide) (⟨by omega, by omega⟩) (fun h42 => ?_) (fun h42 => ?_)
                                  · refine lv_iconst (v := zI (0)) hx hb dX8_layOrder_157 rfl ?_
                                    refine lv_istore (lv' := [(4, .int (zI 0)), (5, .int (zI 1)), (8, .int (zI 0)), (7, .int (zI (dgs n p9 : Int))), (0, .ref (ad 120)), (3, .int (zI (M : Int))), (6, .int (zI (p9 : Int)))]) hx hb dX8_layOrder_158 hl (by decide) rfl (fun ls hl => ?_)
                                    refine lv_iload_n hx hb dX8_layOrder_160 rfl (lv_at hl 5 rfl) ?_
                                    refine lv_iconst (v := zI (1)) hx hb dX8_layOrder_161 rfl ?_
                                    refine lv_iload hx hb dX8_layOrder_162 (lv_at hl 3 rfl) ?_
                                    refine lv_ishl hx hb dX8_layOrder_164 ?_
                                    refine lv_ior hx hb dX8_layOrder_165 ?_
                                    refine pz_topI (y := zI ((M ||| 1 <<< dgs n p9 : Nat) : Int)) (lo_or M hM _ hdp) ?_
                                    refine lv_istore_n (lv' := [(3, .int (zI ((M ||| 1 <<< dgs n p9 : Nat) : Int))), (4, .int (zI 0)), (5, .int (zI 1)), (8, .int (zI 0)), (7, .int (zI (dgs n p9 : Int))), (0, .ref (ad 120)), (6, .int (zI (p9 : Int)))]) hx hb dX8_layOrder_166 rfl hl (by decide) rfl (fun ls hl => ?_)
                                    refine pz_iinc (lv' := [(6, .int (zI ((p9 + 1 : Nat) : Int))), (3, .int (zI ((M ||| 1 <<< dgs n p9 : Nat) : Int))), (4, .int (zI 0)), (5, .int (zI 1)), (8, .int (zI 0)), (7, .int (zI (dgs n p9 : Int))), (0, .ref (ad 120))]) hx hb dX8_layOrder_167 hl (j := 6) rfl ((p9 + 1 : Nat) : Int) (by omega) (by decide) rfl (fun ls hl => ?_)
                                    refine lv_goto (tgt := 41) hx hb dX8_layOrder_170 (by decide) ?_
                                    refine ih (p9 + 1) (M ||| 1 <<< dgs n p9) 0 1 ls (by omega) (lo_lt M hM _ hdp) (by omega) (by omega) ?_ (by omega) (lv_sub hl [6, 1, 2, 3, 0] rfl)
                                    rw [loS, hst]
                                    refine Prod.ext rfl (Prod.ext ?_ ?_) <;> dsimp only <;> split <;> omega
                                  · refine lv_iconst (v := zI (1)) hx hb dX8_layOrder_153 rfl ?_
                                    refine lv_goto (tgt := 158) hx hb dX8_layOrder_154 (by decide) ?_
                                    refine lv_istore (lv' := [(4, .int (zI 1)), (5, .int (zI 1)), (8, .int (zI 0)), (7, .int (zI (dgs n p9 : Int))), (0, .ref (ad 120)), (3, .int (zI (M : Int))), (6, .int (zI (p9 : Int)))]) hx hb dX8_layOrder_158 hl (by decide) rfl (fun ls hl => ?_)
                                    refine lv_iload_n hx hb dX8_layOrder_160 rfl (lv_at hl 5 rfl) ?_
                                    refine lv_iconst (v := zI (1)) hx hb dX8_layOrder_161 rfl ?_
                                    refine lv_iload hx hb dX8_layOrder_162 (lv_at hl 3 rfl) ?_
                                    refine lv_ishl hx hb dX8_layOrder_164 ?_
                                    refine lv_ior hx hb dX8_layOrder_165 ?_
                                    refine pz_topI (y := zI ((M ||| 1 <<< dgs n p9 : Nat) : Int)) (lo_or M hM _ hdp) ?_
                                    refine lv_istore_n (lv' := [(3, .int (zI ((M ||| 1 <<< dgs n p9 : Nat) : Int))), (4, .int (zI 1)), (5, .int (zI 1)), (8, .int (zI 0)), (7, .int (zI (dgs n p9 : Int))), (0, .ref (ad 120)), (6, .int (zI (p9 : Int)))]) hx hb dX8_layOrder_166 rfl hl (by decide) rfl (fun ls hl => ?_)
                                    refine pz_iinc (lv' := [(6, .int (zI ((p9 + 1 : Nat) : Int))), (3, .int (zI ((M ||| 1 <<< dgs n p9 : Nat) : Int))), (4, .int (zI 1)), (5, .int (zI 1)), (8, .int (zI 0)), (7, .int (zI (dgs n p9 : Int))), (0, .ref (ad 120))]) hx hb dX8_layOrder_167 hl (j := 6) rfl ((p9 + 1 : Nat) : Int) (by omega) (by decide) rfl (fun ls hl => ?_)
                                    refine lv_goto (tgt := 41) hx hb dX8_layOrder_170 (by decide) ?_
                                    refine ih (p9 + 1) (M ||| 1 <<< dgs n p9) 1 1 ls (by omega) (lo_lt M hM _ hdp) (by omega) (by omega) ?_ (by omega) (lv_sub hl [6, 1, 2, 3, 0] rfl)
                                    rw [loS, hst]
                                    refine Prod.ext rfl (Prod.ext ?_ ?_) <;> dsimp only <;> split <;> omega
                              · refine lv_iload hx hb dX8_layOrder_126 (lv_at hl 4 rfl) ?_
                                refine pz_ifne (tgt := 135) hx hb dX8_layOrder_128 (by decide) (⟨by omega, by omega⟩) (fun h43 => ?_) (fun h43 => ?_)
                                · omega
                                · refine lv_iconst (v := zI (1)) hx hb dX8_layOrder_131 rfl ?_
                                  refine lv_goto (tgt := 136) hx hb dX8_layOrder_132 (by decide) ?_
                                  refine lv_istore (lv' := [(5, .int (zI 1)), (8, .int (zI 0)), (7, .int (zI (dgs n p9 : Int))), (0, .ref (ad 120)), (3, .int (zI (M : Int))), (4, .int (zI 0)), (6, .int (zI (p9 : Int)))]) hx hb dX8_layOrder_136 hl (by decide) rfl (fun ls hl => ?_)
                                  refine lv_iload hx hb dX8_layOrder_138 (lv_at hl 5 rfl) ?_
                                  refine pz_ifne (tgt := 153) hx hb dX8_layOrder_140 (by decide) (⟨by omega, by omega⟩) (fun h44 => ?_) (fun h44 => ?_)
                                  · omega
                                  · refine lv_aload_n hx hb dX8_layOrder_143 rfl (lv_at hl 3 rfl) ?_
                                    refine pw_get (r := 120) (ci := 8) (C := RX8) (T := TX8) (Nf := 21) hx hb w hts hin_X8_layOrder_8 hown (by omega) hm1 rfl 11 (by decide) (hts _ fl_X8_layOrder_36) (fun _ h9 => h9) rfl dX8_layOrder_144 ?_
                                    refine lv_iload hx hb dX8_layOrder_147 (lv_at hl 2 rfl) ?_
                                    refine pw_iald (r := 128) (j := (dgs n p9)) hx hb w (by omega) hM1 (by omega) (by omega) (by decide) dX8_layOrder_149 ?_
                                    refine pz_ifne (tgt := 157) hx hb dX8_layOrder_150 (by decide) (⟨by omega, by omega⟩) (fun h45 => ?_) (fun h45 => ?_)
                                    · refine lv_iconst (v := zI (0)) hx hb dX8_layOrder_157 rfl ?_
                                      refine lv_istore (lv' := [(4, .int (zI 0)), (5, .int (zI 1)), (8, .int (zI 0)), (7, .int (zI (dgs n p9 : Int))), (0, .ref (ad 120)), (3, .int (zI (M : Int))), (6, .int (zI (p9 : Int)))]) hx hb dX8_layOrder_158 hl (by decide) rfl (fun ls hl => ?_)
                                      refine lv_iload_n hx hb dX8_layOrder_160 rfl (lv_at hl 5 rfl) ?_
                                      refine lv_iconst (v := zI (1)) hx hb dX8_layOrder_161 rfl ?_
                                      refine lv_iload hx hb dX8_layOrder_162 (lv_at hl 3 rfl) ?_
                                      refine lv_ishl hx hb dX8_layOrder_164 ?_
                                      refine lv_ior hx hb dX8_layOrder_165 ?_
                                      refine pz_topI (y := zI ((M ||| 1 <<< dgs n p9 : Nat) : Int)) (lo_or M hM _ hdp) ?_
                                      refine lv_istore_n (lv' := [(3, .int (zI ((M ||| 1 <<< dgs n p9 : Nat) : Int))), (4, .int (zI 0)), (5, .int (zI 1)), (8, .int (zI 0)), (7, .int (zI (dgs n p9 : Int))), (0, .ref (ad 120)), (6, .int (zI (p9 : Int)))]) hx hb dX8_layOrder_166 rfl hl (by decide) rfl (fun ls hl => ?_)
                                      refine pz_iinc (lv' := [(6, .int (zI ((p9 + 1 : Nat) : Int))), (3, .int (zI ((M ||| 1 <<< dgs n p9 : Nat) : Int))), (4, .int (zI 0)), (5, .int (zI 1)), (8, .int (zI 0)), (7, .int (zI (dgs n p9 : Int))), (0, .ref (ad 120))]) hx hb dX8_layOrder_167 hl (j := 6) rfl ((p9 + 1 : Nat) : Int) (by omega) (by decide) rfl (fun ls hl => ?_)
                                      refine lv_goto (tgt := 41) hx hb dX8_layOrder_170 (by decide) ?_
                                      refine ih (p9 + 1) (M ||| 1 <<< dgs n p9) 0 1 ls (by omega) (lo_lt M hM _ hdp) (by omega) (by omega) ?_ (by omega) (lv_sub hl [6, 1, 2, 3, 0] rfl)
                                      rw [loS, hst]
                                      refine Prod.ext rfl (Prod.ext ?_ ?_) <;> dsimp only <;> split <;> omega
                                    · refine lv_iconst (v := zI (1)) hx hb dX8_layOrder_153 rfl ?_
                                      refine lv_goto (tgt := 158) hx hb dX8_layOrder_154 (by decide) ?_
                                      refine lv_istore (lv' := [(4, .int (zI 1)), (5, .int (zI 1)), (8, .int (zI 0)), (7, .int (zI (dgs n p9 : Int))), (0, .ref (ad 120)), (3, .int (zI (M : Int))), (6, .int (zI (p9 : Int)))]) hx hb dX8_layOrder_158 hl (by decide) rfl (fun ls hl => ?_)
                                      refine lv_iload_n hx hb dX8_layOrder_160 rfl (lv_at hl 5 rfl) ?_
                                      refine lv_iconst (v := zI (1)) hx hb dX8_layOrder_161 rfl ?_
                                      refine lv_iload hx hb dX8_layOrder_162 (lv_at hl 3 rfl) ?_
                                      refine lv_ishl hx hb dX8_layOrder_164 ?_
                                      refine lv_ior hx hb dX8_layOrder_165 ?_
                                      refine pz_topI (y := zI ((M ||| 1 <<< dgs n p9 : Nat) : Int)) (lo_or M hM _ hdp) ?_
                                      refine lv_istore_n (lv' := [(3, .int (zI ((M ||| 1 <<< dgs n p9 : Nat) : Int))), (4, .int (zI 1)), (5, .int (zI 1)), (8, .int (zI 0)), (7, .int (zI (dgs n p9 : Int))), (0, .ref (ad 120)), (6, .int (zI (p9 : Int)))]) hx hb dX8_layOrder_166 rfl hl (by decide) rfl (fun ls hl => ?_)
                                      refine pz_iinc (lv' := [(6, .int (zI ((p9 + 1 : Nat) : Int))), (3, .int (zI ((M ||| 1 <<< dgs n p9 : Nat) : Int))), (4, .int (zI 1)), (5, .int (zI 1)), (8, .int (zI 0)), (7, .int (zI (dgs n p9 : Int))), (0, .ref (ad 120))]) hx hb dX8_layOrder_167 hl (j := 6) rfl ((p9 + 1 : Nat) : Int) (by omega) (by decide) rfl (fun ls hl => ?_)
                                      refine lv_goto (tgt := 41) hx hb dX8_layOrder_170 (by decide) ?_
                                      refine ih (p9 + 1) (M ||| 1 <<< dgs n p9) 1 1 ls (by omega) (lo_lt M hM _ hdp) (by omega) (by omega) ?_ (by omega) (lv_sub hl [6, 1, 2, 3, 0] rfl)
                                      rw [loS, hst]
                                      refine Prod.ext rfl (Prod.ext ?_ ?_) <;> dsimp only <;> split <;> omega
                      · refine lv_iload hx hb dX8_layOrder_71 (lv_at hl 3 rfl) ?_
                        refine pz_ifeq (tgt := 94) hx hb dX8_layOrder_73 (by decide) (⟨by omega, by omega⟩) (fun h46 => ?_) (fun h46 => ?_)
                        · refine lv_iconst (v := zI (0)) hx hb dX8_layOrder_94 rfl ?_
                          refine lv_istore (lv' := [(8, .int (zI 0)), (7, .int (zI (dgs n p9 : Int))), (0, .ref (ad 120)), (3, .int (zI (M : Int))), (4, .int (zI 0)), (5, .int (zI 1)), (6, .int (zI (p9 : Int)))]) hx hb dX8_layOrder_95 hl (by decide) rfl (fun ls hl => ?_)
                          refine lv_iload hx hb dX8_layOrder_97 (lv_at hl 5 rfl) ?_
                          refine pz_ifeq (tgt := 135) hx hb dX8_layOrder_99 (by decide) (⟨by omega, by omega⟩) (fun h47 => ?_) (fun h47 => ?_)
                          · omega
                          · refine lv_iload_n hx hb dX8_layOrder_102 rfl (lv_at hl 3 rfl) ?_
                            refine lv_iload hx hb dX8_layOrder_103 (lv_at hl 1 rfl) ?_
                            refine lv_ishr hx hb dX8_layOrder_105 ?_
                            refine lv_iconst (v := zI (1)) hx hb dX8_layOrder_106 rfl ?_
                            refine lv_iand hx hb dX8_layOrder_107 ?_
                            refine pz_topI (y := zI ((bi M (dgs n p9) : Nat) : Int)) (lo_bit M hM _ hdp) ?_
                            refine pz_ifne (tgt := 135) hx hb dX8_layOrder_108 (by decide) (⟨by omega, by omega⟩) (fun h48 => ?_) (fun h48 => ?_)
                            · refine lv_iconst (v := zI (0)) hx hb dX8_layOrder_135 rfl ?_
                              refine lv_istore (lv' := [(5, .int (zI 0)), (8, .int (zI 0)), (7, .int (zI (dgs n p9 : Int))), (0, .ref (ad 120)), (3, .int (zI (M : Int))), (4, .int (zI 0)), (6, .int (zI (p9 : Int)))]) hx hb dX8_layOrder_136 hl (by decide) rfl (fun ls hl => ?_)
                              refine lv_iload hx hb dX8_layOrder_138 (lv_at hl 5 rfl) ?_
                              refine pz_ifne (tgt := 153) hx hb dX8_layOrder_140 (by decide) (⟨by omega, by omega⟩) (fun h49 => ?_) (fun h49 => ?_)
                              · omega
                              · refine lv_aload_n hx hb dX8_layOrder_143 rfl (lv_at hl 3 rfl) ?_
                                refine pw_get (r := 120) (ci := 8) (C := RX8) (T := TX8) (Nf := 21) hx hb w hts hin_X8_layOrder_8 hown (by omega) hm1 rfl 11 (by decide) (hts _ fl_X8_layOrder_36) (fun _ h9 => h9) rfl dX8_layOrder_144 ?_
                                refine lv_iload hx hb dX8_layOrder_147 (lv_at hl 2 rfl) ?_
                                refine pw_iald (r := 128) (j := (dgs n p9)) hx hb w (by omega) hM1 (by omega) (by omega) (by decide) dX8_layOrder_149 ?_
                                refine pz_ifne (tgt := 157) hx hb dX8_layOrder_150 (by decide) (⟨by omega, by omega⟩) (fun h50 => ?_) (fun h50 => ?_)
                                · refine lv_iconst (v := zI (0)) hx hb dX8_layOrder_157 rfl ?_
                                  refine lv_istore (lv' := [(4, .int (zI 0)), (5, .int (zI 0)), (8, .int (zI 0)), (7, .int (zI (dgs n p9 : Int))), (0, .ref (ad 120)), (3, .int (zI (M : Int))), (6, .int (zI (p9 : Int)))]) hx hb dX8_layOrder_158 hl (by decide) rfl (fun ls hl => ?_)
                                  refine lv_iload_n hx hb dX8_layOrder_160 rfl (lv_at hl 5 rfl) ?_
                                  refine lv_iconst (v := zI (1)) hx hb dX8_layOrder_161 rfl ?_
                                  refine lv_iload hx hb dX8_layOrder_162 (lv_at hl 3 rfl) ?_
                                  refine lv_ishl hx hb dX8_layOrder_164 ?_
                                  refine lv_ior hx hb dX8_layOrder_165 ?_
                                  refine pz_topI (y := zI ((M ||| 1 <<< dgs n p9 : Nat) : Int)) (lo_or M hM _ hdp) ?_
                                  refine lv_istore_n (lv' := [(3, .int (zI ((M ||| 1 <<< dgs n p9 : Nat) : Int))), (4, .int (zI 0)), (5, .int (zI 0)), (8, .int (zI 0)), (7, .int (zI (dgs n p9 : Int))), (0, .ref (ad 120)), (6, .int (zI (p9 : Int)))]) hx hb dX8_layOrder_166 rfl hl (by decide) rfl (fun ls hl => ?_)
                                  refine pz_iinc (lv' := [(6, .int (zI ((p9 + 1 : Nat) : Int))), (3, .int (zI ((M ||| 1 <<< dgs n p9 : Nat) : Int))), (4, .int (zI 0)), (5, .int (zI 0)), (8, .int (zI 0)), (7, .int (zI (dgs n p9 : Int))), (0, .ref (ad 120))]) hx hb dX8_layOrder_167 hl (j := 6) rfl ((p9 + 1 : Nat) : Int) (by omega) (by decide) rfl (fun ls hl => ?_)
                                  refine lv_goto (tgt := 41) hx hb dX8_layOrder_170 (by decide) ?_
                                  refine ih (p9 + 1) (M ||| 1 <<< dgs n p9) 0 0 ls (by omega) (lo_lt M hM _ hdp) (by omega) (by omega) ?_ (by omega) (lv_sub hl [6, 1, 2, 3, 0] rfl)
                                  rw [loS, hst]
                                  refine Prod.ext rfl (Prod.ext ?_ ?_) <;> dsimp only <;> split <;> omega
                                · refine lv_iconst (v := zI (1)) hx hb dX8_layOrder_153 rfl ?_
                                  refine lv_goto (tgt := 158) hx hb dX8_layOrder_154 (by decide) ?_
                                  refine lv_istore (lv' := [(4, .int (zI 1)), (5, .int (zI 0)), (8, .int (zI 0)), (7, .int (zI (dgs n p9 : Int))), (0, .ref (ad 120)), (3, .int (zI (M : Int))), (6, .int (zI (p9 : Int)))]) hx hb dX8_layOrder_158 hl (by decide) rfl (fun ls hl => ?_)
                                  refine lv_iload_n hx hb dX8_layOrder_160 rfl (lv_at hl 5 rfl) ?_
                                  refine lv_iconst (v := zI (1)) hx hb dX8_layOrder_161 rfl ?_
                                  refine lv_iload hx hb dX8_layOrder_162 (lv_at hl 3 rfl) ?_
                                  refine lv_ishl hx hb dX8_layOrder_164 ?_
                                  refine lv_ior hx hb dX8_layOrder_165 ?_
                                  refine pz_topI (y := zI ((M ||| 1 <<< dgs n p9 : Nat) : Int)) (lo_or M hM _ hdp) ?_
                                  refine lv_istore_n (lv' := [(3, .int (zI ((M ||| 1 <<< dgs n p9 : Nat) : Int))), (4, .int (zI 1)), (5, .int (zI 0)), (8, .int (zI 0)), (7, .int (zI (dgs n p9 : Int))), (0, .ref (ad 120)), (6, .int (zI (p9 : Int)))]) hx hb dX8_layOrder_166 rfl hl (by decide) rfl (fun ls hl => ?_)
                                  refine pz_iinc (lv' := [(6, .int (zI ((p9 + 1 : Nat) : Int))), (3, .int (zI ((M ||| 1 <<< dgs n p9 : Nat) : Int))), (4, .int (zI 1)), (5, .int (zI 0)), (8, .int (zI 0)), (7, .int (zI (dgs n p9 : Int))), (0, .ref (ad 120))]) hx hb dX8_layOrder_167 hl (j := 6) rfl ((p9 + 1 : Nat) : Int) (by omega) (by decide) rfl (fun ls hl => ?_)
                                  refine lv_goto (tgt := 41) hx hb dX8_layOrder_170 (by decide) ?_
                                  refine ih (p9 + 1) (M ||| 1 <<< dgs n p9) 1 0 ls (by omega) (lo_lt M hM _ hdp) (by omega) (by omega) ?_ (by omega) (lv_sub hl [6, 1, 2, 3, 0] rfl)
                                  rw [loS, hst]
                                  refine Prod.ext rfl (Prod.ext ?_ ?_) <;> dsimp only <;> split <;> omega
                            · refine lv_iload hx hb dX8_layOrder_111 (lv_at hl 0 rfl) ?_
                              refine pz_ifne (tgt := 135) hx hb dX8_layOrder_113 (by decide) (⟨by omega, by omega⟩) (fun h51 => ?_) (fun h51 => ?_)
                              · omega
                              · refine lv_aload_n hx hb dX8_layOrder_116 rfl (lv_at hl 2 rfl) ?_
                                refine pw_get (r := 120) (ci := 8) (C := RX8) (T := TX8) (Nf := 21) hx hb w hts hin_X8_layOrder_8 hown (by omega) hm1 rfl 11 (by decide) (hts _ fl_X8_layOrder_36) (fun _ h9 => h9) rfl dX8_layOrder_117 ?_
                                refine lv_iload hx hb dX8_layOrder_120 (lv_at hl 1 rfl) ?_
                                refine pw_iald (r := 128) (j := (dgs n p9)) hx hb w (by omega) hM1 (by omega) (by omega) (by decide) dX8_layOrder_122 ?_
                                refine pz_ifeq (tgt := 131) hx hb dX8_layOrder_123 (by decide) (⟨by omega, by omega⟩) (fun h52 => ?_) (fun h52 => ?_)
                                · refine lv_iconst (v := zI (1)) hx hb dX8_layOrder_131 rfl ?_
                                  refine lv_goto (tgt := 136) hx hb dX8_layOrder_132 (by decide) ?_
                                  refine lv_istore (lv' := [(5, .int (zI 1)), (8, .int (zI 0)), (7, .int (zI (dgs n p9 : Int))), (0, .ref (ad 120)), (3, .int (zI (M : Int))), (4, .int (zI 0)), (6, .int (zI (p9 : Int)))]) hx hb dX8_layOrder_136 hl (by decide) rfl (fun ls hl => ?_)
                                  refine lv_iload hx hb dX8_layOrder_138 (lv_at hl 5 rfl) ?_
                                  refine pz_ifne (tgt := 153) hx hb dX8_layOrder_140 (by decide) (⟨by omega, by omega⟩) (fun h53 => ?_) (fun h53 => ?_)
                                  · omega
                                  · refine lv_aload_n hx hb dX8_layOrder_143 rfl (lv_at hl 3 rfl) ?_
                                    refine pw_get (r := 120) (ci := 8) (C := RX8) (T := TX8) (Nf := 21) hx hb w hts hin_X8_layOrder_8 hown (by omega) hm1 rfl 11 (by decide) (hts _ fl_X8_layOrder_36) (fun _ h9 => h9) rfl dX8_layOrder_144 ?_
                                    refine lv_iload hx hb dX8_layOrder_147 (lv_at hl 2 rfl) ?_
                                    refine pw_iald (r := 128) (j := (dgs n p9)) hx hb w (by omega) hM1 (by omega) (by omega) (by decide) dX8_layOrder_149 ?_
                                    refine pz_ifne (tgt := 157) hx hb dX8_layOrder_150 (by decide) (⟨by omega, by omega⟩) (fun h54 => ?_) (fun h54 => ?_)
                                    · refine lv_iconst (v := zI (0)) hx hb dX8_layOrder_157 rfl ?_
                                      refine lv_istore (lv' := [(4, .int (zI 0)), (5, .int (zI 1)), (8, .int (zI 0)), (7, .int (zI (dgs n p9 : Int))), (0, .ref (ad 120)), (3, .int (zI (M : Int))), (6, .int (zI (p9 : Int)))]) hx hb dX8_layOrder_158 hl (by decide) rfl (fun ls hl => ?_)
                                      refine lv_iload_n hx hb dX8_layOrder_160 rfl (lv_at hl 5 rfl) ?_
                                      refine lv_iconst (v := zI (1)) hx hb dX8_layOrder_161 rfl ?_
                                      refine lv_iload hx hb dX8_layOrder_162 (lv_at hl 3 rfl) ?_
                                      refine lv_ishl hx hb dX8_layOrder_164 ?_
                                      refine lv_ior hx hb dX8_layOrder_165 ?_
                                      refine pz_topI (y := zI ((M ||| 1 <<< dgs n p9 : Nat) : Int)) (lo_or M hM _ hdp) ?_
                                      refine lv_istore_n (lv' := [(3, .int (zI ((M ||| 1 <<< dgs n p9 : Nat) : Int))), (4, .int (zI 0)), (5, .int (zI 1)), (8, .int (zI 0)), (7, .int (zI (dgs n p9 : Int))), (0, .ref (ad 120)), (6, .int (zI (p9 : Int)))]) hx hb dX8_layOrder_166 rfl hl (by decide) rfl (fun ls hl => ?_)
                                      refine pz_iinc (lv' := [(6, .int (zI ((p9 + 1 : Nat) : Int))), (3, .int (zI ((M ||| 1 <<< dgs n p9 : Nat) : Int))), (4, .int (zI 0)), (5, .int (zI 1)), (8, .int (zI 0)), (7, .int (zI (dgs n p9 : Int))), (0, .ref (ad 120))]) hx hb dX8_layOrder_167 hl (j := 6) rfl ((p9 + 1 : Nat) : Int) (by omega) (by decide) rfl (fun ls hl => ?_)
                                      refine lv_goto (tgt := 41) hx hb dX8_layOrder_170 (by decide) ?_
                                      refine ih (p9 + 1) (M ||| 1 <<< dgs n p9) 0 1 ls (by omega) (lo_lt M hM _ hdp) (by omega) (by omega) ?_ (by omega) (lv_sub hl [6, 1, 2, 3, 0] rfl)
                                      rw [loS, hst]
                                      refine Prod.ext rfl (Prod.ext ?_ ?_) <;> dsimp only <;> split <;> omega
                                    · refine lv_iconst (v := zI (1)) hx hb dX8_layOrder_153 rfl ?_
                                      refine lv_goto (tgt := 158) hx hb dX8_layOrder_154 (by decide) ?_
                                      refine lv_istore (lv' := [(4, .int (zI 1)), (5, .int (zI 1)), (8, .int (zI 0)), (7, .int (zI (dgs n p9 : Int))), (0, .ref (ad 120)), (3, .int (zI (M : Int))), (6, .int (zI (p9 : Int)))]) hx hb dX8_layOrder_158 hl (by decide) rfl (fun ls hl => ?_)
                                      refine lv_iload_n hx hb dX8_layOrder_160 rfl (lv_at hl 5 rfl) ?_
                                      refine lv_iconst (v := zI (1)) hx hb dX8_layOrder_161 rfl ?_
                                      refine lv_iload hx hb dX8_layOrder_162 (lv_at hl 3 rfl) ?_
                                      refine lv_ishl hx hb dX8_layOrder_164 ?_
                                      refine lv_ior hx hb dX8_layOrder_165 ?_
                                      refine pz_topI (y := zI ((M ||| 1 <<< dgs n p9 : Nat) : Int)) (lo_or M hM _ hdp) ?_
                                      refine lv_istore_n (lv' := [(3, .int (zI ((M ||| 1 <<< dgs n p9 : Nat) : Int))), (4, .int (zI 1)), (5, .int (zI 1)), (8, .int (zI 0)), (7, .int (zI (dgs n p9 : Int))), (0, .ref (ad 120)), (6, .int (zI (p9 : Int)))]) hx hb dX8_layOrder_166 rfl hl (by decide) rfl (fun ls hl => ?_)
                                      refine pz_iinc (lv' := [(6, .int (zI ((p9 + 1 : Nat) : Int))), (3, .int (zI ((M ||| 1 <<< dgs n p9 : Nat) : Int))), (4, .int (zI 1)), (5, .int (zI 1)), (8, .int (zI 0)), (7, .int (zI (dgs n p9 : Int))), (0, .ref (ad 120))]) hx hb dX8_layOrder_167 hl (j := 6) rfl ((p9 + 1 : Nat) : Int) (by omega) (by decide) rfl (fun ls hl => ?_)
                                      refine lv_goto (tgt := 41) hx hb dX8_layOrder_170 (by decide) ?_
                                      refine ih (p9 + 1) (M ||| 1 <<< dgs n p9) 1 1 ls (by omega) (lo_lt M hM _ hdp) (by omega) (by omega) ?_ (by omega) (lv_sub hl [6, 1, 2, 3, 0] rfl)
                                      rw [loS, hst]
                                      refine Prod.ext rfl (Prod.ext ?_ ?_) <;> dsimp only <;> split <;> omega
                                · refine lv_iload hx hb dX8_layOrder_126 (lv_at hl 4 rfl) ?_
                                  refine pz_ifne (tgt := 135) hx hb dX8_layOrder_128 (by decide) (⟨by omega, by omega⟩) (fun h55 => ?_) (fun h55 => ?_)
                                  · omega
                                  · refine lv_iconst (v := zI (1)) hx hb dX8_layOrder_131 rfl ?_
                                    refine lv_goto (tgt := 136) hx hb dX8_layOrder_132 (by decide) ?_
                                    refine lv_istore (lv' := [(5, .int (zI 1)), (8, .int (zI 0)), (7, .int (zI (dgs n p9 : Int))), (0, .ref (ad 120)), (3, .int (zI (M : Int))), (4, .int (zI 0)), (6, .int (zI (p9 : Int)))]) hx hb dX8_layOrder_136 hl (by decide) rfl (fun ls hl => ?_)
                                    refine lv_iload hx hb dX8_layOrder_138 (lv_at hl 5 rfl) ?_
                                    refine pz_ifne (tgt := 153) hx hb dX8_layOrder_140 (by decide) (⟨by omega, by omega⟩) (fun h56 => ?_) (fun h56 => ?_)
                                    · omega
                                    · refine lv_aload_n hx hb dX8_layOrder_143 rfl (lv_at hl 3 rfl) ?_
                                      refine pw_get (r := 120) (ci := 8) (C := RX8) (T := TX8) (Nf := 21) hx hb w hts hin_X8_layOrder_8 hown (by omega) hm1 rfl 11 (by decide) (hts _ fl_X8_layOrder_36) (fun _ h9 => h9) rfl dX8_layOrder_144 ?_
                                      refine lv_iload hx hb dX8_layOrder_147 (lv_at hl 2 rfl) ?_
                                      refine pw_iald (r := 128) (j := (dgs n p9)) hx hb w (by omega) hM1 (by omega) (by omega) (by decide) dX8_layOrder_149 ?_
                                      refine pz_ifne (tgt := 157) hx hb dX8_layOrder_150 (by decide) (⟨by omega, by omega⟩) (fun h57 => ?_) (fun h57 => ?_)
                                      · refine lv_iconst (v := zI (0)) hx hb dX8_layOrder_157 rfl ?_
                                        refine lv_istore (lv' := [(4, .int (zI 0)), (5, .int (zI 1)), (8, .int (zI 0)), (7, .int (zI (dgs n p9 : Int))), (0, .ref (ad 120)), (3, .int (zI (M : Int))), (6, .int (zI (p9 : Int)))]) hx hb dX8_layOrder_158 hl (by decide) rfl (fun ls hl => ?_)
                                        refine lv_iload_n hx hb dX8_layOrder_160 rfl (lv_at hl 5 rfl) ?_
                                        refine lv_iconst (v := zI (1)) hx hb dX8_layOrder_161 rfl ?_
                                        refine lv_iload hx hb dX8_layOrder_162 (lv_at hl 3 rfl) ?_
                                        refine lv_ishl hx hb dX8_layOrder_164 ?_
                                        refine lv_ior hx hb dX8_layOrder_165 ?_
                                        refine pz_topI (y := zI ((M ||| 1 <<< dgs n p9 : Nat) : Int)) (lo_or M hM _ hdp) ?_
                                        refine lv_istore_n (lv' := [(3, .int (zI ((M ||| 1 <<< dgs n p9 : Nat) : Int))), (4, .int (zI 0)), (5, .int (zI 1)), (8, .int (zI 0)), (7, .int (zI (dgs n p9 : Int))), (0, .ref (ad 120)), (6, .int (zI (p9 : Int)))]) hx hb dX8_layOrder_166 rfl hl (by decide) rfl (fun ls hl => ?_)
                                        refine pz_iinc (lv' := [(6, .int (zI ((p9 + 1 : Nat) : Int))), (3, .int (zI ((M ||| 1 <<< dgs n p9 : Nat) : Int))), (4, .int (zI 0)), (5, .int (zI 1)), (8, .int (zI 0)), (7, .int (zI (dgs n p9 : Int))), (0, .ref (ad 120))]) hx hb dX8_layOrder_167 hl (j := 6) rfl ((p9 + 1 : Nat) : Int) (by omega) (by decide) rfl (fun ls hl => ?_)
                                        refine lv_goto (tgt := 41) hx hb dX8_layOrder_170 (by decide) ?_
                                        refine ih (p9 + 1) (M ||| 1 <<< dgs n p9) 0 1 ls (by omega) (lo_lt M hM _ hdp) (by omega) (by omega) ?_ (by omega) (lv_sub hl [6, 1, 2, 3, 0] rfl)
                                        rw [loS, hst]
                                        refine Prod.ext rfl (Prod.ext ?_ ?_) <;> dsimp only <;> split <;> omega
                                      · refine lv_iconst (v := zI (1)) hx hb dX8_layOrder_153 rfl ?_
                                        refine lv_goto (tgt := 158) hx hb dX8_layOrder_154 (by decide) ?_
                                        refine lv_istore (lv' := [(4, .int (zI 1)), (5, .int (zI 1)), (8, .int (zI 0)), (7, .int (zI (dgs n p9 : Int))), (0, .ref (ad 120)), (3, .int (zI (M : Int))), (6, .int (zI (p9 : Int)))]) hx hb dX8_layOrder_158 hl (by decide) rfl (fun ls hl => ?_)
                                        refine lv_iload_n hx hb dX8_layOrder_160 rfl (lv_at hl 5 rfl) ?_
                                        refine lv_iconst (v := zI (1)) hx hb dX8_layOrder_161 rfl ?_
                                        refine lv_iload hx hb dX8_layOrder_162 (lv_at hl 3 rfl) ?_
                                        refine lv_ishl hx hb dX8_layOrder_164 ?_
                                        refine lv_ior hx hb dX8_layOrder_165 ?_
                                        refine pz_topI (y := zI ((M ||| 1 <<< dgs n p9 : Nat) : Int)) (lo_or M hM _ hdp) ?_
                                        refine lv_istore_n (lv' := [(3, .int (zI ((M ||| 1 <<< dgs n p9 : Nat) : Int))), (4, .int (zI 1)), (5, .int (zI 1)), (8, .int (zI 0)), (7, .int (zI (dgs n p9 : Int))), (0, .ref (ad 120)), (6, .int (zI (p9 : Int)))]) hx hb dX8_layOrder_166 rfl hl (by decide) rfl (fun ls hl => ?_)
                                        refine pz_iinc (lv' := [(6, .int (zI ((p9 + 1 : Nat) : Int))), (3, .int (zI ((M ||| 1 <<< dgs n p9 : Nat) : Int))), (4, .int (zI 1)), (5, .int (zI 1)), (8, .int (zI 0)), (7, .int (zI (dgs n p9 : Int))), (0, .ref (ad 120))]) hx hb dX8_layOrder_167 hl (j := 6) rfl ((p9 + 1 : Nat) : Int) (by omega) (by decide) rfl (fun ls hl => ?_)
                                        refine lv_goto (tgt := 41) hx hb dX8_layOrder_170 (by decide) ?_
                                        refine ih (p9 + 1) (M ||| 1 <<< dgs n p9) 1 1 ls (by omega) (lo_lt M hM _ hdp) (by omega) (by omega) ?_ (by omega) (lv_sub hl [6, 1, 2, 3, 0] rfl)
                                        rw [loS, hst]
                                        refine Prod.ext rfl (Prod.ext ?_ ?_) <;> dsimp only <;> split <;> omega
                        · omega
                  · subst h h'
                    have hl : lv_has ls 9 [(0, .ref (ad 120)), (3, .int (zI (M : Int))), (4, .int (zI 1)), (5, .int (zI 0)), (6, .int (zI (p9 : Int)))] := hl
                    refine lv_aload_n hx hb dX8_layOrder_47 rfl (lv_at hl 0 rfl) ?_
                    refine pw_get (r := 120) (ci := 8) (C := RX8) (T := TX8) (Nf := 21) hx hb w hts hin_X8_layOrder_8 hown (by omega) hm1 rfl 19 (by decide) (hts _ fl_X8_layOrder_57) (fun _ h9 => h9) rfl dX8_layOrder_48 ?_
                    refine lv_iload hx hb dX8_layOrder_51 (lv_at hl 4 rfl) ?_
                    refine pw_iald (r := 135) (j := p9) hx hb w (by omega) hO1 (by omega) (by omega) (by decide) dX8_layOrder_53 ?_
                    refine pz_top (b := (dgs n p9 : Int)) (rfl) ?_
                    refine lv_istore (lv' := [(7, .int (zI (dgs n p9 : Int))), (0, .ref (ad 120)), (3, .int (zI (M : Int))), (4, .int (zI 1)), (5, .int (zI 0)), (6, .int (zI (p9 : Int)))]) hx hb dX8_layOrder_54 hl (by decide) rfl (fun ls hl => ?_)
                    refine lv_iload hx hb dX8_layOrder_56 (lv_at hl 5 rfl) ?_
                    refine pz_ifle (tgt := 94) hx hb dX8_layOrder_58 (by decide) (⟨by omega, by omega⟩) (fun h58 => ?_) (fun h58 => ?_)
                    · refine lv_iconst (v := zI (0)) hx hb dX8_layOrder_94 rfl ?_
                      refine lv_istore (lv' := [(8, .int (zI 0)), (7, .int (zI (dgs n p9 : Int))), (0, .ref (ad 120)), (3, .int (zI (M : Int))), (4, .int (zI 1)), (5, .int (zI 0)), (6, .int (zI (p9 : Int)))]) hx hb dX8_layOrder_95 hl (by decide) rfl (fun ls hl => ?_)
                      refine lv_iload hx hb dX8_layOrder_97 (lv_at hl 5 rfl) ?_
                      refine pz_ifeq (tgt := 135) hx hb dX8_layOrder_99 (by decide) (⟨by omega, by omega⟩) (fun h59 => ?_) (fun h59 => ?_)
                      · refine lv_iconst (v := zI (0)) hx hb dX8_layOrder_135 rfl ?_
                        refine lv_istore (lv' := [(5, .int (zI 0)), (8, .int (zI 0)), (7, .int (zI (dgs n p9 : Int))), (0, .ref (ad 120)), (3, .int (zI (M : Int))), (4, .int (zI 1)), (6, .int (zI (p9 : Int)))]) hx hb dX8_layOrder_136 hl (by decide) rfl (fun ls hl => ?_)
                        refine lv_iload hx hb dX8_layOrder_138 (lv_at hl 5 rfl) ?_
                        refine pz_ifne (tgt := 153) hx hb dX8_layOrder_140 (by decide) (⟨by omega, by omega⟩) (fun h60 => ?_) (fun h60 => ?_)
                        · refine lv_iconst (v := zI (1)) hx hb dX8_layOrder_153 rfl ?_
                          refine lv_goto (tgt := 158) hx hb dX8_layOrder_154 (by decide) ?_
                          refine lv_istore (lv' := [(4, .int (zI 1)), (5, .int (zI 0)), (8, .int (zI 0)), (7, .int (zI (dgs n p9 : Int))), (0, .ref (ad 120)), (3, .int (zI (M : Int))), (6, .int (zI (p9 : Int)))]) hx hb dX8_layOrder_158 hl (by decide) rfl (fun ls hl => ?_)
                          refine lv_iload_n hx hb dX8_layOrder_160 rfl (lv_at hl 5 rfl) ?_
                          refine lv_iconst (v := zI (1)) hx hb dX8_layOrder_161 rfl ?_
                          refine lv_iload hx hb dX8_layOrder_162 (lv_at hl 3 rfl) ?_
                          refine lv_ishl hx hb dX8_layOrder_164 ?_
                          refine lv_ior hx hb dX8_layOrder_165 ?_
                          refine pz_topI (y := zI ((M ||| 1 <<< dgs n p9 : Nat) : Int)) (lo_or M hM _ hdp) ?_
                          refine lv_istore_n (lv' := [(3, .int (zI ((M ||| 1 <<< dgs n p9 : Nat) : Int))), (4, .int (zI 1)), (5, .int (zI 0)), (8, .int (zI 0)), (7, .int (zI (dgs n p9 : Int))), (0, .ref (ad 120)), (6, .int (zI (p9 : Int)))]) hx hb dX8_layOrder_166 rfl hl (by decide) rfl (fun ls hl => ?_)
                          refine pz_iinc (lv' := [(6, .int (zI ((p9 + 1 : Nat) : Int))), (3, .int (zI ((M ||| 1 <<< dgs n p9 : Nat) : Int))), (4, .int (zI 1)), (5, .int (zI 0)), (8, .int (zI 0)), (7, .int (zI (dgs n p9 : Int))), (0, .ref (ad 120))]) hx hb dX8_layOrder_167 hl (j := 6) rfl ((p9 + 1 : Nat) : Int) (by omega) (by decide) rfl (fun ls hl => ?_)
                          refine lv_goto (tgt := 41) hx hb dX8_layOrder_170 (by decide) ?_
                          refine ih (p9 + 1) (M ||| 1 <<< dgs n p9) 1 0 ls (by omega) (lo_lt M hM _ hdp) (by omega) (by omega) ?_ (by omega) (lv_sub hl [6, 1, 2, 3, 0] rfl)
                          rw [loS, hst]
                          refine Prod.ext rfl (Prod.ext ?_ ?_) <;> dsimp only <;> split <;> omega
                        · omega
                      · omega
                    · refine lv_aload_n hx hb dX8_layOrder_61 rfl (lv_at hl 1 rfl) ?_
                      refine pw_get (r := 120) (ci := 8) (C := RX8) (T := TX8) (Nf := 21) hx hb w hts hin_X8_layOrder_8 hown (by omega) hm1 rfl 11 (by decide) (hts _ fl_X8_layOrder_36) (fun _ h9 => h9) rfl dX8_layOrder_62 ?_
                      refine lv_iload hx hb dX8_layOrder_65 (lv_at hl 0 rfl) ?_
                      refine pw_iald (r := 128) (j := (dgs n p9)) hx hb w (by omega) hM1 (by omega) (by omega) (by decide) dX8_layOrder_67 ?_
                      refine pz_ifne (tgt := 94) hx hb dX8_layOrder_68 (by decide) (⟨by omega, by omega⟩) (fun h61 => ?_) (fun h61 => ?_)
                      · refine lv_iconst (v := zI (0)) hx hb dX8_layOrder_94 rfl ?_
                        refine lv_istore (lv' := [(8, .int (zI 0)), (7, .int (zI (dgs n p9 : Int))), (0, .ref (ad 120)), (3, .int (zI (M : Int))), (4, .int (zI 1)), (5, .int (zI 0)), (6, .int (zI (p9 : Int)))]) hx hb dX8_layOrder_95 hl (by decide) rfl (fun ls hl => ?_)
                        refine lv_iload hx hb dX8_layOrder_97 (lv_at hl 5 rfl) ?_
                        refine pz_ifeq (tgt := 135) hx hb dX8_layOrder_99 (by decide) (⟨by omega, by omega⟩) (fun h62 => ?_) (fun h62 => ?_)
                        · refine lv_iconst (v := zI (0)) hx hb dX8_layOrder_135 rfl ?_
                          refine lv_istore (lv' := [(5, .int (zI 0)), (8, .int (zI 0)), (7, .int (zI (dgs n p9 : Int))), (0, .ref (ad 120)), (3, .int (zI (M : Int))), (4, .int (zI 1)), (6, .int (zI (p9 : Int)))]) hx hb dX8_layOrder_136 hl (by decide) rfl (fun ls hl => ?_)
                          refine lv_iload hx hb dX8_layOrder_138 (lv_at hl 5 rfl) ?_
                          refine pz_ifne (tgt := 153) hx hb dX8_layOrder_140 (by decide) (⟨by omega, by omega⟩) (fun h63 => ?_) (fun h63 => ?_)
                          · refine lv_iconst (v := zI (1)) hx hb dX8_layOrder_153 rfl ?_
                            refine lv_goto (tgt := 158) hx hb dX8_layOrder_154 (by decide) ?_
                            refine lv_istore (lv' := [(4, .int (zI 1)), (5, .int (zI 0)), (8, .int (zI 0)), (7, .int (zI (dgs n p9 : Int))), (0, .ref (ad 120)), (3, .int (zI (M : Int))), (6, .int (zI (p9 : Int)))]) hx hb dX8_layOrder_158 hl (by decide) rfl (fun ls hl => ?_)
                            refine lv_iload_n hx hb dX8_layOrder_160 rfl (lv_at hl 5 rfl) ?_
                            refine lv_iconst (v := zI (1)) hx hb dX8_layOrder_161 rfl ?_
                            refine lv_iload hx hb dX8_layOrder_162 (lv_at hl 3 rfl) ?_
                            refine lv_ishl hx hb dX8_layOrder_164 ?_
                            refine lv_ior hx hb dX8_layOrder_165 ?_
                            refine pz_topI (y := zI ((M ||| 1 <<< dgs n p9 : Nat) : Int)) (lo_or M hM _ hdp) ?_
                            refine lv_istore_n (lv' := [(3, .int (zI ((M ||| 1 <<< dgs n p9 : Nat) : Int))), (4, .int (zI 1)), (5, .int (zI 0)), (8, .int (zI 0)), (7, .int (zI (dgs n p9 : Int))), (0, .ref (ad 120)), (6, .int (zI (p9 : Int)))]) hx hb dX8_layOrder_166 rfl hl (by decide) rfl (fun ls hl => ?_)
                            refine pz_iinc (lv' := [(6, .int (zI ((p9 + 1 : Nat) : Int))), (3, .int (zI ((M ||| 1 <<< dgs n p9 : Nat) : Int))), (4, .int (zI 1)), (5, .int (zI 0)), (8, .int (zI 0)), (7, .int (zI (dgs n p9 : Int))), (0, .ref (ad 120))]) hx hb dX8_layOrder_167 hl (j := 6) rfl ((p9 + 1 : Nat) : Int) (by omega) (by decide) rfl (fun ls hl => ?_)
                            refine lv_goto (tgt := 41) hx hb dX8_layOrder_170 (by decide) ?_
                            refine ih (p9 + 1) (M ||| 1 <<< dgs n p9) 1 0 ls (by omega) (lo_lt M hM _ hdp) (by omega) (by omega) ?_ (by omega) (lv_sub hl [6, 1, 2, 3, 0] rfl)
                            rw [loS, hst]
                            refine Prod.ext rfl (Prod.ext ?_ ?_) <;> dsimp only <;> split <;> omega
                          · omega
                        · omega
                      · refine lv_iload hx hb dX8_layOrder_71 (lv_at hl 3 rfl) ?_
                        refine pz_ifeq (tgt := 94) hx hb dX8_layOrder_73 (by decide) (⟨by omega, by omega⟩) (fun h64 => ?_) (fun h64 => ?_)
                        · omega
                        · refine lv_aload_n hx hb dX8_layOrder_76 rfl (lv_at hl 1 rfl) ?_
                          refine pw_get (r := 120) (ci := 8) (C := RX8) (T := TX8) (Nf := 21) hx hb w hts hin_X8_layOrder_8 hown (by omega) hm1 rfl 19 (by decide) (hts _ fl_X8_layOrder_57) (fun _ h9 => h9) rfl dX8_layOrder_77 ?_
                          refine lv_iload hx hb dX8_layOrder_80 (lv_at hl 5 rfl) ?_
                          refine lv_iconst (v := zI (1)) hx hb dX8_layOrder_82 rfl ?_
                          refine pz_isub hx hb dX8_layOrder_83 ?_
                          refine pw_iald (r := 135) (j := (p9 - 1)) hx hb w (by omega) hO1 (by omega) (by omega) (by decide) dX8_layOrder_84 ?_
                          refine lv_iload hx hb dX8_layOrder_85 (lv_at hl 0 rfl) ?_
                          refine pz_icmple (tgt := 94) hx hb dX8_layOrder_87 (by decide) (⟨by omega, by omega⟩) (⟨by omega, by omega⟩) (fun h65 => ?_) (fun h65 => ?_)
                          · refine lv_iconst (v := zI (0)) hx hb dX8_layOrder_94 rfl ?_
                            refine lv_istore (lv' := [(8, .int (zI 0)), (7, .int (zI (dgs n p9 : Int))), (0, .ref (ad 120)), (3, .int (zI (M : Int))), (4, .int (zI 1)), (5, .int (zI 0)), (6, .int (zI (p9 : Int)))]) hx hb dX8_layOrder_95 hl (by decide) rfl (fun ls hl => ?_)
                            refine lv_iload hx hb dX8_layOrder_97 (lv_at hl 5 rfl) ?_
                            refine pz_ifeq (tgt := 135) hx hb dX8_layOrder_99 (by decide) (⟨by omega, by omega⟩) (fun h66 => ?_) (fun h66 => ?_)
                            · refine lv_iconst (v := zI (0)) hx hb dX8_layOrder_135 rfl ?_
                              refine lv_istore (lv' := [(5, .int (zI 0)), (8, .int (zI 0)), (7, .int (zI (dgs n p9 : Int))), (0, .ref (ad 120)), (3, .int (zI (M : Int))), (4, .int (zI 1)), (6, .int (zI (p9 : Int)))]) hx hb dX8_layOrder_136 hl (by decide) rfl (fun ls hl => ?_)
                              refine lv_iload hx hb dX8_layOrder_138 (lv_at hl 5 rfl) ?_
                              refine pz_ifne (tgt := 153) hx hb dX8_layOrder_140 (by decide) (⟨by omega, by omega⟩) (fun h67 => ?_) (fun h67 => ?_)
                              · refine lv_iconst (v := zI (1)) hx hb dX8_layOrder_153 rfl ?_
                                refine lv_goto (tgt := 158) hx hb dX8_layOrder_154 (by decide) ?_
                                refine lv_istore (lv' := [(4, .int (zI 1)), (5, .int (zI 0)), (8, .int (zI 0)), (7, .int (zI (dgs n p9 : Int))), (0, .ref (ad 120)), (3, .int (zI (M : Int))), (6, .int (zI (p9 : Int)))]) hx hb dX8_layOrder_158 hl (by decide) rfl (fun ls hl => ?_)
                                refine lv_iload_n hx hb dX8_layOrder_160 rfl (lv_at hl 5 rfl) ?_
                                refine lv_iconst (v := zI (1)) hx hb dX8_layOrder_161 rfl ?_
                                refine lv_iload hx hb dX8_layOrder_162 (lv_at hl 3 rfl) ?_
                                refine lv_ishl hx hb dX8_layOrder_164 ?_
                                refine lv_ior hx hb dX8_layOrder_165 ?_
                                refine pz_topI (y := zI ((M ||| 1 <<< dgs n p9 : Nat) : Int)) (lo_or M hM _ hdp) ?_
                                refine lv_istore_n (lv' := [(3, .int (zI ((M ||| 1 <<< dgs n p9 : Nat) : Int))), (4, .int (zI 1)), (5, .int (zI 0)), (8, .int (zI 0)), (7, .int (zI (dgs n p9 : Int))), (0, .ref (ad 120)), (6, .int (zI (p9 : Int)))]) hx hb dX8_layOrder_166 rfl hl (by decide) rfl (fun ls hl => ?_)
                                refine pz_iinc (lv' := [(6, .int (zI ((p9 + 1 : Nat) : Int))), (3, .int (zI ((M ||| 1 <<< dgs n p9 : Nat) : Int))), (4, .int (zI 1)), (5, .int (zI 0)), (8, .int (zI 0)), (7, .int (zI (dgs n p9 : Int))), (0, .ref (ad 120))]) hx hb dX8_layOrder_167 hl (j := 6) rfl ((p9 + 1 : Nat) : Int) (by omega) (by decide) rfl (fun ls hl => ?_)
                                refine lv_goto (tgt := 41) hx hb dX8_layOrder_170 (by decide) ?_
                                refine ih (p9 + 1) (M ||| 1 <<< dgs n p9) 1 0 ls (by omega) (lo_lt M hM _ hdp) (by omega) (by omega) ?_ (by omega) (lv_sub hl [6, 1, 2, 3, 0] rfl)
                                rw [loS, hst]
                                refine Prod.ext rfl (Prod.ext ?_ ?_) <;> dsimp only <;> split <;> omega
                              · omega
                            · omega
                          · refine lv_iconst (v := zI (1)) hx hb dX8_layOrder_90 rfl ?_
                            refine lv_goto (tgt := 95) hx hb dX8_layOrder_91 (by decide) ?_
                            refine lv_istore (lv' := [(8, .int (zI 1)), (7, .int (zI (dgs n p9 : Int))), (0, .ref (ad 120)), (3, .int (zI (M : Int))), (4, .int (zI 1)), (5, .int (zI 0)), (6, .int (zI (p9 : Int)))]) hx hb dX8_layOrder_95 hl (by decide) rfl (fun ls hl => ?_)
                            refine lv_iload hx hb dX8_layOrder_97 (lv_at hl 5 rfl) ?_
                            refine pz_ifeq (tgt := 135) hx hb dX8_layOrder_99 (by decide) (⟨by omega, by omega⟩) (fun h68 => ?_) (fun h68 => ?_)
                            · refine lv_iconst (v := zI (0)) hx hb dX8_layOrder_135 rfl ?_
                              refine lv_istore (lv' := [(5, .int (zI 0)), (8, .int (zI 1)), (7, .int (zI (dgs n p9 : Int))), (0, .ref (ad 120)), (3, .int (zI (M : Int))), (4, .int (zI 1)), (6, .int (zI (p9 : Int)))]) hx hb dX8_layOrder_136 hl (by decide) rfl (fun ls hl => ?_)
                              refine lv_iload hx hb dX8_layOrder_138 (lv_at hl 5 rfl) ?_
                              refine pz_ifne (tgt := 153) hx hb dX8_layOrder_140 (by decide) (⟨by omega, by omega⟩) (fun h69 => ?_) (fun h69 => ?_)
                              · refine lv_iconst (v := zI (1)) hx hb dX8_layOrder_153 rfl ?_
                                refine lv_goto (tgt := 158) hx hb dX8_layOrder_154 (by decide) ?_
                                refine lv_istore (lv' := [(4, .int (zI 1)), (5, .int (zI 0)), (8, .int (zI 1)), (7, .int (zI (dgs n p9 : Int))), (0, .ref (ad 120)), (3, .int (zI (M : Int))), (6, .int (zI (p9 : Int)))]) hx hb dX8_layOrder_158 hl (by decide) rfl (fun ls hl => ?_)
                                refine lv_iload_n hx hb dX8_layOrder_160 rfl (lv_at hl 5 rfl) ?_
                                refine lv_iconst (v := zI (1)) hx hb dX8_layOrder_161 rfl ?_
                                refine lv_iload hx hb dX8_layOrder_162 (lv_at hl 3 rfl) ?_
                                refine lv_ishl hx hb dX8_layOrder_164 ?_
                                refine lv_ior hx hb dX8_layOrder_165 ?_
                                refine pz_topI (y := zI ((M ||| 1 <<< dgs n p9 : Nat) : Int)) (lo_or M hM _ hdp) ?_
                                refine lv_istore_n (lv' := [(3, .int (zI ((M ||| 1 <<< dgs n p9 : Nat) : Int))), (4, .int (zI 1)), (5, .int (zI 0)), (8, .int (zI 1)), (7, .int (zI (dgs n p9 : Int))), (0, .ref (ad 120)), (6, .int (zI (p9 : Int)))]) hx hb dX8_layOrder_166 rfl hl (by decide) rfl (fun ls hl => ?_)
                                refine pz_iinc (lv' := [(6, .int (zI ((p9 + 1 : Nat) : Int))), (3, .int (zI ((M ||| 1 <<< dgs n p9 : Nat) : Int))), (4, .int (zI 1)), (5, .int (zI 0)), (8, .int (zI 1)), (7, .int (zI (dgs n p9 : Int))), (0, .ref (ad 120))]) hx hb dX8_layOrder_167 hl (j := 6) rfl ((p9 + 1 : Nat) : Int) (by omega) (by decide) rfl (fun ls hl => ?_)
                                refine lv_goto (tgt := 41) hx hb dX8_layOrder_170 (by decide) ?_
                                refine ih (p9 + 1) (M ||| 1 <<< dgs n p9) 1 0 ls (by omega) (lo_lt M hM _ hdp) (by omega) (by omega) ?_ (by omega) (lv_sub hl [6, 1, 2, 3, 0] rfl)
                                rw [loS, hst]
                                refine Prod.ext rfl (Prod.ext ?_ ?_) <;> dsimp only <;> split <;> omega
                              · omega
                            · omega
                  · subst h h'
                    have hl : lv_has ls 9 [(0, .ref (ad 120)), (3, .int (zI (M : Int))), (4, .int (zI 1)), (5, .int (zI 1)), (6, .int (zI (p9 : Int)))] := hl
                    refine lv_aload_n hx hb dX8_layOrder_47 rfl (lv_at hl 0 rfl) ?_
                    refine pw_get (r := 120) (ci := 8) (C := RX8) (T := TX8) (Nf := 21) hx hb w hts hin_X8_layOrder_8 hown (by omega) hm1 rfl 19 (by decide) (hts _ fl_X8_layOrder_57) (fun _ h9 => h9) rfl dX8_layOrder_48 ?_
                    refine lv_iload hx hb dX8_layOrder_51 (lv_at hl 4 rfl) ?_
                    refine pw_iald (r := 135) (j := p9) hx hb w (by omega) hO1 (by omega) (by omega) (by decide) dX8_layOrder_53 ?_
                    refine pz_top (b := (dgs n p9 : Int)) (rfl) ?_
                    refine lv_istore (lv' := [(7, .int (zI (dgs n p9 : Int))), (0, .ref (ad 120)), (3, .int (zI (M : Int))), (4, .int (zI 1)), (5, .int (zI 1)), (6, .int (zI (p9 : Int)))]) hx hb dX8_layOrder_54 hl (by decide) rfl (fun ls hl => ?_)
                    refine lv_iload hx hb dX8_layOrder_56 (lv_at hl 5 rfl) ?_
                    refine pz_ifle (tgt := 94) hx hb dX8_layOrder_58 (by decide) (⟨by omega, by omega⟩) (fun h70 => ?_) (fun h70 => ?_)
                    · refine lv_iconst (v := zI (0)) hx hb dX8_layOrder_94 rfl ?_
                      refine lv_istore (lv' := [(8, .int (zI 0)), (7, .int (zI (dgs n p9 : Int))), (0, .ref (ad 120)), (3, .int (zI (M : Int))), (4, .int (zI 1)), (5, .int (zI 1)), (6, .int (zI (p9 : Int)))]) hx hb dX8_layOrder_95 hl (by decide) rfl (fun ls hl => ?_)
                      refine lv_iload hx hb dX8_layOrder_97 (lv_at hl 5 rfl) ?_
                      refine pz_ifeq (tgt := 135) hx hb dX8_layOrder_99 (by decide) (⟨by omega, by omega⟩) (fun h71 => ?_) (fun h71 => ?_)
                      · omega
                      · refine lv_iload_n hx hb dX8_layOrder_102 rfl (lv_at hl 3 rfl) ?_
                        refine lv_iload hx hb dX8_layOrder_103 (lv_at hl 1 rfl) ?_
                        refine lv_ishr hx hb dX8_layOrder_105 ?_
                        refine lv_iconst (v := zI (1)) hx hb dX8_layOrder_106 rfl ?_
                        refine lv_iand hx hb dX8_layOrder_107 ?_
                        refine pz_topI (y := zI ((bi M (dgs n p9) : Nat) : Int)) (lo_bit M hM _ hdp) ?_
                        refine pz_ifne (tgt := 135) hx hb dX8_layOrder_108 (by decide) (⟨by omega, by omega⟩) (fun h72 => ?_) (fun h72 => ?_)
                        · refine lv_iconst (v := zI (0)) hx hb dX8_layOrder_135 rfl ?_
                          refine lv_istore (lv' := [(5, .int (zI 0)), (8, .int (zI 0)), (7, .int (zI (dgs n p9 : Int))), (0, .ref (ad 120)), (3, .int (zI (M : Int))), (4, .int (zI 1)), (6, .int (zI (p9 : Int)))]) hx hb dX8_layOrder_136 hl (by decide) rfl (fun ls hl => ?_)
                          refine lv_iload hx hb dX8_layOrder_138 (lv_at hl 5 rfl) ?_
                          refine pz_ifne (tgt := 153) hx hb dX8_layOrder_140 (by decide) (⟨by omega, by omega⟩) (fun h73 => ?_) (fun h73 => ?_)
                          · refine lv_iconst (v := zI (1)) hx hb dX8_layOrder_153 rfl ?_
                            refine lv_goto (tgt := 158) hx hb dX8_layOrder_154 (by decide) ?_
                            refine lv_istore (lv' := [(4, .int (zI 1)), (5, .int (zI 0)), (8, .int (zI 0)), (7, .int (zI (dgs n p9 : Int))), (0, .ref (ad 120)), (3, .int (zI (M : Int))), (6, .int (zI (p9 : Int)))]) hx hb dX8_layOrder_158 hl (by decide) rfl (fun ls hl => ?_)
                            refine lv_iload_n hx hb dX8_layOrder_160 rfl (lv_at hl 5 rfl) ?_
                            refine lv_iconst (v := zI (1)) hx hb dX8_layOrder_161 rfl ?_
                            refine lv_iload hx hb dX8_layOrder_162 (lv_at hl 3 rfl) ?_
                            refine lv_ishl hx hb dX8_layOrder_164 ?_
                            refine lv_ior hx hb dX8_layOrder_165 ?_
                            refine pz_topI (y := zI ((M ||| 1 <<< dgs n p9 : Nat) : Int)) (lo_or M hM _ hdp) ?_
                            refine lv_istore_n (lv' := [(3, .int (zI ((M ||| 1 <<< dgs n p9 : Nat) : Int))), (4, .int (zI 1)), (5, .int (zI 0)), (8, .int (zI 0)), (7, .int (zI (dgs n p9 : Int))), (0, .ref (ad 120)), (6, .int (zI (p9 : Int)))]) hx hb dX8_layOrder_166 rfl hl (by decide) rfl (fun ls hl => ?_)
                            refine pz_iinc (lv' := [(6, .int (zI ((p9 + 1 : Nat) : Int))), (3, .int (zI ((M ||| 1 <<< dgs n p9 : Nat) : Int))), (4, .int (zI 1)), (5, .int (zI 0)), (8, .int (zI 0)), (7, .int (zI (dgs n p9 : Int))), (0, .ref (ad 120))]) hx hb dX8_layOrder_167 hl (j := 6) rfl ((p9 + 1 : Nat) : Int) (by omega) (by decide) rfl (fun ls hl => ?_)
                            refine lv_goto (tgt := 41) hx hb dX8_layOrder_170 (by decide) ?_
                            refine ih (p9 + 1) (M ||| 1 <<< dgs n p9) 1 0 ls (by omega) (lo_lt M hM _ hdp) (by omega) (by omega) ?_ (by omega) (lv_sub hl [6, 1, 2, 3, 0] rfl)
                            rw [loS, hst]
                            refine Prod.ext rfl (Prod.ext ?_ ?_) <;> dsimp only <;> split <;> omega
                          · omega
                        · refine lv_iload hx hb dX8_layOrder_111 (lv_at hl 0 rfl) ?_
                          refine pz_ifne (tgt := 135) hx hb dX8_layOrder_113 (by decide) (⟨by omega, by omega⟩) (fun h74 => ?_) (fun h74 => ?_)
                          · omega
                          · refine lv_aload_n hx hb dX8_layOrder_116 rfl (lv_at hl 2 rfl) ?_
                            refine pw_get (r := 120) (ci := 8) (C := RX8) (T := TX8) (Nf := 21) hx hb w hts hin_X8_layOrder_8 hown (by omega) hm1 rfl 11 (by decide) (hts _ fl_X8_layOrder_36) (fun _ h9 => h9) rfl dX8_layOrder_117 ?_
                            refine lv_iload hx hb dX8_layOrder_120 (lv_at hl 1 rfl) ?_
                            refine pw_iald (r := 128) (j := (dgs n p9)) hx hb w (by omega) hM1 (by omega) (by omega) (by decide) dX8_layOrder_122 ?_
                            refine pz_ifeq (tgt := 131) hx hb dX8_layOrder_123 (by decide) (⟨by omega, by omega⟩) (fun h75 => ?_) (fun h75 => ?_)
                            · refine lv_iconst (v := zI (1)) hx hb dX8_layOrder_131 rfl ?_
                              refine lv_goto (tgt := 136) hx hb dX8_layOrder_132 (by decide) ?_
                              refine lv_istore (lv' := [(5, .int (zI 1)), (8, .int (zI 0)), (7, .int (zI (dgs n p9 : Int))), (0, .ref (ad 120)), (3, .int (zI (M : Int))), (4, .int (zI 1)), (6, .int (zI (p9 : Int)))]) hx hb dX8_layOrder_136 hl (by decide) rfl (fun ls hl => ?_)
                              refine lv_iload hx hb dX8_layOrder_138 (lv_at hl 5 rfl) ?_
                              refine pz_ifne (tgt := 153) hx hb dX8_layOrder_140 (by decide) (⟨by omega, by omega⟩) (fun h76 => ?_) (fun h76 => ?_)
                              · refine lv_iconst (v := zI (1)) hx hb dX8_layOrder_153 rfl ?_
                                refine lv_goto (tgt := 158) hx hb dX8_layOrder_154 (by decide) ?_
                                refine lv_istore (lv' := [(4, .int (zI 1)), (5, .int (zI 1)), (8, .int (zI 0)), (7, .int (zI (dgs n p9 : Int))), (0, .ref (ad 120)), (3, .int (zI (M : Int))), (6, .int (zI (p9 : Int)))]) hx hb dX8_layOrder_158 hl (by decide) rfl (fun ls hl => ?_)
                                refine lv_iload_n hx hb dX8_layOrder_160 rfl (lv_at hl 5 rfl) ?_
                                refine lv_iconst (v := zI (1)) hx hb dX8_layOrder_161 rfl ?_
                                refine lv_iload hx hb dX8_layOrder_162 (lv_at hl 3 rfl) ?_
                                refine lv_ishl hx hb dX8_layOrder_164 ?_
                                refine lv_ior hx hb dX8_layOrder_165 ?_
                                refine pz_topI (y := zI ((M ||| 1 <<< dgs n p9 : Nat) : Int)) (lo_or M hM _ hdp) ?_
                                refine lv_istore_n (lv' := [(3, .int (zI ((M ||| 1 <<< dgs n p9 : Nat) : Int))), (4, .int (zI 1)), (5, .int (zI 1)), (8, .int (zI 0)), (7, .int (zI (dgs n p9 : Int))), (0, .ref (ad 120)), (6, .int (zI (p9 : Int)))]) hx hb dX8_layOrder_166 rfl hl (by decide) rfl (fun ls hl => ?_)
                                refine pz_iinc (lv' := [(6, .int (zI ((p9 + 1 : Nat) : Int))), (3, .int (zI ((M ||| 1 <<< dgs n p9 : Nat) : Int))), (4, .int (zI 1)), (5, .int (zI 1)), (8, .int (zI 0)), (7, .int (zI (dgs n p9 : Int))), (0, .ref (ad 120))]) hx hb dX8_layOrder_167 hl (j := 6) rfl ((p9 + 1 : Nat) : Int) (by omega) (by decide) rfl (fun ls hl => ?_)
                                refine lv_goto (tgt := 41) hx hb dX8_layOrder_170 (by decide) ?_
                                refine ih (p9 + 1) (M ||| 1 <<< dgs n p9) 1 1 ls (by omega) (lo_lt M hM _ hdp) (by omega) (by omega) ?_ (by omega) (lv_sub hl [6, 1, 2, 3, 0] rfl)
                                rw [loS, hst]
                                refine Prod.ext rfl (Prod.ext ?_ ?_) <;> dsimp only <;> split <;> omega
                              · omega
                            · refine lv_iload hx hb dX8_layOrder_126 (lv_at hl 4 rfl) ?_
                              refine pz_ifne (tgt := 135) hx hb dX8_layOrder_128 (by decide) (⟨by omega, by omega⟩) (fun h77 => ?_) (fun h77 => ?_)
                              · refine lv_iconst (v := zI (0)) hx hb dX8_layOrder_135 rfl ?_
                                refine lv_istore (lv' := [(5, .int (zI 0)), (8, .int (zI 0)), (7, .int (zI (dgs n p9 : Int))), (0, .ref (ad 120)), (3, .int (zI (M : Int))), (4, .int (zI 1)), (6, .int (zI (p9 : Int)))]) hx hb dX8_layOrder_136 hl (by decide) rfl (fun ls hl => ?_)
                                refine lv_iload hx hb dX8_layOrder_138 (lv_at hl 5 rfl) ?_
                                refine pz_ifne (tgt := 153) hx hb dX8_layOrder_140 (by decide) (⟨by omega, by omega⟩) (fun h78 => ?_) (fun h78 => ?_)
                                · refine lv_iconst (v := zI (1)) hx hb dX8_layOrder_153 rfl ?_
                                  refine lv_goto (tgt := 158) hx hb dX8_layOrder_154 (by decide) ?_
                                  refine lv_istore (lv' := [(4, .int (zI 1)), (5, .int (zI 0)), (8, .int (zI 0)), (7, .int (zI (dgs n p9 : Int))), (0, .ref (ad 120)), (3, .int (zI (M : Int))), (6, .int (zI (p9 : Int)))]) hx hb dX8_layOrder_158 hl (by decide) rfl (fun ls hl => ?_)
                                  refine lv_iload_n hx hb dX8_layOrder_160 rfl (lv_at hl 5 rfl) ?_
                                  refine lv_iconst (v := zI (1)) hx hb dX8_layOrder_161 rfl ?_
                                  refine lv_iload hx hb dX8_layOrder_162 (lv_at hl 3 rfl) ?_
                                  refine lv_ishl hx hb dX8_layOrder_164 ?_
                                  refine lv_ior hx hb dX8_layOrder_165 ?_
                                  refine pz_topI (y := zI ((M ||| 1 <<< dgs n p9 : Nat) : Int)) (lo_or M hM _ hdp) ?_
                                  refine lv_istore_n (lv' := [(3, .int (zI ((M ||| 1 <<< dgs n p9 : Nat) : Int))), (4, .int (zI 1)), (5, .int (zI 0)), (8, .int (zI 0)), (7, .int (zI (dgs n p9 : Int))), (0, .ref (ad 120)), (6, .int (zI (p9 : Int)))]) hx hb dX8_layOrder_166 rfl hl (by decide) rfl (fun ls hl => ?_)
                                  refine pz_iinc (lv' := [(6, .int (zI ((p9 + 1 : Nat) : Int))), (3, .int (zI ((M ||| 1 <<< dgs n p9 : Nat) : Int))), (4, .int (zI 1)), (5, .int (zI 0)), (8, .int (zI 0)), (7, .int (zI (dgs n p9 : Int))), (0, .ref (ad 120))]) hx hb dX8_layOrder_167 hl (j := 6) rfl ((p9 + 1 : Nat) : Int) (by omega) (by decide) rfl (fun ls hl => ?_)
                                  refine lv_goto (tgt := 41) hx hb dX8_layOrder_170 (by decide) ?_
                                  refine ih (p9 + 1) (M ||| 1 <<< dgs n p9) 1 0 ls (by omega) (lo_lt M hM _ hdp) (by omega) (by omega) ?_ (by omega) (lv_sub hl [6, 1, 2, 3, 0] rfl)
                                  rw [loS, hst]
                                  refine Prod.ext rfl (Prod.ext ?_ ?_) <;> dsimp only <;> split <;> omega
                                · omega
                              · omega
                    · refine lv_aload_n hx hb dX8_layOrder_61 rfl (lv_at hl 1 rfl) ?_
                      refine pw_get (r := 120) (ci := 8) (C := RX8) (T := TX8) (Nf := 21) hx hb w hts hin_X8_layOrder_8 hown (by omega) hm1 rfl 11 (by decide) (hts _ fl_X8_layOrder_36) (fun _ h9 => h9) rfl dX8_layOrder_62 ?_
                      refine lv_iload hx hb dX8_layOrder_65 (lv_at hl 0 rfl) ?_
                      refine pw_iald (r := 128) (j := (dgs n p9)) hx hb w (by omega) hM1 (by omega) (by omega) (by decide) dX8_layOrder_67 ?_
                      refine pz_ifne (tgt := 94) hx hb dX8_layOrder_68 (by decide) (⟨by omega, by omega⟩) (fun h79 => ?_) (fun h79 => ?_)
                      · refine lv_iconst (v := zI (0)) hx hb dX8_layOrder_94 rfl ?_
                        refine lv_istore (lv' := [(8, .int (zI 0)), (7, .int (zI (dgs n p9 : Int))), (0, .ref (ad 120)), (3, .int (zI (M : Int))), (4, .int (zI 1)), (5, .int (zI 1)), (6, .int (zI (p9 : Int)))]) hx hb dX8_layOrder_95 hl (by decide) rfl (fun ls hl => ?_)
                        refine lv_iload hx hb dX8_layOrder_97 (lv_at hl 5 rfl) ?_
                        refine pz_ifeq (tgt := 135) hx hb dX8_layOrder_99 (by decide) (⟨by omega, by omega⟩) (fun h80 => ?_) (fun h80 => ?_)
                        · omega
                        · refine lv_iload_n hx hb dX8_layOrder_102 rfl (lv_at hl 3 rfl) ?_
                          refine lv_iload hx hb dX8_layOrder_103 (lv_at hl 1 rfl) ?_
                          refine lv_ishr hx hb dX8_layOrder_105 ?_
                          refine lv_iconst (v := zI (1)) hx hb dX8_layOrder_106 rfl ?_
                          refine lv_iand hx hb dX8_layOrder_107 ?_
                          refine pz_topI (y := zI ((bi M (dgs n p9) : Nat) : Int)) (lo_bit M hM _ hdp) ?_
                          refine pz_ifne (tgt := 135) hx hb dX8_layOrder_108 (by decide) (⟨by omega, by omega⟩) (fun h81 => ?_) (fun h81 => ?_)
                          · refine lv_iconst (v := zI (0)) hx hb dX8_layOrder_135 rfl ?_
                            refine lv_istore (lv' := [(5, .int (zI 0)), (8, .int (zI 0)), (7, .int (zI (dgs n p9 : Int))), (0, .ref (ad 120)), (3, .int (zI (M : Int))), (4, .int (zI 1)), (6, .int (zI (p9 : Int)))]) hx hb dX8_layOrder_136 hl (by decide) rfl (fun ls hl => ?_)
                            refine lv_iload hx hb dX8_layOrder_138 (lv_at hl 5 rfl) ?_
                            refine pz_ifne (tgt := 153) hx hb dX8_layOrder_140 (by decide) (⟨by omega, by omega⟩) (fun h82 => ?_) (fun h82 => ?_)
                            · refine lv_iconst (v := zI (1)) hx hb dX8_layOrder_153 rfl ?_
                              refine lv_goto (tgt := 158) hx hb dX8_layOrder_154 (by decide) ?_
                              refine lv_istore (lv' := [(4, .int (zI 1)), (5, .int (zI 0)), (8, .int (zI 0)), (7, .int (zI (dgs n p9 : Int))), (0, .ref (ad 120)), (3, .int (zI (M : Int))), (6, .int (zI (p9 : Int)))]) hx hb dX8_layOrder_158 hl (by decide) rfl (fun ls hl => ?_)
                              refine lv_iload_n hx hb dX8_layOrder_160 rfl (lv_at hl 5 rfl) ?_
                              refine lv_iconst (v := zI (1)) hx hb dX8_layOrder_161 rfl ?_
                              refine lv_iload hx hb dX8_layOrder_162 (lv_at hl 3 rfl) ?_
                              refine lv_ishl hx hb dX8_layOrder_164 ?_
                              refine lv_ior hx hb dX8_layOrder_165 ?_
                              refine pz_topI (y := zI ((M ||| 1 <<< dgs n p9 : Nat) : Int)) (lo_or M hM _ hdp) ?_
                              refine lv_istore_n (lv' := [(3, .int (zI ((M ||| 1 <<< dgs n p9 : Nat) : Int))), (4, .int (zI 1)), (5, .int (zI 0)), (8, .int (zI 0)), (7, .int (zI (dgs n p9 : Int))), (0, .ref (ad 120)), (6, .int (zI (p9 : Int)))]) hx hb dX8_layOrder_166 rfl hl (by decide) rfl (fun ls hl => ?_)
                              refine pz_iinc (lv' := [(6, .int (zI ((p9 + 1 : Nat) : Int))), (3, .int (zI ((M ||| 1 <<< dgs n p9 : Nat) : Int))), (4, .int (zI 1)), (5, .int (zI 0)), (8, .int (zI 0)), (7, .int (zI (dgs n p9 : Int))), (0, .ref (ad 120))]) hx hb dX8_layOrder_167 hl (j := 6) rfl ((p9 + 1 : Nat) : Int) (by omega) (by decide) rfl (fun ls hl => ?_)
                              refine lv_goto (tgt := 41) hx hb dX8_layOrder_170 (by decide) ?_
                              refine ih (p9 + 1) (M ||| 1 <<< dgs n p9) 1 0 ls (by omega) (lo_lt M hM _ hdp) (by omega) (by omega) ?_ (by omega) (lv_sub hl [6, 1, 2, 3, 0] rfl)
                              rw [loS, hst]
                              refine Prod.ext rfl (Prod.ext ?_ ?_) <;> dsimp only <;> split <;> omega
                            · omega
                          · refine lv_iload hx hb dX8_layOrder_111 (lv_at hl 0 rfl) ?_
                            refine pz_ifne (tgt := 135) hx hb dX8_layOrder_113 (by decide) (⟨by omega, by omega⟩) (fun h83 => ?_) (fun h83 => ?_)
                            · omega
                            · refine lv_aload_n hx hb dX8_layOrder_116 rfl (lv_at hl 2 rfl) ?_
                              refine pw_get (r := 120) (ci := 8) (C := RX8) (T := TX8) (Nf := 21) hx hb w hts hin_X8_layOrder_8 hown (by omega) hm1 rfl 11 (by decide) (hts _ fl_X8_layOrder_36) (fun _ h9 => h9) rfl dX8_layOrder_117 ?_
                              refine lv_iload hx hb dX8_layOrder_120 (lv_at hl 1 rfl) ?_
                              refine pw_iald (r := 128) (j := (dgs n p9)) hx hb w (by omega) hM1 (by omega) (by omega) (by decide) dX8_layOrder_122 ?_
                              refine pz_ifeq (tgt := 131) hx hb dX8_layOrder_123 (by decide) (⟨by omega, by omega⟩) (fun h84 => ?_) (fun h84 => ?_)
                              · refine lv_iconst (v := zI (1)) hx hb dX8_layOrder_131 rfl ?_
                                refine lv_goto (tgt := 136) hx hb dX8_layOrder_132 (by decide) ?_
                                refine lv_istore (lv' := [(5, .int (zI 1)), (8, .int (zI 0)), (7, .int (zI (dgs n p9 : Int))), (0, .ref (ad 120)), (3, .int (zI (M : Int))), (4, .int (zI 1)), (6, .int (zI (p9 : Int)))]) hx hb dX8_layOrder_136 hl (by decide) rfl (fun ls hl => ?_)
                                refine lv_iload hx hb dX8_layOrder_138 (lv_at hl 5 rfl) ?_
                                refine pz_ifne (tgt := 153) hx hb dX8_layOrder_140 (by decide) (⟨by omega, by omega⟩) (fun h85 => ?_) (fun h85 => ?_)
                                · refine lv_iconst (v := zI (1)) hx hb dX8_layOrder_153 rfl ?_
                                  refine lv_goto (tgt := 158) hx hb dX8_layOrder_154 (by decide) ?_
                                  refine lv_istore (lv' := [(4, .int (zI 1)), (5, .int (zI 1)), (8, .int (zI 0)), (7, .int (zI (dgs n p9 : Int))), (0, .ref (ad 120)), (3, .int (zI (M : Int))), (6, .int (zI (p9 : Int)))]) hx hb dX8_layOrder_158 hl (by decide) rfl (fun ls hl => ?_)
                                  refine lv_iload_n hx hb dX8_layOrder_160 rfl (lv_at hl 5 rfl) ?_
                                  refine lv_iconst (v := zI (1)) hx hb dX8_layOrder_161 rfl ?_
                                  refine lv_iload hx hb dX8_layOrder_162 (lv_at hl 3 rfl) ?_
                                  refine lv_ishl hx hb dX8_layOrder_164 ?_
                                  refine lv_ior hx hb dX8_layOrder_165 ?_
                                  refine pz_topI (y := zI ((M ||| 1 <<< dgs n p9 : Nat) : Int)) (lo_or M hM _ hdp) ?_
                                  refine lv_istore_n (lv' := [(3, .int (zI ((M ||| 1 <<< dgs n p9 : Nat) : Int))), (4, .int (zI 1)), (5, .int (zI 1)), (8, .int (zI 0)), (7, .int (zI (dgs n p9 : Int))), (0, .ref (ad 120)), (6, .int (zI (p9 : Int)))]) hx hb dX8_layOrder_166 rfl hl (by decide) rfl (fun ls hl => ?_)
                                  refine pz_iinc (lv' := [(6, .int (zI ((p9 + 1 : Nat) : Int))), (3, .int (zI ((M ||| 1 <<< dgs n p9 : Nat) : Int))), (4, .int (zI 1)), (5, .int (zI 1)), (8, .int (zI 0)), (7, .int (zI (dgs n p9 : Int))), (0, .ref (ad 120))]) hx hb dX8_layOrder_167 hl (j := 6) rfl ((p9 + 1 : Nat) : Int) (by omega) (by decide) rfl (fun ls hl => ?_)
                                  refine lv_goto (tgt := 41) hx hb dX8_layOrder_170 (by decide) ?_
                                  refine ih (p9 + 1) (M ||| 1 <<< dgs n p9) 1 1 ls (by omega) (lo_lt M hM _ hdp) (by omega) (by omega) ?_ (by omega) (lv_sub hl [6, 1, 2, 3, 0] rfl)
                                  rw [loS, hst]
                                  refine Prod.ext rfl (Prod.ext ?_ ?_) <;> dsimp only <;> split <;> omega
                                · omega
                              · refine lv_iload hx hb dX8_layOrder_126 (lv_at hl 4 rfl) ?_
                                refine pz_ifne (tgt := 135) hx hb dX8_layOrder_128 (by decide) (⟨by omega, by omega⟩) (fun h86 => ?_) (fun h86 => ?_)
                                · refine lv_iconst (v := zI (0)) hx hb dX8_layOrder_135 rfl ?_
                                  refine lv_istore (lv' := [(5, .int (zI 0)), (8, .int (zI 0)), (7, .int (zI (dgs n p9 : Int))), (0, .ref (ad 120)), (3, .int (zI (M : Int))), (4, .int (zI 1)), (6, .int (zI (p9 : Int)))]) hx hb dX8_layOrder_136 hl (by decide) rfl (fun ls hl => ?_)
                                  refine lv_iload hx hb dX8_layOrder_138 (lv_at hl 5 rfl) ?_
                                  refine pz_ifne (tgt := 153) hx hb dX8_layOrder_140 (by decide) (⟨by omega, by omega⟩) (fun h87 => ?_) (fun h87 => ?_)
                                  · refine lv_iconst (v := zI (1)) hx hb dX8_layOrder_153 rfl ?_
                                    refine lv_goto (tgt := 158) hx hb dX8_layOrder_154 (by decide) ?_
                                    refine lv_istore (lv' := [(4, .int (zI 1)), (5, .int (zI 0)), (8, .int (zI 0)), (7, .int (zI (dgs n p9 : Int))), (0, .ref (ad 120)), (3, .int (zI (M : Int))), (6, .int (zI (p9 : Int)))]) hx hb dX8_layOrder_158 hl (by decide) rfl (fun ls hl => ?_)
                                    refine lv_iload_n hx hb dX8_layOrder_160 rfl (lv_at hl 5 rfl) ?_
                                    refine lv_iconst (v := zI (1)) hx hb dX8_layOrder_161 rfl ?_
                                    refine lv_iload hx hb dX8_layOrder_162 (lv_at hl 3 rfl) ?_
                                    refine lv_ishl hx hb dX8_layOrder_164 ?_
                                    refine lv_ior hx hb dX8_layOrder_165 ?_
                                    refine pz_topI (y := zI ((M ||| 1 <<< dgs n p9 : Nat) : Int)) (lo_or M hM _ hdp) ?_
                                    refine lv_istore_n (lv' := [(3, .int (zI ((M ||| 1 <<< dgs n p9 : Nat) : Int))), (4, .int (zI 1)), (5, .int (zI 0)), (8, .int (zI 0)), (7, .int (zI (dgs n p9 : Int))), (0, .ref (ad 120)), (6, .int (zI (p9 : Int)))]) hx hb dX8_layOrder_166 rfl hl (by decide) rfl (fun ls hl => ?_)
                                    refine pz_iinc (lv' := [(6, .int (zI ((p9 + 1 : Nat) : Int))), (3, .int (zI ((M ||| 1 <<< dgs n p9 : Nat) : Int))), (4, .int (zI 1)), (5, .int (zI 0)), (8, .int (zI 0)), (7, .int (zI (dgs n p9 : Int))), (0, .ref (ad 120))]) hx hb dX8_layOrder_167 hl (j := 6) rfl ((p9 + 1 : Nat) : Int) (by omega) (by decide) rfl (fun ls hl => ?_)
                                    refine lv_goto (tgt := 41) hx hb dX8_layOrder_170 (by decide) ?_
                                    refine ih (p9 + 1) (M ||| 1 <<< dgs n p9) 1 0 ls (by omega) (lo_lt M hM _ hdp) (by omega) (by omega) ?_ (by omega) (lv_sub hl [6, 1, 2, 3, 0] rfl)
                                    rw [loS, hst]
                                    refine Prod.ext rfl (Prod.ext ?_ ?_) <;> dsimp only <;> split <;> omega
                                  · omega
                                · omega
                      · refine lv_iload hx hb dX8_layOrder_71 (lv_at hl 3 rfl) ?_
                        refine pz_ifeq (tgt := 94) hx hb dX8_layOrder_73 (by decide) (⟨by omega, by omega⟩) (fun h88 => ?_) (fun h88 => ?_)
                        · omega
                        · refine lv_aload_n hx hb dX8_layOrder_76 rfl (lv_at hl 1 rfl) ?_
                          refine pw_get (r := 120) (ci := 8) (C := RX8) (T := TX8) (Nf := 21) hx hb w hts hin_X8_layOrder_8 hown (by omega) hm1 rfl 19 (by decide) (hts _ fl_X8_layOrder_57) (fun _ h9 => h9) rfl dX8_layOrder_77 ?_
                          refine lv_iload hx hb dX8_layOrder_80 (lv_at hl 5 rfl) ?_
                          refine lv_iconst (v := zI (1)) hx hb dX8_layOrder_82 rfl ?_
                          refine pz_isub hx hb dX8_layOrder_83 ?_
                          refine pw_iald (r := 135) (j := (p9 - 1)) hx hb w (by omega) hO1 (by omega) (by omega) (by decide) dX8_layOrder_84 ?_
                          refine lv_iload hx hb dX8_layOrder_85 (lv_at hl 0 rfl) ?_
                          refine pz_icmple (tgt := 94) hx hb dX8_layOrder_87 (by decide) (⟨by omega, by omega⟩) (⟨by omega, by omega⟩) (fun h89 => ?_) (fun h89 => ?_)
                          · refine lv_iconst (v := zI (0)) hx hb dX8_layOrder_94 rfl ?_
                            refine lv_istore (lv' := [(8, .int (zI 0)), (7, .int (zI (dgs n p9 : Int))), (0, .ref (ad 120)), (3, .int (zI (M : Int))), (4, .int (zI 1)), (5, .int (zI 1)), (6, .int (zI (p9 : Int)))]) hx hb dX8_layOrder_95 hl (by decide) rfl (fun ls hl => ?_)
                            refine lv_iload hx hb dX8_layOrder_97 (lv_at hl 5 rfl) ?_
                            refine pz_ifeq (tgt := 135) hx hb dX8_layOrder_99 (by decide) (⟨by omega, by omega⟩) (fun h90 => ?_) (fun h90 => ?_)
                            · omega
                            · refine lv_iload_n hx hb dX8_layOrder_102 rfl (lv_at hl 3 rfl) ?_
                              refine lv_iload hx hb dX8_layOrder_103 (lv_at hl 1 rfl) ?_
                              refine lv_ishr hx hb dX8_layOrder_105 ?_
                              refine lv_iconst (v := zI (1)) hx hb dX8_layOrder_106 rfl ?_
                              refine lv_iand hx hb dX8_layOrder_107 ?_
                              refine pz_topI (y := zI ((bi M (dgs n p9) : Nat) : Int)) (lo_bit M hM _ hdp) ?_
                              refine pz_ifne (tgt := 135) hx hb dX8_layOrder_108 (by decide) (⟨by omega, by omega⟩) (fun h91 => ?_) (fun h91 => ?_)
                              · refine lv_iconst (v := zI (0)) hx hb dX8_layOrder_135 rfl ?_
                                refine lv_istore (lv' := [(5, .int (zI 0)), (8, .int (zI 0)), (7, .int (zI (dgs n p9 : Int))), (0, .ref (ad 120)), (3, .int (zI (M : Int))), (4, .int (zI 1)), (6, .int (zI (p9 : Int)))]) hx hb dX8_layOrder_136 hl (by decide) rfl (fun ls hl => ?_)
                                refine lv_iload hx hb dX8_layOrder_138 (lv_at hl 5 rfl) ?_
                                refine pz_ifne (tgt := 153) hx hb dX8_layOrder_140 (by decide) (⟨by omega, by omega⟩) (fun h92 => ?_) (fun h92 => ?_)
                                · refine lv_iconst (v := zI (1)) hx hb dX8_layOrder_153 rfl ?_
                                  refine lv_goto (tgt := 158) hx hb dX8_layOrder_154 (by decide) ?_
                                  refine lv_istore (lv' := [(4, .int (zI 1)), (5, .int (zI 0)), (8, .int (zI 0)), (7, .int (zI (dgs n p9 : Int))), (0, .ref (ad 120)), (3, .int (zI (M : Int))), (6, .int (zI (p9 : Int)))]) hx hb dX8_layOrder_158 hl (by decide) rfl (fun ls hl => ?_)
                                  refine lv_iload_n hx hb dX8_layOrder_160 rfl (lv_at hl 5 rfl) ?_
                                  refine lv_iconst (v := zI (1)) hx hb dX8_layOrder_161 rfl ?_
                                  refine lv_iload hx hb dX8_layOrder_162 (lv_at hl 3 rfl) ?_
                                  refine lv_ishl hx hb dX8_layOrder_164 ?_
                                  refine lv_ior hx hb dX8_layOrder_165 ?_
                                  refine pz_topI (y := zI ((M ||| 1 <<< dgs n p9 : Nat) : Int)) (lo_or M hM _ hdp) ?_
                                  refine lv_istore_n (lv' := [(3, .int (zI ((M ||| 1 <<< dgs n p9 : Nat) : Int))), (4, .int (zI 1)), (5, .int (zI 0)), (8, .int (zI 0)), (7, .int (zI (dgs n p9 : Int))), (0, .ref (ad 120)), (6, .int (zI (p9 : Int)))]) hx hb dX8_layOrder_166 rfl hl (by decide) rfl (fun ls hl => ?_)
                                  refine pz_iinc (lv' := [(6, .int (zI ((p9 + 1 : Nat) : Int))), (3, .int (zI ((M ||| 1 <<< dgs n p9 : Nat) : Int))), (4, .int (zI 1)), (5, .int (zI 0)), (8, .int (zI 0)), (7, .int (zI (dgs n p9 : Int))), (0, .ref (ad 120))]) hx hb dX8_layOrder_167 hl (j := 6) rfl ((p9 + 1 : Nat) : Int) (by omega) (by decide) rfl (fun ls hl => ?_)
                                  refine lv_goto (tgt := 41) hx hb dX8_layOrder_170 (by decide) ?_
                                  refine ih (p9 + 1) (M ||| 1 <<< dgs n p9) 1 0 ls (by omega) (lo_lt M hM _ hdp) (by omega) (by omega) ?_ (by omega) (lv_sub hl [6, 1, 2, 3, 0] rfl)
                                  rw [loS, hst]
                                  refine Prod.ext rfl (Prod.ext ?_ ?_) <;> dsimp only <;> split <;> omega
                                · omega
                              · refine lv_iload hx hb dX8_layOrder_111 (lv_at hl 0 rfl) ?_
                                refine pz_ifne (tgt := 135) hx hb dX8_layOrder_113 (by decide) (⟨by omega, by omega⟩) (fun h93 => ?_) (fun h93 => ?_)
                                · omega
                                · refine lv_aload_n hx hb dX8_layOrder_116 rfl (lv_at hl 2 rfl) ?_
                                  refine pw_get (r := 120) (ci := 8) (C := RX8) (T := TX8) (Nf := 21) hx hb w hts hin_X8_layOrder_8 hown (by omega) hm1 rfl 11 (by decide) (hts _ fl_X8_layOrder_36) (fun _ h9 => h9) rfl dX8_layOrder_117 ?_
                                  refine lv_iload hx hb dX8_layOrder_120 (lv_at hl 1 rfl) ?_
                                  refine pw_iald (r := 128) (j := (dgs n p9)) hx hb w (by omega) hM1 (by omega) (by omega) (by decide) dX8_layOrder_122 ?_
                                  refine pz_ifeq (tgt := 131) hx hb dX8_layOrder_123 (by decide) (⟨by omega, by omega⟩) (fun h94 => ?_) (fun h94 => ?_)
                                  · refine lv_iconst (v := zI (1)) hx hb dX8_layOrder_131 rfl ?_
                                    refine lv_goto (tgt := 136) hx hb dX8_layOrder_132 (by decide) ?_
                                    refine lv_istore (lv' := [(5, .int (zI 1)), (8, .int (zI 0)), (7, .int (zI (dgs n p9 : Int))), (0, .ref (ad 120)), (3, .int (zI (M : Int))), (4, .int (zI 1)), (6, .int (zI (p9 : Int)))]) hx hb dX8_layOrder_136 hl (by decide) rfl (fun ls hl => ?_)
                                    refine lv_iload hx hb dX8_layOrder_138 (lv_at hl 5 rfl) ?_
                                    refine pz_ifne (tgt := 153) hx hb dX8_layOrder_140 (by decide) (⟨by omega, by omega⟩) (fun h95 => ?_) (fun h95 => ?_)
                                    · refine lv_iconst (v := zI (1)) hx hb dX8_layOrder_153 rfl ?_
                                      refine lv_goto (tgt := 158) hx hb dX8_layOrder_154 (by decide) ?_
                                      refine lv_istore (lv' := [(4, .int (zI 1)), (5, .int (zI 1)), (8, .int (zI 0)), (7, .int (zI (dgs n p9 : Int))), (0, .ref (ad 120)), (3, .int (zI (M : Int))), (6, .int (zI (p9 : Int)))]) hx hb dX8_layOrder_158 hl (by decide) rfl (fun ls hl => ?_)
                                      refine lv_iload_n hx hb dX8_layOrder_160 rfl (lv_at hl 5 rfl) ?_
                                      refine lv_iconst (v := zI (1)) hx hb dX8_layOrder_161 rfl ?_
                                      refine lv_iload hx hb dX8_layOrder_162 (lv_at hl 3 rfl) ?_
                                      refine lv_ishl hx hb dX8_layOrder_164 ?_
                                      refine lv_ior hx hb dX8_layOrder_165 ?_
                                      refine pz_topI (y := zI ((M ||| 1 <<< dgs n p9 : Nat) : Int)) (lo_or M hM _ hdp) ?_
                                      refine lv_istore_n (lv' := [(3, .int (zI ((M ||| 1 <<< dgs n p9 : Nat) : Int))), (4, .int (zI 1)), (5, .int (zI 1)), (8, .int (zI 0)), (7, .int (zI (dgs n p9 : Int))), (0, .ref (ad 120)), (6, .int (zI (p9 : Int)))]) hx hb dX8_layOrder_166 rfl hl (by decide) rfl (fun ls hl => ?_)
                                      refine pz_iinc (lv' := [(6, .int (zI ((p9 + 1 : Nat) : Int))), (3, .int (zI ((M ||| 1 <<< dgs n p9 : Nat) : Int))), (4, .int (zI 1)), (5, .int (zI 1)), (8, .int (zI 0)), (7, .int (zI (dgs n p9 : Int))), (0, .ref (ad 120))]) hx hb dX8_layOrder_167 hl (j := 6) rfl ((p9 + 1 : Nat) : Int) (by omega) (by decide) rfl (fun ls hl => ?_)
                                      refine lv_goto (tgt := 41) hx hb dX8_layOrder_170 (by decide) ?_
                                      refine ih (p9 + 1) (M ||| 1 <<< dgs n p9) 1 1 ls (by omega) (lo_lt M hM _ hdp) (by omega) (by omega) ?_ (by omega) (lv_sub hl [6, 1, 2, 3, 0] rfl)
                                      rw [loS, hst]
                                      refine Prod.ext rfl (Prod.ext ?_ ?_) <;> dsimp only <;> split <;> omega
                                    · omega
                                  · refine lv_iload hx hb dX8_layOrder_126 (lv_at hl 4 rfl) ?_
                                    refine pz_ifne (tgt := 135) hx hb dX8_layOrder_128 (by decide) (⟨by omega, by omega⟩) (fun h96 => ?_) (fun h96 => ?_)
                                    · refine lv_iconst (v := zI (0)) hx hb dX8_layOrder_135 rfl ?_
                                      refine lv_istore (lv' := [(5, .int (zI 0)), (8, .int (zI 0)), (7, .int (zI (dgs n p9 : Int))), (0, .ref (ad 120)), (3, .int (zI (M : Int))), (4, .int (zI 1)), (6, .int (zI (p9 : Int)))]) hx hb dX8_layOrder_136 hl (by decide) rfl (fun ls hl => ?_)
                                      refine lv_iload hx hb dX8_layOrder_138 (lv_at hl 5 rfl) ?_
                                      refine pz_ifne (tgt := 153) hx hb dX8_layOrder_140 (by decide) (⟨by omega, by omega⟩) (fun h97 => ?_) (fun h97 => ?_)
                                      · refine lv_iconst (v := zI (1)) hx hb dX8_layOrder_153 rfl ?_
                                        refine lv_goto (tgt := 158) hx hb dX8_layOrder_154 (by decide) ?_
                                        refine lv_istore (lv' := [(4, .int (zI 1)), (5, .int (zI 0)), (8, .int (zI 0)), (7, .int (zI (dgs n p9 : Int))), (0, .ref (ad 120)), (3, .int (zI (M : Int))), (6, .int (zI (p9 : Int)))]) hx hb dX8_layOrder_158 hl (by decide) rfl (fun ls hl => ?_)
                                        refine lv_iload_n hx hb dX8_layOrder_160 rfl (lv_at hl 5 rfl) ?_
                                        refine lv_iconst (v := zI (1)) hx hb dX8_layOrder_161 rfl ?_
                                        refine lv_iload hx hb dX8_layOrder_162 (lv_at hl 3 rfl) ?_
                                        refine lv_ishl hx hb dX8_layOrder_164 ?_
                                        refine lv_ior hx hb dX8_layOrder_165 ?_
                                        refine pz_topI (y := zI ((M ||| 1 <<< dgs n p9 : Nat) : Int)) (lo_or M hM _ hdp) ?_
                                        refine lv_istore_n (lv' := [(3, .int (zI ((M ||| 1 <<< dgs n p9 : Nat) : Int))), (4, .int (zI 1)), (5, .int (zI 0)), (8, .int (zI 0)), (7, .int (zI (dgs n p9 : Int))), (0, .ref (ad 120)), (6, .int (zI (p9 : Int)))]) hx hb dX8_layOrder_166 rfl hl (by decide) rfl (fun ls hl => ?_)
                                        refine pz_iinc (lv' := [(6, .int (zI ((p9 + 1 : Nat) : Int))), (3, .int (zI ((M ||| 1 <<< dgs n p9 : Nat) : Int))), (4, .int (zI 1)), (5, .int (zI 0)), (8, .int (zI 0)), (7, .int (zI (dgs n p9 : Int))), (0, .ref (ad 120))]) hx hb dX8_layOrder_167 hl (j := 6) rfl ((p9 + 1 : Nat) : Int) (by omega) (by decide) rfl (fun ls hl => ?_)
                                        refine lv_goto (tgt := 41) hx hb dX8_layOrder_170 (by decide) ?_
                                        refine ih (p9 + 1) (M ||| 1 <<< dgs n p9) 1 0 ls (by omega) (lo_lt M hM _ hdp) (by omega) (by omega) ?_ (by omega) (lv_sub hl [6, 1, 2, 3, 0] rfl)
                                        rw [loS, hst]
                                        refine Prod.ext rfl (Prod.ext ?_ ?_) <;> dsimp only <;> split <;> omega
                                      · omega
                                    · omega
                          · refine lv_iconst (v := zI (1)) hx hb dX8_layOrder_90 rfl ?_
                            refine lv_goto (tgt := 95) hx hb dX8_layOrder_91 (by decide) ?_
                            refine lv_istore (lv' := [(8, .int (zI 1)), (7, .int (zI (dgs n p9 : Int))), (0, .ref (ad 120)), (3, .int (zI (M : Int))), (4, .int (zI 1)), (5, .int (zI 1)), (6, .int (zI (p9 : Int)))]) hx hb dX8_layOrder_95 hl (by decide) rfl (fun ls hl => ?_)
                            refine lv_iload hx hb dX8_layOrder_97 (lv_at hl 5 rfl) ?_
                            refine pz_ifeq (tgt := 135) hx hb dX8_layOrder_99 (by decide) (⟨by omega, by omega⟩) (fun h98 => ?_) (fun h98 => ?_)
                            · omega
                            · refine lv_iload_n hx hb dX8_layOrder_102 rfl (lv_at hl 3 rfl) ?_
                              refine lv_iload hx hb dX8_layOrder_103 (lv_at hl 1 rfl) ?_
                              refine lv_ishr hx hb dX8_layOrder_105 ?_
                              refine lv_iconst (v := zI (1)) hx hb dX8_layOrder_106 rfl ?_
                              refine lv_iand hx hb dX8_layOrder_107 ?_
                              refine pz_topI (y := zI ((bi M (dgs n p9) : Nat) : Int)) (lo_bit M hM _ hdp) ?_
                              refine pz_ifne (tgt := 135) hx hb dX8_layOrder_108 (by decide) (⟨by omega, by omega⟩) (fun h99 => ?_) (fun h99 => ?_)
                              · refine lv_iconst (v := zI (0)) hx hb dX8_layOrder_135 rfl ?_
                                refine lv_istore (lv' := [(5, .int (zI 0)), (8, .int (zI 1)), (7, .int (zI (dgs n p9 : Int))), (0, .ref (ad 120)), (3, .int (zI (M : Int))), (4, .int (zI 1)), (6, .int (zI (p9 : Int)))]) hx hb dX8_layOrder_136 hl (by decide) rfl (fun ls hl => ?_)
                                refine lv_iload hx hb dX8_layOrder_138 (lv_at hl 5 rfl) ?_
                                refine pz_ifne (tgt := 153) hx hb dX8_layOrder_140 (by decide) (⟨by omega, by omega⟩) (fun h100 => ?_) (fun h100 => ?_)
                                · refine lv_iconst (v := zI (1)) hx hb dX8_layOrder_153 rfl ?_
                                  refine lv_goto (tgt := 158) hx hb dX8_layOrder_154 (by decide) ?_
                                  refine lv_istore (lv' := [(4, .int (zI 1)), (5, .int (zI 0)), (8, .int (zI 1)), (7, .int (zI (dgs n p9 : Int))), (0, .ref (ad 120)), (3, .int (zI (M : Int))), (6, .int (zI (p9 : Int)))]) hx hb dX8_layOrder_158 hl (by decide) rfl (fun ls hl => ?_)
                                  refine lv_iload_n hx hb dX8_layOrder_160 rfl (lv_at hl 5 rfl) ?_
                                  refine lv_iconst (v := zI (1)) hx hb dX8_layOrder_161 rfl ?_
                                  refine lv_iload hx hb dX8_layOrder_162 (lv_at hl 3 rfl) ?_
                                  refine lv_ishl hx hb dX8_layOrder_164 ?_
                                  refine lv_ior hx hb dX8_layOrder_165 ?_
                                  refine pz_topI (y := zI ((M ||| 1 <<< dgs n p9 : Nat) : Int)) (lo_or M hM _ hdp) ?_
                                  refine lv_istore_n (lv' := [(3, .int (zI ((M ||| 1 <<< dgs n p9 : Nat) : Int))), (4, .int (zI 1)), (5, .int (zI 0)), (8, .int (zI 1)), (7, .int (zI (dgs n p9 : Int))), (0, .ref (ad 120)), (6, .int (zI (p9 : Int)))]) hx hb dX8_layOrder_166 rfl hl (by decide) rfl (fun ls hl => ?_)
                                  refine pz_iinc (lv' := [(6, .int (zI ((p9 + 1 : Nat) : Int))), (3, .int (zI ((M ||| 1 <<< dgs n p9 : Nat) : Int))), (4, .int (zI 1)), (5, .int (zI 0)), (8, .int (zI 1)), (7, .int (zI (dgs n p9 : Int))), (0, .ref (ad 120))]) hx hb dX8_layOrder_167 hl (j := 6) rfl ((p9 + 1 : Nat) : Int) (by omega) (by decide) rfl (fun ls hl => ?_)
                                  refine lv_goto (tgt := 41) hx hb dX8_layOrder_170 (by decide) ?_
                                  refine ih (p9 + 1) (M ||| 1 <<< dgs n p9) 1 0 ls (by omega) (lo_lt M hM _ hdp) (by omega) (by omega) ?_ (by omega) (lv_sub hl [6, 1, 2, 3, 0] rfl)
                                  rw [loS, hst]
                                  refine Prod.ext rfl (Prod.ext ?_ ?_) <;> dsimp only <;> split <;> omega
                                · omega
                              · refine lv_iload hx hb dX8_layOrder_111 (lv_at hl 0 rfl) ?_
                                refine pz_ifne (tgt := 135) hx hb dX8_layOrder_113 (by decide) (⟨by omega, by omega⟩) (fun h101 => ?_) (fun h101 => ?_)
                                · refine lv_iconst (v := zI (0)) hx hb dX8_layOrder_135 rfl ?_
                                  refine lv_istore (lv' := [(5, .int (zI 0)), (8, .int (zI 1)), (7, .int (zI (dgs n p9 : Int))), (0, .ref (ad 120)), (3, .int (zI (M : Int))), (4, .int (zI 1)), (6, .int (zI (p9 : Int)))]) hx hb dX8_layOrder_136 hl (by decide) rfl (fun ls hl => ?_)
                                  refine lv_iload hx hb dX8_layOrder_138 (lv_at hl 5 rfl) ?_
                                  refine pz_ifne (tgt := 153) hx hb dX8_layOrder_140 (by decide) (⟨by omega, by omega⟩) (fun h102 => ?_) (fun h102 => ?_)
                                  · refine lv_iconst (v := zI (1)) hx hb dX8_layOrder_153 rfl ?_
                                    refine lv_goto (tgt := 158) hx hb dX8_layOrder_154 (by decide) ?_
                                    refine lv_istore (lv' := [(4, .int (zI 1)), (5, .int (zI 0)), (8, .int (zI 1)), (7, .int (zI (dgs n p9 : Int))), (0, .ref (ad 120)), (3, .int (zI (M : Int))), (6, .int (zI (p9 : Int)))]) hx hb dX8_layOrder_158 hl (by decide) rfl (fun ls hl => ?_)
                                    refine lv_iload_n hx hb dX8_layOrder_160 rfl (lv_at hl 5 rfl) ?_
                                    refine lv_iconst (v := zI (1)) hx hb dX8_layOrder_161 rfl ?_
                                    refine lv_iload hx hb dX8_layOrder_162 (lv_at hl 3 rfl) ?_
                                    refine lv_ishl hx hb dX8_layOrder_164 ?_
                                    refine lv_ior hx hb dX8_layOrder_165 ?_
                                    refine pz_topI (y := zI ((M ||| 1 <<< dgs n p9 : Nat) : Int)) (lo_or M hM _ hdp) ?_
                                    refine lv_istore_n (lv' := [(3, .int (zI ((M ||| 1 <<< dgs n p9 : Nat) : Int))), (4, .int (zI 1)), (5, .int (zI 0)), (8, .int (zI 1)), (7, .int (zI (dgs n p9 : Int))), (0, .ref (ad 120)), (6, .int (zI (p9 : Int)))]) hx hb dX8_layOrder_166 rfl hl (by decide) rfl (fun ls hl => ?_)
                                    refine pz_iinc (lv' := [(6, .int (zI ((p9 + 1 : Nat) : Int))), (3, .int (zI ((M ||| 1 <<< dgs n p9 : Nat) : Int))), (4, .int (zI 1)), (5, .int (zI 0)), (8, .int (zI 1)), (7, .int (zI (dgs n p9 : Int))), (0, .ref (ad 120))]) hx hb dX8_layOrder_167 hl (j := 6) rfl ((p9 + 1 : Nat) : Int) (by omega) (by decide) rfl (fun ls hl => ?_)
                                    refine lv_goto (tgt := 41) hx hb dX8_layOrder_170 (by decide) ?_
                                    refine ih (p9 + 1) (M ||| 1 <<< dgs n p9) 1 0 ls (by omega) (lo_lt M hM _ hdp) (by omega) (by omega) ?_ (by omega) (lv_sub hl [6, 1, 2, 3, 0] rfl)
                                    rw [loS, hst]
                                    refine Prod.ext rfl (Prod.ext ?_ ?_) <;> dsimp only <;> split <;> omega
                                  · omega
                                · omega
            exact lp 5 0 0 0 1 ls (by omega) (by omega) (by omega) (by omega) rfl (by omega) (lv_sub hl [5, 4, 3, 2, 0] rfl)
          · omega
