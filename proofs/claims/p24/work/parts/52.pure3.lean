/-! OURS: the tune's answers of both sides -/
theorem bes_congr {g g' : Nat → Int} (h : ∀ o, o < 9 → g o = g' o) (a : Nat) : bes g a = bes g' a := by
  unfold bes flb
  rw [flbU_congr (a := a) 9 h (fun _ => h 0 (by omega))]
  exact h _ (flb_lt g' a)
theorem growF_congr {g g' v v' : Nat → Int} (h : ∀ o, o < 9 → g o = g' o) {o : Nat} (hv : v o = v' o) : growF g v o = growF g' v' o := by
  rw [growF_eq, growF_eq, bes_congr h, hv]
theorem Rr_congr {w w' : Nat → Nat → Int} : ∀ k i, (∀ j, i ≤ j → j < i + k → ∀ o, o < 9 → w j o = w' j o) → ∀ o, o < 9 → Rr w k i o = Rr w' k i o
  | 0, _, _, _, _ => rfl
  | k + 1, i, h, o, ho => growF_congr (Rr_congr k (i + 1) (fun j h1 h2 => h j (by omega) (by omega))) (h i (by omega) (by omega) o ho)
theorem Fr_congr {w w' : Nat → Nat → Int} : ∀ k, (∀ j, j < k → ∀ o, o < 9 → w j o = w' j o) → ∀ o, o < 9 → Fr w k o = Fr w' k o
  | 0, _, _, _ => rfl
  | k + 1, h, o, ho => growF_congr (Fr_congr k (fun j h1 => h j (by omega))) (h k (by omega) o ho)
theorem cN_congr {w w' : Nat → Nat → Int} : ∀ k i a, (∀ j, i ≤ j → j < i + k → ∀ o, o < 9 → w j o = w' j o) → cN w k i a = cN w' k i a
  | 0, _, _, _ => rfl
  | k + 1, i, a, h => by
    unfold cN
    refine sumU_congr 9 (fun o ho => ?_)
    rw [h i (by omega) (by omega) o ho, cN_congr k (i + 1) o (fun j h1 h2 => h j (by omega) (by omega))]
theorem W_gapC {lim : Int} {no : Nat} {gn : Nat → Nat} {gg : Nat → Nat → Nat} (hOV : OV no gn gg) {rp rl : Nat → Nat} {rw : Nat → Int} {i : Nat} (hx : rp i < 9) (hy : rp (i + 1) < 9) (o : Nat) : Wof (atc lim gn gg rp rl rw) no i o = gapC lim no gn gg (rp i) (rl i) (rp (i + 1)) (rw i) o := by
  unfold Wof gapC atc
  by_cases h0 : o = 0
  · subst h0
    have := stp_bd (lim := lim) hx hy
    by_cases hw : rw i = 0
    · rw [if_pos (Nat.zero_le no), if_neg (fun h => h.2 hw), if_pos rfl, if_pos hw]
      unfold bw
      rw [if_pos rfl]
      omega
    · rw [if_pos (Nat.zero_le no), if_pos ⟨rfl, hw⟩, if_pos rfl, if_neg hw]
      decide
  · rw [if_neg h0]
    by_cases hn : o ≤ no
    · rw [if_pos hn, if_neg (fun h => h0 h.1), if_pos (by omega)]
      have h9 := hOV.g (o - 1) (by omega)
      have h1 := orS_bd h9.2 hx hy (lim := lim) (gn (o - 1)) (Nat.le_refl _)
      have h2 := stp_bd (lim := lim) (orF_lt h9.2 hx hy (gn (o - 1)) (Nat.le_refl _)) hy
      unfold bw orC
      rw [if_neg h0]
      by_cases hm : rl i ≤ gn (o - 1)
      · rw [if_pos hm, if_neg (by omega)]
        omega
      · rw [if_neg hm, if_pos (by omega)]
        omega
    · rw [if_neg hn, if_neg (by omega)]
section TVX
variable {lim : Int} {no : Nat} {gn : Nat → Nat} {gg : Nat → Nat → Nat} {nn : Nat → Nat} {pt ln : Nat → Nat → Nat} {wi : Nat → Nat → Int}
/-- the costs that the model asks for, of one tune -/
abbrev atT (lim : Int) (gn : Nat → Nat) (gg : Nat → Nat → Nat) (nn : Nat → Nat) (pt ln : Nat → Nat → Nat) (wi : Nat → Nat → Int) (t : Nat) : Nat → Nat → Int := atc lim gn gg (pt t) (ln t) (rwT (nn t) (wi t))
theorem cwT_W (hOV : OV no gn gg) (hU : TusV nn pt ln wi) {t i : Nat} (ht : t < 4) (hi : i + 1 < nn t) (o : Nat) : cwT lim no gn gg nn pt ln wi t i o = Wof (atT lim gn gg nn pt ln wi t) no i o := by
  rw [W_gapC hOV ((hU t ht).2.1 i (by omega)).1 ((hU t ht).2.1 (i + 1) hi).1]
  unfold cwT rwT
  rw [if_pos ⟨ht, hi⟩, if_pos hi]
theorem okT (hOV : OV no gn gg) (hU : TusV nn pt ln wi) {t : Nat} (ht : t < 4) {i k : Nat} (h : i + k ≤ nn t - 1) : okA (atT lim gn gg nn pt ln wi t) no i k := fun j o h1 h2 h3 => atc_bd hOV (rwT_V (hU t ht)) (by omega) h3
theorem T_least (hOV : OV no gn gg) (hU : TusV nn pt ln wi) {t : Nat} (ht : t < 4) : lessOf (Rr (cwT lim no gn gg nn pt ln wi t) (nn t - 1) 0) = (TV lim no gn gg (nn t) (pt t) (ln t) (wi t)).1 := by
  have h10 := (hU t ht).1
  have h1 := lwm_bes (at_ := atT lim gn gg nn pt ln wi t) hOV.1 (nn t - 1) 0 0 (by omega) (okT hOV hU ht (by omega))
  have h2 := bes_congr (Rr_congr (w := cwT lim no gn gg nn pt ln wi t) (w' := Wof (atT lim gn gg nn pt ln wi t) no) (nn t - 1) 0 (fun j _ h4 o _ => cwT_W hOV hU ht (by omega) o)) 0
  exact h2.trans h1.symm
theorem T_pos (hOV : OV no gn gg) (hU : TusV nn pt ln wi) {t : Nat} (ht : t < 4) : 0 < (TV lim no gn gg (nn t) (pt t) (ln t) (wi t)).2.1 ↔ (TV lim no gn gg (nn t) (pt t) (ln t) (wi t)).1 < 1000000 := by
  have h10 := (hU t ht).1
  exact lwm_pos (okT hOV hU ht (by omega)) (by omega)
theorem T_count (hOV : OV no gn gg) (hU : TusV nn pt ln wi) {t : Nat} (ht : t < 4) : (cS (cwT lim no gn gg nn pt ln wi t) (nn t - 1)).2 = (TV lim no gn gg (nn t) (pt t) (ln t) (wi t)).2.1 := by
  have h10 := (hU t ht).1
  have h1 := lwm_cnt (at_ := atT lim gn gg nn pt ln wi t) hOV.1 (nn t - 1) 0 0
  have h2 := cN_congr (w := cwT lim no gn gg nn pt ln wi t) (w' := Wof (atT lim gn gg nn pt ln wi t) no) (nn t - 1) 0 0 (fun j _ h4 o _ => cwT_W hOV hU ht (by omega) o)
  have h3 := cN_le (Wof (atT lim gn gg nn pt ln wi t) no) (nn t - 1) 0 0
  have h4 := p9_mono (nn t - 1) (by omega)
  have h5 : (TV lim no gn gg (nn t) (pt t) (ln t) (wi t)).2.1 = min 500000000 (cN (Wof (atT lim gn gg nn pt ln wi t) no) (nn t - 1) 0 0) := h1
  rw [cS_eq, h2, h5]
  omega
theorem T_most (hOV : OV no gn gg) (hU : TusV nn pt ln wi) {t : Nat} (ht : t < 4) (hW : 0 < (TV lim no gn gg (nn t) (pt t) (ln t) (wi t)).2.1) : ((nn t - 1 : Nat) : Int) - lessOf (Fr (fun i => ewF (cwT lim no gn gg nn pt ln wi t i)) (nn t - 1)) = (TV lim no gn gg (nn t) (pt t) (ln t) (wi t)).2.2 := by
  have h10 := (hU t ht).1
  have h1 := (lwm_most (at_ := atT lim gn gg nn pt ln wi t) hOV.1 (nn t - 1) 0 0 (by omega)).2 hW
  have h2 := fwd_bwd (w := eW (atT lim gn gg nn pt ln wi t) no) (k := nn t - 1) (fun i _ o _ => ewF_bd _ o)
  have h3 := bes_congr (Fr_congr (w := fun i => ewF (cwT lim no gn gg nn pt ln wi t i)) (w' := eW (atT lim gn gg nn pt ln wi t) no) (nn t - 1) (fun j hj o _ => by
    show ewF _ o = ewF _ o
    unfold ewF
    rw [cwT_W hOV hU ht (by omega) o])) 0
  have h4 : (TV lim no gn gg (nn t) (pt t) (ln t) (wi t)).2.2 = ((nn t - 1 : Nat) : Int) - bes (Rr (eW (atT lim gn gg nn pt ln wi t) no) (nn t - 1) 0) 0 := h1.1
  have h5 : lessOf (Fr (fun i => ewF (cwT lim no gn gg nn pt ln wi t i)) (nn t - 1)) = lessOf (Fr (eW (atT lim gn gg nn pt ln wi t) no) (nn t - 1)) := h3
  rw [h4, h5, h2]
/-- the options of the first choice with the least cost -/
abbrev chT (lim : Int) (no : Nat) (gn : Nat → Nat) (gg : Nat → Nat → Nat) (nn : Nat → Nat) (pt ln : Nat → Nat → Nat) (wi : Nat → Nat → Int) (t : Nat) : Nat → Nat := optN (fun i => Rr (cwT lim no gn gg nn pt ln wi t) (nn t - 1 - i) i)
theorem T_chs (hOV : OV no gn gg) (hU : TusV nn pt ln wi) {t : Nat} (ht : t < 4) (hW : 0 < (TV lim no gn gg (nn t) (pt t) (ln t) (wi t)).2.1) : ∀ i, i ≤ nn t - 1 → bes (Rr (cwT lim no gn gg nn pt ln wi t) (nn t - 1 - i) i) (chT lim no gn gg nn pt ln wi t i) < 1000000
  | 0, _ => by
    have h1 := T_least (lim := lim) hOV hU ht
    have h2 := (T_pos (lim := lim) hOV hU ht).mp hW
    rw [← h1] at h2
    exact h2
  | i + 1, hi => by
    have h := T_chs hOV hU ht hW i (by omega)
    have h1 : bes (Rr (cwT lim no gn gg nn pt ln wi t) (nn t - 1 - i) i) (chT lim no gn gg nn pt ln wi t i) = Rr (cwT lim no gn gg nn pt ln wi t) (nn t - 1 - i) i (chT lim no gn gg nn pt ln wi t (i + 1)) := rfl
    rw [h1, show nn t - 1 - i = (nn t - 1 - (i + 1)) + 1 from by omega, Rr_succ] at h
    have h2 := cwT_bd (lim := lim) (pt := pt) (ln := ln) (wi := wi) hOV hU t i (chT lim no gn gg nn pt ln wi t (i + 1))
    omega
theorem T_chosen (hOV : OV no gn gg) (hU : TusV nn pt ln wi) {t i : Nat} (ht : t < 4) (hi : i + 1 < nn t) (hW : 0 < (TV lim no gn gg (nn t) (pt t) (ln t) (wi t)).2.1) : chT lim no gn gg nn pt ln wi t i < 9 ∧ chT lim no gn gg nn pt ln wi t (i + 1) ≤ no ∧ isF (atT lim gn gg nn pt ln wi t) no (nn t - 1) i (chT lim no gn gg nn pt ln wi t i) (chT lim no gn gg nn pt ln wi t (i + 1)) ∧ ∀ o, o < chT lim no gn gg nn pt ln wi t (i + 1) → ¬ isF (atT lim gn gg nn pt ln wi t) no (nn t - 1) i (chT lim no gn gg nn pt ln wi t i) o := by
  have h10 := (hU t ht).1
  have hs := T_chs (lim := lim) hOV hU ht hW i (by omega)
  have hc9 : chT lim no gn gg nn pt ln wi t i < 9 := optN_lt _ i
  have hok := flb_ok (Rr (cwT lim no gn gg nn pt ln wi t) (nn t - 1 - i) i) (chT lim no gn gg nn pt ln wi t i)
  have hdef : chT lim no gn gg nn pt ln wi t (i + 1) = flb (Rr (cwT lim no gn gg nn pt ln wi t) (nn t - 1 - i) i) (chT lim no gn gg nn pt ln wi t i) := rfl
  have hfirst := fun o => flb_first (g := Rr (cwT lim no gn gg nn pt ln wi t) (nn t - 1 - i) i) (chT lim no gn gg nn pt ln wi t i) o 9
  generalize chT lim no gn gg nn pt ln wi t i = a at *
  generalize chT lim no gn gg nn pt ln wi t (i + 1) = f at *
  have hk : nn t - 1 - i = (nn t - 1 - (i + 1)) + 1 := by omega
  have hRR : ∀ o, Rr (cwT lim no gn gg nn pt ln wi t) (nn t - 1 - i) i o = min 1000000 (bes (Rr (cwT lim no gn gg nn pt ln wi t) (nn t - 1 - (i + 1)) (i + 1)) o + Wof (atT lim gn gg nn pt ln wi t) no i o) := fun o => by rw [hk, Rr_succ, cwT_W hOV hU ht hi o]
  have hLm : ∀ o, (lwm (atT lim gn gg nn pt ln wi t) no (nn t - 1 - (i + 1)) (i + 1) o).1 = bes (Rr (cwT lim no gn gg nn pt ln wi t) (nn t - 1 - (i + 1)) (i + 1)) o := fun o => by
    rw [lwm_bes hOV.1 _ _ _ (by omega) (okT hOV hU ht (by omega))]
    exact (bes_congr (Rr_congr _ _ (fun j _ h4 o _ => cwT_W hOV hU ht (by omega) o)) o).symm
  have hLa : (lwm (atT lim gn gg nn pt ln wi t) no (nn t - 1 - i) i a).1 = bes (Rr (cwT lim no gn gg nn pt ln wi t) (nn t - 1 - i) i) a := by
    rw [lwm_bes hOV.1 _ _ _ (by omega) (okT hOV hU ht (by omega))]
    exact (bes_congr (Rr_congr _ _ (fun j _ h4 o _ => cwT_W hOV hU ht (by omega) o)) a).symm
  have hps := fun o => lwm_pos (at_ := atT lim gn gg nn pt ln wi t) (no := no) (k := nn t - 1 - (i + 1)) (i := i + 1) (a := o) (okT hOV hU ht (by omega)) (by omega)
  have hb1 := fun o => bes_bd (Rr_bdk (w := cwT lim no gn gg nn pt ln wi t) (nn t - 1 - (i + 1)) (i + 1) (fun j _ _ o _ => cwT_bd hOV hU t j o)) o
  have hat := fun o (ho : o ≤ no) => atc_bd (lim := lim) hOV (rwT_V (hU t ht)) (j := i) (o := o) (by omega) ho
  have hbf : bes (Rr (cwT lim no gn gg nn pt ln wi t) (nn t - 1 - i) i) a = Rr (cwT lim no gn gg nn pt ln wi t) (nn t - 1 - i) i f := by rw [hdef]; rfl
  rw [← hdef] at hok
  have hf1 := hRR f
  have hb1f := hb1 f
  have hWf : 0 ≤ Wof (atT lim gn gg nn pt ln wi t) no i f := by
    unfold Wof
    split
    · have h9 : 0 ≤ atT lim gn gg nn pt ln wi t i f := (hat f (by assumption)).1
      omega
    · omega
  have hWl : Wof (atT lim gn gg nn pt ln wi t) no i f < 1000000 := by omega
  have hfn := Wof_lt.mp hWl
  have hWe : Wof (atT lim gn gg nn pt ln wi t) no i f = atT lim gn gg nn pt ln wi t i f := by
    unfold Wof
    rw [if_pos hfn.1]
    omega
  have hbL : bes (Rr (cwT lim no gn gg nn pt ln wi t) (nn t - 1 - (i + 1)) (i + 1)) f < 1000000 := by omega
  refine ⟨hc9, hfn.1, ⟨hok.2, (hps f).mpr (by rw [hLm f]; exact hbL), ?_⟩, fun o ho hF => ?_⟩
  · rw [hLm f, hLa, hbf, hf1]
    omega
  · obtain ⟨q1, q2, q3⟩ := hF
    rw [hLm o, hLa] at q3
    have h1 := hb1 o
    have h2 : 0 ≤ atT lim gn gg nn pt ln wi t i o := (hat o (by omega)).1
    have h3 := hfirst o (by rw [← show f = flbU _ a 9 from hdef]; exact ho) q1
    have h4 : Rr (cwT lim no gn gg nn pt ln wi t) (nn t - 1 - i) i (flbU (Rr (cwT lim no gn gg nn pt ln wi t) (nn t - 1 - i) i) a 9) = bes (Rr (cwT lim no gn gg nn pt ln wi t) (nn t - 1 - i) i) a := rfl
    rw [h4, hRR o] at h3
    have h5 : Wof (atT lim gn gg nn pt ln wi t) no i o ≤ atT lim gn gg nn pt ln wi t i o := by
      unfold Wof
      rw [if_pos (by omega)]
      omega
    omega
theorem T_gra {o : Nat} (ho : o ≤ no) : graN no gn o = if o = 0 then 0 else gn (o - 1) := by
  unfold graN
  by_cases h : o = 0
  · rw [if_pos h, if_pos h]
  · rw [if_neg h, if_neg h, if_pos (by omega)]
theorem T_fit (hOV : OV no gn gg) (hU : TusV nn pt ln wi) {t i : Nat} (ht : t < 4) (hi : i + 1 < nn t) : sumU (fun o => if cwT lim no gn gg nn pt ln wi t i (o + 1) < 1000000 then 1 else 0) 8 = sumU (fun o => if atT lim gn gg nn pt ln wi t i (o + 1) < 1000000 then 1 else 0) no := by
  have h1 := sumU_cut (f := fun o => if cwT lim no gn gg nn pt ln wi t i (o + 1) < 1000000 then 1 else 0) (m := no) 8 hOV.1 (fun o h2 _ => if_neg (fun h => by
    rw [cwT_W hOV hU ht hi] at h
    have := (Wof_lt.mp h).1
    omega))
  rw [h1]
  refine sumU_congr no (fun o ho => ?_)
  rw [cwT_W hOV hU ht hi]
  by_cases h : atT lim gn gg nn pt ln wi t i (o + 1) < 1000000
  · rw [if_pos h, if_pos (Wof_lt.mpr ⟨by omega, h⟩)]
  · rw [if_neg h, if_neg (fun q => h (Wof_lt.mp q).2)]
theorem T_fits (hOV : OV no gn gg) {x m y o : Nat} (hx : x < 9) (hy : y < 9) (ho : o < no) : (if gapC lim no gn gg x m y 0 (o + 1) < 1000000 then (1 : Int) else 0) = if bw lim gn gg x m y (o + 1) < 1000000 then 1 else 0 := by
  have h := W_gapC (lim := lim) hOV (rp := fun j => if j = 0 then x else y) (rl := fun _ => m) (rw := fun _ => 0) (i := 0) hx hy (o + 1)
  have h2 : atc lim gn gg (fun j => if j = 0 then x else y) (fun _ => m) (fun _ => 0) 0 (o + 1) = bw lim gn gg x m y (o + 1) := by
    unfold atc
    rw [if_neg (fun q => absurd q.1 (by omega))]
    rfl
  have h3 : gapC lim no gn gg x m y 0 (o + 1) = Wof (atc lim gn gg (fun j => if j = 0 then x else y) (fun _ => m) (fun _ => 0)) no 0 (o + 1) := h.symm
  rw [h3]
  by_cases q : bw lim gn gg x m y (o + 1) < 1000000
  · rw [if_pos q, if_pos (Wof_lt.mpr ⟨by omega, by rw [h2]; exact q⟩)]
  · rw [if_neg q, if_neg (fun r => q (by have := (Wof_lt.mp r).2; rw [h2] at this; exact this))]
theorem T_av (hOV : OV no gn gg) (hU : TusV nn pt ln wi) {t : Nat} (ht : t < 4) (hW : 0 < (TV lim no gn gg (nn t) (pt t) (ln t) (wi t)).2.1) (h2 : 2 ≤ nn t) : vf_n32 (FP.fdiv (FP.i2f (zI (TV lim no gn gg (nn t) (pt t) (ln t) (wi t)).1)) (FP.i2f (zI ((nn t : Int) - 1)))) := by
  have hTV := TV_bd (lim := lim) hOV (hU t ht)
  have h10 := (hU t ht).1
  have hN9 := avN (TV lim no gn gg (nn t) (pt t) (ln t) (wi t)).1.toNat (by have := hTV.2.2.2.2.2.2 hW; omega) (nn t - 2) (by omega)
  rw [show (((TV lim no gn gg (nn t) (pt t) (ln t) (wi t)).1.toNat : Nat) : Int) = (TV lim no gn gg (nn t) (pt t) (ln t) (wi t)).1 from by omega, show ((nn t - 2 + 1 : Nat) : Int) = (nn t : Int) - 1 from by omega] at hN9
  exact hN9
end TVX
