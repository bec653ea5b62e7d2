/-! OURS: what fits together, of a set -/
theorem less_ge (g : Nat → Int) (a : Nat) : lessOf g ≤ bes g a := bes_all (flb_lt g a)
theorem less_b0 (g : Nat → Int) : lessOf g = bes g 0 := rfl
theorem plF_ge {v : Nat → Nat → Int} {g : Nat → Int} (hg : ∀ j, j < 9 → 0 ≤ g j ∧ g j ≤ 1000000) (hv : ∀ i j, j < 9 → 0 ≤ v i j ∧ v i j ≤ 1000000) : ∀ k a, min 1000000 (lessOf g + bes (Fr v k) a) ≤ bes (plF v g k) a
  | 0, a => by
    have h1 : bes (Fr v 0) a = 0 := bes_start a
    have h2 := less_ge g a
    have h3 : bes (plF v g 0) a = bes g a := rfl
    rw [h1, h3]
    omega
  | k + 1, a => by
    have hf := flb_ok (growF (plF v g k) (v k)) a
    have h1 : bes (plF v g (k + 1)) a = growF (plF v g k) (v k) (flb (growF (plF v g k) (v k)) a) := rfl
    rw [h1]
    generalize flb (growF (plF v g k) (v k)) a = f at hf ⊢
    rw [growF_eq]
    have ih := plF_ge hg hv k f
    have h2 := bes_le (g := Fr v (k + 1)) (a := a) (o := f) hf.1 hf.2
    rw [Fr_succ] at h2
    have h3 := hv k f hf.1
    have h4 := (less_bd hg).1
    omega
theorem grow_ge {g v : Nat → Int} (hg : ∀ j, j < 9 → 0 ≤ g j ∧ g j ≤ 1000000) (hv : ∀ j, j < 9 → 0 ≤ v j ∧ v j ≤ 1000000) : lessOf g ≤ lessOf (growF g v) := by
  have h1 : lessOf (growF g v) = growF g v (flb (growF g v) 0) := rfl
  rw [h1, growF_eq]
  have h2 := less_ge g (flb (growF g v) 0)
  have h3 := hv _ (flb_lt (growF g v) 0)
  have h4 := (less_bd hg).2
  omega
theorem cOF_ge {nn : Nat → Nat} {cw jw : Nat → Nat → Nat → Int} {od : Nat → Nat} (hcw : ∀ t i j, j < 9 → 0 ≤ cw t i j ∧ cw t i j ≤ 1000000) (hjw : ∀ a b j, j < 9 → 0 ≤ jw a b j ∧ jw a b j ≤ 1000000) : ∀ p, min 1000000 (sumU (fun j => lessOf (Rr (cw (od j)) (nn (od j) - 1) 0)) p) ≤ lessOf (cOF nn cw jw od p)
  | 0 => by
    show min 1000000 (0 : Int) ≤ lessOf startF
    rw [less_start]
    decide
  | p + 1 => by
    have ih := cOF_ge hcw hjw (nn := nn) (od := od) p
    have hb := cOF_bd (nn := nn) (od := od) hcw hjw p
    have hg : ∀ j, j < 9 → 0 ≤ (if p = 0 then cOF nn cw jw od p else growF (cOF nn cw jw od p) (jw (od (p - 1)) (od p))) j ∧ (if p = 0 then cOF nn cw jw od p else growF (cOF nn cw jw od p) (jw (od (p - 1)) (od p))) j ≤ 1000000 := fun j hj => by
      split
      · exact hb j hj
      · exact growF_bd hb (hjw _ _) j hj
    have h1 : lessOf (cOF nn cw jw od p) ≤ lessOf (if p = 0 then cOF nn cw jw od p else growF (cOF nn cw jw od p) (jw (od (p - 1)) (od p))) := by
      split
      · exact Int.le_refl _
      · exact grow_ge hb (hjw _ _)
    have h2 := plF_ge hg (hcw (od p)) (nn (od p) - 1) 0
    have h3 := fwd_bwd (w := cw (od p)) (k := nn (od p) - 1) (fun i _ o ho => hcw (od p) i o ho)
    have h4 : lessOf (Fr (cw (od p)) (nn (od p) - 1)) = bes (Fr (cw (od p)) (nn (od p) - 1)) 0 := rfl
    have h5 : bes (Rr (cw (od p)) (nn (od p) - 1) 0) 0 = lessOf (Rr (cw (od p)) (nn (od p) - 1) 0) := rfl
    have h6 : sumU (fun j => lessOf (Rr (cw (od j)) (nn (od j) - 1) 0)) (p + 1) = sumU (fun j => lessOf (Rr (cw (od j)) (nn (od j) - 1) 0)) p + lessOf (Rr (cw (od p)) (nn (od p) - 1) 0) := rfl
    have h7 : lessOf (cOF nn cw jw od (p + 1)) = bes (plF (cw (od p)) (if p = 0 then cOF nn cw jw od p else growF (cOF nn cw jw od p) (jw (od (p - 1)) (od p))) (nn (od p) - 1)) 0 := rfl
    have h8 := (less_bd (Rr_bd (w := cw (od p)) (fun i j hj => hcw (od p) i j hj) (nn (od p) - 1) 0)).1
    rw [h6, h7]
    rw [← h4, h3, h5] at h2
    omega
theorem plF_Fr (v : Nat → Nat → Int) : ∀ k, plF v startF k = Fr v k
  | 0 => rfl
  | k + 1 => by
    show growF (plF v startF k) (v k) = growF (Fr v k) (v k)
    rw [plF_Fr v k]
/-! orders -/
/-- as the law counts them -/
def oR (nn : Nat → Nat) : Nat → Nat
  | 0 => 1
  | t + 1 => oR nn t * (if 0 < nn t then tC nn (t + 1) else 1)
theorem oR_congr {nn nn' : Nat → Nat} : ∀ t, (∀ u, u < t → (nn u = 0 ↔ nn' u = 0)) → oR nn t = oR nn' t
  | 0, _ => rfl
  | t + 1, h => by
    have h1 := oR_congr t (fun u hu => h u (by omega))
    have h2 := h t (by omega)
    have h3 := tC_congr (t + 1) h
    unfold oR
    rw [h1, h3]
    by_cases q : 0 < nn t
    · rw [if_pos q, if_pos (by omega)]
    · rw [if_neg q, if_neg (by omega)]
def good2 (nn : Nat → Nat) (l : List Nat) : Bool := decide (l.length ≤ oR nn 4) && decide (oR nn 4 ≤ 24) && decide (oR nn 1 ≤ 24) && decide (oR nn 2 ≤ 24) && decide (oR nn 3 ≤ 24) && (decide (tC nn 4 ≠ 1) || decide (oR nn 4 = 1)) && l.all (fun n => (List.range (tC nn 4)).all (fun i => (List.range i).all (fun j => dgs n j != dgs n i)))
theorem good_all2 : ∀ m, m < 16 → good2 (mkm m) (vl (mkm m)) = true := by decide +kernel
theorem vl_good2 (nn : Nat → Nat) : (vl nn).length ≤ oR nn 4 ∧ (∀ t, t ≤ 4 → oR nn t ≤ 24) ∧ (tC nn 4 = 1 → oR nn 4 = 1) ∧ ∀ n ∈ vl nn, ∀ i, i < tC nn 4 → ∀ j, j < i → dgs n j ≠ dgs n i := by
  have hm := fun u hu => (msk_at nn u hu).symm
  have h := good_all2 (msk nn) (msk_lt nn)
  have e1 := vl_congr hm
  have e2 := tC_congr 4 hm
  have e3 := fun t (ht : t ≤ 4) => oR_congr (nn := nn) (nn' := mkm (msk nn)) t (fun u hu => hm u (by omega))
  rw [← e1] at h
  unfold good2 at h
  rw [← e2, ← e3 4 (by omega), ← e3 1 (by omega), ← e3 2 (by omega), ← e3 3 (by omega)] at h
  simp only [Bool.and_eq_true, decide_eq_true_eq, List.all_eq_true, List.mem_range, Bool.or_eq_true, bne_iff_ne, ne_eq] at h
  obtain ⟨⟨⟨⟨⟨⟨h1, h2⟩, h3⟩, h4⟩, h5⟩, h6⟩, h7⟩ := h
  refine ⟨h1, fun t ht => ?_, fun h => h6.resolve_left (fun q => q h), fun n hn i hi j hj => h7 n hn i hi j hj⟩
  rcases (by omega : t = 0 ∨ t = 1 ∨ t = 2 ∨ t = 3 ∨ t = 4) with q | q | q | q | q <;> subst q
  · show 1 ≤ 24
    omega
  · exact h3
  · exact h4
  · exact h5
  · exact h2
theorem upG_ex {L : Nat → Int} (big : List Nat) : ∀ (l : List Nat) (s : Int × Int × (Nat → Int)), (∀ n ∈ l, n ∈ big) → (s.2.1 < 1000000 → ∃ n ∈ big, s.2.1 = L n ∧ s.2.2 = fun j => (dgs n j : Int)) → ((l.foldl (upG L) s).2.1 < 1000000 → ∃ n ∈ big, (l.foldl (upG L) s).2.1 = L n ∧ (l.foldl (upG L) s).2.2 = fun j => (dgs n j : Int))
  | [], _, _, hs => hs
  | a :: l, s, hl, hs => by
    refine upG_ex big l (upG L s a) (fun n hn => hl n (List.mem_cons_of_mem _ hn)) ?_
    have e2 : (upG L s a).2.1 = if L a < 1000000 ∧ L a < s.2.1 then L a else s.2.1 := rfl
    have e3 : (upG L s a).2.2 = if L a < 1000000 ∧ L a < s.2.1 then (fun j => (dgs a j : Int)) else s.2.2 := rfl
    rw [e2, e3]
    by_cases q : L a < 1000000 ∧ L a < s.2.1
    · rw [if_pos q, if_pos q]
      exact fun _ => ⟨a, hl a (List.mem_cons_self ..), rfl, rfl⟩
    · rw [if_neg q, if_neg q]
      exact hs
section USX
variable {lim : Int} {no : Nat} {gn : Nat → Nat} {gg : Nat → Nat → Nat} {nn : Nat → Nat} {pt ln : Nat → Nat → Nat} {wi : Nat → Nat → Int}
/-- how many sets there are, the least cost, the tunes of the best one -/
abbrev gO (lim : Int) (no : Nat) (gn : Nat → Nat) (gg : Nat → Nat → Nat) (nn : Nat → Nat) (pt ln : Nat → Nat → Nat) (wi : Nat → Nat → Int) : Int × Int × (Nat → Int) := goF lim no gn gg nn pt ln wi (fun _ => 0) 256
abbrev nSf (lim : Int) (no : Nat) (gn : Nat → Nat) (gg : Nat → Nat → Nat) (nn : Nat → Nat) (pt ln : Nat → Nat → Nat) (wi : Nat → Nat → Int) : Int := (gO lim no gn gg nn pt ln wi).1
abbrev lSf (lim : Int) (no : Nat) (gn : Nat → Nat) (gg : Nat → Nat → Nat) (nn : Nat → Nat) (pt ln : Nat → Nat → Nat) (wi : Nat → Nat → Int) : Int := (gO lim no gn gg nn pt ln wi).2.1
abbrev bSf (lim : Int) (no : Nat) (gn : Nat → Nat) (gg : Nat → Nat → Nat) (nn : Nat → Nat) (pt ln : Nat → Nat → Nat) (wi : Nat → Nat → Int) : Nat → Nat := fun j => ((gO lim no gn gg nn pt ln wi).2.2 j).toNat
theorem U_set (hOV : OV no gn gg) (hU : TusV nn pt ln wi) : SetV lim no gn gg nn pt ln wi (nSf lim no gn gg nn pt ln wi) (lSf lim no gn gg nn pt ln wi) (bSf lim no gn gg nn pt ln wi) := (S_set hOV hU (fun _ => 0)).1
/-- what the sets say of the tunes -/
theorem U_sets (hOV : OV no gn gg) (hU : TusV nn pt ln wi) : (0 ≤ nSf lim no gn gg nn pt ln wi ∧ nSf lim no gn gg nn pt ln wi ≤ (oR nn 4 : Int)) ∧ (nSf lim no gn gg nn pt ln wi = 0 → 0 < tC nn 4) ∧ (¬ nSf lim no gn gg nn pt ln wi = 0 → (0 ≤ lSf lim no gn gg nn pt ln wi ∧ lSf lim no gn gg nn pt ln wi < 1000000) ∧ (∀ j, j < tC nn 4 → bSf lim no gn gg nn pt ln wi j < 4 ∧ 0 < nn (bSf lim no gn gg nn pt ln wi j) ∧ uLS lim no gn gg nn pt ln wi (bSf lim no gn gg nn pt ln wi j) < 1000000) ∧ (∀ i, i < tC nn 4 → ∀ j, j < i → bSf lim no gn gg nn pt ln wi j ≠ bSf lim no gn gg nn pt ln wi i) ∧ sumU (fun j => uLS lim no gn gg nn pt ln wi (bSf lim no gn gg nn pt ln wi j)) (tC nn 4) ≤ lSf lim no gn gg nn pt ln wi ∧ (tC nn 4 = 1 → lSf lim no gn gg nn pt ln wi = uLS lim no gn gg nn pt ln wi (bSf lim no gn gg nn pt ln wi 0))) := by
  obtain ⟨g1, g2, g3, g4⟩ := vl_good2 nn
  obtain ⟨a, l, hv, hch, hlen, hag, hne⟩ := vl_good nn
  obtain ⟨hS1, hS2, -⟩ := S_set (lim := lim) (pt := pt) (ln := ln) (wi := wi) hOV hU (fun _ => 0)
  have hup := goF_up (lim := lim) (pt := pt) (ln := ln) (wi := wi) hOV hU (bo := fun _ => 0)
  have hex := upG_ex (L := fun n => CoS lim no gn gg nn pt ln wi (dgs n)) (vl nn) (vl nn) (0, 1000000, fun _ => 0) (fun n hn => hn) (fun h => absurd (show (1000000 : Int) < 1000000 from h) (by decide))
  have hinv := upG_inv (L := fun n => CoS lim no gn gg nn pt ln wi (dgs n)) (vl nn) (0, 1000000, fun _ => 0) (Int.le_refl 0) (Int.le_refl _) ⟨fun h => absurd (show (0 : Int) < 0 from h) (by decide), fun h => absurd (show (1000000 : Int) < 1000000 from h) (by decide)⟩
  rw [← hup] at hex hinv
  have h24 : nSf lim no gn gg nn pt ln wi ≤ 0 + ((vl nn).length : Int) := hinv.2.1
  have h00 : 0 ≤ nSf lim no gn gg nn pt ln wi := hinv.1
  have hcw : ∀ t i j, j < 9 → 0 ≤ cwT lim no gn gg nn pt ln wi t i j ∧ cwT lim no gn gg nn pt ln wi t i j ≤ 1000000 := fun t i j _ => cwT_bd hOV hU t i j
  have hjw : ∀ a b j, j < 9 → 0 ≤ jwT lim no gn gg nn pt ln a b j ∧ jwT lim no gn gg nn pt ln a b j ≤ 1000000 := fun a b j _ => jwT_bd hOV hU a b j
  refine ⟨⟨h00, by omega⟩, fun h0 => ?_, fun hn0 => ?_⟩
  · apply Classical.byContradiction
    intro hc
    have hz : tC nn 4 = 0 := by omega
    have hL : CoS lim no gn gg nn pt ln wi (dgs a) = 0 := by
      show lessOf (cOF nn (cwT lim no gn gg nn pt ln wi) (jwT lim no gn gg nn pt ln) (dgs a) (tC nn 4)) = 0
      rw [hz]
      exact less_start
    rw [hv] at hup
    have hst : (upG (fun n => CoS lim no gn gg nn pt ln wi (dgs n)) (0, 1000000, fun _ => 0) a).1 = 1 ∧ (upG (fun n => CoS lim no gn gg nn pt ln wi (dgs n)) (0, 1000000, fun _ => 0) a).2.1 = 0 := by
      constructor
      · show (if CoS lim no gn gg nn pt ln wi (dgs a) < 1000000 then (0 : Int) + 1 else 0) = 1
        rw [hL]
        decide
      · show (if CoS lim no gn gg nn pt ln wi (dgs a) < 1000000 ∧ CoS lim no gn gg nn pt ln wi (dgs a) < 1000000 then CoS lim no gn gg nn pt ln wi (dgs a) else 1000000) = 0
        rw [hL]
        decide
    have h1 := upG_inv (L := fun n => CoS lim no gn gg nn pt ln wi (dgs n)) l (upG (fun n => CoS lim no gn gg nn pt ln wi (dgs n)) (0, 1000000, fun _ => 0) a) (by rw [hst.1]; decide) (by rw [hst.2]; decide) (by rw [hst.1, hst.2]; decide)
    have h2 : nSf lim no gn gg nn pt ln wi = (l.foldl (upG (fun n => CoS lim no gn gg nn pt ln wi (dgs n))) (upG (fun n => CoS lim no gn gg nn pt ln wi (dgs n)) (0, 1000000, fun _ => 0) a)).1 := congrArg Prod.fst hup
    have h3 := h1.1
    rw [hst.1, ← h2] at h3
    omega
  · have hpos : 0 < nSf lim no gn gg nn pt ln wi := by omega
    have hlt : lSf lim no gn gg nn pt ln wi < 1000000 := hS2.mp hpos
    obtain ⟨n, hn, e1, e2⟩ := hex hlt
    have e1 : lSf lim no gn gg nn pt ln wi = CoS lim no gn gg nn pt ln wi (dgs n) := e1
    have e2 : ∀ j, bSf lim no gn gg nn pt ln wi j = dgs n j := fun j => by
      show ((gO lim no gn gg nn pt ln wi).2.2 j).toNat = dgs n j
      rw [show (gO lim no gn gg nn pt ln wi).2.2 = fun j => (dgs n j : Int) from e2]
      exact Int.toNat_natCast _
    have hbS : bSf lim no gn gg nn pt ln wi = dgs n := funext e2
    have hge := cOF_ge (nn := nn) (od := dgs n) hcw hjw (tC nn 4)
    have hC : lessOf (cOF nn (cwT lim no gn gg nn pt ln wi) (jwT lim no gn gg nn pt ln) (dgs n) (tC nn 4)) = lSf lim no gn gg nn pt ln wi := e1.symm
    rw [hC] at hge
    have hl0 : 0 ≤ lSf lim no gn gg nn pt ln wi := by
      rw [← hC]
      exact (less_bd (cOF_bd hcw hjw (tC nn 4))).1
    have hnn0 : ∀ j, (0 : Int) ≤ lessOf (Rr (cwT lim no gn gg nn pt ln wi (dgs n j)) (nn (dgs n j) - 1) 0) := fun j => (less_bd (Rr_bd (w := cwT lim no gn gg nn pt ln wi (dgs n j)) (fun i o ho => hcw (dgs n j) i o ho) (nn (dgs n j) - 1) 0)).1
    have hsum : sumU (fun j => lessOf (Rr (cwT lim no gn gg nn pt ln wi (dgs n j)) (nn (dgs n j) - 1) 0)) (tC nn 4) ≤ lSf lim no gn gg nn pt ln wi := by omega
    have hmem : n ∈ a :: l := by rw [← hv]; exact hn
    rw [hbS]
    refine ⟨⟨hl0, hlt⟩, fun j hj => ⟨dgs_lt n j, (hne n hmem).1 j hj, ?_⟩, g4 n hn, hsum, fun h1 => ?_⟩
    · have := sumU_one (f := fun j => lessOf (Rr (cwT lim no gn gg nn pt ln wi (dgs n j)) (nn (dgs n j) - 1) 0)) hnn0 (tC nn 4) hj
      show lessOf (Rr (cwT lim no gn gg nn pt ln wi (dgs n j)) (nn (dgs n j) - 1) 0) < 1000000
      omega
    · rw [← hC, h1]
      show lessOf (plF (cwT lim no gn gg nn pt ln wi (dgs n 0)) (if 0 = 0 then startF else _) (nn (dgs n 0) - 1)) = _
      rw [if_pos rfl, plF_Fr]
      exact fwd_bwd (w := cwT lim no gn gg nn pt ln wi (dgs n 0)) (k := nn (dgs n 0) - 1) (fun i _ o ho => hcw (dgs n 0) i o ho)
end USX
/-! the tunes met, as bits -/
def mtF (bS : Nat → Nat) : Nat → Nat
  | 0 => 0
  | p + 1 => mtF bS p ||| 1 <<< bS p
theorem mt_bi : ∀ a : Nat, a < 16 → ∀ u : Nat, u < 4 → ∀ t : Nat, t < 4 → bi (a ||| 1 <<< u) t = if t = u then 1 else bi a t := by decide +kernel
theorem mt_0 : ∀ t : Nat, bi 0 t = 0 := fun t => by
  unfold bi
  rw [Nat.zero_div]
theorem mt_ok {bS : Nat → Nat} : ∀ p, (∀ j, j < p → bS j < 4) → mtF bS p < 16 ∧ ∀ t, t < 4 → (∀ j, j < p → bS j ≠ t) → bi (mtF bS p) t = 0
  | 0, _ => ⟨by show (0 : Nat) < 16; decide, fun t _ _ => mt_0 t⟩
  | p + 1, h => by
    have ih := mt_ok p (fun j hj => h j (by omega))
    refine ⟨lo_lt _ ih.1 _ (h p (by omega)), fun t ht hd => ?_⟩
    show bi (mtF bS p ||| 1 <<< bS p) t = 0
    rw [mt_bi _ ih.1 _ (h p (by omega)) t ht, if_neg (fun e => hd p (by omega) e.symm)]
    exact ih.2 t ht (fun j hj => hd j (by omega))
