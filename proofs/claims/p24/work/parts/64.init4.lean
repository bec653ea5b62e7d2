section MV
variable {G : Nat → ClassId} {ad ad1 : Nat → Nat} {c c1 : Nat → va_E}
theorem Fing.mv {lim : Int} (h : Fing G ad c lim) (ha : ∀ r, r < 12 → ad1 r = ad r) (hf : ∀ q, 1 ≤ q → q < 12 → c1 q = c q) : Fing G ad1 c1 lim := by
  obtain ⟨h1, ⟨f, h2, h3⟩, h4⟩ := h
  exact ⟨by rw [hf 1 (by omega) (by omega), h1, ha 2 (by omega)], ⟨f, (hf 2 (by omega) (by omega)).trans h2, fun i hi => by rw [h3 i hi, ha _ (by omega)]⟩, fun i hi => isA.fr (hf (3 + i) (by omega) (by omega)) (h4 i hi)⟩
theorem Book.mv {dn : Nat} {gn : Nat → Nat} {gg : Nat → Nat → Nat} {dg : Nat → Nat} (h : Book G ad c 0 dn gn gg dg) (ha : ∀ r, r < 15 → ad1 r = ad r) (hf : ∀ q, 12 ≤ q → q < 15 → c1 q = c q) : Book G ad1 c1 0 dn gn gg dg := by
  obtain ⟨h1, ⟨f, h2, h3⟩, h4, -⟩ := h
  exact ⟨by rw [hf 12 (by omega) (by omega), h1, ha 13 (by omega), ha 14 (by omega)], ⟨f, (hf 13 (by omega) (by omega)).trans h2, fun k hk => by rw [h3 k hk, if_neg (Nat.not_lt_zero k), if_neg (Nat.not_lt_zero k)]⟩, isA.fr (hf 14 (by omega) (by omega)) h4, fun k hk => absurd hk (Nat.not_lt_zero k)⟩
theorem TuneO.mv {T n : Nat} {pt ln : Nat → Nat} {wi : Nat → Int} (h : TuneO G ad c T n pt ln wi) (ha : ∀ r, r < T + 14 → ad1 r = ad r) (hf : ∀ q, T ≤ q → q < T + 5 → c1 q = c q) : TuneO G ad1 c1 T n pt ln wi := by
  obtain ⟨h1, ⟨g2, h2, h2'⟩, ⟨g3, h3, h3'⟩, ⟨g4, h4, h4'⟩, f, h5, h6⟩ := h
  exact ⟨by rw [hf T (by omega) (by omega), h1, ha (T + 1) (by omega), ha (T + 2) (by omega), ha (T + 3) (by omega), ha (T + 4) (by omega)], ⟨g2, isA.fr (hf _ (by omega) (by omega)) h2, h2'⟩, ⟨g3, isA.fr (hf _ (by omega) (by omega)) h3, h3'⟩, ⟨g4, isA.fr (hf _ (by omega) (by omega)) h4, h4'⟩, f, (hf _ (by omega) (by omega)).trans h5, fun i hi => by rw [h6 i hi, ha _ (by omega)]⟩
theorem TC.mv (h : TC G ad c) (ha : ∀ r, r < 98 → ad1 r = ad r) (hf : ∀ q, 72 ≤ q → q < 98 → c1 q = c q) : TC G ad1 c1 := by
  obtain ⟨h1, ⟨f, h2, h3⟩, h4, h5, ⟨g6, h6⟩, ⟨g7, h7⟩, g8, h8⟩ := h
  refine ⟨by rw [hf 72 (by omega) (by omega), h1, ha 73 (by omega), ha 94 (by omega), ha 96 (by omega), ha 97 (by omega)], ⟨f, (hf _ (by omega) (by omega)).trans h2, fun i hi => by rw [h3 i hi, ha _ (by omega)]⟩, fun i hi => ⟨by rw [hf _ (by omega) (by omega), (h4 i hi).1, ha _ (by omega)], ?_⟩, by rw [hf 94 (by omega) (by omega), h5, ha 95 (by omega)], ⟨g6, isA.fr (hf _ (by omega) (by omega)) h6⟩, ⟨g7, isA.fr (hf _ (by omega) (by omega)) h7⟩, g8, isA.fr (hf _ (by omega) (by omega)) h8⟩
  obtain ⟨g, hg⟩ := (h4 i hi).2
  exact ⟨g, isA.fr (hf _ (by omega) (by omega)) hg⟩
theorem SS.mv {mz : Nat} {lc : Int} {od bt : Nat → Nat} (h : SS G ad c mz lc od bt) (ha : ∀ r, r < 120 → ad1 r = ad r) (hf : ∀ q, 98 ≤ q → q < 120 → c1 q = c q) : SS G ad1 c1 mz lc od bt := by
  obtain ⟨h1, ⟨f, h2, h3⟩, h4, ⟨g, h5⟩, h6, h7⟩ := h
  exact ⟨by rw [hf 98 (by omega) (by omega), h1, ha 99 (by omega), ha 116 (by omega), ha 118 (by omega), ha 119 (by omega)], ⟨f, (hf _ (by omega) (by omega)).trans h2, fun i hi => by rw [h3 i hi, ha _ (by omega)]⟩, by rw [hf 116 (by omega) (by omega), h4, ha 117 (by omega)], ⟨g, isA.fr (hf _ (by omega) (by omega)) h5⟩, isA.fr (hf _ (by omega) (by omega)) h6, isA.fr (hf _ (by omega) (by omega)) h7⟩
end MV

theorem hinn_X7_init_0 : ∀ w ∈ u_ws RX0 TX0 1, w ∈ wsX7_init := by decide +kernel
theorem hin_X7_init_7 : ∀ w ∈ u_ws RX7 TX7 5, w ∈ wsX7_init := by decide +kernel
theorem fl_X7_init_12 : Cond.fieldLink RX7 12 "PipersDesk" "fingers" "LPipersDesk$Fingers;" ∈ wsX7_init := by decide +kernel
theorem hinn_X7_init_3 : ∀ w ∈ u_ws RX3 TX3 4, w ∈ wsX7_init := by decide +kernel
theorem fl_X7_init_19 : Cond.fieldLink RX7 19 "PipersDesk" "book" "LPipersDesk$OrnamentBook;" ∈ wsX7_init := by decide +kernel
theorem fl_X7_init_25 : Cond.fieldLink RX7 25 "PipersDesk" "tunes" "[LPipersDesk$Tune;" ∈ wsX7_init := by decide +kernel
theorem hinn_X7_init_6 : ∀ w ∈ u_ws RX6 TX6 4, w ∈ wsX7_init := by decide +kernel
theorem fl_X7_init_33 : Cond.fieldLink RX7 33 "PipersDesk" "tuneChoices" "LPipersDesk$TuneChoices;" ∈ wsX7_init := by decide +kernel
theorem hinn_X7_init_4 : ∀ w ∈ u_ws RX4 TX4 6, w ∈ wsX7_init := by decide +kernel
theorem fl_X7_init_40 : Cond.fieldLink RX7 40 "PipersDesk" "setSearch" "LPipersDesk$SetSearch;" ∈ wsX7_init := by decide +kernel
theorem hinn_X7_init_5 : ∀ w ∈ u_ws RX5 TX5 5, w ∈ wsX7_init := by decide +kernel
abbrev rm_X7_init : Room := { frames := 4, cells := 119, slots := 934, locals := 120 }
set_option maxHeartbeats 1000000 in
set_option maxRecDepth 100000 in
/-- PipersDesk() -/
theorem c_X7_init (l : Launch) (D : va_G) (G : Nat → ClassId) (ad : Nat → Nat) (N : Nat) (c : Nat → va_E) {gn : Nat → Nat} {gg : Nat → Nat → Nat} {pt ln : Nat → Nat → Nat} {wi : Nat → Nat → Int} (hN : N = 1) (ho : c 0 = .inr (7, [.null, .null, .null, .null, .null])) : MC l yX7_init wsX7_init rm_X7_init [.ref (ad 0)] D G ad N c (qV D G (fun u : (Nat → Nat) × (Nat → va_E) => (u.1, 120, u.2)) (fun u => u.1 0 = ad 0 ∧ DK G u.1 u.2 3 0 0 gn gg (fun _ => 0) (fun _ => 0) pt ln wi)) 119 934 := by
  refine MCv.of (cc := cX7_init) (maxL := 2) (by decide) rfl (Nat.le_of_ble_eq_true rfl) ?_
  intro p e s m args below meth kc A Q hx hb hts hown hml hin2 fin H locs w ls hl
  have hown : s.vm.findClass RX7 = some m.cls := hown
  have hl : lv_has ls 2 [(0, .ref (ad 0))] := hl
  subst hN
  refine lv_aload_n hx hb dX7_init_0 rfl (lv_at hl 0 rfl) ?_
  refine W.objInit hx hb hown (hts (.methodLink RX7 3 objectInit) (by decide +kernel)) (hts (.instanceMethod objectInit) (by decide +kernel)) (hts (.code objectInit ⟨#[0xb1]⟩ 1 none) (by decide +kernel)) rfl (by rw [hml]; exact hl.1) rfl dX7_init_1 (Nat.le_of_ble_eq_true rfl) (Nat.le_of_ble_eq_true rfl) ?_
  refine W.eq (g2 := F0 m 4 ls []) rfl ?_
  refine lv_aload_n hx hb dX7_init_4 rfl (lv_at hl 0 rfl) ?_
  refine pw_new (ci := 0) (C := RX0) (T := TX0) (Nf := 1) (fs := [.null]) hx hb w hts hinn_X7_init_0 tyX0 tyX0_ok hown (hts (.classLink RX7 9 RX0) (by decide +kernel)) (hts (.instantiable RX0 1) (by decide +kernel)) (hts (.initialized RX0) (by decide +kernel)) rfl (fun j hj => by
    have h : j = 0 := by omega
    subst h
    rfl) (Nat.le_of_ble_eq_true rfl) (Nat.le_of_ble_eq_true rfl) dX7_init_5 (fun H ad1 c1 ha1 hc1 fr1 w => ?_)
  rw [← ha1 0 (by omega)]
  rw [← ha1 0 (by omega)] at hl
  have k2 : c1 0 = .inr (7, [.null, .null, .null, .null, .null]) := by
    rw [fr1 0 (by omega)]
    exact ho
  refine lv_dup hx hb dX7_init_8 rfl ?_
  refine pw_cv w (pw_runI (b := ad1 1) (As := []) (rest := [.ref (ad1 1), .ref (ad1 0)]) w ⟨hx, hb, hml, hown, hts⟩ (c_X0_init l D G ad1 _ c1 rfl hc1) (cwI 0 hts gX7_init_X0_init rfl rfl rfl (hts (.initialized RX0) (by decide +kernel)) (hts (.methodLink RX7 11 yX0_init) (by decide +kernel)) (hts (.instanceMethod yX0_init) (by decide +kernel)) rfl (by decide +kernel) ⟨Nat.le_of_ble_eq_true rfl, Nat.le_of_ble_eq_true rfl⟩) rfl hl.1 rfl (lv_room (Nat.le_of_ble_eq_true rfl)) dX7_init_9 ⟨(Nat.le_of_ble_eq_true rfl), (Nat.le_of_ble_eq_true rfl)⟩) (fun u3 H locs hp3 w => ?_)
  obtain ⟨ad3, c3⟩ := u3
  obtain ⟨ha3, hF, fr3⟩ := hp3
  have w : PW D G A s ad3 (12) c3 H locs := w
  have ha3 : ∀ r, r < 2 → ad3 r = ad1 r := ha3 -- ha3 hc
  have fr3 : ∀ q, (q < 2 ∧ q ≠ 1) → c3 q = c1 q := fun q hq => fr3 q hq.1 hq.2 -- fr3 w =>
  rw [← ha3 1 (by omega)]
  rw [← ha3 0 (by omega)]
  rw [← ha3 0 (by omega)] at hl
  have k4 : c3 0 = .inr (7, [.null, .null, .null, .null, .null]) := by
    rw [fr3 0 (by omega)]
    exact k2
  refine pw_putF' (r := 0) (ci := 7) (C := RX7) (T := TX7) (Nf := 5) hx hb w hts hin_X7_init_7 tyX7 tyX7_ok nmX7 hown (by omega) k4 rfl 0 (by decide) (hts _ fl_X7_init_12) (fun _ h9 => h9) rfl hin2 rfl (ty := tyX7 0) (by decide +kernel) rfl rfl (Nat.le_of_ble_eq_true rfl) dX7_init_12 (fun H locs c5 hc5 fr5 w => ?_)
  refine lv_aload_n hx hb dX7_init_15 rfl (lv_at hl 0 rfl) ?_
  refine pw_new (ci := 3) (C := RX3) (T := TX3) (Nf := 4) (fs := [.null, .null, .int (zI 0), .int (zI 0)]) hx hb w hts hinn_X7_init_3 tyX3 tyX3_ok hown (hts (.classLink RX7 16 RX3) (by decide +kernel)) (hts (.instantiable RX3 4) (by decide +kernel)) (hts (.initialized RX3) (by decide +kernel)) rfl (fun j hj => by
    rcases (by omega : j = 0 ∨ j = 1 ∨ j = 2 ∨ j = 3) with h | h | h | h <;> subst h <;> rfl) (Nat.le_of_ble_eq_true rfl) (Nat.le_of_ble_eq_true rfl) dX7_init_16 (fun H ad6 c6 ha6 hc6 fr6 w => ?_)
  rw [← ha6 0 (by omega)]
  rw [← ha6 0 (by omega)] at hl
  have k7 : c6 0 = .inr (7, [.ref (ad6 1), .null, .null, .null, .null]) := by
    rw [fr6 0 (by omega), ha6 1 (by omega)]
    exact hc5
  refine lv_dup hx hb dX7_init_19 rfl ?_
  refine pw_cv w (pw_runI (b := ad6 12) (As := []) (rest := [.ref (ad6 12), .ref (ad6 0)]) w ⟨hx, hb, hml, hown, hts⟩ (c_X3_init l D G ad6 _ c6 (gn := gn) (gg := gg) rfl hc6) (cwI 0 hts gX7_init_X3_init rfl rfl rfl (hts (.initialized RX3) (by decide +kernel)) (hts (.methodLink RX7 18 yX3_init) (by decide +kernel)) (hts (.instanceMethod yX3_init) (by decide +kernel)) rfl (by decide +kernel) ⟨Nat.le_of_ble_eq_true rfl, Nat.le_of_ble_eq_true rfl⟩) rfl hl.1 rfl (lv_room (Nat.le_of_ble_eq_true rfl)) dX7_init_20 ⟨(Nat.le_of_ble_eq_true rfl), (Nat.le_of_ble_eq_true rfl)⟩) (fun u8 H locs hp8 w => ?_)
  obtain ⟨ad8, c8⟩ := u8
  obtain ⟨ha8, hB, fr8⟩ := hp8
  have w : PW D G A s ad8 (15) c8 H locs := w
  have ha8 : ∀ r, r < 13 → ad8 r = ad6 r := ha8 -- ha8 hc
  have fr8 : ∀ q, (q < 13 ∧ q ≠ 12) → c8 q = c6 q := fun q hq => fr8 q hq.1 hq.2 -- fr8 w =>
  rw [← ha8 12 (by omega)]
  rw [← ha8 0 (by omega)]
  rw [← ha8 0 (by omega)] at hl
  have k9 : c8 0 = .inr (7, [.ref (ad8 1), .null, .null, .null, .null]) := by
    rw [fr8 0 (by omega), ha8 1 (by omega)]
    exact k7
  refine pw_putF' (r := 0) (ci := 7) (C := RX7) (T := TX7) (Nf := 5) hx hb w hts hin_X7_init_7 tyX7 tyX7_ok nmX7 hown (by omega) k9 rfl 1 (by decide) (hts _ fl_X7_init_19) (fun _ h9 => h9) rfl hin2 rfl (ty := tyX7 1) (by decide +kernel) rfl rfl (Nat.le_of_ble_eq_true rfl) dX7_init_23 (fun H locs c10 hc10 fr10 w => ?_)
  refine lv_aload_n hx hb dX7_init_26 rfl (lv_at hl 0 rfl) ?_
  refine lv_iconst (v := zI (4)) hx hb dX7_init_27 rfl ?_
  refine pw_newq 5 hx hb w hown (hts (.classLink RX7 23 RX5) (by decide +kernel)) w.2.2.2.2.2.2.2.2.2.2.2.2.2.1 rfl (z := 4) (n := 4) rfl (by decide) (Nat.le_of_ble_eq_true rfl) (Nat.le_of_ble_eq_true rfl) dX7_init_28 (fun H ad11 c11 ha11 hc11 fr11 w => ?_)
  rw [← ha11 0 (by omega)]
  rw [← ha11 0 (by omega)] at hl
  have k12 : c11 0 = .inr (7, [.ref (ad11 1), .ref (ad11 12), .null, .null, .null]) := by
    rw [fr11 0 (by omega), ha11 1 (by omega), ha11 12 (by omega)]
    exact hc10
  refine pw_putF' (r := 0) (ci := 7) (C := RX7) (T := TX7) (Nf := 5) hx hb w hts hin_X7_init_7 tyX7 tyX7_ok nmX7 hown (by omega) k12 rfl 2 (by decide) (hts _ fl_X7_init_25) (fun _ h9 => h9) rfl hin2 rfl (ty := tyX7 2) (by decide +kernel) rfl rfl (Nat.le_of_ble_eq_true rfl) dX7_init_31 (fun H locs c13 hc13 fr13 w => ?_)
  refine lv_iconst (v := zI (0)) hx hb dX7_init_34 rfl ?_
  refine lv_istore_n (lv' := [(1, .int (zI 0)), (0, .ref (ad11 0))]) hx hb dX7_init_35 rfl hl (by decide) rfl (fun ls hl => ?_)
  have hF := hF.mv (ad1 := ad11) (c1 := c13) (fun r hr => ((ha11 r (by omega)).trans ((ha8 r (by omega)).trans ((ha6 r (by omega)).trans rfl)))) (fun q h1 h2 => ((fr13 q (by omega)).trans ((fr11 q (by omega)).trans ((fr10 q (by omega)).trans ((fr8 q (by omega)).trans ((fr6 q (by omega)).trans ((fr5 q (by omega)).trans rfl)))))))
  have hB := hB.mv (ad1 := ad11) (c1 := c13) (fun r hr => ((ha11 r (by omega)).trans rfl)) (fun q h1 h2 => ((fr13 q (by omega)).trans ((fr11 q (by omega)).trans ((fr10 q (by omega)).trans rfl))))
  have hAD : ad11 0 = ad 0 := ((ha11 0 (by omega)).trans ((ha8 0 (by omega)).trans ((ha6 0 (by omega)).trans ((ha3 0 (by omega)).trans ((ha1 0 (by omega)).trans rfl)))))
  have lp : ∀ (f i : Nat) (adL : Nat → Nat) (cL : Nat → va_E) (H : Heap) (locs : List Loc) (ls : Array Slot), i ≤ 4 → (∀ r, r < 16 → adL r = ad11 r) → cL 0 = .inr (7, [.ref (adL 1), .ref (adL 12), .ref (adL 15), .null, .null]) → Fing G adL cL 3 → Book G adL cL 0 0 gn gg (fun _ => 0) → (∃ fo, cL 15 = rfs 5 G 4 fo ∧ ∀ k, k < i → fo k = some (adL (16 + 14 * k))) → (∀ k, k < i → TuneO G adL cL (16 + 14 * k) 0 (pt k) (ln k) (wi k) ∧ TuneR G cL (16 + 14 * k)) → 4 < i + f → PW D G A s adL (16 + 14 * i) cL H locs → lv_has ls 2 [(1, .int (zI (i : Int))), (0, .ref (adL 0))] → W p l e rm_X7_init s m args below meth kc H locs (15 + 14 * i) (111 + 124 * i) Q (F0 m 36 ls []) := by
    intro f
    induction f with
    | zero => intro i adL cL H locs ls h9 hA h0 hF hB h15 hL hfu w hl; omega
    | succ f ih =>
      intro i adL cL H locs ls h9 hA h0 hF hB h15 hL hfu w hl
      obtain ⟨fo, h15, hfo⟩ := h15
      refine lv_iload_n hx hb dX7_init_36 rfl (lv_at hl 0 rfl) ?_
      refine lv_iconst (v := zI (4)) hx hb dX7_init_37 rfl ?_
      refine pz_icmpge (tgt := 60) hx hb dX7_init_38 (by decide) (⟨by omega, by omega⟩) (⟨by omega, by omega⟩) (fun hi9 => ?_) (fun hi9 => ?_)
      · have i9 : i = 4 := by omega
        subst i9
        have w : PW D G A s adL 72 cL H locs := w
        refine lv_aload_n hx hb dX7_init_60 rfl (lv_at hl 1 rfl) ?_
        refine pw_new (ci := 6) (C := RX6) (T := TX6) (Nf := 4) (fs := [.null, .null, .null, .null]) hx hb w hts hinn_X7_init_6 tyX6 tyX6_ok hown (hts (.classLink RX7 30 RX6) (by decide +kernel)) (hts (.instantiable RX6 4) (by decide +kernel)) (hts (.initialized RX6) (by decide +kernel)) rfl (fun j hj => by
          rcases (by omega : j = 0 ∨ j = 1 ∨ j = 2 ∨ j = 3) with h | h | h | h <;> subst h <;> rfl) (Nat.le_of_ble_eq_true rfl) (Nat.le_of_ble_eq_true rfl) dX7_init_61 (fun H ad14 c14 ha14 hc14 fr14 w => ?_)
        rw [← ha14 0 (by omega)]
        rw [← ha14 0 (by omega)] at hl
        have k15 : c14 0 = .inr (7, [.ref (ad14 1), .ref (ad14 12), .ref (ad14 15), .null, .null]) := by
          rw [fr14 0 (by omega), ha14 1 (by omega), ha14 12 (by omega), ha14 15 (by omega)]
          exact h0
        refine lv_dup hx hb dX7_init_64 rfl ?_
        refine pw_cv w (pw_runI (b := ad14 72) (As := []) (rest := [.ref (ad14 72), .ref (ad14 0)]) w ⟨hx, hb, hml, hown, hts⟩ (c_X6_init l D G ad14 _ c14 rfl hc14) (cwI 0 hts gX7_init_X6_init rfl rfl rfl (hts (.initialized RX6) (by decide +kernel)) (hts (.methodLink RX7 32 yX6_init) (by decide +kernel)) (hts (.instanceMethod yX6_init) (by decide +kernel)) rfl (by decide +kernel) ⟨Nat.le_of_ble_eq_true rfl, Nat.le_of_ble_eq_true rfl⟩) rfl hl.1 rfl (lv_room (Nat.le_of_ble_eq_true rfl)) dX7_init_65 ⟨(Nat.le_of_ble_eq_true rfl), (Nat.le_of_ble_eq_true rfl)⟩) (fun u16 H locs hp16 w => ?_)
        obtain ⟨ad16, c16⟩ := u16
        obtain ⟨ha16, hTC, fr16⟩ := hp16
        have w : PW D G A s ad16 (98) c16 H locs := w
        have ha16 : ∀ r, r < 73 → ad16 r = ad14 r := ha16 -- ha16 hc
        have fr16 : ∀ q, (q < 73 ∧ q ≠ 72) → c16 q = c14 q := fun q hq => fr16 q hq.1 hq.2 -- fr16 w =>
        rw [← ha16 72 (by omega)]
        rw [← ha16 0 (by omega)]
        rw [← ha16 0 (by omega)] at hl
        have k17 : c16 0 = .inr (7, [.ref (ad16 1), .ref (ad16 12), .ref (ad16 15), .null, .null]) := by
          rw [fr16 0 (by omega), ha16 1 (by omega), ha16 12 (by omega), ha16 15 (by omega)]
          exact k15
        refine pw_putF' (r := 0) (ci := 7) (C := RX7) (T := TX7) (Nf := 5) hx hb w hts hin_X7_init_7 tyX7 tyX7_ok nmX7 hown (by omega) k17 rfl 3 (by decide) (hts _ fl_X7_init_33) (fun _ h9 => h9) rfl hin2 rfl (ty := tyX7 3) (by decide +kernel) rfl rfl (Nat.le_of_ble_eq_true rfl) dX7_init_68 (fun H locs c18 hc18 fr18 w => ?_)
        refine lv_aload_n hx hb dX7_init_71 rfl (lv_at hl 1 rfl) ?_
        refine pw_new (ci := 4) (C := RX4) (T := TX4) (Nf := 6) (fs := [.null, .null, .null, .null, .int (zI 0), .int (zI 0)]) hx hb w hts hinn_X7_init_4 tyX4 tyX4_ok hown (hts (.classLink RX7 37 RX4) (by decide +kernel)) (hts (.instantiable RX4 6) (by decide +kernel)) (hts (.initialized RX4) (by decide +kernel)) rfl (fun j hj => by
          rcases (by omega : j = 0 ∨ j = 1 ∨ j = 2 ∨ j = 3 ∨ j = 4 ∨ j = 5) with h | h | h | h | h | h <;> subst h <;> rfl) (Nat.le_of_ble_eq_true rfl) (Nat.le_of_ble_eq_true rfl) dX7_init_72 (fun H ad19 c19 ha19 hc19 fr19 w => ?_)
        rw [← ha19 0 (by omega)]
        rw [← ha19 0 (by omega)] at hl
        have k20 : c19 0 = .inr (7, [.ref (ad19 1), .ref (ad19 12), .ref (ad19 15), .ref (ad19 72), .null]) := by
          rw [fr19 0 (by omega), ha19 1 (by omega), ha19 12 (by omega), ha19 15 (by omega), ha19 72 (by omega)]
          exact hc18
        refine lv_dup hx hb dX7_init_75 rfl ?_
        refine pw_cv w (pw_runI (b := ad19 98) (As := []) (rest := [.ref (ad19 98), .ref (ad19 0)]) w ⟨hx, hb, hml, hown, hts⟩ (c_X4_init l D G ad19 _ c19 rfl hc19) (cwI 0 hts gX7_init_X4_init rfl rfl rfl (hts (.initialized RX4) (by decide +kernel)) (hts (.methodLink RX7 39 yX4_init) (by decide +kernel)) (hts (.instanceMethod yX4_init) (by decide +kernel)) rfl (by decide +kernel) ⟨Nat.le_of_ble_eq_true rfl, Nat.le_of_ble_eq_true rfl⟩) rfl hl.1 rfl (lv_room (Nat.le_of_ble_eq_true rfl)) dX7_init_76 ⟨(Nat.le_of_ble_eq_true rfl), (Nat.le_of_ble_eq_true rfl)⟩) (fun u21 H locs hp21 w => ?_)
        obtain ⟨ad21, c21⟩ := u21
        obtain ⟨ha21, hSS, hJ, fr21⟩ := hp21
        have w : PW D G A s ad21 (120) c21 H locs := w
        have ha21 : ∀ r, r < 99 → ad21 r = ad19 r := ha21 -- ha21 hc
        have fr21 : ∀ q, (q < 99 ∧ q ≠ 98) → c21 q = c19 q := fun q hq => fr21 q hq.1 hq.2 -- fr21 w =>
        rw [← ha21 98 (by omega)]
        rw [← ha21 0 (by omega)]
        rw [← ha21 0 (by omega)] at hl
        have k22 : c21 0 = .inr (7, [.ref (ad21 1), .ref (ad21 12), .ref (ad21 15), .ref (ad21 72), .null]) := by
          rw [fr21 0 (by omega), ha21 1 (by omega), ha21 12 (by omega), ha21 15 (by omega), ha21 72 (by omega)]
          exact k20
        refine pw_putF' (r := 0) (ci := 7) (C := RX7) (T := TX7) (Nf := 5) hx hb w hts hin_X7_init_7 tyX7 tyX7_ok nmX7 hown (by omega) k22 rfl 4 (by decide) (hts _ fl_X7_init_40) (fun _ h9 => h9) rfl hin2 rfl (ty := tyX7 4) (by decide +kernel) rfl rfl (Nat.le_of_ble_eq_true rfl) dX7_init_79 (fun H locs c23 hc23 fr23 w => ?_)
        have hA9 : ∀ r, r < 72 → ad21 r = adL r := fun r hr => ((ha21 r (by omega)).trans ((ha19 r (by omega)).trans ((ha16 r (by omega)).trans ((ha14 r (by omega)).trans rfl))))
        have hF9 : ∀ q, 1 ≤ q → q < 72 → c23 q = cL q := fun q h1 hq => ((fr23 q (by omega)).trans ((fr21 q (by omega)).trans ((fr19 q (by omega)).trans ((fr18 q (by omega)).trans ((fr16 q (by omega)).trans ((fr14 q (by omega)).trans rfl))))))
        have hTC := hTC.mv (ad1 := ad21) (c1 := c23) (fun r hr => ((ha21 r (by omega)).trans ((ha19 r (by omega)).trans rfl))) (fun q h1 h2 => ((fr23 q (by omega)).trans ((fr21 q (by omega)).trans ((fr19 q (by omega)).trans ((fr18 q (by omega)).trans rfl)))))
        have hSS := hSS.fr (c1 := c23) (fun q hq => ((fr23 q (by omega)).trans rfl))
        have hJ := Jx.fr (c1 := c23) hJ (fun q h1 h2 => ((fr23 q (by omega)).trans rfl))
        have hU : Tus G ad21 c23 (fun _ => 0) pt ln wi := ⟨⟨fo, (hF9 15 (by omega) (by omega)).trans h15, fun t ht => (hfo t ht).trans (congrArg some (hA9 _ (by omega)).symm)⟩, fun t ht => (hL t ht).1.mv (fun r hr => hA9 r (by omega)) (fun q h1 h2 => hF9 q (by omega) (by omega))⟩
        exact fin (ad21, _, c23) (ad21, c23) _ _ _ _ _ _ rfl ⟨(hA9 0 (by omega)).trans ((hA 0 (by omega)).trans hAD), hc23, hF.mv (fun r hr => hA9 r (by omega)) (fun q h1 h2 => hF9 q h1 (by omega)), hB.mv (fun r hr => hA9 r (by omega)) (fun q h1 h2 => hF9 q (by omega) (by omega)), hU, fun t ht => (hL t ht).2.fr (fun q h1 h2 => hF9 q (by omega) (by omega)), hTC, ⟨_, _, _, _, hSS⟩, hJ⟩ w dX7_init_82 (Nat.le_of_ble_eq_true rfl) (Nat.le_of_ble_eq_true rfl)
      · refine lv_aload_n hx hb dX7_init_41 rfl (lv_at hl 1 rfl) ?_
        refine pw_get (r := 0) (ci := 7) (C := RX7) (T := TX7) (Nf := 5) hx hb w hts hin_X7_init_7 hown (by omega) h0 rfl 2 (by decide) (hts _ fl_X7_init_25) (fun _ h9 => h9) rfl dX7_init_42 ?_
        refine lv_iload_n hx hb dX7_init_45 rfl (lv_at hl 0 rfl) ?_
        refine pw_new (ci := 5) (C := RX5) (T := TX5) (Nf := 5) (fs := [.null, .null, .null, .null, .int (zI 0)]) hx hb w hts hinn_X7_init_5 tyX5 tyX5_ok hown (hts (.classLink RX7 23 RX5) (by decide +kernel)) (hts (.instantiable RX5 5) (by decide +kernel)) (hts (.initialized RX5) (by decide +kernel)) rfl (fun j hj => by
          rcases (by omega : j = 0 ∨ j = 1 ∨ j = 2 ∨ j = 3 ∨ j = 4) with h | h | h | h | h <;> subst h <;> rfl) (by first | (show _ ≤ 119; omega) | (show _ ≤ 934; omega)) (by first | (show _ ≤ 119; omega) | (show _ ≤ 934; omega)) dX7_init_46 (fun H ad24 c24 ha24 hc24 fr24 w => ?_)
        rw [← ha24 15 (by omega)]
        rw [← ha24 0 (by omega)] at hl
        have k25 : c24 0 = .inr (7, [.ref (ad24 1), .ref (ad24 12), .ref (ad24 15), .null, .null]) := by
          rw [fr24 0 (by omega), ha24 1 (by omega), ha24 12 (by omega), ha24 15 (by omega)]
          exact h0
        refine lv_dup hx hb dX7_init_49 rfl ?_
        refine pw_cv w (pw_runI (b := ad24 (16 + 14 * i)) (As := []) (rest := [.ref (ad24 (16 + 14 * i)), .int (zI (i : Int)), .ref (ad24 15)]) w ⟨hx, hb, hml, hown, hts⟩ (c_X5_init l D G ad24 _ c24 (T := 16 + 14 * i) (pt := pt i) (ln := ln i) (wi := wi i) rfl hc24) (cwI 0 hts gX7_init_X5_init rfl rfl rfl (hts (.initialized RX5) (by decide +kernel)) (hts (.methodLink RX7 29 yX5_init) (by decide +kernel)) (hts (.instanceMethod yX5_init) (by decide +kernel)) rfl (by decide +kernel) ⟨Nat.le_of_ble_eq_true rfl, Nat.le_of_ble_eq_true rfl⟩) rfl hl.1 rfl (lv_room (Nat.le_of_ble_eq_true rfl)) dX7_init_50 ⟨(by first | (show _ ≤ 119; omega) | (show _ ≤ 934; omega)), (by first | (show _ ≤ 119; omega) | (show _ ≤ 934; omega))⟩) (fun u26 H locs hp26 w => ?_)
        obtain ⟨ad26, c26⟩ := u26
        obtain ⟨ha26, hO26, hR26, fr26⟩ := hp26
        have w : PW D G A s ad26 (16 + 14 * i + 1 + 1 + 1 + 1 + 1 + 9) c26 H locs := w
        have ha26 : ∀ r, r < 16 + 14 * i + 1 → ad26 r = ad24 r := ha26 -- ha26 hc
        have fr26 : ∀ q, (q < 16 + 14 * i + 1 ∧ q ≠ 16 + 14 * i) → c26 q = c24 q := fun q hq => fr26 q hq.1 hq.2 -- fr26 w =>
        rw [← ha26 (16 + 14 * i) (by omega)]
        rw [← ha26 15 (by omega)]
        rw [← ha26 0 (by omega)] at hl
        have k27 : c26 0 = .inr (7, [.ref (ad26 1), .ref (ad26 12), .ref (ad26 15), .null, .null]) := by
          rw [fr26 0 (by omega), ha26 1 (by omega), ha26 12 (by omega), ha26 15 (by omega)]
          exact k25
        have hA9 : ∀ r, r < 16 + 14 * i → ad26 r = adL r := fun r hr => ((ha26 r (by omega)).trans ((ha24 r (by omega)).trans rfl))
        have hF9 : ∀ q, q < 16 + 14 * i → c26 q = cL q := fun q hq => ((fr26 q (by omega)).trans ((fr24 q (by omega)).trans rfl))
        refine pw_aast (r := 15) (q := 16 + 14 * i) (ci := 5) (kd := 5) (n := 4) (f := fo) (j := i) hx hb w (by omega) (by omega) ((hF9 15 (by omega)).trans h15) hO26.1 rfl rfl rfl (by omega) (by decide) dX7_init_53 (fun H locs w => ?_)
        refine pz_iinc (lv' := [(1, .int (zI ((i + 1 : Nat) : Int))), (0, .ref (ad26 0))]) hx hb dX7_init_54 hl (j := 0) rfl ((i + 1 : Nat) : Int) (by omega) (by decide) rfl (fun ls hl => ?_)
        refine lv_goto (tgt := 36) hx hb dX7_init_57 (by decide) ?_
        rw [show 15 + 14 * i + 1 + 13 = 15 + 14 * (i + 1) from by omega, show 111 + 124 * i + 5 + 119 = 111 + 124 * (i + 1) from by omega]
        exact ih (i + 1) ad26 (va_up c26 15 (rfs 5 G 4 (va_up fo i (some (ad26 (16 + 14 * i)))))) H locs ls (by omega) (fun r hr => (hA9 r (by omega)).trans (hA r hr)) ((va_up_ne _ _ (by omega)).trans k27) (hF.mv (fun r hr => hA9 r (by omega)) (fun q h1 h2 => (va_up_ne _ _ (by omega)).trans (hF9 q (by omega)))) (hB.mv (fun r hr => hA9 r (by omega)) (fun q h1 h2 => (va_up_ne _ _ (by omega)).trans (hF9 q (by omega)))) ⟨va_up fo i (some (ad26 (16 + 14 * i))), va_up_self _ _ _, fun k hk => by
          by_cases e : k = i
          · rw [e, va_up_self]
          · rw [va_up_ne _ _ e, hfo k (by omega), hA9 _ (by omega)]⟩ (fun k hk => by
          by_cases e : k = i
          · rw [e]
            exact ⟨hO26.fr (fun q h1 h2 => va_up_ne _ _ (by omega)), hR26.fr (fun q h1 h2 => va_up_ne _ _ (by omega))⟩
          · have h := hL k (by omega)
            exact ⟨h.1.mv (fun r hr => hA9 r (by omega)) (fun q h1 h2 => (va_up_ne _ _ (by omega)).trans (hF9 q (by omega))), h.2.fr (fun q h1 h2 => (va_up_ne _ _ (by omega)).trans (hF9 q (by omega)))⟩) (by omega) (by rw [show 16 + 14 * (i + 1) = 16 + 14 * i + 1 + 1 + 1 + 1 + 1 + 9 from by omega]; exact w) (lv_sub hl [0, 1] rfl)
  exact lp 5 0 ad11 c13 H locs ls (by omega) (fun _ _ => rfl) hc13 hF hB ⟨_, ((fr13 15 (by omega)).trans hc11), fun k hk => absurd hk (Nat.not_lt_zero k)⟩ (fun k hk => absurd hk (Nat.not_lt_zero k)) (by omega) w (lv_sub hl [0, 1] rfl)
