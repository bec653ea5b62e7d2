/-! OURS: the law's loop -/
section LLP
variable {p : Program} {l : Launch} {e : Env} {s : State} {m : MethodId} {args : Array Value} {below : List Frame} {meth : Method} {k : Code} {Q : State → Prop} {D : va_G} {G : Nat → ClassId} {A : Nat → Prop} {b L : Nat} {xs : Nat → Int32}
set_option maxHeartbeats 1000000 in
set_option maxRecDepth 100000 in
theorem lw_loop (C : LX p l s m args k A b L xs) (hL : L ≤ 2560) (kend : ∀ (H : Heap) (locs : List Loc) (cells slots : Nat) (ls : Array Slot), va_S A s.heap H locs → cells ≤ 821725 → slots ≤ 6630930 → W p l e room_1 s m args below meth k H locs cells slots Q (F0 m 1419 ls [])) :
    ∀ (f ri : Nat) (ad : Nat → Nat) (N : Nat) (c : Nat → va_E) (th lim : Int) (no dn : Nat) (gn : Nat → Nat) (gg : Nat → Nat → Nat) (dg nn : Nat → Nat) (pt ln : Nat → Nat → Nat) (wi : Nat → Nat → Int) (H : Heap) (locs : List Loc) (cells slots : Nat) (ls : Array Slot),
      512 < ri + f → ri ≤ 512 → LWs G ad N c th lim no dn gn gg dg nn pt ln wi → PW D G A s ad N c H locs → cells ≤ 300 + 10 * ri → slots ≤ 9000 + 40 * ri → lv_has ls 8 (lawLs ad b ri) → W p l e room_1 s m args below meth k H locs cells slots Q (F0 m 28 ls []) := by
  intro f
  induction f with
  | zero => intro ri ad N c th lim no dn gn gg dg nn pt ln wi H locs cells slots ls hf h5; omega
  | succ f ih =>
    intro ri ad N c th lim no dn gn gg dg nn pt ln wi H locs cells slots ls hf h5 hW w hcs hss hl
    obtain ⟨hx, hb, hts, hown, hml, hX, hbl, hbA, hsT⟩ := id C
    refine lv_iload hx hb dL_law_28 (lv_at hl 5 rfl) ?_
    refine lv_aload_n hx hb dL_law_30 rfl (lv_at hl 0 rfl) ?_
    refine va_slen hx hb hX hbl hbA w.2.2.2.1 dL_law_31 ?_
    refine pz_topI (y := zI (L : Int)) (Int32.ofInt_eq_ofNat (n := L)).symm ?_
    refine lv_iconst (v := zI 5) hx hb dL_law_32 rfl ?_
    refine pz_isub hx hb dL_law_33 ?_
    refine pz_icmpgt (tgt := 1419) hx hb dL_law_34 (by decide) ⟨by omega, by omega⟩ ⟨by omega, by omega⟩ (fun _ => ?_) (fun hle => ?_)
    · exact kend H locs cells slots ls w.2.2.2.1 (by omega) (by omega)
    · have hi5 : 5 * ri + 5 ≤ L := by omega
      have hnx : NXT p l e s m args below meth k Q D G A b ri := by
        intro ad N c th lim no dn gn gg dg nn pt ln wi H locs cells slots ls hW w hc hs hl
        refine pz_iinc (lv' := [(5, .int (zI ((5 * (ri + 1) : Nat) : Int))), (0, .ref b), (1, .ref (ad 0)), (2, .ref (ad 120)), (3, .ref (ad 137)), (4, .ref (ad 138))]) hx hb dL_law_1413 hl (j := 5) rfl ((5 * (ri + 1) : Nat) : Int) (by omega) (by decide) rfl (fun ls hl => ?_)
        refine lv_goto (tgt := 28) hx hb dL_law_1416 (by decide) ?_
        exact ih (ri + 1) ad N c th lim no dn gn gg dg nn pt ln wi H locs cells slots ls (by omega) (by omega) hW w hc hs (lv_sub hl [1, 2, 3, 4, 5, 0] rfl)
      refine lv_aload_n hx hb dL_law_37 rfl (lv_at hl 0 rfl) ?_
      refine lv_iload hx hb dL_law_38 (lv_at hl 5 rfl) ?_
      refine va_sld hx hb hX hbl hbA w.2.2.2.1 (zI_in (n := L) (by omega) (by omega) (by omega)) dL_law_40 ?_
      refine lv_bipush (v := zI 31) hx hb dL_law_41 (by decide +kernel) ?_
      refine lv_iand hx hb dL_law_43 ?_
      generalize xs (zI ((5 * ri : Nat) : Int)).toNatClampNeg &&& zI 31 = x9
      by_cases ho : x9.toInt < 0 ∨ 20 < x9.toInt
      · refine lv_tableOut (tgt := 1413) hx hb dL_law_44 ho (by decide) ?_
        exact hnx ad N c th lim no dn gn gg dg nn pt ln wi H locs cells slots ls hW w (by omega) (by omega) hl
      · have h1 : ¬ x9.toInt < 0 := fun h => ho (Or.inl h)
        have h2 : ¬ 20 < x9.toInt := fun h => ho (Or.inr h)
        rcases (by omega : x9.toInt = 0 ∨ x9.toInt = 1 ∨ x9.toInt = 2 ∨ x9.toInt = 3 ∨ x9.toInt = 4 ∨ x9.toInt = 5 ∨ x9.toInt = 6 ∨ x9.toInt = 7 ∨ x9.toInt = 8 ∨ x9.toInt = 9 ∨ x9.toInt = 10 ∨ x9.toInt = 11 ∨ x9.toInt = 12 ∨ x9.toInt = 13 ∨ x9.toInt = 14 ∨ x9.toInt = 15 ∨ x9.toInt = 16 ∨ x9.toInt = 17 ∨ x9.toInt = 18 ∨ x9.toInt = 19 ∨ x9.toInt = 20) with h | h | h | h | h | h | h | h | h | h | h | h | h | h | h | h | h | h | h | h | h
        · exact lv_tableIn (off := 100) (tgt := 144) hx hb dL_law_44 h1 h2 (by rw [h]; rfl) (by decide) (law_cost C hnx w hW hl hcs hss hi5 hL)
        · exact lv_tableIn (off := 168) (tgt := 212) hx hb dL_law_44 h1 h2 (by rw [h]; rfl) (by decide) (law_isBarred C hnx w hW hl hcs hss hi5 hL)
        · exact lv_tableIn (off := 243) (tgt := 287) hx hb dL_law_44 h1 h2 (by rw [h]; rfl) (by decide) (law_setLimit C hnx w hW hl hcs hss hi5 hL)
        · exact lv_tableIn (off := 299) (tgt := 343) hx hb dL_law_44 h1 h2 (by rw [h]; rfl) (by decide) (law_grace C hnx w hW hl hcs hss hi5 hL)
        · exact lv_tableIn (off := 355) (tgt := 399) hx hb dL_law_44 h1 h2 (by rw [h]; rfl) (by decide) (law_enter C hnx w hW hl hcs hss hi5 hL)
        · exact lv_tableIn (off := 399) (tgt := 443) hx hb dL_law_44 h1 h2 (by rw [h]; rfl) (by decide) (law_ornaments C hnx w hW hl hcs hss hi5 hL)
        · exact lv_tableIn (off := 412) (tgt := 456) hx hb dL_law_44 h1 h2 (by rw [h]; rfl) (by decide) (law_fits C hnx w hW hl hcs hss hi5 hL)
        · exact lv_tableIn (off := 511) (tgt := 555) hx hb dL_law_44 h1 h2 (by rw [h]; rfl) (by decide) (law_addNote C hnx w hW hl hcs hss hi5 hL)
        · exact lv_tableIn (off := 591) (tgt := 635) hx hb dL_law_44 h1 h2 (by rw [h]; rfl) (by decide) (law_removeNote C hnx w hW hl hcs hss hi5 hL)
        · exact lv_tableIn (off := 647) (tgt := 691) hx hb dL_law_44 h1 h2 (by rw [h]; rfl) (by decide) (law_setWish C hnx w hW hl hcs hss hi5 hL)
        · exact lv_tableIn (off := 750) (tgt := 794) hx hb dL_law_44 h1 h2 (by rw [h]; rfl) (by decide) (law_notes C hnx w hW hl hcs hss hi5 hL)
        · exact lv_tableIn (off := 806) (tgt := 850) hx hb dL_law_44 h1 h2 (by rw [h]; rfl) (by decide) (law_time C hnx w hW hl hcs hss hi5 hL)
        · exact lv_tableIn (off := 874) (tgt := 918) hx hb dL_law_44 h1 h2 (by rw [h]; rfl) (by decide) (law_fitting C hnx w hW hl hcs hss hi5 hL)
        · exact lv_tableIn (off := 942) (tgt := 986) hx hb dL_law_44 h1 h2 (by rw [h]; rfl) (by decide) (law_choices C hnx w hW hl hcs hss hi5 hL)
        · exact lv_tableIn (off := 998) (tgt := 1042) hx hb dL_law_44 h1 h2 (by rw [h]; rfl) (by decide) (law_least C hnx w hW hl hcs hss hi5 hL)
        · exact lv_tableIn (off := 1054) (tgt := 1098) hx hb dL_law_44 h1 h2 (by rw [h]; rfl) (by decide) (law_chosen C hnx w hW hl hcs hss hi5 hL)
        · exact lv_tableIn (off := 1122) (tgt := 1166) hx hb dL_law_44 h1 h2 (by rw [h]; rfl) (by decide) (law_mostOrnaments C hnx w hW hl hcs hss hi5 hL)
        · exact lv_tableIn (off := 1178) (tgt := 1222) hx hb dL_law_44 h1 h2 (by rw [h]; rfl) (by decide) (law_average C hnx w hW hl hcs hss hi5 hL)
        · exact lv_tableIn (off := 1256) (tgt := 1300) hx hb dL_law_44 h1 h2 (by rw [h]; rfl) (by decide) (law_leastSet C hnx w hW hl hcs hss hi5 hL)
        · exact lv_tableIn (off := 1300) (tgt := 1344) hx hb dL_law_44 h1 h2 (by rw [h]; rfl) (by decide) (law_tuneAt C hnx w hW hl hcs hss hi5 hL)
        · exact lv_tableIn (off := 1356) (tgt := 1400) hx hb dL_law_44 h1 h2 (by rw [h]; rfl) (by decide) (law_sets C hnx w hW hl hcs hss hi5 hL)
end LLP
