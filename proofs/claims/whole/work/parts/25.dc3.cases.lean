set_option maxHeartbeats 20000000 in
set_option maxRecDepth 100000 in
theorem lc_ring {p : Program} {l : Launch} {e : Env} {s : State} {m : MethodId} {below : List Frame} {meth : Method} {c : Code} {dC : Nat → ClassId} {dI : Nat → Nat → Nat} {cI cZ cC cO : ClassId} {b L k : Nat} {xs : Nat → Int32} {Q : Nat → Nat → Nat} {q8 : Nat → Nat} {I : GV → GX8 → Prop} (F : LF p s m c b L xs dC dI cI cZ cC cO) (hL : L ≤ 1536) (hk3 : k + 3 ≤ L) (h_ring : st_ring I) (hJ : LC p l e s m below meth c b k dC dI cI cZ cC cO Q q8 I 731) : LC p l e s m below meth c b k dC dI cI cZ cC cO Q q8 I 483 := by
  obtain ⟨hx, hb, hml, hown, hts0, hX, hbl, hK0, hN0⟩ := F
  have hA : ∀ q : Nat, s.heap.size ≤ q → (fun q : Nat => s.heap.size ≤ q) q := fun _ h => h
  have hbA : ¬ (fun q : Nat => s.heap.size ≤ q) b := Nat.not_le.mpr hbl
  have hi1 : vp_in (nI k + 1) L := by rw [nI_1]; exact vp_in_nI (by omega) (by omega)
  have hi2 : vp_in (nI k + 2) L := by rw [show nI k + 2 = nI (k + 2) from nI_add k 2]; exact vp_in_nI (by omega) (by omega)
  intro V G hI u d0 hd0 H locs ls hP hD hS hl
  have hts : ∀ w ∈ wsL_law, w.before #[Value.ref b] (s.setDrawn d0) = true := dr_words hts0 d0
  have hK : va_K (dC, dI) vwCl (wTys cI cZ cC cO) (s.setDrawn d0) := hK0
  have hN : NN (s.setDrawn d0) := hN0
  have hX : va_X b L xs (s.setDrawn d0) s.heap := hX
  obtain ⟨o7, o8, e7, e8, heq, hI⟩ := h_ring V G (xs (nI k + 1).toNatClampNeg) hI
  refine lv_aload_n hx hb dL_law_483 rfl (lv_at hl 2 rfl) ?_
  refine lv_aload_n hx hb dL_law_484 rfl (lv_at hl 3 rfl) ?_
  refine lv_iload_n hx hb dL_law_485 rfl (lv_at hl 0 rfl) ?_
  refine lv_iconst (v := 1) hx hb dL_law_486 (by decide) ?_
  refine lv_iadd hx hb dL_law_487 ?_
  refine va_sld hx hb hX hbl hbA hS hi1 dL_law_488 ?_
  refine rVB (Bs := WB cI cZ cC cO Q q8 u V G) (Cs := [wX7 cI cZ cC (Q 0) (Q 1) (Q 2) (Q 3) (Q 4) (Q 5) (Q 6) (Q 7) (Q 8) (Q 9) V.1, wX4 cI cZ cC (Q 1) V.2.1]) (rest := []) (As := [.int (xs (nI k + 1).toNatClampNeg)]) ⟨hx, hb, hml, hown, hts⟩ (mX7_ring l dC dI cI cZ cC cO (Q 0) (Q 1) (Q 2) (Q 3) (Q 4) (Q 5) (Q 6) (Q 7) (Q 8) (Q 9) _ _ _ _ e7) (cwV 1 hts gL_law_X7_ring rfl rfl rfl (by decide +kernel) ⟨Nat.le_of_ble_eq_true rfl, Nat.le_of_ble_eq_true rfl⟩) hK hN hP [0, 1] rfl (fl2 _ _) 6 rfl rfl rfl rfl hl.1 rfl (Nat.le_of_ble_eq_true rfl) dL_law_489 ⟨Nat.le_of_ble_eq_true rfl, Nat.le_of_ble_eq_true rfl⟩ ?_
  refine lv_aload_n hx hb dL_law_492 rfl (lv_at hl 1 rfl) ?_
  refine lv_aload_n hx hb dL_law_493 rfl (lv_at hl 3 rfl) ?_
  refine lv_iload_n hx hb dL_law_494 rfl (lv_at hl 0 rfl) ?_
  refine lv_iconst (v := 1) hx hb dL_law_495 (by decide) ?_
  refine lv_iadd hx hb dL_law_496 ?_
  refine va_sld hx hb hX hbl hbA hS hi1 dL_law_497 ?_
  refine rVB (Bs := WB cI cZ cC cO Q q8 u V G) (Cs := [wX8 cI cZ cC q8 G]) (rest := [.int o7]) (As := [.int (xs (nI k + 1).toNatClampNeg)]) ⟨hx, hb, hml, hown, hts⟩ (mX8_ring l dC dI cI cZ cC cO q8 _ _ _ e8) (cwV 1 hts gL_law_X8_ring rfl rfl rfl (by decide +kernel) ⟨Nat.le_of_ble_eq_true rfl, Nat.le_of_ble_eq_true rfl⟩) hK hN hP [10] rfl (fl1 _) 7 rfl rfl rfl rfl hl.1 rfl (Nat.le_of_ble_eq_true rfl) dL_law_498 ⟨Nat.le_of_ble_eq_true rfl, Nat.le_of_ble_eq_true rfl⟩ ?_
  refine lv_icmp_eq (tgt := 731) hx hb dL_law_501 (by decide) (fun _ => ?_) (fun hc => absurd heq hc)
  exact hJ _ _ hI u d0 hd0 H locs ls hP hD hS hl
set_option maxHeartbeats 20000000 in
set_option maxRecDepth 100000 in
theorem lc_apart {p : Program} {l : Launch} {e : Env} {s : State} {m : MethodId} {below : List Frame} {meth : Method} {c : Code} {dC : Nat → ClassId} {dI : Nat → Nat → Nat} {cI cZ cC cO : ClassId} {b L k : Nat} {xs : Nat → Int32} {Q : Nat → Nat → Nat} {q8 : Nat → Nat} {I : GV → GX8 → Prop} (F : LF p s m c b L xs dC dI cI cZ cC cO) (hL : L ≤ 1536) (hk3 : k + 3 ≤ L) (h_apart : st_apart I) (hJ : LC p l e s m below meth c b k dC dI cI cZ cC cO Q q8 I 731) : LC p l e s m below meth c b k dC dI cI cZ cC cO Q q8 I 506 := by
  obtain ⟨hx, hb, hml, hown, hts0, hX, hbl, hK0, hN0⟩ := F
  have hA : ∀ q : Nat, s.heap.size ≤ q → (fun q : Nat => s.heap.size ≤ q) q := fun _ h => h
  have hbA : ¬ (fun q : Nat => s.heap.size ≤ q) b := Nat.not_le.mpr hbl
  have hi1 : vp_in (nI k + 1) L := by rw [nI_1]; exact vp_in_nI (by omega) (by omega)
  have hi2 : vp_in (nI k + 2) L := by rw [show nI k + 2 = nI (k + 2) from nI_add k 2]; exact vp_in_nI (by omega) (by omega)
  intro V G hI u d0 hd0 H locs ls hP hD hS hl
  have hts : ∀ w ∈ wsL_law, w.before #[Value.ref b] (s.setDrawn d0) = true := dr_words hts0 d0
  have hK : va_K (dC, dI) vwCl (wTys cI cZ cC cO) (s.setDrawn d0) := hK0
  have hN : NN (s.setDrawn d0) := hN0
  have hX : va_X b L xs (s.setDrawn d0) s.heap := hX
  obtain ⟨o7, o8, e7, e8, heq, hI⟩ := h_apart V G (xs (nI k + 1).toNatClampNeg) (xs (nI k + 2).toNatClampNeg) hI
  refine lv_aload_n hx hb dL_law_506 rfl (lv_at hl 2 rfl) ?_
  refine lv_aload_n hx hb dL_law_507 rfl (lv_at hl 3 rfl) ?_
  refine lv_iload_n hx hb dL_law_508 rfl (lv_at hl 0 rfl) ?_
  refine lv_iconst (v := 1) hx hb dL_law_509 (by decide) ?_
  refine lv_iadd hx hb dL_law_510 ?_
  refine va_sld hx hb hX hbl hbA hS hi1 dL_law_511 ?_
  refine lv_aload_n hx hb dL_law_512 rfl (lv_at hl 3 rfl) ?_
  refine lv_iload_n hx hb dL_law_513 rfl (lv_at hl 0 rfl) ?_
  refine lv_iconst (v := 2) hx hb dL_law_514 (by decide) ?_
  refine lv_iadd hx hb dL_law_515 ?_
  refine va_sld hx hb hX hbl hbA hS hi2 dL_law_516 ?_
  refine rVB (Bs := WB cI cZ cC cO Q q8 u V G) (Cs := [wX7 cI cZ cC (Q 0) (Q 1) (Q 2) (Q 3) (Q 4) (Q 5) (Q 6) (Q 7) (Q 8) (Q 9) V.1, wX4 cI cZ cC (Q 1) V.2.1]) (rest := []) (As := [.int (xs (nI k + 1).toNatClampNeg), .int (xs (nI k + 2).toNatClampNeg)]) ⟨hx, hb, hml, hown, hts⟩ (mX7_apart l dC dI cI cZ cC cO (Q 0) (Q 1) (Q 2) (Q 3) (Q 4) (Q 5) (Q 6) (Q 7) (Q 8) (Q 9) _ _ _ _ _ e7) (cwV 2 hts gL_law_X7_apart rfl rfl rfl (by decide +kernel) ⟨Nat.le_of_ble_eq_true rfl, Nat.le_of_ble_eq_true rfl⟩) hK hN hP [0, 1] rfl (fl2 _ _) 6 rfl rfl rfl rfl hl.1 rfl (Nat.le_of_ble_eq_true rfl) dL_law_517 ⟨Nat.le_of_ble_eq_true rfl, Nat.le_of_ble_eq_true rfl⟩ ?_
  refine lv_aload_n hx hb dL_law_520 rfl (lv_at hl 1 rfl) ?_
  refine lv_aload_n hx hb dL_law_521 rfl (lv_at hl 3 rfl) ?_
  refine lv_iload_n hx hb dL_law_522 rfl (lv_at hl 0 rfl) ?_
  refine lv_iconst (v := 1) hx hb dL_law_523 (by decide) ?_
  refine lv_iadd hx hb dL_law_524 ?_
  refine va_sld hx hb hX hbl hbA hS hi1 dL_law_525 ?_
  refine lv_aload_n hx hb dL_law_526 rfl (lv_at hl 3 rfl) ?_
  refine lv_iload_n hx hb dL_law_527 rfl (lv_at hl 0 rfl) ?_
  refine lv_iconst (v := 2) hx hb dL_law_528 (by decide) ?_
  refine lv_iadd hx hb dL_law_529 ?_
  refine va_sld hx hb hX hbl hbA hS hi2 dL_law_530 ?_
  refine rVB (Bs := WB cI cZ cC cO Q q8 u V G) (Cs := [wX8 cI cZ cC q8 G]) (rest := [.int o7]) (As := [.int (xs (nI k + 1).toNatClampNeg), .int (xs (nI k + 2).toNatClampNeg)]) ⟨hx, hb, hml, hown, hts⟩ (mX8_apart l dC dI cI cZ cC cO q8 _ _ _ _ e8) (cwV 2 hts gL_law_X8_apart rfl rfl rfl (by decide +kernel) ⟨Nat.le_of_ble_eq_true rfl, Nat.le_of_ble_eq_true rfl⟩) hK hN hP [10] rfl (fl1 _) 7 rfl rfl rfl rfl hl.1 rfl (Nat.le_of_ble_eq_true rfl) dL_law_531 ⟨Nat.le_of_ble_eq_true rfl, Nat.le_of_ble_eq_true rfl⟩ ?_
  refine lv_icmp_eq (tgt := 731) hx hb dL_law_534 (by decide) (fun _ => ?_) (fun hc => absurd heq hc)
  exact hJ _ _ hI u d0 hd0 H locs ls hP hD hS hl
set_option maxHeartbeats 20000000 in
set_option maxRecDepth 100000 in
theorem lc_longest {p : Program} {l : Launch} {e : Env} {s : State} {m : MethodId} {below : List Frame} {meth : Method} {c : Code} {dC : Nat → ClassId} {dI : Nat → Nat → Nat} {cI cZ cC cO : ClassId} {b L k : Nat} {xs : Nat → Int32} {Q : Nat → Nat → Nat} {q8 : Nat → Nat} {I : GV → GX8 → Prop} (F : LF p s m c b L xs dC dI cI cZ cC cO) (hL : L ≤ 1536) (hk3 : k + 3 ≤ L) (h_longest : st_longest I) (hJ : LC p l e s m below meth c b k dC dI cI cZ cC cO Q q8 I 731) : LC p l e s m below meth c b k dC dI cI cZ cC cO Q q8 I 539 := by
  obtain ⟨hx, hb, hml, hown, hts0, hX, hbl, hK0, hN0⟩ := F
  have hA : ∀ q : Nat, s.heap.size ≤ q → (fun q : Nat => s.heap.size ≤ q) q := fun _ h => h
  have hbA : ¬ (fun q : Nat => s.heap.size ≤ q) b := Nat.not_le.mpr hbl
  have hi1 : vp_in (nI k + 1) L := by rw [nI_1]; exact vp_in_nI (by omega) (by omega)
  have hi2 : vp_in (nI k + 2) L := by rw [show nI k + 2 = nI (k + 2) from nI_add k 2]; exact vp_in_nI (by omega) (by omega)
  intro V G hI u d0 hd0 H locs ls hP hD hS hl
  have hts : ∀ w ∈ wsL_law, w.before #[Value.ref b] (s.setDrawn d0) = true := dr_words hts0 d0
  have hK : va_K (dC, dI) vwCl (wTys cI cZ cC cO) (s.setDrawn d0) := hK0
  have hN : NN (s.setDrawn d0) := hN0
  have hX : va_X b L xs (s.setDrawn d0) s.heap := hX
  obtain ⟨o7, o8, e7, e8, heq, hI⟩ := h_longest V G (xs (nI k + 1).toNatClampNeg) hI
  refine lv_aload_n hx hb dL_law_539 rfl (lv_at hl 2 rfl) ?_
  refine lv_aload_n hx hb dL_law_540 rfl (lv_at hl 3 rfl) ?_
  refine lv_iload_n hx hb dL_law_541 rfl (lv_at hl 0 rfl) ?_
  refine lv_iconst (v := 1) hx hb dL_law_542 (by decide) ?_
  refine lv_iadd hx hb dL_law_543 ?_
  refine va_sld hx hb hX hbl hbA hS hi1 dL_law_544 ?_
  refine wViB (Bs := WB cI cZ cC cO Q q8 u V G) (Cs := [wX7 cI cZ cC (Q 0) (Q 1) (Q 2) (Q 3) (Q 4) (Q 5) (Q 6) (Q 7) (Q 8) (Q 9) V.1, wX4 cI cZ cC (Q 1) V.2.1, wX5 cI cZ cC (Q 7) V.2.2.2.2.2.2.2.1]) (Rs := [wX4 cI cZ cC (Q 2) V.2.2.1, wX4 cI cZ cC (Q 3) V.2.2.2.1, wH cI cZ cC cO (Q 4) u V.2.2.2.2.1, wX6 cI cZ cC (Q 5) V.2.2.2.2.2.1, wX0 cI cZ cC (Q 6) V.2.2.2.2.2.2.1, wX3 cI cZ cC (Q 8) V.2.2.2.2.2.2.2.2.1, wX1 cI cZ cC (Q 9) V.2.2.2.2.2.2.2.2.2, wX8 cI cZ cC q8 G]) (N1 := fun _ : Unit => [wX7 cI cZ cC (Q 0) (Q 1) (Q 2) (Q 3) (Q 4) (Q 5) (Q 6) (Q 7) (Q 8) (Q 9) V.1, wX4 cI cZ cC (Q 1) V.2.1, wX5 cI cZ cC (Q 7) o7.2]) (B1 := fun _ : Unit => WB cI cZ cC cO Q q8 u (V.1, V.2.1, V.2.2.1, V.2.2.2.1, V.2.2.2.2.1, V.2.2.2.2.2.1, V.2.2.2.2.2.2.1, o7.2, V.2.2.2.2.2.2.2.2.1, V.2.2.2.2.2.2.2.2.2) G) (rest := []) (As := [.int (xs (nI k + 1).toNatClampNeg)]) ⟨hx, hb, hml, hown, hts⟩ (mX7_longest l dC dI cI cZ cC cO (Q 0) (Q 1) (Q 2) (Q 3) (Q 4) (Q 5) (Q 6) (Q 7) (Q 8) (Q 9) _ _ _ _ _ _ e7) (cwV 1 hts gL_law_X7_longest rfl rfl rfl (by decide +kernel) ⟨Nat.le_of_ble_eq_true rfl, Nat.le_of_ble_eq_true rfl⟩) hK hN hP hD hS hA [0, 1, 7] [2, 3, 4, 5, 6, 8, 9, 10] [8, 9, 0, 1, 2, 3, 4, 10, 5, 6, 7] rfl rfl (fl3 _ _ _) (fun _ => fl3 _ _ _) (by decide) (by decide) (fun _ => rfl) 6 rfl rfl rfl rfl hl.1 rfl (Nat.le_of_ble_eq_true rfl) dL_law_545 ⟨Nat.le_of_ble_eq_true rfl, Nat.le_of_ble_eq_true rfl⟩ (fun _ H locs hP hD hS => ?_)
  refine lv_aload_n hx hb dL_law_548 rfl (lv_at hl 1 rfl) ?_
  refine lv_aload_n hx hb dL_law_549 rfl (lv_at hl 3 rfl) ?_
  refine lv_iload_n hx hb dL_law_550 rfl (lv_at hl 0 rfl) ?_
  refine lv_iconst (v := 1) hx hb dL_law_551 (by decide) ?_
  refine lv_iadd hx hb dL_law_552 ?_
  refine va_sld hx hb hX hbl hbA hS hi1 dL_law_553 ?_
  refine wViB (Bs := WB cI cZ cC cO Q q8 u (V.1, V.2.1, V.2.2.1, V.2.2.2.1, V.2.2.2.2.1, V.2.2.2.2.2.1, V.2.2.2.2.2.2.1, o7.2, V.2.2.2.2.2.2.2.2.1, V.2.2.2.2.2.2.2.2.2) G) (Cs := [wX8 cI cZ cC q8 G]) (Rs := [wX7 cI cZ cC (Q 0) (Q 1) (Q 2) (Q 3) (Q 4) (Q 5) (Q 6) (Q 7) (Q 8) (Q 9) V.1, wX4 cI cZ cC (Q 1) V.2.1, wX4 cI cZ cC (Q 2) V.2.2.1, wX4 cI cZ cC (Q 3) V.2.2.2.1, wH cI cZ cC cO (Q 4) u V.2.2.2.2.1, wX6 cI cZ cC (Q 5) V.2.2.2.2.2.1, wX0 cI cZ cC (Q 6) V.2.2.2.2.2.2.1, wX5 cI cZ cC (Q 7) o7.2, wX3 cI cZ cC (Q 8) V.2.2.2.2.2.2.2.2.1, wX1 cI cZ cC (Q 9) V.2.2.2.2.2.2.2.2.2]) (N1 := fun _ : Unit => [wX8 cI cZ cC q8 o8.2]) (B1 := fun _ : Unit => WB cI cZ cC cO Q q8 u (V.1, V.2.1, V.2.2.1, V.2.2.2.1, V.2.2.2.2.1, V.2.2.2.2.2.1, V.2.2.2.2.2.2.1, o7.2, V.2.2.2.2.2.2.2.2.1, V.2.2.2.2.2.2.2.2.2) o8.2) (rest := [.int o7.1]) (As := [.int (xs (nI k + 1).toNatClampNeg)]) ⟨hx, hb, hml, hown, hts⟩ (mX8_longest l dC dI cI cZ cC cO q8 _ _ _ _ e8) (cwV 1 hts gL_law_X8_longest rfl rfl rfl (by decide +kernel) ⟨Nat.le_of_ble_eq_true rfl, Nat.le_of_ble_eq_true rfl⟩) hK hN hP hD hS hA [10] [0, 1, 2, 3, 4, 5, 6, 7, 8, 9] [0, 1, 2, 3, 4, 5, 6, 7, 8, 9, 10] rfl rfl (fl1 _) (fun _ => fl1 _) (by decide) (by decide) (fun _ => rfl) 7 rfl rfl rfl rfl hl.1 rfl (Nat.le_of_ble_eq_true rfl) dL_law_554 ⟨Nat.le_of_ble_eq_true rfl, Nat.le_of_ble_eq_true rfl⟩ (fun _ H locs hP hD hS => ?_)
  refine lv_icmp_eq (tgt := 731) hx hb dL_law_557 (by decide) (fun _ => ?_) (fun hc => absurd heq hc)
  exact hJ _ _ hI u d0 hd0 H locs ls hP hD hS hl
set_option maxHeartbeats 20000000 in
set_option maxRecDepth 100000 in
theorem lc_count {p : Program} {l : Launch} {e : Env} {s : State} {m : MethodId} {below : List Frame} {meth : Method} {c : Code} {dC : Nat → ClassId} {dI : Nat → Nat → Nat} {cI cZ cC cO : ClassId} {b L k : Nat} {xs : Nat → Int32} {Q : Nat → Nat → Nat} {q8 : Nat → Nat} {I : GV → GX8 → Prop} (F : LF p s m c b L xs dC dI cI cZ cC cO) (hL : L ≤ 1536) (hk3 : k + 3 ≤ L) (h_count : st_count I) (hJ : LC p l e s m below meth c b k dC dI cI cZ cC cO Q q8 I 731) : LC p l e s m below meth c b k dC dI cI cZ cC cO Q q8 I 562 := by
  obtain ⟨hx, hb, hml, hown, hts0, hX, hbl, hK0, hN0⟩ := F
  have hA : ∀ q : Nat, s.heap.size ≤ q → (fun q : Nat => s.heap.size ≤ q) q := fun _ h => h
  have hbA : ¬ (fun q : Nat => s.heap.size ≤ q) b := Nat.not_le.mpr hbl
  have hi1 : vp_in (nI k + 1) L := by rw [nI_1]; exact vp_in_nI (by omega) (by omega)
  have hi2 : vp_in (nI k + 2) L := by rw [show nI k + 2 = nI (k + 2) from nI_add k 2]; exact vp_in_nI (by omega) (by omega)
  intro V G hI u d0 hd0 H locs ls hP hD hS hl
  have hts : ∀ w ∈ wsL_law, w.before #[Value.ref b] (s.setDrawn d0) = true := dr_words hts0 d0
  have hK : va_K (dC, dI) vwCl (wTys cI cZ cC cO) (s.setDrawn d0) := hK0
  have hN : NN (s.setDrawn d0) := hN0
  have hX : va_X b L xs (s.setDrawn d0) s.heap := hX
  obtain ⟨o7, o8, e7, e8, heq, hI⟩ := h_count V G (xs (nI k + 1).toNatClampNeg) hI
  refine lv_aload_n hx hb dL_law_562 rfl (lv_at hl 2 rfl) ?_
  refine lv_aload_n hx hb dL_law_563 rfl (lv_at hl 3 rfl) ?_
  refine lv_iload_n hx hb dL_law_564 rfl (lv_at hl 0 rfl) ?_
  refine lv_iconst (v := 1) hx hb dL_law_565 (by decide) ?_
  refine lv_iadd hx hb dL_law_566 ?_
  refine va_sld hx hb hX hbl hbA hS hi1 dL_law_567 ?_
  refine wViB (Bs := WB cI cZ cC cO Q q8 u V G) (Cs := [wX7 cI cZ cC (Q 0) (Q 1) (Q 2) (Q 3) (Q 4) (Q 5) (Q 6) (Q 7) (Q 8) (Q 9) V.1, wX4 cI cZ cC (Q 1) V.2.1, wX5 cI cZ cC (Q 7) V.2.2.2.2.2.2.2.1, wX3 cI cZ cC (Q 8) V.2.2.2.2.2.2.2.2.1, wX1 cI cZ cC (Q 9) V.2.2.2.2.2.2.2.2.2]) (Rs := [wX4 cI cZ cC (Q 2) V.2.2.1, wX4 cI cZ cC (Q 3) V.2.2.2.1, wH cI cZ cC cO (Q 4) u V.2.2.2.2.1, wX6 cI cZ cC (Q 5) V.2.2.2.2.2.1, wX0 cI cZ cC (Q 6) V.2.2.2.2.2.2.1, wX8 cI cZ cC q8 G]) (N1 := fun _ : Unit => [wX7 cI cZ cC (Q 0) (Q 1) (Q 2) (Q 3) (Q 4) (Q 5) (Q 6) (Q 7) (Q 8) (Q 9) V.1, wX4 cI cZ cC (Q 1) V.2.1, wX5 cI cZ cC (Q 7) o7.2.1, wX3 cI cZ cC (Q 8) o7.2.2, wX1 cI cZ cC (Q 9) V.2.2.2.2.2.2.2.2.2]) (B1 := fun _ : Unit => WB cI cZ cC cO Q q8 u (V.1, V.2.1, V.2.2.1, V.2.2.2.1, V.2.2.2.2.1, V.2.2.2.2.2.1, V.2.2.2.2.2.2.1, o7.2.1, o7.2.2, V.2.2.2.2.2.2.2.2.2) G) (rest := []) (As := [.int (xs (nI k + 1).toNatClampNeg)]) ⟨hx, hb, hml, hown, hts⟩ (mX7_count l dC dI cI cZ cC cO (Q 0) (Q 1) (Q 2) (Q 3) (Q 4) (Q 5) (Q 6) (Q 7) (Q 8) (Q 9) _ _ _ _ _ _ _ _ e7) (cwV 1 hts gL_law_X7_count rfl rfl rfl (by decide +kernel) ⟨Nat.le_of_ble_eq_true rfl, Nat.le_of_ble_eq_true rfl⟩) hK hN hP hD hS hA [0, 1, 7, 8, 9] [2, 3, 4, 5, 6, 10] [6, 7, 0, 1, 2, 3, 4, 8, 9, 10, 5] rfl rfl (fl5 _ _ _ _ _) (fun _ => fl5 _ _ _ _ _) (by decide) (by decide) (fun _ => rfl) 6 rfl rfl rfl rfl hl.1 rfl (Nat.le_of_ble_eq_true rfl) dL_law_568 ⟨Nat.le_of_ble_eq_true rfl, Nat.le_of_ble_eq_true rfl⟩ (fun _ H locs hP hD hS => ?_)
  refine lv_aload_n hx hb dL_law_571 rfl (lv_at hl 1 rfl) ?_
  refine lv_aload_n hx hb dL_law_572 rfl (lv_at hl 3 rfl) ?_
  refine lv_iload_n hx hb dL_law_573 rfl (lv_at hl 0 rfl) ?_
  refine lv_iconst (v := 1) hx hb dL_law_574 (by decide) ?_
  refine lv_iadd hx hb dL_law_575 ?_
  refine va_sld hx hb hX hbl hbA hS hi1 dL_law_576 ?_
  refine rVB (Bs := WB cI cZ cC cO Q q8 u (V.1, V.2.1, V.2.2.1, V.2.2.2.1, V.2.2.2.2.1, V.2.2.2.2.2.1, V.2.2.2.2.2.2.1, o7.2.1, o7.2.2, V.2.2.2.2.2.2.2.2.2) G) (Cs := [wX8 cI cZ cC q8 G]) (rest := [.int o7.1]) (As := [.int (xs (nI k + 1).toNatClampNeg)]) ⟨hx, hb, hml, hown, hts⟩ (mX8_count l dC dI cI cZ cC cO q8 _ _ _ e8) (cwV 1 hts gL_law_X8_count rfl rfl rfl (by decide +kernel) ⟨Nat.le_of_ble_eq_true rfl, Nat.le_of_ble_eq_true rfl⟩) hK hN hP [10] rfl (fl1 _) 7 rfl rfl rfl rfl hl.1 rfl (Nat.le_of_ble_eq_true rfl) dL_law_577 ⟨Nat.le_of_ble_eq_true rfl, Nat.le_of_ble_eq_true rfl⟩ ?_
  refine lv_icmp_eq (tgt := 731) hx hb dL_law_580 (by decide) (fun _ => ?_) (fun hc => absurd heq hc)
  exact hJ _ _ hI u d0 hd0 H locs ls hP hD hS hl
set_option maxHeartbeats 20000000 in
set_option maxRecDepth 100000 in
theorem lc_density {p : Program} {l : Launch} {e : Env} {s : State} {m : MethodId} {below : List Frame} {meth : Method} {c : Code} {dC : Nat → ClassId} {dI : Nat → Nat → Nat} {cI cZ cC cO : ClassId} {b L k : Nat} {xs : Nat → Int32} {Q : Nat → Nat → Nat} {q8 : Nat → Nat} {I : GV → GX8 → Prop} (F : LF p s m c b L xs dC dI cI cZ cC cO) (hL : L ≤ 1536) (hk3 : k + 3 ≤ L) (h_density : st_density I) (hJ : LC p l e s m below meth c b k dC dI cI cZ cC cO Q q8 I 731) : LC p l e s m below meth c b k dC dI cI cZ cC cO Q q8 I 585 := by
  obtain ⟨hx, hb, hml, hown, hts0, hX, hbl, hK0, hN0⟩ := F
  have hA : ∀ q : Nat, s.heap.size ≤ q → (fun q : Nat => s.heap.size ≤ q) q := fun _ h => h
  have hbA : ¬ (fun q : Nat => s.heap.size ≤ q) b := Nat.not_le.mpr hbl
  have hi1 : vp_in (nI k + 1) L := by rw [nI_1]; exact vp_in_nI (by omega) (by omega)
  have hi2 : vp_in (nI k + 2) L := by rw [show nI k + 2 = nI (k + 2) from nI_add k 2]; exact vp_in_nI (by omega) (by omega)
  intro V G hI u d0 hd0 H locs ls hP hD hS hl
  have hts : ∀ w ∈ wsL_law, w.before #[Value.ref b] (s.setDrawn d0) = true := dr_words hts0 d0
  have hK : va_K (dC, dI) vwCl (wTys cI cZ cC cO) (s.setDrawn d0) := hK0
  have hN : NN (s.setDrawn d0) := hN0
  have hX : va_X b L xs (s.setDrawn d0) s.heap := hX
  obtain ⟨o7, e7, e8⟩ := h_density V G hI
  refine lv_aload_n hx hb dL_law_585 rfl (lv_at hl 2 rfl) ?_
  have hPc : va_P (dC, dI) vwCl (wX7 cI cZ cC (Q 0) (Q 1) (Q 2) (Q 3) (Q 4) (Q 5) (Q 6) (Q 7) (Q 8) (Q 9) V.1 ++ wX4 cI cZ cC (Q 1) V.2.1) H := va_P.app (psel1 (Bs := WB cI cZ cC cO Q q8 u V G) hP 0 rfl) (psel1 (Bs := WB cI cZ cC cO Q q8 u V G) hP 1 rfl)
  refine va_calldD hd0 (va_runV_D (As := []) (rest := []) ⟨hx, hb, hml, hown, hts⟩ (mX7_density l dC dI cI cZ cC cO (Q 0) (Q 1) (Q 2) (Q 3) (Q 4) (Q 5) (Q 6) (Q 7) (Q 8) (Q 9) _ _ _ e7) (cwV 0 hts gL_law_X7_density rfl rfl rfl (by decide +kernel) ⟨Nat.le_of_ble_eq_true rfl, Nat.le_of_ble_eq_true rfl⟩) ⟨pcR_blind, va_recv hK hPc (ci := 6) (q0 := 0) rfl rfl, fun U hU hW2 => ⟨rfl, by rw [hU]; exact hPc, va_K.moved hW2.alike hK, hN.warm hW2⟩⟩ rfl rfl hl.1 rfl (lv_room (Nat.le_of_ble_eq_true rfl)) dL_law_586 ⟨Nat.le_of_ble_eq_true rfl, Nat.le_of_ble_eq_true rfl⟩) hS (fun q _ h => h.elim) (fun q h => h.elim) (fun r7 _ t H1 locs ht hvm hw7 hB hz1 hk1 hS d1 hd1 => ?_)
  have hP := hP.kept (fun k q hkq => hk1 q.1 ((hP k q hkq).lt) (fun h => h))
  refine lv_dstore (lv' := [(4, .double r7), (3, .int (nI k)), (2, .ref (q8 0)), (1, .ref (Q 0 0)), (0, .ref b)]) hx hb dL_law_589 hl (by decide) rfl (fun ls hl => ?_)
  refine lv_aload_n hx hb dL_law_591 rfl (lv_at hl 2 rfl) ?_
  have hPc : va_P (dC, dI) vwCl (wX8 cI cZ cC q8 G) H1 := psel1 (Bs := WB cI cZ cC cO Q q8 u V G) hP 10 rfl
  have hts : ∀ w ∈ wsL_law, w.before #[Value.ref b] (s.setDrawn d1) = true := dr_words hts0 d1
  have hK : va_K (dC, dI) vwCl (wTys cI cZ cC cO) (s.setDrawn d1) := hK0
  have hN : NN (s.setDrawn d1) := hN0
  refine va_calldD hd1 (va_runV_D (As := []) (rest := []) ⟨hx, hb, hml, hown, hts⟩ (mX8_density l dC dI cI cZ cC cO q8 _ _ e8) (cwV 0 hts gL_law_X8_density rfl rfl rfl (by decide +kernel) ⟨Nat.le_of_ble_eq_true rfl, Nat.le_of_ble_eq_true rfl⟩) ⟨pcR_blind, va_recv hK hPc (ci := 7) (q0 := 0) rfl rfl, fun U hU hW2 => ⟨rfl, by rw [hU]; exact hPc, va_K.moved hW2.alike hK, hN.warm hW2⟩⟩ rfl rfl hl.1 rfl (lv_room (Nat.le_of_ble_eq_true rfl)) dL_law_592 ⟨Nat.le_of_ble_eq_true rfl, Nat.le_of_ble_eq_true rfl⟩) hS (fun q _ h => h.elim) (fun q h => h.elim) (fun r8 _ t H1 locs ht hvm hw8 hB hz1 hk1 hS d2 hd2 => ?_)
  have hP := hP.kept (fun k q hkq => hk1 q.1 ((hP k q hkq).lt) (fun h => h))
  refine lv_dstore (lv' := [(6, .double r8), (4, .double r7), (3, .int (nI k)), (2, .ref (q8 0)), (1, .ref (Q 0 0)), (0, .ref b)]) hx hb dL_law_595 hl (by decide) rfl (fun ls hl => ?_)
  have hl4 := lv_sub hl (l' := [(3, .int (nI k)), (2, .ref (q8 0)), (1, .ref (Q 0 0)), (0, .ref b)]) [2, 3, 4, 5] rfl
  refine lv_dload hx hb dL_law_597 (lv_at hl 1 rfl) ?_
  refine lv_dload hx hb dL_law_599 (lv_at hl 0 rfl) ?_
  refine lv_dcmp hx hb dL_law_601 ?_
  obtain ⟨v1, hv1⟩ : ∃ v, v = Op.cmpValue (FP.dcmp r7 r8) CmpOp.l := ⟨_, rfl⟩
  rw [← hv1]
  refine lv_if_eq (tgt := 623) hx hb dL_law_602 (by decide) (fun _ => ?_) (fun hc1 => ?_)
  · refine lv_goto (tgt := 731) hx hb dL_law_623 (by decide) ?_
    exact hJ _ _ hI u d2 hd2 _ _ ls hP hD hS hl4
  · obtain ⟨hn7, hn8⟩ := law_dd hw7 hw8 (by rw [← hv1]; exact hc1)
    refine lv_dload hx hb dL_law_605 (lv_at hl 1 rfl) ?_
    refine lv_dload hx hb dL_law_607 (lv_at hl 1 rfl) ?_
    refine lv_dcmp hx hb dL_law_609 ?_
    obtain ⟨v2, hv2⟩ : ∃ v, v = Op.cmpValue (FP.dcmp r7 r7) CmpOp.l := ⟨_, rfl⟩
    rw [← hv2]
    refine lv_if_eq (tgt := 621) hx hb dL_law_610 (by decide) (fun h => absurd (hv2.symm.trans h) hn7) (fun _ => ?_)
    refine lv_dload hx hb dL_law_613 (lv_at hl 0 rfl) ?_
    refine lv_dload hx hb dL_law_615 (lv_at hl 0 rfl) ?_
    refine lv_dcmp hx hb dL_law_617 ?_
    obtain ⟨v3, hv3⟩ : ∃ v, v = Op.cmpValue (FP.dcmp r8 r8) CmpOp.l := ⟨_, rfl⟩
    rw [← hv3]
    refine lv_if_ne (tgt := 623) hx hb dL_law_618 (by decide) (fun _ => ?_) (fun h => absurd (hv3.symm.trans h) hn8)
    refine lv_goto (tgt := 731) hx hb dL_law_623 (by decide) ?_
    exact hJ _ _ hI u d2 hd2 _ _ ls hP hD hS hl4
