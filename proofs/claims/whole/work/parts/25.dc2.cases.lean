set_option maxHeartbeats 20000000 in
set_option maxRecDepth 100000 in
theorem lc_carryOut {p : Program} {l : Launch} {e : Env} {s : State} {m : MethodId} {below : List Frame} {meth : Method} {c : Code} {dC : Nat → ClassId} {dI : Nat → Nat → Nat} {cI cZ cC cO : ClassId} {b L k : Nat} {xs : Nat → Int32} {Q : Nat → Nat → Nat} {q8 : Nat → Nat} {I : GV → GX8 → Prop} (F : LF p s m c b L xs dC dI cI cZ cC cO) (hL : L ≤ 1536) (hk3 : k + 3 ≤ L) (h_carryOut : st_carryOut I) (hJ : LC p l e s m below meth c b k dC dI cI cZ cC cO Q q8 I 731) : LC p l e s m below meth c b k dC dI cI cZ cC cO Q q8 I 358 := by
  obtain ⟨hx, hb, hml, hown, hts0, hX, hbl, hK0, hN0⟩ := F
  have hA : ∀ q : Nat, s.heap.size ≤ q → (fun q : Nat => s.heap.size ≤ q) q := fun _ h => h
  have hbA : ¬ (fun q : Nat => s.heap.size ≤ q) b := Nat.not_le.mpr hbl
  have hi1 : vp_in (nI k + 1) L := by rw [nI_1]; exact vp_in_nI (by omega) (by omega)
  have hi2 : vp_in (nI k + 2) L := by rw [show nI k + 2 = nI (k + 2) from nI_add k 2]; exact vp_in_nI (by omega) (by omega)
  intro V G hI u d0 hd0 H locs ls hP hD hS hl
  have hts : ∀ w ∈ wsL_law, w.before #[Value.ref b] (s.setDrawn d0) = true := dr_words hts0 d0
  have hK : va_K (dC, dI) vwCl (wTys cI cZ cC cO) (s.setDrawn d0) := hK0
  have hN : NN (s.setDrawn d0) := hN0
  have hX : va_X b L xs (s.setDrawn d0) s.heap := hX
  obtain ⟨o7, o8, e7, e8, heq, hI⟩ := h_carryOut V G hI
  refine lv_aload_n hx hb dL_law_358 rfl (lv_at hl 2 rfl) ?_
  refine wViB (Bs := WB cI cZ cC cO Q q8 u V G) (Cs := [wX7 cI cZ cC (Q 0) (Q 1) (Q 2) (Q 3) (Q 4) (Q 5) (Q 6) (Q 7) (Q 8) (Q 9) V.1, wX4 cI cZ cC (Q 1) V.2.1, wH cI cZ cC cO (Q 4) u V.2.2.2.2.1, wX6 cI cZ cC (Q 5) V.2.2.2.2.2.1, wX0 cI cZ cC (Q 6) V.2.2.2.2.2.2.1, wX1 cI cZ cC (Q 9) V.2.2.2.2.2.2.2.2.2]) (Rs := [wX4 cI cZ cC (Q 2) V.2.2.1, wX4 cI cZ cC (Q 3) V.2.2.2.1, wX5 cI cZ cC (Q 7) V.2.2.2.2.2.2.2.1, wX3 cI cZ cC (Q 8) V.2.2.2.2.2.2.2.2.1, wX8 cI cZ cC q8 G]) (N1 := fun u7 : QH => [wX7 cI cZ cC (Q 0) (Q 1) (Q 2) (Q 3) (Q 4) (Q 5) (Q 6) (Q 7) (Q 8) (Q 9) o7.2.1, wX4 cI cZ cC (Q 1) o7.2.2.1, wH cI cZ cC cO (Q 4) u7 o7.2.2.2.1, wX6 cI cZ cC (Q 5) o7.2.2.2.2.1, wX0 cI cZ cC (Q 6) o7.2.2.2.2.2.1, wX1 cI cZ cC (Q 9) o7.2.2.2.2.2.2]) (B1 := fun u7 : QH => WB cI cZ cC cO Q q8 u7 (o7.2.1, o7.2.2.1, V.2.2.1, V.2.2.2.1, o7.2.2.2.1, o7.2.2.2.2.1, o7.2.2.2.2.2.1, V.2.2.2.2.2.2.2.1, V.2.2.2.2.2.2.2.2.1, o7.2.2.2.2.2.2) G) (rest := []) (As := []) ⟨hx, hb, hml, hown, hts⟩ (mX7_carryOut l dC dI cI cZ cC cO (Q 0) (Q 1) (Q 2) (Q 3) (Q 4) (Q 5) (Q 6) (Q 7) (Q 8) (Q 9) u _ _ _ _ _ _ _ _ e7) (cwV 0 hts gL_law_X7_carryOut rfl rfl rfl (by decide +kernel) ⟨Nat.le_of_ble_eq_true rfl, Nat.le_of_ble_eq_true rfl⟩) hK hN hP hD hS hA [0, 1, 4, 5, 6, 9] [2, 3, 7, 8, 10] [5, 6, 0, 1, 7, 8, 9, 2, 3, 10, 4] rfl rfl (fl6 _ _ _ _ _ _) (fun _ => fl6 _ _ _ _ _ _) (by decide) (by decide) (fun _ => rfl) 6 rfl rfl rfl rfl hl.1 rfl (Nat.le_of_ble_eq_true rfl) dL_law_359 ⟨Nat.le_of_ble_eq_true rfl, Nat.le_of_ble_eq_true rfl⟩ (fun u7 H locs hP hD hS => ?_)
  refine lv_aload_n hx hb dL_law_362 rfl (lv_at hl 1 rfl) ?_
  refine wViB (Bs := WB cI cZ cC cO Q q8 u7 (o7.2.1, o7.2.2.1, V.2.2.1, V.2.2.2.1, o7.2.2.2.1, o7.2.2.2.2.1, o7.2.2.2.2.2.1, V.2.2.2.2.2.2.2.1, V.2.2.2.2.2.2.2.2.1, o7.2.2.2.2.2.2) G) (Cs := [wX8 cI cZ cC q8 G]) (Rs := [wX7 cI cZ cC (Q 0) (Q 1) (Q 2) (Q 3) (Q 4) (Q 5) (Q 6) (Q 7) (Q 8) (Q 9) o7.2.1, wX4 cI cZ cC (Q 1) o7.2.2.1, wX4 cI cZ cC (Q 2) V.2.2.1, wX4 cI cZ cC (Q 3) V.2.2.2.1, wH cI cZ cC cO (Q 4) u7 o7.2.2.2.1, wX6 cI cZ cC (Q 5) o7.2.2.2.2.1, wX0 cI cZ cC (Q 6) o7.2.2.2.2.2.1, wX5 cI cZ cC (Q 7) V.2.2.2.2.2.2.2.1, wX3 cI cZ cC (Q 8) V.2.2.2.2.2.2.2.2.1, wX1 cI cZ cC (Q 9) o7.2.2.2.2.2.2]) (N1 := fun _ : Unit => [wX8 cI cZ cC q8 o8.2]) (B1 := fun _ : Unit => WB cI cZ cC cO Q q8 u7 (o7.2.1, o7.2.2.1, V.2.2.1, V.2.2.2.1, o7.2.2.2.1, o7.2.2.2.2.1, o7.2.2.2.2.2.1, V.2.2.2.2.2.2.2.1, V.2.2.2.2.2.2.2.2.1, o7.2.2.2.2.2.2) o8.2) (rest := [.int o7.1]) (As := []) ⟨hx, hb, hml, hown, hts⟩ (mX8_carryOut l dC dI cI cZ cC cO q8 _ _ _ e8) (cwV 0 hts gL_law_X8_carryOut rfl rfl rfl (by decide +kernel) ⟨Nat.le_of_ble_eq_true rfl, Nat.le_of_ble_eq_true rfl⟩) hK hN hP hD hS hA [10] [0, 1, 2, 3, 4, 5, 6, 7, 8, 9] [0, 1, 2, 3, 4, 5, 6, 7, 8, 9, 10] rfl rfl (fl1 _) (fun _ => fl1 _) (by decide) (by decide) (fun _ => rfl) 7 rfl rfl rfl rfl hl.1 rfl (Nat.le_of_ble_eq_true rfl) dL_law_363 ⟨Nat.le_of_ble_eq_true rfl, Nat.le_of_ble_eq_true rfl⟩ (fun _ H locs hP hD hS => ?_)
  refine lv_icmp_eq (tgt := 731) hx hb dL_law_366 (by decide) (fun _ => ?_) (fun hc => absurd heq hc)
  exact hJ _ _ hI u7 d0 hd0 H locs ls hP hD hS hl
set_option maxHeartbeats 20000000 in
set_option maxRecDepth 100000 in
theorem lc_why {p : Program} {l : Launch} {e : Env} {s : State} {m : MethodId} {below : List Frame} {meth : Method} {c : Code} {dC : Nat → ClassId} {dI : Nat → Nat → Nat} {cI cZ cC cO : ClassId} {b L k : Nat} {xs : Nat → Int32} {Q : Nat → Nat → Nat} {q8 : Nat → Nat} {I : GV → GX8 → Prop} (F : LF p s m c b L xs dC dI cI cZ cC cO) (hL : L ≤ 1536) (hk3 : k + 3 ≤ L) (h_why : st_why I) (hJ : LC p l e s m below meth c b k dC dI cI cZ cC cO Q q8 I 731) : LC p l e s m below meth c b k dC dI cI cZ cC cO Q q8 I 371 := by
  obtain ⟨hx, hb, hml, hown, hts0, hX, hbl, hK0, hN0⟩ := F
  have hA : ∀ q : Nat, s.heap.size ≤ q → (fun q : Nat => s.heap.size ≤ q) q := fun _ h => h
  have hbA : ¬ (fun q : Nat => s.heap.size ≤ q) b := Nat.not_le.mpr hbl
  have hi1 : vp_in (nI k + 1) L := by rw [nI_1]; exact vp_in_nI (by omega) (by omega)
  have hi2 : vp_in (nI k + 2) L := by rw [show nI k + 2 = nI (k + 2) from nI_add k 2]; exact vp_in_nI (by omega) (by omega)
  intro V G hI u d0 hd0 H locs ls hP hD hS hl
  have hts : ∀ w ∈ wsL_law, w.before #[Value.ref b] (s.setDrawn d0) = true := dr_words hts0 d0
  have hK : va_K (dC, dI) vwCl (wTys cI cZ cC cO) (s.setDrawn d0) := hK0
  have hN : NN (s.setDrawn d0) := hN0
  have hX : va_X b L xs (s.setDrawn d0) s.heap := hX
  obtain ⟨o7, o8, e7, e8, heq, hI⟩ := h_why V G (xs (nI k + 1).toNatClampNeg) hI
  refine lv_aload_n hx hb dL_law_371 rfl (lv_at hl 2 rfl) ?_
  refine lv_aload_n hx hb dL_law_372 rfl (lv_at hl 3 rfl) ?_
  refine lv_iload_n hx hb dL_law_373 rfl (lv_at hl 0 rfl) ?_
  refine lv_iconst (v := 1) hx hb dL_law_374 (by decide) ?_
  refine lv_iadd hx hb dL_law_375 ?_
  refine va_sld hx hb hX hbl hbA hS hi1 dL_law_376 ?_
  refine rVB (Bs := WB cI cZ cC cO Q q8 u V G) (Cs := [wX7 cI cZ cC (Q 0) (Q 1) (Q 2) (Q 3) (Q 4) (Q 5) (Q 6) (Q 7) (Q 8) (Q 9) V.1]) (rest := []) (As := [.int (xs (nI k + 1).toNatClampNeg)]) ⟨hx, hb, hml, hown, hts⟩ (mX7_why l dC dI cI cZ cC cO (Q 0) (Q 1) (Q 2) (Q 3) (Q 4) (Q 5) (Q 6) (Q 7) (Q 8) (Q 9) _ _ _ e7) (cwV 1 hts gL_law_X7_why rfl rfl rfl (by decide +kernel) ⟨Nat.le_of_ble_eq_true rfl, Nat.le_of_ble_eq_true rfl⟩) hK hN hP [0] rfl (fl1 _) 6 rfl rfl rfl rfl hl.1 rfl (Nat.le_of_ble_eq_true rfl) dL_law_377 ⟨Nat.le_of_ble_eq_true rfl, Nat.le_of_ble_eq_true rfl⟩ ?_
  refine lv_aload_n hx hb dL_law_380 rfl (lv_at hl 1 rfl) ?_
  refine lv_aload_n hx hb dL_law_381 rfl (lv_at hl 3 rfl) ?_
  refine lv_iload_n hx hb dL_law_382 rfl (lv_at hl 0 rfl) ?_
  refine lv_iconst (v := 1) hx hb dL_law_383 (by decide) ?_
  refine lv_iadd hx hb dL_law_384 ?_
  refine va_sld hx hb hX hbl hbA hS hi1 dL_law_385 ?_
  refine rVB (Bs := WB cI cZ cC cO Q q8 u V G) (Cs := [wX8 cI cZ cC q8 G]) (rest := [.int o7]) (As := [.int (xs (nI k + 1).toNatClampNeg)]) ⟨hx, hb, hml, hown, hts⟩ (mX8_why l dC dI cI cZ cC cO q8 _ _ _ e8) (cwV 1 hts gL_law_X8_why rfl rfl rfl (by decide +kernel) ⟨Nat.le_of_ble_eq_true rfl, Nat.le_of_ble_eq_true rfl⟩) hK hN hP [10] rfl (fl1 _) 7 rfl rfl rfl rfl hl.1 rfl (Nat.le_of_ble_eq_true rfl) dL_law_386 ⟨Nat.le_of_ble_eq_true rfl, Nat.le_of_ble_eq_true rfl⟩ ?_
  refine lv_icmp_eq (tgt := 731) hx hb dL_law_389 (by decide) (fun _ => ?_) (fun hc => absurd heq hc)
  exact hJ _ _ hI u d0 hd0 H locs ls hP hD hS hl
set_option maxHeartbeats 20000000 in
set_option maxRecDepth 100000 in
theorem lc_cell {p : Program} {l : Launch} {e : Env} {s : State} {m : MethodId} {below : List Frame} {meth : Method} {c : Code} {dC : Nat → ClassId} {dI : Nat → Nat → Nat} {cI cZ cC cO : ClassId} {b L k : Nat} {xs : Nat → Int32} {Q : Nat → Nat → Nat} {q8 : Nat → Nat} {I : GV → GX8 → Prop} (F : LF p s m c b L xs dC dI cI cZ cC cO) (hL : L ≤ 1536) (hk3 : k + 3 ≤ L) (h_cell : st_cell I) (hJ : LC p l e s m below meth c b k dC dI cI cZ cC cO Q q8 I 731) : LC p l e s m below meth c b k dC dI cI cZ cC cO Q q8 I 394 := by
  obtain ⟨hx, hb, hml, hown, hts0, hX, hbl, hK0, hN0⟩ := F
  have hA : ∀ q : Nat, s.heap.size ≤ q → (fun q : Nat => s.heap.size ≤ q) q := fun _ h => h
  have hbA : ¬ (fun q : Nat => s.heap.size ≤ q) b := Nat.not_le.mpr hbl
  have hi1 : vp_in (nI k + 1) L := by rw [nI_1]; exact vp_in_nI (by omega) (by omega)
  have hi2 : vp_in (nI k + 2) L := by rw [show nI k + 2 = nI (k + 2) from nI_add k 2]; exact vp_in_nI (by omega) (by omega)
  intro V G hI u d0 hd0 H locs ls hP hD hS hl
  have hts : ∀ w ∈ wsL_law, w.before #[Value.ref b] (s.setDrawn d0) = true := dr_words hts0 d0
  have hK : va_K (dC, dI) vwCl (wTys cI cZ cC cO) (s.setDrawn d0) := hK0
  have hN : NN (s.setDrawn d0) := hN0
  have hX : va_X b L xs (s.setDrawn d0) s.heap := hX
  obtain ⟨o7, o8, e7, e8, heq, hI⟩ := h_cell V G (xs (nI k + 1).toNatClampNeg) (xs (nI k + 2).toNatClampNeg) hI
  refine lv_aload_n hx hb dL_law_394 rfl (lv_at hl 2 rfl) ?_
  refine lv_aload_n hx hb dL_law_395 rfl (lv_at hl 3 rfl) ?_
  refine lv_iload_n hx hb dL_law_396 rfl (lv_at hl 0 rfl) ?_
  refine lv_iconst (v := 1) hx hb dL_law_397 (by decide) ?_
  refine lv_iadd hx hb dL_law_398 ?_
  refine va_sld hx hb hX hbl hbA hS hi1 dL_law_399 ?_
  refine lv_aload_n hx hb dL_law_400 rfl (lv_at hl 3 rfl) ?_
  refine lv_iload_n hx hb dL_law_401 rfl (lv_at hl 0 rfl) ?_
  refine lv_iconst (v := 2) hx hb dL_law_402 (by decide) ?_
  refine lv_iadd hx hb dL_law_403 ?_
  refine va_sld hx hb hX hbl hbA hS hi2 dL_law_404 ?_
  refine rVB (Bs := WB cI cZ cC cO Q q8 u V G) (Cs := [wX7 cI cZ cC (Q 0) (Q 1) (Q 2) (Q 3) (Q 4) (Q 5) (Q 6) (Q 7) (Q 8) (Q 9) V.1, wX4 cI cZ cC (Q 1) V.2.1]) (rest := []) (As := [.int (xs (nI k + 1).toNatClampNeg), .int (xs (nI k + 2).toNatClampNeg)]) ⟨hx, hb, hml, hown, hts⟩ (mX7_cell l dC dI cI cZ cC cO (Q 0) (Q 1) (Q 2) (Q 3) (Q 4) (Q 5) (Q 6) (Q 7) (Q 8) (Q 9) _ _ _ _ _ e7) (cwV 2 hts gL_law_X7_cell rfl rfl rfl (by decide +kernel) ⟨Nat.le_of_ble_eq_true rfl, Nat.le_of_ble_eq_true rfl⟩) hK hN hP [0, 1] rfl (fl2 _ _) 6 rfl rfl rfl rfl hl.1 rfl (Nat.le_of_ble_eq_true rfl) dL_law_405 ⟨Nat.le_of_ble_eq_true rfl, Nat.le_of_ble_eq_true rfl⟩ ?_
  refine lv_aload_n hx hb dL_law_408 rfl (lv_at hl 1 rfl) ?_
  refine lv_aload_n hx hb dL_law_409 rfl (lv_at hl 3 rfl) ?_
  refine lv_iload_n hx hb dL_law_410 rfl (lv_at hl 0 rfl) ?_
  refine lv_iconst (v := 1) hx hb dL_law_411 (by decide) ?_
  refine lv_iadd hx hb dL_law_412 ?_
  refine va_sld hx hb hX hbl hbA hS hi1 dL_law_413 ?_
  refine lv_aload_n hx hb dL_law_414 rfl (lv_at hl 3 rfl) ?_
  refine lv_iload_n hx hb dL_law_415 rfl (lv_at hl 0 rfl) ?_
  refine lv_iconst (v := 2) hx hb dL_law_416 (by decide) ?_
  refine lv_iadd hx hb dL_law_417 ?_
  refine va_sld hx hb hX hbl hbA hS hi2 dL_law_418 ?_
  refine rVB (Bs := WB cI cZ cC cO Q q8 u V G) (Cs := [wX8 cI cZ cC q8 G]) (rest := [.int o7]) (As := [.int (xs (nI k + 1).toNatClampNeg), .int (xs (nI k + 2).toNatClampNeg)]) ⟨hx, hb, hml, hown, hts⟩ (mX8_cell l dC dI cI cZ cC cO q8 _ _ _ _ e8) (cwV 2 hts gL_law_X8_cell rfl rfl rfl (by decide +kernel) ⟨Nat.le_of_ble_eq_true rfl, Nat.le_of_ble_eq_true rfl⟩) hK hN hP [10] rfl (fl1 _) 7 rfl rfl rfl rfl hl.1 rfl (Nat.le_of_ble_eq_true rfl) dL_law_419 ⟨Nat.le_of_ble_eq_true rfl, Nat.le_of_ble_eq_true rfl⟩ ?_
  refine lv_icmp_eq (tgt := 731) hx hb dL_law_422 (by decide) (fun _ => ?_) (fun hc => absurd heq hc)
  exact hJ _ _ hI u d0 hd0 H locs ls hP hD hS hl
set_option maxHeartbeats 20000000 in
set_option maxRecDepth 100000 in
theorem lc_grain {p : Program} {l : Launch} {e : Env} {s : State} {m : MethodId} {below : List Frame} {meth : Method} {c : Code} {dC : Nat → ClassId} {dI : Nat → Nat → Nat} {cI cZ cC cO : ClassId} {b L k : Nat} {xs : Nat → Int32} {Q : Nat → Nat → Nat} {q8 : Nat → Nat} {I : GV → GX8 → Prop} (F : LF p s m c b L xs dC dI cI cZ cC cO) (hL : L ≤ 1536) (hk3 : k + 3 ≤ L) (h_grain : st_grain I) (hJ : LC p l e s m below meth c b k dC dI cI cZ cC cO Q q8 I 731) : LC p l e s m below meth c b k dC dI cI cZ cC cO Q q8 I 427 := by
  obtain ⟨hx, hb, hml, hown, hts0, hX, hbl, hK0, hN0⟩ := F
  have hA : ∀ q : Nat, s.heap.size ≤ q → (fun q : Nat => s.heap.size ≤ q) q := fun _ h => h
  have hbA : ¬ (fun q : Nat => s.heap.size ≤ q) b := Nat.not_le.mpr hbl
  have hi1 : vp_in (nI k + 1) L := by rw [nI_1]; exact vp_in_nI (by omega) (by omega)
  have hi2 : vp_in (nI k + 2) L := by rw [show nI k + 2 = nI (k + 2) from nI_add k 2]; exact vp_in_nI (by omega) (by omega)
  intro V G hI u d0 hd0 H locs ls hP hD hS hl
  have hts : ∀ w ∈ wsL_law, w.before #[Value.ref b] (s.setDrawn d0) = true := dr_words hts0 d0
  have hK : va_K (dC, dI) vwCl (wTys cI cZ cC cO) (s.setDrawn d0) := hK0
  have hN : NN (s.setDrawn d0) := hN0
  have hX : va_X b L xs (s.setDrawn d0) s.heap := hX
  obtain ⟨o7, o8, e7, e8, heq, hI⟩ := h_grain V G (xs (nI k + 1).toNatClampNeg) (xs (nI k + 2).toNatClampNeg) hI
  refine lv_aload_n hx hb dL_law_427 rfl (lv_at hl 2 rfl) ?_
  refine lv_aload_n hx hb dL_law_428 rfl (lv_at hl 3 rfl) ?_
  refine lv_iload_n hx hb dL_law_429 rfl (lv_at hl 0 rfl) ?_
  refine lv_iconst (v := 1) hx hb dL_law_430 (by decide) ?_
  refine lv_iadd hx hb dL_law_431 ?_
  refine va_sld hx hb hX hbl hbA hS hi1 dL_law_432 ?_
  refine lv_aload_n hx hb dL_law_433 rfl (lv_at hl 3 rfl) ?_
  refine lv_iload_n hx hb dL_law_434 rfl (lv_at hl 0 rfl) ?_
  refine lv_iconst (v := 2) hx hb dL_law_435 (by decide) ?_
  refine lv_iadd hx hb dL_law_436 ?_
  refine va_sld hx hb hX hbl hbA hS hi2 dL_law_437 ?_
  refine wViB (Bs := WB cI cZ cC cO Q q8 u V G) (Cs := [wX7 cI cZ cC (Q 0) (Q 1) (Q 2) (Q 3) (Q 4) (Q 5) (Q 6) (Q 7) (Q 8) (Q 9) V.1, wX4 cI cZ cC (Q 1) V.2.1, wX5 cI cZ cC (Q 7) V.2.2.2.2.2.2.2.1, wX3 cI cZ cC (Q 8) V.2.2.2.2.2.2.2.2.1]) (Rs := [wX4 cI cZ cC (Q 2) V.2.2.1, wX4 cI cZ cC (Q 3) V.2.2.2.1, wH cI cZ cC cO (Q 4) u V.2.2.2.2.1, wX6 cI cZ cC (Q 5) V.2.2.2.2.2.1, wX0 cI cZ cC (Q 6) V.2.2.2.2.2.2.1, wX1 cI cZ cC (Q 9) V.2.2.2.2.2.2.2.2.2, wX8 cI cZ cC q8 G]) (N1 := fun _ : Unit => [wX7 cI cZ cC (Q 0) (Q 1) (Q 2) (Q 3) (Q 4) (Q 5) (Q 6) (Q 7) (Q 8) (Q 9) V.1, wX4 cI cZ cC (Q 1) V.2.1, wX5 cI cZ cC (Q 7) o7.2.1, wX3 cI cZ cC (Q 8) o7.2.2]) (B1 := fun _ : Unit => WB cI cZ cC cO Q q8 u (V.1, V.2.1, V.2.2.1, V.2.2.2.1, V.2.2.2.2.1, V.2.2.2.2.2.1, V.2.2.2.2.2.2.1, o7.2.1, o7.2.2, V.2.2.2.2.2.2.2.2.2) G) (rest := []) (As := [.int (xs (nI k + 1).toNatClampNeg), .int (xs (nI k + 2).toNatClampNeg)]) ⟨hx, hb, hml, hown, hts⟩ (mX7_grain l dC dI cI cZ cC cO (Q 0) (Q 1) (Q 2) (Q 3) (Q 4) (Q 5) (Q 6) (Q 7) (Q 8) (Q 9) _ _ _ _ _ _ _ _ e7) (cwV 2 hts gL_law_X7_grain rfl rfl rfl (by decide +kernel) ⟨Nat.le_of_ble_eq_true rfl, Nat.le_of_ble_eq_true rfl⟩) hK hN hP hD hS hA [0, 1, 7, 8] [2, 3, 4, 5, 6, 9, 10] [7, 8, 0, 1, 2, 3, 4, 9, 10, 5, 6] rfl rfl (fl4 _ _ _ _) (fun _ => fl4 _ _ _ _) (by decide) (by decide) (fun _ => rfl) 6 rfl rfl rfl rfl hl.1 rfl (Nat.le_of_ble_eq_true rfl) dL_law_438 ⟨Nat.le_of_ble_eq_true rfl, Nat.le_of_ble_eq_true rfl⟩ (fun _ H locs hP hD hS => ?_)
  refine lv_aload_n hx hb dL_law_441 rfl (lv_at hl 1 rfl) ?_
  refine lv_aload_n hx hb dL_law_442 rfl (lv_at hl 3 rfl) ?_
  refine lv_iload_n hx hb dL_law_443 rfl (lv_at hl 0 rfl) ?_
  refine lv_iconst (v := 1) hx hb dL_law_444 (by decide) ?_
  refine lv_iadd hx hb dL_law_445 ?_
  refine va_sld hx hb hX hbl hbA hS hi1 dL_law_446 ?_
  refine lv_aload_n hx hb dL_law_447 rfl (lv_at hl 3 rfl) ?_
  refine lv_iload_n hx hb dL_law_448 rfl (lv_at hl 0 rfl) ?_
  refine lv_iconst (v := 2) hx hb dL_law_449 (by decide) ?_
  refine lv_iadd hx hb dL_law_450 ?_
  refine va_sld hx hb hX hbl hbA hS hi2 dL_law_451 ?_
  refine rVB (Bs := WB cI cZ cC cO Q q8 u (V.1, V.2.1, V.2.2.1, V.2.2.2.1, V.2.2.2.2.1, V.2.2.2.2.2.1, V.2.2.2.2.2.2.1, o7.2.1, o7.2.2, V.2.2.2.2.2.2.2.2.2) G) (Cs := [wX8 cI cZ cC q8 G]) (rest := [.int o7.1]) (As := [.int (xs (nI k + 1).toNatClampNeg), .int (xs (nI k + 2).toNatClampNeg)]) ⟨hx, hb, hml, hown, hts⟩ (mX8_grain l dC dI cI cZ cC cO q8 _ _ _ _ e8) (cwV 2 hts gL_law_X8_grain rfl rfl rfl (by decide +kernel) ⟨Nat.le_of_ble_eq_true rfl, Nat.le_of_ble_eq_true rfl⟩) hK hN hP [10] rfl (fl1 _) 7 rfl rfl rfl rfl hl.1 rfl (Nat.le_of_ble_eq_true rfl) dL_law_452 ⟨Nat.le_of_ble_eq_true rfl, Nat.le_of_ble_eq_true rfl⟩ ?_
  refine lv_icmp_eq (tgt := 731) hx hb dL_law_455 (by decide) (fun _ => ?_) (fun hc => absurd heq hc)
  exact hJ _ _ hI u d0 hd0 H locs ls hP hD hS hl
set_option maxHeartbeats 20000000 in
set_option maxRecDepth 100000 in
theorem lc_screens {p : Program} {l : Launch} {e : Env} {s : State} {m : MethodId} {below : List Frame} {meth : Method} {c : Code} {dC : Nat → ClassId} {dI : Nat → Nat → Nat} {cI cZ cC cO : ClassId} {b L k : Nat} {xs : Nat → Int32} {Q : Nat → Nat → Nat} {q8 : Nat → Nat} {I : GV → GX8 → Prop} (F : LF p s m c b L xs dC dI cI cZ cC cO) (hL : L ≤ 1536) (hk3 : k + 3 ≤ L) (h_screens : st_screens I) (hJ : LC p l e s m below meth c b k dC dI cI cZ cC cO Q q8 I 731) : LC p l e s m below meth c b k dC dI cI cZ cC cO Q q8 I 460 := by
  obtain ⟨hx, hb, hml, hown, hts0, hX, hbl, hK0, hN0⟩ := F
  have hA : ∀ q : Nat, s.heap.size ≤ q → (fun q : Nat => s.heap.size ≤ q) q := fun _ h => h
  have hbA : ¬ (fun q : Nat => s.heap.size ≤ q) b := Nat.not_le.mpr hbl
  have hi1 : vp_in (nI k + 1) L := by rw [nI_1]; exact vp_in_nI (by omega) (by omega)
  have hi2 : vp_in (nI k + 2) L := by rw [show nI k + 2 = nI (k + 2) from nI_add k 2]; exact vp_in_nI (by omega) (by omega)
  intro V G hI u d0 hd0 H locs ls hP hD hS hl
  have hts : ∀ w ∈ wsL_law, w.before #[Value.ref b] (s.setDrawn d0) = true := dr_words hts0 d0
  have hK : va_K (dC, dI) vwCl (wTys cI cZ cC cO) (s.setDrawn d0) := hK0
  have hN : NN (s.setDrawn d0) := hN0
  have hX : va_X b L xs (s.setDrawn d0) s.heap := hX
  obtain ⟨o7, o8, e7, e8, heq, hI⟩ := h_screens V G (xs (nI k + 1).toNatClampNeg) hI
  refine lv_aload_n hx hb dL_law_460 rfl (lv_at hl 2 rfl) ?_
  refine lv_aload_n hx hb dL_law_461 rfl (lv_at hl 3 rfl) ?_
  refine lv_iload_n hx hb dL_law_462 rfl (lv_at hl 0 rfl) ?_
  refine lv_iconst (v := 1) hx hb dL_law_463 (by decide) ?_
  refine lv_iadd hx hb dL_law_464 ?_
  refine va_sld hx hb hX hbl hbA hS hi1 dL_law_465 ?_
  refine rVB (Bs := WB cI cZ cC cO Q q8 u V G) (Cs := [wX7 cI cZ cC (Q 0) (Q 1) (Q 2) (Q 3) (Q 4) (Q 5) (Q 6) (Q 7) (Q 8) (Q 9) V.1, wX4 cI cZ cC (Q 1) V.2.1]) (rest := []) (As := [.int (xs (nI k + 1).toNatClampNeg)]) ⟨hx, hb, hml, hown, hts⟩ (mX7_screens l dC dI cI cZ cC cO (Q 0) (Q 1) (Q 2) (Q 3) (Q 4) (Q 5) (Q 6) (Q 7) (Q 8) (Q 9) _ _ _ _ e7) (cwV 1 hts gL_law_X7_screens rfl rfl rfl (by decide +kernel) ⟨Nat.le_of_ble_eq_true rfl, Nat.le_of_ble_eq_true rfl⟩) hK hN hP [0, 1] rfl (fl2 _ _) 6 rfl rfl rfl rfl hl.1 rfl (Nat.le_of_ble_eq_true rfl) dL_law_466 ⟨Nat.le_of_ble_eq_true rfl, Nat.le_of_ble_eq_true rfl⟩ ?_
  refine lv_aload_n hx hb dL_law_469 rfl (lv_at hl 1 rfl) ?_
  refine lv_aload_n hx hb dL_law_470 rfl (lv_at hl 3 rfl) ?_
  refine lv_iload_n hx hb dL_law_471 rfl (lv_at hl 0 rfl) ?_
  refine lv_iconst (v := 1) hx hb dL_law_472 (by decide) ?_
  refine lv_iadd hx hb dL_law_473 ?_
  refine va_sld hx hb hX hbl hbA hS hi1 dL_law_474 ?_
  refine rVB (Bs := WB cI cZ cC cO Q q8 u V G) (Cs := [wX8 cI cZ cC q8 G]) (rest := [.int o7]) (As := [.int (xs (nI k + 1).toNatClampNeg)]) ⟨hx, hb, hml, hown, hts⟩ (mX8_screens l dC dI cI cZ cC cO q8 _ _ _ e8) (cwV 1 hts gL_law_X8_screens rfl rfl rfl (by decide +kernel) ⟨Nat.le_of_ble_eq_true rfl, Nat.le_of_ble_eq_true rfl⟩) hK hN hP [10] rfl (fl1 _) 7 rfl rfl rfl rfl hl.1 rfl (Nat.le_of_ble_eq_true rfl) dL_law_475 ⟨Nat.le_of_ble_eq_true rfl, Nat.le_of_ble_eq_true rfl⟩ ?_
  refine lv_icmp_eq (tgt := 731) hx hb dL_law_478 (by decide) (fun _ => ?_) (fun hc => absurd heq hc)
  exact hJ _ _ hI u d0 hd0 H locs ls hP hD hS hl
