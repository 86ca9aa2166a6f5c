set_option maxHeartbeats 20000000 in
set_option maxRecDepth 100000 in
theorem lc_wash {p : Program} {l : Launch} {e : Env} {s : State} {m : MethodId} {below : List Frame} {meth : Method} {c : Code} {dC : Nat → ClassId} {dI : Nat → Nat → Nat} {cI cZ cC cO : ClassId} {b L k : Nat} {xs : Nat → Int32} {Q : Nat → Nat → Nat} {q8 : Nat → Nat} {I : GV → GX8 → Prop} (F : LF p s m c b L xs dC dI cI cZ cC cO) (hL : L ≤ 1536) (hk3 : k + 3 ≤ L) (h_wash : st_wash I) (hJ : LC p l e s m below meth c b k dC dI cI cZ cC cO Q q8 I 731) : LC p l e s m below meth c b k dC dI cI cZ cC cO Q q8 I 263 := by
  obtain ⟨hx, hb, hml, hown, hts0, hX, hbl, hK0, hN0⟩ := F
  have hA : ∀ q : Nat, s.heap.size ≤ q → (fun q : Nat => s.heap.size ≤ q) q := fun _ h => h
  have hbA : ¬ (fun q : Nat => s.heap.size ≤ q) b := Nat.not_le.mpr hbl
  have hi1 : vp_in (nI k + 1) L := by rw [nI_1]; exact vp_in_nI (by omega) (by omega)
  have hi2 : vp_in (nI k + 2) L := by rw [show nI k + 2 = nI (k + 2) from nI_add k 2]; exact vp_in_nI (by omega) (by omega)
  intro V G hI u d0 hd0 H locs ls hP hD hS hl
  have hts : ∀ w ∈ wsL_law, w.before #[Value.ref b] (s.setDrawn d0) = true := dr_words hts0 d0
  have hK : va_K (dC, dI) vwCl (wTys cI cZ cC cO) (s.setDrawn d0) := hK0
  have hN : NN (s.setDrawn d0) := hN0
  have hX : va_X b L xs (s.setDrawn d0) s.heap := hX
  obtain ⟨o7, o8, e7, e8, heq, hI⟩ := h_wash V G hI
  refine lv_aload_n hx hb dL_law_263 rfl (lv_at hl 2 rfl) ?_
  refine wViB (Bs := WB cI cZ cC cO Q q8 u V G) (Cs := [wX7 cI cZ cC (Q 0) (Q 1) (Q 2) (Q 3) (Q 4) (Q 5) (Q 6) (Q 7) (Q 8) (Q 9) V.1, wX4 cI cZ cC (Q 1) V.2.1, wH cI cZ cC cO (Q 4) u V.2.2.2.2.1, wX0 cI cZ cC (Q 6) V.2.2.2.2.2.2.1]) (Rs := [wX4 cI cZ cC (Q 2) V.2.2.1, wX4 cI cZ cC (Q 3) V.2.2.2.1, wX6 cI cZ cC (Q 5) V.2.2.2.2.2.1, wX5 cI cZ cC (Q 7) V.2.2.2.2.2.2.2.1, wX3 cI cZ cC (Q 8) V.2.2.2.2.2.2.2.2.1, wX1 cI cZ cC (Q 9) V.2.2.2.2.2.2.2.2.2, wX8 cI cZ cC q8 G]) (N1 := fun u7 : QH => [wX7 cI cZ cC (Q 0) (Q 1) (Q 2) (Q 3) (Q 4) (Q 5) (Q 6) (Q 7) (Q 8) (Q 9) o7.2.1, wX4 cI cZ cC (Q 1) o7.2.2.1, wH cI cZ cC cO (Q 4) u7 o7.2.2.2.1, wX0 cI cZ cC (Q 6) o7.2.2.2.2]) (B1 := fun u7 : QH => WB cI cZ cC cO Q q8 u7 (o7.2.1, o7.2.2.1, V.2.2.1, V.2.2.2.1, o7.2.2.2.1, V.2.2.2.2.2.1, o7.2.2.2.2, V.2.2.2.2.2.2.2.1, V.2.2.2.2.2.2.2.2.1, V.2.2.2.2.2.2.2.2.2) G) (rest := []) (As := []) ⟨hx, hb, hml, hown, hts⟩ (mX7_wash l dC dI cI cZ cC cO (Q 0) (Q 1) (Q 2) (Q 3) (Q 4) (Q 5) (Q 6) (Q 7) (Q 8) (Q 9) u _ _ _ _ _ _ e7) (cwV 0 hts gL_law_X7_wash rfl rfl rfl (by decide +kernel) ⟨Nat.le_of_ble_eq_true rfl, Nat.le_of_ble_eq_true rfl⟩) hK hN hP hD hS hA [0, 1, 4, 6] [2, 3, 5, 7, 8, 9, 10] [7, 8, 0, 1, 9, 2, 10, 3, 4, 5, 6] rfl rfl (fl4 _ _ _ _) (fun _ => fl4 _ _ _ _) (by decide) (by decide) (fun _ => rfl) 6 rfl rfl rfl rfl hl.1 rfl (Nat.le_of_ble_eq_true rfl) dL_law_264 ⟨Nat.le_of_ble_eq_true rfl, Nat.le_of_ble_eq_true rfl⟩ (fun u7 H locs hP hD hS => ?_)
  refine lv_aload_n hx hb dL_law_267 rfl (lv_at hl 1 rfl) ?_
  refine wViB (Bs := WB cI cZ cC cO Q q8 u7 (o7.2.1, o7.2.2.1, V.2.2.1, V.2.2.2.1, o7.2.2.2.1, V.2.2.2.2.2.1, o7.2.2.2.2, V.2.2.2.2.2.2.2.1, V.2.2.2.2.2.2.2.2.1, V.2.2.2.2.2.2.2.2.2) G) (Cs := [wX8 cI cZ cC q8 G]) (Rs := [wX7 cI cZ cC (Q 0) (Q 1) (Q 2) (Q 3) (Q 4) (Q 5) (Q 6) (Q 7) (Q 8) (Q 9) o7.2.1, wX4 cI cZ cC (Q 1) o7.2.2.1, wX4 cI cZ cC (Q 2) V.2.2.1, wX4 cI cZ cC (Q 3) V.2.2.2.1, wH cI cZ cC cO (Q 4) u7 o7.2.2.2.1, wX6 cI cZ cC (Q 5) V.2.2.2.2.2.1, wX0 cI cZ cC (Q 6) o7.2.2.2.2, wX5 cI cZ cC (Q 7) V.2.2.2.2.2.2.2.1, wX3 cI cZ cC (Q 8) V.2.2.2.2.2.2.2.2.1, wX1 cI cZ cC (Q 9) V.2.2.2.2.2.2.2.2.2]) (N1 := fun _ : Unit => [wX8 cI cZ cC q8 o8.2]) (B1 := fun _ : Unit => WB cI cZ cC cO Q q8 u7 (o7.2.1, o7.2.2.1, V.2.2.1, V.2.2.2.1, o7.2.2.2.1, V.2.2.2.2.2.1, o7.2.2.2.2, V.2.2.2.2.2.2.2.1, V.2.2.2.2.2.2.2.2.1, V.2.2.2.2.2.2.2.2.2) o8.2) (rest := [.int o7.1]) (As := []) ⟨hx, hb, hml, hown, hts⟩ (mX8_wash l dC dI cI cZ cC cO q8 _ _ _ e8) (cwV 0 hts gL_law_X8_wash rfl rfl rfl (by decide +kernel) ⟨Nat.le_of_ble_eq_true rfl, Nat.le_of_ble_eq_true rfl⟩) hK hN hP hD hS hA [10] [0, 1, 2, 3, 4, 5, 6, 7, 8, 9] [0, 1, 2, 3, 4, 5, 6, 7, 8, 9, 10] rfl rfl (fl1 _) (fun _ => fl1 _) (by decide) (by decide) (fun _ => rfl) 7 rfl rfl rfl rfl hl.1 rfl (Nat.le_of_ble_eq_true rfl) dL_law_268 ⟨Nat.le_of_ble_eq_true rfl, Nat.le_of_ble_eq_true rfl⟩ (fun _ H locs hP hD hS => ?_)
  refine lv_icmp_eq (tgt := 731) hx hb dL_law_271 (by decide) (fun _ => ?_) (fun hc => absurd heq hc)
  exact hJ _ _ hI u7 d0 hd0 H locs ls hP hD hS hl
set_option maxHeartbeats 20000000 in
set_option maxRecDepth 100000 in
theorem lc_set {p : Program} {l : Launch} {e : Env} {s : State} {m : MethodId} {below : List Frame} {meth : Method} {c : Code} {dC : Nat → ClassId} {dI : Nat → Nat → Nat} {cI cZ cC cO : ClassId} {b L k : Nat} {xs : Nat → Int32} {Q : Nat → Nat → Nat} {q8 : Nat → Nat} {I : GV → GX8 → Prop} (F : LF p s m c b L xs dC dI cI cZ cC cO) (hL : L ≤ 1536) (hk3 : k + 3 ≤ L) (h_set : st_set I) (hJ : LC p l e s m below meth c b k dC dI cI cZ cC cO Q q8 I 731) : LC p l e s m below meth c b k dC dI cI cZ cC cO Q q8 I 276 := by
  obtain ⟨hx, hb, hml, hown, hts0, hX, hbl, hK0, hN0⟩ := F
  have hA : ∀ q : Nat, s.heap.size ≤ q → (fun q : Nat => s.heap.size ≤ q) q := fun _ h => h
  have hbA : ¬ (fun q : Nat => s.heap.size ≤ q) b := Nat.not_le.mpr hbl
  have hi1 : vp_in (nI k + 1) L := by rw [nI_1]; exact vp_in_nI (by omega) (by omega)
  have hi2 : vp_in (nI k + 2) L := by rw [show nI k + 2 = nI (k + 2) from nI_add k 2]; exact vp_in_nI (by omega) (by omega)
  intro V G hI u d0 hd0 H locs ls hP hD hS hl
  have hts : ∀ w ∈ wsL_law, w.before #[Value.ref b] (s.setDrawn d0) = true := dr_words hts0 d0
  have hK : va_K (dC, dI) vwCl (wTys cI cZ cC cO) (s.setDrawn d0) := hK0
  have hN : NN (s.setDrawn d0) := hN0
  have hX : va_X b L xs (s.setDrawn d0) s.heap := hX
  obtain ⟨o7, o8, e7, e8, heq, hI⟩ := h_set V G (xs (nI k + 1).toNatClampNeg) (xs (nI k + 2).toNatClampNeg) hI
  refine lv_aload_n hx hb dL_law_276 rfl (lv_at hl 2 rfl) ?_
  refine lv_aload_n hx hb dL_law_277 rfl (lv_at hl 3 rfl) ?_
  refine lv_iload_n hx hb dL_law_278 rfl (lv_at hl 0 rfl) ?_
  refine lv_iconst (v := 1) hx hb dL_law_279 (by decide) ?_
  refine lv_iadd hx hb dL_law_280 ?_
  refine va_sld hx hb hX hbl hbA hS hi1 dL_law_281 ?_
  refine lv_aload_n hx hb dL_law_282 rfl (lv_at hl 3 rfl) ?_
  refine lv_iload_n hx hb dL_law_283 rfl (lv_at hl 0 rfl) ?_
  refine lv_iconst (v := 2) hx hb dL_law_284 (by decide) ?_
  refine lv_iadd hx hb dL_law_285 ?_
  refine va_sld hx hb hX hbl hbA hS hi2 dL_law_286 ?_
  refine wViB (Bs := WB cI cZ cC cO Q q8 u V G) (Cs := [wX7 cI cZ cC (Q 0) (Q 1) (Q 2) (Q 3) (Q 4) (Q 5) (Q 6) (Q 7) (Q 8) (Q 9) V.1, wX4 cI cZ cC (Q 1) V.2.1, wH cI cZ cC cO (Q 4) u V.2.2.2.2.1]) (Rs := [wX4 cI cZ cC (Q 2) V.2.2.1, wX4 cI cZ cC (Q 3) V.2.2.2.1, wX6 cI cZ cC (Q 5) V.2.2.2.2.2.1, wX0 cI cZ cC (Q 6) V.2.2.2.2.2.2.1, wX5 cI cZ cC (Q 7) V.2.2.2.2.2.2.2.1, wX3 cI cZ cC (Q 8) V.2.2.2.2.2.2.2.2.1, wX1 cI cZ cC (Q 9) V.2.2.2.2.2.2.2.2.2, wX8 cI cZ cC q8 G]) (N1 := fun u7 : QH => [wX7 cI cZ cC (Q 0) (Q 1) (Q 2) (Q 3) (Q 4) (Q 5) (Q 6) (Q 7) (Q 8) (Q 9) o7.2.1, wX4 cI cZ cC (Q 1) o7.2.2.1, wH cI cZ cC cO (Q 4) u7 o7.2.2.2]) (B1 := fun u7 : QH => WB cI cZ cC cO Q q8 u7 (o7.2.1, o7.2.2.1, V.2.2.1, V.2.2.2.1, o7.2.2.2, V.2.2.2.2.2.1, V.2.2.2.2.2.2.1, V.2.2.2.2.2.2.2.1, V.2.2.2.2.2.2.2.2.1, V.2.2.2.2.2.2.2.2.2) G) (rest := []) (As := [.int (xs (nI k + 1).toNatClampNeg), .int (xs (nI k + 2).toNatClampNeg)]) ⟨hx, hb, hml, hown, hts⟩ (mX7_set l dC dI cI cZ cC cO (Q 0) (Q 1) (Q 2) (Q 3) (Q 4) (Q 5) (Q 6) (Q 7) (Q 8) (Q 9) u _ _ _ _ _ _ _ e7) (cwV 2 hts gL_law_X7_set rfl rfl rfl (by decide +kernel) ⟨Nat.le_of_ble_eq_true rfl, Nat.le_of_ble_eq_true rfl⟩) hK hN hP hD hS hA [0, 1, 4] [2, 3, 5, 6, 7, 8, 9, 10] [8, 9, 0, 1, 10, 2, 3, 4, 5, 6, 7] rfl rfl (fl3 _ _ _) (fun _ => fl3 _ _ _) (by decide) (by decide) (fun _ => rfl) 6 rfl rfl rfl rfl hl.1 rfl (Nat.le_of_ble_eq_true rfl) dL_law_287 ⟨Nat.le_of_ble_eq_true rfl, Nat.le_of_ble_eq_true rfl⟩ (fun u7 H locs hP hD hS => ?_)
  refine lv_aload_n hx hb dL_law_290 rfl (lv_at hl 1 rfl) ?_
  refine lv_aload_n hx hb dL_law_291 rfl (lv_at hl 3 rfl) ?_
  refine lv_iload_n hx hb dL_law_292 rfl (lv_at hl 0 rfl) ?_
  refine lv_iconst (v := 1) hx hb dL_law_293 (by decide) ?_
  refine lv_iadd hx hb dL_law_294 ?_
  refine va_sld hx hb hX hbl hbA hS hi1 dL_law_295 ?_
  refine lv_aload_n hx hb dL_law_296 rfl (lv_at hl 3 rfl) ?_
  refine lv_iload_n hx hb dL_law_297 rfl (lv_at hl 0 rfl) ?_
  refine lv_iconst (v := 2) hx hb dL_law_298 (by decide) ?_
  refine lv_iadd hx hb dL_law_299 ?_
  refine va_sld hx hb hX hbl hbA hS hi2 dL_law_300 ?_
  refine wViB (Bs := WB cI cZ cC cO Q q8 u7 (o7.2.1, o7.2.2.1, V.2.2.1, V.2.2.2.1, o7.2.2.2, V.2.2.2.2.2.1, V.2.2.2.2.2.2.1, V.2.2.2.2.2.2.2.1, V.2.2.2.2.2.2.2.2.1, V.2.2.2.2.2.2.2.2.2) G) (Cs := [wX8 cI cZ cC q8 G]) (Rs := [wX7 cI cZ cC (Q 0) (Q 1) (Q 2) (Q 3) (Q 4) (Q 5) (Q 6) (Q 7) (Q 8) (Q 9) o7.2.1, wX4 cI cZ cC (Q 1) o7.2.2.1, wX4 cI cZ cC (Q 2) V.2.2.1, wX4 cI cZ cC (Q 3) V.2.2.2.1, wH cI cZ cC cO (Q 4) u7 o7.2.2.2, wX6 cI cZ cC (Q 5) V.2.2.2.2.2.1, wX0 cI cZ cC (Q 6) V.2.2.2.2.2.2.1, wX5 cI cZ cC (Q 7) V.2.2.2.2.2.2.2.1, wX3 cI cZ cC (Q 8) V.2.2.2.2.2.2.2.2.1, wX1 cI cZ cC (Q 9) V.2.2.2.2.2.2.2.2.2]) (N1 := fun _ : Unit => [wX8 cI cZ cC q8 o8.2]) (B1 := fun _ : Unit => WB cI cZ cC cO Q q8 u7 (o7.2.1, o7.2.2.1, V.2.2.1, V.2.2.2.1, o7.2.2.2, V.2.2.2.2.2.1, V.2.2.2.2.2.2.1, V.2.2.2.2.2.2.2.1, V.2.2.2.2.2.2.2.2.1, V.2.2.2.2.2.2.2.2.2) o8.2) (rest := [.int o7.1]) (As := [.int (xs (nI k + 1).toNatClampNeg), .int (xs (nI k + 2).toNatClampNeg)]) ⟨hx, hb, hml, hown, hts⟩ (mX8_set l dC dI cI cZ cC cO q8 _ _ _ _ _ e8) (cwV 2 hts gL_law_X8_set rfl rfl rfl (by decide +kernel) ⟨Nat.le_of_ble_eq_true rfl, Nat.le_of_ble_eq_true rfl⟩) hK hN hP hD hS hA [10] [0, 1, 2, 3, 4, 5, 6, 7, 8, 9] [0, 1, 2, 3, 4, 5, 6, 7, 8, 9, 10] rfl rfl (fl1 _) (fun _ => fl1 _) (by decide) (by decide) (fun _ => rfl) 7 rfl rfl rfl rfl hl.1 rfl (Nat.le_of_ble_eq_true rfl) dL_law_301 ⟨Nat.le_of_ble_eq_true rfl, Nat.le_of_ble_eq_true rfl⟩ (fun _ H locs hP hD hS => ?_)
  refine lv_icmp_eq (tgt := 731) hx hb dL_law_304 (by decide) (fun _ => ?_) (fun hc => absurd heq hc)
  exact hJ _ _ hI u7 d0 hd0 H locs ls hP hD hS hl
set_option maxHeartbeats 20000000 in
set_option maxRecDepth 100000 in
theorem lc_append {p : Program} {l : Launch} {e : Env} {s : State} {m : MethodId} {below : List Frame} {meth : Method} {c : Code} {dC : Nat → ClassId} {dI : Nat → Nat → Nat} {cI cZ cC cO : ClassId} {b L k : Nat} {xs : Nat → Int32} {Q : Nat → Nat → Nat} {q8 : Nat → Nat} {I : GV → GX8 → Prop} (F : LF p s m c b L xs dC dI cI cZ cC cO) (hL : L ≤ 1536) (hk3 : k + 3 ≤ L) (h_append : st_append I) (hJ : LC p l e s m below meth c b k dC dI cI cZ cC cO Q q8 I 731) : LC p l e s m below meth c b k dC dI cI cZ cC cO Q q8 I 309 := by
  obtain ⟨hx, hb, hml, hown, hts0, hX, hbl, hK0, hN0⟩ := F
  have hA : ∀ q : Nat, s.heap.size ≤ q → (fun q : Nat => s.heap.size ≤ q) q := fun _ h => h
  have hbA : ¬ (fun q : Nat => s.heap.size ≤ q) b := Nat.not_le.mpr hbl
  have hi1 : vp_in (nI k + 1) L := by rw [nI_1]; exact vp_in_nI (by omega) (by omega)
  have hi2 : vp_in (nI k + 2) L := by rw [show nI k + 2 = nI (k + 2) from nI_add k 2]; exact vp_in_nI (by omega) (by omega)
  intro V G hI u d0 hd0 H locs ls hP hD hS hl
  have hts : ∀ w ∈ wsL_law, w.before #[Value.ref b] (s.setDrawn d0) = true := dr_words hts0 d0
  have hK : va_K (dC, dI) vwCl (wTys cI cZ cC cO) (s.setDrawn d0) := hK0
  have hN : NN (s.setDrawn d0) := hN0
  have hX : va_X b L xs (s.setDrawn d0) s.heap := hX
  obtain ⟨o7, o8, e7, e8, heq, hI⟩ := h_append V G (xs (nI k + 1).toNatClampNeg) hI
  refine lv_aload_n hx hb dL_law_309 rfl (lv_at hl 2 rfl) ?_
  refine lv_aload_n hx hb dL_law_310 rfl (lv_at hl 3 rfl) ?_
  refine lv_iload_n hx hb dL_law_311 rfl (lv_at hl 0 rfl) ?_
  refine lv_iconst (v := 1) hx hb dL_law_312 (by decide) ?_
  refine lv_iadd hx hb dL_law_313 ?_
  refine va_sld hx hb hX hbl hbA hS hi1 dL_law_314 ?_
  refine wViB (Bs := WB cI cZ cC cO Q q8 u V G) (Cs := [wX7 cI cZ cC (Q 0) (Q 1) (Q 2) (Q 3) (Q 4) (Q 5) (Q 6) (Q 7) (Q 8) (Q 9) V.1, wX1 cI cZ cC (Q 9) V.2.2.2.2.2.2.2.2.2]) (Rs := [wX4 cI cZ cC (Q 1) V.2.1, wX4 cI cZ cC (Q 2) V.2.2.1, wX4 cI cZ cC (Q 3) V.2.2.2.1, wH cI cZ cC cO (Q 4) u V.2.2.2.2.1, wX6 cI cZ cC (Q 5) V.2.2.2.2.2.1, wX0 cI cZ cC (Q 6) V.2.2.2.2.2.2.1, wX5 cI cZ cC (Q 7) V.2.2.2.2.2.2.2.1, wX3 cI cZ cC (Q 8) V.2.2.2.2.2.2.2.2.1, wX8 cI cZ cC q8 G]) (N1 := fun _ : Unit => [wX7 cI cZ cC (Q 0) (Q 1) (Q 2) (Q 3) (Q 4) (Q 5) (Q 6) (Q 7) (Q 8) (Q 9) V.1, wX1 cI cZ cC (Q 9) o7.2]) (B1 := fun _ : Unit => WB cI cZ cC cO Q q8 u (V.1, V.2.1, V.2.2.1, V.2.2.2.1, V.2.2.2.2.1, V.2.2.2.2.2.1, V.2.2.2.2.2.2.1, V.2.2.2.2.2.2.2.1, V.2.2.2.2.2.2.2.2.1, o7.2) G) (rest := []) (As := [.int (xs (nI k + 1).toNatClampNeg)]) ⟨hx, hb, hml, hown, hts⟩ (mX7_append l dC dI cI cZ cC cO (Q 0) (Q 1) (Q 2) (Q 3) (Q 4) (Q 5) (Q 6) (Q 7) (Q 8) (Q 9) _ _ _ _ _ e7) (cwV 1 hts gL_law_X7_append rfl rfl rfl (by decide +kernel) ⟨Nat.le_of_ble_eq_true rfl, Nat.le_of_ble_eq_true rfl⟩) hK hN hP hD hS hA [0, 9] [1, 2, 3, 4, 5, 6, 7, 8, 10] [9, 0, 1, 2, 3, 4, 5, 6, 7, 10, 8] rfl rfl (fl2 _ _) (fun _ => fl2 _ _) (by decide) (by decide) (fun _ => rfl) 6 rfl rfl rfl rfl hl.1 rfl (Nat.le_of_ble_eq_true rfl) dL_law_315 ⟨Nat.le_of_ble_eq_true rfl, Nat.le_of_ble_eq_true rfl⟩ (fun _ H locs hP hD hS => ?_)
  refine lv_aload_n hx hb dL_law_318 rfl (lv_at hl 1 rfl) ?_
  refine lv_aload_n hx hb dL_law_319 rfl (lv_at hl 3 rfl) ?_
  refine lv_iload_n hx hb dL_law_320 rfl (lv_at hl 0 rfl) ?_
  refine lv_iconst (v := 1) hx hb dL_law_321 (by decide) ?_
  refine lv_iadd hx hb dL_law_322 ?_
  refine va_sld hx hb hX hbl hbA hS hi1 dL_law_323 ?_
  refine wViB (Bs := WB cI cZ cC cO Q q8 u (V.1, V.2.1, V.2.2.1, V.2.2.2.1, V.2.2.2.2.1, V.2.2.2.2.2.1, V.2.2.2.2.2.2.1, V.2.2.2.2.2.2.2.1, V.2.2.2.2.2.2.2.2.1, o7.2) G) (Cs := [wX8 cI cZ cC q8 G]) (Rs := [wX7 cI cZ cC (Q 0) (Q 1) (Q 2) (Q 3) (Q 4) (Q 5) (Q 6) (Q 7) (Q 8) (Q 9) V.1, wX4 cI cZ cC (Q 1) V.2.1, wX4 cI cZ cC (Q 2) V.2.2.1, wX4 cI cZ cC (Q 3) V.2.2.2.1, wH cI cZ cC cO (Q 4) u V.2.2.2.2.1, wX6 cI cZ cC (Q 5) V.2.2.2.2.2.1, wX0 cI cZ cC (Q 6) V.2.2.2.2.2.2.1, wX5 cI cZ cC (Q 7) V.2.2.2.2.2.2.2.1, wX3 cI cZ cC (Q 8) V.2.2.2.2.2.2.2.2.1, wX1 cI cZ cC (Q 9) o7.2]) (N1 := fun _ : Unit => [wX8 cI cZ cC q8 o8.2]) (B1 := fun _ : Unit => WB cI cZ cC cO Q q8 u (V.1, V.2.1, V.2.2.1, V.2.2.2.1, V.2.2.2.2.1, V.2.2.2.2.2.1, V.2.2.2.2.2.2.1, V.2.2.2.2.2.2.2.1, V.2.2.2.2.2.2.2.2.1, o7.2) o8.2) (rest := [.int o7.1]) (As := [.int (xs (nI k + 1).toNatClampNeg)]) ⟨hx, hb, hml, hown, hts⟩ (mX8_append l dC dI cI cZ cC cO q8 _ _ _ _ e8) (cwV 1 hts gL_law_X8_append rfl rfl rfl (by decide +kernel) ⟨Nat.le_of_ble_eq_true rfl, Nat.le_of_ble_eq_true rfl⟩) hK hN hP hD hS hA [10] [0, 1, 2, 3, 4, 5, 6, 7, 8, 9] [0, 1, 2, 3, 4, 5, 6, 7, 8, 9, 10] rfl rfl (fl1 _) (fun _ => fl1 _) (by decide) (by decide) (fun _ => rfl) 7 rfl rfl rfl rfl hl.1 rfl (Nat.le_of_ble_eq_true rfl) dL_law_324 ⟨Nat.le_of_ble_eq_true rfl, Nat.le_of_ble_eq_true rfl⟩ (fun _ H locs hP hD hS => ?_)
  refine lv_icmp_eq (tgt := 731) hx hb dL_law_327 (by decide) (fun _ => ?_) (fun hc => absurd heq hc)
  exact hJ _ _ hI u d0 hd0 H locs ls hP hD hS hl
set_option maxHeartbeats 20000000 in
set_option maxRecDepth 100000 in
theorem lc_clear {p : Program} {l : Launch} {e : Env} {s : State} {m : MethodId} {below : List Frame} {meth : Method} {c : Code} {dC : Nat → ClassId} {dI : Nat → Nat → Nat} {cI cZ cC cO : ClassId} {b L k : Nat} {xs : Nat → Int32} {Q : Nat → Nat → Nat} {q8 : Nat → Nat} {I : GV → GX8 → Prop} (F : LF p s m c b L xs dC dI cI cZ cC cO) (hL : L ≤ 1536) (hk3 : k + 3 ≤ L) (h_clear : st_clear I) (hJ : LC p l e s m below meth c b k dC dI cI cZ cC cO Q q8 I 731) : LC p l e s m below meth c b k dC dI cI cZ cC cO Q q8 I 332 := by
  obtain ⟨hx, hb, hml, hown, hts0, hX, hbl, hK0, hN0⟩ := F
  have hA : ∀ q : Nat, s.heap.size ≤ q → (fun q : Nat => s.heap.size ≤ q) q := fun _ h => h
  have hbA : ¬ (fun q : Nat => s.heap.size ≤ q) b := Nat.not_le.mpr hbl
  have hi1 : vp_in (nI k + 1) L := by rw [nI_1]; exact vp_in_nI (by omega) (by omega)
  have hi2 : vp_in (nI k + 2) L := by rw [show nI k + 2 = nI (k + 2) from nI_add k 2]; exact vp_in_nI (by omega) (by omega)
  intro V G hI u d0 hd0 H locs ls hP hD hS hl
  have hts : ∀ w ∈ wsL_law, w.before #[Value.ref b] (s.setDrawn d0) = true := dr_words hts0 d0
  have hK : va_K (dC, dI) vwCl (wTys cI cZ cC cO) (s.setDrawn d0) := hK0
  have hN : NN (s.setDrawn d0) := hN0
  have hX : va_X b L xs (s.setDrawn d0) s.heap := hX
  obtain ⟨o7, o8, e7, e8, heq, hI⟩ := h_clear V G hI
  refine lv_aload_n hx hb dL_law_332 rfl (lv_at hl 2 rfl) ?_
  refine wViB (Bs := WB cI cZ cC cO Q q8 u V G) (Cs := [wX7 cI cZ cC (Q 0) (Q 1) (Q 2) (Q 3) (Q 4) (Q 5) (Q 6) (Q 7) (Q 8) (Q 9) V.1, wX1 cI cZ cC (Q 9) V.2.2.2.2.2.2.2.2.2]) (Rs := [wX4 cI cZ cC (Q 1) V.2.1, wX4 cI cZ cC (Q 2) V.2.2.1, wX4 cI cZ cC (Q 3) V.2.2.2.1, wH cI cZ cC cO (Q 4) u V.2.2.2.2.1, wX6 cI cZ cC (Q 5) V.2.2.2.2.2.1, wX0 cI cZ cC (Q 6) V.2.2.2.2.2.2.1, wX5 cI cZ cC (Q 7) V.2.2.2.2.2.2.2.1, wX3 cI cZ cC (Q 8) V.2.2.2.2.2.2.2.2.1, wX8 cI cZ cC q8 G]) (N1 := fun _ : Unit => [wX7 cI cZ cC (Q 0) (Q 1) (Q 2) (Q 3) (Q 4) (Q 5) (Q 6) (Q 7) (Q 8) (Q 9) V.1, wX1 cI cZ cC (Q 9) o7.2]) (B1 := fun _ : Unit => WB cI cZ cC cO Q q8 u (V.1, V.2.1, V.2.2.1, V.2.2.2.1, V.2.2.2.2.1, V.2.2.2.2.2.1, V.2.2.2.2.2.2.1, V.2.2.2.2.2.2.2.1, V.2.2.2.2.2.2.2.2.1, o7.2) G) (rest := []) (As := []) ⟨hx, hb, hml, hown, hts⟩ (mX7_clear l dC dI cI cZ cC cO (Q 0) (Q 1) (Q 2) (Q 3) (Q 4) (Q 5) (Q 6) (Q 7) (Q 8) (Q 9) _ _ _ _ e7) (cwV 0 hts gL_law_X7_clear rfl rfl rfl (by decide +kernel) ⟨Nat.le_of_ble_eq_true rfl, Nat.le_of_ble_eq_true rfl⟩) hK hN hP hD hS hA [0, 9] [1, 2, 3, 4, 5, 6, 7, 8, 10] [9, 0, 1, 2, 3, 4, 5, 6, 7, 10, 8] rfl rfl (fl2 _ _) (fun _ => fl2 _ _) (by decide) (by decide) (fun _ => rfl) 6 rfl rfl rfl rfl hl.1 rfl (Nat.le_of_ble_eq_true rfl) dL_law_333 ⟨Nat.le_of_ble_eq_true rfl, Nat.le_of_ble_eq_true rfl⟩ (fun _ H locs hP hD hS => ?_)
  refine lv_aload_n hx hb dL_law_336 rfl (lv_at hl 1 rfl) ?_
  refine wViB (Bs := WB cI cZ cC cO Q q8 u (V.1, V.2.1, V.2.2.1, V.2.2.2.1, V.2.2.2.2.1, V.2.2.2.2.2.1, V.2.2.2.2.2.2.1, V.2.2.2.2.2.2.2.1, V.2.2.2.2.2.2.2.2.1, o7.2) G) (Cs := [wX8 cI cZ cC q8 G]) (Rs := [wX7 cI cZ cC (Q 0) (Q 1) (Q 2) (Q 3) (Q 4) (Q 5) (Q 6) (Q 7) (Q 8) (Q 9) V.1, wX4 cI cZ cC (Q 1) V.2.1, wX4 cI cZ cC (Q 2) V.2.2.1, wX4 cI cZ cC (Q 3) V.2.2.2.1, wH cI cZ cC cO (Q 4) u V.2.2.2.2.1, wX6 cI cZ cC (Q 5) V.2.2.2.2.2.1, wX0 cI cZ cC (Q 6) V.2.2.2.2.2.2.1, wX5 cI cZ cC (Q 7) V.2.2.2.2.2.2.2.1, wX3 cI cZ cC (Q 8) V.2.2.2.2.2.2.2.2.1, wX1 cI cZ cC (Q 9) o7.2]) (N1 := fun _ : Unit => [wX8 cI cZ cC q8 o8.2]) (B1 := fun _ : Unit => WB cI cZ cC cO Q q8 u (V.1, V.2.1, V.2.2.1, V.2.2.2.1, V.2.2.2.2.1, V.2.2.2.2.2.1, V.2.2.2.2.2.2.1, V.2.2.2.2.2.2.2.1, V.2.2.2.2.2.2.2.2.1, o7.2) o8.2) (rest := [.int o7.1]) (As := []) ⟨hx, hb, hml, hown, hts⟩ (mX8_clear l dC dI cI cZ cC cO q8 _ _ _ e8) (cwV 0 hts gL_law_X8_clear rfl rfl rfl (by decide +kernel) ⟨Nat.le_of_ble_eq_true rfl, Nat.le_of_ble_eq_true rfl⟩) hK hN hP hD hS hA [10] [0, 1, 2, 3, 4, 5, 6, 7, 8, 9] [0, 1, 2, 3, 4, 5, 6, 7, 8, 9, 10] rfl rfl (fl1 _) (fun _ => fl1 _) (by decide) (by decide) (fun _ => rfl) 7 rfl rfl rfl rfl hl.1 rfl (Nat.le_of_ble_eq_true rfl) dL_law_337 ⟨Nat.le_of_ble_eq_true rfl, Nat.le_of_ble_eq_true rfl⟩ (fun _ H locs hP hD hS => ?_)
  refine lv_icmp_eq (tgt := 731) hx hb dL_law_340 (by decide) (fun _ => ?_) (fun hc => absurd heq hc)
  exact hJ _ _ hI u d0 hd0 H locs ls hP hD hS hl
set_option maxHeartbeats 20000000 in
set_option maxRecDepth 100000 in
theorem lc_fault {p : Program} {l : Launch} {e : Env} {s : State} {m : MethodId} {below : List Frame} {meth : Method} {c : Code} {dC : Nat → ClassId} {dI : Nat → Nat → Nat} {cI cZ cC cO : ClassId} {b L k : Nat} {xs : Nat → Int32} {Q : Nat → Nat → Nat} {q8 : Nat → Nat} {I : GV → GX8 → Prop} (F : LF p s m c b L xs dC dI cI cZ cC cO) (hL : L ≤ 1536) (hk3 : k + 3 ≤ L) (h_fault : st_fault I) (hJ : LC p l e s m below meth c b k dC dI cI cZ cC cO Q q8 I 731) : LC p l e s m below meth c b k dC dI cI cZ cC cO Q q8 I 345 := by
  obtain ⟨hx, hb, hml, hown, hts0, hX, hbl, hK0, hN0⟩ := F
  have hA : ∀ q : Nat, s.heap.size ≤ q → (fun q : Nat => s.heap.size ≤ q) q := fun _ h => h
  have hbA : ¬ (fun q : Nat => s.heap.size ≤ q) b := Nat.not_le.mpr hbl
  have hi1 : vp_in (nI k + 1) L := by rw [nI_1]; exact vp_in_nI (by omega) (by omega)
  have hi2 : vp_in (nI k + 2) L := by rw [show nI k + 2 = nI (k + 2) from nI_add k 2]; exact vp_in_nI (by omega) (by omega)
  intro V G hI u d0 hd0 H locs ls hP hD hS hl
  have hts : ∀ w ∈ wsL_law, w.before #[Value.ref b] (s.setDrawn d0) = true := dr_words hts0 d0
  have hK : va_K (dC, dI) vwCl (wTys cI cZ cC cO) (s.setDrawn d0) := hK0
  have hN : NN (s.setDrawn d0) := hN0
  have hX : va_X b L xs (s.setDrawn d0) s.heap := hX
  obtain ⟨o7, o8, e7, e8, heq, hI⟩ := h_fault V G hI
  refine lv_aload_n hx hb dL_law_345 rfl (lv_at hl 2 rfl) ?_
  refine rVB (Bs := WB cI cZ cC cO Q q8 u V G) (Cs := [wX7 cI cZ cC (Q 0) (Q 1) (Q 2) (Q 3) (Q 4) (Q 5) (Q 6) (Q 7) (Q 8) (Q 9) V.1, wX1 cI cZ cC (Q 9) V.2.2.2.2.2.2.2.2.2]) (rest := []) (As := []) ⟨hx, hb, hml, hown, hts⟩ (mX7_fault l dC dI cI cZ cC cO (Q 0) (Q 1) (Q 2) (Q 3) (Q 4) (Q 5) (Q 6) (Q 7) (Q 8) (Q 9) _ _ _ e7) (cwV 0 hts gL_law_X7_fault rfl rfl rfl (by decide +kernel) ⟨Nat.le_of_ble_eq_true rfl, Nat.le_of_ble_eq_true rfl⟩) hK hN hP [0, 9] rfl (fl2 _ _) 6 rfl rfl rfl rfl hl.1 rfl (Nat.le_of_ble_eq_true rfl) dL_law_346 ⟨Nat.le_of_ble_eq_true rfl, Nat.le_of_ble_eq_true rfl⟩ ?_
  refine lv_aload_n hx hb dL_law_349 rfl (lv_at hl 1 rfl) ?_
  refine wViB (Bs := WB cI cZ cC cO Q q8 u V G) (Cs := [wX8 cI cZ cC q8 G]) (Rs := [wX7 cI cZ cC (Q 0) (Q 1) (Q 2) (Q 3) (Q 4) (Q 5) (Q 6) (Q 7) (Q 8) (Q 9) V.1, wX4 cI cZ cC (Q 1) V.2.1, wX4 cI cZ cC (Q 2) V.2.2.1, wX4 cI cZ cC (Q 3) V.2.2.2.1, wH cI cZ cC cO (Q 4) u V.2.2.2.2.1, wX6 cI cZ cC (Q 5) V.2.2.2.2.2.1, wX0 cI cZ cC (Q 6) V.2.2.2.2.2.2.1, wX5 cI cZ cC (Q 7) V.2.2.2.2.2.2.2.1, wX3 cI cZ cC (Q 8) V.2.2.2.2.2.2.2.2.1, wX1 cI cZ cC (Q 9) V.2.2.2.2.2.2.2.2.2]) (N1 := fun _ : Unit => [wX8 cI cZ cC q8 o8.2]) (B1 := fun _ : Unit => WB cI cZ cC cO Q q8 u V o8.2) (rest := [.int o7]) (As := []) ⟨hx, hb, hml, hown, hts⟩ (mX8_fault l dC dI cI cZ cC cO q8 _ _ _ e8) (cwV 0 hts gL_law_X8_fault rfl rfl rfl (by decide +kernel) ⟨Nat.le_of_ble_eq_true rfl, Nat.le_of_ble_eq_true rfl⟩) hK hN hP hD hS hA [10] [0, 1, 2, 3, 4, 5, 6, 7, 8, 9] [0, 1, 2, 3, 4, 5, 6, 7, 8, 9, 10] rfl rfl (fl1 _) (fun _ => fl1 _) (by decide) (by decide) (fun _ => rfl) 7 rfl rfl rfl rfl hl.1 rfl (Nat.le_of_ble_eq_true rfl) dL_law_350 ⟨Nat.le_of_ble_eq_true rfl, Nat.le_of_ble_eq_true rfl⟩ (fun _ H locs hP hD hS => ?_)
  refine lv_icmp_eq (tgt := 731) hx hb dL_law_353 (by decide) (fun _ => ?_) (fun hc => absurd heq hc)
  exact hJ _ _ hI u d0 hd0 H locs ls hP hD hS hl
