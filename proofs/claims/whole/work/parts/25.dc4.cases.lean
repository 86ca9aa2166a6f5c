set_option maxHeartbeats 20000000 in
set_option maxRecDepth 100000 in
theorem lc_ifGone {p : Program} {l : Launch} {e : Env} {s : State} {m : MethodId} {below : List Frame} {meth : Method} {c : Code} {dC : Nat → ClassId} {dI : Nat → Nat → Nat} {cI cZ cC cO : ClassId} {b L k : Nat} {xs : Nat → Int32} {Q : Nat → Nat → Nat} {q8 : Nat → Nat} {I : GV → GX8 → Prop} (F : LF p s m c b L xs dC dI cI cZ cC cO) (hL : L ≤ 1536) (hk3 : k + 3 ≤ L) (h_ifGone : st_ifGone I) (hJ : LC p l e s m below meth c b k dC dI cI cZ cC cO Q q8 I 731) : LC p l e s m below meth c b k dC dI cI cZ cC cO Q q8 I 626 := by
  obtain ⟨hx, hb, hml, hown, hts0, hX, hbl, hK0, hN0⟩ := F
  have hA : ∀ q : Nat, s.heap.size ≤ q → (fun q : Nat => s.heap.size ≤ q) q := fun _ h => h
  have hbA : ¬ (fun q : Nat => s.heap.size ≤ q) b := Nat.not_le.mpr hbl
  have hi1 : vp_in (nI k + 1) L := by rw [nI_1]; exact vp_in_nI (by omega) (by omega)
  have hi2 : vp_in (nI k + 2) L := by rw [show nI k + 2 = nI (k + 2) from nI_add k 2]; exact vp_in_nI (by omega) (by omega)
  intro V G hI u d0 hd0 H locs ls hP hD hS hl
  have hts : ∀ w ∈ wsL_law, w.before #[Value.ref b] (s.setDrawn d0) = true := dr_words hts0 d0
  have hK : va_K (dC, dI) vwCl (wTys cI cZ cC cO) (s.setDrawn d0) := hK0
  have hN : NN (s.setDrawn d0) := hN0
  have hX : va_X b L xs (s.setDrawn d0) s.heap := hX
  obtain ⟨o7, o8, e7, e8, heq, hI⟩ := h_ifGone V G (xs (nI k + 1).toNatClampNeg) (xs (nI k + 2).toNatClampNeg) hI
  refine lv_aload_n hx hb dL_law_626 rfl (lv_at hl 2 rfl) ?_
  refine lv_aload_n hx hb dL_law_627 rfl (lv_at hl 3 rfl) ?_
  refine lv_iload_n hx hb dL_law_628 rfl (lv_at hl 0 rfl) ?_
  refine lv_iconst (v := 1) hx hb dL_law_629 (by decide) ?_
  refine lv_iadd hx hb dL_law_630 ?_
  refine va_sld hx hb hX hbl hbA hS hi1 dL_law_631 ?_
  refine lv_aload_n hx hb dL_law_632 rfl (lv_at hl 3 rfl) ?_
  refine lv_iload_n hx hb dL_law_633 rfl (lv_at hl 0 rfl) ?_
  refine lv_iconst (v := 2) hx hb dL_law_634 (by decide) ?_
  refine lv_iadd hx hb dL_law_635 ?_
  refine va_sld hx hb hX hbl hbA hS hi2 dL_law_636 ?_
  refine wViB (Bs := WB cI cZ cC cO Q q8 u V G) (Cs := [wX7 cI cZ cC (Q 0) (Q 1) (Q 2) (Q 3) (Q 4) (Q 5) (Q 6) (Q 7) (Q 8) (Q 9) V.1, wX4 cI cZ cC (Q 1) V.2.1, wX6 cI cZ cC (Q 5) V.2.2.2.2.2.1]) (Rs := [wX4 cI cZ cC (Q 2) V.2.2.1, wX4 cI cZ cC (Q 3) V.2.2.2.1, wH cI cZ cC cO (Q 4) u V.2.2.2.2.1, wX0 cI cZ cC (Q 6) V.2.2.2.2.2.2.1, wX5 cI cZ cC (Q 7) V.2.2.2.2.2.2.2.1, wX3 cI cZ cC (Q 8) V.2.2.2.2.2.2.2.2.1, wX1 cI cZ cC (Q 9) V.2.2.2.2.2.2.2.2.2, wX8 cI cZ cC q8 G]) (N1 := fun _ : Unit => [wX7 cI cZ cC (Q 0) (Q 1) (Q 2) (Q 3) (Q 4) (Q 5) (Q 6) (Q 7) (Q 8) (Q 9) V.1, wX4 cI cZ cC (Q 1) V.2.1, wX6 cI cZ cC (Q 5) o7.2]) (B1 := fun _ : Unit => WB cI cZ cC cO Q q8 u (V.1, V.2.1, V.2.2.1, V.2.2.2.1, V.2.2.2.2.1, o7.2, V.2.2.2.2.2.2.1, V.2.2.2.2.2.2.2.1, V.2.2.2.2.2.2.2.2.1, V.2.2.2.2.2.2.2.2.2) G) (rest := []) (As := [.int (xs (nI k + 1).toNatClampNeg), .int (xs (nI k + 2).toNatClampNeg)]) ⟨hx, hb, hml, hown, hts⟩ (mX7_ifGone l dC dI cI cZ cC cO (Q 0) (Q 1) (Q 2) (Q 3) (Q 4) (Q 5) (Q 6) (Q 7) (Q 8) (Q 9) _ _ _ _ _ _ _ e7) (cwV 2 hts gL_law_X7_ifGone rfl rfl rfl (by decide +kernel) ⟨Nat.le_of_ble_eq_true rfl, Nat.le_of_ble_eq_true rfl⟩) hK hN hP hD hS hA [0, 1, 5] [2, 3, 4, 6, 7, 8, 9, 10] [8, 9, 0, 1, 2, 10, 3, 4, 5, 6, 7] rfl rfl (fl3 _ _ _) (fun _ => fl3 _ _ _) (by decide) (by decide) (fun _ => rfl) 6 rfl rfl rfl rfl hl.1 rfl (Nat.le_of_ble_eq_true rfl) dL_law_637 ⟨Nat.le_of_ble_eq_true rfl, Nat.le_of_ble_eq_true rfl⟩ (fun _ H locs hP hD hS => ?_)
  refine lv_aload_n hx hb dL_law_640 rfl (lv_at hl 1 rfl) ?_
  refine lv_aload_n hx hb dL_law_641 rfl (lv_at hl 3 rfl) ?_
  refine lv_iload_n hx hb dL_law_642 rfl (lv_at hl 0 rfl) ?_
  refine lv_iconst (v := 1) hx hb dL_law_643 (by decide) ?_
  refine lv_iadd hx hb dL_law_644 ?_
  refine va_sld hx hb hX hbl hbA hS hi1 dL_law_645 ?_
  refine lv_aload_n hx hb dL_law_646 rfl (lv_at hl 3 rfl) ?_
  refine lv_iload_n hx hb dL_law_647 rfl (lv_at hl 0 rfl) ?_
  refine lv_iconst (v := 2) hx hb dL_law_648 (by decide) ?_
  refine lv_iadd hx hb dL_law_649 ?_
  refine va_sld hx hb hX hbl hbA hS hi2 dL_law_650 ?_
  refine wViB (Bs := WB cI cZ cC cO Q q8 u (V.1, V.2.1, V.2.2.1, V.2.2.2.1, V.2.2.2.2.1, o7.2, V.2.2.2.2.2.2.1, V.2.2.2.2.2.2.2.1, V.2.2.2.2.2.2.2.2.1, V.2.2.2.2.2.2.2.2.2) G) (Cs := [wX8 cI cZ cC q8 G]) (Rs := [wX7 cI cZ cC (Q 0) (Q 1) (Q 2) (Q 3) (Q 4) (Q 5) (Q 6) (Q 7) (Q 8) (Q 9) V.1, wX4 cI cZ cC (Q 1) V.2.1, wX4 cI cZ cC (Q 2) V.2.2.1, wX4 cI cZ cC (Q 3) V.2.2.2.1, wH cI cZ cC cO (Q 4) u V.2.2.2.2.1, wX6 cI cZ cC (Q 5) o7.2, wX0 cI cZ cC (Q 6) V.2.2.2.2.2.2.1, wX5 cI cZ cC (Q 7) V.2.2.2.2.2.2.2.1, wX3 cI cZ cC (Q 8) V.2.2.2.2.2.2.2.2.1, wX1 cI cZ cC (Q 9) V.2.2.2.2.2.2.2.2.2]) (N1 := fun _ : Unit => [wX8 cI cZ cC q8 o8.2]) (B1 := fun _ : Unit => WB cI cZ cC cO Q q8 u (V.1, V.2.1, V.2.2.1, V.2.2.2.1, V.2.2.2.2.1, o7.2, V.2.2.2.2.2.2.1, V.2.2.2.2.2.2.2.1, V.2.2.2.2.2.2.2.2.1, V.2.2.2.2.2.2.2.2.2) o8.2) (rest := [.int o7.1]) (As := [.int (xs (nI k + 1).toNatClampNeg), .int (xs (nI k + 2).toNatClampNeg)]) ⟨hx, hb, hml, hown, hts⟩ (mX8_ifGone l dC dI cI cZ cC cO q8 _ _ _ _ _ e8) (cwV 2 hts gL_law_X8_ifGone rfl rfl rfl (by decide +kernel) ⟨Nat.le_of_ble_eq_true rfl, Nat.le_of_ble_eq_true rfl⟩) hK hN hP hD hS hA [10] [0, 1, 2, 3, 4, 5, 6, 7, 8, 9] [0, 1, 2, 3, 4, 5, 6, 7, 8, 9, 10] rfl rfl (fl1 _) (fun _ => fl1 _) (by decide) (by decide) (fun _ => rfl) 7 rfl rfl rfl rfl hl.1 rfl (Nat.le_of_ble_eq_true rfl) dL_law_651 ⟨Nat.le_of_ble_eq_true rfl, Nat.le_of_ble_eq_true rfl⟩ (fun _ H locs hP hD hS => ?_)
  refine lv_icmp_eq (tgt := 731) hx hb dL_law_654 (by decide) (fun _ => ?_) (fun hc => absurd heq hc)
  exact hJ _ _ hI u d0 hd0 H locs ls hP hD hS hl
set_option maxHeartbeats 20000000 in
set_option maxRecDepth 100000 in
theorem lc_ifBroken {p : Program} {l : Launch} {e : Env} {s : State} {m : MethodId} {below : List Frame} {meth : Method} {c : Code} {dC : Nat → ClassId} {dI : Nat → Nat → Nat} {cI cZ cC cO : ClassId} {b L k : Nat} {xs : Nat → Int32} {Q : Nat → Nat → Nat} {q8 : Nat → Nat} {I : GV → GX8 → Prop} (F : LF p s m c b L xs dC dI cI cZ cC cO) (hL : L ≤ 1536) (hk3 : k + 3 ≤ L) (h_ifBroken : st_ifBroken I) (hJ : LC p l e s m below meth c b k dC dI cI cZ cC cO Q q8 I 731) : LC p l e s m below meth c b k dC dI cI cZ cC cO Q q8 I 659 := by
  obtain ⟨hx, hb, hml, hown, hts0, hX, hbl, hK0, hN0⟩ := F
  have hA : ∀ q : Nat, s.heap.size ≤ q → (fun q : Nat => s.heap.size ≤ q) q := fun _ h => h
  have hbA : ¬ (fun q : Nat => s.heap.size ≤ q) b := Nat.not_le.mpr hbl
  have hi1 : vp_in (nI k + 1) L := by rw [nI_1]; exact vp_in_nI (by omega) (by omega)
  have hi2 : vp_in (nI k + 2) L := by rw [show nI k + 2 = nI (k + 2) from nI_add k 2]; exact vp_in_nI (by omega) (by omega)
  intro V G hI u d0 hd0 H locs ls hP hD hS hl
  have hts : ∀ w ∈ wsL_law, w.before #[Value.ref b] (s.setDrawn d0) = true := dr_words hts0 d0
  have hK : va_K (dC, dI) vwCl (wTys cI cZ cC cO) (s.setDrawn d0) := hK0
  have hN : NN (s.setDrawn d0) := hN0
  have hX : va_X b L xs (s.setDrawn d0) s.heap := hX
  obtain ⟨o7, o8, e7, e8, heq, hI⟩ := h_ifBroken V G (xs (nI k + 1).toNatClampNeg) (xs (nI k + 2).toNatClampNeg) hI
  refine lv_aload_n hx hb dL_law_659 rfl (lv_at hl 2 rfl) ?_
  refine lv_aload_n hx hb dL_law_660 rfl (lv_at hl 3 rfl) ?_
  refine lv_iload_n hx hb dL_law_661 rfl (lv_at hl 0 rfl) ?_
  refine lv_iconst (v := 1) hx hb dL_law_662 (by decide) ?_
  refine lv_iadd hx hb dL_law_663 ?_
  refine va_sld hx hb hX hbl hbA hS hi1 dL_law_664 ?_
  refine lv_aload_n hx hb dL_law_665 rfl (lv_at hl 3 rfl) ?_
  refine lv_iload_n hx hb dL_law_666 rfl (lv_at hl 0 rfl) ?_
  refine lv_iconst (v := 2) hx hb dL_law_667 (by decide) ?_
  refine lv_iadd hx hb dL_law_668 ?_
  refine va_sld hx hb hX hbl hbA hS hi2 dL_law_669 ?_
  refine wViB (Bs := WB cI cZ cC cO Q q8 u V G) (Cs := [wX7 cI cZ cC (Q 0) (Q 1) (Q 2) (Q 3) (Q 4) (Q 5) (Q 6) (Q 7) (Q 8) (Q 9) V.1, wX4 cI cZ cC (Q 1) V.2.1, wX4 cI cZ cC (Q 3) V.2.2.2.1, wX0 cI cZ cC (Q 6) V.2.2.2.2.2.2.1, wX5 cI cZ cC (Q 7) V.2.2.2.2.2.2.2.1, wX3 cI cZ cC (Q 8) V.2.2.2.2.2.2.2.2.1]) (Rs := [wX4 cI cZ cC (Q 2) V.2.2.1, wH cI cZ cC cO (Q 4) u V.2.2.2.2.1, wX6 cI cZ cC (Q 5) V.2.2.2.2.2.1, wX1 cI cZ cC (Q 9) V.2.2.2.2.2.2.2.2.2, wX8 cI cZ cC q8 G]) (N1 := fun _ : Unit => [wX7 cI cZ cC (Q 0) (Q 1) (Q 2) (Q 3) (Q 4) (Q 5) (Q 6) (Q 7) (Q 8) (Q 9) V.1, wX4 cI cZ cC (Q 1) V.2.1, wX4 cI cZ cC (Q 3) o7.2.1, wX0 cI cZ cC (Q 6) o7.2.2.1, wX5 cI cZ cC (Q 7) o7.2.2.2.1, wX3 cI cZ cC (Q 8) o7.2.2.2.2]) (B1 := fun _ : Unit => WB cI cZ cC cO Q q8 u (V.1, V.2.1, V.2.2.1, o7.2.1, V.2.2.2.2.1, V.2.2.2.2.2.1, o7.2.2.1, o7.2.2.2.1, o7.2.2.2.2, V.2.2.2.2.2.2.2.2.2) G) (rest := []) (As := [.int (xs (nI k + 1).toNatClampNeg), .int (xs (nI k + 2).toNatClampNeg)]) ⟨hx, hb, hml, hown, hts⟩ (mX7_ifBroken l dC dI cI cZ cC cO (Q 0) (Q 1) (Q 2) (Q 3) (Q 4) (Q 5) (Q 6) (Q 7) (Q 8) (Q 9) _ _ _ _ _ _ _ _ _ _ e7) (cwV 2 hts gL_law_X7_ifBroken rfl rfl rfl (by decide +kernel) ⟨Nat.le_of_ble_eq_true rfl, Nat.le_of_ble_eq_true rfl⟩) hK hN hP hD hS hA [0, 1, 3, 6, 7, 8] [2, 4, 5, 9, 10] [5, 6, 0, 7, 1, 2, 8, 9, 10, 3, 4] rfl rfl (fl6 _ _ _ _ _ _) (fun _ => fl6 _ _ _ _ _ _) (by decide) (by decide) (fun _ => rfl) 6 rfl rfl rfl rfl hl.1 rfl (Nat.le_of_ble_eq_true rfl) dL_law_670 ⟨Nat.le_of_ble_eq_true rfl, Nat.le_of_ble_eq_true rfl⟩ (fun _ H locs hP hD hS => ?_)
  refine lv_aload_n hx hb dL_law_673 rfl (lv_at hl 1 rfl) ?_
  refine lv_aload_n hx hb dL_law_674 rfl (lv_at hl 3 rfl) ?_
  refine lv_iload_n hx hb dL_law_675 rfl (lv_at hl 0 rfl) ?_
  refine lv_iconst (v := 1) hx hb dL_law_676 (by decide) ?_
  refine lv_iadd hx hb dL_law_677 ?_
  refine va_sld hx hb hX hbl hbA hS hi1 dL_law_678 ?_
  refine lv_aload_n hx hb dL_law_679 rfl (lv_at hl 3 rfl) ?_
  refine lv_iload_n hx hb dL_law_680 rfl (lv_at hl 0 rfl) ?_
  refine lv_iconst (v := 2) hx hb dL_law_681 (by decide) ?_
  refine lv_iadd hx hb dL_law_682 ?_
  refine va_sld hx hb hX hbl hbA hS hi2 dL_law_683 ?_
  refine wViB (Bs := WB cI cZ cC cO Q q8 u (V.1, V.2.1, V.2.2.1, o7.2.1, V.2.2.2.2.1, V.2.2.2.2.2.1, o7.2.2.1, o7.2.2.2.1, o7.2.2.2.2, V.2.2.2.2.2.2.2.2.2) G) (Cs := [wX8 cI cZ cC q8 G]) (Rs := [wX7 cI cZ cC (Q 0) (Q 1) (Q 2) (Q 3) (Q 4) (Q 5) (Q 6) (Q 7) (Q 8) (Q 9) V.1, wX4 cI cZ cC (Q 1) V.2.1, wX4 cI cZ cC (Q 2) V.2.2.1, wX4 cI cZ cC (Q 3) o7.2.1, wH cI cZ cC cO (Q 4) u V.2.2.2.2.1, wX6 cI cZ cC (Q 5) V.2.2.2.2.2.1, wX0 cI cZ cC (Q 6) o7.2.2.1, wX5 cI cZ cC (Q 7) o7.2.2.2.1, wX3 cI cZ cC (Q 8) o7.2.2.2.2, wX1 cI cZ cC (Q 9) V.2.2.2.2.2.2.2.2.2]) (N1 := fun _ : Unit => [wX8 cI cZ cC q8 o8.2]) (B1 := fun _ : Unit => WB cI cZ cC cO Q q8 u (V.1, V.2.1, V.2.2.1, o7.2.1, V.2.2.2.2.1, V.2.2.2.2.2.1, o7.2.2.1, o7.2.2.2.1, o7.2.2.2.2, V.2.2.2.2.2.2.2.2.2) o8.2) (rest := [.int o7.1]) (As := [.int (xs (nI k + 1).toNatClampNeg), .int (xs (nI k + 2).toNatClampNeg)]) ⟨hx, hb, hml, hown, hts⟩ (mX8_ifBroken l dC dI cI cZ cC cO q8 _ _ _ _ _ e8) (cwV 2 hts gL_law_X8_ifBroken rfl rfl rfl (by decide +kernel) ⟨Nat.le_of_ble_eq_true rfl, Nat.le_of_ble_eq_true rfl⟩) hK hN hP hD hS hA [10] [0, 1, 2, 3, 4, 5, 6, 7, 8, 9] [0, 1, 2, 3, 4, 5, 6, 7, 8, 9, 10] rfl rfl (fl1 _) (fun _ => fl1 _) (by decide) (by decide) (fun _ => rfl) 7 rfl rfl rfl rfl hl.1 rfl (Nat.le_of_ble_eq_true rfl) dL_law_684 ⟨Nat.le_of_ble_eq_true rfl, Nat.le_of_ble_eq_true rfl⟩ (fun _ H locs hP hD hS => ?_)
  refine lv_icmp_eq (tgt := 731) hx hb dL_law_687 (by decide) (fun _ => ?_) (fun hc => absurd heq hc)
  exact hJ _ _ hI u d0 hd0 H locs ls hP hD hS hl
set_option maxHeartbeats 20000000 in
set_option maxRecDepth 100000 in
theorem lc_undo {p : Program} {l : Launch} {e : Env} {s : State} {m : MethodId} {below : List Frame} {meth : Method} {c : Code} {dC : Nat → ClassId} {dI : Nat → Nat → Nat} {cI cZ cC cO : ClassId} {b L k : Nat} {xs : Nat → Int32} {Q : Nat → Nat → Nat} {q8 : Nat → Nat} {I : GV → GX8 → Prop} (F : LF p s m c b L xs dC dI cI cZ cC cO) (hL : L ≤ 1536) (hk3 : k + 3 ≤ L) (h_undo : st_undo I) (hJ : LC p l e s m below meth c b k dC dI cI cZ cC cO Q q8 I 731) : LC p l e s m below meth c b k dC dI cI cZ cC cO Q q8 I 692 := by
  obtain ⟨hx, hb, hml, hown, hts0, hX, hbl, hK0, hN0⟩ := F
  have hA : ∀ q : Nat, s.heap.size ≤ q → (fun q : Nat => s.heap.size ≤ q) q := fun _ h => h
  have hbA : ¬ (fun q : Nat => s.heap.size ≤ q) b := Nat.not_le.mpr hbl
  have hi1 : vp_in (nI k + 1) L := by rw [nI_1]; exact vp_in_nI (by omega) (by omega)
  have hi2 : vp_in (nI k + 2) L := by rw [show nI k + 2 = nI (k + 2) from nI_add k 2]; exact vp_in_nI (by omega) (by omega)
  intro V G hI u d0 hd0 H locs ls hP hD hS hl
  have hts : ∀ w ∈ wsL_law, w.before #[Value.ref b] (s.setDrawn d0) = true := dr_words hts0 d0
  have hK : va_K (dC, dI) vwCl (wTys cI cZ cC cO) (s.setDrawn d0) := hK0
  have hN : NN (s.setDrawn d0) := hN0
  have hX : va_X b L xs (s.setDrawn d0) s.heap := hX
  obtain ⟨o7, o8, e7, e8, heq, hI⟩ := h_undo V G hI
  refine lv_aload_n hx hb dL_law_692 rfl (lv_at hl 2 rfl) ?_
  refine wViB (Bs := WB cI cZ cC cO Q q8 u V G) (Cs := [wX7 cI cZ cC (Q 0) (Q 1) (Q 2) (Q 3) (Q 4) (Q 5) (Q 6) (Q 7) (Q 8) (Q 9) V.1, wX4 cI cZ cC (Q 1) V.2.1, wH cI cZ cC cO (Q 4) u V.2.2.2.2.1]) (Rs := [wX4 cI cZ cC (Q 2) V.2.2.1, wX4 cI cZ cC (Q 3) V.2.2.2.1, wX6 cI cZ cC (Q 5) V.2.2.2.2.2.1, wX0 cI cZ cC (Q 6) V.2.2.2.2.2.2.1, wX5 cI cZ cC (Q 7) V.2.2.2.2.2.2.2.1, wX3 cI cZ cC (Q 8) V.2.2.2.2.2.2.2.2.1, wX1 cI cZ cC (Q 9) V.2.2.2.2.2.2.2.2.2, wX8 cI cZ cC q8 G]) (N1 := fun _ : Unit => [wX7 cI cZ cC (Q 0) (Q 1) (Q 2) (Q 3) (Q 4) (Q 5) (Q 6) (Q 7) (Q 8) (Q 9) o7.2.1, wX4 cI cZ cC (Q 1) o7.2.2, wH cI cZ cC cO (Q 4) u V.2.2.2.2.1]) (B1 := fun _ : Unit => WB cI cZ cC cO Q q8 u (o7.2.1, o7.2.2, V.2.2.1, V.2.2.2.1, V.2.2.2.2.1, V.2.2.2.2.2.1, V.2.2.2.2.2.2.1, V.2.2.2.2.2.2.2.1, V.2.2.2.2.2.2.2.2.1, V.2.2.2.2.2.2.2.2.2) G) (rest := []) (As := []) ⟨hx, hb, hml, hown, hts⟩ (mX7_undo l dC dI cI cZ cC cO (Q 0) (Q 1) (Q 2) (Q 3) (Q 4) (Q 5) (Q 6) (Q 7) (Q 8) (Q 9) u _ _ _ _ _ e7) (cwV 0 hts gL_law_X7_undo rfl rfl rfl (by decide +kernel) ⟨Nat.le_of_ble_eq_true rfl, Nat.le_of_ble_eq_true rfl⟩) hK hN hP hD hS hA [0, 1, 4] [2, 3, 5, 6, 7, 8, 9, 10] [8, 9, 0, 1, 10, 2, 3, 4, 5, 6, 7] rfl rfl (fl3 _ _ _) (fun _ => fl3 _ _ _) (by decide) (by decide) (fun _ => rfl) 6 rfl rfl rfl rfl hl.1 rfl (Nat.le_of_ble_eq_true rfl) dL_law_693 ⟨Nat.le_of_ble_eq_true rfl, Nat.le_of_ble_eq_true rfl⟩ (fun _ H locs hP hD hS => ?_)
  refine lv_aload_n hx hb dL_law_696 rfl (lv_at hl 1 rfl) ?_
  refine wViB (Bs := WB cI cZ cC cO Q q8 u (o7.2.1, o7.2.2, V.2.2.1, V.2.2.2.1, V.2.2.2.2.1, V.2.2.2.2.2.1, V.2.2.2.2.2.2.1, V.2.2.2.2.2.2.2.1, V.2.2.2.2.2.2.2.2.1, V.2.2.2.2.2.2.2.2.2) G) (Cs := [wX8 cI cZ cC q8 G]) (Rs := [wX7 cI cZ cC (Q 0) (Q 1) (Q 2) (Q 3) (Q 4) (Q 5) (Q 6) (Q 7) (Q 8) (Q 9) o7.2.1, wX4 cI cZ cC (Q 1) o7.2.2, wX4 cI cZ cC (Q 2) V.2.2.1, wX4 cI cZ cC (Q 3) V.2.2.2.1, wH cI cZ cC cO (Q 4) u V.2.2.2.2.1, wX6 cI cZ cC (Q 5) V.2.2.2.2.2.1, wX0 cI cZ cC (Q 6) V.2.2.2.2.2.2.1, wX5 cI cZ cC (Q 7) V.2.2.2.2.2.2.2.1, wX3 cI cZ cC (Q 8) V.2.2.2.2.2.2.2.2.1, wX1 cI cZ cC (Q 9) V.2.2.2.2.2.2.2.2.2]) (N1 := fun _ : Unit => [wX8 cI cZ cC q8 o8.2]) (B1 := fun _ : Unit => WB cI cZ cC cO Q q8 u (o7.2.1, o7.2.2, V.2.2.1, V.2.2.2.1, V.2.2.2.2.1, V.2.2.2.2.2.1, V.2.2.2.2.2.2.1, V.2.2.2.2.2.2.2.1, V.2.2.2.2.2.2.2.2.1, V.2.2.2.2.2.2.2.2.2) o8.2) (rest := [.int o7.1]) (As := []) ⟨hx, hb, hml, hown, hts⟩ (mX8_undo l dC dI cI cZ cC cO q8 _ _ _ e8) (cwV 0 hts gL_law_X8_undo rfl rfl rfl (by decide +kernel) ⟨Nat.le_of_ble_eq_true rfl, Nat.le_of_ble_eq_true rfl⟩) hK hN hP hD hS hA [10] [0, 1, 2, 3, 4, 5, 6, 7, 8, 9] [0, 1, 2, 3, 4, 5, 6, 7, 8, 9, 10] rfl rfl (fl1 _) (fun _ => fl1 _) (by decide) (by decide) (fun _ => rfl) 7 rfl rfl rfl rfl hl.1 rfl (Nat.le_of_ble_eq_true rfl) dL_law_697 ⟨Nat.le_of_ble_eq_true rfl, Nat.le_of_ble_eq_true rfl⟩ (fun _ H locs hP hD hS => ?_)
  refine lv_icmp_eq (tgt := 731) hx hb dL_law_700 (by decide) (fun _ => ?_) (fun hc => absurd heq hc)
  exact hJ _ _ hI u d0 hd0 H locs ls hP hD hS hl
set_option maxHeartbeats 20000000 in
set_option maxRecDepth 100000 in
theorem lc_save {p : Program} {l : Launch} {e : Env} {s : State} {m : MethodId} {below : List Frame} {meth : Method} {c : Code} {dC : Nat → ClassId} {dI : Nat → Nat → Nat} {cI cZ cC cO : ClassId} {b L k : Nat} {xs : Nat → Int32} {Q : Nat → Nat → Nat} {q8 : Nat → Nat} {I : GV → GX8 → Prop} (F : LF p s m c b L xs dC dI cI cZ cC cO) (hL : L ≤ 1536) (hk3 : k + 3 ≤ L) (h_save : st_save I) (hJ : LC p l e s m below meth c b k dC dI cI cZ cC cO Q q8 I 731) : LC p l e s m below meth c b k dC dI cI cZ cC cO Q q8 I 705 := by
  obtain ⟨hx, hb, hml, hown, hts0, hX, hbl, hK0, hN0⟩ := F
  have hA : ∀ q : Nat, s.heap.size ≤ q → (fun q : Nat => s.heap.size ≤ q) q := fun _ h => h
  have hbA : ¬ (fun q : Nat => s.heap.size ≤ q) b := Nat.not_le.mpr hbl
  have hi1 : vp_in (nI k + 1) L := by rw [nI_1]; exact vp_in_nI (by omega) (by omega)
  have hi2 : vp_in (nI k + 2) L := by rw [show nI k + 2 = nI (k + 2) from nI_add k 2]; exact vp_in_nI (by omega) (by omega)
  intro V G hI u d0 hd0 H locs ls hP hD hS hl
  have hts : ∀ w ∈ wsL_law, w.before #[Value.ref b] (s.setDrawn d0) = true := dr_words hts0 d0
  have hK : va_K (dC, dI) vwCl (wTys cI cZ cC cO) (s.setDrawn d0) := hK0
  have hN : NN (s.setDrawn d0) := hN0
  have hX : va_X b L xs (s.setDrawn d0) s.heap := hX
  obtain ⟨o7, o8, e7, e8, heq, hI⟩ := h_save V G hI
  refine lv_aload_n hx hb dL_law_705 rfl (lv_at hl 2 rfl) ?_
  refine wViB (Bs := WB cI cZ cC cO Q q8 u V G) (Cs := [wX7 cI cZ cC (Q 0) (Q 1) (Q 2) (Q 3) (Q 4) (Q 5) (Q 6) (Q 7) (Q 8) (Q 9) V.1, wX4 cI cZ cC (Q 1) V.2.1, wX4 cI cZ cC (Q 2) V.2.2.1]) (Rs := [wX4 cI cZ cC (Q 3) V.2.2.2.1, wH cI cZ cC cO (Q 4) u V.2.2.2.2.1, wX6 cI cZ cC (Q 5) V.2.2.2.2.2.1, wX0 cI cZ cC (Q 6) V.2.2.2.2.2.2.1, wX5 cI cZ cC (Q 7) V.2.2.2.2.2.2.2.1, wX3 cI cZ cC (Q 8) V.2.2.2.2.2.2.2.2.1, wX1 cI cZ cC (Q 9) V.2.2.2.2.2.2.2.2.2, wX8 cI cZ cC q8 G]) (N1 := fun _ : Unit => [wX7 cI cZ cC (Q 0) (Q 1) (Q 2) (Q 3) (Q 4) (Q 5) (Q 6) (Q 7) (Q 8) (Q 9) o7.2.1, wX4 cI cZ cC (Q 1) V.2.1, wX4 cI cZ cC (Q 2) o7.2.2]) (B1 := fun _ : Unit => WB cI cZ cC cO Q q8 u (o7.2.1, V.2.1, o7.2.2, V.2.2.2.1, V.2.2.2.2.1, V.2.2.2.2.2.1, V.2.2.2.2.2.2.1, V.2.2.2.2.2.2.2.1, V.2.2.2.2.2.2.2.2.1, V.2.2.2.2.2.2.2.2.2) G) (rest := []) (As := []) ⟨hx, hb, hml, hown, hts⟩ (mX7_save l dC dI cI cZ cC cO (Q 0) (Q 1) (Q 2) (Q 3) (Q 4) (Q 5) (Q 6) (Q 7) (Q 8) (Q 9) _ _ _ _ _ e7) (cwV 0 hts gL_law_X7_save rfl rfl rfl (by decide +kernel) ⟨Nat.le_of_ble_eq_true rfl, Nat.le_of_ble_eq_true rfl⟩) hK hN hP hD hS hA [0, 1, 2] [3, 4, 5, 6, 7, 8, 9, 10] [8, 9, 10, 0, 1, 2, 3, 4, 5, 6, 7] rfl rfl (fl3 _ _ _) (fun _ => fl3 _ _ _) (by decide) (by decide) (fun _ => rfl) 6 rfl rfl rfl rfl hl.1 rfl (Nat.le_of_ble_eq_true rfl) dL_law_706 ⟨Nat.le_of_ble_eq_true rfl, Nat.le_of_ble_eq_true rfl⟩ (fun _ H locs hP hD hS => ?_)
  refine lv_aload_n hx hb dL_law_709 rfl (lv_at hl 1 rfl) ?_
  refine wViB (Bs := WB cI cZ cC cO Q q8 u (o7.2.1, V.2.1, o7.2.2, V.2.2.2.1, V.2.2.2.2.1, V.2.2.2.2.2.1, V.2.2.2.2.2.2.1, V.2.2.2.2.2.2.2.1, V.2.2.2.2.2.2.2.2.1, V.2.2.2.2.2.2.2.2.2) G) (Cs := [wX8 cI cZ cC q8 G]) (Rs := [wX7 cI cZ cC (Q 0) (Q 1) (Q 2) (Q 3) (Q 4) (Q 5) (Q 6) (Q 7) (Q 8) (Q 9) o7.2.1, wX4 cI cZ cC (Q 1) V.2.1, wX4 cI cZ cC (Q 2) o7.2.2, wX4 cI cZ cC (Q 3) V.2.2.2.1, wH cI cZ cC cO (Q 4) u V.2.2.2.2.1, wX6 cI cZ cC (Q 5) V.2.2.2.2.2.1, wX0 cI cZ cC (Q 6) V.2.2.2.2.2.2.1, wX5 cI cZ cC (Q 7) V.2.2.2.2.2.2.2.1, wX3 cI cZ cC (Q 8) V.2.2.2.2.2.2.2.2.1, wX1 cI cZ cC (Q 9) V.2.2.2.2.2.2.2.2.2]) (N1 := fun _ : Unit => [wX8 cI cZ cC q8 o8.2]) (B1 := fun _ : Unit => WB cI cZ cC cO Q q8 u (o7.2.1, V.2.1, o7.2.2, V.2.2.2.1, V.2.2.2.2.1, V.2.2.2.2.2.1, V.2.2.2.2.2.2.1, V.2.2.2.2.2.2.2.1, V.2.2.2.2.2.2.2.2.1, V.2.2.2.2.2.2.2.2.2) o8.2) (rest := [.int o7.1]) (As := []) ⟨hx, hb, hml, hown, hts⟩ (mX8_save l dC dI cI cZ cC cO q8 _ _ _ e8) (cwV 0 hts gL_law_X8_save rfl rfl rfl (by decide +kernel) ⟨Nat.le_of_ble_eq_true rfl, Nat.le_of_ble_eq_true rfl⟩) hK hN hP hD hS hA [10] [0, 1, 2, 3, 4, 5, 6, 7, 8, 9] [0, 1, 2, 3, 4, 5, 6, 7, 8, 9, 10] rfl rfl (fl1 _) (fun _ => fl1 _) (by decide) (by decide) (fun _ => rfl) 7 rfl rfl rfl rfl hl.1 rfl (Nat.le_of_ble_eq_true rfl) dL_law_710 ⟨Nat.le_of_ble_eq_true rfl, Nat.le_of_ble_eq_true rfl⟩ (fun _ H locs hP hD hS => ?_)
  refine lv_icmp_eq (tgt := 731) hx hb dL_law_713 (by decide) (fun _ => ?_) (fun hc => absurd heq hc)
  exact hJ _ _ hI u d0 hd0 H locs ls hP hD hS hl
set_option maxHeartbeats 20000000 in
set_option maxRecDepth 100000 in
theorem lc_restore {p : Program} {l : Launch} {e : Env} {s : State} {m : MethodId} {below : List Frame} {meth : Method} {c : Code} {dC : Nat → ClassId} {dI : Nat → Nat → Nat} {cI cZ cC cO : ClassId} {b L k : Nat} {xs : Nat → Int32} {Q : Nat → Nat → Nat} {q8 : Nat → Nat} {I : GV → GX8 → Prop} (F : LF p s m c b L xs dC dI cI cZ cC cO) (hL : L ≤ 1536) (hk3 : k + 3 ≤ L) (h_restore : st_restore I) (hJ : LC p l e s m below meth c b k dC dI cI cZ cC cO Q q8 I 731) : LC p l e s m below meth c b k dC dI cI cZ cC cO Q q8 I 718 := by
  obtain ⟨hx, hb, hml, hown, hts0, hX, hbl, hK0, hN0⟩ := F
  have hA : ∀ q : Nat, s.heap.size ≤ q → (fun q : Nat => s.heap.size ≤ q) q := fun _ h => h
  have hbA : ¬ (fun q : Nat => s.heap.size ≤ q) b := Nat.not_le.mpr hbl
  have hi1 : vp_in (nI k + 1) L := by rw [nI_1]; exact vp_in_nI (by omega) (by omega)
  have hi2 : vp_in (nI k + 2) L := by rw [show nI k + 2 = nI (k + 2) from nI_add k 2]; exact vp_in_nI (by omega) (by omega)
  intro V G hI u d0 hd0 H locs ls hP hD hS hl
  have hts : ∀ w ∈ wsL_law, w.before #[Value.ref b] (s.setDrawn d0) = true := dr_words hts0 d0
  have hK : va_K (dC, dI) vwCl (wTys cI cZ cC cO) (s.setDrawn d0) := hK0
  have hN : NN (s.setDrawn d0) := hN0
  have hX : va_X b L xs (s.setDrawn d0) s.heap := hX
  obtain ⟨o7, o8, e7, e8, heq, hI⟩ := h_restore V G hI
  refine lv_aload_n hx hb dL_law_718 rfl (lv_at hl 2 rfl) ?_
  refine wViB (Bs := WB cI cZ cC cO Q q8 u V G) (Cs := [wX7 cI cZ cC (Q 0) (Q 1) (Q 2) (Q 3) (Q 4) (Q 5) (Q 6) (Q 7) (Q 8) (Q 9) V.1, wX4 cI cZ cC (Q 1) V.2.1, wX4 cI cZ cC (Q 2) V.2.2.1, wH cI cZ cC cO (Q 4) u V.2.2.2.2.1]) (Rs := [wX4 cI cZ cC (Q 3) V.2.2.2.1, wX6 cI cZ cC (Q 5) V.2.2.2.2.2.1, wX0 cI cZ cC (Q 6) V.2.2.2.2.2.2.1, wX5 cI cZ cC (Q 7) V.2.2.2.2.2.2.2.1, wX3 cI cZ cC (Q 8) V.2.2.2.2.2.2.2.2.1, wX1 cI cZ cC (Q 9) V.2.2.2.2.2.2.2.2.2, wX8 cI cZ cC q8 G]) (N1 := fun u7 : QH => [wX7 cI cZ cC (Q 0) (Q 1) (Q 2) (Q 3) (Q 4) (Q 5) (Q 6) (Q 7) (Q 8) (Q 9) o7.2.1, wX4 cI cZ cC (Q 1) o7.2.2.1, wX4 cI cZ cC (Q 2) V.2.2.1, wH cI cZ cC cO (Q 4) u7 o7.2.2.2]) (B1 := fun u7 : QH => WB cI cZ cC cO Q q8 u7 (o7.2.1, o7.2.2.1, V.2.2.1, V.2.2.2.1, o7.2.2.2, V.2.2.2.2.2.1, V.2.2.2.2.2.2.1, V.2.2.2.2.2.2.2.1, V.2.2.2.2.2.2.2.2.1, V.2.2.2.2.2.2.2.2.2) G) (rest := []) (As := []) ⟨hx, hb, hml, hown, hts⟩ (mX7_restore l dC dI cI cZ cC cO (Q 0) (Q 1) (Q 2) (Q 3) (Q 4) (Q 5) (Q 6) (Q 7) (Q 8) (Q 9) u _ _ _ _ _ _ e7) (cwV 0 hts gL_law_X7_restore rfl rfl rfl (by decide +kernel) ⟨Nat.le_of_ble_eq_true rfl, Nat.le_of_ble_eq_true rfl⟩) hK hN hP hD hS hA [0, 1, 2, 4] [3, 5, 6, 7, 8, 9, 10] [7, 8, 9, 0, 10, 1, 2, 3, 4, 5, 6] rfl rfl (fl4 _ _ _ _) (fun _ => fl4 _ _ _ _) (by decide) (by decide) (fun _ => rfl) 6 rfl rfl rfl rfl hl.1 rfl (Nat.le_of_ble_eq_true rfl) dL_law_719 ⟨Nat.le_of_ble_eq_true rfl, Nat.le_of_ble_eq_true rfl⟩ (fun u7 H locs hP hD hS => ?_)
  refine lv_aload_n hx hb dL_law_722 rfl (lv_at hl 1 rfl) ?_
  refine wViB (Bs := WB cI cZ cC cO Q q8 u7 (o7.2.1, o7.2.2.1, V.2.2.1, V.2.2.2.1, o7.2.2.2, V.2.2.2.2.2.1, V.2.2.2.2.2.2.1, V.2.2.2.2.2.2.2.1, V.2.2.2.2.2.2.2.2.1, V.2.2.2.2.2.2.2.2.2) G) (Cs := [wX8 cI cZ cC q8 G]) (Rs := [wX7 cI cZ cC (Q 0) (Q 1) (Q 2) (Q 3) (Q 4) (Q 5) (Q 6) (Q 7) (Q 8) (Q 9) o7.2.1, wX4 cI cZ cC (Q 1) o7.2.2.1, wX4 cI cZ cC (Q 2) V.2.2.1, wX4 cI cZ cC (Q 3) V.2.2.2.1, wH cI cZ cC cO (Q 4) u7 o7.2.2.2, wX6 cI cZ cC (Q 5) V.2.2.2.2.2.1, wX0 cI cZ cC (Q 6) V.2.2.2.2.2.2.1, wX5 cI cZ cC (Q 7) V.2.2.2.2.2.2.2.1, wX3 cI cZ cC (Q 8) V.2.2.2.2.2.2.2.2.1, wX1 cI cZ cC (Q 9) V.2.2.2.2.2.2.2.2.2]) (N1 := fun _ : Unit => [wX8 cI cZ cC q8 o8.2]) (B1 := fun _ : Unit => WB cI cZ cC cO Q q8 u7 (o7.2.1, o7.2.2.1, V.2.2.1, V.2.2.2.1, o7.2.2.2, V.2.2.2.2.2.1, V.2.2.2.2.2.2.1, V.2.2.2.2.2.2.2.1, V.2.2.2.2.2.2.2.2.1, V.2.2.2.2.2.2.2.2.2) o8.2) (rest := [.int o7.1]) (As := []) ⟨hx, hb, hml, hown, hts⟩ (mX8_restore l dC dI cI cZ cC cO q8 _ _ _ e8) (cwV 0 hts gL_law_X8_restore rfl rfl rfl (by decide +kernel) ⟨Nat.le_of_ble_eq_true rfl, Nat.le_of_ble_eq_true rfl⟩) hK hN hP hD hS hA [10] [0, 1, 2, 3, 4, 5, 6, 7, 8, 9] [0, 1, 2, 3, 4, 5, 6, 7, 8, 9, 10] rfl rfl (fl1 _) (fun _ => fl1 _) (by decide) (by decide) (fun _ => rfl) 7 rfl rfl rfl rfl hl.1 rfl (Nat.le_of_ble_eq_true rfl) dL_law_723 ⟨Nat.le_of_ble_eq_true rfl, Nat.le_of_ble_eq_true rfl⟩ (fun _ H locs hP hD hS => ?_)
  refine lv_icmp_eq (tgt := 731) hx hb dL_law_726 (by decide) (fun _ => ?_) (fun hc => absurd heq hc)
  exact hJ _ _ hI u7 d0 hd0 H locs ls hP hD hS hl
