set_option maxHeartbeats 20000000 in
set_option maxRecDepth 100000 in
theorem lc_begin {p : Program} {l : Launch} {e : Env} {s : State} {m : MethodId} {below : List Frame} {meth : Method} {c : Code} {dC : Nat → ClassId} {dI : Nat → Nat → Nat} {cI cZ cC cO : ClassId} {b L k : Nat} {xs : Nat → Int32} {Q : Nat → Nat → Nat} {q8 : Nat → Nat} {I : GV → GX8 → Prop} (F : LF p s m c b L xs dC dI cI cZ cC cO) (hL : L ≤ 1536) (hk3 : k + 3 ≤ L) (h_begin : st_begin I) (hJ : LC p l e s m below meth c b k dC dI cI cZ cC cO Q q8 I 731) : LC p l e s m below meth c b k dC dI cI cZ cC cO Q q8 I 148 := by
  obtain ⟨hx, hb, hml, hown, hts0, hX, hbl, hK0, hN0⟩ := F
  have hA : ∀ q : Nat, s.heap.size ≤ q → (fun q : Nat => s.heap.size ≤ q) q := fun _ h => h
  have hbA : ¬ (fun q : Nat => s.heap.size ≤ q) b := Nat.not_le.mpr hbl
  have hi1 : vp_in (nI k + 1) L := by rw [nI_1]; exact vp_in_nI (by omega) (by omega)
  have hi2 : vp_in (nI k + 2) L := by rw [show nI k + 2 = nI (k + 2) from nI_add k 2]; exact vp_in_nI (by omega) (by omega)
  intro V G hI u d0 hd0 H locs ls hP hD hS hl
  have hts : ∀ w ∈ wsL_law, w.before #[Value.ref b] (s.setDrawn d0) = true := dr_words hts0 d0
  have hK : va_K (dC, dI) vwCl (wTys cI cZ cC cO) (s.setDrawn d0) := hK0
  have hN : NN (s.setDrawn d0) := hN0
  have hX : va_X b L xs (s.setDrawn d0) s.heap := hX
  obtain ⟨o7, o8, e7, e8, heq, hI⟩ := h_begin V G (xs (nI k + 1).toNatClampNeg) hI
  refine lv_aload_n hx hb dL_law_148 rfl (lv_at hl 2 rfl) ?_
  refine lv_aload_n hx hb dL_law_149 rfl (lv_at hl 3 rfl) ?_
  refine lv_iload_n hx hb dL_law_150 rfl (lv_at hl 0 rfl) ?_
  refine lv_iconst (v := 1) hx hb dL_law_151 (by decide) ?_
  refine lv_iadd hx hb dL_law_152 ?_
  refine va_sld hx hb hX hbl hbA hS hi1 dL_law_153 ?_
  refine wViB (Bs := WB cI cZ cC cO Q q8 u V G) (Cs := [wX7 cI cZ cC (Q 0) (Q 1) (Q 2) (Q 3) (Q 4) (Q 5) (Q 6) (Q 7) (Q 8) (Q 9) V.1, wX4 cI cZ cC (Q 1) V.2.1, wH cI cZ cC cO (Q 4) u V.2.2.2.2.1]) (Rs := [wX4 cI cZ cC (Q 2) V.2.2.1, wX4 cI cZ cC (Q 3) V.2.2.2.1, wX6 cI cZ cC (Q 5) V.2.2.2.2.2.1, wX0 cI cZ cC (Q 6) V.2.2.2.2.2.2.1, wX5 cI cZ cC (Q 7) V.2.2.2.2.2.2.2.1, wX3 cI cZ cC (Q 8) V.2.2.2.2.2.2.2.2.1, wX1 cI cZ cC (Q 9) V.2.2.2.2.2.2.2.2.2, wX8 cI cZ cC q8 G]) (N1 := fun u7 : QH => [wX7 cI cZ cC (Q 0) (Q 1) (Q 2) (Q 3) (Q 4) (Q 5) (Q 6) (Q 7) (Q 8) (Q 9) o7.2.1, wX4 cI cZ cC (Q 1) o7.2.2.1, wH cI cZ cC cO (Q 4) u7 o7.2.2.2]) (B1 := fun u7 : QH => WB cI cZ cC cO Q q8 u7 (o7.2.1, o7.2.2.1, V.2.2.1, V.2.2.2.1, o7.2.2.2, V.2.2.2.2.2.1, V.2.2.2.2.2.2.1, V.2.2.2.2.2.2.2.1, V.2.2.2.2.2.2.2.2.1, V.2.2.2.2.2.2.2.2.2) G) (rest := []) (As := [.int (xs (nI k + 1).toNatClampNeg)]) ⟨hx, hb, hml, hown, hts⟩ (mX7_begin l dC dI cI cZ cC cO (Q 0) (Q 1) (Q 2) (Q 3) (Q 4) (Q 5) (Q 6) (Q 7) (Q 8) (Q 9) u _ _ _ _ _ _ e7) (cwV 1 hts gL_law_X7_begin rfl rfl rfl (by decide +kernel) ⟨Nat.le_of_ble_eq_true rfl, Nat.le_of_ble_eq_true rfl⟩) hK hN hP hD hS hA [0, 1, 4] [2, 3, 5, 6, 7, 8, 9, 10] [8, 9, 0, 1, 10, 2, 3, 4, 5, 6, 7] rfl rfl (fl3 _ _ _) (fun _ => fl3 _ _ _) (by decide) (by decide) (fun _ => rfl) 6 rfl rfl rfl rfl hl.1 rfl (Nat.le_of_ble_eq_true rfl) dL_law_154 ⟨Nat.le_of_ble_eq_true rfl, Nat.le_of_ble_eq_true rfl⟩ (fun u7 H locs hP hD hS => ?_)
  refine lv_aload_n hx hb dL_law_157 rfl (lv_at hl 1 rfl) ?_
  refine lv_aload_n hx hb dL_law_158 rfl (lv_at hl 3 rfl) ?_
  refine lv_iload_n hx hb dL_law_159 rfl (lv_at hl 0 rfl) ?_
  refine lv_iconst (v := 1) hx hb dL_law_160 (by decide) ?_
  refine lv_iadd hx hb dL_law_161 ?_
  refine va_sld hx hb hX hbl hbA hS hi1 dL_law_162 ?_
  refine wViB (Bs := WB cI cZ cC cO Q q8 u7 (o7.2.1, o7.2.2.1, V.2.2.1, V.2.2.2.1, o7.2.2.2, V.2.2.2.2.2.1, V.2.2.2.2.2.2.1, V.2.2.2.2.2.2.2.1, V.2.2.2.2.2.2.2.2.1, V.2.2.2.2.2.2.2.2.2) G) (Cs := [wX8 cI cZ cC q8 G]) (Rs := [wX7 cI cZ cC (Q 0) (Q 1) (Q 2) (Q 3) (Q 4) (Q 5) (Q 6) (Q 7) (Q 8) (Q 9) o7.2.1, wX4 cI cZ cC (Q 1) o7.2.2.1, wX4 cI cZ cC (Q 2) V.2.2.1, wX4 cI cZ cC (Q 3) V.2.2.2.1, wH cI cZ cC cO (Q 4) u7 o7.2.2.2, wX6 cI cZ cC (Q 5) V.2.2.2.2.2.1, wX0 cI cZ cC (Q 6) V.2.2.2.2.2.2.1, wX5 cI cZ cC (Q 7) V.2.2.2.2.2.2.2.1, wX3 cI cZ cC (Q 8) V.2.2.2.2.2.2.2.2.1, wX1 cI cZ cC (Q 9) V.2.2.2.2.2.2.2.2.2]) (N1 := fun _ : Unit => [wX8 cI cZ cC q8 o8.2]) (B1 := fun _ : Unit => WB cI cZ cC cO Q q8 u7 (o7.2.1, o7.2.2.1, V.2.2.1, V.2.2.2.1, o7.2.2.2, V.2.2.2.2.2.1, V.2.2.2.2.2.2.1, V.2.2.2.2.2.2.2.1, V.2.2.2.2.2.2.2.2.1, V.2.2.2.2.2.2.2.2.2) o8.2) (rest := [.int o7.1]) (As := [.int (xs (nI k + 1).toNatClampNeg)]) ⟨hx, hb, hml, hown, hts⟩ (mX8_begin l dC dI cI cZ cC cO q8 _ _ _ _ e8) (cwV 1 hts gL_law_X8_begin rfl rfl rfl (by decide +kernel) ⟨Nat.le_of_ble_eq_true rfl, Nat.le_of_ble_eq_true rfl⟩) hK hN hP hD hS hA [10] [0, 1, 2, 3, 4, 5, 6, 7, 8, 9] [0, 1, 2, 3, 4, 5, 6, 7, 8, 9, 10] rfl rfl (fl1 _) (fun _ => fl1 _) (by decide) (by decide) (fun _ => rfl) 7 rfl rfl rfl rfl hl.1 rfl (Nat.le_of_ble_eq_true rfl) dL_law_163 ⟨Nat.le_of_ble_eq_true rfl, Nat.le_of_ble_eq_true rfl⟩ (fun _ H locs hP hD hS => ?_)
  refine lv_icmp_eq (tgt := 731) hx hb dL_law_166 (by decide) (fun _ => ?_) (fun hc => absurd heq hc)
  exact hJ _ _ hI u7 d0 hd0 H locs ls hP hD hS hl
set_option maxHeartbeats 20000000 in
set_option maxRecDepth 100000 in
theorem lc_lot {p : Program} {l : Launch} {e : Env} {s : State} {m : MethodId} {below : List Frame} {meth : Method} {c : Code} {dC : Nat → ClassId} {dI : Nat → Nat → Nat} {cI cZ cC cO : ClassId} {b L k : Nat} {xs : Nat → Int32} {Q : Nat → Nat → Nat} {q8 : Nat → Nat} {I : GV → GX8 → Prop} (F : LF p s m c b L xs dC dI cI cZ cC cO) (hL : L ≤ 1536) (hk3 : k + 3 ≤ L) (h_lot : st_lot I) (hJ : LC p l e s m below meth c b k dC dI cI cZ cC cO Q q8 I 731) : LC p l e s m below meth c b k dC dI cI cZ cC cO Q q8 I 171 := by
  obtain ⟨hx, hb, hml, hown, hts0, hX, hbl, hK0, hN0⟩ := F
  have hA : ∀ q : Nat, s.heap.size ≤ q → (fun q : Nat => s.heap.size ≤ q) q := fun _ h => h
  have hbA : ¬ (fun q : Nat => s.heap.size ≤ q) b := Nat.not_le.mpr hbl
  have hi1 : vp_in (nI k + 1) L := by rw [nI_1]; exact vp_in_nI (by omega) (by omega)
  have hi2 : vp_in (nI k + 2) L := by rw [show nI k + 2 = nI (k + 2) from nI_add k 2]; exact vp_in_nI (by omega) (by omega)
  intro V G hI u d0 hd0 H locs ls hP hD hS hl
  have hts : ∀ w ∈ wsL_law, w.before #[Value.ref b] (s.setDrawn d0) = true := dr_words hts0 d0
  have hK : va_K (dC, dI) vwCl (wTys cI cZ cC cO) (s.setDrawn d0) := hK0
  have hN : NN (s.setDrawn d0) := hN0
  have hX : va_X b L xs (s.setDrawn d0) s.heap := hX
  obtain ⟨o7, o8, e7, e8, heq, hI⟩ := h_lot V G (xs (nI k + 1).toNatClampNeg) hI
  refine lv_aload_n hx hb dL_law_171 rfl (lv_at hl 2 rfl) ?_
  refine lv_aload_n hx hb dL_law_172 rfl (lv_at hl 3 rfl) ?_
  refine lv_iload_n hx hb dL_law_173 rfl (lv_at hl 0 rfl) ?_
  refine lv_iconst (v := 1) hx hb dL_law_174 (by decide) ?_
  refine lv_iadd hx hb dL_law_175 ?_
  refine va_sld hx hb hX hbl hbA hS hi1 dL_law_176 ?_
  refine wViB (Bs := WB cI cZ cC cO Q q8 u V G) (Cs := [wX7 cI cZ cC (Q 0) (Q 1) (Q 2) (Q 3) (Q 4) (Q 5) (Q 6) (Q 7) (Q 8) (Q 9) V.1, wX4 cI cZ cC (Q 1) V.2.1, wH cI cZ cC cO (Q 4) u V.2.2.2.2.1]) (Rs := [wX4 cI cZ cC (Q 2) V.2.2.1, wX4 cI cZ cC (Q 3) V.2.2.2.1, wX6 cI cZ cC (Q 5) V.2.2.2.2.2.1, wX0 cI cZ cC (Q 6) V.2.2.2.2.2.2.1, wX5 cI cZ cC (Q 7) V.2.2.2.2.2.2.2.1, wX3 cI cZ cC (Q 8) V.2.2.2.2.2.2.2.2.1, wX1 cI cZ cC (Q 9) V.2.2.2.2.2.2.2.2.2, wX8 cI cZ cC q8 G]) (N1 := fun u7 : QH => [wX7 cI cZ cC (Q 0) (Q 1) (Q 2) (Q 3) (Q 4) (Q 5) (Q 6) (Q 7) (Q 8) (Q 9) o7.2.1, wX4 cI cZ cC (Q 1) o7.2.2.1, wH cI cZ cC cO (Q 4) u7 o7.2.2.2]) (B1 := fun u7 : QH => WB cI cZ cC cO Q q8 u7 (o7.2.1, o7.2.2.1, V.2.2.1, V.2.2.2.1, o7.2.2.2, V.2.2.2.2.2.1, V.2.2.2.2.2.2.1, V.2.2.2.2.2.2.2.1, V.2.2.2.2.2.2.2.2.1, V.2.2.2.2.2.2.2.2.2) G) (rest := []) (As := [.int (xs (nI k + 1).toNatClampNeg)]) ⟨hx, hb, hml, hown, hts⟩ (mX7_lot l dC dI cI cZ cC cO (Q 0) (Q 1) (Q 2) (Q 3) (Q 4) (Q 5) (Q 6) (Q 7) (Q 8) (Q 9) u _ _ _ _ _ _ e7) (cwV 1 hts gL_law_X7_lot rfl rfl rfl (by decide +kernel) ⟨Nat.le_of_ble_eq_true rfl, Nat.le_of_ble_eq_true rfl⟩) hK hN hP hD hS hA [0, 1, 4] [2, 3, 5, 6, 7, 8, 9, 10] [8, 9, 0, 1, 10, 2, 3, 4, 5, 6, 7] rfl rfl (fl3 _ _ _) (fun _ => fl3 _ _ _) (by decide) (by decide) (fun _ => rfl) 6 rfl rfl rfl rfl hl.1 rfl (Nat.le_of_ble_eq_true rfl) dL_law_177 ⟨Nat.le_of_ble_eq_true rfl, Nat.le_of_ble_eq_true rfl⟩ (fun u7 H locs hP hD hS => ?_)
  refine lv_aload_n hx hb dL_law_180 rfl (lv_at hl 1 rfl) ?_
  refine lv_aload_n hx hb dL_law_181 rfl (lv_at hl 3 rfl) ?_
  refine lv_iload_n hx hb dL_law_182 rfl (lv_at hl 0 rfl) ?_
  refine lv_iconst (v := 1) hx hb dL_law_183 (by decide) ?_
  refine lv_iadd hx hb dL_law_184 ?_
  refine va_sld hx hb hX hbl hbA hS hi1 dL_law_185 ?_
  refine wViB (Bs := WB cI cZ cC cO Q q8 u7 (o7.2.1, o7.2.2.1, V.2.2.1, V.2.2.2.1, o7.2.2.2, V.2.2.2.2.2.1, V.2.2.2.2.2.2.1, V.2.2.2.2.2.2.2.1, V.2.2.2.2.2.2.2.2.1, V.2.2.2.2.2.2.2.2.2) G) (Cs := [wX8 cI cZ cC q8 G]) (Rs := [wX7 cI cZ cC (Q 0) (Q 1) (Q 2) (Q 3) (Q 4) (Q 5) (Q 6) (Q 7) (Q 8) (Q 9) o7.2.1, wX4 cI cZ cC (Q 1) o7.2.2.1, wX4 cI cZ cC (Q 2) V.2.2.1, wX4 cI cZ cC (Q 3) V.2.2.2.1, wH cI cZ cC cO (Q 4) u7 o7.2.2.2, wX6 cI cZ cC (Q 5) V.2.2.2.2.2.1, wX0 cI cZ cC (Q 6) V.2.2.2.2.2.2.1, wX5 cI cZ cC (Q 7) V.2.2.2.2.2.2.2.1, wX3 cI cZ cC (Q 8) V.2.2.2.2.2.2.2.2.1, wX1 cI cZ cC (Q 9) V.2.2.2.2.2.2.2.2.2]) (N1 := fun _ : Unit => [wX8 cI cZ cC q8 o8.2]) (B1 := fun _ : Unit => WB cI cZ cC cO Q q8 u7 (o7.2.1, o7.2.2.1, V.2.2.1, V.2.2.2.1, o7.2.2.2, V.2.2.2.2.2.1, V.2.2.2.2.2.2.1, V.2.2.2.2.2.2.2.1, V.2.2.2.2.2.2.2.2.1, V.2.2.2.2.2.2.2.2.2) o8.2) (rest := [.int o7.1]) (As := [.int (xs (nI k + 1).toNatClampNeg)]) ⟨hx, hb, hml, hown, hts⟩ (mX8_lot l dC dI cI cZ cC cO q8 _ _ _ _ e8) (cwV 1 hts gL_law_X8_lot rfl rfl rfl (by decide +kernel) ⟨Nat.le_of_ble_eq_true rfl, Nat.le_of_ble_eq_true rfl⟩) hK hN hP hD hS hA [10] [0, 1, 2, 3, 4, 5, 6, 7, 8, 9] [0, 1, 2, 3, 4, 5, 6, 7, 8, 9, 10] rfl rfl (fl1 _) (fun _ => fl1 _) (by decide) (by decide) (fun _ => rfl) 7 rfl rfl rfl rfl hl.1 rfl (Nat.le_of_ble_eq_true rfl) dL_law_186 ⟨Nat.le_of_ble_eq_true rfl, Nat.le_of_ble_eq_true rfl⟩ (fun _ H locs hP hD hS => ?_)
  refine lv_icmp_eq (tgt := 731) hx hb dL_law_189 (by decide) (fun _ => ?_) (fun hc => absurd heq hc)
  exact hJ _ _ hI u7 d0 hd0 H locs ls hP hD hS hl
set_option maxHeartbeats 20000000 in
set_option maxRecDepth 100000 in
theorem lc_go {p : Program} {l : Launch} {e : Env} {s : State} {m : MethodId} {below : List Frame} {meth : Method} {c : Code} {dC : Nat → ClassId} {dI : Nat → Nat → Nat} {cI cZ cC cO : ClassId} {b L k : Nat} {xs : Nat → Int32} {Q : Nat → Nat → Nat} {q8 : Nat → Nat} {I : GV → GX8 → Prop} (F : LF p s m c b L xs dC dI cI cZ cC cO) (hL : L ≤ 1536) (hk3 : k + 3 ≤ L) (h_go : st_go I) (hJ : LC p l e s m below meth c b k dC dI cI cZ cC cO Q q8 I 731) : LC p l e s m below meth c b k dC dI cI cZ cC cO Q q8 I 194 := by
  obtain ⟨hx, hb, hml, hown, hts0, hX, hbl, hK0, hN0⟩ := F
  have hA : ∀ q : Nat, s.heap.size ≤ q → (fun q : Nat => s.heap.size ≤ q) q := fun _ h => h
  have hbA : ¬ (fun q : Nat => s.heap.size ≤ q) b := Nat.not_le.mpr hbl
  have hi1 : vp_in (nI k + 1) L := by rw [nI_1]; exact vp_in_nI (by omega) (by omega)
  have hi2 : vp_in (nI k + 2) L := by rw [show nI k + 2 = nI (k + 2) from nI_add k 2]; exact vp_in_nI (by omega) (by omega)
  intro V G hI u d0 hd0 H locs ls hP hD hS hl
  have hts : ∀ w ∈ wsL_law, w.before #[Value.ref b] (s.setDrawn d0) = true := dr_words hts0 d0
  have hK : va_K (dC, dI) vwCl (wTys cI cZ cC cO) (s.setDrawn d0) := hK0
  have hN : NN (s.setDrawn d0) := hN0
  have hX : va_X b L xs (s.setDrawn d0) s.heap := hX
  obtain ⟨o7, o8, e7, e8, heq, hI⟩ := h_go V G (xs (nI k + 1).toNatClampNeg) hI
  refine lv_aload_n hx hb dL_law_194 rfl (lv_at hl 2 rfl) ?_
  refine lv_aload_n hx hb dL_law_195 rfl (lv_at hl 3 rfl) ?_
  refine lv_iload_n hx hb dL_law_196 rfl (lv_at hl 0 rfl) ?_
  refine lv_iconst (v := 1) hx hb dL_law_197 (by decide) ?_
  refine lv_iadd hx hb dL_law_198 ?_
  refine va_sld hx hb hX hbl hbA hS hi1 dL_law_199 ?_
  refine wViB (Bs := WB cI cZ cC cO Q q8 u V G) (Cs := [wX7 cI cZ cC (Q 0) (Q 1) (Q 2) (Q 3) (Q 4) (Q 5) (Q 6) (Q 7) (Q 8) (Q 9) V.1, wX4 cI cZ cC (Q 1) V.2.1, wH cI cZ cC cO (Q 4) u V.2.2.2.2.1, wX6 cI cZ cC (Q 5) V.2.2.2.2.2.1]) (Rs := [wX4 cI cZ cC (Q 2) V.2.2.1, wX4 cI cZ cC (Q 3) V.2.2.2.1, wX0 cI cZ cC (Q 6) V.2.2.2.2.2.2.1, wX5 cI cZ cC (Q 7) V.2.2.2.2.2.2.2.1, wX3 cI cZ cC (Q 8) V.2.2.2.2.2.2.2.2.1, wX1 cI cZ cC (Q 9) V.2.2.2.2.2.2.2.2.2, wX8 cI cZ cC q8 G]) (N1 := fun u7 : QH => [wX7 cI cZ cC (Q 0) (Q 1) (Q 2) (Q 3) (Q 4) (Q 5) (Q 6) (Q 7) (Q 8) (Q 9) o7.2.1, wX4 cI cZ cC (Q 1) o7.2.2.1, wH cI cZ cC cO (Q 4) u7 o7.2.2.2.1, wX6 cI cZ cC (Q 5) o7.2.2.2.2]) (B1 := fun u7 : QH => WB cI cZ cC cO Q q8 u7 (o7.2.1, o7.2.2.1, V.2.2.1, V.2.2.2.1, o7.2.2.2.1, o7.2.2.2.2, V.2.2.2.2.2.2.1, V.2.2.2.2.2.2.2.1, V.2.2.2.2.2.2.2.2.1, V.2.2.2.2.2.2.2.2.2) G) (rest := []) (As := [.int (xs (nI k + 1).toNatClampNeg)]) ⟨hx, hb, hml, hown, hts⟩ (mX7_go l dC dI cI cZ cC cO (Q 0) (Q 1) (Q 2) (Q 3) (Q 4) (Q 5) (Q 6) (Q 7) (Q 8) (Q 9) u _ _ _ _ _ _ _ e7) (cwV 1 hts gL_law_X7_go rfl rfl rfl (by decide +kernel) ⟨Nat.le_of_ble_eq_true rfl, Nat.le_of_ble_eq_true rfl⟩) hK hN hP hD hS hA [0, 1, 4, 5] [2, 3, 6, 7, 8, 9, 10] [7, 8, 0, 1, 9, 10, 2, 3, 4, 5, 6] rfl rfl (fl4 _ _ _ _) (fun _ => fl4 _ _ _ _) (by decide) (by decide) (fun _ => rfl) 6 rfl rfl rfl rfl hl.1 rfl (Nat.le_of_ble_eq_true rfl) dL_law_200 ⟨Nat.le_of_ble_eq_true rfl, Nat.le_of_ble_eq_true rfl⟩ (fun u7 H locs hP hD hS => ?_)
  refine lv_aload_n hx hb dL_law_203 rfl (lv_at hl 1 rfl) ?_
  refine lv_aload_n hx hb dL_law_204 rfl (lv_at hl 3 rfl) ?_
  refine lv_iload_n hx hb dL_law_205 rfl (lv_at hl 0 rfl) ?_
  refine lv_iconst (v := 1) hx hb dL_law_206 (by decide) ?_
  refine lv_iadd hx hb dL_law_207 ?_
  refine va_sld hx hb hX hbl hbA hS hi1 dL_law_208 ?_
  refine wViB (Bs := WB cI cZ cC cO Q q8 u7 (o7.2.1, o7.2.2.1, V.2.2.1, V.2.2.2.1, o7.2.2.2.1, o7.2.2.2.2, V.2.2.2.2.2.2.1, V.2.2.2.2.2.2.2.1, V.2.2.2.2.2.2.2.2.1, V.2.2.2.2.2.2.2.2.2) G) (Cs := [wX8 cI cZ cC q8 G]) (Rs := [wX7 cI cZ cC (Q 0) (Q 1) (Q 2) (Q 3) (Q 4) (Q 5) (Q 6) (Q 7) (Q 8) (Q 9) o7.2.1, wX4 cI cZ cC (Q 1) o7.2.2.1, wX4 cI cZ cC (Q 2) V.2.2.1, wX4 cI cZ cC (Q 3) V.2.2.2.1, wH cI cZ cC cO (Q 4) u7 o7.2.2.2.1, wX6 cI cZ cC (Q 5) o7.2.2.2.2, wX0 cI cZ cC (Q 6) V.2.2.2.2.2.2.1, wX5 cI cZ cC (Q 7) V.2.2.2.2.2.2.2.1, wX3 cI cZ cC (Q 8) V.2.2.2.2.2.2.2.2.1, wX1 cI cZ cC (Q 9) V.2.2.2.2.2.2.2.2.2]) (N1 := fun _ : Unit => [wX8 cI cZ cC q8 o8.2]) (B1 := fun _ : Unit => WB cI cZ cC cO Q q8 u7 (o7.2.1, o7.2.2.1, V.2.2.1, V.2.2.2.1, o7.2.2.2.1, o7.2.2.2.2, V.2.2.2.2.2.2.1, V.2.2.2.2.2.2.2.1, V.2.2.2.2.2.2.2.2.1, V.2.2.2.2.2.2.2.2.2) o8.2) (rest := [.int o7.1]) (As := [.int (xs (nI k + 1).toNatClampNeg)]) ⟨hx, hb, hml, hown, hts⟩ (mX8_go l dC dI cI cZ cC cO q8 _ _ _ _ e8) (cwV 1 hts gL_law_X8_go rfl rfl rfl (by decide +kernel) ⟨Nat.le_of_ble_eq_true rfl, Nat.le_of_ble_eq_true rfl⟩) hK hN hP hD hS hA [10] [0, 1, 2, 3, 4, 5, 6, 7, 8, 9] [0, 1, 2, 3, 4, 5, 6, 7, 8, 9, 10] rfl rfl (fl1 _) (fun _ => fl1 _) (by decide) (by decide) (fun _ => rfl) 7 rfl rfl rfl rfl hl.1 rfl (Nat.le_of_ble_eq_true rfl) dL_law_209 ⟨Nat.le_of_ble_eq_true rfl, Nat.le_of_ble_eq_true rfl⟩ (fun _ H locs hP hD hS => ?_)
  refine lv_icmp_eq (tgt := 731) hx hb dL_law_212 (by decide) (fun _ => ?_) (fun hc => absurd heq hc)
  exact hJ _ _ hI u7 d0 hd0 H locs ls hP hD hS hl
set_option maxHeartbeats 20000000 in
set_option maxRecDepth 100000 in
theorem lc_rain {p : Program} {l : Launch} {e : Env} {s : State} {m : MethodId} {below : List Frame} {meth : Method} {c : Code} {dC : Nat → ClassId} {dI : Nat → Nat → Nat} {cI cZ cC cO : ClassId} {b L k : Nat} {xs : Nat → Int32} {Q : Nat → Nat → Nat} {q8 : Nat → Nat} {I : GV → GX8 → Prop} (F : LF p s m c b L xs dC dI cI cZ cC cO) (hL : L ≤ 1536) (hk3 : k + 3 ≤ L) (h_rain : st_rain I) (hJ : LC p l e s m below meth c b k dC dI cI cZ cC cO Q q8 I 731) : LC p l e s m below meth c b k dC dI cI cZ cC cO Q q8 I 217 := by
  obtain ⟨hx, hb, hml, hown, hts0, hX, hbl, hK0, hN0⟩ := F
  have hA : ∀ q : Nat, s.heap.size ≤ q → (fun q : Nat => s.heap.size ≤ q) q := fun _ h => h
  have hbA : ¬ (fun q : Nat => s.heap.size ≤ q) b := Nat.not_le.mpr hbl
  have hi1 : vp_in (nI k + 1) L := by rw [nI_1]; exact vp_in_nI (by omega) (by omega)
  have hi2 : vp_in (nI k + 2) L := by rw [show nI k + 2 = nI (k + 2) from nI_add k 2]; exact vp_in_nI (by omega) (by omega)
  intro V G hI u d0 hd0 H locs ls hP hD hS hl
  have hts : ∀ w ∈ wsL_law, w.before #[Value.ref b] (s.setDrawn d0) = true := dr_words hts0 d0
  have hK : va_K (dC, dI) vwCl (wTys cI cZ cC cO) (s.setDrawn d0) := hK0
  have hN : NN (s.setDrawn d0) := hN0
  have hX : va_X b L xs (s.setDrawn d0) s.heap := hX
  obtain ⟨o7, o8, e7, e8, heq, hI⟩ := h_rain V G (xs (nI k + 1).toNatClampNeg) hI
  refine lv_aload_n hx hb dL_law_217 rfl (lv_at hl 2 rfl) ?_
  refine lv_aload_n hx hb dL_law_218 rfl (lv_at hl 3 rfl) ?_
  refine lv_iload_n hx hb dL_law_219 rfl (lv_at hl 0 rfl) ?_
  refine lv_iconst (v := 1) hx hb dL_law_220 (by decide) ?_
  refine lv_iadd hx hb dL_law_221 ?_
  refine va_sld hx hb hX hbl hbA hS hi1 dL_law_222 ?_
  refine wViB (Bs := WB cI cZ cC cO Q q8 u V G) (Cs := [wX7 cI cZ cC (Q 0) (Q 1) (Q 2) (Q 3) (Q 4) (Q 5) (Q 6) (Q 7) (Q 8) (Q 9) V.1, wX4 cI cZ cC (Q 1) V.2.1, wH cI cZ cC cO (Q 4) u V.2.2.2.2.1, wX6 cI cZ cC (Q 5) V.2.2.2.2.2.1]) (Rs := [wX4 cI cZ cC (Q 2) V.2.2.1, wX4 cI cZ cC (Q 3) V.2.2.2.1, wX0 cI cZ cC (Q 6) V.2.2.2.2.2.2.1, wX5 cI cZ cC (Q 7) V.2.2.2.2.2.2.2.1, wX3 cI cZ cC (Q 8) V.2.2.2.2.2.2.2.2.1, wX1 cI cZ cC (Q 9) V.2.2.2.2.2.2.2.2.2, wX8 cI cZ cC q8 G]) (N1 := fun u7 : QH => [wX7 cI cZ cC (Q 0) (Q 1) (Q 2) (Q 3) (Q 4) (Q 5) (Q 6) (Q 7) (Q 8) (Q 9) o7.2.1, wX4 cI cZ cC (Q 1) o7.2.2.1, wH cI cZ cC cO (Q 4) u7 o7.2.2.2.1, wX6 cI cZ cC (Q 5) o7.2.2.2.2]) (B1 := fun u7 : QH => WB cI cZ cC cO Q q8 u7 (o7.2.1, o7.2.2.1, V.2.2.1, V.2.2.2.1, o7.2.2.2.1, o7.2.2.2.2, V.2.2.2.2.2.2.1, V.2.2.2.2.2.2.2.1, V.2.2.2.2.2.2.2.2.1, V.2.2.2.2.2.2.2.2.2) G) (rest := []) (As := [.int (xs (nI k + 1).toNatClampNeg)]) ⟨hx, hb, hml, hown, hts⟩ (mX7_rain l dC dI cI cZ cC cO (Q 0) (Q 1) (Q 2) (Q 3) (Q 4) (Q 5) (Q 6) (Q 7) (Q 8) (Q 9) u _ _ _ _ _ _ _ e7) (cwV 1 hts gL_law_X7_rain rfl rfl rfl (by decide +kernel) ⟨Nat.le_of_ble_eq_true rfl, Nat.le_of_ble_eq_true rfl⟩) hK hN hP hD hS hA [0, 1, 4, 5] [2, 3, 6, 7, 8, 9, 10] [7, 8, 0, 1, 9, 10, 2, 3, 4, 5, 6] rfl rfl (fl4 _ _ _ _) (fun _ => fl4 _ _ _ _) (by decide) (by decide) (fun _ => rfl) 6 rfl rfl rfl rfl hl.1 rfl (Nat.le_of_ble_eq_true rfl) dL_law_223 ⟨Nat.le_of_ble_eq_true rfl, Nat.le_of_ble_eq_true rfl⟩ (fun u7 H locs hP hD hS => ?_)
  refine lv_aload_n hx hb dL_law_226 rfl (lv_at hl 1 rfl) ?_
  refine lv_aload_n hx hb dL_law_227 rfl (lv_at hl 3 rfl) ?_
  refine lv_iload_n hx hb dL_law_228 rfl (lv_at hl 0 rfl) ?_
  refine lv_iconst (v := 1) hx hb dL_law_229 (by decide) ?_
  refine lv_iadd hx hb dL_law_230 ?_
  refine va_sld hx hb hX hbl hbA hS hi1 dL_law_231 ?_
  refine wViB (Bs := WB cI cZ cC cO Q q8 u7 (o7.2.1, o7.2.2.1, V.2.2.1, V.2.2.2.1, o7.2.2.2.1, o7.2.2.2.2, V.2.2.2.2.2.2.1, V.2.2.2.2.2.2.2.1, V.2.2.2.2.2.2.2.2.1, V.2.2.2.2.2.2.2.2.2) G) (Cs := [wX8 cI cZ cC q8 G]) (Rs := [wX7 cI cZ cC (Q 0) (Q 1) (Q 2) (Q 3) (Q 4) (Q 5) (Q 6) (Q 7) (Q 8) (Q 9) o7.2.1, wX4 cI cZ cC (Q 1) o7.2.2.1, wX4 cI cZ cC (Q 2) V.2.2.1, wX4 cI cZ cC (Q 3) V.2.2.2.1, wH cI cZ cC cO (Q 4) u7 o7.2.2.2.1, wX6 cI cZ cC (Q 5) o7.2.2.2.2, wX0 cI cZ cC (Q 6) V.2.2.2.2.2.2.1, wX5 cI cZ cC (Q 7) V.2.2.2.2.2.2.2.1, wX3 cI cZ cC (Q 8) V.2.2.2.2.2.2.2.2.1, wX1 cI cZ cC (Q 9) V.2.2.2.2.2.2.2.2.2]) (N1 := fun _ : Unit => [wX8 cI cZ cC q8 o8.2]) (B1 := fun _ : Unit => WB cI cZ cC cO Q q8 u7 (o7.2.1, o7.2.2.1, V.2.2.1, V.2.2.2.1, o7.2.2.2.1, o7.2.2.2.2, V.2.2.2.2.2.2.1, V.2.2.2.2.2.2.2.1, V.2.2.2.2.2.2.2.2.1, V.2.2.2.2.2.2.2.2.2) o8.2) (rest := [.int o7.1]) (As := [.int (xs (nI k + 1).toNatClampNeg)]) ⟨hx, hb, hml, hown, hts⟩ (mX8_rain l dC dI cI cZ cC cO q8 _ _ _ _ e8) (cwV 1 hts gL_law_X8_rain rfl rfl rfl (by decide +kernel) ⟨Nat.le_of_ble_eq_true rfl, Nat.le_of_ble_eq_true rfl⟩) hK hN hP hD hS hA [10] [0, 1, 2, 3, 4, 5, 6, 7, 8, 9] [0, 1, 2, 3, 4, 5, 6, 7, 8, 9, 10] rfl rfl (fl1 _) (fun _ => fl1 _) (by decide) (by decide) (fun _ => rfl) 7 rfl rfl rfl rfl hl.1 rfl (Nat.le_of_ble_eq_true rfl) dL_law_232 ⟨Nat.le_of_ble_eq_true rfl, Nat.le_of_ble_eq_true rfl⟩ (fun _ H locs hP hD hS => ?_)
  refine lv_icmp_eq (tgt := 731) hx hb dL_law_235 (by decide) (fun _ => ?_) (fun hc => absurd heq hc)
  exact hJ _ _ hI u7 d0 hd0 H locs ls hP hD hS hl
set_option maxHeartbeats 20000000 in
set_option maxRecDepth 100000 in
theorem lc_breakOff {p : Program} {l : Launch} {e : Env} {s : State} {m : MethodId} {below : List Frame} {meth : Method} {c : Code} {dC : Nat → ClassId} {dI : Nat → Nat → Nat} {cI cZ cC cO : ClassId} {b L k : Nat} {xs : Nat → Int32} {Q : Nat → Nat → Nat} {q8 : Nat → Nat} {I : GV → GX8 → Prop} (F : LF p s m c b L xs dC dI cI cZ cC cO) (hL : L ≤ 1536) (hk3 : k + 3 ≤ L) (h_breakOff : st_breakOff I) (hJ : LC p l e s m below meth c b k dC dI cI cZ cC cO Q q8 I 731) : LC p l e s m below meth c b k dC dI cI cZ cC cO Q q8 I 240 := by
  obtain ⟨hx, hb, hml, hown, hts0, hX, hbl, hK0, hN0⟩ := F
  have hA : ∀ q : Nat, s.heap.size ≤ q → (fun q : Nat => s.heap.size ≤ q) q := fun _ h => h
  have hbA : ¬ (fun q : Nat => s.heap.size ≤ q) b := Nat.not_le.mpr hbl
  have hi1 : vp_in (nI k + 1) L := by rw [nI_1]; exact vp_in_nI (by omega) (by omega)
  have hi2 : vp_in (nI k + 2) L := by rw [show nI k + 2 = nI (k + 2) from nI_add k 2]; exact vp_in_nI (by omega) (by omega)
  intro V G hI u d0 hd0 H locs ls hP hD hS hl
  have hts : ∀ w ∈ wsL_law, w.before #[Value.ref b] (s.setDrawn d0) = true := dr_words hts0 d0
  have hK : va_K (dC, dI) vwCl (wTys cI cZ cC cO) (s.setDrawn d0) := hK0
  have hN : NN (s.setDrawn d0) := hN0
  have hX : va_X b L xs (s.setDrawn d0) s.heap := hX
  obtain ⟨o7, o8, e7, e8, heq, hI⟩ := h_breakOff V G (xs (nI k + 1).toNatClampNeg) hI
  refine lv_aload_n hx hb dL_law_240 rfl (lv_at hl 2 rfl) ?_
  refine lv_aload_n hx hb dL_law_241 rfl (lv_at hl 3 rfl) ?_
  refine lv_iload_n hx hb dL_law_242 rfl (lv_at hl 0 rfl) ?_
  refine lv_iconst (v := 1) hx hb dL_law_243 (by decide) ?_
  refine lv_iadd hx hb dL_law_244 ?_
  refine va_sld hx hb hX hbl hbA hS hi1 dL_law_245 ?_
  refine wViB (Bs := WB cI cZ cC cO Q q8 u V G) (Cs := [wX7 cI cZ cC (Q 0) (Q 1) (Q 2) (Q 3) (Q 4) (Q 5) (Q 6) (Q 7) (Q 8) (Q 9) V.1, wX4 cI cZ cC (Q 1) V.2.1, wH cI cZ cC cO (Q 4) u V.2.2.2.2.1, wX0 cI cZ cC (Q 6) V.2.2.2.2.2.2.1]) (Rs := [wX4 cI cZ cC (Q 2) V.2.2.1, wX4 cI cZ cC (Q 3) V.2.2.2.1, wX6 cI cZ cC (Q 5) V.2.2.2.2.2.1, wX5 cI cZ cC (Q 7) V.2.2.2.2.2.2.2.1, wX3 cI cZ cC (Q 8) V.2.2.2.2.2.2.2.2.1, wX1 cI cZ cC (Q 9) V.2.2.2.2.2.2.2.2.2, wX8 cI cZ cC q8 G]) (N1 := fun u7 : QH => [wX7 cI cZ cC (Q 0) (Q 1) (Q 2) (Q 3) (Q 4) (Q 5) (Q 6) (Q 7) (Q 8) (Q 9) o7.2.1, wX4 cI cZ cC (Q 1) o7.2.2.1, wH cI cZ cC cO (Q 4) u7 o7.2.2.2.1, wX0 cI cZ cC (Q 6) o7.2.2.2.2]) (B1 := fun u7 : QH => WB cI cZ cC cO Q q8 u7 (o7.2.1, o7.2.2.1, V.2.2.1, V.2.2.2.1, o7.2.2.2.1, V.2.2.2.2.2.1, o7.2.2.2.2, V.2.2.2.2.2.2.2.1, V.2.2.2.2.2.2.2.2.1, V.2.2.2.2.2.2.2.2.2) G) (rest := []) (As := [.int (xs (nI k + 1).toNatClampNeg)]) ⟨hx, hb, hml, hown, hts⟩ (mX7_breakOff l dC dI cI cZ cC cO (Q 0) (Q 1) (Q 2) (Q 3) (Q 4) (Q 5) (Q 6) (Q 7) (Q 8) (Q 9) u _ _ _ _ _ _ _ e7) (cwV 1 hts gL_law_X7_breakOff rfl rfl rfl (by decide +kernel) ⟨Nat.le_of_ble_eq_true rfl, Nat.le_of_ble_eq_true rfl⟩) hK hN hP hD hS hA [0, 1, 4, 6] [2, 3, 5, 7, 8, 9, 10] [7, 8, 0, 1, 9, 2, 10, 3, 4, 5, 6] rfl rfl (fl4 _ _ _ _) (fun _ => fl4 _ _ _ _) (by decide) (by decide) (fun _ => rfl) 6 rfl rfl rfl rfl hl.1 rfl (Nat.le_of_ble_eq_true rfl) dL_law_246 ⟨Nat.le_of_ble_eq_true rfl, Nat.le_of_ble_eq_true rfl⟩ (fun u7 H locs hP hD hS => ?_)
  refine lv_aload_n hx hb dL_law_249 rfl (lv_at hl 1 rfl) ?_
  refine lv_aload_n hx hb dL_law_250 rfl (lv_at hl 3 rfl) ?_
  refine lv_iload_n hx hb dL_law_251 rfl (lv_at hl 0 rfl) ?_
  refine lv_iconst (v := 1) hx hb dL_law_252 (by decide) ?_
  refine lv_iadd hx hb dL_law_253 ?_
  refine va_sld hx hb hX hbl hbA hS hi1 dL_law_254 ?_
  refine wViB (Bs := WB cI cZ cC cO Q q8 u7 (o7.2.1, o7.2.2.1, V.2.2.1, V.2.2.2.1, o7.2.2.2.1, V.2.2.2.2.2.1, o7.2.2.2.2, V.2.2.2.2.2.2.2.1, V.2.2.2.2.2.2.2.2.1, V.2.2.2.2.2.2.2.2.2) G) (Cs := [wX8 cI cZ cC q8 G]) (Rs := [wX7 cI cZ cC (Q 0) (Q 1) (Q 2) (Q 3) (Q 4) (Q 5) (Q 6) (Q 7) (Q 8) (Q 9) o7.2.1, wX4 cI cZ cC (Q 1) o7.2.2.1, wX4 cI cZ cC (Q 2) V.2.2.1, wX4 cI cZ cC (Q 3) V.2.2.2.1, wH cI cZ cC cO (Q 4) u7 o7.2.2.2.1, wX6 cI cZ cC (Q 5) V.2.2.2.2.2.1, wX0 cI cZ cC (Q 6) o7.2.2.2.2, wX5 cI cZ cC (Q 7) V.2.2.2.2.2.2.2.1, wX3 cI cZ cC (Q 8) V.2.2.2.2.2.2.2.2.1, wX1 cI cZ cC (Q 9) V.2.2.2.2.2.2.2.2.2]) (N1 := fun _ : Unit => [wX8 cI cZ cC q8 o8.2]) (B1 := fun _ : Unit => WB cI cZ cC cO Q q8 u7 (o7.2.1, o7.2.2.1, V.2.2.1, V.2.2.2.1, o7.2.2.2.1, V.2.2.2.2.2.1, o7.2.2.2.2, V.2.2.2.2.2.2.2.1, V.2.2.2.2.2.2.2.2.1, V.2.2.2.2.2.2.2.2.2) o8.2) (rest := [.int o7.1]) (As := [.int (xs (nI k + 1).toNatClampNeg)]) ⟨hx, hb, hml, hown, hts⟩ (mX8_breakOff l dC dI cI cZ cC cO q8 _ _ _ _ e8) (cwV 1 hts gL_law_X8_breakOff rfl rfl rfl (by decide +kernel) ⟨Nat.le_of_ble_eq_true rfl, Nat.le_of_ble_eq_true rfl⟩) hK hN hP hD hS hA [10] [0, 1, 2, 3, 4, 5, 6, 7, 8, 9] [0, 1, 2, 3, 4, 5, 6, 7, 8, 9, 10] rfl rfl (fl1 _) (fun _ => fl1 _) (by decide) (by decide) (fun _ => rfl) 7 rfl rfl rfl rfl hl.1 rfl (Nat.le_of_ble_eq_true rfl) dL_law_255 ⟨Nat.le_of_ble_eq_true rfl, Nat.le_of_ble_eq_true rfl⟩ (fun _ H locs hP hD hS => ?_)
  refine lv_icmp_eq (tgt := 731) hx hb dL_law_258 (by decide) (fun _ => ?_) (fun hc => absurd heq hc)
  exact hJ _ _ hI u7 d0 hd0 H locs ls hP hD hS hl
