/-! ===== p28: what a walk and a break would do, distances ===== -/
theorem apt_nI {M : GM} {r t : Nat} (hr : r < mN M) (ht : t < mN M) (h1 : mN M ≤ 121) : aptA M (nI r) (nI t) = oI (dst M r t) := by
  unfold aptA
  rw [ix_nI hr (by omega), ix_nI ht (by omega)] <;> rfl
theorem dst_none {M : GM} (w : WF M) {a b : Nat} (ha : a < mN M) (hb : b < mN M) : dst M a b = none ↔ rot M a ≠ rot M b := dst_rot w (max a b) a b (max a b + 1) (Nat.le_refl _) (Nat.lt_succ_self _) ha hb
theorem lng_lt {M : GM} (w : WF M) : lng M ≤ 241 := mxF_le (fun i _ => wv_le w i)
theorem would_6 {a : AS} (h : IA a) {i1 : Int32} {K : Int32 → Prop} (hK : K 1) : jL_would_6 i1 a K 1 := by
  have w := h.wf
  have h1 := h.n1
  have h0 := h.n0
  obtain ⟨o1, ho1, e1⟩ := low_ok (i1 >>> (4 &&& 31)) h0 (by omega)
  obtain ⟨o2, ho2, e2⟩ := low_ok (i1 >>> (12 &&& 31)) h0 (by omega)
  have hl := lng_lt w
  have hd0 := dst_0 w ho1 ho2
  have hdn := dst_none w ho1 ho2
  have hr1 : rot a.1 o1 ≤ 121 := by
    have := rot_le w o1 o1 (Nat.le_refl _) ho1
    omega
  have hr2 : rot a.1 o2 ≤ 121 := by
    have := rot_le w o2 o2 (Nat.le_refl _) ho2
    omega
  have ten : ∀ y : Int32, jL_would_10 i1 a K y y := fun y => by
    unfold jL_would_10
    rw [if_pos rfl, cot_0, e1, e2, apt_nI ho1 ho2 h1, lng_0]
    cases ed : dst a.1 o1 o2 with
    | none =>
      rw [if_neg (show ¬ nI (lng a.1) < oI none from fun z => i_nz (j := lng a.1) (by omega) (Int32.lt_trans z (by decide)))]
      exact hK
    | some d =>
      have := dst_le w ho1 ho2 ed
      rw [if_neg (show ¬ nI (lng a.1) < oI (some d) from i_nlt this (by omega))]
      exact hK
  have nine : ∀ y : Int32, y = (if dst a.1 o1 o2 = none then 1 else 0) → jL_would_9 i1 a K y := fun y ey => by
    unfold jL_would_9
    rw [cot_0, e1, e2, grn_7 ho1 h1, grn_7 ho2 h1]
    by_cases q : rot a.1 o1 = rot a.1 o2
    · rw [if_pos (by rw [q]), ey, if_neg (fun z => hdn.mp z q)]
      exact ten 0
    · rw [if_neg (fun z => q ((i_eq (by omega) (by omega)).mp z)), ey, if_pos (hdn.mpr q)]
      exact ten 1
  have eight : ∀ y : Int32, jL_would_8 i1 a K y y := fun y => by
    unfold jL_would_8
    rw [if_pos rfl, cot_0, e1, e2, apt_nI ho1 ho2 h1]
    cases ed : dst a.1 o1 o2 with
    | none =>
      rw [if_pos (show oI none = -4 from rfl)]
      exact nine 1 (by rw [ed, if_pos rfl])
    | some d =>
      have := dst_le w ho1 ho2 ed
      rw [if_neg (show ¬ oI (some d) = -4 from fun z => (i_n4 (by omega)).mp z)]
      exact nine 0 (by rw [ed, if_neg (fun z => by cases z)])
  have seven : ∀ y : Int32, y = (if o1 = o2 then 1 else 0) → jL_would_7 i1 a K y := fun y ey => by
    unfold jL_would_7
    rw [cot_0, e1, e2]
    by_cases q : o1 = o2
    · rw [if_pos (by rw [q]), ey, if_pos q]
      exact eight 1
    · rw [if_neg (fun z => q ((i_eq (by omega) (by omega)).mp z)), ey, if_neg q]
      exact eight 0
  unfold jL_would_6
  rw [if_neg (show ¬ (1 : Int32) = 0 by decide), cot_0, e1, e2, apt_nI ho1 ho2 h1, apt_nI ho2 ho1 h1, dst_sym a.1 o2 o1, if_pos rfl]
  cases ed : dst a.1 o1 o2 with
  | none =>
    rw [if_neg (show ¬ oI none = 0 by decide)]
    exact seven 0 (by rw [if_neg (fun z => by rw [hd0.mpr z] at ed; cases ed)])
  | some d =>
    have := dst_le w ho1 ho2 ed
    by_cases q : d = 0
    · rw [if_pos (show oI (some d) = 0 from congrArg nI q)]
      exact seven 1 (by rw [if_pos (hd0.mp (by rw [ed, q]))])
    · rw [if_neg (show ¬ oI (some d) = 0 from fun z => q ((i_eq (b := 0) (by omega) (by omega)).mp z))]
      exact seven 0 (by rw [if_neg (fun z => q (by rw [hd0.mpr z] at ed; cases ed; rfl))])
theorem would_12 {a : AS} (h : IA a) {i1 : Int32} {K : Int32 → Prop} (hK : K 1) {y : Int32} (hy : ∀ g q : Nat, g < mN a.1 + 1 → q < 6 → lwA28 (i1 >>> (9 &&& 31)) (nI (mN a.1 + 1)) = nI g → lwA28 (i1 >>> (16 &&& 31)) 6 = nI q → y = if g = mN a.1 ∨ q = 0 ∨ q = 5 then 1 else 0) : jL_would_12 i1 a K y := by
  have w := h.wf
  have h1 := h.n1
  obtain ⟨g, hg, eg⟩ := low_ok (i1 >>> (9 &&& 31)) (n := mN a.1 + 1) (by omega) (by omega)
  obtain ⟨q, hq, eqq⟩ := low_ok (i1 >>> (16 &&& 31)) (n := 6) (by omega) (by omega)
  have eqq : lwA28 (i1 >>> (16 &&& 31)) 6 = nI q := eqq
  have hy := hy g q hg hq eg eqq
  have good : jL_would_13 i1 a K := by
    unfold jL_would_13
    exact would_6 h hK
  have eN : nI (mN a.1) + 1 = nI (mN a.1 + 1) := i_inc _
  have eW : nI q - 1 = hR q := hR_of (by omega)
  unfold jL_would_12
  rw [cot_0, eN, eg, eqq, eW]
  by_cases hb : g = mN a.1 ∨ q = 0 ∨ q = 5
  · rw [hy, if_pos hb, if_neg (show ¬ (1 : Int32) = 0 by decide)]
    have e : ifbA a.1 (nI g) (hR q) = -1 := by
      have hz : ix (hR q) 4 = none ∨ ix (nI g) (mN a.1) = none := by
        rcases hb with hb | hb | hb
        · exact Or.inr (by rw [hb]; exact ix_ge (Nat.le_refl _) (by omega))
        · exact Or.inl (by rw [hb]; exact ix_m1)
        · exact Or.inl (by rw [hb]; exact ix_ge (j := 4) (Nat.le_refl _) (by omega))
      unfold ifbA
      cases z1 : ix (hR q) 4 with
      | none => cases ix (nI g) (mN a.1) <;> rfl
      | some j =>
        cases z2 : ix (nI g) (mN a.1) with
        | none => rfl
        | some t =>
          rw [z1, z2] at hz
          rcases hz with hz | hz <;> cases hz
    rw [e, if_pos rfl]
    exact good
  · have hgn : g < mN a.1 := by omega
    have hq1 : q ≠ 0 := fun z => hb (Or.inr (Or.inl z))
    have hq5 : q - 1 < 4 := by
      have : q ≠ 5 := fun z => hb (Or.inr (Or.inr z))
      omega
    have hh := w.h hgn
    rw [hy, if_neg hb, if_pos rfl, hR_s hq1, grn_1 hgn h1]
    have e : ifbA a.1 (nI g) (nI (q - 1)) = if mH a.1 g = 0 then -2 else if q - 1 = 0 then nI (mN (drpM a.1 (inT a.1 g))) else if q - 1 = 1 then nI (reachM (drpM a.1 (inT a.1 g))) else if q - 1 = 2 then nI (dpt (drpM a.1 (inT a.1 g))) else nI (opn (drpM a.1 (inT a.1 g))) := by
      unfold ifbA
      rw [ix_nI hq5 (by omega), ix_nI hgn (by omega)] <;> rfl
    rw [e]
    by_cases qh : mH a.1 g = 0
    · rw [if_pos ((hI_n4 (by omega)).mpr qh), if_pos qh, if_pos rfl]
      exact good
    · rw [if_neg (fun z => qh ((hI_n4 (by omega)).mp z)), if_neg qh]
      have hin : inT a.1 g g = true := by rw [inT_or w hgn, decide_eq_true rfl]; rfl
      have b0 : mN (drpM a.1 (inT a.1 g)) ≤ mN a.1 - 1 := rk_drop hgn hin
      have b1 : reachM (drpM a.1 (inT a.1 g)) ≤ reachM a.1 := reach_drp
      have b2 : dpt (drpM a.1 (inT a.1 g)) ≤ dpt a.1 := dpt_drp w (inT_cl w)
      have b3 := opn_le (drpM a.1 (inT a.1 g))
      have r5 : reachM a.1 ≤ 5 := mxF_le (fun g hg => by have := ring_le _ (w.c hg); omega)
      have d5 : dpt a.1 ≤ 121 := mxF_le (fun g hg => by have := dep_le w g g (Nat.le_refl _) hg; omega)
      have e14 : ∀ x : Nat, ifbA a.1 (nI g) (nI (q - 1)) = nI x → ∀ z : Nat, x ≤ z → z < 2147483648 → jL_would_14 i1 a K (nI z) := fun x ex z hz hz2 => by
        unfold jL_would_14
        rw [cot_0, eN, eg, eqq, eW, hR_s hq1, ex, if_neg (show ¬ nI z < nI x from i_nlt hz hz2)]
        exact good
      rw [if_neg qh] at e
      rcases (show q = 1 ∨ q = 2 ∨ q = 3 ∨ q = 4 by omega) with rfl | rfl | rfl | rfl
      · rw [if_pos (show 1 - 1 = 0 from rfl)] at e ⊢
        rw [if_neg (i_nz (by omega)), if_pos (show nI (1 - 1) = 0 from rfl), show nI (mN a.1) - 1 = nI (mN a.1 - 1) from i_sub (b := 1) (by omega)]
        exact e14 _ e _ b0 (by omega)
      · rw [if_neg (show ¬ 2 - 1 = 0 by decide), if_pos (show 2 - 1 = 1 from rfl)] at e ⊢
        rw [if_neg (i_nz (by omega)), if_neg (show ¬ nI (2 - 1) = 0 by decide), if_pos (show nI (2 - 1) = 1 from rfl), cot_5]
        exact e14 _ e _ b1 (by omega)
      · rw [if_neg (show ¬ 3 - 1 = 0 by decide), if_neg (show ¬ 3 - 1 = 1 by decide), if_pos (show 3 - 1 = 2 from rfl)] at e ⊢
        rw [if_neg (i_nz (by omega)), if_neg (show ¬ nI (3 - 1) = 0 by decide), if_neg (show ¬ nI (3 - 1) = 1 by decide), if_pos (show nI (3 - 1) = 2 from rfl), cot_4]
        exact e14 _ e _ b2 (by omega)
      · rw [if_neg (show ¬ 4 - 1 = 0 by decide), if_neg (show ¬ 4 - 1 = 1 by decide), if_neg (show ¬ 4 - 1 = 2 by decide)] at e ⊢
        rw [if_neg (i_nz (by omega)), if_neg (show ¬ nI (4 - 1) = 0 by decide), if_neg (show ¬ nI (4 - 1) = 1 by decide), if_neg (show ¬ nI (4 - 1) = 2 by decide)]
        exact e14 _ e 40 b3 (by omega)
theorem scr_at {M : GM} {r g : Nat} (h : at_ M (rimC r) = some g) : scr M r = some g := by
  show scrF M (rimD r) 11 (some (rimC r)) = _
  rw [scrF, h]
theorem edge_ok : ∀ r, r < 40 → (if (11 : Int32) ≤ nI r then if (21 : Int32) ≤ nI r then if (31 : Int32) ≤ nI r then 11 * (40 - nI r) else 140 - nI r else 11 * (nI r - 10) + 10 else nI r) = nI (rimC r) := by decide +kernel
theorem rim_cases {j : Nat} (hj : j < 42) : (hR j = -1 ∨ hR j = nI 40) ∨ ∃ r, r < 40 ∧ j = r + 1 ∧ hR j = nI r := by
  by_cases q : j = 0
  · exact Or.inl (Or.inl (by rw [q]; rfl))
  · rw [hR_s q]
    by_cases q2 : j = 41
    · exact Or.inl (Or.inr (by rw [q2]))
    · exact Or.inr ⟨j - 1, by omega, by omega, rfl⟩
theorem ifg_no {M : GM} {x y : Int32} (h : ix y 3 = none ∨ ix x 40 = none) : ifgA M x y = -1 := by
  unfold ifgA
  cases z1 : ix y 3 with
  | none => cases ix x 40 <;> rfl
  | some j =>
    cases z2 : ix x 40 with
    | none => rfl
    | some t =>
      rw [z1, z2] at h
      rcases h with h | h <;> cases h
theorem ifg_ok {M : GM} {r j : Nat} (hr : r < 40) (hj : j < 3) : ifgA M (nI r) (nI j) = if (at_ M (rimC r)).isSome then -2 else if j = 0 then ansW (wlk M (rimC r)) else if j = 1 then nI (wlk M (rimC r)).1 else nI (wlk M (rimC r)).2.2.1 := by
  unfold ifgA
  rw [ix_nI hj (by omega), ix_nI hr (by omega)] <;> rfl
theorem would_5 {a : AS} (h : IA a) {i1 : Int32} {K : Int32 → Prop} (hK : K 1) {y3 y4 y5 : Int32} (hy5 : ∀ g q : Nat, g < mN a.1 + 1 → q < 6 → lwA28 (i1 >>> (9 &&& 31)) (nI (mN a.1 + 1)) = nI g → lwA28 (i1 >>> (16 &&& 31)) 6 = nI q → y5 = if g = mN a.1 ∨ q = 0 ∨ q = 5 then 1 else 0) {j jw : Nat} (hj : j < 42) (hjw : jw < 5) (ej : lwA28 i1 42 = nI j) (ew : lwA28 (i1 >>> (6 &&& 31)) 5 = nI jw) (hy3 : y3 = if (j = 0 ∨ j = 41) ∨ (jw = 0 ∨ jw = 4) then 1 else 0) (hy4 : ¬ (j = 0 ∨ j = 41) → y4 = if (at_ a.1 (rimC (j - 1))).isSome then 1 else 0) : jL_would_5 i1 a K y3 y4 y5 := by
  have w := h.wf
  have h1 := h.n1
  have h0 := h.n0
  have hne : ¬ nI (mN a.1) = 0 := fun z => by
    have := (i_eq (b := 0) (by omega) (by omega)).mp z
    omega
  have good : jL_would_12 i1 a K y5 := would_12 h hK hy5
  have eR : nI j - 1 = hR j := hR_of (by omega)
  have eW : nI jw - 1 = hR jw := hR_of (by omega)
  unfold jL_would_5
  rw [cot_0, ej, ew, eR, eW]
  refine ⟨hne, hne, ?_⟩
  by_cases hb : (j = 0 ∨ j = 41) ∨ (jw = 0 ∨ jw = 4)
  · rw [hy3, if_pos hb, if_neg (show ¬ (1 : Int32) = 0 by decide)]
    have e : ifgA a.1 (hR j) (hR jw) = -1 := ifg_no (by
      rcases hb with (hb | hb) | (hb | hb)
      · exact Or.inr (by rw [hb]; exact ix_m1)
      · exact Or.inr (by rw [hb]; exact ix_ge (j := 40) (Nat.le_refl _) (by omega))
      · exact Or.inl (by rw [hb]; exact ix_m1)
      · exact Or.inl (by rw [hb]; exact ix_ge (j := 3) (Nat.le_refl _) (by omega)))
    rw [e, if_pos rfl]
    exact good
  · have hj0 : j ≠ 0 := fun z => hb (Or.inl (Or.inl z))
    have hj1 : j - 1 < 40 := by
      have : j ≠ 41 := fun z => hb (Or.inl (Or.inr z))
      omega
    have hw0 : jw ≠ 0 := fun z => hb (Or.inr (Or.inl z))
    have hw1 : jw - 1 < 3 := by
      have : jw ≠ 4 := fun z => hb (Or.inr (Or.inr z))
      omega
    have hy4 := hy4 (fun z => hb (Or.inl z))
    have e := ifg_ok (M := a.1) hj1 hw1
    rw [hy3, if_neg hb, if_pos rfl, hR_s hj0, hR_s hw0, hy4]
    cases ha : at_ a.1 (rimC (j - 1)) with
    | some g =>
      rw [ha, if_pos (show (some g : Option Nat).isSome = true from rfl)] at e
      rw [if_pos (show (some g : Option Nat).isSome = true from rfl), if_neg (show ¬ (1 : Int32) = 0 by decide), e, if_pos rfl]
      exact good
    | none =>
      have hz := wlk_ok w (rimC_lt _ hj1) ha
      have hs1 : 0 < mS a.1 1 := by have := w.2.2.2.2.2.2.1.1; omega
      have hs2 : mS a.1 1 ≤ 200 := w.2.2.2.2.2.2.1.2
      obtain ⟨b1, b2, b3⟩ := wlk_b hs1 (rimC (j - 1))
      have hst := hz.2.2.2.1
      have hcell := hz.1
      rw [ha, if_neg (show ¬ (none : Option Nat).isSome = true by decide)] at e
      rw [if_neg (show ¬ (none : Option Nat).isSome = true by decide), if_pos rfl]
      rcases (show jw = 1 ∨ jw = 2 ∨ jw = 3 by omega) with rfl | rfl | rfl
      · rw [if_pos (show 1 - 1 = 0 from rfl)] at e
        rw [if_neg (show ¬ nI (1 - 1) = 1 by decide), if_neg (show ¬ nI (1 - 1) = 2 by decide), e]
        unfold ansW
        cases hg : (wlk a.1 (rimC (j - 1))).2.2.2.2 with
        | none =>
          have hst1 := b3 hg
          show (if nI (wlk a.1 (rimC (j - 1))).2.1 < 1000 then _ else _)
          rw [if_pos (show nI (wlk a.1 (rimC (j - 1))).2.1 < 1000 from i_plt (b := 1000) (by omega) (by omega)), if_neg (show ¬ nI (wlk a.1 (rimC (j - 1))).2.1 < 1 from i_nlt (b := 1) hst1 (by omega)), cot_14, if_neg (show ¬ nI (mS a.1 1) < nI (wlk a.1 (rimC (j - 1))).2.1 from i_nlt hst (by omega))]
          exact good
        | some g =>
          have hbs := bsd_pos (hz.2.2.2.2 g hg)
          have hb4 : bsd a.1 (wlk a.1 (rimC (j - 1))).1 ≤ 4 := cnt_le _ 4
          show (if nI (1000 + (wlk a.1 (rimC (j - 1))).1) < 1000 then _ else _)
          rw [if_neg (show ¬ nI (1000 + (wlk a.1 (rimC (j - 1))).1) < 1000 from i_nlt (b := 1000) (by omega) (by omega)), show nI (1000 + (wlk a.1 (rimC (j - 1))).1) - 1000 = nI (wlk a.1 (rimC (j - 1))).1 from (i_sub (b := 1000) (by omega)).trans (by rw [Nat.add_sub_cancel_left]), cel_2 hcell, if_neg (show ¬ nI (bsd a.1 (wlk a.1 (rimC (j - 1))).1) ≤ 0 from i_nle (b := 0) hbs (by omega))]
          exact good
      · rw [if_neg (show ¬ 2 - 1 = 0 by decide), if_pos (show 2 - 1 = 1 from rfl)] at e
        rw [if_pos (show nI (2 - 1) = 1 from rfl), e, if_neg (i_nz (by omega)), if_neg (show ¬ (121 : Int32) ≤ nI (wlk a.1 (rimC (j - 1))).1 from i_nle (a := 121) hcell (by omega)), cel_0 hcell, hz.2.1, if_pos (show oI none = -4 from rfl)]
        exact good
      · rw [if_neg (show ¬ 3 - 1 = 0 by decide), if_neg (show ¬ 3 - 1 = 1 by decide)] at e
        rw [if_neg (show ¬ nI (3 - 1) = 1 by decide), if_pos (show nI (3 - 1) = 2 from rfl), e, if_neg (show ¬ nI (wlk a.1 (rimC (j - 1))).2.2.1 < 1 from i_nlt (b := 1) b1 (by omega)), if_neg (show ¬ (401 : Int32) < nI (wlk a.1 (rimC (j - 1))).2.2.1 from i_nlt (a := 401) (by omega) (by omega))]
        exact good
theorem would_run {a : AS} (h : IA a) (i1 : Int32) {K : Int32 → Prop} (hK : K 1) : gL_would i1 a K := by
  have w := h.wf
  have h1 := h.n1
  have h0 := h.n0
  obtain ⟨j, hj, ej⟩ := low_ok i1 (n := 42) (by omega) (by omega)
  have ej : lwA28 i1 42 = nI j := ej
  obtain ⟨jw, hjw, ew⟩ := low_ok (i1 >>> (6 &&& 31)) (n := 5) (by omega) (by omega)
  have ew : lwA28 (i1 >>> (6 &&& 31)) 5 = nI jw := ew
  have eR : nI j - 1 = hR j := hR_of (by omega)
  have eW : nI jw - 1 = hR jw := hR_of (by omega)
  obtain ⟨gg, hgg, egg⟩ := low_ok (i1 >>> (9 &&& 31)) (n := mN a.1 + 1) (by omega) (by omega)
  obtain ⟨qq, hqq, eqq⟩ := low_ok (i1 >>> (16 &&& 31)) (n := 6) (by omega) (by omega)
  have eqq : lwA28 (i1 >>> (16 &&& 31)) 6 = nI qq := eqq
  have eN : nI (mN a.1) + 1 = nI (mN a.1 + 1) := i_inc _
  have four : ∀ y3 y4 : Int32, (y3 = if (j = 0 ∨ j = 41) ∨ (jw = 0 ∨ jw = 4) then 1 else 0) → (¬ (j = 0 ∨ j = 41) → y4 = if (at_ a.1 (rimC (j - 1))).isSome then 1 else 0) → jL_would_4 i1 a K y3 y4 := fun y3 y4 e3 e4 => by
    have five : ∀ y5 : Int32, (y5 = if gg = mN a.1 ∨ qq = 0 ∨ qq = 5 then 1 else 0) → jL_would_5 i1 a K y3 y4 y5 := fun y5 e5 => would_5 h hK (fun g q hg hq eg eq2 => by
      have z1 : gg = g := (i_eq (by omega) (by omega)).mp (egg.symm.trans eg)
      have z2 : qq = q := (i_eq (by omega) (by omega)).mp (eqq.symm.trans eq2)
      rw [← z1, ← z2]
      exact e5) hj hjw ej ew e3 e4
    have b5 : (gg = mN a.1 ∨ qq = 0 ∨ qq = 5) → jL_would_15 i1 a K y3 y4 := fun z => by
      unfold jL_would_15
      exact five 1 (if_pos z).symm
    unfold jL_would_4
    rw [cot_0, eN, egg, eqq, show nI qq - 1 = hR qq from hR_of (by omega)]
    refine ⟨fun z => by have := (i_eq (b := 0) (by omega) (by omega)).mp z; omega, ?_⟩
    by_cases q1 : gg = mN a.1
    · rw [if_pos (by rw [q1])]
      exact b5 (Or.inl q1)
    · rw [if_neg (fun z => q1 ((i_eq (by omega) (by omega)).mp z))]
      by_cases q2 : qq = 0
      · rw [q2, if_pos (show hR 0 < 0 by decide)]
        exact b5 (Or.inr (Or.inl q2))
      · rw [hR_s q2, if_neg (i_nz (by omega))]
        by_cases q3 : qq = 5
        · rw [q3, if_neg (show ¬ nI (5 - 1) ≤ 3 by decide)]
          exact b5 (Or.inr (Or.inr q3))
        · rw [if_pos (show nI (qq - 1) ≤ 3 from i_ple (b := 3) (by omega) (by omega))]
          exact five 0 (if_neg (fun z => z.elim q1 (fun z => z.elim q2 q3))).symm
  have three : ∀ y1 y2 y3 : Int32, (y3 = if (j = 0 ∨ j = 41) ∨ (jw = 0 ∨ jw = 4) then 1 else 0) → (¬ (j = 0 ∨ j = 41) → y1 = oI (scr a.1 (j - 1)) ∧ y2 = nI (rimC (j - 1))) → jL_would_3 i1 a K y1 y2 y3 := fun y1 y2 y3 e3 e12 => by
    have no : (¬ (j = 0 ∨ j = 41) → at_ a.1 (rimC (j - 1)) = none) → jL_would_16 i1 a K y3 := fun z => by
      unfold jL_would_16
      exact four y3 0 e3 (fun z2 => by rw [z z2]; rfl)
    unfold jL_would_3
    by_cases hb : j = 0 ∨ j = 41
    · have n1 := no (fun z => absurd hb z)
      by_cases q1 : y1 < 0
      · rw [if_pos q1]; exact n1
      · rw [if_neg q1]
        by_cases q2 : grnA a.1 y1 0 = y2
        · rw [if_pos q2]
          exact four y3 1 e3 (fun z => absurd hb z)
        · rw [if_neg q2]; exact n1
    · obtain ⟨e1, e2⟩ := e12 hb
      have hj1 : j - 1 < 40 := by omega
      cases es : scr a.1 (j - 1) with
      | none =>
        rw [e1, es, if_pos (show oI none < 0 by decide)]
        refine no (fun _ => ?_)
        cases ha : at_ a.1 (rimC (j - 1)) with
        | none => rfl
        | some g => rw [scr_at ha] at es; cases es
      | some g =>
        have hg := scr_lt es
        rw [e1, es, oI_some, if_neg (i_nz (by omega)), grn_0 hg h1, e2]
        have hcg := w.c hg
        have hrc := rimC_lt _ hj1
        by_cases q2 : mC a.1 g = rimC (j - 1)
        · rw [if_pos (by rw [q2])]
          exact four y3 1 e3 (fun _ => by rw [show at_ a.1 (rimC (j - 1)) = some g from by rw [← q2]; exact atF_of w.2.2.2.1 hg]; rfl)
        · rw [if_neg (fun z => q2 ((i_eq (by omega) (by omega)).mp z))]
          refine no (fun _ => ?_)
          cases ha : at_ a.1 (rimC (j - 1)) with
          | none => rfl
          | some g2 =>
            rw [scr_at ha] at es
            cases es
            exact absurd (atF_some ha).2 q2
  have two : ∀ y1 y2 : Int32, (¬ (j = 0 ∨ j = 41) → y1 = oI (scr a.1 (j - 1)) ∧ y2 = nI (rimC (j - 1))) → jL_would_2 i1 a K y1 y2 := fun y1 y2 e12 => by
    have bad : ((j = 0 ∨ j = 41) ∨ (jw = 0 ∨ jw = 4)) → jL_would_17 i1 a K y1 y2 := fun z => by
      unfold jL_would_17
      exact three y1 y2 1 (if_pos z).symm e12
    unfold jL_would_2
    rw [ej, ew, eR, eW]
    by_cases q1 : j = 0
    · rw [q1, if_pos (show hR 0 < 0 by decide)]
      exact bad (Or.inl (Or.inl q1))
    · rw [hR_s q1, if_neg (i_nz (by omega))]
      by_cases q2 : j = 41
      · rw [q2, if_pos (show (39 : Int32) < nI (41 - 1) by decide)]
        exact bad (Or.inl (Or.inr q2))
      · rw [if_neg (show ¬ (39 : Int32) < nI (j - 1) from i_nlt (a := 39) (by omega) (by omega))]
        by_cases q3 : jw = 0
        · rw [q3, if_pos (show hR 0 < 0 by decide)]
          exact bad (Or.inr (Or.inl q3))
        · rw [hR_s q3, if_neg (i_nz (by omega))]
          by_cases q4 : jw = 4
          · rw [q4, if_neg (show ¬ nI (4 - 1) ≤ 2 by decide)]
            exact bad (Or.inr (Or.inr q4))
          · rw [if_pos (show nI (jw - 1) ≤ 2 from i_ple (b := 2) (by omega) (by omega))]
            exact three y1 y2 0 (if_neg (fun z => z.elim (fun z => z.elim q1 q2) (fun z => z.elim q3 q4))).symm e12
  have one : ∀ y1 : Int32, (¬ (j = 0 ∨ j = 41) → y1 = oI (scr a.1 (j - 1))) → jL_would_1 i1 a K y1 := fun y1 e1 => by
    have bad : (j = 0 ∨ j = 41) → jL_would_18 i1 a K y1 := fun z => by
      unfold jL_would_18
      exact two y1 0 (fun z2 => absurd z z2)
    unfold jL_would_1
    rw [ej, eR]
    by_cases q1 : j = 0
    · rw [q1, if_pos (show hR 0 < 0 by decide)]
      exact bad (Or.inl q1)
    · rw [hR_s q1, if_neg (i_nz (by omega))]
      by_cases q2 : j = 41
      · rw [q2, if_neg (show ¬ nI (41 - 1) ≤ 39 by decide)]
        exact bad (Or.inr q2)
      · have hj1 : j - 1 < 40 := by omega
        have ee := edge_ok (j - 1) hj1
        have nb : ¬ (j = 0 ∨ j = 41) := fun z => z.elim q1 q2
        rw [if_pos (show nI (j - 1) ≤ 39 from i_ple (b := 39) (by omega) (by omega))]
        by_cases r1 : (11 : Int32) ≤ nI (j - 1)
        · rw [if_pos r1] at ee ⊢
          by_cases r2 : (21 : Int32) ≤ nI (j - 1)
          · rw [if_pos r2] at ee ⊢
            by_cases r3 : (31 : Int32) ≤ nI (j - 1)
            · rw [if_pos r3] at ee ⊢
              exact two y1 _ (fun _ => ⟨e1 nb, ee⟩)
            · rw [if_neg r3] at ee ⊢
              exact two y1 _ (fun _ => ⟨e1 nb, ee⟩)
          · rw [if_neg r2] at ee ⊢
            exact two y1 _ (fun _ => ⟨e1 nb, ee⟩)
        · rw [if_neg r1] at ee ⊢
          exact two y1 _ (fun _ => ⟨e1 nb, ee⟩)
  unfold gL_would
  rw [ej, eR]
  have bad : (j = 0 ∨ j = 41) → jL_would_19 i1 a K := fun z => by
    unfold jL_would_19
    exact one (-4) (fun z2 => absurd z z2)
  by_cases q1 : j = 0
  · rw [q1, if_pos (show hR 0 < 0 by decide)]
    exact bad (Or.inl q1)
  · rw [hR_s q1, if_neg (i_nz (by omega))]
    by_cases q2 : j = 41
    · rw [q2, if_neg (show ¬ nI (41 - 1) ≤ 39 by decide)]
      exact bad (Or.inr q2)
    · rw [if_pos (show nI (j - 1) ≤ 39 from i_ple (b := 39) (by omega) (by omega))]
      refine one _ (fun _ => ?_)
      unfold scrA
      rw [ix_nI (show j - 1 < 40 by omega) (by omega)] <;> rfl
