/-! ===== the reference: reads ===== -/
/-- the holder as the reference has it -/
def hR (h : Nat) : Int32 := if h = 0 then -1 else nI (h - 1)
theorem hR_of {h : Nat} (hh : h < 2147483648) : nI h - 1 = hR h := by
  unfold hR
  by_cases q : h = 0
  · subst q; decide
  · rw [if_neg q, i_1, i_sub (by omega)]
theorem hR_neg {h : Nat} (hh : h < 2147483648) : hR h < 0 ↔ h = 0 := by
  unfold hR
  by_cases q : h = 0
  · rw [if_pos q]; exact ⟨fun _ => q, fun _ => by decide⟩
  · rw [if_neg q, i_0, i_lt (by omega) (by omega)]; omega
theorem hR_nn {h : Nat} (hh : h < 2147483648) : 0 ≤ hR h ↔ h ≠ 0 := by
  rw [← Int32.not_lt, hR_neg hh]
theorem oI_neg {o : Option Nat} (h : ∀ k, o = some k → k < 2147483648) : oI o < 0 ↔ o = none := by
  cases o with
  | none => exact ⟨fun _ => rfl, fun _ => by decide⟩
  | some k => rw [oI_some, i_0, i_lt (h k rfl) (by omega)]; exact ⟨fun q => by omega, fun q => by cases q⟩
theorem oI_nn {o : Option Nat} (h : ∀ k, o = some k → k < 2147483648) : 0 ≤ oI o ↔ o ≠ none := by
  rw [← Int32.not_lt, oI_neg h]
theorem n_cl0 : (0 : Int32).toNatClampNeg = 0 := rfl
theorem n_cl1 : (1 : Int32).toNatClampNeg = 1 := rfl
theorem n_cl2 : (2 : Int32).toNatClampNeg = 2 := rfl
theorem n_cl3 : (3 : Int32).toNatClampNeg = 3 := rfl
theorem n_cl4 : (4 : Int32).toNatClampNeg = 4 := rfl
theorem n_cl5 : (5 : Int32).toNatClampNeg = 5 := rfl
theorem n_cl6 : (6 : Int32).toNatClampNeg = 6 := rfl
theorem n_cl7 : (7 : Int32).toNatClampNeg = 7 := rfl
theorem n_cl8 : (8 : Int32).toNatClampNeg = 8 := rfl
theorem n_cl9 : (9 : Int32).toNatClampNeg = 9 := rfl
theorem r_of {G : GX8} {g k : Nat} (hg : g < 121) (hk : k < 3) : fX8_of (nI g) (nI k) G = some (pX8_s G (10 + 3 * g + k)) := by
  unfold fX8_of
  simp (disch := omega) only [i_lit, i_add, i_mul, i_sub, i_lt, i_le, i_eq, i_cl, i_max, i_min, i_rem, i_div, i_neg, i_nn, i_n4, i_n4', Option.bind_some, Option.some.injEq, Sum.inl.injEq, Sum.inr.injEq, Prod.mk.injEq, gdn, if_pos, if_neg, Nat.add_zero, Nat.zero_add, and_true, true_and, and_self, ite_true, ite_false, if_true, if_false, reduceIte]
theorem r_cell {G : GX8} {M : GM} (w : WF M) (h : RepR (pX8_s G) M) {g : Nat} (hg : g < mN M) : fX8_of (nI g) 0 G = some (nI (mC M g)) := by
  have h1 := w.n1
  rw [i_0, r_of (by omega) (by omega), Nat.add_zero, h.2.1 g hg]
theorem r_steps {G : GX8} {M : GM} (w : WF M) (h : RepR (pX8_s G) M) {g : Nat} (hg : g < mN M) : fX8_of (nI g) 2 G = some (mW M g) := by
  have h1 := w.n1
  rw [show (2 : Int32) = nI 2 from rfl, r_of (by omega) (by omega), h.2.2.2.1 g hg]
theorem r_holder {G : GX8} {M : GM} (w : WF M) (h : RepR (pX8_s G) M) {g : Nat} (hg : g < mN M) : fX8_holder (nI g) G = some (hR (mH M g)) := by
  have h1 := w.n1
  have h2 := w.h hg
  unfold fX8_holder
  rw [i_1, r_of (by omega) (by omega), h.2.2.1 g hg]
  show some (nI (mH M g) - 1) = _
  rw [hR_of (by omega)]
theorem r_n {G : GX8} {M : GM} (h : RepR (pX8_s G) M) : pX8_s G (0 : Int32).toNatClampNeg = nI (mN M) := h.1
theorem r_grainAt {G : GX8} {M : GM} (w : WF M) (h : RepR (pX8_s G) M) (c : Nat) (hc : c < 121) : fX8_grainAt (nI c) G = some (oI (at_ M c)) := by
  have h1 := w.n1
  unfold fX8_grainAt
  refine lp_fub (o := oI (at_ M c)) (fun g => (oI (atF (mC M) g c), nI g)) (mN M) (by omega) rfl (fun g hg => ?_) ?_ rfl
  · have hcg := w.c hg
    unfold tX8_grainAt_5 jX8_grainAt_1
    rw [r_n h]
    simp (disch := omega) only [i_lit, i_add, i_mul, i_sub, i_lt, i_le, i_eq, i_cl, i_max, i_min, i_rem, i_div, i_neg, i_nn, i_n4, i_n4', Option.bind_some, Option.some.injEq, Sum.inl.injEq, Sum.inr.injEq, Prod.mk.injEq, gdn, if_pos, if_neg, Nat.add_zero, Nat.zero_add, and_true, true_and, and_self, ite_true, ite_false, if_true, if_false, reduceIte]
    rw [show nI 0 = 0 from rfl, r_cell w h hg]
    simp (disch := omega) only [i_lit, i_add, i_mul, i_sub, i_lt, i_le, i_eq, i_cl, i_max, i_min, i_rem, i_div, i_neg, i_nn, i_n4, i_n4', Option.bind_some, Option.some.injEq, Sum.inl.injEq, Sum.inr.injEq, Prod.mk.injEq, gdn, if_pos, if_neg, Nat.add_zero, Nat.zero_add, and_true, true_and, and_self, ite_true, ite_false, if_true, if_false, reduceIte]
    rw [atF]
    by_cases q : mC M g = c
    · rw [if_pos q, if_pos q]; rfl
    · rw [if_neg q, if_neg q]
  · unfold tX8_grainAt_5
    rw [r_n h]
    simp (disch := omega) only [i_lit, i_add, i_mul, i_sub, i_lt, i_le, i_eq, i_cl, i_max, i_min, i_rem, i_div, i_neg, i_nn, i_n4, i_n4', Option.bind_some, Option.some.injEq, Sum.inl.injEq, Sum.inr.injEq, Prod.mk.injEq, gdn, if_pos, if_neg, Nat.add_zero, Nat.zero_add, and_true, true_and, and_self, ite_true, ite_false, if_true, if_false, reduceIte]
theorem r_gb_step {G : GX8} {M : GM} (w : WF M) (h : RepR (pX8_s G) M) {c d : Nat} (hc : c < 121) (hd : d < 4) (x : Int32) : tX8_grainBeside_5 (nI c) G (x, nI d) = some (.inl ((match nbAt M c d with | some g => nI g | none => x), nI d + (-1))) := by
  have h1 := w.n1
  unfold tX8_grainBeside_5 jX8_grainBeside_1 jX8_grainBeside_2
  rw [if_neg (show ¬ nI d < 0 by rw [i_0, i_lt (by omega) (by omega)]; omega), r_nb c hc d hd]
  simp only [Option.bind_some]
  unfold nbAt
  cases hn : nb c d with
  | none =>
    rw [if_neg (show ¬ 0 ≤ oI none by decide), if_neg (show ¬ (0 : Int32) ≤ -4 by decide)]
    rfl
  | some k =>
    have hk := nb_lt c hc d hd k hn
    rw [if_pos (show 0 ≤ oI (some k) by rw [oI_nn (fun j e => by cases e; omega)]; exact fun e => by cases e), oI_some, r_grainAt w h k hk]
    simp only [Option.bind_some]
    cases ha : at_ M k with
    | none =>
      rw [if_neg (show ¬ 0 ≤ oI none by decide)]
    | some g =>
      have := at_lt ha
      rw [if_pos (show 0 ≤ oI (some g) by rw [oI_nn (fun j e => by cases e; omega)]; exact fun e => by cases e)]
      rfl
theorem r_fgb {G : GX8} {M : GM} (w : WF M) (h : RepR (pX8_s G) M) {c : Nat} (hc : c < 121) : fX8_grainBeside (nI c) G = some (oI (fgb M c)) := by
  unfold fX8_grainBeside
  rw [show FU = 4995 + 1 + 1 + 1 + 1 + 1 from rfl, show ((-4 : Int32), (3 : Int32)) = (-4, nI 3) from rfl]
  rw [lp_l _ (r_gb_step w h hc (d := 3) (by omega) _), show nI 3 + (-1) = nI 2 from by decide]
  rw [lp_l _ (r_gb_step w h hc (d := 2) (by omega) _), show nI 2 + (-1) = nI 1 from by decide]
  rw [lp_l _ (r_gb_step w h hc (d := 1) (by omega) _), show nI 1 + (-1) = nI 0 from by decide]
  rw [lp_l _ (r_gb_step w h hc (d := 0) (by omega) _), show nI 0 + (-1) = -1 from by decide]
  rw [lp_r _ (o := (match nbAt M c 0 with | some g => nI g | none => (match nbAt M c 1 with | some g => nI g | none => (match nbAt M c 2 with | some g => nI g | none => (match nbAt M c 3 with | some g => nI g | none => -4))))) (by unfold tX8_grainBeside_5; rw [if_pos (by show (-1 : Int32) < 0; decide)])]
  unfold fgb
  simp only [Option.bind_some]
  cases e0 : nbAt M c 0 with
  | some g => rfl
  | none =>
    cases e1 : nbAt M c 1 with
    | some g => rfl
    | none =>
      cases e2 : nbAt M c 2 with
      | some g => rfl
      | none =>
        cases e3 : nbAt M c 3 with
        | some g => rfl
        | none => rfl
theorem r_bsd {G : GX8} {M : GM} (w : WF M) (h : RepR (pX8_s G) M) {c : Nat} (hc : c < 121) : fX8_besides (nI c) G = some (nI (bsd M c)) := by
  have h1 := w.n1
  unfold fX8_besides
  refine lp_fub (o := nI (bsd M c)) (fun d => (nI (cnt (fun d => (nbAt M c d).isSome) d), nI d)) 4 (by omega) rfl (fun d hd => ?_) ?_ rfl
  · have hb := cnt_le (fun d => (nbAt M c d).isSome) d
    have e : cnt (fun d => (nbAt M c d).isSome) (d + 1) = cnt (fun d => (nbAt M c d).isSome) d + (if (nbAt M c d).isSome then 1 else 0) := rfl
    unfold tX8_besides_4 jX8_besides_2 jX8_besides_1
    simp (disch := omega) only [i_lit, i_add, i_mul, i_sub, i_lt, i_le, i_eq, i_cl, i_max, i_min, i_rem, i_div, i_neg, i_nn, i_n4, i_n4', Option.bind_some, Option.some.injEq, Sum.inl.injEq, Sum.inr.injEq, Prod.mk.injEq, gdn, if_pos, if_neg, Nat.add_zero, Nat.zero_add, and_true, true_and, and_self, ite_true, ite_false, if_true, if_false, reduceIte]
    rw [r_nb c hc d hd, e]
    simp only [Option.bind_some]
    cases hn : nb c d with
    | none =>
      have hq : nbAt M c d = none := by unfold nbAt; rw [hn]; rfl
      rw [if_pos (show oI none < nI 0 by decide), hq]
      rfl
    | some k =>
      have hq : nbAt M c d = at_ M k := by unfold nbAt; rw [hn]; rfl
      rw [hq]
      have hk := nb_lt c hc d hd k hn
      rw [if_neg (show ¬ oI (some k) < nI 0 by rw [oI_some, i_lt (by omega) (by omega)]; omega), oI_some, r_grainAt w h k hk]
      simp only [Option.bind_some]
      cases ha : at_ M k with
      | none =>
        rw [if_pos (show oI none < nI 0 by decide)]
        rfl
      | some g =>
        have := at_lt ha
        rw [if_neg (show ¬ oI (some g) < nI 0 by rw [oI_some, i_lt (by omega) (by omega)]; omega)]
        rfl
  · unfold tX8_besides_4
    simp (disch := omega) only [i_lit, i_add, i_mul, i_sub, i_lt, i_le, i_eq, i_cl, i_max, i_min, i_rem, i_div, i_neg, i_nn, i_n4, i_n4', Option.bind_some, Option.some.injEq, Sum.inl.injEq, Sum.inr.injEq, Prod.mk.injEq, gdn, if_pos, if_neg, Nat.add_zero, Nat.zero_add, and_true, true_and, and_self, ite_true, ite_false, if_true, if_false, reduceIte]
    rfl
theorem fgb_none {M : GM} {c : Nat} : (fgb M c).isSome = decide (0 < bsd M c) := by
  unfold fgb bsd cnt cnt cnt cnt cnt
  cases e0 : nbAt M c 0 <;> cases e1 : nbAt M c 1 <;> cases e2 : nbAt M c 2 <;> cases e3 : nbAt M c 3 <;> simp [e0, e1, e2, e3]
theorem r_reach {G : GX8} {M : GM} (w : WF M) (h : RepR (pX8_s G) M) : fX8_reachOf G = some (nI (reachM M)) := by
  have h1 := w.n1
  unfold fX8_reachOf
  have hb : ∀ i, i ≤ mN M → mxF (fun g => ring (mC M g)) i ≤ 5 := fun i hi => mxF_le (fun j hj => by
    have := ring_le _ (w.c (show j < mN M by omega)); omega)
  refine lp_fub (o := nI (reachM M)) (fun i => (nI (mxF (fun g => ring (mC M g)) i), nI i)) (mN M) (by omega) rfl (fun i hi => ?_) ?_ rfl
  · have hb1 := hb i (by omega)
    have hb2 := ring_le _ (w.c hi)
    have e : mxF (fun g => ring (mC M g)) (i + 1) = max (mxF (fun g => ring (mC M g)) i) (ring (mC M i)) := rfl
    unfold tX8_reachOf_4 jX8_reachOf_1
    rw [r_n h, e]
    simp (disch := omega) only [i_lit, i_add, i_mul, i_sub, i_lt, i_le, i_eq, i_cl, i_max, i_min, i_rem, i_div, i_neg, i_nn, i_n4, i_n4', Option.bind_some, Option.some.injEq, Sum.inl.injEq, Sum.inr.injEq, Prod.mk.injEq, gdn, if_pos, if_neg, Nat.add_zero, Nat.zero_add, and_true, true_and, and_self, ite_true, ite_false, if_true, if_false, reduceIte]
    rw [show nI 0 = 0 from rfl, r_cell w h hi]
    simp only [Option.bind_some]
    rw [r_ring _ (w.c hi)]
    simp only [Option.bind_some]
    rw [ifc (i_le (by omega) (by omega))]
    by_cases q : ring (mC M i) ≤ mxF (fun g => ring (mC M g)) i
    · rw [if_pos q, Nat.max_eq_left q]
    · rw [if_neg q, Nat.max_eq_right (by omega)]
  · unfold tX8_reachOf_4
    rw [r_n h]
    simp (disch := omega) only [i_lit, i_add, i_mul, i_sub, i_lt, i_le, i_eq, i_cl, i_max, i_min, i_rem, i_div, i_neg, i_nn, i_n4, i_n4', Option.bind_some, Option.some.injEq, Sum.inl.injEq, Sum.inr.injEq, Prod.mk.injEq, gdn, if_pos, if_neg, Nat.add_zero, Nat.zero_add, and_true, true_and, and_self, ite_true, ite_false, if_true, if_false, reduceIte]
    rfl
