theorem lp_l {σ ω : Type} {step : σ → Option (σ ⊕ ω)} {s s' : σ} (n : Nat) (h : step s = some (.inl s')) : lp step (n + 1) s = lp step n s' := by
  show (step s).bind _ = _
  rw [h]; rfl
theorem lp_r {σ ω : Type} {step : σ → Option (σ ⊕ ω)} {s : σ} {o : ω} (n : Nat) (h : step s = some (.inr o)) : lp step (n + 1) s = some o := by
  show (step s).bind _ = _
  rw [h]; rfl
theorem FU_eq : FU = 4999 + 1 := rfl
/-! ===== how far apart two grains are ===== -/
def dstF (H : Nat → Nat) : Nat → Nat → Nat → Option Nat
  | 0, _, _ => none
  | f + 1, a, b => if a = b then some 0 else if H (max a b) = 0 then none else (dstF H f (min a b) (H (max a b) - 1)).map (· + 1)
abbrev dst (M : GM) (a b : Nat) : Option Nat := dstF (mH M) (max a b + 1) a b
def oK (k : Nat) : Option Nat → Int32
  | none => -4
  | some d => nI (k + d)
theorem hI_0 : hI 0 = -4 := rfl
theorem hI_s {h : Nat} (h0 : h ≠ 0) : hI h = nI (h - 1) := by unfold hI; rw [if_neg h0]
theorem s_dst_go {S : GX4} {M : GM} (w : WF M) (h : RepS S M) : ∀ (m k a b fu : Nat), max a b ≤ m → m + k ≤ 120 → max a b < mN M → m < fu → lp (tX4_holdsBetween_8 S) fu (nI a, nI b, nI k) = some (oK k (dstF (mH M) (m + 1) a b)) := by
  have h1 := w.n1
  intro m
  induction m with
  | zero =>
    intro k a b fu hm hk hn hf
    obtain rfl : a = 0 := by omega
    obtain rfl : b = 0 := by omega
    obtain ⟨fu, rfl⟩ : ∃ q, fu = q + 1 := ⟨fu - 1, by omega⟩
    refine lp_r fu ?_
    unfold tX4_holdsBetween_8
    simp (disch := omega) only [i_lit, i_add, i_mul, i_sub, i_lt, i_le, i_eq, i_cl, i_max, i_min, i_rem, i_div, i_neg, i_nn, i_n4, i_n4', Option.bind_some, Option.some.injEq, Sum.inl.injEq, Sum.inr.injEq, Prod.mk.injEq, gdn, if_pos, if_neg, Nat.add_zero, Nat.zero_add, and_true, true_and, and_self, ite_true, ite_false, if_true, if_false, reduceIte]
    rfl
  | succ m ih =>
    intro k a b fu hm hk hn hf
    obtain ⟨fu, rfl⟩ : ∃ q, fu = q + 1 := ⟨fu - 1, by omega⟩
    by_cases hab : a = b
    · subst hab
      have e : dstF (mH M) (m + 1 + 1) a a = some 0 := by unfold dstF; rw [if_pos rfl]
      rw [e]
      refine lp_r fu ?_
      unfold tX4_holdsBetween_8
      simp (disch := omega) only [i_lit, i_add, i_mul, i_sub, i_lt, i_le, i_eq, i_cl, i_max, i_min, i_rem, i_div, i_neg, i_nn, i_n4, i_n4', Option.bind_some, Option.some.injEq, Sum.inl.injEq, Sum.inr.injEq, Prod.mk.injEq, gdn, if_pos, if_neg, Nat.add_zero, Nat.zero_add, and_true, true_and, and_self, ite_true, ite_false, if_true, if_false, reduceIte]
      rfl
    · have e : dstF (mH M) (m + 1 + 1) a b = if mH M (max a b) = 0 then none else (dstF (mH M) (m + 1) (min a b) (mH M (max a b) - 1)).map (· + 1) := by
        rw [dstF, if_neg hab]
      rw [e]
      have hh := w.h hn
      by_cases h0 : mH M (max a b) = 0
      · rw [if_pos h0]
        refine lp_r fu ?_
        unfold tX4_holdsBetween_8
        simp (disch := omega) only [hab, i_lit, i_add, i_mul, i_sub, i_lt, i_le, i_eq, i_cl, i_max, i_min, i_rem, i_div, i_neg, i_nn, i_n4, i_n4', Option.bind_some, Option.some.injEq, Sum.inl.injEq, Sum.inr.injEq, Prod.mk.injEq, gdn, if_pos, if_neg, Nat.add_zero, Nat.zero_add, and_true, true_and, and_self, ite_true, ite_false, if_true, if_false, reduceIte]
        rw [s_holderOf w h hn, h0]
        rfl
      · rw [if_neg h0]
        have hs : tX4_holdsBetween_8 S (nI a, nI b, nI k) = some (.inl (nI (min a b), nI (mH M (max a b) - 1), nI (k + 1))) := by
          unfold tX4_holdsBetween_8
          simp (disch := omega) only [hab, i_lit, i_add, i_mul, i_sub, i_lt, i_le, i_eq, i_cl, i_max, i_min, i_rem, i_div, i_neg, i_nn, i_n4, i_n4', Option.bind_some, Option.some.injEq, Sum.inl.injEq, Sum.inr.injEq, Prod.mk.injEq, gdn, if_pos, if_neg, Nat.add_zero, Nat.zero_add, and_true, true_and, and_self, ite_true, ite_false, if_true, if_false, reduceIte]
          rw [s_holderOf w h hn, hI_s h0]
          simp (disch := omega) only [i_lit, i_add, i_mul, i_sub, i_lt, i_le, i_eq, i_cl, i_max, i_min, i_rem, i_div, i_neg, i_nn, i_n4, i_n4', Option.bind_some, Option.some.injEq, Sum.inl.injEq, Sum.inr.injEq, Prod.mk.injEq, gdn, if_pos, if_neg, Nat.add_zero, Nat.zero_add, and_true, true_and, and_self, ite_true, ite_false, if_true, if_false, reduceIte]
        rw [lp_l fu hs, ih (k + 1) (min a b) (mH M (max a b) - 1) fu (by omega) (by omega) (by omega) (by omega)]
        cases dstF (mH M) (m + 1) (min a b) (mH M (max a b) - 1) with
        | none => rfl
        | some d => show some (nI (k + 1 + d)) = some (nI (k + (d + 1))); rw [show k + 1 + d = k + (d + 1) by omega]
theorem oK_0 (o : Option Nat) : oK 0 o = oI o := by
  cases o with
  | none => rfl
  | some d => show nI (0 + d) = nI d; rw [Nat.zero_add]
theorem s_dst {S : GX4} {M : GM} (w : WF M) (h : RepS S M) {a b : Nat} (ha : a < mN M) (hb : b < mN M) : fX4_holdsBetween (nI a) (nI b) S = some (oI (dst M a b)) := by
  have h1 := w.n1
  unfold fX4_holdsBetween
  rw [← oK_0]
  exact s_dst_go w h (max a b) 0 a b FU (Nat.le_refl _) (by omega) (by omega) (by rw [FU_eq]; omega)
theorem dstF_le {H : Nat → Nat} : ∀ {f a b d : Nat}, dstF H f a b = some d → d < f
  | f + 1, a, b, d, h => by
    unfold dstF at h
    by_cases hab : a = b
    · rw [if_pos hab] at h; cases h; omega
    · rw [if_neg hab] at h
      by_cases h0 : H (max a b) = 0
      · rw [if_pos h0] at h; cases h
      · rw [if_neg h0] at h
        cases e : dstF H f (min a b) (H (max a b) - 1) with
        | none => rw [e] at h; cases h
        | some q => rw [e] at h; cases h; have := dstF_le e; show q + 1 < f + 1; omega
theorem i_maxo {a : Nat} {o : Option Nat} (ha : a < 2147483648) (ho : ∀ k, o = some k → k < 2147483648) : jmax (nI a) (oI o) = nI (max a (o.getD 0)) := by
  cases o with
  | none =>
    show jmax (nI a) (-4) = nI (max a 0)
    unfold jmax
    rw [if_neg, Nat.max_eq_left (Nat.zero_le _)]
    rw [Int32.lt_iff_toInt_lt, nI_toInt ha, show (-4 : Int32).toInt = -4 from by decide]
    omega
  | some k => exact i_max ha (ho k rfl)
def inP (M : GM) (one acc : Nat) : Nat → Nat
  | 0 => acc
  | i + 1 => max (inP M one acc i) ((dst M one (one + 1 + i)).getD 0)
def outP (M : GM) : Nat → Nat
  | 0 => 0
  | k + 1 => inP M k (outP M k) (mN M - (k + 1))
/-- the longest way, by all pairs -/
abbrev longP (M : GM) : Nat := outP M (mN M)
theorem inP_le {M : GM} {one acc : Nat} (w : WF M) (h1 : one < mN M) (ha : acc ≤ 121) : ∀ {i : Nat}, i ≤ mN M - (one + 1) → inP M one acc i ≤ 121
  | 0, _ => ha
  | i + 1, hi => by
    have h2 := inP_le w h1 ha (show i ≤ mN M - (one + 1) by omega)
    have h3 := w.n1
    unfold inP
    cases e : dst M one (one + 1 + i) with
    | none => simp only [Option.getD_none]; omega
    | some d => have := dstF_le e; simp only [Option.getD_some]; omega
theorem outP_le {M : GM} (w : WF M) : ∀ {k : Nat}, k ≤ mN M → outP M k ≤ 121
  | 0, _ => Nat.zero_le _
  | k + 1, hk => inP_le w (by omega) (outP_le w (by omega)) (Nat.le_refl _)
theorem s_longP_in {S : GX4} {M : GM} (w : WF M) (h : RepS S M) {one acc : Nat} (h1 : one < mN M) (ha : acc ≤ 121) (z : Int32) : lp (tX4_longestOfPairs_16 S (z, nI one)) FU (nI acc, nI (one + 1)) = some (nI (inP M one acc (mN M - (one + 1)))) := by
  have hn := w.n1
  refine lp_fu (fun i => (nI (inP M one acc i), nI (one + 1 + i))) (mN M - (one + 1)) (by omega) rfl (fun i hi => ?_) ?_
  · have hb := inP_le w h1 ha (show i ≤ mN M - (one + 1) by omega)
    unfold tX4_longestOfPairs_16
    rw [h.1]
    simp (disch := omega) only [i_lit, i_add, i_mul, i_sub, i_lt, i_le, i_eq, i_cl, i_max, i_min, i_rem, i_div, i_neg, i_nn, i_n4, i_n4', Option.bind_some, Option.some.injEq, Sum.inl.injEq, Sum.inr.injEq, Prod.mk.injEq, gdn, if_pos, if_neg, Nat.add_zero, Nat.zero_add, and_true, true_and, and_self, ite_true, ite_false, if_true, if_false, reduceIte]
    rw [s_dst w h h1 (by omega)]
    have hd : ∀ k, dst M one (one + 1 + i) = some k → k < 2147483648 := fun k e => by have := dstF_le e; omega
    simp only [Option.bind_some]
    rw [i_maxo (by omega) hd]
    simp (disch := omega) only [i_lit, i_add, i_mul, i_sub, i_lt, i_le, i_eq, i_cl, i_max, i_min, i_rem, i_div, i_neg, i_nn, i_n4, i_n4', Option.bind_some, Option.some.injEq, Sum.inl.injEq, Sum.inr.injEq, Prod.mk.injEq, gdn, if_pos, if_neg, Nat.add_zero, Nat.zero_add, and_true, true_and, and_self, ite_true, ite_false, if_true, if_false, reduceIte]
    exact ⟨rfl, by omega⟩
  · unfold tX4_longestOfPairs_16
    rw [h.1]
    simp (disch := omega) only [i_lit, i_add, i_mul, i_sub, i_lt, i_le, i_eq, i_cl, i_max, i_min, i_rem, i_div, i_neg, i_nn, i_n4, i_n4', Option.bind_some, Option.some.injEq, Sum.inl.injEq, Sum.inr.injEq, Prod.mk.injEq, gdn, if_pos, if_neg, Nat.add_zero, Nat.zero_add, and_true, true_and, and_self, ite_true, ite_false, if_true, if_false, reduceIte]
theorem s_longP {S : GX4} {M : GM} (w : WF M) (h : RepS S M) : fX4_longestOfPairs S = some (nI (longP M)) := by
  have hn := w.n1
  unfold fX4_longestOfPairs
  refine lp_fub (o := nI (longP M)) (fun i => (nI (outP M i), nI i)) (mN M) (by omega) rfl (fun i hi => ?_) ?_ rfl
  · have hb := outP_le w (show i ≤ mN M by omega)
    unfold tX4_longestOfPairs_4
    rw [h.1]
    simp (disch := omega) only [i_lit, i_add, i_mul, i_sub, i_lt, i_le, i_eq, i_cl, i_max, i_min, i_rem, i_div, i_neg, i_nn, i_n4, i_n4', Option.bind_some, Option.some.injEq, Sum.inl.injEq, Sum.inr.injEq, Prod.mk.injEq, gdn, if_pos, if_neg, Nat.add_zero, Nat.zero_add, and_true, true_and, and_self, ite_true, ite_false, if_true, if_false, reduceIte]
    rw [s_longP_in w h hi hb]
    simp (disch := omega) only [i_lit, i_add, i_mul, i_sub, i_lt, i_le, i_eq, i_cl, i_max, i_min, i_rem, i_div, i_neg, i_nn, i_n4, i_n4', Option.bind_some, Option.some.injEq, Sum.inl.injEq, Sum.inr.injEq, Prod.mk.injEq, gdn, if_pos, if_neg, Nat.add_zero, Nat.zero_add, and_true, true_and, and_self, ite_true, ite_false, if_true, if_false, reduceIte]
    rfl
  · unfold tX4_longestOfPairs_4
    rw [h.1]
    simp (disch := omega) only [i_lit, i_add, i_mul, i_sub, i_lt, i_le, i_eq, i_cl, i_max, i_min, i_rem, i_div, i_neg, i_nn, i_n4, i_n4', Option.bind_some, Option.some.injEq, Sum.inl.injEq, Sum.inr.injEq, Prod.mk.injEq, gdn, if_pos, if_neg, Nat.add_zero, Nat.zero_add, and_true, true_and, and_self, ite_true, ite_false, if_true, if_false, reduceIte]
/-! ===== beside a cell ===== -/
/-- how many grains beside -/
def bsd (M : GM) (c : Nat) : Nat := cnt (fun d => (nbAt M c d).isSome) 4
theorem s_bsd {S : GX4} {M : GM} (w : WF M) (h : RepS S M) {c : Nat} (hc : c < 121) : fX4_grainsAround (nI c) S = some (nI (bsd M c)) := by
  have h1 := w.n1
  unfold fX4_grainsAround
  refine lp_fub (o := nI (bsd M c)) (fun d => (nI (cnt (fun d => (nbAt M c d).isSome) d), nI d)) 4 (by omega) rfl (fun d hd => ?_) ?_ rfl
  · have hb := cnt_le (fun d => (nbAt M c d).isSome) d
    unfold tX4_grainsAround_4
    simp (disch := omega) only [i_lit, i_add, i_mul, i_sub, i_lt, i_le, i_eq, i_cl, i_max, i_min, i_rem, i_div, i_neg, i_nn, i_n4, i_n4', Option.bind_some, Option.some.injEq, Sum.inl.injEq, Sum.inr.injEq, Prod.mk.injEq, gdn, if_pos, if_neg, Nat.add_zero, Nat.zero_add, and_true, true_and, and_self, ite_true, ite_false, if_true, if_false, reduceIte]
    rw [p_nb c hc d hd]
    simp (disch := omega) only [i_lit, i_add, i_mul, i_sub, i_lt, i_le, i_eq, i_cl, i_max, i_min, i_rem, i_div, i_neg, i_nn, i_n4, i_n4', Option.bind_some, Option.some.injEq, Sum.inl.injEq, Sum.inr.injEq, Prod.mk.injEq, gdn, if_pos, if_neg, Nat.add_zero, Nat.zero_add, and_true, true_and, and_self, ite_true, ite_false, if_true, if_false, reduceIte]
    rw [s_grainAtO h (nb_lt c hc d hd)]
    simp (disch := omega) only [i_lit, i_add, i_mul, i_sub, i_lt, i_le, i_eq, i_cl, i_max, i_min, i_rem, i_div, i_neg, i_nn, i_n4, i_n4', Option.bind_some, Option.some.injEq, Sum.inl.injEq, Sum.inr.injEq, Prod.mk.injEq, gdn, if_pos, if_neg, Nat.add_zero, Nat.zero_add, and_true, true_and, and_self, ite_true, ite_false, if_true, if_false, reduceIte]
    show (if oI (nbAt M c d) = -nI 4 then _ else _) = _
    have e : cnt (fun d => (nbAt M c d).isSome) (d + 1) = cnt (fun d => (nbAt M c d).isSome) d + (if (nbAt M c d).isSome then 1 else 0) := rfl
    rw [e]
    cases hn : nbAt M c d with
    | none =>
      rw [if_pos (by rfl)]
      unfold jX4_grainsAround_1
      simp (disch := omega) only [i_lit, i_add, i_mul, i_sub, i_lt, i_le, i_eq, i_cl, i_max, i_min, i_rem, i_div, i_neg, i_nn, i_n4, i_n4', Option.bind_some, Option.some.injEq, Sum.inl.injEq, Sum.inr.injEq, Prod.mk.injEq, gdn, if_pos, if_neg, Nat.add_zero, Nat.zero_add, and_true, true_and, and_self, ite_true, ite_false, if_true, if_false, reduceIte]
      rfl
    | some g =>
      have := nbAt_lt hn
      rw [if_neg (by rw [oI_some, i_n4 (by omega)]; exact id)]
      unfold jX4_grainsAround_1
      simp (disch := omega) only [i_lit, i_add, i_mul, i_sub, i_lt, i_le, i_eq, i_cl, i_max, i_min, i_rem, i_div, i_neg, i_nn, i_n4, i_n4', Option.bind_some, Option.some.injEq, Sum.inl.injEq, Sum.inr.injEq, Prod.mk.injEq, gdn, if_pos, if_neg, Nat.add_zero, Nat.zero_add, and_true, true_and, and_self, ite_true, ite_false, if_true, if_false, reduceIte]
      rfl
  · unfold tX4_grainsAround_4
    simp (disch := omega) only [i_lit, i_add, i_mul, i_sub, i_lt, i_le, i_eq, i_cl, i_max, i_min, i_rem, i_div, i_neg, i_nn, i_n4, i_n4', Option.bind_some, Option.some.injEq, Sum.inl.injEq, Sum.inr.injEq, Prod.mk.injEq, gdn, if_pos, if_neg, Nat.add_zero, Nat.zero_add, and_true, true_and, and_self, ite_true, ite_false, if_true, if_false, reduceIte]
    rfl
theorem fgb_lt {M : GM} {c g : Nat} (h : fgb M c = some g) : g < mN M := by
  unfold fgb at h
  cases e0 : nbAt M c 0 with
  | some q => rw [e0] at h; cases h; exact nbAt_lt e0
  | none =>
    rw [e0] at h
    cases e1 : nbAt M c 1 with
    | some q => rw [e1] at h; cases h; exact nbAt_lt e1
    | none =>
      rw [e1] at h
      cases e2 : nbAt M c 2 with
      | some q => rw [e2] at h; cases h; exact nbAt_lt e2
      | none => rw [e2] at h; exact nbAt_lt h
/-- free cells beside grains -/
def shoreB (M : GM) (c : Nat) : Bool := (at_ M c).isNone && (fgb M c).isSome
def shoreM (M : GM) : Nat := cnt (shoreB M) 121
theorem s_shore {S : GX4} {M : GM} (w : WF M) (h : RepS S M) : fX4_freeCellsBeside S = some (nI (shoreM M)) := by
  have h1 := w.n1
  unfold fX4_freeCellsBeside
  refine lp_fub (o := nI (shoreM M)) (fun c => (nI (cnt (shoreB M) c), nI c)) 121 (by omega) rfl (fun c hc => ?_) ?_ rfl
  · have hb := cnt_le (shoreB M) c
    unfold tX4_freeCellsBeside_4 jX4_freeCellsBeside_1
    simp (disch := omega) only [i_lit, i_add, i_mul, i_sub, i_lt, i_le, i_eq, i_cl, i_max, i_min, i_rem, i_div, i_neg, i_nn, i_n4, i_n4', Option.bind_some, Option.some.injEq, Sum.inl.injEq, Sum.inr.injEq, Prod.mk.injEq, gdn, if_pos, if_neg, Nat.add_zero, Nat.zero_add, and_true, true_and, and_self, ite_true, ite_false, if_true, if_false, reduceIte]
    rw [s_grainAt h hc]
    simp (disch := omega) only [i_lit, i_add, i_mul, i_sub, i_lt, i_le, i_eq, i_cl, i_max, i_min, i_rem, i_div, i_neg, i_nn, i_n4, i_n4', Option.bind_some, Option.some.injEq, Sum.inl.injEq, Sum.inr.injEq, Prod.mk.injEq, gdn, if_pos, if_neg, Nat.add_zero, Nat.zero_add, and_true, true_and, and_self, ite_true, ite_false, if_true, if_false, reduceIte]
    have e : cnt (shoreB M) (c + 1) = cnt (shoreB M) c + (if shoreB M c then 1 else 0) := rfl
    rw [e]
    unfold shoreB
    cases ha : at_ M c with
    | some g =>
      have := at_lt ha
      rw [if_neg (by rw [oI_some, i_n4 (by omega)]; exact id)]
      rfl
    | none =>
      rw [if_pos (by rfl), s_fgb w h hc]
      simp (disch := omega) only [i_lit, i_add, i_mul, i_sub, i_lt, i_le, i_eq, i_cl, i_max, i_min, i_rem, i_div, i_neg, i_nn, i_n4, i_n4', Option.bind_some, Option.some.injEq, Sum.inl.injEq, Sum.inr.injEq, Prod.mk.injEq, gdn, if_pos, if_neg, Nat.add_zero, Nat.zero_add, and_true, true_and, and_self, ite_true, ite_false, if_true, if_false, reduceIte]
      cases hf : fgb M c with
      | none => rfl
      | some g =>
        have := fgb_lt hf
        rw [if_neg (by rw [oI_some, i_n4 (by omega)]; exact id)]
        rfl
  · unfold tX4_freeCellsBeside_4
    simp (disch := omega) only [i_lit, i_add, i_mul, i_sub, i_lt, i_le, i_eq, i_cl, i_max, i_min, i_rem, i_div, i_neg, i_nn, i_n4, i_n4', Option.bind_some, Option.some.injEq, Sum.inl.injEq, Sum.inr.injEq, Prod.mk.injEq, gdn, if_pos, if_neg, Nat.add_zero, Nat.zero_add, and_true, true_and, and_self, ite_true, ite_false, if_true, if_false, reduceIte]
    rfl
/-! ===== refusals ===== -/
theorem p_isRim (x : Int32) : (∃ r, r < 40 ∧ x = nI r ∧ fX2_isRim x = some 1) ∨ ((∀ r, r < 40 → x ≠ nI r) ∧ fX2_isRim x = some 0) := by
  rcases i_any x (n := 40) (by decide) with q | q | ⟨r, hr, rfl⟩
  · refine Or.inr ⟨fun r hr e => ?_, ?_⟩
    · rw [e, i_0, i_lt (by omega) (by omega)] at q; omega
    · unfold fX2_isRim; rw [if_pos q]
  · refine Or.inr ⟨fun r hr e => ?_, ?_⟩
    · rw [e, i_le (by omega) (by omega)] at q; omega
    · unfold fX2_isRim
      by_cases q0 : x < 0
      · rw [if_pos q0]
      · rw [if_neg q0, if_pos (show (40 : Int32) ≤ x from q)]
  · refine Or.inl ⟨r, hr, rfl, ?_⟩
    unfold fX2_isRim
    simp (disch := omega) only [i_lit, i_add, i_mul, i_sub, i_lt, i_le, i_eq, i_cl, i_max, i_min, i_rem, i_div, i_neg, i_nn, i_n4, i_n4', Option.bind_some, Option.some.injEq, Sum.inl.injEq, Sum.inr.injEq, Prod.mk.injEq, gdn, if_pos, if_neg, Nat.add_zero, Nat.zero_add, and_true, true_and, and_self, ite_true, ite_false, if_true, if_false, reduceIte]
