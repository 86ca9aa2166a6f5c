/-! ===== the class's State ===== -/
theorem at_lt {M : GM} {c g : Nat} (h : at_ M c = some g) : g < mN M := (atF_some h).1
theorem WF.n1 {M : GM} (w : WF M) : mN M ≤ 121 := w.1
theorem WF.c {M : GM} (w : WF M) {g : Nat} (h : g < mN M) : mC M g < 121 := w.2.1 g h
theorem WF.h {M : GM} (w : WF M) {g : Nat} (h : g < mN M) : mH M g ≤ g := w.2.2.1 g h
theorem s_grainAt {S : GX4} {M : GM} (h : RepS S M) {c : Nat} (hc : c < 121) : fX4_grainAt (nI c) S = some (oI (at_ M c)) := by
  unfold fX4_grainAt
  simp (disch := omega) only [i_lit, i_add, i_mul, i_sub, i_lt, i_le, i_eq, i_cl, i_max, i_min, i_rem, i_div, i_neg, i_nn, i_n4, i_n4', Option.bind_some, Option.some.injEq, Sum.inl.injEq, Sum.inr.injEq, Prod.mk.injEq, gdn, if_pos, if_neg, Nat.add_zero, Nat.zero_add, and_true, true_and, and_self, ite_true, ite_false, if_true, if_false, reduceIte]
  rw [h.2.2.2.2.1 c hc]
theorem s_grainAtO {S : GX4} {M : GM} (h : RepS S M) {o : Option Nat} (ho : ∀ k, o = some k → k < 121) : fX4_grainAt (oI o) S = some (oI (o.bind (at_ M))) := by
  cases o with
  | none => rfl
  | some c => exact s_grainAt h (ho c rfl)
theorem s_isGrain {S : GX4} {M : GM} (w : WF M) (h : RepS S M) {g : Nat} (hg : g < 2147483648) : fX4_isGrain (nI g) S = some (if g < mN M then 1 else 0) := by
  have h1 := w.n1
  unfold fX4_isGrain
  rw [h.1]
  by_cases q : g < mN M
  · simp (disch := omega) only [q, i_lit, i_add, i_mul, i_sub, i_lt, i_le, i_eq, i_cl, i_max, i_min, i_rem, i_div, i_neg, i_nn, i_n4, i_n4', Option.bind_some, Option.some.injEq, Sum.inl.injEq, Sum.inr.injEq, Prod.mk.injEq, gdn, if_pos, if_neg, Nat.add_zero, Nat.zero_add, and_true, true_and, and_self, ite_true, ite_false, if_true, if_false, reduceIte]
  · simp (disch := omega) only [i_lit, i_add, i_mul, i_sub, i_lt, i_le, i_eq, i_cl, i_max, i_min, i_rem, i_div, i_neg, i_nn, i_n4, i_n4', Option.bind_some, Option.some.injEq, Sum.inl.injEq, Sum.inr.injEq, Prod.mk.injEq, gdn, if_pos, if_neg, Nat.add_zero, Nat.zero_add, and_true, true_and, and_self, ite_true, ite_false, if_true, if_false, reduceIte]
theorem s_holderOf {S : GX4} {M : GM} (w : WF M) (h : RepS S M) {g : Nat} (hg : g < mN M) : fX4_holderOf (nI g) S = some (hI (mH M g)) := by
  have h1 := w.n1
  unfold fX4_holderOf
  rw [s_isGrain w h (by omega)]
  simp (disch := omega) only [hg, i_lit, i_add, i_mul, i_sub, i_lt, i_le, i_eq, i_cl, i_max, i_min, i_rem, i_div, i_neg, i_nn, i_n4, i_n4', Option.bind_some, Option.some.injEq, Sum.inl.injEq, Sum.inr.injEq, Prod.mk.injEq, gdn, if_pos, if_neg, Nat.add_zero, Nat.zero_add, and_true, true_and, and_self, ite_true, ite_false, if_true, if_false, reduceIte]
  rw [h.2.2.1 g hg]
theorem s_cellOf {S : GX4} {M : GM} (w : WF M) (h : RepS S M) {g : Nat} (hg : g < mN M) : fX4_cellOf (nI g) S = some (nI (mC M g)) := by
  have h1 := w.n1
  unfold fX4_cellOf
  rw [s_isGrain w h (by omega)]
  simp (disch := omega) only [hg, i_lit, i_add, i_mul, i_sub, i_lt, i_le, i_eq, i_cl, i_max, i_min, i_rem, i_div, i_neg, i_nn, i_n4, i_n4', Option.bind_some, Option.some.injEq, Sum.inl.injEq, Sum.inr.injEq, Prod.mk.injEq, gdn, if_pos, if_neg, Nat.add_zero, Nat.zero_add, and_true, true_and, and_self, ite_true, ite_false, if_true, if_false, reduceIte]
  rw [h.2.1 g hg]
theorem s_stepsOf {S : GX4} {M : GM} (w : WF M) (h : RepS S M) {g : Nat} (hg : g < mN M) : fX4_stepsOf (nI g) S = some (mW M g) := by
  have h1 := w.n1
  unfold fX4_stepsOf
  rw [s_isGrain w h (by omega)]
  simp (disch := omega) only [hg, i_lit, i_add, i_mul, i_sub, i_lt, i_le, i_eq, i_cl, i_max, i_min, i_rem, i_div, i_neg, i_nn, i_n4, i_n4', Option.bind_some, Option.some.injEq, Sum.inl.injEq, Sum.inr.injEq, Prod.mk.injEq, gdn, if_pos, if_neg, Nat.add_zero, Nat.zero_add, and_true, true_and, and_self, ite_true, ite_false, if_true, if_false, reduceIte]
  rw [h.2.2.2.1 g hg]
theorem s_setting {S : GX4} {M : GM} (h : RepS S M) {k : Nat} (hk : k < 4) : fX4_setting (nI k) S = some (nI (mS M k)) := by
  unfold fX4_setting
  simp (disch := omega) only [i_lit, i_add, i_mul, i_sub, i_lt, i_le, i_eq, i_cl, i_max, i_min, i_rem, i_div, i_neg, i_nn, i_n4, i_n4', Option.bind_some, Option.some.injEq, Sum.inl.injEq, Sum.inr.injEq, Prod.mk.injEq, gdn, if_pos, if_neg, Nat.add_zero, Nat.zero_add, and_true, true_and, and_self, ite_true, ite_false, if_true, if_false, reduceIte]
  rw [h.2.2.2.2.2.2.1 k hk]
/-- the grain in a direction -/
def nbAt (M : GM) (c d : Nat) : Option Nat := (nb c d).bind (at_ M)
theorem nbAt_lt {M : GM} {c d g : Nat} (h : nbAt M c d = some g) : g < mN M := by
  unfold nbAt at h
  cases hn : nb c d with
  | none => rw [hn] at h; cases h
  | some k => rw [hn] at h; exact at_lt h
/-- the first grain beside, of the directions from d on -/
def fgb (M : GM) (c : Nat) : Option Nat := match nbAt M c 0 with
  | some g => some g
  | none => match nbAt M c 1 with
    | some g => some g
    | none => match nbAt M c 2 with
      | some g => some g
      | none => nbAt M c 3
theorem s_fgb_step {S : GX4} {M : GM} (w : WF M) (h : RepS S M) {c d : Nat} (hc : c < 121) (hd : d < 4) : tX4_firstGrainBeside_2 (nI c) S (nI d) = some (match nbAt M c d with | none => .inl (nI (d + 1)) | some g => .inr (nI g)) := by
  have h1 := w.n1
  unfold tX4_firstGrainBeside_2
  simp (disch := omega) only [i_lit, i_add, i_mul, i_sub, i_lt, i_le, i_eq, i_cl, i_max, i_min, i_rem, i_div, i_neg, i_nn, i_n4, i_n4', Option.bind_some, Option.some.injEq, Sum.inl.injEq, Sum.inr.injEq, Prod.mk.injEq, gdn, if_pos, if_neg, Nat.add_zero, Nat.zero_add, and_true, true_and, and_self, ite_true, ite_false, if_true, if_false, reduceIte]
  rw [p_nb c hc d hd]
  simp (disch := omega) only [i_lit, i_add, i_mul, i_sub, i_lt, i_le, i_eq, i_cl, i_max, i_min, i_rem, i_div, i_neg, i_nn, i_n4, i_n4', Option.bind_some, Option.some.injEq, Sum.inl.injEq, Sum.inr.injEq, Prod.mk.injEq, gdn, if_pos, if_neg, Nat.add_zero, Nat.zero_add, and_true, true_and, and_self, ite_true, ite_false, if_true, if_false, reduceIte]
  rw [s_grainAtO h (nb_lt c hc d hd)]
  simp (disch := omega) only [i_lit, i_add, i_mul, i_sub, i_lt, i_le, i_eq, i_cl, i_max, i_min, i_rem, i_div, i_neg, i_nn, i_n4, i_n4', Option.bind_some, Option.some.injEq, Sum.inl.injEq, Sum.inr.injEq, Prod.mk.injEq, gdn, if_pos, if_neg, Nat.add_zero, Nat.zero_add, and_true, true_and, and_self, ite_true, ite_false, if_true, if_false, reduceIte]
  show (if oI (nbAt M c d) = -nI 4 then _ else some (Sum.inr (oI (nbAt M c d)))) = _
  cases hn : nbAt M c d with
  | none => rfl
  | some g =>
    have := nbAt_lt hn
    rw [if_neg (by rw [oI_some, i_n4 (by omega)]; exact id)]
    rfl
theorem s_fgb {S : GX4} {M : GM} (w : WF M) (h : RepS S M) {c : Nat} (hc : c < 121) : fX4_firstGrainBeside (nI c) S = some (oI (fgb M c)) := by
  have hs := fun d hd => s_fgb_step w h hc (d := d) hd
  have h4 : tX4_firstGrainBeside_2 (nI c) S (nI 4) = some (.inr (-4)) := by
    unfold tX4_firstGrainBeside_2
    rw [if_pos (by decide)]
  unfold fX4_firstGrainBeside fgb
  have go : ∀ N, N ≤ 4 → (∀ d, d < N → nbAt M c d = none) → ∀ o, tX4_firstGrainBeside_2 (nI c) S (nI N) = some (.inr o) → lp (tX4_firstGrainBeside_2 (nI c) S) FU 0 = some o := by
    intro N hN hn o he
    refine lp_fu (fun i => nI i) N (by omega) rfl (fun i hi => ?_) he
    rw [hs i (by omega), hn i hi]
  cases e0 : nbAt M c 0 with
  | some g => exact go 0 (by omega) (fun d hd => by omega) _ (by rw [hs 0 (by omega), e0]; rfl)
  | none =>
    cases e1 : nbAt M c 1 with
    | some g => exact go 1 (by omega) (fun d hd => by rw [show d = 0 by omega]; exact e0) _ (by rw [hs 1 (by omega), e1]; rfl)
    | none =>
      cases e2 : nbAt M c 2 with
      | some g => exact go 2 (by omega) (fun d hd => by rcases (show d = 0 ∨ d = 1 by omega) with rfl | rfl <;> assumption) _ (by rw [hs 2 (by omega), e2]; rfl)
      | none =>
        cases e3 : nbAt M c 3 with
        | some g => exact go 3 (by omega) (fun d hd => by rcases (show d = 0 ∨ d = 1 ∨ d = 2 by omega) with rfl | rfl | rfl <;> assumption) _ (by rw [hs 3 (by omega), e3]; rfl)
        | none => exact go 4 (by omega) (fun d hd => by rcases (show d = 0 ∨ d = 1 ∨ d = 2 ∨ d = 3 by omega) with rfl | rfl | rfl | rfl <;> assumption) _ h4
/-- how many of the first n -/
def cnt (p : Nat → Bool) : Nat → Nat
  | 0 => 0
  | n + 1 => cnt p n + (if p n then 1 else 0)
theorem cnt_le (p : Nat → Bool) : ∀ n, cnt p n ≤ n
  | 0 => Nat.le_refl 0
  | n + 1 => by
    have := cnt_le p n
    unfold cnt
    split <;> omega
/-- the greatest of the first n -/
def mxF (f : Nat → Nat) : Nat → Nat
  | 0 => 0
  | n + 1 => max (mxF f n) (f n)
theorem mxF_le {f : Nat → Nat} {B : Nat} : ∀ {n : Nat}, (∀ i, i < n → f i ≤ B) → mxF f n ≤ B
  | 0, _ => Nat.zero_le _
  | n + 1, h => by
    have h1 := mxF_le (n := n) (fun i hi => h i (by omega))
    have h2 := h n (by omega)
    unfold mxF
    omega
/-- the reach -/
def reachM (M : GM) : Nat := mxF (fun g => ring (mC M g)) (mN M)
theorem s_reach {S : GX4} {M : GM} (w : WF M) (h : RepS S M) : fX4_reach S = some (nI (reachM M)) := by
  have h1 := w.n1
  unfold fX4_reach
  have hb : ∀ i, i ≤ mN M → mxF (fun g => ring (mC M g)) i ≤ 5 := fun i hi => mxF_le (fun j hj => by
    have := ring_le _ (w.c (show j < mN M by omega)); omega)
  refine lp_fub (o := nI (reachM M)) (fun i => (nI (mxF (fun g => ring (mC M g)) i), nI i)) (mN M) (by omega) rfl (fun i hi => ?_) ?_ rfl
  · have hb1 := hb i (by omega)
    have hb2 := ring_le _ (w.c hi)
    unfold tX4_reach_4
    rw [h.1]
    simp (disch := omega) only [i_lit, i_add, i_mul, i_sub, i_lt, i_le, i_eq, i_cl, i_max, i_min, i_rem, i_div, i_neg, i_nn, i_n4, i_n4', Option.bind_some, Option.some.injEq, Sum.inl.injEq, Sum.inr.injEq, Prod.mk.injEq, gdn, if_pos, if_neg, Nat.add_zero, Nat.zero_add, and_true, true_and, and_self, ite_true, ite_false, if_true, if_false, reduceIte]
    rw [h.2.1 i hi, p_ring _ (w.c hi)]
    simp (disch := omega) only [i_lit, i_add, i_mul, i_sub, i_lt, i_le, i_eq, i_cl, i_max, i_min, i_rem, i_div, i_neg, i_nn, i_n4, i_n4', Option.bind_some, Option.some.injEq, Sum.inl.injEq, Sum.inr.injEq, Prod.mk.injEq, gdn, if_pos, if_neg, Nat.add_zero, Nat.zero_add, and_true, true_and, and_self, ite_true, ite_false, if_true, if_false, reduceIte]
    rfl
  · unfold tX4_reach_4
    rw [h.1]
    simp (disch := omega) only [i_lit, i_add, i_mul, i_sub, i_lt, i_le, i_eq, i_cl, i_max, i_min, i_rem, i_div, i_neg, i_nn, i_n4, i_n4', Option.bind_some, Option.some.injEq, Sum.inl.injEq, Sum.inr.injEq, Prod.mk.injEq, gdn, if_pos, if_neg, Nat.add_zero, Nat.zero_add, and_true, true_and, and_self, ite_true, ite_false, if_true, if_false, reduceIte]
    rfl
