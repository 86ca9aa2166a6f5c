/-! ===== p28: grains, holders, rings and counts agree ===== -/
theorem adj_gap {p c d : Nat} (hd : d < 4) (e : nb p d = some c) : (c ≤ p ∧ (p - c = 11 ∨ (p - c = 1 ∧ c / 11 = p / 11))) ∨ (p < c ∧ (c - p = 11 ∨ (c - p = 1 ∧ c / 11 = p / 11))) := by
  rcases (show d = 0 ∨ d = 1 ∨ d = 2 ∨ d = 3 by omega) with rfl | rfl | rfl | rfl
  · have e : (if 11 ≤ p then some (p - 11) else none) = some c := e
    by_cases q : 11 ≤ p
    · rw [if_pos q] at e
      cases e
      omega
    · rw [if_neg q] at e
      cases e
  · have e : (if p % 11 < 10 then some (p + 1) else none) = some c := e
    by_cases q : p % 11 < 10
    · rw [if_pos q] at e
      cases e
      omega
    · rw [if_neg q] at e
      cases e
  · have e : (if p < 110 then some (p + 11) else none) = some c := e
    by_cases q : p < 110
    · rw [if_pos q] at e
      cases e
      omega
    · rw [if_neg q] at e
      cases e
  · have e : (if 0 < p % 11 then some (p - 1) else none) = some c := e
    by_cases q : 0 < p % 11
    · rw [if_pos q] at e
      cases e
      omega
    · rw [if_neg q] at e
      cases e
theorem hold_step {a : AS} (h : IA a) {i : Nat} (hi : i < mN a.1) {KB : (Int32 × Int32 × Int32 × Int32 × Int32 × Int32) → Prop} {KX : (Int32 × Int32 × Int32 × Int32 × Int32) → Prop} {c1 c2 c3 c4 : Int32} (hk : KB (c1 + (if mH a.1 i = 0 then 1 else 0), c2 + (if chl a.1 i = 0 then 1 else 0), c3 + (if 1 < chl a.1 i then 1 else 0), c4 + nI (chl a.1 i), 1, nI i + 1)) : tL_holds_100 a (c1, c2, c3, c4, 1, nI i) KB KX := by
  have w := h.wf
  have h1 := h.n1
  have hh := w.h hi
  have hc := w.c hi
  have hch : chl a.1 i ≤ mN a.1 := cnt_le _ _
  obtain ⟨k, hk200, ek, hk0⟩ := h.pm.2.1 i hi
  have last : ∀ y4 y5 y6 : Int32, y4 = (if mH a.1 i = 0 then 1 else 0) → y5 = (if chl a.1 i = 0 then 1 else 0) → y6 = (if 1 < chl a.1 i then 1 else 0) → jL_holds_9 a (c1, c2, c3, c4, 1, nI i) KB y4 y5 y6 := fun y4 y5 y6 e4 e5 e6 => by
    have hr : ring (mC a.1 i) ≤ reachM a.1 := le_mxF (f := fun g => ring (mC a.1 g)) hi
    have hr6 := ring_le _ hc
    have hrr : reachM a.1 ≤ 5 := mxF_le (fun g hg => by have := ring_le _ (w.c hg); omega)
    unfold jL_holds_9
    try dsimp only
    rw [grn_8 hi h1, ek, if_neg (show ¬ (200 : Int32) < nI k from i_nlt (a := 200) hk200 (by omega)), grn_0 hi h1, cel_1 hc, cot_5, if_neg (show ¬ nI (reachM a.1) < nI (ring (mC a.1 i)) from i_nlt hr (by omega))]
    unfold jL_holds_7
    try dsimp only
    rw [grn_3 hi h1, e4, e5, e6]
    exact hk
  have six : ∀ y2 y3 y4 y5 y6 : Int32, (mH a.1 i ≠ 0 → y2 = nI (mC a.1 (mH a.1 i - 1)) ∧ (y3 = 11 ∨ (y3 = 1 ∧ mC a.1 i / 11 = mC a.1 (mH a.1 i - 1) / 11))) → y4 = (if mH a.1 i = 0 then 1 else 0) → y5 = (if chl a.1 i = 0 then 1 else 0) → y6 = (if 1 < chl a.1 i then 1 else 0) → jL_holds_6 a (c1, c2, c3, c4, 1, nI i) KB y2 y3 y4 y5 y6 := fun y2 y3 y4 y5 y6 ey e4 e5 e6 => by
    unfold jL_holds_6
    try dsimp only
    rw [grn_0 hi h1, cel_0 hc, show at_ a.1 (mC a.1 i) = some i from atF_of w.2.2.2.1 hi, if_pos (show oI (some i) = nI i from rfl), grn_1 hi h1]
    by_cases q : mH a.1 i = 0
    · rw [if_pos ((hI_n4 (by omega)).mpr q), grn_8 hi h1, ek, hk0 q, if_pos (show nI 0 = 0 from rfl), grn_7 hi h1, rot_eq w hi, if_pos q, if_pos rfl]
      exact last y4 y5 y6 e4 e5 e6
    · have hp : mH a.1 i - 1 < mN a.1 := by omega
      have hcp := w.c hp
      obtain ⟨ey2, ey3⟩ := ey q
      have ten : jL_holds_10 a (c1, c2, c3, c4, 1, nI i) KB y4 y5 y6 := by
        unfold jL_holds_10
        try dsimp only
        rw [grn_1 hi h1, hI_s q, grn_7 hi h1, grn_7 hp h1, rot_eq w hi, if_neg q, if_pos rfl, grn_2 hi h1, grn_2 hp h1, dep_eq w hi, if_neg q, if_pos (i_inc _).symm]
        exact last y4 y5 y6 e4 e5 e6
      rw [if_neg (fun z => q ((hI_n4 (by omega)).mp z)), hI_s q, if_neg (i_nz (by omega)), if_neg (show ¬ nI i ≤ nI (mH a.1 i - 1) from i_nle (by omega) (by omega))]
      rcases ey3 with e3 | ⟨e3, e3'⟩
      · rw [if_pos e3]
        exact ten
      · rw [if_neg (show ¬ y3 = 11 by rw [e3]; decide), if_pos e3, ey2]
        rw [show nI (mC a.1 i) / 11 = nI (mC a.1 i / 11) from i_div (d := 11) (by omega) (by omega) (by omega), show nI (mC a.1 (mH a.1 i - 1)) / 11 = nI (mC a.1 (mH a.1 i - 1) / 11) from i_div (d := 11) (by omega) (by omega) (by omega), e3', if_pos rfl]
        exact ten
  have five : ∀ y2 y3 y4 : Int32, (mH a.1 i ≠ 0 → y2 = nI (mC a.1 (mH a.1 i - 1)) ∧ (y3 = 11 ∨ (y3 = 1 ∧ mC a.1 i / 11 = mC a.1 (mH a.1 i - 1) / 11))) → y4 = (if mH a.1 i = 0 then 1 else 0) → jL_holds_4 a (c1, c2, c3, c4, 1, nI i) KB y2 y3 y4 := fun y2 y3 y4 ey e4 => by
    have s6 : ∀ y5 : Int32, y5 = (if chl a.1 i = 0 then 1 else 0) → jL_holds_5 a (c1, c2, c3, c4, 1, nI i) KB y2 y3 y4 y5 := fun y5 e5 => by
      unfold jL_holds_5
      try dsimp only
      rw [grn_3 hi h1]
      by_cases q : 1 < chl a.1 i
      · rw [if_neg (show ¬ nI (chl a.1 i) ≤ 1 from i_nle (b := 1) q (by omega))]
        exact six y2 y3 y4 y5 1 ey e4 e5 (if_pos q).symm
      · rw [if_pos (show nI (chl a.1 i) ≤ 1 from i_ple (b := 1) (by omega) (by omega))]
        exact six y2 y3 y4 y5 0 ey e4 e5 (if_neg q).symm
    unfold jL_holds_4
    try dsimp only
    rw [grn_3 hi h1]
    by_cases q : chl a.1 i = 0
    · rw [if_pos (show nI (chl a.1 i) = 0 by rw [q]; rfl)]
      exact s6 1 (if_pos q).symm
    · rw [if_neg (show ¬ nI (chl a.1 i) = 0 from fun z => q ((i_eq (b := 0) (by omega) (by omega)).mp z))]
      exact s6 0 (if_neg q).symm
  have two : ∀ y2 : Int32, (mH a.1 i ≠ 0 → y2 = nI (mC a.1 (mH a.1 i - 1))) → (mH a.1 i = 0 → y2 = nI (mC a.1 i)) → jL_holds_2 a (c1, c2, c3, c4, 1, nI i) KB y2 := fun y2 ey ey0 => by
    have three : ∀ y3 : Int32, (mH a.1 i ≠ 0 → y3 = 11 ∨ (y3 = 1 ∧ mC a.1 i / 11 = mC a.1 (mH a.1 i - 1) / 11)) → jL_holds_3 a (c1, c2, c3, c4, 1, nI i) KB y2 y3 := fun y3 e3 => by
      unfold jL_holds_3
      try dsimp only
      rw [grn_1 hi h1]
      by_cases q : mH a.1 i = 0
      · rw [if_pos ((hI_n4 (by omega)).mpr q)]
        exact five y2 y3 1 (fun z => ⟨ey z, e3 z⟩) (if_pos q).symm
      · rw [if_neg (fun z => q ((hI_n4 (by omega)).mp z))]
        exact five y2 y3 0 (fun z => ⟨ey z, e3 z⟩) (if_neg q).symm
    unfold jL_holds_2
    try dsimp only
    rw [grn_0 hi h1]
    by_cases q : mH a.1 i = 0
    · rw [ey0 q, if_pos (i_ple (Nat.le_refl _) (by omega))]
      rw [ey0 q] at three
      exact three _ (fun z => absurd q z)
    · have hp : mH a.1 i - 1 < mN a.1 := by omega
      have hcp := w.c hp
      obtain ⟨d, hd, ed⟩ := h.pm.1.2.2 i hi q
      rw [ey q]
      rw [ey q] at three
      rcases adj_gap hd ed with ⟨z, z2⟩ | ⟨z, z2⟩
      · rw [if_pos (i_ple z (by omega)), i_sub z]
        refine three _ (fun _ => ?_)
        rcases z2 with z2 | ⟨z2, z3⟩
        · exact Or.inl (congrArg nI z2)
        · exact Or.inr ⟨congrArg nI z2, z3⟩
      · rw [if_neg (i_nle z (by omega)), i_sub (Nat.le_of_lt z)]
        refine three _ (fun _ => ?_)
        rcases z2 with z2 | ⟨z2, z3⟩
        · exact Or.inl (congrArg nI z2)
        · exact Or.inr ⟨congrArg nI z2, z3⟩
  unfold tL_holds_100
  try dsimp only
  rw [cot_0, if_neg (i_nle hi (by omega)), if_neg (show ¬ (1 : Int32) = 0 by decide), grn_1 hi h1]
  by_cases q : mH a.1 i = 0
  · rw [if_pos ((hI_n4 (by omega)).mpr q), grn_0 hi h1]
    exact two _ (fun z => absurd q z) (fun _ => rfl)
  · rw [if_neg (fun z => q ((hI_n4 (by omega)).mp z)), hI_s q, grn_0 (show mH a.1 i - 1 < mN a.1 by omega) h1]
    exact two _ (fun _ => rfl) (fun z => absurd z q)
/-- what density tells is above 0 and at most 1 -/
def dnsOk (n m : Nat) : Bool := !isNaN64 (FP.ddiv (FP.i2d (nI n)) (FP.i2d (nI m))) && decide (0 < Op.cmpValue (FP.dcmp (FP.ddiv (FP.i2d (nI n)) (FP.i2d (nI m))) FP.dconst0) CmpOp.l) && decide (Op.cmpValue (FP.dcmp (FP.ddiv (FP.i2d (nI n)) (FP.i2d (nI m))) FP.dconst1) CmpOp.g ≤ 0)
theorem dns_all : ∀ r, r < 6 → ∀ n, n < (2 * r + 1) * (2 * r + 1) → dnsOk (n + 1) ((2 * r + 1) * (2 * r + 1)) = true := by decide +kernel
theorem dns_ok {a : AS} (h : IA a) {r : UInt64} (hr : alike64 r (dnsA a) = true) : r = dnsA a ∧ ¬ Op.cmpValue (FP.dcmp (dnsA a) FP.dconst0) CmpOp.l ≤ 0 ∧ ¬ 0 < Op.cmpValue (FP.dcmp (dnsA a) FP.dconst1) CmpOp.g := by
  have w := h.wf
  have hrr : reachM a.1 < 6 := by
    have : reachM a.1 ≤ 5 := mxF_le (fun g hg => by have := ring_le _ (w.c hg); omega)
    omega
  have hn := n_in w
  have h0 := h.n0
  have k := dns_all (reachM a.1) hrr (mN a.1 - 1) (by omega)
  rw [show mN a.1 - 1 + 1 = mN a.1 by omega] at k
  unfold dnsOk at k
  simp only [Bool.and_eq_true, Bool.not_eq_true', decide_eq_true_eq] at k
  obtain ⟨⟨k1, k2⟩, k3⟩ := k
  refine ⟨?_, fun z => ?_, fun z => ?_⟩
  · simp only [alike64, Bool.or_eq_true, decide_eq_true_eq, Bool.and_eq_true] at hr
    rcases hr with hr | ⟨_, hr⟩
    · exact hr
    · have hr : isNaN64 (FP.ddiv (FP.i2d (nI (mN a.1))) (FP.i2d (nI ((2 * reachM a.1 + 1) * (2 * reachM a.1 + 1))))) = true := hr
      rw [k1] at hr
      cases hr
  · exact Int32.lt_irrefl (Int32.lt_of_lt_of_le k2 z)
  · exact Int32.lt_irrefl (Int32.lt_of_lt_of_le z k3)
theorem holds_run {a : AS} (h : IA a) {K : Int32 → Prop} (hK : K 1) : gL_holds a K := by
  have w := h.wf
  have h1 := h.n1
  have h0 := h.n0
  have hL : mL a.1 < 10000 := w.2.2.2.2.1
  have hk1 : knd a.1 1 ≤ mN a.1 := cnt_le _ _
  unfold gL_holds
  rw [cot_0, cot_1, cot_7, cot_8, cot_9, cot_17, if_neg (show ¬ nI (mN a.1) ≤ 0 from i_nle (b := 0) h0 (by omega)), if_neg (show ¬ (121 : Int32) < nI (mN a.1) from i_nlt (a := 121) h1 (by omega)), if_pos (pi_sub _ _ _ _ _ h.pm.2.2), if_neg (i_nz (by omega)), if_neg (show ¬ (10000 : Int32) ≤ nI (mL a.1) from i_nle (a := 10000) hL (by omega))]
  rw [show grnA a.1 (nI (mN a.1)) 0 = -1 by (unfold grnA; rw [ix_ge (Nat.le_refl _) (by omega)] <;> rfl), if_pos rfl]
  unfold jL_holds_1
  refine lpP_inv (fun i s => s = (nI (cnt (kndB a.1 1) i), nI (cnt (kndB a.1 2) i), nI (cnt (kndB a.1 3) i), nI (sumF (chl a.1) i), 1, nI i)) (fun o => o = (nI (knd a.1 1), nI (knd a.1 2), nI (knd a.1 3), nI (sumF (chl a.1) (mN a.1)), 1)) (mN a.1) ?_ ?_ ?_ FU 0 _ (by rw [FU_eq]; omega) (by omega) rfl
  · intro i s KB KX hi hs hk
    subst hs
    refine hold_step h hi (hk _ ?_)
    rw [nI_cnt (p := kndB a.1 1) (b := mH a.1 i = 0) (by unfold kndB; rw [if_pos rfl]; exact decide_eq_true_iff), nI_cnt (p := kndB a.1 2) (b := chl a.1 i = 0) (by unfold kndB; rw [if_neg (by decide), if_pos rfl]; exact decide_eq_true_iff), nI_cnt (p := kndB a.1 3) (b := 1 < chl a.1 i) (by unfold kndB; rw [if_neg (by decide), if_neg (by decide)]; exact decide_eq_true_iff), i_add, i_inc]
    rfl
  · intro s KB KX hs hk
    subst hs
    unfold tL_holds_100
    try dsimp only
    rw [cot_0, if_pos (i_ple (Nat.le_refl _) (by omega))]
    exact hk _ rfl
  · intro o ho
    subst ho
    refine lpP_inv (fun i s => s = (nI (sumF (rng a.1) i), nI i)) (fun o => o = nI (sumF (rng a.1) 6)) 6 ?_ ?_ ?_ FU 0 _ (by rw [FU_eq]; omega) (by omega) rfl
    · intro i s KB KX hi hs hk
      subst hs
      unfold tL_holds_405
      try dsimp only
      rw [if_neg (show ¬ (6 : Int32) ≤ nI i from i_nle (a := 6) hi (by omega)), show rngA a.1 (nI i) = nI (rng a.1 i) by (unfold rngA; rw [ix_nI hi (by omega)] <;> rfl), i_add, i_inc]
      exact hk _ rfl
    · intro s KB KX hs hk
      subst hs
      unfold tL_holds_405
      try dsimp only
      rw [if_pos (show (6 : Int32) ≤ nI 6 from i_ple (a := 6) (Nat.le_refl _) (by omega))]
      exact hk _ rfl
    · intro o ho
      subst ho
      have hb := bst_lt (M := a.1) h0
      have hsum := held_sum w
      try dsimp only
      rw [if_neg (show ¬ (1 : Int32) = 0 by decide), cot_1, if_pos rfl, cot_2, if_pos rfl, cot_3, if_pos rfl, cot_0, i_sub hk1, if_pos (show nI (sumF (chl a.1) (mN a.1)) = nI (mN a.1 - knd a.1 1) by rw [show mN a.1 - knd a.1 1 = sumF (chl a.1) (mN a.1) by omega]), rings_sum w, if_pos rfl, lng_0, lng_1, if_pos rfl, cot_12, cot_11, grn_6 hb h1, if_pos rfl]
      intro r hr
      obtain ⟨e, k1, k2⟩ := dns_ok h hr
      rw [e, if_neg k1]
      intro r hr
      obtain ⟨e, k1, k2⟩ := dns_ok h hr
      rw [e, if_neg k2]
      exact hK
