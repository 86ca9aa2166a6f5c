/-! ===== p28: the acts, the texts left out ===== -/
theorem bdI {α : Type} {x o : α} {f : α → Prop} (e : x = o) (h : f o) : bd x f := by
  subst e
  exact h
/-- what an act leaves alone: it either changes nothing or keeps what was; the snapshot stays -/
def ActR (a b : AS) : Prop := ((b.1 = a.1 ∧ b.2.1 = a.2.1) ∨ b.2.1 = recA a.2.1 a.1) ∧ b.2.2.1 = a.2.2.1
theorem ActR.same (a : AS) : ActR a a := ⟨Or.inl ⟨rfl, rfl⟩, rfl⟩
theorem ActR.rec_ (a : AS) (M : GM) : ActR a (M, recA a.2.1 a.1, a.2.2) := ⟨Or.inr rfl, rfl⟩
theorem act_go {a : AS} (h : IA a) {i2 : Int32} {K : Int32 → AS → Prop} (hK : ∀ b, IA b → ActR a b → K 1 b) : bd (chA a (goA a.1 (lwA28 i2 42 - 1))) fun o58 => (if o58.1 = (ifgA a.1 (lwA28 i2 42 - 1) 0) then (if o58.1 < 1000 then jL_acts_27 a K o58 0 else jL_acts_27 a K o58 1) else K 0 o58.2) := by
  have w := h.wf
  obtain ⟨j, hj, ej⟩ := low_ok i2 (n := 42) (by omega) (by omega)
  have ej : lwA28 i2 42 = nI j := ej
  have eR : nI j - 1 = hR j := hR_of (by omega)
  rw [ej, eR]
  have none_ : ∀ v : Int32, (v = -1 ∨ v = -2) → goA a.1 (hR j) = (v, none) → ifgA a.1 (hR j) 0 = v → bd (chA a (goA a.1 (hR j))) fun o58 => (if o58.1 = (ifgA a.1 (hR j) 0) then (if o58.1 < 1000 then jL_acts_27 a K o58 0 else jL_acts_27 a K o58 1) else K 0 o58.2) := fun v hv e1 e2 => by
    have e : chA a (goA a.1 (hR j)) = (v, a) := by rw [e1]; rfl
    have v1 : v < 1000 := by rcases hv with rfl | rfl <;> decide
    have v2 : ¬ 0 ≤ v := by rcases hv with rfl | rfl <;> decide
    have v3 : v < 0 := by rcases hv with rfl | rfl <;> decide
    refine bdI e ?_
    try dsimp only
    rw [e2, if_pos rfl, if_pos v1]
    unfold jL_acts_27
    try dsimp only
    rw [Int32.add_zero, if_pos rfl, if_neg v2]
    unfold jL_acts_28
    try dsimp only
    rw [Int32.add_zero, if_pos rfl, if_pos v3]
    unfold jL_acts_30 jL_acts_29
    try dsimp only
    rw [Int32.add_zero, if_pos rfl]
    exact hK a h (ActR.same a)
  rcases rim_cases hj with q | ⟨r, hr, hjr, er⟩
  · have eix : ix (hR j) 40 = none := by
      rcases q with q | q
      · rw [q]; exact ix_m1
      · rw [q]; exact ix_ge (Nat.le_refl _) (by omega)
    exact none_ (-1) (Or.inl rfl) (by (unfold goA; rw [eix] <;> rfl)) (ifg_no (Or.inr eix))
  · have eg : goA a.1 (hR j) = if (at_ a.1 (rimC r)).isSome then (-2, none) else (ansW (wlk a.1 (rimC r)), some (setM a.1 (wlk a.1 (rimC r)))) := by
      rw [er]
      unfold goA
      rw [ix_nI hr (by omega)] <;> rfl
    have ei : ifgA a.1 (hR j) 0 = if (at_ a.1 (rimC r)).isSome then -2 else ansW (wlk a.1 (rimC r)) := by
      rw [er]
      exact (ifg_ok (j := 0) hr (by omega)).trans rfl
    cases ha : at_ a.1 (rimC r) with
    | some g =>
      rw [ha, if_pos (show (some g : Option Nat).isSome = true from rfl)] at eg ei
      exact none_ (-2) (Or.inr rfl) eg ei
    | none =>
      rw [ha, if_neg (show ¬ (none : Option Nat).isSome = true by decide)] at eg ei
      have hz := wlk_ok w (rimC_lt r hr) ha
      have hs2 : mS a.1 1 ≤ 200 := w.2.2.2.2.2.2.1.2
      have hst := hz.2.2.2.1
      have hcell := hz.1
      have hb := h.go (hR j)
      rw [show chA a (goA a.1 (hR j)) = (ansW (wlk a.1 (rimC r)), (setM a.1 (wlk a.1 (rimC r)), recA a.2.1 a.1, a.2.2)) by rw [eg]; rfl] at hb ⊢
      have hfin := hK _ hb (ActR.rec_ a _)
      refine bdI rfl ?_
      try dsimp only
      rw [ei, if_pos rfl]
      unfold ansW setM
      unfold setM at hfin
      cases hg : (wlk a.1 (rimC r)).2.2.2.2 with
      | none =>
        rw [hg] at hfin
        try dsimp only at hfin ⊢
        rw [if_pos (show nI (wlk a.1 (rimC r)).2.1 < 1000 from i_plt (b := 1000) (by omega) (by omega))]
        unfold jL_acts_27
        try dsimp only
        rw [cot_0, cot_0, Int32.add_zero, if_pos (show nI (mN (cntM (lotM a.1 (wlk a.1 (rimC r)).2.2.2.1) (mR a.1 + 1) (mT a.1 + 1) (mA a.1) (mK a.1 + nI (wlk a.1 (rimC r)).2.1))) = nI (mN a.1) from rfl), if_pos (i_pz (by omega))]
        unfold jL_acts_28
        try dsimp only
        rw [cot_7, cot_7, if_pos (show mR (cntM (lotM a.1 (wlk a.1 (rimC r)).2.2.2.1) (mR a.1 + 1) (mT a.1 + 1) (mA a.1) (mK a.1 + nI (wlk a.1 (rimC r)).2.1)) = mR a.1 + 1 from rfl), if_neg (i_nz (by omega)), if_pos (show nI (wlk a.1 (rimC r)).2.1 < 1000 from i_plt (b := 1000) (by omega) (by omega))]
        unfold jL_acts_29
        try dsimp only
        rw [cot_8, cot_8, if_pos (show mT (cntM (lotM a.1 (wlk a.1 (rimC r)).2.2.2.1) (mR a.1 + 1) (mT a.1 + 1) (mA a.1) (mK a.1 + nI (wlk a.1 (rimC r)).2.1)) = mT a.1 + 1 from rfl)]
        exact hfin
      | some g =>
        rw [hg] at hfin
        try dsimp only at hfin ⊢
        rw [if_neg (show ¬ nI (1000 + (wlk a.1 (rimC r)).1) < 1000 from i_nlt (b := 1000) (by omega) (by omega))]
        unfold jL_acts_27
        try dsimp only
        rw [cot_0, cot_0, if_pos (show nI (mN (addM (cntM (lotM a.1 (wlk a.1 (rimC r)).2.2.2.1) (mR a.1 + 1) (mT a.1) (mA a.1) (mK a.1 + nI (wlk a.1 (rimC r)).2.1)) (wlk a.1 (rimC r)).1 (g + 1) (nI (wlk a.1 (rimC r)).2.1))) = nI (mN a.1) + 1 from (i_inc _).symm), if_pos (i_pz (by omega))]
        unfold jL_acts_28
        try dsimp only
        rw [cot_7, cot_7, if_pos (show mR (addM (cntM (lotM a.1 (wlk a.1 (rimC r)).2.2.2.1) (mR a.1 + 1) (mT a.1) (mA a.1) (mK a.1 + nI (wlk a.1 (rimC r)).2.1)) (wlk a.1 (rimC r)).1 (g + 1) (nI (wlk a.1 (rimC r)).2.1)) = mR a.1 + 1 from rfl), if_neg (i_nz (by omega)), if_neg (show ¬ nI (1000 + (wlk a.1 (rimC r)).1) < 1000 from i_nlt (b := 1000) (by omega) (by omega))]
        unfold jL_acts_30 jL_acts_29
        try dsimp only
        rw [cot_8, cot_8, Int32.add_zero, if_pos (show mT (addM (cntM (lotM a.1 (wlk a.1 (rimC r)).2.2.2.1) (mR a.1 + 1) (mT a.1) (mA a.1) (mK a.1 + nI (wlk a.1 (rimC r)).2.1)) (wlk a.1 (rimC r)).1 (g + 1) (nI (wlk a.1 (rimC r)).2.1)) = mT a.1 from rfl)]
        exact hfin
theorem setM_n (M : GM) (z : Nat × Nat × Nat × Nat × Option Nat) : mN (setM M z) = mN M + (if z.2.2.2.2.isSome then 1 else 0) ∧ mR (setM M z) = mR M + 1 := by
  unfold setM
  cases z.2.2.2.2 <;> exact ⟨rfl, rfl⟩
theorem lot_n (M : GM) (L : Nat) : mN (lotM M L) = mN M ∧ mR (lotM M L) = mR M := ⟨rfl, rfl⟩
theorem rn_n (M : GM) : mN (rnM M) = mN M + (if rnS M then 1 else 0) ∧ mR (rnM M) = mR M + 1 := by
  unfold rnM rnS
  generalize nxl (mL M) = L
  generalize rnR M = r
  generalize wlk (lotM M L) r = z
  cases at_ M r with
  | some g => exact ⟨rfl, rfl⟩
  | none =>
    obtain ⟨e1, e2⟩ := setM_n (lotM M L) z
    rw [(lot_n M L).1] at e1
    rw [(lot_n M L).2] at e2
    exact ⟨e1, e2⟩
theorem rnF_n (M : GM) : ∀ m, (rnF M m).1 ≤ m ∧ mN (rnF M m).2 = mN M + (rnF M m).1 ∧ mR (rnF M m).2 = mR M + nI m
  | 0 => ⟨Nat.le_refl _, rfl, (Int32.add_zero _).symm⟩
  | m + 1 => by
    obtain ⟨h1, h2, h3⟩ := rnF_n M m
    obtain ⟨k1, k2⟩ := rn_n (rnF M m).2
    refine ⟨?_, ?_, ?_⟩
    · show (rnF M m).1 + (if rnS (rnF M m).2 then 1 else 0) ≤ m + 1
      split <;> omega
    · show mN (rnM (rnF M m).2) = mN M + ((rnF M m).1 + (if rnS (rnF M m).2 then 1 else 0))
      rw [k1, h2, Nat.add_assoc]
    · show mR (rnM (rnF M m).2) = _
      rw [k2, h3, Int32.add_assoc, i_inc]
theorem act_rain {a : AS} (h : IA a) {i2 : Int32} {K : Int32 → AS → Prop} (hK : ∀ b, IA b → ActR a b → K 1 b) : (if (lwA28 i2 22) = 0 then jL_acts_26 i2 a K else (if (lwA28 i2 22) = 21 then jL_acts_26 i2 a K else jL_acts_24 i2 a K 0)) := by
  obtain ⟨m, hm, em⟩ := low_ok i2 (n := 22) (by omega) (by omega)
  have em : lwA28 i2 22 = nI m := em
  have bad : (m = 0 ∨ m = 21) → jL_acts_26 i2 a K := fun z => by
    unfold jL_acts_26 jL_acts_24
    rw [em]
    have e : rainA a.1 (nI m) = (-1, none) := by
      unfold rainA
      rcases z with rfl | rfl
      · rw [ix_nI (by omega) (by omega)] <;> rfl
      · rw [ix_ge (Nat.le_refl _) (by omega)] <;> rfl
    refine bdI (o := (-1, a)) (by rw [e]; rfl) ?_
    try dsimp only
    rw [if_neg (show ¬ (1 : Int32) = 0 by decide), if_pos rfl, if_pos rfl]
    exact hK a h (ActR.same a)
  rw [em]
  by_cases q1 : m = 0
  · rw [if_pos (show nI m = 0 from congrArg nI q1)]
    exact bad (Or.inl q1)
  · rw [if_neg (show ¬ nI m = 0 from fun z => q1 ((i_eq (b := 0) (by omega) (by omega)).mp z))]
    by_cases q2 : m = 21
    · rw [if_pos (show nI m = 21 from congrArg nI q2)]
      exact bad (Or.inr q2)
    · rw [if_neg (show ¬ nI m = 21 from fun z => q2 ((i_eq (b := 21) (by omega) (by omega)).mp z))]
      obtain ⟨f1, f2, f3⟩ := rnF_n a.1 m
      have e : rainA a.1 (nI m) = (nI (rnF a.1 m).1, some (rnF a.1 m).2) := by
        unfold rainA
        rw [ix_nI (by omega) (by omega)]
        exact if_neg q1
      have hb := h.rain (nI m)
      have ec : chA a (rainA a.1 (nI m)) = (nI (rnF a.1 m).1, ((rnF a.1 m).2, recA a.2.1 a.1, a.2.2)) := by rw [e]; rfl
      rw [ec] at hb
      unfold jL_acts_24
      rw [em]
      refine bdI ec ?_
      try dsimp only
      rw [if_pos rfl, if_neg (i_nz (by omega)), if_neg (show ¬ nI m < nI (rnF a.1 m).1 from i_nlt f1 (by omega)), cot_0, cot_0, if_pos (show nI (mN (rnF a.1 m).2) = nI (mN a.1) + nI (rnF a.1 m).1 by rw [f2, i_add]), cot_7, cot_7, if_pos f3]
      exact hK _ hb (ActR.rec_ a _)
theorem drp_cnt {M : GM} (fl : Nat → Bool) : mN M - rk fl (mN M) = cnt fl (mN M) := by
  have h := cnt_not (p := fl) (mN M)
  show mN M - cnt (fun g => !fl g) (mN M) = _
  omega
theorem act_break {a : AS} (h : IA a) {i2 : Int32} {K : Int32 → AS → Prop} (hK : ∀ b, IA b → ActR a b → K 1 b) : (¬ ((cotA a 0) + 1) = 0 ∧ (if (lwA28 i2 (((cotA a 0) + 1))) = (cotA a 0) then jL_acts_18 i2 a K 0 else jL_acts_18 i2 a K ((grnA a.1 ((lwA28 i2 (((cotA a 0) + 1)))) 4)))) := by
  have w := h.wf
  have h1 := h.n1
  obtain ⟨g, hg, eg⟩ := low_ok i2 (n := mN a.1 + 1) (by omega) (by omega)
  have eN : nI (mN a.1) + 1 = nI (mN a.1 + 1) := i_inc _
  have noch : ∀ v : Int32, (v = -1 ∨ v = -2) → jL_acts_20 a K (v, a) v := fun v hv => by
    have v2 : ¬ 0 ≤ v := by rcases hv with rfl | rfl <;> decide
    unfold jL_acts_20
    try dsimp only
    rw [if_pos rfl, if_neg v2]
    unfold jL_acts_21
    try dsimp only
    rw [Int32.sub_zero, if_pos rfl, if_neg v2]
    unfold jL_acts_22
    try dsimp only
    rw [Int32.add_zero, if_pos rfl]
    exact hK a h (ActR.same a)
  rw [cot_0, eN]
  refine ⟨fun z => by have := (i_eq (b := 0) (by omega) (by omega)).mp z; omega, ?_⟩
  rw [eg]
  by_cases q1 : g = mN a.1
  · rw [if_pos (by rw [q1])]
    have e : brkA a.1 (nI g) = (-1, none) := by
      unfold brkA
      rw [q1, ix_ge (Nat.le_refl _) (by omega)] <;> rfl
    unfold jL_acts_18
    rw [cot_0, eN, eg, if_pos (i_ple (by omega) (by omega))]
    unfold jL_acts_23 jL_acts_19
    rw [cot_0, eN, eg]
    refine bdI (o := (-1, a)) (by rw [e]; rfl) ?_
    try dsimp only
    rw [if_pos (by rw [q1])]
    exact noch (-1) (Or.inl rfl)
  · have hgn : g < mN a.1 := by omega
    have hh := w.h hgn
    rw [if_neg (fun z => q1 ((i_eq (by omega) (by omega)).mp z)), grn_4 hgn h1]
    unfold jL_acts_18
    rw [cot_0, eN, eg, if_neg (i_nle hgn (by omega)), grn_1 hgn h1]
    by_cases q2 : mH a.1 g = 0
    · have e : brkA a.1 (nI g) = (-2, none) := by
        unfold brkA
        rw [ix_nI hgn (by omega)]
        exact if_pos q2
      rw [if_pos ((hI_n4 (by omega)).mpr q2)]
      unfold jL_acts_19
      rw [cot_0, eN, eg]
      refine bdI (o := (-2, a)) (by rw [e]; rfl) ?_
      try dsimp only
      rw [if_neg (fun z => q1 ((i_eq (by omega) (by omega)).mp z)), if_neg (show ¬ (1 : Int32) = 0 by decide)]
      exact noch (-2) (Or.inr rfl)
    · have e : brkA a.1 (nI g) = (nI (mN a.1 - rk (inT a.1 g) (mN a.1)), some (drpM a.1 (inT a.1 g))) := by
        unfold brkA
        rw [ix_nI hgn (by omega)]
        exact if_neg q2
      have hs : mN a.1 - rk (inT a.1 g) (mN a.1) = siz a.1 g := drp_cnt _
      have hrk := rk_le (inT a.1 g) (mN a.1)
      have hb := h.breakOff (nI g)
      have ec : chA a (brkA a.1 (nI g)) = (nI (siz a.1 g), (drpM a.1 (inT a.1 g), recA a.2.1 a.1, a.2.2)) := by rw [e, hs]; rfl
      rw [ec] at hb
      have hsz : siz a.1 g ≤ mN a.1 := cnt_le _ _
      rw [if_neg (fun z => q2 ((hI_n4 (by omega)).mp z))]
      unfold jL_acts_23 jL_acts_19
      rw [cot_0, eN, eg]
      refine bdI ec ?_
      try dsimp only
      rw [if_neg (fun z => q1 ((i_eq (by omega) (by omega)).mp z)), if_pos rfl]
      unfold jL_acts_20
      try dsimp only
      rw [if_pos rfl, if_pos (i_pz (by omega))]
      unfold jL_acts_21
      try dsimp only
      rw [cot_0, cot_0, i_sub hsz, if_pos (show nI (mN (drpM a.1 (inT a.1 g))) = nI (mN a.1 - siz a.1 g) by
        rw [show mN (drpM a.1 (inT a.1 g)) = rk (inT a.1 g) (mN a.1) from rfl, show mN a.1 - siz a.1 g = rk (inT a.1 g) (mN a.1) by omega]), if_pos (i_pz (by omega))]
      unfold jL_acts_22
      try dsimp only
      rw [cot_9, cot_9, if_pos (show mA (drpM a.1 (inT a.1 g)) = mA a.1 + nI (siz a.1 g) by
        rw [← hs]; rfl)]
      exact hK _ hb (ActR.rec_ a _)
theorem act_wash {a : AS} (h : IA a) {i2 : Int32} {K : Int32 → AS → Prop} (hK : ∀ b, IA b → ActR a b → K 1 b) : (if (lwA28 i2 3) ≤ 0 then (bd (chA a (wshA a.1)) fun o466 => jL_acts_17 a K o466.1 o466.2) else jL_acts_17 a K 0 a) := by
  have w := h.wf
  have h1 := h.n1
  by_cases q : lwA28 i2 3 ≤ 0
  · rw [if_pos q]
    have hb := h.wash
    have hs : mN a.1 - rk (tip a.1) (mN a.1) = cnt (tip a.1) (mN a.1) := drp_cnt _
    have hrk := rk_le (tip a.1) (mN a.1)
    have ec : chA a (wshA a.1) = (nI (cnt (tip a.1) (mN a.1)), (drpM a.1 (tip a.1), recA a.2.1 a.1, a.2.2)) := by unfold wshA; rw [hs]; rfl
    rw [ec] at hb
    have hle : cnt (tip a.1) (mN a.1) ≤ knd a.1 2 := cnt_mono (fun i _ hi => by
      unfold tip at hi
      unfold kndB
      rw [if_neg (by decide), if_pos rfl]
      rw [Bool.and_eq_true] at hi
      exact hi.2)
    have hk2 : knd a.1 2 ≤ mN a.1 := cnt_le _ _
    have hk : knd (drpM a.1 (tip a.1)) 1 = knd a.1 1 := knd1_drp w (tip_cl w) (fun g hg q => by
      unfold tip
      rw [decide_eq_false (show ¬ mH a.1 g ≠ 0 by omega)]; rfl)
    refine bdI ec ?_
    unfold jL_acts_17
    try dsimp only
    rw [if_neg (i_nz (by omega)), cot_2, if_neg (show ¬ nI (knd a.1 2) < nI (cnt (tip a.1) (mN a.1)) from i_nlt hle (by omega)), cot_0, cot_0, i_sub (by omega), if_pos (show nI (mN (drpM a.1 (tip a.1))) = nI (mN a.1 - cnt (tip a.1) (mN a.1)) by
      rw [show mN (drpM a.1 (tip a.1)) = rk (tip a.1) (mN a.1) from rfl, show mN a.1 - cnt (tip a.1) (mN a.1) = rk (tip a.1) (mN a.1) by omega]), cot_1, cot_1, if_pos (by rw [show knd (drpM a.1 (tip a.1)) 1 = knd a.1 1 from hk])]
    exact hK _ hb (ActR.rec_ a _)
  · rw [if_neg q]
    have hk2 : knd a.1 2 ≤ mN a.1 := cnt_le _ _
    unfold jL_acts_17
    rw [if_neg (show ¬ (0 : Int32) < 0 by decide), cot_2, if_neg (i_nz (by omega)), Int32.sub_zero, if_pos rfl, if_pos rfl]
    exact hK a h (ActR.same a)
theorem act_lot {a : AS} (h : IA a) {i2 : Int32} {K : Int32 → AS → Prop} (hK : ∀ b, IA b → ActR a b → K 1 b) : (if ((lwA28 i2 10002) - 1) < 0 then jL_acts_16 i2 a K else (if ((lwA28 i2 10002) - 1) = 10000 then jL_acts_16 i2 a K else jL_acts_13 i2 a K 0)) := by
  obtain ⟨j, hj, ej⟩ := low_ok i2 (n := 10002) (by omega) (by omega)
  have ej : lwA28 i2 10002 = nI j := ej
  have eR : nI j - 1 = hR j := hR_of (by omega)
  have bad : ix (hR j) 10000 = none → jL_acts_16 i2 a K := fun z => by
    have e : lotA a.1 (hR j) = (-1, none) := by (unfold lotA; rw [z] <;> rfl)
    unfold jL_acts_16 jL_acts_13
    rw [ej, eR]
    refine bdI (o := (-1, a)) (by rw [e]; rfl) ?_
    try dsimp only
    rw [if_neg (show ¬ (1 : Int32) = 0 by decide)]
    unfold jL_acts_14
    try dsimp only
    rw [if_pos rfl, if_neg (show ¬ (1 : Int32) = 0 by decide)]
    unfold jL_acts_15
    try dsimp only
    rw [if_pos rfl]
    exact hK a h (ActR.same a)
  rw [ej, eR]
  by_cases q1 : j = 0
  · rw [if_pos (show hR j < 0 by rw [q1]; decide)]
    exact bad (by rw [q1]; exact ix_m1)
  · rw [hR_s q1, if_neg (i_nz (by omega))]
    by_cases q2 : j = 10001
    · rw [if_pos (show nI (j - 1) = 10000 from congrArg (fun x => nI (x - 1)) q2)]
      exact bad (by rw [q2]; exact ix_ge (j := 10000) (Nat.le_refl _) (by omega))
    · rw [if_neg (show ¬ nI (j - 1) = 10000 from fun z => q2 (by have := (i_eq (b := 10000) (by omega) (by omega)).mp z; omega))]
      have e : lotA a.1 (nI (j - 1)) = (nI (mL a.1), some (lotM a.1 (j - 1))) := by
        unfold lotA
        rw [ix_nI (by omega) (by omega)] <;> rfl
      have hb := h.lot (nI (j - 1))
      have ec : chA a (lotA a.1 (nI (j - 1))) = (nI (mL a.1), (lotM a.1 (j - 1), recA a.2.1 a.1, a.2.2)) := by rw [e]; rfl
      rw [ec] at hb
      unfold jL_acts_13
      rw [ej, eR, hR_s q1]
      refine bdI ec ?_
      try dsimp only
      rw [if_pos rfl]
      unfold jL_acts_14
      try dsimp only
      rw [cot_17, if_pos rfl, if_pos rfl]
      unfold jL_acts_15
      try dsimp only
      rw [cot_17, ej, eR, hR_s q1, if_pos (show nI (mL (lotM a.1 (j - 1))) = nI (j - 1) from rfl)]
      exact hK _ hb (ActR.rec_ a _)
theorem cot_set (a : AS) {k : Nat} (hk : k < 4) : cotA a (13 + nI k) = nI (mS a.1 k) := by
  rw [show (13 : Int32) + nI k = nI (13 + k) from i_add 13 k]
  rcases (show k = 0 ∨ k = 1 ∨ k = 2 ∨ k = 3 by omega) with rfl | rfl | rfl | rfl
  · exact cot_13 a
  · exact cot_14 a
  · exact cot_15 a
  · exact cot_16 a
theorem act_set {a : AS} (h : IA a) {i2 : Int32} {K : Int32 → AS → Prop} (hK : ∀ b, IA b → ActR a b → K 1 b) {Y : Nat} (hY : Y = 203 ∨ Y = 6) : jL_acts_4 i2 a K (nI Y) := by
  obtain ⟨k, hk, ek⟩ := low_ok i2 (n := 5) (by omega) (by omega)
  have ek : lwA28 i2 5 = nI k := ek
  obtain ⟨v, hv, ev⟩ := low_ok (i2 >>> (3 &&& 31)) (n := Y) (by omega) (by omega)
  have eV : nI v - 1 = hR v := hR_of (by omega)
  have bad : setA a.1 (nI k) (hR v) = (-1, none) → jL_acts_10 i2 a K (nI Y) := fun e => by
    have six : ∀ y6 : Int32, (k < 4 → y6 = nI (mS a.1 k)) → jL_acts_6 i2 a K (nI Y) 1 y6 := fun y6 e6 => by
      unfold jL_acts_6
      rw [ek, ev, eV]
      refine bdI (o := (-1, a)) (by rw [e]; rfl) ?_
      try dsimp only
      rw [if_neg (show ¬ (1 : Int32) = 0 by decide)]
      unfold jL_acts_7
      try dsimp only
      rw [if_pos rfl, ek]
      by_cases q : k = 4
      · rw [if_pos (show nI k = 4 from congrArg nI q)]
        exact hK a h (ActR.same a)
      · rw [if_neg (show ¬ nI k = 4 from fun z => q ((i_eq (b := 4) (by omega) (by omega)).mp z)), if_neg (show ¬ (1 : Int32) = 0 by decide)]
        unfold jL_acts_9
        try dsimp only
        rw [ek, cot_set a (by omega), e6 (by omega), if_pos rfl]
        exact hK a h (ActR.same a)
    unfold jL_acts_10 jL_acts_5
    rw [ek]
    by_cases q : k = 4
    · rw [if_pos (show nI k = 4 from congrArg nI q)]
      exact six 0 (fun z => absurd z (by omega))
    · rw [if_neg (show ¬ nI k = 4 from fun z => q ((i_eq (b := 4) (by omega) (by omega)).mp z)), cot_set a (by omega)]
      exact six _ (fun _ => rfl)
  have good : v ≠ 0 → okSet k (v - 1) → jL_acts_5 i2 a K (nI Y) 0 := fun hv0 ok => by
    have hk4 : k < 4 := by
      unfold okSet at ok
      omega
    have e := setA_ok (M := a.1) hk4 ok
    have hb := h.set (nI k) (nI (v - 1))
    have ec : chA a (setA a.1 (nI k) (nI (v - 1))) = (nI (mS a.1 k), (stgM a.1 k (v - 1), recA a.2.1 a.1, a.2.2)) := by rw [e]; rfl
    rw [ec] at hb
    have nk4 : ¬ nI k = 4 := fun z => by have := (i_eq (b := 4) (by omega) (by omega)).mp z; omega
    unfold jL_acts_5
    rw [ek, if_neg nk4, cot_set a hk4]
    unfold jL_acts_6
    rw [ek, ev, eV, hR_s hv0]
    refine bdI ec ?_
    try dsimp only
    rw [if_pos rfl]
    unfold jL_acts_7
    try dsimp only
    rw [if_pos rfl, ek, if_neg nk4, if_pos rfl, ev, eV, hR_s hv0]
    unfold jL_acts_9
    try dsimp only
    rw [ek, cot_set _ hk4, if_pos (show nI (mS (stgM a.1 k (v - 1)) k) = nI (v - 1) by rw [show mS (stgM a.1 k (v - 1)) k = v - 1 from un_s])]
    exact hK _ hb (ActR.rec_ a _)
  have nok : (v = 0 ∨ ¬ okSet k (v - 1)) → setA a.1 (nI k) (hR v) = (-1, none) := fun z => by
    by_cases q : v = 0
    · unfold setA
      rw [q, show hR 0 = -1 from rfl, ix_m1]
      cases ix (nI k) 4 <;> rfl
    · have ok : ¬ okSet k (v - 1) := z.resolve_left q
      rw [hR_s q]
      unfold setA
      by_cases q2 : v - 1 < 201
      · by_cases q3 : k < 4
        · rw [ix_nI q3 (by omega), ix_nI q2 (by omega)]
          exact if_neg ok
        · have z4 : ix (nI k) 4 = none := ix_ge (by omega) (by omega)
          cases z2 : ix (nI (v - 1)) 201 <;> rw [z4] <;> rfl
      · rw [ix_ge (show 201 ≤ v - 1 by omega) (by omega)]
        cases ix (nI k) 4 <;> rfl
  have twelve : ∀ y : Nat, y ≤ 200 → (v ≠ 0 → (v - 1 ≤ y ↔ okSet k (v - 1))) → (v = 0 → False) → jL_acts_12 i2 a K (nI Y) (nI y) := fun y hy he h0 => by
    have hv0 : v ≠ 0 := h0
    have he := he hv0
    unfold jL_acts_12
    rw [ev, eV, hR_s hv0]
    by_cases q : v - 1 ≤ y
    · rw [if_pos (i_ple q (by omega))]
      exact good hv0 (he.mp q)
    · rw [if_neg (i_nle (by omega) (by omega))]
      exact bad (nok (Or.inr (fun z => q (he.mpr z))))
  have eleven : ∀ lo : Nat, lo ≤ 10 → (k = 0 → lo = 1) → (k = 1 → lo = 10) → (2 ≤ k → lo = 0) → k ≠ 4 → jL_acts_11 i2 a K (nI Y) (nI lo) := fun lo hlo e0 e1 e2 k4 => by
    unfold jL_acts_11
    rw [ev, eV]
    by_cases q0 : v = 0
    · by_cases q1 : hR v < nI lo
      · rw [if_pos q1]
        exact bad (nok (Or.inl q0))
      · refine absurd ?_ q1
        rw [q0, show hR 0 = -1 from rfl]
        exact Int32.lt_of_lt_of_le (show (-1 : Int32) < 0 by decide) (i_pz (by omega))
    · rw [hR_s q0]
      by_cases q1 : v - 1 < lo
      · rw [if_pos (i_plt q1 (by omega))]
        refine bad (nok (Or.inr (fun z => ?_)))
        unfold okSet at z
        omega
      · rw [if_neg (i_nlt (by omega) (by omega)), ek]
        rcases (show k = 0 ∨ k = 1 ∨ k = 2 ∨ k = 3 by omega) with rfl | rfl | rfl | rfl
        · rw [if_neg (show ¬ nI 0 = 1 by decide), if_neg (show ¬ nI 0 = 3 by decide)]
          have := e0 rfl
          exact twelve 4 (by omega) (fun _ => by unfold okSet; omega) q0
        · rw [if_pos (show nI 1 = 1 from rfl)]
          have := e1 rfl
          exact twelve 200 (by omega) (fun _ => by unfold okSet; omega) q0
        · rw [if_neg (show ¬ nI 2 = 1 by decide), if_neg (show ¬ nI 2 = 3 by decide)]
          exact twelve 4 (by omega) (fun _ => by unfold okSet; omega) q0
        · rw [if_neg (show ¬ nI 3 = 1 by decide), if_pos (show nI 3 = 3 from rfl)]
          exact twelve 3 (by omega) (fun _ => by unfold okSet; omega) q0
  unfold jL_acts_4
  refine ⟨fun z => by have := (i_eq (b := 0) (by omega) (by omega)).mp z; omega, ?_⟩
  rw [ek]
  by_cases q4 : k = 4
  · rw [if_pos (show nI k = 4 from congrArg nI q4)]
    refine bad (nok (Or.inr (fun z => ?_)))
    unfold okSet at z
    omega
  · rw [if_neg (show ¬ nI k = 4 from fun z => q4 ((i_eq (b := 4) (by omega) (by omega)).mp z))]
    by_cases q0 : k = 0
    · rw [if_pos (show nI k = 0 from congrArg nI q0)]
      exact eleven 1 (by omega) (fun _ => rfl) (fun z => by omega) (fun z => by omega) q4
    · rw [if_neg (show ¬ nI k = 0 from fun z => q0 ((i_eq (b := 0) (by omega) (by omega)).mp z))]
      by_cases q1 : k = 1
      · rw [if_pos (show nI k = 1 from congrArg nI q1)]
        exact eleven 10 (by omega) (fun z => by omega) (fun _ => rfl) (fun z => by omega) q4
      · rw [if_neg (show ¬ nI k = 1 from fun z => q1 ((i_eq (b := 1) (by omega) (by omega)).mp z))]
        exact eleven 0 (by omega) (fun z => by omega) (fun z => by omega) (fun _ => rfl) q4
theorem plM_r {b : Nat} {M : GM} : ∀ n, (∀ g, g < mN (plM b M n) → mH (plM b M n) g = 0) ∧ mK (plM b M n) = 0 ∧ mL (plM b M n) = mL M ∧ mN (plM b M n) = cnt (rootC b) n
  | 0 => ⟨fun g hg => absurd hg (Nat.not_lt_zero _), rfl, rfl, rfl⟩
  | n + 1 => by
    obtain ⟨h1, h2, h3, h4⟩ := plM_r (b := b) (M := M) n
    rw [plM, cnt]
    by_cases q : rootC b n = true
    · rw [if_pos q, if_pos q]
      refine ⟨fun g hg => ?_, h2, h3, by rw [← h4]; rfl⟩
      have hg' : g < mN (plM b M n) + 1 := hg
      show un (mH (plM b M n)) (mN (plM b M n)) 0 g = 0
      by_cases qg : g = mN (plM b M n)
      · rw [qg, un_s]
      · rw [un_n qg]
        exact h1 g (by omega)
    · rw [if_neg q, if_neg q]
      exact ⟨h1, h2, h3, h4⟩
theorem root_cnt : cnt (rootC 0) 121 = 1 ∧ cnt (rootC 1) 121 = 11 ∧ cnt (rootC 2) 121 = 16 := by decide +kernel
theorem act_begin {a : AS} (h : IA a) {i2 : Int32} {K : Int32 → AS → Prop} (hK : ∀ b, IA b → ActR a b → K 1 b) : (if (lwA28 ((i2 >>> (3 &&& 31))) 2) = 0 then jL_acts_1 i2 a K 0 a else (bd (chA a (begA a.1 ((lwA28 i2 4)))) fun o836 => jL_acts_1 i2 a K o836.1 o836.2)) := by
  by_cases q : lwA28 (i2 >>> (3 &&& 31)) 2 = 0
  · rw [if_pos q]
    unfold jL_acts_1
    rw [if_pos q]
    exact hK a h (ActR.same a)
  · rw [if_neg q]
    obtain ⟨b, hb4, eb⟩ := low_ok i2 (n := 4) (by omega) (by omega)
    have eb : lwA28 i2 4 = nI b := eb
    rw [eb]
    by_cases q3 : b = 3
    · have e : begA a.1 (nI b) = (-1, none) := by
        unfold begA
        rw [q3, ix_ge (Nat.le_refl _) (by omega)] <;> rfl
      refine bdI (o := (-1, a)) (by rw [e]; rfl) ?_
      unfold jL_acts_1
      try dsimp only
      rw [if_neg q, eb, if_pos (show nI b = 3 from congrArg nI q3), if_pos rfl]
      exact hK a h (ActR.same a)
    · have hb3 : b < 3 := by omega
      have e : begA a.1 (nI b) = (nI (mN (begM b a.1)), some (begM b a.1)) := by
        unfold begA
        rw [ix_nI hb3 (by omega)] <;> rfl
      have hI := h.begin (nI b)
      have ec : chA a (begA a.1 (nI b)) = (nI (mN (begM b a.1)), (begM b a.1, recA a.2.1 a.1, a.2.2)) := by rw [e]; rfl
      rw [ec] at hI
      obtain ⟨r1, r2, r3, r4⟩ := plM_r (b := b) (M := a.1) 121
      obtain ⟨p1, p2, p3, p4, p5⟩ := plM_k (b := b) (M := a.1) 121
      have hl : lng (begM b a.1) = 0 := mxF_0 (fun i hi => by
        unfold wv
        rw [if_pos (show mH (begM b a.1) i = 0 from r1 i hi)])
      have three : ∀ y : Nat, mN (begM b a.1) = y → jL_acts_3 a K (nI (mN (begM b a.1))) (begM b a.1, recA a.2.1 a.1, a.2.2) (nI y) := fun y ey => by
        unfold jL_acts_3
        rw [if_pos (by rw [ey]), cot_0, if_pos rfl, cot_1, if_pos (show nI (knd (begM b a.1) 1) = nI (mN (begM b a.1)) by rw [show knd (begM b a.1) 1 = mN (begM b a.1) from p1]), cot_7, cot_8, cot_9, cot_10, show mR (begM b a.1) = 0 from p3, show mT (begM b a.1) = 0 from p4, show mA (begM b a.1) = 0 from p5, show mK (begM b a.1) = 0 from r2, if_pos (show (0 : Int32) + 0 + 0 + 0 = 0 by decide), cot_17, cot_17, show mL (begM b a.1) = mL a.1 from r3, if_pos rfl, lng_0, hl, if_pos (show nI 0 = 0 from rfl)]
        exact hK _ hI (ActR.rec_ a _)
      refine bdI ec ?_
      unfold jL_acts_1
      try dsimp only
      rw [if_neg q, eb, if_neg (show ¬ nI b = 3 from fun z => q3 ((i_eq (b := 3) (by omega) (by omega)).mp z))]
      have r4 : mN (begM b a.1) = cnt (rootC b) 121 := r4
      rcases (show b = 0 ∨ b = 1 ∨ b = 2 by omega) with rfl | rfl | rfl
      · rw [if_pos (show nI 0 = 0 from rfl)]
        exact three 1 (r4.trans root_cnt.1)
      · rw [if_neg (show ¬ nI 1 = 0 by decide), if_pos (show nI 1 = 1 from rfl)]
        exact three 11 (r4.trans root_cnt.2.1)
      · rw [if_neg (show ¬ nI 2 = 0 by decide), if_neg (show ¬ nI 2 = 1 by decide)]
        exact three 16 (r4.trans root_cnt.2.2)
