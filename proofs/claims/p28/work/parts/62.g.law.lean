/-! ===== p28: the whole law ===== -/
theorem acts_run {a : AS} (h : IA a) {i1 i2 : Int32} {K : Int32 → AS → Prop} (hK : ∀ b, IA b → ActR a b → K 1 b) : gL_acts i1 i2 a K := by
  obtain ⟨k, hk, ek⟩ := low_ok i1 (n := 24) (by omega) (by omega)
  have ek : lwA28 i1 24 = nI k := ek
  unfold gL_acts
  rw [ek]
  by_cases q8 : 8 ≤ k
  · rw [if_pos (show (8 : Int32) ≤ nI k from i_ple (a := 8) q8 (by omega))]
    by_cases q12 : 12 ≤ k
    · rw [if_pos (show (12 : Int32) ≤ nI k from i_ple (a := 12) q12 (by omega))]
      by_cases e12 : k = 12
      · rw [if_pos (show nI k = 12 from congrArg nI e12)]
        exact act_break h hK
      · rw [if_neg (show ¬ nI k = 12 from fun z => e12 ((i_eq (b := 12) (by omega) (by omega)).mp z))]
        by_cases e13 : k = 13
        · rw [if_pos (show nI k = 13 from congrArg nI e13)]
          exact act_wash h hK
        · rw [if_neg (show ¬ nI k = 13 from fun z => e13 ((i_eq (b := 13) (by omega) (by omega)).mp z))]
          by_cases q16 : 16 ≤ k
          · rw [if_pos (show (16 : Int32) ≤ nI k from i_ple (a := 16) q16 (by omega))]
            by_cases q19 : 19 ≤ k
            · rw [if_pos (show (19 : Int32) ≤ nI k from i_ple (a := 19) q19 (by omega))]
              by_cases q23 : 23 ≤ k
              · rw [if_pos (show (23 : Int32) ≤ nI k from i_ple (a := 23) q23 (by omega))]
                exact act_begin h hK
              · rw [if_neg (show ¬ (23 : Int32) ≤ nI k from i_nle (a := 23) (by omega) (by omega))]
                exact carries_run h (fun b hb hr => ⟨Or.inr rfl, hK b hb hr⟩)
            · rw [if_neg (show ¬ (19 : Int32) ≤ nI k from i_nle (a := 19) (by omega) (by omega))]
              by_cases qz : lwA28 (i2 >>> (12 &&& 31)) 2 = 0
              · rw [if_pos qz]
                exact act_set h hK (Y := 203) (Or.inl rfl)
              · rw [if_neg qz]
                exact act_set h hK (Y := 6) (Or.inr rfl)
          · rw [if_neg (show ¬ (16 : Int32) ≤ nI k from i_nle (a := 16) (by omega) (by omega))]
            exact act_lot h hK
    · rw [if_neg (show ¬ (12 : Int32) ≤ nI k from i_nle (a := 12) (by omega) (by omega))]
      exact act_rain h hK
  · rw [if_neg (show ¬ (8 : Int32) ≤ nI k from i_nle (a := 8) (by omega) (by omega))]
    exact act_go h hK
/-- the loop's state: all is well so far, the digest of the snapshot is at hand -/
def LI28 (i : Nat) (s : Int32 × Int64 × Int32 × AS) : Prop := ∃ a M, s = (1, lookV (M, [], none, (0, fun _ => 0), (0, 0, 0)), nI i, a) ∧ IA a ∧ a.2.2.1 = some M
theorem lookM {a : AS} : lookV a = lookV (a.1, [], none, (0, fun _ => 0), (0, 0, 0)) := lookV_ext rfl
theorem law_5 {i : Nat} (hi : i < 46) {s : Int32 × Int64 × Int32 × AS} (hs : s.2.2.1 = nI i) {KB : (Int32 × Int64 × Int32 × AS) → Prop} (hk : ∀ s', LI28 (i + 1) s' → KB s') {b : AS} (hb : IA b) {M : GM} (hM : b.2.2.1 = some M) : jL_law_5 s KB 1 (lookV (M, [], none, (0, fun _ => 0), (0, 0, 0))) b := by
  have six : ∀ c : AS, IA c → c.2.2.1 = some M → jL_law_6 s KB (lookV (M, [], none, (0, fun _ => 0), (0, 0, 0))) 1 c := fun c hc hcM => by
    unfold jL_law_6
    rw [hs, i_inc]
    exact hk _ ⟨c, M, rfl, hc, hcM⟩
  unfold jL_law_5
  rw [if_neg (show ¬ (1 : Int32) = 0 by decide)]
  by_cases q : jrem s.2.2.1 11 = 10
  · rw [if_pos q]
    have hu := hb.undo
    have hlen := hb.len
    refine bdI rfl ?_
    try dsimp only
    have fin : ∀ y : Int32, (undA b).1 = y → jL_law_7 s KB (lookV (M, [], none, (0, fun _ => 0), (0, 0, 0))) (undA b) y := fun y ey => by
      unfold jL_law_7
      rw [if_pos ey]
      unfold jL_law_8
      refine six _ hu ?_
      unfold undA
      cases b.2.1.getLast? with
      | none => exact hM
      | some N => exact hM
    rw [cot_19]
    cases el : b.2.1.getLast? with
    | none =>
      have e0 : b.2.1 = [] := List.getLast?_eq_none_iff.mp el
      rw [if_pos (show nI b.2.1.length = 0 from congrArg (fun x : List GM => nI x.length) e0)]
      exact fin _ (by unfold undA; rw [el])
    | some N =>
      have hne : b.2.1.length ≠ 0 := fun z => by
        rw [List.length_eq_zero_iff.mp z] at el
        cases el
      rw [if_neg (show ¬ nI b.2.1.length = 0 from fun z => hne ((i_eq (b := 0) (by omega) (by omega)).mp z))]
      exact fin _ (by
        unfold undA
        rw [el]
        exact (i_sub (b := 1) (by omega)).symm)
  · rw [if_neg q]
    exact six b hb hM
theorem rec_last (l : List GM) (M : GM) : (recA l M).getLast? = some M := by
  unfold recA
  exact List.getLast?_concat
theorem law_4 {i : Nat} (hi : i < 46) {a0 : AS} {M0 : GM} {KB : (Int32 × Int64 × Int32 × AS) → Prop} (hk : ∀ s', LI28 (i + 1) s' → KB s') {b : AS} (hb : IA b) (hM : b.2.2.1 = some M0) : jL_law_4 (1, lookV (M0, [], none, (0, fun _ => 0), (0, 0, 0)), nI i, a0) KB 1 b := by
  unfold jL_law_4
  try dsimp only
  rw [if_neg (show ¬ (1 : Int32) = 0 by decide)]
  by_cases q : jrem (nI i) 15 = 14
  · rw [if_pos q]
    have hr := hb.restore
    have er : rstA b = (nI (mN M0), (M0, recA b.2.1 b.1, b.2.2)) := by
      unfold rstA
      rw [hM] <;> rfl
    rw [er] at hr
    refine bdI er ?_
    try dsimp only
    rw [cot_0, if_pos rfl]
    refine look_run hr.n1 ?_
    rw [lookM (a := (M0, recA b.2.1 b.1, b.2.2)), if_pos ((lg_cmp_eq _ _).mpr rfl)]
    have hl : (recA b.2.1 b.1).length = min b.2.1.length 3 + 1 := recA_len hb.len
    have hlen := hb.len
    have hu := hr.undo
    have eu : undA (M0, recA b.2.1 b.1, b.2.2) = (nI ((recA b.2.1 b.1).length - 1), (b.1, (recA b.2.1 b.1).dropLast, b.2.2)) := by
      unfold undA
      rw [rec_last] <;> rfl
    rw [eu] at hu
    refine bdI eu ?_
    try dsimp only
    rw [if_neg (i_nz (by omega))]
    have hsv := hu.save
    have es : savA (b.1, (recA b.2.1 b.1).dropLast, b.2.2) = (nI (mN b.1), (b.1, (recA b.2.1 b.1).dropLast, some b.1, b.2.2.2)) := rfl
    rw [es] at hsv
    refine bdI es ?_
    try dsimp only
    rw [cot_0, if_pos rfl]
    unfold jL_law_9
    refine look_run hsv.n1 ?_
    rw [lookM (a := (b.1, (recA b.2.1 b.1).dropLast, some b.1, b.2.2.2))]
    exact law_5 hi rfl hk hsv rfl
  · rw [if_neg q]
    exact law_5 hi rfl hk hb hM
theorem law_2 {L : Nat} {xs : Nat → Int32} {i : Nat} (hi : i < 46) {a0 : AS} (h0 : IA a0) {M0 : GM} {KB : (Int32 × Int64 × Int32 × AS) → Prop} (hk : ∀ s', LI28 (i + 1) s' → KB s') {b : AS} (hb : IA b) (hr : ActR a0 b) (hM : b.2.2.1 = some M0) : jL_law_2 L xs (1, lookV (M0, [], none, (0, fun _ => 0), (0, 0, 0)), nI i, a0) KB (lookV a0) b 1 := by
  have hlen := h0.len
  have hblen := hb.len
  have rl : b.2.1 = recA a0.2.1 a0.1 → b.2.1.length = min a0.2.1.length 3 + 1 := fun e => by rw [e]; exact recA_len hlen
  have three : jL_law_3 L xs (1, lookV (M0, [], none, (0, fun _ => 0), (0, 0, 0)), nI i, a0) KB (lookV a0) b 1 := by
    unfold jL_law_3
    try dsimp only
    rw [if_neg (show ¬ (1 : Int32) = 0 by decide), cot_19, cot_19, i_inc]
    have f4 := law_4 hi (a0 := a0) hk hb hM
    by_cases q : b.2.1.length = a0.2.1.length + 1
    · rw [if_pos (by rw [q])]
      by_cases ql : lwA28 (sctA L xs (2 * nI i + 1) >>> (8 &&& 31)) 3 = 0
      · rw [if_pos ql]
        have hu := hb.undo
        have erec : b.2.1 = recA a0.2.1 a0.1 := by
          rcases hr.1 with ⟨_, z⟩ | z
          · rw [z] at q; omega
          · exact z
        have eu : undA b = (nI (b.2.1.length - 1), (a0.1, b.2.1.dropLast, b.2.2)) := by
          unfold undA
          rw [erec, rec_last] <;> rfl
        rw [eu] at hu
        refine bdI eu ?_
        try dsimp only
        rw [if_pos (show nI (b.2.1.length - 1) = nI a0.2.1.length by rw [q, Nat.add_sub_cancel])]
        refine look_run hu.n1 ?_
        rw [lookV_ext (a := (a0.1, b.2.1.dropLast, b.2.2)) (b := a0) rfl, if_pos ((lg_cmp_eq _ _).mpr rfl)]
        unfold jL_law_11
        exact law_4 hi (a0 := a0) hk hu hM
      · rw [if_neg ql]
        exact f4
    · rw [if_neg (show ¬ nI b.2.1.length = nI (a0.2.1.length + 1) from fun z => q ((i_eq (by omega) (by omega)).mp z))]
      exact f4
  have four : jL_law_14 L xs (1, lookV (M0, [], none, (0, fun _ => 0), (0, 0, 0)), nI i, a0) KB (lookV a0) b := by
    unfold jL_law_14
    exact three
  have fifteen : b.2.1.length = a0.2.1.length + 1 → jL_law_15 L xs (1, lookV (M0, [], none, (0, fun _ => 0), (0, 0, 0)), nI i, a0) KB (lookV a0) b := fun q => by
    unfold jL_law_15
    try dsimp only
    rw [cot_19, cot_19, i_inc, if_pos (by rw [q])]
    exact four
  unfold jL_law_2
  try dsimp only
  rw [if_neg (show ¬ (1 : Int32) = 0 by decide), cot_19, cot_19]
  by_cases q : b.2.1.length = a0.2.1.length
  · rw [if_pos (by rw [q])]
    by_cases q4 : a0.2.1.length = 4
    · rw [if_pos (show nI a0.2.1.length = 4 from congrArg nI q4)]
      exact four
    · rw [if_neg (show ¬ nI a0.2.1.length = 4 from fun z => q4 ((i_eq (b := 4) (by omega) (by omega)).mp z))]
      have e1 : b.1 = a0.1 := by
        rcases hr.1 with ⟨z, _⟩ | z
        · exact z
        · have := rl z
          omega
      refine look_run hb.n1 ?_
      rw [lookV_ext (a := b) (b := a0) e1, if_pos ((lg_cmp_eq _ _).mpr rfl)]
      exact four
  · rw [if_neg (show ¬ nI b.2.1.length = nI a0.2.1.length from fun z => q ((i_eq (by omega) (by omega)).mp z))]
    refine fifteen ?_
    rcases hr.1 with ⟨_, z⟩ | z
    · rw [z] at q
      exact absurd rfl q
    · have := rl z
      omega
theorem law_run (L : Nat) (xs : Nat → Int32) {a : AS} (h : IA a) (hh : a.2.1 = []) (hs : a.2.2.1 = none) (hn : mN a.1 = 1) {K : Int32 → Prop} (hK : K 1) : gL_law L xs a K := by
  unfold gL_law
  refine holds_run h ?_
  rw [if_neg (show ¬ (1 : Int32) = 0 by decide)]
  refine would_run h 0 ?_
  rw [if_neg (show ¬ (1 : Int32) = 0 by decide)]
  have eu : undA a = (-2, a) := by
    unfold undA
    rw [hh] <;> rfl
  refine bdI eu ?_
  try dsimp only
  rw [if_pos rfl]
  have er : rstA a = (-2, a) := by
    unfold rstA
    rw [hs] <;> rfl
  refine bdI er ?_
  try dsimp only
  rw [if_pos rfl]
  have hsv := h.save
  have es : savA a = (nI (mN a.1), (a.1, a.2.1, some a.1, a.2.2.2)) := rfl
  rw [es] at hsv
  refine bdI es ?_
  try dsimp only
  rw [if_pos (show nI (mN a.1) = 1 from congrArg nI hn)]
  unfold jL_law_1
  refine look_run hsv.n1 ?_
  rw [lookM (a := (a.1, a.2.1, some a.1, a.2.2.2))]
  refine lpP_inv LI28 (fun o => ∃ b, o = (1, b) ∧ IA b) 46 ?_ ?_ ?_ FU 0 _ (by rw [FU_eq]; omega) (by omega) ⟨_, a.1, rfl, hsv, rfl⟩
  · intro i s KB KX hi hs' hk
    obtain ⟨c, M, rfl, hc, hM⟩ := hs'
    have e2 : (2 : Int32) * nI i = nI (2 * i) := i_mul 2 i
    unfold tL_law_63
    try dsimp only
    rw [if_neg (show ¬ (46 : Int32) ≤ nI i from i_nle (a := 46) hi (by omega)), if_neg (show ¬ (1 : Int32) = 0 by decide)]
    refine ⟨by rw [e2]; exact i_nz (by omega), by rw [e2, i_inc]; exact i_nz (by omega), ?_⟩
    refine look_run hc.n1 ?_
    refine acts_run hc (fun b hb hr => ?_)
    have hbM : b.2.2.1 = some M := hr.2.trans hM
    rw [if_neg (show ¬ (1 : Int32) = 0 by decide)]
    have two := law_2 (L := L) (xs := xs) hi hc hk hb hr hbM
    have ei : jL_law_18 L xs (1, lookV (M, [], none, (0, fun _ => 0), (0, 0, 0)), nI i, c) KB (lookV c) b := by
      unfold jL_law_18
      exact two
    have sev : jL_law_17 L xs (1, lookV (M, [], none, (0, fun _ => 0), (0, 0, 0)), nI i, c) KB (lookV c) b := by
      unfold jL_law_17
      try dsimp only
      by_cases q : jrem (nI i) 4 = 2
      · rw [if_pos q]
        refine would_run hb _ ?_
        rw [if_neg (show ¬ (1 : Int32) = 0 by decide)]
        exact ei
      · rw [if_neg q]
        exact ei
    by_cases q : (0 : Int32) < jrem (nI i) 3
    · rw [if_pos q]
      exact sev
    · rw [if_neg q]
      refine holds_run hb ?_
      rw [if_neg (show ¬ (1 : Int32) = 0 by decide)]
      exact sev
  · intro s KB KX hs' hk
    obtain ⟨c, M, rfl, hc, hM⟩ := hs'
    unfold tL_law_63
    try dsimp only
    rw [if_pos (show (46 : Int32) ≤ nI 46 from i_ple (a := 46) (Nat.le_refl _) (by omega))]
    exact hk _ ⟨c, rfl, hc⟩
  · intro o ho
    obtain ⟨b, rfl, hb⟩ := ho
    try dsimp only
    rw [if_neg (show ¬ (1 : Int32) = 0 by decide)]
    refine holds_run hb ?_
    rw [if_neg (show ¬ (1 : Int32) = 0 by decide)]
    exact hK
