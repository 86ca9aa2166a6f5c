/-! ===== p28: a text without a fault, deed by deed ===== -/
theorem num_ex {o : Nat} (ho : o = 103 ∨ o = 98) {c : Nat → Nat} {len : Nat} : ∀ (m q t : Nat), q + m = len → t ≤ mo o → fwA c len m o (t + 1) = none → ∃ n, q + n ≤ len ∧ (∀ i, i < n → 48 ≤ c (q + i) ∧ c (q + i) ≤ 57) ∧ (∀ j, j ≤ n → valF c q t j ≤ mo o) ∧ nxt c len (q + n) = none := by
  intro m
  induction m with
  | zero =>
    intro q t hq ht _
    refine ⟨0, by omega, fun i hi => absurd hi (Nat.not_lt_zero _), fun j hj => ?_, ?_⟩
    · rw [show j = 0 by omega]; exact ht
    · unfold nxt
      exact if_pos (show q + 0 = len by omega)
  | succ m ih =>
    intro q t hq ht h
    rw [fwA, show len - (m + 1) = q by omega, if_neg (show ¬ o = 32 by omega)] at h
    by_cases q1 : c q = 59
    · rw [if_pos q1, if_neg (show ¬ o = 119 by omega), if_neg (Nat.succ_ne_zero t), fwA_32] at h
      refine ⟨0, by omega, fun i hi => absurd hi (Nat.not_lt_zero _), fun j hj => ?_, ?_⟩
      · rw [show j = 0 by omega]; exact ht
      · unfold nxt
        rw [Nat.add_zero, if_neg (show ¬ q = len by omega), if_pos q1, show len - (q + 1) = m by omega]
        exact h
    · rw [if_neg q1] at h
      by_cases q2 : o = 119 ∨ c q < 48 ∨ 57 < c q ∨ t + 1 = 1
      · rw [if_pos q2] at h; cases h
      · rw [if_neg q2, if_neg (Nat.succ_ne_zero t), Nat.add_sub_cancel] at h
        by_cases q3 : 10 * t + (c q - 48) ≤ (if o = 103 then 39 else 120)
        · rw [if_pos q3] at h
          obtain ⟨n, n1, n2, n3, n4⟩ := ih (q + 1) (10 * t + (c q - 48)) (by omega) q3 h
          refine ⟨n + 1, by omega, fun i hi => ?_, fun j hj => ?_, ?_⟩
          · cases i with
            | zero => rw [Nat.add_zero]; omega
            | succ i =>
              rw [show q + (i + 1) = q + 1 + i by omega]
              exact n2 i (by omega)
          · cases j with
            | zero => exact ht
            | succ j => rw [valF_cons]; exact n3 j (by omega)
          · rw [show q + (n + 1) = q + 1 + n by omega]; exact n4
        · rw [if_neg q3] at h; cases h
theorem dd_ex {c : Nat → Nat} {len p : Nat} (hp : p < len) (h : fwA c len (len - p) 32 0 = none) : ∃ L n t, Dd c len p L n t ∧ nxt c len (p + 1 + n) = none := by
  obtain ⟨m, hm⟩ : ∃ m, len - p = m + 1 := ⟨len - p - 1, by omega⟩
  rw [hm, fwA, show len - (m + 1) = p by omega, if_pos rfl] at h
  by_cases q0 : c p = 103 ∨ c p = 98 ∨ c p = 119
  · rw [if_pos q0] at h
    by_cases q1 : c p = 119
    · refine ⟨119, 0, 0, ⟨hp, q1, by omega, Or.inl ⟨rfl, rfl⟩⟩, ?_⟩
      rw [q1] at h
      unfold nxt
      rw [Nat.add_zero]
      by_cases q2 : p + 1 = len
      · rw [if_pos q2]
      · rw [if_neg q2]
        obtain ⟨k, rfl⟩ : ∃ k, m = k + 1 := ⟨m - 1, by omega⟩
        rw [fwA, show len - (k + 1) = p + 1 by omega, if_neg (by omega)] at h
        by_cases q3 : c (p + 1) = 59
        · rw [if_pos q3, if_pos rfl] at h
          rw [if_pos q3, show len - (p + 1 + 1) = k by omega]
          exact h
        · rw [if_neg q3, if_pos (Or.inl rfl)] at h; cases h
    · have ho : c p = 103 ∨ c p = 98 := by omega
      cases m with
      | zero =>
        rw [fwA, if_neg q1, if_neg (by omega), if_pos rfl] at h; cases h
      | succ k =>
        rw [fwA, show len - (k + 1) = p + 1 by omega, if_neg (show ¬ c p = 32 by omega)] at h
        by_cases q3 : c (p + 1) = 59
        · rw [if_pos q3, if_neg q1, if_pos rfl] at h; cases h
        · rw [if_neg q3] at h
          by_cases q4 : c p = 119 ∨ c (p + 1) < 48 ∨ 57 < c (p + 1) ∨ 0 = 1
          · rw [if_pos q4] at h; cases h
          · rw [if_neg q4, if_pos rfl] at h
            by_cases q5 : c (p + 1) - 48 ≤ (if c p = 103 then 39 else 120)
            · rw [if_pos q5] at h
              obtain ⟨n, n1, n2, n3, n4⟩ := num_ex ho k (p + 1 + 1) (c (p + 1) - 48) (by omega) q5 h
              refine ⟨c p, n + 1, _, ⟨hp, rfl, by omega, Or.inr ⟨ho, Nat.succ_pos n, fun i hi => ?_, rfl, fun j hj => ?_⟩⟩, ?_⟩
              · cases i with
                | zero => rw [Nat.add_zero]; omega
                | succ i =>
                  rw [show p + 1 + (i + 1) = p + 1 + 1 + i by omega]
                  exact n2 i (by omega)
              · cases j with
                | zero => exact Nat.zero_le _
                | succ j =>
                  rw [valF_cons, Nat.mul_zero, Nat.zero_add]
                  exact n3 j (by omega)
              · rw [show p + 1 + (n + 1) = p + 1 + 1 + n by omega]; exact n4
            · rw [if_neg q5] at h; cases h
  · rw [if_neg q0] at h; cases h
/-- a deed: what it answers, what comes of it -/
def dedA (M : GM) (L : Nat) (x : Int32) : Int32 × Option GM := if L = 103 then goA M x else if L = 98 then brkA M x else wshA M
theorem k_deed {S : GX4} {M : GM} (pm : PM M) (h : RepS S M) (g0 : GX7) (K : GX6) (F : GX0) {L : Nat} {x : Int32} (hL : L = 103 ∨ L = 98 ∨ L = 119) : ∃ S' K' F', fX7_answerOfDeed (nI L) x g0 S K F = some ((dedA M L x).1, S', K', F') ∧ ((0 ≤ (dedA M L x).1 ∧ ∃ M', (dedA M L x).2 = some M' ∧ PM M' ∧ RepS S' M') ∨ (((dedA M L x).1 = -1 ∨ (dedA M L x).1 = -2) ∧ (dedA M L x).2 = none ∧ RepS S' M)) := by
  have g := pm.1
  have h1 := g.1.n1
  unfold fX7_answerOfDeed
  rcases hL with rfl | rfl | rfl
  · have ed : dedA M 103 x = goA M x := rfl
    rw [ed, if_neg (show ¬ nI 103 = (119 : Int32) by decide), if_pos (show nI 103 = (103 : Int32) from rfl)]
    unfold goA
    rcases ix_cases x (n := 40) (by omega) with ⟨r, hr, rfl, e⟩ | ⟨e, q⟩
    · rw [e, s_refGo g.1 h hr]
      simp only [Option.bind_some]
      cases ha : at_ M (rimC r) with
      | some y =>
        exact ⟨S, K, F, rfl, Or.inr ⟨Or.inr rfl, rfl, h⟩⟩
      | none =>
        obtain ⟨S', e3, r3⟩ := s_letWalk g.1 h hr ha g0 K
        have hz := wlk_ok g.1 (rimC_lt r hr) ha
        have h0 : ¬ (none : Option Nat).isSome = true := by decide
        rw [if_neg h0, if_neg h0]
        unfold jX7_answerOfDeed_1
        rw [if_pos (show (0 : Int32) = 0 from rfl), if_pos (show nI 103 = (103 : Int32) from rfl), e3]
        exact ⟨_, _, _, rfl, Or.inl ⟨ansW_nn g.1 hz, _, rfl, pm.set hz, r3⟩⟩
    · rw [e, k_refGo q]
      exact ⟨S, K, F, rfl, Or.inr ⟨Or.inl rfl, rfl, h⟩⟩
  · have ed : dedA M 98 x = brkA M x := rfl
    rw [ed, if_neg (show ¬ nI 98 = (119 : Int32) by decide), if_neg (show ¬ nI 98 = (103 : Int32) by decide)]
    unfold brkA
    rcases k_refBreak g h x with ⟨r, hr, rfl, e, er⟩ | ⟨e, er⟩
    · rw [e, er]
      by_cases q : mH M r = 0
      · simp only [if_pos q, Option.bind_some]
        exact ⟨S, K, F, rfl, Or.inr ⟨Or.inr trivial, trivial, h⟩⟩
      · obtain ⟨F', S', e3, r3⟩ := s_dropTree g.1 h hr F
        simp only [if_neg q, Option.bind_some]
        unfold jX7_answerOfDeed_1
        rw [if_pos (show (0 : Int32) = 0 from rfl), if_neg (show ¬ nI 98 = (103 : Int32) by decide), e3]
        exact ⟨_, _, _, rfl, Or.inl ⟨i_pz (by omega), _, rfl, pm.brk hr q, r3⟩⟩
    · rw [e, er]
      exact ⟨S, K, F, rfl, Or.inr ⟨Or.inl rfl, rfl, h⟩⟩
  · have ed : dedA M 119 x = wshA M := rfl
    obtain ⟨F', S', e3, r3⟩ := s_dropTips g.1 h F
    rw [ed, if_pos (show nI 119 = (119 : Int32) from rfl)]
    rw [e3]
    exact ⟨_, _, _, rfl, Or.inl ⟨i_pz (by omega), _, rfl, pm.wsh, r3⟩⟩
