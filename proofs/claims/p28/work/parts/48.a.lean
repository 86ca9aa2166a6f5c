/-- what carryOut may answer, and the state behind it -/
def carP (a : AS) (t : Int32) (b : AS) : Prop := ((∃ s, fwT a.2.2.2.1.2 a.2.2.2.1.1 = some s) ∧ t = -2 ∧ b = a) ∨ (fwT a.2.2.2.1.2 a.2.2.2.1.1 = none ∧ ∃ M k y, t = nI k ∧ b = (M, recA a.2.1 a.1, a.2.2.1, (0, a.2.2.2.1.2), y) ∧ ((y = (0, a.2.2.2.2.2.1, a.2.2.2.2.2.2) ∧ k = cnt (sc a.2.2.2.1.2) a.2.2.2.1.1 + 1) ∨ (∃ e p, y = (e, nI k, nI p) ∧ (e = -1 ∨ e = -2) ∧ 2 * k ≤ p ∧ p < a.2.2.2.1.1 ∧ k ≤ cnt (sc a.2.2.2.1.2) a.2.2.2.1.1)))
theorem k_carryOut {V : GV} {a : AS} (h : RepA V a) : ∃ o b, fX7_carryOut V.1 V.2.1 V.2.2.2.2.1 V.2.2.2.2.2.1 V.2.2.2.2.2.2.1 V.2.2.2.2.2.2.2.2.2 = some o ∧ carP a o.1 b ∧ RepA (o.2.1, o.2.2.1, V.2.2.1, V.2.2.2.1, o.2.2.2.1, o.2.2.2.2.1, o.2.2.2.2.2.1, V.2.2.2.2.2.2.2.1, V.2.2.2.2.2.2.2.2.1, o.2.2.2.2.2.2) b := by
  obtain ⟨hM, hH, hK, hX, hY⟩ := id h
  unfold fX7_carryOut
  rw [s_firstWrong hX]
  simp only [Option.bind_some]
  have hl := hX.2.1
  have h4 : oI (fwT a.2.2.2.1.2 a.2.2.2.1.1) = -4 ↔ fwT a.2.2.2.1.2 a.2.2.2.1.1 = none := oI_n4 (fun k e => by
    have := fwA_le a.2.2.2.1.1 32 0 k e
    omega)
  cases ew : fwT a.2.2.2.1.2 a.2.2.2.1.1 with
  | some s =>
    rw [ew] at h4
    rw [if_neg (show ¬ oI (some s) = -4 from fun z => by have := h4.mp z; cases this)]
    exact ⟨_, a, rfl, Or.inl ⟨⟨s, ew⟩, rfl, rfl⟩, h⟩
  | none =>
    rw [if_pos (show oI none = -4 from rfl)]
    obtain ⟨st, gh', e2, hH'⟩ := k_record (gh := V.2.2.2.2.1) hM hH
    rw [e2]
    simp only [Option.bind_some]
    have es : fX1_startReading V.2.2.2.2.2.2.2.2.2 = some ((pX1_signs V.2.2.2.2.2.2.2.2.2), (pX1_length V.2.2.2.2.2.2.2.2.2), 0, (pX1_place V.2.2.2.2.2.2.2.2.2), (pX1_letter V.2.2.2.2.2.2.2.2.2), (pX1_number V.2.2.2.2.2.2.2.2.2)) := rfl
    rw [es]
    simp only [Option.bind_some]
    have hp : 0 < a.2.2.2.1.1 := by
      rcases Nat.eq_zero_or_pos a.2.2.2.1.1 with z | z
      · unfold fwT at ew
        rw [z, fwA, if_neg (by omega), if_pos rfl] at ew
        cases ew
      · exact z
    obtain ⟨o, M', k', a1, a2, a3, a4, a5⟩ := k_carry_go (c := a.2.2.2.1.2) (len := a.2.2.2.1.1) (a.2.2.2.1.1 + 1) 0 0 FU (st, V.1.2.1, 0, V.1.2.2.2) V.2.1 V.2.2.2.2.2.1 V.2.2.2.2.2.2.1 ((pX1_signs V.2.2.2.2.2.2.2.2.2), (pX1_length V.2.2.2.2.2.2.2.2.2), 0, (pX1_place V.2.2.2.2.2.2.2.2.2), (pX1_letter V.2.2.2.2.2.2.2.2.2), (pX1_number V.2.2.2.2.2.2.2.2.2)) a.1 hM.1 hM.2 hX rfl rfl (Or.inl ⟨hp, by rw [Nat.sub_zero]; exact ew, rfl⟩) (by omega) (by omega) (by rw [FU_eq]; omega)
    rw [show lp tX7_carryOut_33 FU (0, (st, V.1.2.1, 0, V.1.2.2.2.1, V.1.2.2.2.2), V.2.1, V.2.2.2.2.2.1, V.2.2.2.2.2.2.1, ((pX1_signs V.2.2.2.2.2.2.2.2.2), (pX1_length V.2.2.2.2.2.2.2.2.2), 0, (pX1_place V.2.2.2.2.2.2.2.2.2), (pX1_letter V.2.2.2.2.2.2.2.2.2), (pX1_number V.2.2.2.2.2.2.2.2.2))) = some o from a1]
    simp only [Option.bind_some]
    have hP0 : ∀ (P : GX1), RepP ((pX1_signs P), 0, (pX1_next P), (pX1_place P), (pX1_letter P), (pX1_number P)) a.2.2.2.1.2 0 := fun P => ⟨rfl, Nat.zero_le _, fun i hi => absurd hi (Nat.not_lt_zero _)⟩
    have hy : V.1.2.2.2 = a.2.2.2.2.2 := congrArg (fun x => x.2) hY
    rcases a5 with ⟨b1, b2⟩ | ⟨e, p, b1, b2, b3, b4, b5⟩
    · refine ⟨_, (M', recA a.2.1 a.1, a.2.2.1, (0, a.2.2.2.1.2), (0, a.2.2.2.2.2)), rfl, Or.inr ⟨ew, M', k', _, a2, rfl, Or.inl ⟨rfl, b2⟩⟩, ⟨a3, a4⟩, ?_, ?_, hP0 _, ?_⟩
      · show HA (pX7_states o.2.1) gh' _
        rw [b1]; exact hH'
      · show KA (pX7_saved o.2.1) _ _
        rw [b1]; exact hK
      · show o.2.1.2.2 = _
        rw [b1, hy]
    · refine ⟨_, (M', recA a.2.1 a.1, a.2.2.1, (0, a.2.2.2.1.2), (e, nI k', nI p)), rfl, Or.inr ⟨ew, M', k', _, a2, rfl, Or.inr ⟨e, p, rfl, b2, b3, b4, b5⟩⟩, ⟨a3, a4⟩, ?_, ?_, hP0 _, ?_⟩
      · show HA (pX7_states o.2.1) gh' _
        rw [b1]; exact hH'
      · show KA (pX7_saved o.2.1) _ _
        rw [b1]; exact hK
      · show o.2.1.2.2 = _
        rw [b1]
