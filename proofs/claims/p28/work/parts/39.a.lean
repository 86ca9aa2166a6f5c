/-! ===== p28: the class's own test of a setting ===== -/
def inX (x lo hi : Int32) : Option Int32 := if x < lo then some 0 else (if hi < x then some 0 else some 1)
theorem inX_G (x : Int32) {a b : Nat} (hab : a ≤ b) (hb : b + 1 < 2147483648) : (∃ v, a ≤ v ∧ v ≤ b ∧ x = nI v ∧ inX x (nI a) (nI b) = some 1) ∨ inX x (nI a) (nI b) = some 0 := by
  rcases i_any x (n := b + 1) hb with q | q | ⟨j, hj, rfl⟩
  · refine Or.inr ?_
    unfold inX
    rw [if_pos (Int32.lt_of_lt_of_le q (i_pz (by omega)))]
  · refine Or.inr ?_
    have h := i_hi hb q
    unfold inX
    by_cases z : x < nI a
    · rw [if_pos z]
    · rw [if_neg z, if_pos h.2.2.1]
  · unfold inX
    by_cases q1 : j < a
    · rw [if_pos (i_plt q1 (by omega))]
      exact Or.inr rfl
    · rw [if_neg (show ¬ nI j < nI a from i_nlt (by omega) (by omega)), if_neg (show ¬ nI b < nI j from i_nlt (by omega) (by omega))]
      exact Or.inl ⟨j, by omega, by omega, rfl, rfl⟩
theorem b_set (a1 a2 : Int32) : (∃ (k v : Nat) (lo hi : Int32), k < 4 ∧ okSet k v ∧ a1 = nI k ∧ a2 = nI v ∧ fX7_isSettingValue a1 a2 = some 1 ∧ True) ∨ (fX7_isSettingValue a1 a2 = some 0 ∧ True) := by
  have out : (a1 < 0 ∨ nI (3 + 1) ≤ a1) → fX7_isSettingValue a1 a2 = some 0 := fun q => by
    unfold fX7_isSettingValue
    rw [if_neg (show ¬ a1 = (0 : Int32) from i_ne (j := 0) (by omega) q (by omega)), if_neg (show ¬ a1 = (1 : Int32) from i_ne (j := 1) (by omega) q (by omega)), if_neg (show ¬ a1 = (2 : Int32) from i_ne (j := 2) (by omega) q (by omega)), if_neg (show ¬ a1 = (3 : Int32) from i_ne (j := 3) (by omega) q (by omega))]
  rcases i_any a1 (n := 4) (by omega) with q | q | ⟨k, hk, rfl⟩
  · exact Or.inr ⟨out (Or.inl q), trivial⟩
  · exact Or.inr ⟨out (Or.inr q), trivial⟩
  · rcases (show k = 0 ∨ k = 1 ∨ k = 2 ∨ k = 3 by omega) with rfl | rfl | rfl | rfl
    · have s : fX7_isSettingValue (nI 0) a2 = inX a2 (nI 1) (nI 4) := by
        unfold fX7_isSettingValue
        rw [if_pos (show nI 0 = (0 : Int32) from rfl)]
        rfl
      rw [s]
      rcases inX_G a2 (a := 1) (b := 4) (by omega) (by omega) with ⟨v, h1, h2, rfl, e2⟩ | e2
      · exact Or.inl ⟨0, v, 0, 0, by omega, Or.inl ⟨rfl, h1, h2⟩, rfl, rfl, e2, trivial⟩
      · exact Or.inr ⟨e2, trivial⟩
    · have s : fX7_isSettingValue (nI 1) a2 = inX a2 (nI 10) (nI 200) := by
        unfold fX7_isSettingValue
        rw [if_neg (show ¬ nI 1 = (0 : Int32) by decide), if_pos (show nI 1 = (1 : Int32) from rfl)]
        rfl
      rw [s]
      rcases inX_G a2 (a := 10) (b := 200) (by omega) (by omega) with ⟨v, h1, h2, rfl, e2⟩ | e2
      · exact Or.inl ⟨1, v, 0, 0, by omega, Or.inr (Or.inl ⟨rfl, h1, h2⟩), rfl, rfl, e2, trivial⟩
      · exact Or.inr ⟨e2, trivial⟩
    · have s : fX7_isSettingValue (nI 2) a2 = inX a2 (nI 0) (nI 4) := by
        unfold fX7_isSettingValue
        rw [if_neg (show ¬ nI 2 = (0 : Int32) by decide), if_neg (show ¬ nI 2 = (1 : Int32) by decide), if_pos (show nI 2 = (2 : Int32) from rfl)]
        rfl
      rw [s]
      rcases inX_G a2 (a := 0) (b := 4) (by omega) (by omega) with ⟨v, h1, h2, rfl, e2⟩ | e2
      · exact Or.inl ⟨2, v, 0, 0, by omega, Or.inr (Or.inr (Or.inl ⟨rfl, h2⟩)), rfl, rfl, e2, trivial⟩
      · exact Or.inr ⟨e2, trivial⟩
    · have s : fX7_isSettingValue (nI 3) a2 = inX a2 (nI 0) (nI 3) := by
        unfold fX7_isSettingValue inX
        rw [if_neg (show ¬ nI 3 = (0 : Int32) by decide), if_neg (show ¬ nI 3 = (1 : Int32) by decide), if_neg (show ¬ nI 3 = (2 : Int32) by decide), if_pos (show nI 3 = (3 : Int32) from rfl), ifc (i_43 a2)]
        rfl
      rw [s]
      rcases inX_G a2 (a := 0) (b := 3) (by omega) (by omega) with ⟨v, h1, h2, rfl, e2⟩ | e2
      · exact Or.inl ⟨3, v, 0, 0, by omega, Or.inr (Or.inr (Or.inr ⟨rfl, h2⟩)), rfl, rfl, e2, trivial⟩
      · exact Or.inr ⟨e2, trivial⟩
