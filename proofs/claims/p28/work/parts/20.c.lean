/-! ===== looks ===== -/
theorem i_tri (x : Int32) {n : Nat} (hn : n + 1 < 2147483648) : (x < 0 ∨ nI (n + 1) ≤ x) ∨ ∃ j, j ≤ n ∧ x = nI j := by
  rcases i_any x (n := n + 1) hn with q | q | ⟨j, hj, rfl⟩
  · exact Or.inl (Or.inl q)
  · exact Or.inl (Or.inr q)
  · exact Or.inr ⟨j, by omega, rfl⟩
theorem s_ringl {S : GX4} {M : GM} (w : WF M) (h : RepS S M) {rg : Nat} (hr : rg < 6) : lp (tX7_ring_16 (nI rg) S) FU (0, 0) = some (nI (rng M rg)) := by
  have h1 := w.n1
  rw [i_0, lp_cnt (fun g => decide (ring (mC M g) = rg)) 0 (mN M) (by omega) (by omega) rfl]
  · rfl
  · intro k i _ hi _
    have hc := ring_le _ (w.c hi)
    unfold tX7_ring_16 jX7_ring_1
    rw [h.1]
    dsimp only
    rw [if_neg (i_nle hi (by omega)), s_cellOf w h hi]
    simp only [Option.bind_some]
    rw [p_ring _ (w.c hi)]
    simp only [Option.bind_some]
    rw [ifc (i_eq (by omega) (by omega))]
    by_cases q : ring (mC M i) = rg
    · rw [if_pos q, decide_eq_true q]
      show some (Sum.inl (nI k + 1, nI i + 1)) = _
      rw [i_inc, i_inc]; rfl
    · rw [if_neg q, decide_eq_false q]
      show some (Sum.inl (nI k, nI i + 1)) = _
      rw [i_inc]; rfl
  · intro k
    unfold tX7_ring_16
    rw [h.1]
    dsimp only
    rw [if_pos (i_ple (Nat.le_refl _) (by omega))]
theorem knd_2 {M : GM} : cnt (fun g => decide (0 ≤ chl M g) && decide (chl M g ≤ 0)) (mN M) = knd M 2 := cnt_ext (fun g hg => by
  show (decide (0 ≤ chl M g) && decide (chl M g ≤ 0)) = kndB M 2 g
  unfold kndB
  rw [if_neg (by omega), if_pos rfl, decide_eq_true (Nat.zero_le _), Bool.true_and]
  exact decide_eq_decide.mpr (by omega))
theorem knd_3 {M : GM} (g : Good M) : cnt (fun g => decide (2 ≤ chl M g) && decide (chl M g ≤ 4)) (mN M) = knd M 3 := cnt_ext (fun x hx => by
  have h4 := chl_le4 g.1 g.2.2 x
  show (decide (2 ≤ chl M x) && decide (chl M x ≤ 4)) = kndB M 3 x
  unfold kndB
  rw [if_neg (by omega), if_neg (by omega), decide_eq_true h4, Bool.and_true]
  exact decide_eq_decide.mpr (by omega))
/-! ===== history, snapshot ===== -/
theorem c_undo {g0 : GX7} {gn : GX4} {gh : GH} {j : Nat} (hj : j < 4) (h : pX7_states g0 = nI (j + 1)) : fX7_undo g0 gn gh = some (nI j, (nI j, g0.2), hs gh j) := by
  unfold fX7_undo
  rw [h, if_pos (show (1 : Int32) ≤ nI (j + 1) from i_ple (a := 1) (by omega) (by omega)), i_dec' (by omega), Nat.add_sub_cancel]
  rcases (show j = 0 ∨ j = 1 ∨ j = 2 ∨ j = 3 by omega) with rfl | rfl | rfl | rfl
  · rw [if_pos (show nI 0 = (0 : Int32) from rfl)]
    rfl
  · rw [if_neg (show ¬ nI 1 = (0 : Int32) by decide), if_pos (show nI 1 = (1 : Int32) from rfl)]
    rfl
  · rw [if_neg (show ¬ nI 2 = (0 : Int32) by decide), if_neg (show ¬ nI 2 = (1 : Int32) by decide), if_pos (show nI 2 = (2 : Int32) from rfl)]
    rfl
  · rw [if_neg (show ¬ nI 3 = (0 : Int32) by decide), if_neg (show ¬ nI 3 = (1 : Int32) by decide), if_neg (show ¬ nI 3 = (2 : Int32) by decide), if_pos (show nI 3 = (3 : Int32) from rfl)]
    rfl
/-! ===== the start ===== -/
def M00 : GM := (0, (fun _ => 0), (fun _ => 0), (fun _ => 0), 1, (fun k => if k = 0 then 4 else if k = 1 then 60 else if k = 2 then 0 else 2), 0, 0, 0, 0)
theorem WF.m00 : WF M00 := ⟨by decide, fun g hg => absurd hg (Nat.not_lt_zero _), fun g hg => absurd hg (Nat.not_lt_zero _), fun a b hg => absurd hg (Nat.not_lt_zero _), by decide, by decide, by decide, by decide, by decide⟩
