/-! ===== p28: what a drop leaves ===== -/
theorem drp_mC {M : GM} {fl : Nat → Bool} {g : Nat} (hg : g < mN M) (hf : fl g = false) : mC (drpM M fl) (rk fl g) = mC M g := (pk_lo (M := M) hf hg).1
theorem drp_mH {M : GM} {fl : Nat → Bool} {g : Nat} (hg : g < mN M) (hf : fl g = false) : mH (drpM M fl) (rk fl g) = nwH M fl g := (pk_lo (M := M) hf hg).2.1
theorem reach_drp {M : GM} {fl : Nat → Bool} : reachM (drpM M fl) ≤ reachM M := by
  unfold reachM
  refine mxF_le (fun x hx => ?_)
  obtain ⟨g, g1, g2, rfl⟩ := rk_of (show x < rk fl (mN M) from hx)
  rw [drp_mC g1 g2]
  exact le_mxF (f := fun g => ring (mC M g)) g1
theorem dep_drp {M : GM} (w : WF M) {fl : Nat → Bool} (hc : Cl M fl) : ∀ (m g : Nat), g ≤ m → g < mN M → fl g = false → dep (drpM M fl) (rk fl g) = dep M g := by
  intro m
  induction m with
  | zero =>
    intro g h1 hg hf
    have hh := w.h hg
    have hx : rk fl g < mN (drpM M fl) := rk_lt (b := mN M) hg hf
    rw [dep_eq (w.drp hc) hx, drp_mH hg hf, dep_eq w hg]
    unfold nwH
    rw [if_pos (show mH M g = 0 by omega), if_pos rfl, if_pos (show mH M g = 0 by omega)]
  | succ m ih =>
    intro g h1 hg hf
    have hh := w.h hg
    have hx : rk fl g < mN (drpM M fl) := rk_lt (b := mN M) hg hf
    rw [dep_eq (w.drp hc) hx, drp_mH hg hf, dep_eq w hg]
    unfold nwH
    by_cases q : mH M g = 0
    · rw [if_pos q, if_pos rfl, if_pos q]
    · rw [if_neg q, if_neg (Nat.succ_ne_zero _), if_neg q, Nat.add_sub_cancel, ih (mH M g - 1) (by omega) (by omega) (hc g hg hf q)]
theorem dpt_drp {M : GM} (w : WF M) {fl : Nat → Bool} (hc : Cl M fl) : dpt (drpM M fl) ≤ dpt M := by
  unfold dpt
  refine mxF_le (fun x hx => ?_)
  obtain ⟨g, g1, g2, rfl⟩ := rk_of (show x < rk fl (mN M) from hx)
  rw [dep_drp w hc g g (Nat.le_refl _) g1 g2]
  exact le_mxF (f := dep M) g1
theorem rk_up (fl : Nat → Bool) (a : Nat) : ∀ (d : Nat), rk fl (a + d) ≤ rk fl a + d
  | 0 => Nat.le_refl _
  | d + 1 => by
    have ih := rk_up fl a d
    have e := rk_s fl (a + d)
    rw [← Nat.add_assoc]
    by_cases q : fl (a + d) = true
    · rw [if_pos q] at e; omega
    · rw [if_neg q] at e; omega
theorem rk_drop {fl : Nat → Bool} {t n : Nat} (ht : t < n) (hf : fl t = true) : rk fl n ≤ n - 1 := by
  have h1 := rk_up fl (t + 1) (n - (t + 1))
  rw [show t + 1 + (n - (t + 1)) = n by omega, rk_t hf] at h1
  have := rk_le fl t
  omega
theorem opn_le (M : GM) : opn M ≤ 40 := cnt_le _ 40
theorem bsd_pos {M : GM} {c g : Nat} (h : fgb M c = some g) : 0 < bsd M c := by
  have e := fgb_none (M := M) (c := c)
  rw [h] at e
  exact of_decide_eq_true e.symm
