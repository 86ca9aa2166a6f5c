/-! ===== p28, pure: what the numbers of a good state agree on, kept by every change ===== -/
/-- a state that p28 speaks of: good, steps of walks, the numbers agree -/
def PS (M : GM) : Prop := ∀ g, g < mN M → ∃ k, k ≤ 200 ∧ mW M g = nI k ∧ (mH M g = 0 → k = 0)
def PI (M : GM) : Prop := nI (mN M) + (mT M + mA M) = mR M + nI (knd M 1)
def PM (M : GM) : Prop := Good M ∧ PS M ∧ PI M
theorem knd1_add {M : GM} {c h : Nat} {st : Int32} (h0 : h ≠ 0) : knd (addM M c h st) 1 = knd M 1 := by
  show cnt (kndB (addM M c h st) 1) (mN M + 1) = _
  rw [cnt_s]
  have e : kndB (addM M c h st) 1 (mN M) = false := by
    unfold kndB
    rw [if_pos rfl]
    show decide (un (mH M) (mN M) h (mN M) = 0) = false
    rw [un_s]
    exact decide_eq_false h0
  rw [e, if_neg (show ¬ false = true by decide)]
  show cnt _ (mN M) = cnt _ (mN M)
  refine cnt_ext (fun g hg => ?_)
  unfold kndB
  rw [if_pos rfl, if_pos rfl]
  show decide (un (mH M) (mN M) h g = 0) = _
  rw [un_n (by omega)]
theorem knd1_root {M : GM} {c : Nat} {st : Int32} : knd (addM M c 0 st) 1 = knd M 1 + 1 := by
  show cnt (kndB (addM M c 0 st) 1) (mN M + 1) = _
  rw [cnt_s]
  have e : kndB (addM M c 0 st) 1 (mN M) = true := by
    unfold kndB
    rw [if_pos rfl]
    show decide (un (mH M) (mN M) 0 (mN M) = 0) = true
    rw [un_s]
    exact decide_eq_true rfl
  rw [e, if_pos (show true = true from rfl)]
  show cnt _ (mN M) + 1 = cnt _ (mN M) + 1
  congr 1
  refine cnt_ext (fun g hg => ?_)
  unfold kndB
  rw [if_pos rfl, if_pos rfl]
  show decide (un (mH M) (mN M) 0 g = 0) = _
  rw [un_n (by omega)]
theorem PS.add {M : GM} (p : PS M) {c h k : Nat} (hk : k ≤ 200) (h0 : h = 0 → k = 0) : PS (addM M c h (nI k)) := fun g hg => by
  have hg' : g < mN M + 1 := hg
  show ∃ k', k' ≤ 200 ∧ un (mW M) (mN M) (nI k) g = nI k' ∧ (un (mH M) (mN M) h g = 0 → k' = 0)
  by_cases q : g = mN M
  · refine ⟨k, hk, ?_, ?_⟩
    · rw [q, un_s]
    · rw [q, un_s]; exact h0
  · rw [un_n q, un_n q]
    exact p g (by omega)
theorem PM.lot {M : GM} (p : PM M) {L : Nat} (hL : L < 10000) : PM (lotM M L) := ⟨p.1.lot hL, p.2.1, p.2.2⟩
theorem PM.stg {M : GM} (p : PM M) {k v : Nat} (hv : okSet k v) : PM (stgM M k v) := ⟨p.1.stg hv, p.2.1, p.2.2⟩
theorem i_swap (a b c d : Int32) (h : a + (b + c) = d) : a + 1 + (b + c) = d + 1 := by
  rw [← h, Int32.add_assoc, Int32.add_assoc, Int32.add_comm 1]
theorem i_r1 (a b : Int32) : a + 1 + b = a + b + 1 := by
  rw [Int32.add_assoc, Int32.add_comm 1, Int32.add_assoc]
theorem i_swap2 (a b c d : Int32) (h : a + (b + c) = d) : a + (b + 1 + c) = d + 1 := by
  rw [← h, i_r1 b c, ← Int32.add_assoc]
theorem PM.set {M : GM} (p : PM M) {z : Nat × Nat × Nat × Nat × Option Nat} (hz : okZ M z) : PM (setM M z) := by
  have h200 := p.1.1.2.2.2.2.2.2.1.2
  have hs := hz.2.2.2.1
  refine ⟨p.1.set hz, ?_⟩
  unfold setM
  cases e : z.2.2.2.2 with
  | none =>
    refine ⟨p.2.1, ?_⟩
    show nI (mN M) + (mT M + 1 + mA M) = mR M + 1 + nI (knd M 1)
    rw [i_swap2 _ _ _ _ p.2.2, i_r1]
  | some g =>
    refine ⟨PS.add (M := cntM (lotM M z.2.2.2.1) (mR M + 1) (mT M) (mA M) (mK M + nI z.2.1)) p.2.1 (by omega) (fun q => absurd q (Nat.succ_ne_zero g)), ?_⟩
    show nI (mN M + 1) + (mT M + mA M) = mR M + 1 + nI (knd (addM (cntM (lotM M z.2.2.2.1) (mR M + 1) (mT M) (mA M) (mK M + nI z.2.1)) z.1 (g + 1) (nI z.2.1)) 1)
    rw [knd1_add (Nat.succ_ne_zero g), ← i_inc, i_swap _ _ _ _ p.2.2, i_r1]
    rfl
theorem PM.lost {M : GM} (p : PM M) {L : Nat} (hL : L < 10000) : PM (cntM (lotM M L) (mR M + 1) (mT M + 1) (mA M) (mK M)) := by
  have g1 := p.lot hL
  refine ⟨g1.1.cnt, g1.2.1, ?_⟩
  show nI (mN M) + (mT M + 1 + mA M) = mR M + 1 + nI (knd M 1)
  rw [i_swap2 _ _ _ _ p.2.2, i_r1]
theorem PM.rn {M : GM} (p : PM M) : PM (rnM M) := by
  have hL := nxl_lt (mL M)
  have hl := p.lost hL
  have g1 := p.lot hL
  unfold rnM
  cases e : at_ M (rnR M) with
  | some g => exact hl
  | none => exact g1.set (wlk_ok g1.1.1 (rnR_lt M) ((at_lot M _ _).trans e))
theorem PM.rnF {M : GM} (p : PM M) : ∀ i, PM (rnF M i).2
  | 0 => p
  | i + 1 => (PM.rnF p i).rn
theorem PM.drp {M : GM} (p : PM M) {fl : Nat → Bool} (hc : Cl M fl) (hr : ∀ g, g < mN M → mH M g = 0 → fl g = false) : PM (drpM M fl) := by
  have hl := rk_le fl (mN M)
  have h0 := p.1.1.h p.1.2.1
  refine ⟨p.1.drp hc (hr 0 p.1.2.1 (by omega)), fun x hx => ?_, ?_⟩
  · obtain ⟨g, g1, g2, rfl⟩ := rk_of (show x < rk fl (mN M) from hx)
    have e := pk_lo (M := M) g2 g1
    show ∃ k, k ≤ 200 ∧ (pkF M fl (mN M)).2.2 (rk fl g) = nI k ∧ ((pkF M fl (mN M)).2.1 (rk fl g) = 0 → k = 0)
    rw [e.2.1, e.2.2]
    obtain ⟨k, k1, k2, k3⟩ := p.2.1 g g1
    refine ⟨k, k1, k2, fun z => k3 ?_⟩
    unfold nwH at z
    by_cases q : mH M g = 0
    · exact q
    · rw [if_neg q] at z; exact absurd z (Nat.succ_ne_zero _)
  · show nI (rk fl (mN M)) + (mT M + (mA M + nI (mN M - rk fl (mN M)))) = mR M + nI (knd (drpM M fl) 1)
    rw [knd1_drp p.1.1 hc hr]
    have e : nI (mN M) = nI (mN M - rk fl (mN M)) + nI (rk fl (mN M)) := by rw [i_add, show mN M - rk fl (mN M) + rk fl (mN M) = mN M by omega]
    have h2 := p.2.2
    unfold PI at h2
    rw [← h2, e]
    generalize nI (rk fl (mN M)) = a
    generalize nI (mN M - rk fl (mN M)) = b
    rw [← Int32.add_assoc (mT M), Int32.add_comm (mT M + mA M) b, ← Int32.add_assoc, Int32.add_comm a b]
theorem PM.brk {M : GM} (p : PM M) {t : Nat} (ht : t < mN M) (h0 : mH M t ≠ 0) : PM (drpM M (inT M t)) := by
  refine p.drp (inT_cl p.1.1) (fun g hg q => ?_)
  rw [inT_or p.1.1 hg, decide_eq_false (show ¬ mH M g ≠ 0 by omega), Bool.false_and, Bool.or_false]
  exact decide_eq_false (fun z => h0 (by rw [← z]; exact q))
theorem PM.wsh {M : GM} (p : PM M) : PM (drpM M (tip M)) := p.drp (tip_cl p.1.1) (fun g hg q => by
  unfold tip
  rw [decide_eq_false (show ¬ mH M g ≠ 0 by omega)]; rfl)
theorem plM_k {b : Nat} {M : GM} : ∀ n, knd (plM b M n) 1 = mN (plM b M n) ∧ PS (plM b M n) ∧ mR (plM b M n) = 0 ∧ mT (plM b M n) = 0 ∧ mA (plM b M n) = 0
  | 0 => ⟨rfl, fun g hg => absurd hg (Nat.not_lt_zero _), rfl, rfl, rfl⟩
  | n + 1 => by
    have ⟨h1, h2, h3⟩ := plM_k (b := b) (M := M) n
    rw [plM]
    by_cases q : rootC b n = true
    · rw [if_pos q]
      refine ⟨?_, PS.add (k := 0) h2 (by omega) (fun _ => rfl), h3⟩
      rw [knd1_root, h1]
      rfl
    · rw [if_neg q]
      exact ⟨h1, h2, h3⟩
theorem PM.beg {M : GM} (w : WF M) {b : Nat} (hb : b < 3) : PM (begM b M) := by
  have ⟨h1, h2, h3, h4, h5⟩ := plM_k (b := b) (M := M) 121
  refine ⟨Good.beg w hb, h2, ?_⟩
  show nI (mN (plM b M 121)) + (mT (plM b M 121) + mA (plM b M 121)) = mR (plM b M 121) + nI (knd (plM b M 121) 1)
  rw [h1, h3, h4, h5, show (0 : Int32) + 0 = 0 from by decide, Int32.add_comm]
