/-! ===== settings ===== -/
def stgM (M : GM) (k v : Nat) : GM := (mN M, mC M, mH M, mW M, mL M, un (mS M) k v, mR M, mT M, mA M, mK M)
def okSet (k v : Nat) : Prop := (k = 0 ∧ 1 ≤ v ∧ v ≤ 4) ∨ (k = 1 ∧ 10 ≤ v ∧ v ≤ 200) ∨ (k = 2 ∧ v ≤ 4) ∨ (k = 3 ∧ v ≤ 3)
theorem Good.stg {M : GM} (h : Good M) {k v : Nat} (hv : okSet k v) : Good (stgM M k v) := by
  obtain ⟨w1, w2, w3, w4, w5, w6, w7, w8, w9⟩ := h.1
  refine ⟨⟨w1, w2, w3, w4, w5, ?_, ?_, ?_, ?_⟩, h.2.1, h.2.2⟩
  · show 1 ≤ un (mS M) k v 0 ∧ un (mS M) k v 0 ≤ 4
    by_cases q : 0 = k
    · subst q
      rw [un_s]
      unfold okSet at hv
      omega
    · rw [un_n q]; exact w6
  · show 10 ≤ un (mS M) k v 1 ∧ un (mS M) k v 1 ≤ 200
    by_cases q : 1 = k
    · subst q
      rw [un_s]
      unfold okSet at hv
      omega
    · rw [un_n q]; exact w7
  · show un (mS M) k v 2 ≤ 4
    by_cases q : 2 = k
    · subst q
      rw [un_s]
      unfold okSet at hv
      omega
    · rw [un_n q]; exact w8
  · show un (mS M) k v 3 ≤ 3
    by_cases q : 3 = k
    · subst q
      rw [un_s]
      unfold okSet at hv
      omega
    · rw [un_n q]; exact w9
theorem s_change {S : GX4} {M : GM} (h : RepS S M) {k v : Nat} (hk : k < 4) : ∃ S', fX4_change (nI k) (nI v) S = some (nI (mS M k), S') ∧ RepS S' (stgM M k v) := by
  have e : fX4_change (nI k) (nI v) S = some (nI (mS M k), ((pX4_cells S), (pX4_holders S), (pX4_steps S), (pX4_grainsByCell S), (upd (pX4_settings S) k (nI v)), (pX4_grains S), (pX4_lot S), (pX4_released S), (pX4_lost S), (pX4_gone S), (pX4_walked S))) := by
    unfold fX4_change
    rw [s_setting h hk]
    simp only [Option.bind_some]
    rw [if_neg (i_nz (by omega)), if_neg (show ¬ (4 : Int32) ≤ nI k from i_nle (a := 4) hk (by omega)), gI hk (by omega), i_cl (by omega)]
  refine ⟨_, e, h.1, h.2.1, h.2.2.1, h.2.2.2.1, h.2.2.2.2.1, h.2.2.2.2.2.1, fun j hj => ?_, h.2.2.2.2.2.2.2⟩
  show upd _ _ _ j = nI (un (mS M) k v j)
  by_cases q : j = k
  · rw [q, pk_us, un_s]
  · rw [pk_un q, un_n q]; exact h.2.2.2.2.2.2.1 j hj
theorem i_43 (x : Int32) : 4 ≤ x ↔ 3 < x := by
  rw [Int32.le_iff_toInt_le, Int32.lt_iff_toInt_lt, show (4 : Int32).toInt = 4 from by decide, show (3 : Int32).toInt = 3 from by decide]
  omega
/-! ===== the pad ===== -/
theorem chr_jc : ∀ c, c < 127 → jchr (nI c) = nI c ∧ vp_nar .char (nI c) = nI c := by decide +kernel
