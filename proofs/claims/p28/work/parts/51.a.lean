/-! ===== p28: apart ===== -/
theorem dst_sym (M : GM) (a b : Nat) : dst M a b = dst M b a := by
  show dstF (mH M) (max a b + 1) a b = dstF (mH M) (max b a + 1) b a
  rw [Nat.max_comm b a]
  exact dst_comm _ a b
theorem dst_le_lt {M : GM} (w : WF M) {a b d : Nat} (hab : a < b) (hb : b < mN M) (h : dst M a b = some d) : d ≤ lng M := by
  have e := outP_has (M := M) hab hb (k := mN M) (by omega)
  rw [h] at e
  rw [← longP_lng w]
  exact e
theorem dst_le {M : GM} (w : WF M) {a b d : Nat} (ha : a < mN M) (hb : b < mN M) (h : dst M a b = some d) : d ≤ lng M := by
  rcases Nat.lt_trichotomy a b with q | q | q
  · exact dst_le_lt w q hb h
  · have e : dst M a b = some 0 := (dst_0 w ha hb).mpr q
    rw [h] at e
    cases e
    exact Nat.zero_le _
  · exact dst_le_lt w q ha (by rw [dst_sym]; exact h)
