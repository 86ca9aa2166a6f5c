/-! ===== numbers that are tested ===== -/
theorem i_hi {x : Int32} {n : Nat} (hn : n + 1 < 2147483648) (h : nI (n + 1) ≤ x) : ¬ x < 0 ∧ ¬ x ≤ nI n ∧ nI n < x ∧ ¬ x < nI (n + 1) := by
  rw [Int32.le_iff_toInt_le, nI_toInt hn] at h
  refine ⟨fun z => ?_, fun z => ?_, ?_, fun z => ?_⟩
  · rw [Int32.lt_iff_toInt_lt, show (0 : Int32).toInt = 0 from by decide] at z; omega
  · rw [Int32.le_iff_toInt_le, nI_toInt (show n < 2147483648 by omega)] at z; omega
  · rw [Int32.lt_iff_toInt_lt, nI_toInt (show n < 2147483648 by omega)]; omega
  · rw [Int32.lt_iff_toInt_lt, nI_toInt hn] at z; omega
theorem i_nz {j : Nat} (h : j < 2147483648) : ¬ nI j < 0 := i_nlt (b := 0) (Nat.zero_le _) h
theorem i_pz {j : Nat} (h : j < 2147483648) : 0 ≤ nI j := i_ple (a := 0) (Nat.zero_le _) h
theorem j_gz1 {α : Type} {x : Option α} : jgz 1 x = x := if_pos (Or.inr rfl)
theorem j_gz0 {α : Type} {x : Option α} : jgz 0 x = x := if_pos (Or.inl rfl)
theorem neg_12 {y : Int32} (h : y = -1 ∨ y = -2) : ¬ 0 ≤ y ∧ y ≠ 0 := by
  rcases h with rfl | rfl
  · exact ⟨by decide, by decide⟩
  · exact ⟨by decide, by decide⟩
theorem ansW_nn {M : GM} (w : WF M) {z : Nat × Nat × Nat × Nat × Option Nat} (hz : okZ M z) : 0 ≤ ansW z := by
  have h200 := w.2.2.2.2.2.2.1.2
  have h1 := hz.1
  have h2 := hz.2.2.2.1
  unfold ansW
  cases z.2.2.2.2 with
  | none => exact i_pz (by omega)
  | some k => exact i_pz (by omega)
/-! ===== deeds ===== -/
theorem chr_ok : ∀ c, c < 127 → (nI c).toUInt32.toUInt16.toUInt32.toInt32 = nI c ∧ 0 ≤ nI c ∧ nI c ≤ 65535 := by decide +kernel
theorem jgc_of {α : Type} {c : Nat} (hc : c < 127) {x : Option α} : jgc (nI c) x = x := if_pos (chr_ok c hc)
theorem s_readDeed {P : GX1} {c : Nat → Nat} {len p L n t : Nat} (h : RepP P c len) (hp : pX1_next P = nI p) (d : Dd c len p L n t) (hn : nxt c len (p + 1 + n) = none) : ∃ P', fX1_readDeed P = some (1, P') ∧ RepP P' c len ∧ pX1_next P' = nI (p + 1 + n + 1) ∧ pX1_letter P' = nI L ∧ pX1_place P' = nI p ∧ (L ≠ 119 → pX1_number P' = nI t) := by
  obtain ⟨d1, d2, d3, d4⟩ := d
  obtain ⟨f, ln, nx, pl, le, nu⟩ := P
  have hl := h.2.1
  have h3 : ∀ i, i < len → f i = nI (c i) ∧ 33 ≤ c i ∧ c i ≤ 126 := h.2.2
  obtain rfl : ln = nI len := h.1
  obtain rfl : nx = nI p := hp
  have dig : ∀ i, i < n → 48 ≤ c (p + 1 + i) ∧ c (p + 1 + i) ≤ 57 := by
    rcases d4 with ⟨_, z⟩ | ⟨_, _, z, _⟩
    · intro i hi; omega
    · exact z
  have hcp := h3 p d1
  have key : fX1_readDeed (f, nI len, nI p, pl, le, nu) = some (1, (f, nI len, nI (p + 1 + n + 1), nI p, nI (c p), nI (valF c (p + 1) 0 n))) := by
    show (if nI p < nI len then (if nI p < 0 ∨ 60 ≤ (nI p).toNatClampNeg then none else jgc (f (nI p).toNatClampNeg) ((lp tX1_readDeed_49 FU (f, nI len, nI p + 1, nI p, f (nI p).toNatClampNeg, 0)).bind fun o49 => some ((1 : Int32), (o49.1, o49.2.1, o49.2.2.1 + 1, o49.2.2.2.1, o49.2.2.2.2.1, o49.2.2.2.2.2)))) else some (0, (f, nI len, nI p, pl, le, nu))) = _
    rw [if_pos (i_plt d1 (by omega)), gI (by omega) (by omega), i_cl (show p < 2147483648 by omega), hcp.1, jgc_of (show c p < 127 by omega), i_inc]
    refine lp_fub (o := (f, nI len, nI (p + 1 + n), nI p, nI (c p), nI (valF c (p + 1) 0 n))) (fun i => (f, nI len, nI (p + 1 + i), nI p, nI (c p), nI (valF c (p + 1) 0 i))) n (by omega) rfl (fun i hi => ?_) ?_ ?_
    · have hd := dig i hi
      have hx := h3 (p + 1 + i) (by omega)
      have e10 : (10 : Int32) * nI (valF c (p + 1) 0 i) + nI (c (p + 1 + i)) - 48 = nI (valF c (p + 1) 0 (i + 1)) := by
        rw [show (10 : Int32) = nI 10 from rfl, i_mul, i_add, show (48 : Int32) = nI 48 from rfl, i_sub (by omega), valF, show 10 * valF c (p + 1) 0 i + c (p + 1 + i) - 48 = 10 * valF c (p + 1) 0 i + (c (p + 1 + i) - 48) by omega]
      show (if nI len ≤ nI (p + 1 + i) then some (Sum.inr (f, nI len, nI (p + 1 + i), nI p, nI (c p), nI (valF c (p + 1) 0 i))) else (if nI (p + 1 + i) < 0 ∨ 60 ≤ (nI (p + 1 + i)).toNatClampNeg then none else (if f (nI (p + 1 + i)).toNatClampNeg = 59 then some (Sum.inr (f, nI len, nI (p + 1 + i), nI p, nI (c p), nI (valF c (p + 1) 0 i))) else (if nI (p + 1 + i) < 0 ∨ 60 ≤ (nI (p + 1 + i)).toNatClampNeg then none else some (Sum.inl (f, nI len, nI (p + 1 + i) + 1, nI p, nI (c p), ((10 * nI (valF c (p + 1) 0 i)) + f (nI (p + 1 + i)).toNatClampNeg) - 48)))))) = _
      rw [if_neg (i_nle (show p + 1 + i < len by omega) (by omega)), gI (by omega) (by omega), gI (by omega) (by omega), i_cl (show p + 1 + i < 2147483648 by omega), hx.1, if_neg (show ¬ nI (c (p + 1 + i)) = 59 from fun z => by
        have := (i_eq (b := 59) (by omega) (by omega)).mp z
        omega), e10, i_inc]
      try rfl
    · by_cases q : p + 1 + n = len
      · show (if nI len ≤ nI (p + 1 + n) then some (Sum.inr (f, nI len, nI (p + 1 + n), nI p, nI (c p), nI (valF c (p + 1) 0 n))) else _) = _
        rw [if_pos (i_ple (by omega) (by omega))]
      · have h59 : c (p + 1 + n) = 59 := by
          unfold nxt at hn
          rw [if_neg q] at hn
          by_cases q2 : c (p + 1 + n) = 59
          · exact q2
          · rw [if_neg q2] at hn; cases hn
        show (if nI len ≤ nI (p + 1 + n) then some (Sum.inr (f, nI len, nI (p + 1 + n), nI p, nI (c p), nI (valF c (p + 1) 0 n))) else (if nI (p + 1 + n) < 0 ∨ 60 ≤ (nI (p + 1 + n)).toNatClampNeg then none else (if f (nI (p + 1 + n)).toNatClampNeg = 59 then some (Sum.inr (f, nI len, nI (p + 1 + n), nI p, nI (c p), nI (valF c (p + 1) 0 n))) else _))) = _
        rw [if_neg (i_nle (show p + 1 + n < len by omega) (by omega)), gI (by omega) (by omega), i_cl (show p + 1 + n < 2147483648 by omega), (h3 (p + 1 + n) (by omega)).1, h59, if_pos (show nI 59 = 59 from rfl)]
    · show some ((1 : Int32), (f, nI len, nI (p + 1 + n) + 1, nI p, nI (c p), nI (valF c (p + 1) 0 n))) = _
      rw [i_inc]
  refine ⟨_, key, ⟨rfl, hl, h3⟩, rfl, congrArg nI d2, rfl, fun z => ?_⟩
  rcases d4 with ⟨z2, _⟩ | ⟨_, _, _, z2, _⟩
  · exact absurd z2 z
  · show nI (valF c (p + 1) 0 n) = nI t
    rw [z2]
theorem s_readEnd {P : GX1} {c : Nat → Nat} {len p : Nat} (h : RepP P c len) (hp : pX1_next P = nI p) (hl : len ≤ p) (h6 : p < 1000) : fX1_readDeed P = some (0, P) := by
  unfold fX1_readDeed
  rw [h.1, hp, if_neg (i_nlt hl (by omega))]
theorem t33_eq (k : Int32) (g0 : GX7) (S : GX4) (K : GX6) (F : GX0) (P : GX1) : tX7_carryOut_33 (k, g0, S, K, F, P) = (if 60 ≤ k then some (Sum.inr (k, g0, S, K, F, P)) else (if pX7_stopError g0 = 0 then ((fX1_readDeed P).bind fun o50 => (if o50.1 = 0 then some (Sum.inr (k, g0, S, K, F, o50.2)) else ((fX7_answerOfDeed (pX1_letter o50.2) (pX1_number o50.2) g0 S K F).bind fun o71 => (if 0 ≤ o71.1 then some (Sum.inl (k + 1, g0, o71.2.1, o71.2.2.1, o71.2.2.2, o50.2)) else some (Sum.inl (k, (pX7_states g0, pX7_saved g0, o71.1, k, pX1_place o50.2), o71.2.1, o71.2.2.1, o71.2.2.2, o50.2)))))) else some (Sum.inr (k, g0, S, K, F, P)))) := rfl
def YI (a b : Int32 × Int32 × Int32) : Prop := a.1 = b.1 ∧ (a.1 ≠ 0 → a.2.1 = b.2.1 ∧ a.2.2 = b.2.2)
theorem fwA_le {c : Nat → Nat} {len : Nat} : ∀ (m o v s : Nat), fwA c len m o v = some s → s ≤ len
  | 0, o, v, s, h => by
    rw [fwA] at h
    by_cases q1 : o = 119
    · rw [if_pos q1] at h; cases h
    · rw [if_neg q1] at h
      by_cases q2 : o = 32
      · rw [if_pos q2] at h; cases h; exact Nat.le_refl _
      · rw [if_neg q2] at h
        by_cases q3 : v = 0
        · rw [if_pos q3] at h; cases h; exact Nat.le_refl _
        · rw [if_neg q3] at h; cases h
  | m + 1, o, v, s, h => by
    have out : some (len - (m + 1)) = some s → s ≤ len := fun z => by cases z; omega
    rw [fwA] at h
    by_cases q1 : o = 32
    · rw [if_pos q1] at h
      by_cases q2 : c (len - (m + 1)) = 103 ∨ c (len - (m + 1)) = 98 ∨ c (len - (m + 1)) = 119
      · rw [if_pos q2] at h; exact fwA_le m _ _ s h
      · rw [if_neg q2] at h; exact out h
    · rw [if_neg q1] at h
      by_cases q2 : c (len - (m + 1)) = 59
      · rw [if_pos q2] at h
        by_cases q3 : o = 119
        · rw [if_pos q3] at h; exact fwA_le m _ _ s h
        · rw [if_neg q3] at h
          by_cases q4 : v = 0
          · rw [if_pos q4] at h; exact out h
          · rw [if_neg q4] at h; exact fwA_le m _ _ s h
      · rw [if_neg q2] at h
        by_cases q3 : o = 119 ∨ c (len - (m + 1)) < 48 ∨ 57 < c (len - (m + 1)) ∨ v = 1
        · rw [if_pos q3] at h; exact out h
        · rw [if_neg q3] at h
          by_cases q4 : (if v = 0 then c (len - (m + 1)) - 48 else 10 * (v - 1) + (c (len - (m + 1)) - 48)) ≤ (if o = 103 then 39 else 120)
          · rw [if_pos q4] at h; exact fwA_le m _ _ s h
          · rw [if_neg q4] at h; exact out h
