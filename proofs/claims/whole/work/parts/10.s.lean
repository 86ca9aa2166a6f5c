/-! ===== numbers that are tested ===== -/
theorem i_hi {x : Int32} {n : Nat} (hn : n + 1 < 2147483648) (h : nI (n + 1) ≤ x) : ¬ x < 0 ∧ ¬ x ≤ nI n ∧ nI n < x ∧ ¬ x < nI (n + 1) := by
  rw [Int32.le_iff_toInt_le, nI_toInt hn] at h
  refine ⟨fun z => ?_, fun z => ?_, ?_, fun z => ?_⟩
  · rw [Int32.lt_iff_toInt_lt, show (0 : Int32).toInt = 0 from by decide] at z; omega
  · rw [Int32.le_iff_toInt_le, nI_toInt (show n < 2147483648 by omega)] at z; omega
  · rw [Int32.lt_iff_toInt_lt, nI_toInt (show n < 2147483648 by omega)]; omega
  · rw [Int32.lt_iff_toInt_lt, nI_toInt hn] at z; omega
theorem i_nz {j : Nat} (h : j < 2147483648) : ¬ nI j < 0 := i_nlt (b := 0) (Nat.zero_le _) h
theorem i_pz {j : Nat} (h : j < 2147483648) : 0 ≤ nI j := i_ple (a := 0) (Nat.zero_le _) h
theorem r_in0 (x : Int32) {n : Nat} (hn : n + 1 < 2147483648) : (∃ j, j ≤ n ∧ x = nI j ∧ fX8_in x 0 (nI n) = some 1) ∨ (fX8_in x 0 (nI n) = some 0 ∧ (x < 0 ∨ nI (n + 1) ≤ x)) := by
  rcases i_any x (n := n + 1) hn with q | q | ⟨j, hj, rfl⟩
  · refine Or.inr ⟨?_, Or.inl q⟩
    unfold fX8_in
    rw [if_pos q]
  · obtain ⟨h1, h2, h3, _⟩ := i_hi hn q
    refine Or.inr ⟨?_, Or.inr q⟩
    unfold fX8_in
    rw [if_neg h1, if_pos h3]
  · refine Or.inl ⟨j, by omega, rfl, ?_⟩
    unfold fX8_in
    rw [if_neg (i_nz (by omega)), if_neg (i_nlt (show j ≤ n by omega) (by omega))]
theorem j_gz1 {α : Type} {x : Option α} : jgz 1 x = x := if_pos (Or.inr rfl)
theorem j_gz0 {α : Type} {x : Option α} : jgz 0 x = x := if_pos (Or.inl rfl)
theorem b_isRim (x : Int32) : (∃ r, r < 40 ∧ x = nI r ∧ fX8_isRim x = some 1 ∧ fX2_isRim x = some 1) ∨ (fX8_isRim x = some 0 ∧ fX2_isRim x = some 0) := by
  have e39 : (39 : Int32) = nI 39 := rfl
  unfold fX8_isRim fX2_isRim
  rw [e39]
  rcases r_in0 x (n := 39) (by omega) with ⟨j, hj, rfl, e⟩ | ⟨e, q⟩
  · refine Or.inl ⟨j, by omega, rfl, ?_, ?_⟩
    · rw [e]; simp only [Option.bind_some]; rw [j_gz1]
    · rw [if_neg (i_nz (by omega)), if_neg (show ¬ (40 : Int32) ≤ nI j from i_nle (a := 40) (by omega) (by omega))]
  · refine Or.inr ⟨?_, ?_⟩
    · rw [e]; simp only [Option.bind_some]; rw [j_gz0]
    · rcases q with q | q
      · rw [if_pos q]
      · rw [if_neg (i_hi (n := 39) (by omega) q).1, if_pos (show (40 : Int32) ≤ x from q)]
theorem b_isCell (x : Int32) : (∃ r, r < 121 ∧ x = nI r ∧ fX8_isCell x = some 1 ∧ fX2_isCell x = some 1) ∨ (fX8_isCell x = some 0 ∧ fX2_isCell x = some 0) := by
  have e39 : (120 : Int32) = nI 120 := rfl
  unfold fX8_isCell fX2_isCell
  rw [e39]
  rcases r_in0 x (n := 120) (by omega) with ⟨j, hj, rfl, e⟩ | ⟨e, q⟩
  · refine Or.inl ⟨j, by omega, rfl, ?_, ?_⟩
    · rw [e]; simp only [Option.bind_some]; rw [j_gz1]
    · rw [if_neg (i_nz (by omega)), if_neg (show ¬ (121 : Int32) ≤ nI j from i_nle (a := 121) (by omega) (by omega))]
  · refine Or.inr ⟨?_, ?_⟩
    · rw [e]; simp only [Option.bind_some]; rw [j_gz0]
    · rcases q with q | q
      · rw [if_pos q]
      · rw [if_neg (i_hi (n := 120) (by omega) q).1, if_pos (show (121 : Int32) ≤ x from q)]
theorem b_isGrain {S : GX4} {M : GM} {G : GX8} (g : Good M) (h : RepS S M) (hr : RepR (pX8_s G) M) (x : Int32) : (∃ r, r < mN M ∧ x = nI r ∧ fX8_isGrain x G = some 1 ∧ fX4_isGrain x S = some 1) ∨ (fX8_isGrain x G = some 0 ∧ fX4_isGrain x S = some 0) := by
  have h1 := g.1.n1
  have h2 := g.2.1
  unfold fX8_isGrain fX4_isGrain
  rw [r_n hr, h.1, i_dec' h2]
  rcases r_in0 x (n := mN M - 1) (by omega) with ⟨j, hj, rfl, e⟩ | ⟨e, q⟩
  · refine Or.inl ⟨j, by omega, rfl, ?_, ?_⟩
    · rw [e]; simp only [Option.bind_some]; rw [j_gz1]
    · rw [if_neg (i_nz (by omega)), if_neg (i_nle (show j < mN M by omega) (by omega))]
  · refine Or.inr ⟨?_, ?_⟩
    · rw [e]; simp only [Option.bind_some]; rw [j_gz0]
    · rcases q with q | q
      · rw [if_pos q]
      · rw [if_neg (i_hi (n := mN M - 1) (by omega) q).1, if_pos (show nI (mN M) ≤ x by rw [show mN M = mN M - 1 + 1 by omega]; exact q)]
theorem ref_go {S : GX4} {M : GM} {G : GX8} (g : Good M) (h : RepS S M) (hr : RepR (pX8_s G) M) (x : Int32) : (∃ r, r < 40 ∧ x = nI r ∧ at_ M (rimC r) = none ∧ fX4_refusalToGo x S = some 0 ∧ fX8_errorGo x G = some 0) ∨ (∃ y, (y = -1 ∨ y = -2) ∧ fX4_refusalToGo x S = some y ∧ fX8_errorGo x G = some y) := by
  rcases b_isRim x with ⟨r, hr', rfl, e1, e2⟩ | ⟨e1, e2⟩
  · have a1 := s_refGo g.1 h hr'
    have a2 : fX8_errorGo (nI r) G = some (if (at_ M (rimC r)).isSome then -2 else 0) := by
      unfold fX8_errorGo
      rw [e1]
      simp only [Option.bind_some]
      rw [if_neg (show ¬ (1 : Int32) = 0 by decide), r_blocked g.1 hr hr']
      simp only [Option.bind_some]
      cases at_ M (rimC r) with
      | none => rfl
      | some k => rfl
    cases ea : at_ M (rimC r) with
    | none =>
      rw [ea] at a1 a2
      exact Or.inl ⟨r, hr', rfl, ea, a1, a2⟩
    | some k =>
      rw [ea] at a1 a2
      exact Or.inr ⟨-2, Or.inr rfl, a1, a2⟩
  · refine Or.inr ⟨-1, Or.inl rfl, ?_, ?_⟩
    · unfold fX4_refusalToGo
      rw [e2]; rfl
    · unfold fX8_errorGo
      rw [e1]; rfl
theorem ref_brk {S : GX4} {M : GM} {G : GX8} (g : Good M) (h : RepS S M) (hr : RepR (pX8_s G) M) (x : Int32) : (∃ r, r < mN M ∧ x = nI r ∧ mH M r ≠ 0 ∧ fX4_refusalToBreak x S = some 0 ∧ fX8_errorBreak x G = some 0) ∨ (∃ y, (y = -1 ∨ y = -2) ∧ fX4_refusalToBreak x S = some y ∧ fX8_errorBreak x G = some y) := by
  have h1 := g.1.n1
  rcases b_isGrain g h hr x with ⟨r, hr', rfl, e1, e2⟩ | ⟨e1, e2⟩
  · have hh := g.1.h hr'
    have a1 : fX4_refusalToBreak (nI r) S = if mH M r = 0 then some (-2) else some 0 := by
      unfold fX4_refusalToBreak
      rw [e2]
      simp only [Option.bind_some]
      rw [if_neg (show ¬ (1 : Int32) = 0 by decide), s_holderOf g.1 h hr']
      simp only [Option.bind_some]
      rw [ifc (hI_n4 (by omega))]
    have a2 : fX8_errorBreak (nI r) G = if mH M r = 0 then some (-2) else some 0 := by
      unfold fX8_errorBreak
      rw [e1]
      simp only [Option.bind_some]
      rw [if_neg (show ¬ (1 : Int32) = 0 by decide), r_holder g.1 hr hr']
      simp only [Option.bind_some]
      rw [ifc (hR_nn (by omega))]
      by_cases q : mH M r = 0
      · rw [if_pos q, if_neg (fun z => z q)]
      · rw [if_neg q, if_pos q]
    by_cases q : mH M r = 0
    · rw [if_pos q] at a1 a2
      exact Or.inr ⟨-2, Or.inr rfl, a1, a2⟩
    · rw [if_neg q] at a1 a2
      exact Or.inl ⟨r, hr', rfl, q, a1, a2⟩
  · refine Or.inr ⟨-1, Or.inl rfl, ?_, ?_⟩
    · unfold fX4_refusalToBreak
      rw [e2]; rfl
    · unfold fX8_errorBreak
      rw [e1]; rfl
theorem neg_12 {y : Int32} (h : y = -1 ∨ y = -2) : ¬ 0 ≤ y ∧ y ≠ 0 := by
  rcases h with rfl | rfl
  · exact ⟨by decide, by decide⟩
  · exact ⟨by decide, by decide⟩
theorem ansW_nn {M : GM} (w : WF M) {z : Nat × Nat × Nat × Nat × Option Nat} (hz : okZ M z) : 0 ≤ ansW z := by
  have h200 := w.2.2.2.2.2.2.1.2
  have h1 := hz.1
  have h2 := hz.2.2.2.1
  unfold ansW
  cases z.2.2.2.2 with
  | none => exact i_pz (by omega)
  | some k => exact i_pz (by omega)
/-! ===== deeds ===== -/
theorem chr_ok : ∀ c, c < 127 → (nI c).toUInt32.toUInt16.toUInt32.toInt32 = nI c ∧ 0 ≤ nI c ∧ nI c ≤ 65535 := by decide +kernel
theorem jgc_of {α : Type} {c : Nat} (hc : c < 127) {x : Option α} : jgc (nI c) x = x := if_pos (chr_ok c hc)
theorem s_readDeed {P : GX1} {c : Nat → Nat} {len p L n t : Nat} (h : RepP P c len) (hp : pX1_next P = nI p) (d : Dd c len p L n t) (hn : nxt c len (p + 1 + n) = none) : ∃ P', fX1_readDeed P = some (1, P') ∧ RepP P' c len ∧ pX1_next P' = nI (p + 1 + n + 1) ∧ pX1_letter P' = nI L ∧ pX1_place P' = nI p ∧ (L ≠ 119 → pX1_number P' = nI t) := by
  obtain ⟨d1, d2, d3, d4⟩ := d
  obtain ⟨f, ln, nx, pl, le, nu⟩ := P
  have hl := h.2.1
  have h3 : ∀ i, i < len → f i = nI (c i) ∧ 33 ≤ c i ∧ c i ≤ 126 := h.2.2
  obtain rfl : ln = nI len := h.1
  obtain rfl : nx = nI p := hp
  have dig : ∀ i, i < n → 48 ≤ c (p + 1 + i) ∧ c (p + 1 + i) ≤ 57 := by
    rcases d4 with ⟨_, z⟩ | ⟨_, _, z, _⟩
    · intro i hi; omega
    · exact z
  have hcp := h3 p d1
  have key : fX1_readDeed (f, nI len, nI p, pl, le, nu) = some (1, (f, nI len, nI (p + 1 + n + 1), nI p, nI (c p), nI (valF c (p + 1) 0 n))) := by
    show (if nI p < nI len then (if nI p < 0 ∨ 60 ≤ (nI p).toNatClampNeg then none else jgc (f (nI p).toNatClampNeg) ((lp tX1_readDeed_49 FU (f, nI len, nI p + 1, nI p, f (nI p).toNatClampNeg, 0)).bind fun o49 => some ((1 : Int32), (o49.1, o49.2.1, o49.2.2.1 + 1, o49.2.2.2.1, o49.2.2.2.2.1, o49.2.2.2.2.2)))) else some (0, (f, nI len, nI p, pl, le, nu))) = _
    rw [if_pos (i_plt d1 (by omega)), gI (by omega) (by omega), i_cl (show p < 2147483648 by omega), hcp.1, jgc_of (show c p < 127 by omega), i_inc]
    refine lp_fub (o := (f, nI len, nI (p + 1 + n), nI p, nI (c p), nI (valF c (p + 1) 0 n))) (fun i => (f, nI len, nI (p + 1 + i), nI p, nI (c p), nI (valF c (p + 1) 0 i))) n (by omega) rfl (fun i hi => ?_) ?_ ?_
    · have hd := dig i hi
      have hx := h3 (p + 1 + i) (by omega)
      have e10 : (10 : Int32) * nI (valF c (p + 1) 0 i) + nI (c (p + 1 + i)) - 48 = nI (valF c (p + 1) 0 (i + 1)) := by
        rw [show (10 : Int32) = nI 10 from rfl, i_mul, i_add, show (48 : Int32) = nI 48 from rfl, i_sub (by omega), valF, show 10 * valF c (p + 1) 0 i + c (p + 1 + i) - 48 = 10 * valF c (p + 1) 0 i + (c (p + 1 + i) - 48) by omega]
      show (if nI len ≤ nI (p + 1 + i) then some (Sum.inr (f, nI len, nI (p + 1 + i), nI p, nI (c p), nI (valF c (p + 1) 0 i))) else (if nI (p + 1 + i) < 0 ∨ 60 ≤ (nI (p + 1 + i)).toNatClampNeg then none else (if f (nI (p + 1 + i)).toNatClampNeg = 59 then some (Sum.inr (f, nI len, nI (p + 1 + i), nI p, nI (c p), nI (valF c (p + 1) 0 i))) else (if nI (p + 1 + i) < 0 ∨ 60 ≤ (nI (p + 1 + i)).toNatClampNeg then none else some (Sum.inl (f, nI len, nI (p + 1 + i) + 1, nI p, nI (c p), ((10 * nI (valF c (p + 1) 0 i)) + f (nI (p + 1 + i)).toNatClampNeg) - 48)))))) = _
      rw [if_neg (i_nle (show p + 1 + i < len by omega) (by omega)), gI (by omega) (by omega), gI (by omega) (by omega), i_cl (show p + 1 + i < 2147483648 by omega), hx.1, if_neg (show ¬ nI (c (p + 1 + i)) = 59 from fun z => by
        have := (i_eq (b := 59) (by omega) (by omega)).mp z
        omega), e10, i_inc]
      try rfl
    · by_cases q : p + 1 + n = len
      · show (if nI len ≤ nI (p + 1 + n) then some (Sum.inr (f, nI len, nI (p + 1 + n), nI p, nI (c p), nI (valF c (p + 1) 0 n))) else _) = _
        rw [if_pos (i_ple (by omega) (by omega))]
      · have h59 : c (p + 1 + n) = 59 := by
          unfold nxt at hn
          rw [if_neg q] at hn
          by_cases q2 : c (p + 1 + n) = 59
          · exact q2
          · rw [if_neg q2] at hn; cases hn
        show (if nI len ≤ nI (p + 1 + n) then some (Sum.inr (f, nI len, nI (p + 1 + n), nI p, nI (c p), nI (valF c (p + 1) 0 n))) else (if nI (p + 1 + n) < 0 ∨ 60 ≤ (nI (p + 1 + n)).toNatClampNeg then none else (if f (nI (p + 1 + n)).toNatClampNeg = 59 then some (Sum.inr (f, nI len, nI (p + 1 + n), nI p, nI (c p), nI (valF c (p + 1) 0 n))) else _))) = _
        rw [if_neg (i_nle (show p + 1 + n < len by omega) (by omega)), gI (by omega) (by omega), i_cl (show p + 1 + n < 2147483648 by omega), (h3 (p + 1 + n) (by omega)).1, h59, if_pos (show nI 59 = 59 from rfl)]
    · show some ((1 : Int32), (f, nI len, nI (p + 1 + n) + 1, nI p, nI (c p), nI (valF c (p + 1) 0 n))) = _
      rw [i_inc]
  refine ⟨_, key, ⟨rfl, hl, h3⟩, rfl, congrArg nI d2, rfl, fun z => ?_⟩
  rcases d4 with ⟨z2, _⟩ | ⟨_, _, _, z2, _⟩
  · exact absurd z2 z
  · show nI (valF c (p + 1) 0 n) = nI t
    rw [z2]
theorem s_readEnd {P : GX1} {c : Nat → Nat} {len p : Nat} (h : RepP P c len) (hp : pX1_next P = nI p) (hl : len ≤ p) (h6 : p < 1000) : fX1_readDeed P = some (0, P) := by
  unfold fX1_readDeed
  rw [h.1, hp, if_neg (i_nlt hl (by omega))]
theorem deed_both {S : GX4} {M : GM} {G : GX8} (g : Good M) (h : RepS S M) (hr : RepR (pX8_s G) M) (g0 : GX7) (K : GX6) (F : GX0) {L : Nat} {x : Int32} (hL : L = 103 ∨ L = 98 ∨ L = 119) (hl : pX8_letter G = nI L) (ht : L ≠ 119 → pX8_told G = x) : ∃ y S' K' F' z G', fX7_answerOfDeed (nI L) x g0 S K F = some (y, S', K', F') ∧ fX8_doesDeed G = some (z, G') ∧ Two S' (pX8_s G') ∧ Fr G G' ∧ ((0 ≤ y ∧ z = 0) ∨ (¬ 0 ≤ y ∧ y ≠ 0 ∧ z = y)) := by
  have h1 := g.1.n1
  unfold fX7_answerOfDeed fX8_doesDeed
  rw [hl]
  rcases hL with rfl | rfl | rfl
  · rw [if_neg (show ¬ nI 103 = (119 : Int32) by decide), if_pos (show nI 103 = (103 : Int32) from rfl), if_pos (show nI 103 = (103 : Int32) from rfl), ht (by omega)]
    rcases ref_go g h hr x with ⟨r, hr', rfl, ha, e1, e2⟩ | ⟨y, hy, e1, e2⟩
    · obtain ⟨S', e3, r3⟩ := s_letWalk g.1 h hr' ha g0 K
      obtain ⟨G', e4, r4, f4⟩ := r_go g.1 hr hr' ha
      have hz := wlk_ok g.1 (rimC_lt r hr') ha
      rw [e1, e2]
      simp only [Option.bind_some]
      unfold jX7_answerOfDeed_1 jX8_doesDeed_1 jX8_doesDeed_2
      rw [hl, ht (by omega), if_pos (show (0 : Int32) = 0 from rfl), if_pos (show (0 : Int32) ≤ 0 by decide), if_pos (show nI 103 = (103 : Int32) from rfl), if_pos (show nI 103 = (103 : Int32) from rfl), e3, e4]
      exact ⟨_, _, _, _, _, _, rfl, rfl, ⟨_, g.set hz, r3, r4⟩, f4, Or.inl ⟨ansW_nn g.1 hz, rfl⟩⟩
    · have hy2 := neg_12 hy
      rw [e1, e2]
      simp only [Option.bind_some]
      unfold jX7_answerOfDeed_1 jX8_doesDeed_1
      rw [if_neg hy2.2, if_neg hy2.1]
      exact ⟨_, _, _, _, _, _, rfl, rfl, ⟨M, g, h, hr⟩, rfl, Or.inr ⟨hy2.1, hy2.2, rfl⟩⟩
  · rw [if_neg (show ¬ nI 98 = (119 : Int32) by decide), if_neg (show ¬ nI 98 = (103 : Int32) by decide), if_neg (show ¬ nI 98 = (103 : Int32) by decide), if_pos (show nI 98 = (98 : Int32) from rfl), ht (by omega)]
    rcases ref_brk g h hr x with ⟨r, hr', rfl, h0, e1, e2⟩ | ⟨y, hy, e1, e2⟩
    · obtain ⟨F', S', e3, r3⟩ := s_dropTree g.1 h hr' F
      obtain ⟨G', e4, r4, f4⟩ := r_break g.1 hr hr'
      rw [e1, e2]
      simp only [Option.bind_some]
      unfold jX7_answerOfDeed_1 jX8_doesDeed_1 jX8_doesDeed_2
      rw [hl, ht (by omega), if_pos (show (0 : Int32) = 0 from rfl), if_pos (show (0 : Int32) ≤ 0 by decide), if_neg (show ¬ nI 98 = (103 : Int32) by decide), if_neg (show ¬ nI 98 = (103 : Int32) by decide), if_pos (show nI 98 = (98 : Int32) from rfl), e3, e4]
      exact ⟨_, _, _, _, _, _, rfl, rfl, ⟨_, g.brk hr' h0, r3, r4⟩, f4, Or.inl ⟨i_pz (by omega), rfl⟩⟩
    · have hy2 := neg_12 hy
      rw [e1, e2]
      simp only [Option.bind_some]
      unfold jX7_answerOfDeed_1 jX8_doesDeed_1
      rw [if_neg hy2.2, if_neg hy2.1]
      exact ⟨_, _, _, _, _, _, rfl, rfl, ⟨M, g, h, hr⟩, rfl, Or.inr ⟨hy2.1, hy2.2, rfl⟩⟩
  · obtain ⟨F', S', e3, r3⟩ := s_dropTips g.1 h F
    obtain ⟨G', e4, r4, f4⟩ := r_wash g.1 hr
    unfold jX8_doesDeed_1 jX8_doesDeed_2
    rw [hl, if_pos (show nI 119 = (119 : Int32) from rfl), if_neg (show ¬ nI 119 = (103 : Int32) by decide), if_neg (show ¬ nI 119 = (98 : Int32) by decide), if_pos (show (0 : Int32) ≤ 0 by decide), if_neg (show ¬ nI 119 = (103 : Int32) by decide), if_neg (show ¬ nI 119 = (98 : Int32) by decide), e3, e4]
    exact ⟨_, _, _, _, _, _, rfl, rfl, ⟨_, g.wsh, r3, r4⟩, f4, Or.inl ⟨i_pz (by omega), rfl⟩⟩
/-! ===== deeds, one after the other ===== -/
def stN (G : GX8) (k : Int32) : GX8 := ((pX8_s G), (pX8_aside G), (pX8_past G), (pX8_known G), (pX8_kept G), (pX8_isKept G), (pX8_pad G), (pX8_length G), (pX8_whyError G), k, (pX8_spot G), (pX8_lots G), (pX8_walker G), (pX8_steps G), (pX8_goes G), (pX8_becomes G), (pX8_spot G), (pX8_isForm G), (pX8_letter G), (pX8_told G), (pX8_highest G))
def spP (G : GX8) : GX8 := ((pX8_s G), (pX8_aside G), (pX8_past G), (pX8_known G), (pX8_kept G), (pX8_isKept G), (pX8_pad G), (pX8_length G), (pX8_whyError G), (pX8_whyNumber G), (pX8_whySpot G), (pX8_lots G), (pX8_walker G), (pX8_steps G), (pX8_goes G), (pX8_becomes G), (pX8_spot G) + 1, (pX8_isForm G), (pX8_letter G), (pX8_told G), (pX8_highest G))
def wyE (G : GX8) (e : Int32) : GX8 := ((pX8_s G), (pX8_aside G), (pX8_past G), (pX8_known G), (pX8_kept G), (pX8_isKept G), (pX8_pad G), (pX8_length G), e, (pX8_whyNumber G), (pX8_whySpot G), (pX8_lots G), (pX8_walker G), (pX8_steps G), (pX8_goes G), (pX8_becomes G), (pX8_spot G), (pX8_isForm G), (pX8_letter G), (pX8_told G), (pX8_highest G))
theorem t26_eq (k : Int32) (G : GX8) : tX8_carryOut_26 (k, G) = (if pX8_whyError G = 0 then (if pX8_length G ≤ pX8_spot G then some (Sum.inr (k, G)) else ((fX8_takesDeed (stN G k)).bind fun o58 => ((fX8_doesDeed (spP o58)).bind fun o73 => (if o73.1 = 0 then some (Sum.inl (k + 1, wyE o73.2 o73.1)) else some (Sum.inl (k + 0, wyE o73.2 o73.1)))))) else some (Sum.inr (k, G))) := rfl
theorem t33_eq (k : Int32) (g0 : GX7) (S : GX4) (K : GX6) (F : GX0) (P : GX1) : tX7_carryOut_33 (k, g0, S, K, F, P) = (if 60 ≤ k then some (Sum.inr (k, g0, S, K, F, P)) else (if pX7_stopError g0 = 0 then ((fX1_readDeed P).bind fun o50 => (if o50.1 = 0 then some (Sum.inr (k, g0, S, K, F, o50.2)) else ((fX7_answerOfDeed (pX1_letter o50.2) (pX1_number o50.2) g0 S K F).bind fun o71 => (if 0 ≤ o71.1 then some (Sum.inl (k + 1, g0, o71.2.1, o71.2.2.1, o71.2.2.2, o50.2)) else some (Sum.inl (k, (pX7_states g0, pX7_saved g0, o71.1, k, pX1_place o50.2), o71.2.1, o71.2.2.1, o71.2.2.2, o50.2)))))) else some (Sum.inr (k, g0, S, K, F, P)))) := rfl
def YI (a b : Int32 × Int32 × Int32) : Prop := a.1 = b.1 ∧ (a.1 ≠ 0 → a.2.1 = b.2.1 ∧ a.2.2 = b.2.2)
abbrev fqK (G : GX8) := (pX8_past G, pX8_known G, pX8_kept G, pX8_isKept G, pX8_pad G, pX8_length G)
abbrev whK (G : GX8) : Int32 × Int32 × Int32 := (pX8_whyError G, pX8_whyNumber G, pX8_whySpot G)
theorem Fr.fq {G H : GX8} (a : Fr G H) : fqK H = fqK G := congrArg (fun x => (x.1, x.2.1, x.2.2.1, x.2.2.2.1, x.2.2.2.2.1, x.2.2.2.2.2.1)) a
theorem Fr.wh {G H : GX8} (a : Fr G H) : whK H = whK G := congrArg (fun x => (x.2.2.2.2.2.2.1, x.2.2.2.2.2.2.2.1, x.2.2.2.2.2.2.2.2.1)) a
theorem Fr.sp {G H : GX8} (a : Fr G H) : pX8_spot H = pX8_spot G := congrArg (fun x => x.2.2.2.2.2.2.2.2.2.1) a
theorem Fr.fo {G H : GX8} (a : Fr G H) : pX8_isForm H = pX8_isForm G := congrArg (fun x => x.2.2.2.2.2.2.2.2.2.2.1) a
theorem Ft.fq {G H : GX8} (a : Ft G H) : fqK H = fqK G := congrArg (fun x => (x.2.1, x.2.2.1, x.2.2.2.1, x.2.2.2.2.1, x.2.2.2.2.2.1, x.2.2.2.2.2.2.1)) a
theorem Ft.wh {G H : GX8} (a : Ft G H) : whK H = whK G := congrArg (fun x => (x.2.2.2.2.2.2.2.1, x.2.2.2.2.2.2.2.2.1, x.2.2.2.2.2.2.2.2.2)) a
theorem Ft.s {G H : GX8} (a : Ft G H) : pX8_s H = pX8_s G := congrArg (fun x => x.1) a
theorem RepX.fq {G H : GX8} {c : Nat → Nat} {len : Nat} (h : RepX G c len) (a : fqK H = fqK G) : RepX H c len := by
  have e1 : pX8_pad H = pX8_pad G := congrArg (fun x => x.2.2.2.2.1) a
  have e2 : pX8_length H = pX8_length G := congrArg (fun x => x.2.2.2.2.2) a
  exact ⟨e2.trans h.1, h.2.1, fun i hi => by rw [e1]; exact h.2.2 i hi⟩
theorem carry_go {c : Nat → Nat} {len : Nat} : ∀ (m p k fu fu' : Nat) (g0 : GX7) (S : GX4) (K : GX6) (F : GX0) (P : GX1) (G : GX8), Two S (pX8_s G) → RepP P c len → pX1_next P = nI p → RepX G c len → pX8_spot G = nI p → pX8_isForm G = 1 → pX8_whyError G = 0 → pX7_stopError g0 = 0 → (len ≤ p ∨ fwA c len (len - p) 32 0 = none) → 2 * k ≤ p → p ≤ len + 1 → len + 1 - p ≤ m → m + 1 < fu → m + 1 < fu' → ∃ o o', lp tX7_carryOut_33 fu (nI k, g0, S, K, F, P) = some o ∧ lp tX8_carryOut_26 fu' (nI k, G) = some o' ∧ o.1 = o'.1 ∧ Two o.2.2.1 (pX8_s o'.2) ∧ pX7_states o.2.1 = pX7_states g0 ∧ pX7_saved o.2.1 = pX7_saved g0 ∧ YI o.2.1.2.2 (whK o'.2) ∧ fqK o'.2 = fqK G := by
  intro m
  induction m with
  | zero =>
    intro p k fu fu' g0 S K F P G hT hP hn hX hs hf hw hg hv hk hp hm hfu hfu'
    have hl := hP.2.1
    obtain ⟨fu, rfl⟩ : ∃ q, fu = q + 1 := ⟨fu - 1, by omega⟩
    obtain ⟨fu', rfl⟩ : ∃ q, fu' = q + 1 := ⟨fu' - 1, by omega⟩
    refine ⟨_, _, lp_r fu (o := (nI k, g0, S, K, F, P)) ?_, lp_r fu' (o := (nI k, G)) ?_, rfl, hT, rfl, rfl, ⟨hg.trans hw.symm, fun z => absurd hg z⟩, rfl⟩
    · rw [t33_eq, if_neg (show ¬ (60 : Int32) ≤ nI k from i_nle (a := 60) (by omega) (by omega)), if_pos hg, s_readEnd hP hn (by omega) (by omega)]
      rfl
    · rw [t26_eq, if_pos hw, hX.1, hs, if_pos (i_ple (by omega) (by omega))]
  | succ m ih =>
    intro p k fu fu' g0 S K F P G hT hP hn hX hs hf hw hg hv hk hp hm hfu hfu'
    have hl := hP.2.1
    obtain ⟨fu, rfl⟩ : ∃ q, fu = q + 1 + 1 := ⟨fu - 2, by omega⟩
    obtain ⟨fu', rfl⟩ : ∃ q, fu' = q + 1 + 1 := ⟨fu' - 2, by omega⟩
    by_cases hpl : len ≤ p
    · refine ⟨_, _, lp_r (fu + 1) (o := (nI k, g0, S, K, F, P)) ?_, lp_r (fu' + 1) (o := (nI k, G)) ?_, rfl, hT, rfl, rfl, ⟨hg.trans hw.symm, fun z => absurd hg z⟩, rfl⟩
      · rw [t33_eq, if_neg (show ¬ (60 : Int32) ≤ nI k from i_nle (a := 60) (by omega) (by omega)), if_pos hg, s_readEnd hP hn hpl (by omega)]
        rfl
      · rw [t26_eq, if_pos hw, hX.1, hs, if_pos (i_ple hpl (by omega))]
    · have hfw : fwA c len (len - p) 32 0 = none := by
        rcases hv with z | z
        · exact absurd z hpl
        · exact z
      obtain ⟨M, gd, hS, hR⟩ := hT
      obtain ⟨G2, e2, f2, d2⟩ := r_deed (G := stN G (nI k)) (p := p) hX hs hf (by omega)
      have fq2 : fqK G2 = fqK G := f2.fq
      have wh2 : whK G2 = (pX8_whyError G, nI k, pX8_spot G) := f2.wh
      have s2 : pX8_s G2 = pX8_s G := f2.s
      rcases d2 with ⟨_, s, _, _, z⟩ | ⟨d3, L, n, t, d4, d5, d6, d7, d8⟩
      · rw [hfw] at z; cases z
      · rw [hfw] at d8
        obtain ⟨P', e3, p1, p2, p3, p4, p5⟩ := s_readDeed hP hn d4 d8.symm
        have hL : L = 103 ∨ L = 98 ∨ L = 119 := by
          rcases d4.2.2.2 with ⟨z, _⟩ | ⟨z, _⟩ <;> omega
        have hR2 : RepR (pX8_s (spP G2)) M := by
          show RepR (pX8_s G2) M
          rw [s2]; exact hR
        obtain ⟨y, S', K', F', z, G4, e4, e5, t4, f4, yz⟩ := deed_both (G := spP G2) gd hS hR2 g0 K F hL d6 (x := pX1_number P') (fun q => (d7 q).trans (p5 q).symm)
        have fq4 : fqK G4 = fqK G := f4.fq.trans fq2
        have wh4 : whK G4 = (pX8_whyError G, nI k, pX8_spot G) := f4.wh.trans wh2
        have hle := d4.2.2.1
        have c33 : tX7_carryOut_33 (nI k, g0, S, K, F, P) = if 0 ≤ y then some (Sum.inl (nI k + 1, g0, S', K', F', P')) else some (Sum.inl (nI k, (pX7_states g0, pX7_saved g0, y, nI k, pX1_place P'), S', K', F', P')) := by
          rw [t33_eq, if_neg (show ¬ (60 : Int32) ≤ nI k from i_nle (a := 60) (by omega) (by omega)), if_pos hg, e3]
          simp only [Option.bind_some]
          rw [if_neg (show ¬ (1 : Int32) = 0 by decide), p3, e4]
          simp only [Option.bind_some]
        have c26 : tX8_carryOut_26 (nI k, G) = if z = 0 then some (Sum.inl (nI k + 1, wyE G4 z)) else some (Sum.inl (nI k + 0, wyE G4 z)) := by
          rw [t26_eq, if_pos hw, hX.1, hs, if_neg (i_nle (show p < len by omega) (by omega)), e2]
          simp only [Option.bind_some]
          rw [e5]
          simp only [Option.bind_some]
        rcases yz with ⟨y1, y2⟩ | ⟨y1, y2, y3⟩
        · rw [if_pos y1, i_inc] at c33
          rw [if_pos y2, i_inc] at c26
          rw [lp_l _ c33, lp_l _ c26]
          have hv' : len ≤ p + 1 + n + 1 ∨ fwA c len (len - (p + 1 + n + 1)) 32 0 = none := by
            have d9 := d8.symm
            unfold nxt at d9
            by_cases q : p + 1 + n = len
            · exact Or.inl (by omega)
            · rw [if_neg q] at d9
              by_cases q2 : c (p + 1 + n) = 59
              · rw [if_pos q2] at d9; exact Or.inr d9
              · rw [if_neg q2] at d9; cases d9
          obtain ⟨o, o', a1, a2, a3, a4, a5, a6, a7, a8⟩ := ih (p + 1 + n + 1) (k + 1) (fu + 1) (fu' + 1) g0 S' K' F' P' (wyE G4 z) t4 p1 p2 (hX.fq (H := wyE G4 z) fq4) (by
            show pX8_spot G4 = _
            rw [f4.sp]
            show pX8_spot G2 + 1 = _
            rw [d5, i_inc]) (by
            show pX8_isForm G4 = 1
            rw [f4.fo]
            exact d3) y2 hg hv' (by omega) (by omega) (by omega) (by omega) (by omega)
          exact ⟨o, o', a1, a2, a3, a4, a5, a6, a7, a8.trans fq4⟩
        · rw [if_neg y1] at c33
          rw [if_neg (show ¬ z = 0 by rw [y3]; exact y2), i_p0] at c26
          rw [lp_l _ c33, lp_l _ c26]
          refine ⟨_, _, lp_r fu (o := (nI k, (pX7_states g0, pX7_saved g0, y, nI k, pX1_place P'), S', K', F', P')) ?_, lp_r fu' (o := (nI k, wyE G4 z)) ?_, rfl, t4, rfl, rfl, ⟨y3.symm, fun _ => ⟨?_, ?_⟩⟩, fq4⟩
          · rw [t33_eq, if_neg (show ¬ (60 : Int32) ≤ nI k from i_nle (a := 60) (by omega) (by omega)), if_neg (show ¬ pX7_stopError (pX7_states g0, pX7_saved g0, y, nI k, pX1_place P') = 0 from y2)]
          · rw [t26_eq, if_neg (show ¬ pX8_whyError (wyE G4 z) = 0 from fun q => y2 (y3.symm.trans q))]
          · exact (congrArg (fun x : Int32 × Int32 × Int32 => x.2.1) wh4).symm
          · refine p4.trans ?_
            rw [← hs]
            exact (congrArg (fun x : Int32 × Int32 × Int32 => x.2.2) wh4).symm
theorem fwA_le {c : Nat → Nat} {len : Nat} : ∀ (m o v s : Nat), fwA c len m o v = some s → s ≤ len
  | 0, o, v, s, h => by
    rw [fwA] at h
    by_cases q1 : o = 119
    · rw [if_pos q1] at h; cases h
    · rw [if_neg q1] at h
      by_cases q2 : o = 32
      · rw [if_pos q2] at h; cases h; exact Nat.le_refl _
      · rw [if_neg q2] at h
        by_cases q3 : v = 0
        · rw [if_pos q3] at h; cases h; exact Nat.le_refl _
        · rw [if_neg q3] at h; cases h
  | m + 1, o, v, s, h => by
    have out : some (len - (m + 1)) = some s → s ≤ len := fun z => by cases z; omega
    rw [fwA] at h
    by_cases q1 : o = 32
    · rw [if_pos q1] at h
      by_cases q2 : c (len - (m + 1)) = 103 ∨ c (len - (m + 1)) = 98 ∨ c (len - (m + 1)) = 119
      · rw [if_pos q2] at h; exact fwA_le m _ _ s h
      · rw [if_neg q2] at h; exact out h
    · rw [if_neg q1] at h
      by_cases q2 : c (len - (m + 1)) = 59
      · rw [if_pos q2] at h
        by_cases q3 : o = 119
        · rw [if_pos q3] at h; exact fwA_le m _ _ s h
        · rw [if_neg q3] at h
          by_cases q4 : v = 0
          · rw [if_pos q4] at h; exact out h
          · rw [if_neg q4] at h; exact fwA_le m _ _ s h
      · rw [if_neg q2] at h
        by_cases q3 : o = 119 ∨ c (len - (m + 1)) < 48 ∨ 57 < c (len - (m + 1)) ∨ v = 1
        · rw [if_pos q3] at h; exact out h
        · rw [if_neg q3] at h
          by_cases q4 : (if v = 0 then c (len - (m + 1)) - 48 else 10 * (v - 1) + (c (len - (m + 1)) - 48)) ≤ (if o = 103 then 39 else 120)
          · rw [if_pos q4] at h; exact fwA_le m _ _ s h
          · rw [if_neg q4] at h; exact out h
