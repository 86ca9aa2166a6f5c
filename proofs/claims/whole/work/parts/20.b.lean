/-! ===== settings ===== -/
def stgM (M : GM) (k v : Nat) : GM := (mN M, mC M, mH M, mW M, mL M, un (mS M) k v, mR M, mT M, mA M, mK M)
def okSet (k v : Nat) : Prop := (k = 0 ∧ 1 ≤ v ∧ v ≤ 4) ∨ (k = 1 ∧ 10 ≤ v ∧ v ≤ 200) ∨ (k = 2 ∧ v ≤ 4) ∨ (k = 3 ∧ v ≤ 3)
theorem Good.stg {M : GM} (h : Good M) {k v : Nat} (hv : okSet k v) : Good (stgM M k v) := by
  obtain ⟨w1, w2, w3, w4, w5, w6, w7, w8, w9⟩ := h.1
  refine ⟨⟨w1, w2, w3, w4, w5, ?_, ?_, ?_, ?_⟩, h.2.1, h.2.2⟩
  · show 1 ≤ un (mS M) k v 0 ∧ un (mS M) k v 0 ≤ 4
    by_cases q : 0 = k
    · subst q
      rw [un_s]
      unfold okSet at hv
      omega
    · rw [un_n q]; exact w6
  · show 10 ≤ un (mS M) k v 1 ∧ un (mS M) k v 1 ≤ 200
    by_cases q : 1 = k
    · subst q
      rw [un_s]
      unfold okSet at hv
      omega
    · rw [un_n q]; exact w7
  · show un (mS M) k v 2 ≤ 4
    by_cases q : 2 = k
    · subst q
      rw [un_s]
      unfold okSet at hv
      omega
    · rw [un_n q]; exact w8
  · show un (mS M) k v 3 ≤ 3
    by_cases q : 3 = k
    · subst q
      rw [un_s]
      unfold okSet at hv
      omega
    · rw [un_n q]; exact w9
theorem RepR_stg {f : Nat → Int32} {M : GM} (h : RepR f M) {k v : Nat} (hk : k < 4) : RepR (upd f (2 + k) (nI v)) (stgM M k v) := by
  refine ⟨?_, fun g hg => ?_, fun g hg => ?_, fun g hg => ?_, ?_, fun j hj => ?_, ?_, ?_, ?_, ?_⟩
  · rw [pk_un (by omega)]; exact h.1
  · rw [pk_un (by omega)]; exact h.2.1 g hg
  · rw [pk_un (by omega)]; exact h.2.2.1 g hg
  · rw [pk_un (by omega)]; exact h.2.2.2.1 g hg
  · rw [pk_un (by omega)]; exact h.2.2.2.2.1
  · show _ = nI (un (mS M) k v j)
    by_cases q : j = k
    · rw [q, pk_us, un_s]
    · rw [pk_un (by omega), un_n q]; exact h.2.2.2.2.2.1 j hj
  · rw [pk_un (by omega)]; exact h.2.2.2.2.2.2.1
  · rw [pk_un (by omega)]; exact h.2.2.2.2.2.2.2.1
  · rw [pk_un (by omega)]; exact h.2.2.2.2.2.2.2.2.1
  · rw [pk_un (by omega)]; exact h.2.2.2.2.2.2.2.2.2
theorem s_change {S : GX4} {M : GM} (h : RepS S M) {k v : Nat} (hk : k < 4) : ∃ S', fX4_change (nI k) (nI v) S = some (nI (mS M k), S') ∧ RepS S' (stgM M k v) := by
  have e : fX4_change (nI k) (nI v) S = some (nI (mS M k), ((pX4_cells S), (pX4_holders S), (pX4_steps S), (pX4_grainsByCell S), (upd (pX4_settings S) k (nI v)), (pX4_grains S), (pX4_lot S), (pX4_released S), (pX4_lost S), (pX4_gone S), (pX4_walked S))) := by
    unfold fX4_change
    rw [s_setting h hk]
    simp only [Option.bind_some]
    rw [if_neg (i_nz (by omega)), if_neg (show ¬ (4 : Int32) ≤ nI k from i_nle (a := 4) hk (by omega)), gI hk (by omega), i_cl (by omega)]
  refine ⟨_, e, h.1, h.2.1, h.2.2.1, h.2.2.2.1, h.2.2.2.2.1, h.2.2.2.2.2.1, fun j hj => ?_, h.2.2.2.2.2.2.2⟩
  show upd _ _ _ j = nI (un (mS M) k v j)
  by_cases q : j = k
  · rw [q, pk_us, un_s]
  · rw [pk_un q, un_n q]; exact h.2.2.2.2.2.2.1 j hj
theorem r_inG (x : Int32) {a b : Nat} (hab : a ≤ b) (hb : b + 1 < 2147483648) : (∃ v, a ≤ v ∧ v ≤ b ∧ x = nI v ∧ fX8_in x (nI a) (nI b) = some 1) ∨ fX8_in x (nI a) (nI b) = some 0 := by
  rcases i_any x (n := b + 1) hb with q | q | ⟨j, hj, rfl⟩
  · refine Or.inr ?_
    unfold fX8_in
    rw [if_pos (Int32.lt_of_lt_of_le q (i_pz (by omega)))]
  · refine Or.inr ?_
    have h := i_hi hb q
    unfold fX8_in
    by_cases z : x < nI a
    · rw [if_pos z]
    · rw [if_neg z, if_pos h.2.2.1]
  · rw [r_in (by omega) (by omega) (by omega)]
    by_cases q : a ≤ j ∧ j ≤ b
    · rw [if_pos q]
      exact Or.inl ⟨j, q.1, q.2, rfl, rfl⟩
    · rw [if_neg q]
      exact Or.inr rfl
theorem i_43 (x : Int32) : 4 ≤ x ↔ 3 < x := by
  rw [Int32.le_iff_toInt_le, Int32.lt_iff_toInt_lt, show (4 : Int32).toInt = 4 from by decide, show (3 : Int32).toInt = 3 from by decide]
  omega
/-- both test a setting alike -/
theorem b_set (a1 a2 : Int32) : (∃ (k v : Nat) (lo hi : Int32), k < 4 ∧ okSet k v ∧ a1 = nI k ∧ a2 = nI v ∧ fX7_isSettingValue a1 a2 = some 1 ∧ fX8_in a1 0 3 = some 1 ∧ fX8_leastOf a1 = some lo ∧ fX8_mostOf a1 = some hi ∧ fX8_in a2 lo hi = some 1) ∨ (fX7_isSettingValue a1 a2 = some 0 ∧ (fX8_in a1 0 3 = some 0 ∨ (fX8_in a1 0 3 = some 1 ∧ ∃ lo hi, fX8_leastOf a1 = some lo ∧ fX8_mostOf a1 = some hi ∧ fX8_in a2 lo hi = some 0))) := by
  rw [show (3 : Int32) = nI 3 from rfl]
  rcases r_in0 a1 (n := 3) (by omega) with ⟨k, hk, rfl, e⟩ | ⟨e, q⟩
  · rcases (show k = 0 ∨ k = 1 ∨ k = 2 ∨ k = 3 by omega) with rfl | rfl | rfl | rfl
    · have s : fX7_isSettingValue (nI 0) a2 = fX8_in a2 (nI 1) (nI 4) := by
        unfold fX7_isSettingValue
        rw [if_pos (show nI 0 = (0 : Int32) from rfl)]
        rfl
      rw [s]
      rcases r_inG a2 (a := 1) (b := 4) (by omega) (by omega) with ⟨v, h1, h2, rfl, e2⟩ | e2
      · exact Or.inl ⟨0, v, nI 1, nI 4, by omega, Or.inl ⟨rfl, h1, h2⟩, rfl, rfl, e2, e, rfl, rfl, e2⟩
      · exact Or.inr ⟨e2, Or.inr ⟨e, nI 1, nI 4, rfl, rfl, e2⟩⟩
    · have s : fX7_isSettingValue (nI 1) a2 = fX8_in a2 (nI 10) (nI 200) := by
        unfold fX7_isSettingValue
        rw [if_neg (show ¬ nI 1 = (0 : Int32) by decide), if_pos (show nI 1 = (1 : Int32) from rfl)]
        rfl
      rw [s]
      rcases r_inG a2 (a := 10) (b := 200) (by omega) (by omega) with ⟨v, h1, h2, rfl, e2⟩ | e2
      · exact Or.inl ⟨1, v, nI 10, nI 200, by omega, Or.inr (Or.inl ⟨rfl, h1, h2⟩), rfl, rfl, e2, e, rfl, rfl, e2⟩
      · exact Or.inr ⟨e2, Or.inr ⟨e, nI 10, nI 200, rfl, rfl, e2⟩⟩
    · have s : fX7_isSettingValue (nI 2) a2 = fX8_in a2 (nI 0) (nI 4) := by
        unfold fX7_isSettingValue
        rw [if_neg (show ¬ nI 2 = (0 : Int32) by decide), if_neg (show ¬ nI 2 = (1 : Int32) by decide), if_pos (show nI 2 = (2 : Int32) from rfl)]
        rfl
      rw [s]
      rcases r_inG a2 (a := 0) (b := 4) (by omega) (by omega) with ⟨v, h1, h2, rfl, e2⟩ | e2
      · exact Or.inl ⟨2, v, nI 0, nI 4, by omega, Or.inr (Or.inr (Or.inl ⟨rfl, h2⟩)), rfl, rfl, e2, e, rfl, rfl, e2⟩
      · exact Or.inr ⟨e2, Or.inr ⟨e, nI 0, nI 4, rfl, rfl, e2⟩⟩
    · have s : fX7_isSettingValue (nI 3) a2 = fX8_in a2 (nI 0) (nI 3) := by
        unfold fX7_isSettingValue fX8_in
        rw [if_neg (show ¬ nI 3 = (0 : Int32) by decide), if_neg (show ¬ nI 3 = (1 : Int32) by decide), if_neg (show ¬ nI 3 = (2 : Int32) by decide), if_pos (show nI 3 = (3 : Int32) from rfl), ifc (i_43 a2)]
        rfl
      rw [s]
      rcases r_inG a2 (a := 0) (b := 3) (by omega) (by omega) with ⟨v, h1, h2, rfl, e2⟩ | e2
      · exact Or.inl ⟨3, v, nI 0, nI 3, by omega, Or.inr (Or.inr (Or.inr ⟨rfl, h2⟩)), rfl, rfl, e2, e, rfl, rfl, e2⟩
      · exact Or.inr ⟨e2, Or.inr ⟨e, nI 0, nI 3, rfl, rfl, e2⟩⟩
  · refine Or.inr ⟨?_, Or.inl e⟩
    unfold fX7_isSettingValue
    rw [if_neg (show ¬ a1 = (0 : Int32) from i_ne (j := 0) (by omega) q (by omega)), if_neg (show ¬ a1 = (1 : Int32) from i_ne (j := 1) (by omega) q (by omega)), if_neg (show ¬ a1 = (2 : Int32) from i_ne (j := 2) (by omega) q (by omega)), if_neg (show ¬ a1 = (3 : Int32) from i_ne (j := 3) (by omega) q (by omega))]
theorem pf_set : st_set Inv := by
  intro V G a1 a2 ⟨hT, hH, hK, hX, hY⟩
  unfold fX7_set fX8_set
  rcases b_set a1 a2 with ⟨k, v, lo, hi, hk, hv, rfl, rfl, e1, e2, e3, e4, e5⟩ | ⟨e1, e2 | ⟨e2, lo, hi, e3, e4, e5⟩⟩
  · rw [e1, e2]
    simp only [Option.bind_some]
    rw [if_neg (show ¬ (1 : Int32) = 0 by decide), if_neg (show ¬ (1 : Int32) = 0 by decide), e3, e4]
    simp only [Option.bind_some]
    rw [e5]
    simp only [Option.bind_some]
    rw [if_neg (show ¬ (1 : Int32) = 0 by decide)]
    obtain ⟨st, gh', P, kn, e6, e7, hH'⟩ := rec_both (gh := V.2.2.2.2.1) hT hH
    obtain ⟨M, gd, hS, hR⟩ := hT
    obtain ⟨S', e8, r8⟩ := s_change hS hk (v := v)
    rw [e6, e7]
    simp only [Option.bind_some]
    rw [e8]
    simp only [Option.bind_some]
    rw [show (2 : Int32) + nI k = nI (2 + k) from i_add 2 k, gI (by omega) (by omega), gI (by omega) (by omega), i_cl (by omega)]
    exact ⟨_, _, rfl, rfl, (hR.2.2.2.2.2.1 k hk).symm, ⟨_, gd.stg hv, r8, RepR_stg hR hk⟩, hH', hK, hX, hY⟩
  · rw [e1, e2]
    simp only [Option.bind_some]
    rw [if_pos trivial, if_pos trivial]
    exact ⟨_, _, rfl, rfl, rfl, hT, hH, hK, hX, hY⟩
  · rw [e1, e2]
    simp only [Option.bind_some]
    rw [if_pos trivial, if_neg (show ¬ (1 : Int32) = 0 by decide), e3, e4]
    simp only [Option.bind_some]
    rw [e5]
    simp only [Option.bind_some]
    rw [if_pos trivial]
    exact ⟨_, _, rfl, rfl, rfl, hT, hH, hK, hX, hY⟩
/-! ===== the pad ===== -/
theorem chr_jc : ∀ c, c < 127 → jchr (nI c) = nI c ∧ vp_nar .char (nI c) = nI c := by decide +kernel
theorem pf_append : st_append Inv := by
  intro V G a1 ⟨hT, hH, hK, hX, hY⟩
  obtain ⟨c, n, hP, x1, x2, x3⟩ := id hX
  unfold fX7_append fX8_append
  rcases r_inG a1 (a := 33) (b := 126) (by omega) (by omega) with ⟨v, h1, h2, rfl, e⟩ | e
  · have hc := chr_jc v (by omega)
    rw [show fX8_in (nI v) 33 126 = some 1 from e, if_neg (show ¬ nI v < 33 from i_nlt (b := 33) h1 (by omega)), if_pos (show nI v ≤ 126 from i_ple (b := 126) h2 (by omega)), hP.1, x1]
    simp only [Option.bind_some]
    rw [if_neg (show ¬ (1 : Int32) = 0 by decide)]
    by_cases q : n < 60
    · rw [if_pos (show nI n < 60 from i_plt (b := 60) q (by omega)), if_neg (show ¬ nI n = 60 from fun z => by
        have := (i_eq (b := 60) (by omega) (by omega)).mp z
        omega), gI q (by omega), i_cl (by omega), hc.1]
      have ew : fX1_write (nI v) V.2.2.2.2.2.2.2.2.2 = some ((upd (pX1_signs V.2.2.2.2.2.2.2.2.2) n (nI v)), nI n + 1, (pX1_next V.2.2.2.2.2.2.2.2.2), (pX1_place V.2.2.2.2.2.2.2.2.2), (pX1_letter V.2.2.2.2.2.2.2.2.2), (pX1_number V.2.2.2.2.2.2.2.2.2)) := by
        unfold fX1_write
        rw [hP.1, if_neg (show ¬ (60 : Int32) ≤ nI n from i_nle (a := 60) q (by omega)), gI q (by omega), i_cl (by omega), hc.2]
      rw [ew]
      simp only [Option.bind_some]
      have hu : ∀ (f : Nat → Int32), (∀ i, i < n → f i = nI (c i)) → ∀ i, i < n + 1 → upd f n (nI v) i = nI (un c n v i) := fun f hf i hi => by
        by_cases z : i = n
        · rw [z, pk_us, un_s]
        · rw [pk_un z, un_n z]; exact hf i (by omega)
      have hb : ∀ (f : Nat → Int32), (∀ i, i < n → f i = nI (c i) ∧ 33 ≤ c i ∧ c i ≤ 126) → ∀ i, i < n + 1 → upd f n (nI v) i = nI (un c n v i) ∧ 33 ≤ un c n v i ∧ un c n v i ≤ 126 := fun f hf i hi => by
        refine ⟨hu f (fun i hi => (hf i hi).1) i hi, ?_⟩
        by_cases z : i = n
        · rw [z, un_s]; exact ⟨h1, h2⟩
        · rw [un_n z]; exact (hf i (by omega)).2
      exact ⟨_, _, rfl, rfl, rfl, hT, hH, hK, ⟨un c n v, n + 1, ⟨i_inc n, by omega, hb _ hP.2.2⟩, i_inc n, by omega, hb _ x3⟩, hY⟩
    · rw [if_neg (show ¬ nI n < 60 from i_nlt (b := 60) (by omega) (by omega)), if_pos (show nI n = 60 by rw [show n = 60 by omega]; rfl)]
      exact ⟨_, _, rfl, rfl, rfl, hT, hH, hK, hX, hY⟩
  · have e' := e
    unfold fX8_in at e'
    have ec : ∀ {α : Type} {a b : α}, (if a1 < 33 then a else (if a1 ≤ 126 then b else a)) = a := fun {α a b} => by
      by_cases q1 : a1 < 33
      · rw [if_pos q1]
      · rw [if_neg q1]
        by_cases q2 : a1 ≤ 126
        · exfalso
          rw [if_neg (show ¬ a1 < nI 33 from q1), if_neg (show ¬ nI 126 < a1 from fun z => Int32.lt_irrefl (Int32.lt_of_lt_of_le z q2))] at e'
          exact absurd (Option.some.inj e') (by decide)
        · rw [if_neg q2]
    rw [show fX8_in a1 33 126 = some 0 from e, ec]
    simp only [Option.bind_some]
    rw [if_pos trivial]
    exact ⟨_, _, rfl, rfl, rfl, hT, hH, hK, hX, hY⟩
theorem pf_clear : st_clear Inv := by
  intro V G ⟨hT, hH, hK, hX, hY⟩
  obtain ⟨c, n, hP, x1, x2, x3⟩ := hX
  exact ⟨_, _, rfl, rfl, hP.1.trans x1.symm, hT, hH, hK, ⟨c, 0, ⟨rfl, by omega, fun i hi => absurd hi (Nat.not_lt_zero _)⟩, rfl, by omega, fun i hi => absurd hi (Nat.not_lt_zero _)⟩, hY⟩
theorem pf_fault : st_fault Inv := by
  intro V G ⟨hT, hH, hK, hX, hY⟩
  obtain ⟨c, n, hP, hx⟩ := id hX
  obtain ⟨G1, e1, f1, f2, f3⟩ := r_text (c := c) (len := n) (G := G) hx
  unfold fX7_fault fX8_fault
  rw [s_firstWrong hP, e1]
  simp only [Option.bind_some]
  have hi : Inv V G1 := ⟨by rw [f1.s]; exact hT, hH.fq f1.fq, hK.fq f1.fq, hX.fq f1.fq, hY.wh f1.wh⟩
  cases ew : fwT c n with
  | none =>
    rw [if_neg (show ¬ (if (none : Option Nat).isNone = true then (1 : Int32) else 0) = 0 by decide)]
    exact ⟨_, _, rfl, rfl, rfl, hi⟩
  | some s =>
    rw [if_pos (show (if (some s : Option Nat).isNone = true then (1 : Int32) else 0) = 0 from rfl)]
    exact ⟨_, _, rfl, rfl, (f2 s ew).symm, hi⟩
theorem pf_carryOut : st_carryOut Inv := by
  intro V G ⟨hT, hH, hK, hX, hY⟩
  obtain ⟨c, n, hP, hx⟩ := id hX
  have hn := hP.2.1
  obtain ⟨G1, e1, f1, f2, f3⟩ := r_text (c := c) (len := n) (G := G) hx
  have hT1 : Two V.2.1 (pX8_s G1) := by rw [f1.s]; exact hT
  have hH1 := hH.fq f1.fq
  have hK1 := hK.fq f1.fq
  have hX1 := hX.fq f1.fq
  have hY1 := hY.wh f1.wh
  unfold fX7_carryOut fX8_carryOut
  rw [s_firstWrong hP, e1]
  simp only [Option.bind_some]
  have h4 : oI (fwT c n) = -4 ↔ fwT c n = none := oI_n4 (fun k e => by
    have := fwA_le n 32 0 k e
    omega)
  cases ew : fwT c n with
  | some s =>
    rw [ew] at h4
    rw [if_neg (show ¬ oI (some s) = -4 from fun z => by have := h4.mp z; cases this), if_pos (show (if (some s : Option Nat).isNone = true then (1 : Int32) else 0) = 0 from rfl)]
    exact ⟨_, _, rfl, rfl, rfl, hT1, hH1, hK1, hX1, hY1⟩
  | none =>
    rw [if_pos (show oI none = -4 from rfl), if_neg (show ¬ (if (none : Option Nat).isNone = true then (1 : Int32) else 0) = 0 by decide)]
    obtain ⟨st, gh', P, kn, e2, e3, hH'⟩ := rec_both (gh := V.2.2.2.2.1) hT1 hH1
    rw [e2, e3]
    simp only [Option.bind_some]
    rw [ew] at f3
    obtain ⟨o, o', a1, a2, a3, a4, a5, a6, a7, a8⟩ := carry_go (c := c) (len := n) (n + 1) 0 0 FU FU (st, V.1.2.1, 0, V.1.2.2.2) V.2.1 V.2.2.2.2.2.1 V.2.2.2.2.2.2.1 ((pX1_signs V.2.2.2.2.2.2.2.2.2), (pX1_length V.2.2.2.2.2.2.2.2.2), 0, (pX1_place V.2.2.2.2.2.2.2.2.2), (pX1_letter V.2.2.2.2.2.2.2.2.2), (pX1_number V.2.2.2.2.2.2.2.2.2)) ((pX8_s G1), (pX8_aside G1), P, kn, (pX8_kept G1), (pX8_isKept G1), (pX8_pad G1), (pX8_length G1), 0, (pX8_whyNumber G1), (pX8_whySpot G1), (pX8_lots G1), (pX8_walker G1), (pX8_steps G1), (pX8_goes G1), (pX8_becomes G1), 0, (pX8_isForm G1), (pX8_letter G1), (pX8_told G1), (pX8_highest G1)) hT1 hP rfl (f1.x hx) rfl f3 rfl rfl (Or.inr (by rw [Nat.sub_zero]; exact ew)) (by omega) (by omega) (by omega) (by rw [FU_eq]; omega) (by rw [FU_eq]; omega)
    have es : fX1_startReading V.2.2.2.2.2.2.2.2.2 = some ((pX1_signs V.2.2.2.2.2.2.2.2.2), (pX1_length V.2.2.2.2.2.2.2.2.2), 0, (pX1_place V.2.2.2.2.2.2.2.2.2), (pX1_letter V.2.2.2.2.2.2.2.2.2), (pX1_number V.2.2.2.2.2.2.2.2.2)) := rfl
    rw [es]
    simp only [Option.bind_some]
    rw [show lp tX7_carryOut_33 FU (0, (st, V.1.2.1, 0, V.1.2.2.2.1, V.1.2.2.2.2), V.2.1, V.2.2.2.2.2.1, V.2.2.2.2.2.2.1, ((pX1_signs V.2.2.2.2.2.2.2.2.2), (pX1_length V.2.2.2.2.2.2.2.2.2), 0, (pX1_place V.2.2.2.2.2.2.2.2.2), (pX1_letter V.2.2.2.2.2.2.2.2.2), (pX1_number V.2.2.2.2.2.2.2.2.2))) = some o from a1, show lp tX8_carryOut_26 FU (0, ((pX8_s G1), (pX8_aside G1), P, kn, (pX8_kept G1), (pX8_isKept G1), (pX8_pad G1), (pX8_length G1), 0, (pX8_whyNumber G1), (pX8_whySpot G1), (pX8_lots G1), (pX8_walker G1), (pX8_steps G1), (pX8_goes G1), (pX8_becomes G1), 0, (pX8_isForm G1), (pX8_letter G1), (pX8_told G1), (pX8_highest G1))) = some o' from a2]
    simp only [Option.bind_some]
    have hH2 := HI.fq (G := ((pX8_s G1), (pX8_aside G1), P, kn, (pX8_kept G1), (pX8_isKept G1), (pX8_pad G1), (pX8_length G1), 0, (pX8_whyNumber G1), (pX8_whySpot G1), (pX8_lots G1), (pX8_walker G1), (pX8_steps G1), (pX8_goes G1), (pX8_becomes G1), 0, (pX8_isForm G1), (pX8_letter G1), (pX8_told G1), (pX8_highest G1))) hH' a8
    have hK2 := KI.fq (G := ((pX8_s G1), (pX8_aside G1), P, kn, (pX8_kept G1), (pX8_isKept G1), (pX8_pad G1), (pX8_length G1), 0, (pX8_whyNumber G1), (pX8_whySpot G1), (pX8_lots G1), (pX8_walker G1), (pX8_steps G1), (pX8_goes G1), (pX8_becomes G1), 0, (pX8_isForm G1), (pX8_letter G1), (pX8_told G1), (pX8_highest G1))) hK1 a8
    have a5' : pX7_states o.2.1 = st := a5
    have a6' : pX7_saved o.2.1 = pX7_saved V.1 := a6
    rw [← a5'] at hH2
    rw [← a6'] at hK2
    exact ⟨_, _, rfl, rfl, a3, a4, hH2, hK2, ⟨c, 0, ⟨rfl, by omega, fun i hi => absurd hi (Nat.not_lt_zero _)⟩, rfl, by omega, fun i hi => absurd hi (Nat.not_lt_zero _)⟩, a7⟩
theorem pf_why : st_why Inv := by
  intro V G a1 hI
  have hY := hI.2.2.2.2
  unfold fX7_why fX8_why
  rw [show (2 : Int32) = nI 2 from rfl]
  rcases r_in0 a1 (n := 2) (by omega) with ⟨b, hb, rfl, e⟩ | ⟨e, q⟩
  · rw [e, if_neg (i_nz (by omega)), if_pos (i_ple hb (by omega))]
    simp only [Option.bind_some]
    rw [if_neg (show ¬ (1 : Int32) = 0 by decide)]
    have y1 : pX7_stopError V.1 = pX8_whyError G := hY.1
    by_cases q : pX8_whyError G = 0
    · rw [if_pos (y1.trans q), if_pos q]
      exact ⟨_, _, rfl, rfl, rfl, hI⟩
    · have y2 := hY.2 (fun z => q (y1.symm.trans z))
      rw [if_neg (fun z => q (y1.symm.trans z)), if_neg q]
      rcases (show b = 0 ∨ b = 1 ∨ b = 2 by omega) with rfl | rfl | rfl
      · rw [if_pos (show nI 0 = (0 : Int32) from rfl), if_pos (show nI 0 = (0 : Int32) from rfl)]
        exact ⟨_, _, rfl, rfl, y1, hI⟩
      · rw [if_neg (show ¬ nI 1 = (0 : Int32) by decide), if_neg (show ¬ nI 1 = (0 : Int32) by decide), if_pos (show nI 1 = (1 : Int32) from rfl), if_pos (show nI 1 = (1 : Int32) from rfl)]
        exact ⟨_, _, rfl, rfl, y2.1, hI⟩
      · rw [if_neg (show ¬ nI 2 = (0 : Int32) by decide), if_neg (show ¬ nI 2 = (0 : Int32) by decide), if_neg (show ¬ nI 2 = (1 : Int32) by decide), if_neg (show ¬ nI 2 = (1 : Int32) by decide)]
        exact ⟨_, _, rfl, rfl, y2.2, hI⟩
  · rw [i_out (by omega) q, e]
    simp only [Option.bind_some]
    rw [if_pos trivial]
    exact ⟨_, _, rfl, rfl, rfl, hI⟩
