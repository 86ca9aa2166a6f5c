/-! ===== p28: loops by an invariant; numbers drawn below n; the digest of an object ===== -/
theorem lpP_inv {σ ω : Type} {step : σ → (σ → Prop) → (ω → Prop) → Prop} (I : Nat → σ → Prop) (Q : ω → Prop) (N : Nat) {K : ω → Prop} (hs : ∀ i s (KB : σ → Prop) (KX : ω → Prop), i < N → I i s → (∀ s', I (i + 1) s' → KB s') → step s KB KX) (he : ∀ s (KB : σ → Prop) (KX : ω → Prop), I N s → (∀ o, Q o → KX o) → step s KB KX) (hK : ∀ o, Q o → K o) : ∀ (n k : Nat) (s : σ), N - k < n → k ≤ N → I k s → lpP step n s K
  | 0, _, _, hn, _, _ => absurd hn (Nat.not_lt_zero _)
  | n + 1, k, s, hn, hk, h => by
    show step s (fun s' => lpP step n s' K) K
    by_cases q : k = N
    · subst q
      exact he s _ _ h hK
    · exact hs k s _ _ (by omega) h (fun s' h' => lpP_inv I Q N hs he hK n (k + 1) s' (by omega) (by omega) h')
theorem and_ok (v : Int32) : ∃ m, m < 2147483648 ∧ v &&& 2147483647 = nI m := by
  have e : (v &&& 2147483647).toBitVec.toNat ≤ 2147483647 := by
    rw [Int32.toBitVec_and, BitVec.toNat_and]
    exact Nat.le_trans Nat.and_le_right (show (2147483647 : Int32).toBitVec.toNat ≤ 2147483647 by decide)
  have t : (v &&& 2147483647).toInt = ((v &&& 2147483647).toBitVec.toNat : Int) := BitVec.toInt_eq_toNat_of_lt (by omega)
  refine ⟨(v &&& 2147483647).toBitVec.toNat, by omega, Int32.toInt_inj.mp ?_⟩
  rw [t, nI_toInt (by omega)]
theorem low_ok (v : Int32) {n : Nat} (h0 : 0 < n) (hn : n < 2147483648) : ∃ j, j < n ∧ lwA28 v (nI n) = nI j := by
  obtain ⟨m, hm, e⟩ := and_ok v
  refine ⟨m % n, Nat.mod_lt _ h0, ?_⟩
  unfold lwA28
  rw [e, i_rem hm h0 hn]
theorem ix_m1 {n : Nat} : ix (-1) n = none := by
  unfold ix
  rw [if_neg (fun z => absurd z.1 (by decide))]
theorem ix_ge {j n : Nat} (h : n ≤ j) (hj : j < 2147483648) : ix (nI j) n = none := by
  unfold ix
  rw [if_neg (fun z => i_nlt h hj z.2)]
theorem pi_sub (x k r t a : Int32) (h : x + (t + a) = r + k) : x - k = r - t - a := by
  rw [Int32.sub_sub, Int32.sub_eq_iff_eq_add, Int32.eq_sub_iff_add_eq.mpr h, Int32.sub_eq_add_neg, Int32.sub_eq_add_neg, Int32.add_assoc, Int32.add_comm k, ← Int32.add_assoc]
theorem nI_cnt {p : Nat → Bool} {i : Nat} {b : Prop} [Decidable b] (hb : p i = true ↔ b) : nI (cnt p i) + (if b then 1 else 0) = nI (cnt p (i + 1)) := by
  rw [cnt]
  by_cases q : b
  · rw [if_pos q, if_pos (hb.mpr q)]
    exact i_inc _
  · rw [if_neg q, if_neg (fun z => q (hb.mp z))]
    exact i_add _ 0
theorem cel_0 {M : GM} {c : Nat} (hc : c < 121) : celA M (nI c) 0 = oI (at_ M c) := by
  unfold celA
  rw [ix_nI hc (by omega), show ix (0 : Int32) 4 = some 0 from ix_nI (j := 0) (by omega) (by omega)]
  rfl
theorem cel_1 {M : GM} {c : Nat} (hc : c < 121) : celA M (nI c) 1 = nI (ring c) := by
  unfold celA
  rw [ix_nI hc (by omega), show ix (1 : Int32) 4 = some 1 from ix_nI (j := 1) (by omega) (by omega)]
  rfl
theorem cel_2 {M : GM} {c : Nat} (hc : c < 121) : celA M (nI c) 2 = nI (bsd M c) := by
  unfold celA
  rw [ix_nI hc (by omega), show ix (2 : Int32) 4 = some 2 from ix_nI (j := 2) (by omega) (by omega)]
  rfl
theorem lng_0 (M : GM) : lngA M 0 = nI (lng M) := by
  unfold lngA
  rw [show ix (0 : Int32) 2 = some 0 from ix_nI (j := 0) (by omega) (by omega)] <;> rfl
theorem lng_1 (M : GM) : lngA M 1 = nI (lng M) := by
  unfold lngA
  rw [show ix (1 : Int32) 2 = some 1 from ix_nI (j := 1) (by omega) (by omega)] <;> rfl
def lkA (f : Nat → Int32) (i0 : Nat) (h0 : Int64) : Nat → Int64
  | 0 => h0
  | i + 1 => (31 : Int64) * lkA f i0 h0 i + Int32.toInt64 (f (i0 + i))
theorem lkA_ext {f g : Nat → Int32} {i0 : Nat} {h0 : Int64} : ∀ {n : Nat}, (∀ i, i < n → f (i0 + i) = g (i0 + i)) → lkA f i0 h0 n = lkA g i0 h0 n
  | 0, _ => rfl
  | n + 1, h => by rw [lkA, lkA, lkA_ext (fun i hi => h i (by omega)), h n (by omega)]
def lkG (M : GM) (h0 : Int64) : Nat → Int64
  | 0 => h0
  | i + 1 => (31 : Int64) * ((31 : Int64) * ((31 : Int64) * lkG M h0 i + Int32.toInt64 (grnA M (nI i) 0)) + Int32.toInt64 (grnA M (nI i) 1)) + Int32.toInt64 (grnA M (nI i) 8)
def lkH (b : AS) : Int64 := (31 : Int64) * ((31 : Int64) * (379 : Int64) + Int32.toInt64 (cotA b 0)) + Int32.toInt64 (cotA b 17)
def lookV (b : AS) : Int64 := lkG b.1 (lkA (fun k => cotA b (nI k)) 13 (lkA (fun k => cotA b (nI k)) 7 (lkH b) 4) 4) (mN b.1)
theorem lookV_ext {a b : AS} (h : a.1 = b.1) : lookV a = lookV b := by
  unfold lookV lkH
  rw [cot_0, cot_0, cot_17, cot_17, h, lkA_ext (f := fun k => cotA a (nI k)) (g := fun k => cotA b (nI k)) (i0 := 7) (n := 4) (fun i hi => cot_ext h (by omega)), lkA_ext (f := fun k => cotA a (nI k)) (g := fun k => cotA b (nI k)) (i0 := 13) (n := 4) (fun i hi => cot_ext h (by omega))]
theorem look_run {b : AS} (hn : mN b.1 ≤ 121) {K : Int64 → Prop} (hK : K (lookV b)) : gL_look b K := by
  unfold gL_look
  refine lpP_inv (fun i s => s = (lkA (fun k => cotA b (nI k)) 7 (lkH b) i, nI (7 + i))) (fun o => o = lkA (fun k => cotA b (nI k)) 7 (lkH b) 4) 4 ?_ ?_ ?_ FU 0 _ (by rw [FU_eq]; omega) (by omega) rfl
  · intro i s KB KX hi hs hk
    subst hs
    unfold tL_look_32
    try dsimp only
    rw [if_neg (show ¬ (11 : Int32) ≤ nI (7 + i) from i_nle (a := 11) (by omega) (by omega)), i_inc]
    exact hk _ rfl
  · intro s KB KX hs hk
    subst hs
    unfold tL_look_32
    try dsimp only
    rw [if_pos (show (11 : Int32) ≤ nI (7 + 4) from i_ple (a := 11) (by omega) (by omega))]
    exact hk _ rfl
  · intro o ho
    subst ho
    refine lpP_inv (fun i s => s = (lkA (fun k => cotA b (nI k)) 13 (lkA (fun k => cotA b (nI k)) 7 (lkH b) 4) i, nI (13 + i))) (fun o => o = lkA (fun k => cotA b (nI k)) 13 (lkA (fun k => cotA b (nI k)) 7 (lkH b) 4) 4) 4 ?_ ?_ ?_ FU 0 _ (by rw [FU_eq]; omega) (by omega) rfl
    · intro i s KB KX hi hs hk
      subst hs
      unfold tL_look_60
      try dsimp only
      rw [if_neg (show ¬ (17 : Int32) ≤ nI (13 + i) from i_nle (a := 17) (by omega) (by omega)), i_inc]
      exact hk _ rfl
    · intro s KB KX hs hk
      subst hs
      unfold tL_look_60
      try dsimp only
      rw [if_pos (show (17 : Int32) ≤ nI (13 + 4) from i_ple (a := 17) (by omega) (by omega))]
      exact hk _ rfl
    · intro o ho
      subst ho
      refine lpP_inv (fun i s => s = (lkG b.1 (lkA (fun k => cotA b (nI k)) 13 (lkA (fun k => cotA b (nI k)) 7 (lkH b) 4) 4) i, nI i)) (fun o => o = lookV b) (mN b.1) ?_ ?_ ?_ FU 0 _ (by rw [FU_eq]; omega) (by omega) rfl
      · intro i s KB KX hi hs hk
        subst hs
        unfold tL_look_87
        try dsimp only
        rw [cot_0, if_neg (i_nle hi (by omega)), i_inc]
        exact hk _ rfl
      · intro s KB KX hs hk
        subst hs
        unfold tL_look_87
        try dsimp only
        rw [cot_0, if_pos (i_ple (Nat.le_refl _) (by omega))]
        exact hk _ rfl
      · intro o ho
        subst ho
        exact hK
