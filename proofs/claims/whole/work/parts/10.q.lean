/-! ===== texts: the reference ===== -/
def RepX (G : GX8) (c : Nat → Nat) (len : Nat) : Prop := pX8_length G = nI len ∧ len ≤ 60 ∧ ∀ i, i < len → pX8_pad G i = nI (c i) ∧ 33 ≤ c i ∧ c i ≤ 126
def atT (c : Nat → Nat) (len p : Nat) : Nat := if p < len then c p else 0
abbrev ftK (G : GX8) := (pX8_s G, pX8_past G, pX8_known G, pX8_kept G, pX8_isKept G, pX8_pad G, pX8_length G, pX8_whyError G, pX8_whyNumber G, pX8_whySpot G)
def Ft (G G' : GX8) : Prop := ftK G' = ftK G
theorem Ft.tr {G H K : GX8} (a : Ft G H) (b : Ft H K) : Ft G K := Eq.trans b a
theorem Ft.pad {G H : GX8} (a : Ft G H) : pX8_pad H = pX8_pad G := congrArg (fun x => x.2.2.2.2.2.1) a
theorem Ft.len {G H : GX8} (a : Ft G H) : pX8_length H = pX8_length G := congrArg (fun x => x.2.2.2.2.2.2.1) a
theorem Ft.x {G H : GX8} (a : Ft G H) {c : Nat → Nat} {len : Nat} (h : RepX G c len) : RepX H c len := ⟨a.len.trans h.1, h.2.1, fun i hi => by rw [a.pad]; exact h.2.2 i hi⟩
theorem atT_lt {G : GX8} {c : Nat → Nat} {len : Nat} (h : RepX G c len) (p : Nat) : atT c len p < 127 := by
  unfold atT
  by_cases q : p < len
  · rw [if_pos q]; have := (h.2.2 p q).2.2; omega
  · rw [if_neg q]; omega
theorem r_here {G : GX8} {c : Nat → Nat} {len p : Nat} (h : RepX G c len) (hs : pX8_spot G = nI p) (hp : p < 1000) : fX8_here G = some (nI (atT c len p)) := by
  have hl := h.2.1
  unfold fX8_here atT
  rw [h.1, hs, ifc (i_le (by omega) (by omega))]
  by_cases q : p < len
  · rw [if_neg (by omega), if_pos q]
    rw [gI (by omega) (by omega), i_cl (by omega), (h.2.2 p q).1]
  · rw [if_pos (by omega), if_neg q]; rfl
theorem r_in {a x b : Nat} (ha : a < 2147483648) (hx : x < 2147483648) (hb : b < 2147483648) : fX8_in (nI x) (nI a) (nI b) = some (if a ≤ x ∧ x ≤ b then 1 else 0) := by
  unfold fX8_in
  rw [ifc (i_lt hx ha), ifc (i_lt hb hx)]
  by_cases q : x < a
  · rw [if_pos q, if_neg (by omega)]
  · rw [if_neg q]
    by_cases q2 : b < x
    · rw [if_pos q2, if_neg (by omega)]
    · rw [if_neg q2, if_pos (by omega)]
theorem r_tk1 {G : GX8} {p : Nat} (hs : pX8_spot G = nI p) (hf : pX8_isForm G = 1) (b : Bool) : ∃ G', fX8_takes (if b then 1 else 0) G = some G' ∧ Ft G G' ∧ pX8_spot G' = nI (if b then p + 1 else p) ∧ pX8_isForm G' = (if b then 1 else 0) ∧ pX8_letter G' = pX8_letter G ∧ pX8_told G' = pX8_told G := by
  unfold fX8_takes jX8_takes_3 jX8_takes_1 jX8_takes_2 jgz
  rw [hf, if_neg (show ¬ (1 : Int32) = 0 by decide), hs]
  cases b with
  | true =>
    rw [if_neg (show ¬ (if true = true then (1 : Int32) else 0) = 0 by decide), if_pos (Or.inr rfl), if_neg (show ¬ (1 : Int32) = 0 by decide), i_inc]
    exact ⟨_, rfl, rfl, rfl, rfl, rfl, rfl⟩
  | false =>
    rw [if_pos (show (if false = true then (1 : Int32) else 0) = 0 by decide), if_pos (Or.inl rfl), if_pos rfl, i_p0]
    exact ⟨_, rfl, rfl, rfl, rfl, rfl, rfl⟩
theorem r_tk0 {G : GX8} {p : Nat} (hs : pX8_spot G = nI p) (hf : pX8_isForm G = 0) (x : Int32) : ∃ G', fX8_takes x G = some G' ∧ Ft G G' ∧ pX8_spot G' = nI p ∧ pX8_isForm G' = 0 ∧ pX8_letter G' = pX8_letter G ∧ pX8_told G' = pX8_told G := by
  unfold fX8_takes jX8_takes_3 jX8_takes_1 jX8_takes_2 jgz
  rw [hf, if_pos rfl, hs, if_pos (Or.inl rfl), if_pos rfl, i_p0]
  exact ⟨_, rfl, rfl, rfl, rfl, rfl, rfl⟩
/-- the number of n signs from q on, behind t -/
def valF (c : Nat → Nat) (q t : Nat) : Nat → Nat
  | 0 => t
  | n + 1 => 10 * valF c q t n + (c (q + n) - 48)
theorem valF_cons (c : Nat → Nat) (q t : Nat) : ∀ n, valF c q t (n + 1) = valF c (q + 1) (10 * t + (c q - 48)) n
  | 0 => rfl
  | n + 1 => by
    rw [valF, valF_cons c q t n, valF, show q + (n + 1) = q + 1 + n by omega]
def mo (o : Nat) : Nat := if o = 103 then 39 else 120
theorem mo_le (o : Nat) : mo o ≤ 120 := by unfold mo; split <;> omega
theorem fwA_dig {c : Nat → Nat} {len q o v : Nat} (hq : q < len) (ho : o = 103 ∨ o = 98) (h1 : 48 ≤ c q) (h2 : c q ≤ 57) (hv : v ≠ 1) (hm : (if v = 0 then c q - 48 else 10 * (v - 1) + (c q - 48)) ≤ mo o) : fwA c len (len - q) o v = fwA c len (len - (q + 1)) o ((if v = 0 then c q - 48 else 10 * (v - 1) + (c q - 48)) + 1) := by
  rw [show len - q = (len - (q + 1)) + 1 by omega, fwA, show len - (len - (q + 1) + 1) = q by omega, if_neg (show ¬ o = 32 by omega), if_neg (show ¬ c q = 59 by omega), if_neg (by omega)]
  unfold mo at hm
  rw [if_pos hm]
theorem fwA_stop {c : Nat → Nat} {len q o v : Nat} (hq : q < len) (ho : o = 103 ∨ o = 98) (hne : c q ≠ 59) (hs : 48 ≤ c q → c q ≤ 57 → v ≠ 1 → mo o < (if v = 0 then c q - 48 else 10 * (v - 1) + (c q - 48))) : fwA c len (len - q) o v = some q := by
  rw [show len - q = (len - (q + 1)) + 1 by omega, fwA, show len - (len - (q + 1) + 1) = q by omega, if_neg (show ¬ o = 32 by omega), if_neg hne]
  by_cases q5 : o = 119 ∨ c q < 48 ∨ 57 < c q ∨ v = 1
  · rw [if_pos q5]
  · rw [if_neg q5]
    have := hs (by omega) (by omega) (by omega)
    unfold mo at this
    rw [if_neg (by omega)]
theorem fwA_32 (c : Nat → Nat) (len v : Nat) : ∀ m, fwA c len m 32 v = fwA c len m 32 0
  | 0 => by rw [fwA, fwA, if_neg (by omega), if_pos rfl, if_neg (by omega), if_pos rfl]
  | m + 1 => by rw [fwA, fwA, if_pos rfl, if_pos rfl]
/-- what is left behind a deed that ends at q -/
def nxt (c : Nat → Nat) (len q : Nat) : Option Nat := if q = len then none else if c q = 59 then fwA c len (len - (q + 1)) 32 0 else some q
theorem r_num_go {o : Nat} (ho : o = 103 ∨ o = 98) {c : Nat → Nat} {len : Nat} : ∀ (m : Nat) (G : GX8) (q t fu : Nat), RepX G c len → pX8_spot G = nI q → pX8_isForm G = 1 → pX8_told G = nI t → q ≤ len → t ≤ mo o → len - q ≤ m → m < fu → ∃ G' n t', lp (tX8_takesNumber_26 (nI (mo o))) fu G = some G' ∧ Ft G G' ∧ pX8_isForm G' = 1 ∧ pX8_letter G' = pX8_letter G ∧ pX8_spot G' = nI (q + n) ∧ pX8_told G' = nI t' ∧ q + n ≤ len ∧ (∀ i, i < n → 48 ≤ c (q + i) ∧ c (q + i) ≤ 57) ∧ t' = valF c q t n ∧ (∀ j, j ≤ n → valF c q t j ≤ mo o) ∧ fwA c len (len - q) o (t + 1) = nxt c len (q + n) := by
  have hmo := mo_le o
  intro m
  induction m with
  | zero =>
    intro G q t fu h hs hf ht hq htm hm hfu
    obtain ⟨fu, rfl⟩ : ∃ q, fu = q + 1 := ⟨fu - 1, by omega⟩
    have hl := h.2.1
    refine ⟨G, 0, t, lp_r fu ?_, rfl, hf, rfl, hs, ht, by omega, fun i hi => absurd hi (Nat.not_lt_zero _), rfl, fun j hj => by rw [show j = 0 by omega]; exact htm, ?_⟩
    · unfold tX8_takesNumber_26
      rw [hf, if_neg (show ¬ (1 : Int32) = 0 by decide), r_here h hs (by omega)]
      simp only [Option.bind_some]
      rw [show (48 : Int32) = nI 48 from rfl, show (57 : Int32) = nI 57 from rfl, r_in (by omega) (by have := atT_lt h q; omega) (by omega)]
      simp only [Option.bind_some]
      have : atT c len q = 0 := by unfold atT; rw [if_neg (by omega)]
      rw [this, if_neg (show ¬ (48 ≤ 0 ∧ 0 ≤ 57) by omega), if_pos rfl]
      split <;> rfl
    · rw [show len - q = 0 by omega, fwA, if_neg (by omega), if_neg (by omega), if_neg (Nat.succ_ne_zero t)]
      unfold nxt
      rw [if_pos (by omega)]
  | succ m ih =>
    intro G q t fu h hs hf ht hq htm hm hfu
    obtain ⟨fu, rfl⟩ : ∃ q, fu = q + 1 := ⟨fu - 1, by omega⟩
    have hl := h.2.1
    have ha := atT_lt h q
    by_cases hx : 0 < t ∧ q < len ∧ 48 ≤ c q ∧ c q ≤ 57 ∧ 10 * t + (c q - 48) ≤ mo o
    · obtain ⟨x1, x2, x3, x4, x5⟩ := hx
      have hat : atT c len q = c q := by unfold atT; rw [if_pos x2]
      have st : ∃ G1, tX8_takesNumber_26 (nI (mo o)) G = some (.inl G1) ∧ Ft G G1 ∧ pX8_isForm G1 = 1 ∧ pX8_letter G1 = pX8_letter G ∧ pX8_spot G1 = nI (q + 1) ∧ pX8_told G1 = nI (10 * t + (c q - 48)) := by
        unfold tX8_takesNumber_26
        rw [hf, if_neg (show ¬ (1 : Int32) = 0 by decide), ht, if_neg (show ¬ nI t ≤ 0 from i_nle (b := 0) x1 (by omega)), r_here h hs (by omega), hat]
        simp only [Option.bind_some]
        rw [show (48 : Int32) = nI 48 from rfl, show (57 : Int32) = nI 57 from rfl, r_in (by omega) (by omega) (by omega), if_pos (show 48 ≤ c q ∧ c q ≤ 57 from ⟨x3, x4⟩)]
        simp only [Option.bind_some]
        have e10 : (10 : Int32) * nI t + nI (c q) - nI 48 = nI (10 * t + (c q - 48)) := by
          rw [show (10 : Int32) = nI 10 from rfl, i_mul, i_add, i_sub (by omega), show 10 * t + c q - 48 = 10 * t + (c q - 48) by omega]
        rw [e10, if_neg (show ¬ (1 : Int32) = 0 by decide), if_neg (i_nlt (show 10 * t + (c q - 48) ≤ mo o from x5) (by omega)), hs, i_inc]
        exact ⟨_, rfl, rfl, rfl, rfl, rfl, rfl⟩
      obtain ⟨G1, e, f1, f2, f3, f4, f5⟩ := st
      obtain ⟨G', n, t', g1, g2, g3, g4, g5, g6, g7, g8, g9, g10, g11⟩ := ih G1 (q + 1) _ fu (f1.x h) f4 f2 f5 (by omega) x5 (by omega) (by omega)
      refine ⟨G', n + 1, t', by rw [lp_l fu e]; exact g1, f1.tr g2, g3, g4.trans f3, by rw [g5, show q + 1 + n = q + (n + 1) by omega], g6, by omega, fun i hi => ?_, ?_, fun j hj => ?_, ?_⟩
      · cases i with
        | zero => exact ⟨x3, x4⟩
        | succ i => have := g8 i (by omega); rw [show q + (i + 1) = q + 1 + i by omega]; exact this
      · rw [valF_cons]; exact g9
      · cases j with
        | zero => exact htm
        | succ j => rw [valF_cons]; exact g10 j (by omega)
      · have hv : (if t + 1 = 0 then c q - 48 else 10 * (t + 1 - 1) + (c q - 48)) = 10 * t + (c q - 48) := by rw [if_neg (Nat.succ_ne_zero t)]; rfl
        rw [fwA_dig x2 ho x3 x4 (by omega) (by rw [hv]; exact x5), hv, g11, show q + 1 + n = q + (n + 1) by omega]
    · refine ⟨G, 0, t, lp_r fu ?_, rfl, hf, rfl, hs, ht, by omega, fun i hi => absurd hi (Nat.not_lt_zero _), rfl, fun j hj => by rw [show j = 0 by omega]; exact htm, ?_⟩
      · unfold tX8_takesNumber_26
        rw [hf, if_neg (show ¬ (1 : Int32) = 0 by decide), ht, ifc (show nI t ≤ 0 ↔ t ≤ 0 from i_le (b := 0) (by omega) (by omega)), r_here h hs (by omega)]
        simp only [Option.bind_some]
        rw [show (48 : Int32) = nI 48 from rfl, show (57 : Int32) = nI 57 from rfl, r_in (by omega) (by omega) (by omega)]
        simp only [Option.bind_some]
        by_cases q1 : t ≤ 0
        · rw [if_pos q1]
        · rw [if_neg q1]
          by_cases q2 : 48 ≤ atT c len q ∧ atT c len q ≤ 57
          · rw [if_pos q2, if_neg (show ¬ (1 : Int32) = 0 by decide)]
            have q3 : q < len := by
              rcases Nat.lt_or_ge q len with z | z
              · exact z
              · unfold atT at q2
                rw [if_neg (by omega)] at q2
                omega
            have hat : atT c len q = c q := by unfold atT; rw [if_pos q3]
            rw [hat] at q2 ⊢
            have e10 : (10 : Int32) * nI t + nI (c q) - nI 48 = nI (10 * t + (c q - 48)) := by
              rw [show (10 : Int32) = nI 10 from rfl, i_mul, i_add, i_sub (by omega), show 10 * t + c q - 48 = 10 * t + (c q - 48) by omega]
            rw [e10, if_pos (i_plt (show mo o < 10 * t + (c q - 48) by omega) (by omega))]
          · rw [if_neg q2, if_pos rfl]
      · show _ = nxt c len q
        unfold nxt
        by_cases q1 : q = len
        · rw [if_pos q1, show len - q = 0 by omega, fwA, if_neg (by omega), if_neg (by omega), if_neg (Nat.succ_ne_zero t)]
        · rw [if_neg q1]
          by_cases q2 : c q = 59
          · rw [if_pos q2, show len - q = (len - (q + 1)) + 1 by omega, fwA, show len - (len - (q + 1) + 1) = q by omega, if_neg (show ¬ o = 32 by omega), if_pos q2, if_neg (show ¬ o = 119 by omega), if_neg (Nat.succ_ne_zero t), fwA_32]
          · rw [if_neg q2]
            refine fwA_stop (by omega) ho q2 (fun z1 z2 z3 => ?_)
            rw [if_neg (Nat.succ_ne_zero t), Nat.add_sub_cancel]
            omega
theorem r_num {o : Nat} (ho : o = 103 ∨ o = 98) {c : Nat → Nat} {len : Nat} {G : GX8} {p : Nat} (h : RepX G c len) (hs : pX8_spot G = nI p) (hf : pX8_isForm G = 1) (hp : p ≤ len) : ∃ G', fX8_takesNumber (nI (mo o)) G = some G' ∧ Ft G G' ∧ pX8_letter G' = pX8_letter G ∧ ((pX8_isForm G' = 0 ∧ pX8_spot G' = nI p ∧ fwA c len (len - p) o 0 = some p) ∨ (pX8_isForm G' = 1 ∧ ∃ n t, 0 < n ∧ p + n ≤ len ∧ pX8_spot G' = nI (p + n) ∧ pX8_told G' = nI t ∧ (∀ i, i < n → 48 ≤ c (p + i) ∧ c (p + i) ≤ 57) ∧ t = valF c p 0 n ∧ (∀ j, j ≤ n → valF c p 0 j ≤ mo o) ∧ fwA c len (len - p) o 0 = nxt c len (p + n))) := by
  have hl := h.2.1
  have ha := atT_lt h p
  have hmo := mo_le o
  have hmo2 : 39 ≤ mo o := by unfold mo; split <;> omega
  unfold fX8_takesNumber
  rw [r_here h hs (by omega)]
  simp only [Option.bind_some]
  rw [r_here (c := c) (len := len) (p := p)]
  rotate_left
  · exact h
  · exact hs
  · omega
  simp only [Option.bind_some]
  rw [show fX8_in (nI (atT c len p)) 48 57 = _ from r_in (a := 48) (b := 57) (by omega) (by omega) (by omega)]
  simp only [Option.bind_some]
  by_cases q2 : 48 ≤ atT c len p ∧ atT c len p ≤ 57
  · rw [if_pos q2]
    have q3 : p < len := by
      rcases Nat.lt_or_ge p len with z | z
      · exact z
      · unfold atT at q2
        rw [if_neg (by omega)] at q2
        omega
    have hat : atT c len p = c p := by unfold atT; rw [if_pos q3]
    rw [hat] at q2 ⊢
    obtain ⟨G1, e1, f1, f2, f3, f4, f5⟩ := r_tk1 (G := ((pX8_s G), (pX8_aside G), (pX8_past G), (pX8_known G), (pX8_kept G), (pX8_isKept G), (pX8_pad G), (pX8_length G), (pX8_whyError G), (pX8_whyNumber G), (pX8_whySpot G), (pX8_lots G), (pX8_walker G), (pX8_steps G), (pX8_goes G), (pX8_becomes G), (pX8_spot G), (pX8_isForm G), (pX8_letter G), (nI (c p) - 48), (pX8_highest G))) (p := p) hs hf true
    rw [show fX8_takes 1 _ = _ from e1]
    simp only [Option.bind_some]
    have f5' : pX8_told G1 = nI (c p - 48) := f5.trans (i_sub (b := 48) (by omega))
    have f1' : Ft G G1 := f1
    obtain ⟨G', n, t', g1, g2, g3, g4, g5, g6, g7, g8, g9, g10, g11⟩ := r_num_go ho (len - (p + 1)) G1 (p + 1) (c p - 48) FU (f1'.x h) f2 f3 f5' (by omega) (by omega) (by omega) (by rw [FU_eq]; omega)
    rw [g1]
    refine ⟨G', rfl, f1'.tr g2, g4.trans f4, Or.inr ⟨g3, n + 1, t', by omega, by omega, by rw [g5, show p + 1 + n = p + (n + 1) by omega], g6, fun i hi => ?_, ?_, fun j hj => ?_, ?_⟩⟩
    · cases i with
      | zero => exact q2
      | succ i => have := g8 i (by omega); rw [show p + (i + 1) = p + 1 + i by omega]; exact this
    · rw [valF_cons, Nat.mul_zero, Nat.zero_add]; exact g9
    · cases j with
      | zero => exact Nat.zero_le _
      | succ j => rw [valF_cons, Nat.mul_zero, Nat.zero_add]; exact g10 j (by omega)
    · rw [fwA_dig q3 ho q2.1 q2.2 (by omega) (by rw [if_pos rfl]; omega), if_pos rfl, g11, show p + 1 + n = p + (n + 1) by omega]
  · rw [if_neg q2]
    obtain ⟨G1, e1, f1, f2, f3, f4, f5⟩ := r_tk1 (G := ((pX8_s G), (pX8_aside G), (pX8_past G), (pX8_known G), (pX8_kept G), (pX8_isKept G), (pX8_pad G), (pX8_length G), (pX8_whyError G), (pX8_whyNumber G), (pX8_whySpot G), (pX8_lots G), (pX8_walker G), (pX8_steps G), (pX8_goes G), (pX8_becomes G), (pX8_spot G), (pX8_isForm G), (pX8_letter G), (nI (atT c len p) - 48), (pX8_highest G))) (p := p) hs hf false
    rw [show fX8_takes 0 _ = _ from e1]
    simp only [Option.bind_some]
    have e2 : lp (tX8_takesNumber_26 (nI (mo o))) FU G1 = some G1 := by
      rw [FU_eq]
      refine lp_r _ ?_
      unfold tX8_takesNumber_26
      rw [show pX8_isForm G1 = 0 from f3, if_pos rfl]
    rw [e2]
    refine ⟨G1, rfl, f1, f4, Or.inl ⟨f3, f2, ?_⟩⟩
    by_cases q3 : p < len
    · have hat : atT c len p = c p := by unfold atT; rw [if_pos q3]
      rw [hat] at q2
      by_cases q4 : c p = 59
      · rw [show len - p = (len - (p + 1)) + 1 by omega, fwA, show len - (len - (p + 1) + 1) = p by omega, if_neg (show ¬ o = 32 by omega), if_pos q4, if_neg (show ¬ o = 119 by omega), if_pos rfl]
      · exact fwA_stop q3 ho q4 (fun z1 z2 _ => absurd ⟨z1, z2⟩ q2)
    · rw [show len - p = 0 by omega, fwA, if_neg (by omega), if_neg (by omega), if_pos rfl, show len = p by omega]
/-- a deed at p, of the letter L and n signs more, with the number t -/
def Dd (c : Nat → Nat) (len p L n t : Nat) : Prop := p < len ∧ c p = L ∧ p + 1 + n ≤ len ∧ ((L = 119 ∧ n = 0) ∨ ((L = 103 ∨ L = 98) ∧ 0 < n ∧ (∀ i, i < n → 48 ≤ c (p + 1 + i) ∧ c (p + 1 + i) ≤ 57) ∧ t = valF c (p + 1) 0 n ∧ (∀ j, j ≤ n → valF c (p + 1) 0 j ≤ mo L)))
theorem r_deed {c : Nat → Nat} {len : Nat} {G : GX8} {p : Nat} (h : RepX G c len) (hs : pX8_spot G = nI p) (hf : pX8_isForm G = 1) (hp : p ≤ len) : ∃ G', fX8_takesDeed G = some G' ∧ Ft G G' ∧ ((pX8_isForm G' = 0 ∧ ∃ s, pX8_spot G' = nI s ∧ s ≤ len ∧ fwA c len (len - p) 32 0 = some s) ∨ (pX8_isForm G' = 1 ∧ ∃ L n t, Dd c len p L n t ∧ pX8_spot G' = nI (p + 1 + n) ∧ pX8_letter G' = nI L ∧ (L ≠ 119 → pX8_told G' = nI t) ∧ fwA c len (len - p) 32 0 = nxt c len (p + 1 + n))) := by
  have hl := h.2.1
  have ha := atT_lt h p
  unfold fX8_takesDeed jX8_takesDeed_3
  rw [r_here h hs (by omega)]
  simp only [Option.bind_some]
  have K : ∀ b : Bool, (b = true ↔ (p < len ∧ (c p = 103 ∨ c p = 98 ∨ c p = 119))) → ∃ G', jX8_takesDeed_1 G (nI (atT c len p)) (if b then 1 else 0) = some G' ∧ Ft G G' ∧ ((pX8_isForm G' = 0 ∧ ∃ s, pX8_spot G' = nI s ∧ s ≤ len ∧ fwA c len (len - p) 32 0 = some s) ∨ (pX8_isForm G' = 1 ∧ ∃ L n t, Dd c len p L n t ∧ pX8_spot G' = nI (p + 1 + n) ∧ pX8_letter G' = nI L ∧ (L ≠ 119 → pX8_told G' = nI t) ∧ fwA c len (len - p) 32 0 = nxt c len (p + 1 + n))) := by
    intro b hb
    unfold jX8_takesDeed_1 jX8_takesDeed_2
    obtain ⟨G1, e1, f1, f2, f3, f4, f5⟩ := r_tk1 (G := ((pX8_s G), (pX8_aside G), (pX8_past G), (pX8_known G), (pX8_kept G), (pX8_isKept G), (pX8_pad G), (pX8_length G), (pX8_whyError G), (pX8_whyNumber G), (pX8_whySpot G), (pX8_lots G), (pX8_walker G), (pX8_steps G), (pX8_goes G), (pX8_becomes G), (pX8_spot G), (pX8_isForm G), nI (atT c len p), (pX8_told G), (pX8_highest G))) (p := p) hs hf b
    rw [e1]
    simp only [Option.bind_some]
    have f1' : Ft G G1 := f1
    have f4' : pX8_letter G1 = nI (atT c len p) := f4
    rw [f4', ifc (show nI (atT c len p) = 119 ↔ atT c len p = 119 from i_eq (b := 119) (by omega) (by omega)), ifc (show nI (atT c len p) = 103 ↔ atT c len p = 103 from i_eq (b := 103) (by omega) (by omega))]
    cases b with
    | true =>
      obtain ⟨q3, q4⟩ := hb.mp rfl
      have hat : atT c len p = c p := by unfold atT; rw [if_pos q3]
      rw [hat] at f4' ⊢
      have hfw : fwA c len (len - p) 32 0 = fwA c len (len - (p + 1)) (c p) 0 := by
        rw [show len - p = (len - (p + 1)) + 1 by omega, fwA, show len - (len - (p + 1) + 1) = p by omega, if_pos rfl, if_pos q4]
      have num : ∀ o, (o = 103 ∨ o = 98) → c p = o → ∃ G', ((fX8_takesNumber (nI (mo o)) G1).bind fun o70 => some o70) = some G' ∧ Ft G G' ∧ ((pX8_isForm G' = 0 ∧ ∃ s, pX8_spot G' = nI s ∧ s ≤ len ∧ fwA c len (len - p) 32 0 = some s) ∨ (pX8_isForm G' = 1 ∧ ∃ L n t, Dd c len p L n t ∧ pX8_spot G' = nI (p + 1 + n) ∧ pX8_letter G' = nI L ∧ (L ≠ 119 → pX8_told G' = nI t) ∧ fwA c len (len - p) 32 0 = nxt c len (p + 1 + n))) := fun o ho hc => by
        obtain ⟨G', g1, g2, g3, g4⟩ := r_num ho (f1'.x h) f2 f3 (show p + 1 ≤ len by omega)
        rw [g1]
        refine ⟨G', rfl, f1'.tr g2, ?_⟩
        rcases g4 with ⟨k1, k2, k3⟩ | ⟨k1, n, t, k2, k3, k4, k5, k6, k7, k8, k9⟩
        · exact Or.inl ⟨k1, p + 1, k2, by omega, by rw [hfw, hc]; exact k3⟩
        · exact Or.inr ⟨k1, o, n, t, ⟨q3, hc, k3, Or.inr ⟨ho, k2, k6, k7, k8⟩⟩, k4, by rw [g3, f4', hc], fun _ => k5, by rw [hfw, hc]; exact k9⟩
      by_cases q5 : c p = 119
      · rw [if_pos q5]
        refine ⟨G1, rfl, f1', Or.inr ⟨f3, 119, 0, 0, ⟨q3, q5, by omega, Or.inl ⟨rfl, rfl⟩⟩, f2, by rw [f4', q5], fun z => absurd rfl z, ?_⟩⟩
        rw [hfw, q5]
        unfold nxt
        rw [Nat.add_zero]
        by_cases q6 : p + 1 = len
        · rw [if_pos q6, show len - (p + 1) = 0 by omega, fwA, if_pos rfl]
        · rw [if_neg q6, show len - (p + 1) = (len - (p + 1 + 1)) + 1 by omega, fwA, show len - (len - (p + 1 + 1) + 1) = p + 1 by omega, if_neg (by omega)]
          by_cases q7 : c (p + 1) = 59
          · rw [if_pos q7, if_pos q7, if_pos rfl]
          · rw [if_neg q7, if_neg q7, if_pos (Or.inl rfl)]
      · rw [if_neg q5]
        by_cases q6 : c p = 103
        · rw [if_pos q6]
          exact num 103 (Or.inl rfl) q6
        · rw [if_neg q6]
          exact num 98 (Or.inr rfl) (by omega)
    | false =>
      have hb' : ¬ (p < len ∧ (c p = 103 ∨ c p = 98 ∨ c p = 119)) := fun z => by have := hb.mpr z; cases this
      have hfw : fwA c len (len - p) 32 0 = some p := by
        by_cases q3 : p < len
        · rw [show len - p = (len - (p + 1)) + 1 by omega, fwA, show len - (len - (p + 1) + 1) = p by omega, if_pos rfl, if_neg (fun z => hb' ⟨q3, z⟩)]
        · rw [show len - p = 0 by omega, fwA, if_neg (by omega), if_pos rfl, show len = p by omega]
      have bad : ∀ y, ∃ G', ((fX8_takesNumber y G1).bind fun o70 => some o70) = some G' ∧ Ft G G' ∧ pX8_isForm G' = 0 ∧ pX8_spot G' = nI p := fun y => by
        unfold fX8_takesNumber
        have hx1 := f1'.x h
        rw [r_here (c := c) (len := len) (p := p) hx1 f2 (by omega)]
        simp only [Option.bind_some]
        rw [r_here (c := c) (len := len) (p := p)]
        rotate_left
        · exact hx1
        · exact f2
        · omega
        simp only [Option.bind_some]
        rw [show fX8_in (nI (atT c len p)) 48 57 = _ from r_in (a := 48) (b := 57) (by omega) (by omega) (by omega)]
        simp only [Option.bind_some]
        obtain ⟨G2, e2, k1, k2, k3, k4, k5⟩ := r_tk0 (G := ((pX8_s G1), (pX8_aside G1), (pX8_past G1), (pX8_known G1), (pX8_kept G1), (pX8_isKept G1), (pX8_pad G1), (pX8_length G1), (pX8_whyError G1), (pX8_whyNumber G1), (pX8_whySpot G1), (pX8_lots G1), (pX8_walker G1), (pX8_steps G1), (pX8_goes G1), (pX8_becomes G1), (pX8_spot G1), (pX8_isForm G1), (pX8_letter G1), (nI (atT c len p) - 48), (pX8_highest G1))) (p := p) f2 f3 (if 48 ≤ atT c len p ∧ atT c len p ≤ 57 then 1 else 0)
        rw [e2]
        simp only [Option.bind_some]
        have e3 : lp (tX8_takesNumber_26 y) FU G2 = some G2 := by
          rw [FU_eq]
          refine lp_r _ ?_
          unfold tX8_takesNumber_26
          rw [k3, if_pos rfl]
        rw [e3]
        exact ⟨G2, rfl, f1'.tr k1, k3, k2⟩
      have hat : ¬ atT c len p = 119 := by
        unfold atT
        by_cases q3 : p < len
        · rw [if_pos q3]; exact fun z => hb' ⟨q3, Or.inr (Or.inr z)⟩
        · rw [if_neg q3]; omega
      rw [if_neg hat]
      by_cases q6 : atT c len p = 103
      · rw [if_pos q6]
        obtain ⟨G', b1, b2, b3, b4⟩ := bad 39
        exact ⟨G', b1, b2, Or.inl ⟨b3, p, b4, hp, hfw⟩⟩
      · rw [if_neg q6]
        obtain ⟨G', b1, b2, b3, b4⟩ := bad 120
        exact ⟨G', b1, b2, Or.inl ⟨b3, p, b4, hp, hfw⟩⟩
  rw [ifc (show nI (atT c len p) = 103 ↔ atT c len p = 103 from i_eq (b := 103) (by omega) (by omega)), ifc (show nI (atT c len p) = 98 ↔ atT c len p = 98 from i_eq (b := 98) (by omega) (by omega)), ifc (show nI (atT c len p) = 119 ↔ atT c len p = 119 from i_eq (b := 119) (by omega) (by omega))]
  have hiff : ∀ x, x ≠ 0 → (atT c len p = x ↔ p < len ∧ c p = x) := fun x hx => by
    unfold atT
    by_cases q3 : p < len
    · rw [if_pos q3]; exact ⟨fun z => ⟨q3, z⟩, fun z => z.2⟩
    · rw [if_neg q3]; exact ⟨fun z => absurd z.symm hx, fun z => absurd z.1 q3⟩
  by_cases q1 : atT c len p = 103
  · rw [if_pos q1]
    have := (hiff 103 (by omega)).mp q1
    exact K true ⟨fun _ => ⟨this.1, Or.inl this.2⟩, fun _ => rfl⟩
  · rw [if_neg q1]
    by_cases q2 : atT c len p = 98
    · rw [if_pos q2]
      have := (hiff 98 (by omega)).mp q2
      exact K true ⟨fun _ => ⟨this.1, Or.inr (Or.inl this.2)⟩, fun _ => rfl⟩
    · rw [if_neg q2]
      by_cases q3 : atT c len p = 119
      · rw [if_pos q3]
        have := (hiff 119 (by omega)).mp q3
        exact K true ⟨fun _ => ⟨this.1, Or.inr (Or.inr this.2)⟩, fun _ => rfl⟩
      · rw [if_neg q3]
        refine K false ⟨fun z => (by cases z), fun z => ?_⟩
        rcases z.2 with z2 | z2 | z2
        · exact absurd ((hiff 103 (by omega)).mpr ⟨z.1, z2⟩) q1
        · exact absurd ((hiff 98 (by omega)).mpr ⟨z.1, z2⟩) q2
        · exact absurd ((hiff 119 (by omega)).mpr ⟨z.1, z2⟩) q3
theorem r_text_go {c : Nat → Nat} {len : Nat} : ∀ (m : Nat) (G : GX8) (q fu : Nat), RepX G c len → pX8_spot G = nI q → pX8_isForm G = 1 → q ≤ len → len - q ≤ m → 2 * m < fu → ∃ G', lp tX8_isText_14 fu G = some G' ∧ Ft G G' ∧ ((pX8_isForm G' = 1 ∧ nxt c len q = none) ∨ (pX8_isForm G' = 0 ∧ ∃ s, pX8_spot G' = nI s ∧ nxt c len q = some s)) := by
  intro m
  induction m with
  | zero =>
    intro G q fu h hs hf hq hm hfu
    obtain ⟨fu, rfl⟩ : ∃ q, fu = q + 1 := ⟨fu - 1, by omega⟩
    have hl := h.2.1
    refine ⟨G, lp_r fu ?_, rfl, Or.inl ⟨hf, by unfold nxt; rw [if_pos (by omega)]⟩⟩
    unfold tX8_isText_14
    rw [hf, if_neg (show ¬ (1 : Int32) = 0 by decide), h.1, hs, if_pos (i_ple (by omega) (by omega))]
  | succ m ih =>
    intro G q fu h hs hf hq hm hfu
    obtain ⟨fu, rfl⟩ : ∃ q, fu = q + 1 + 1 := ⟨fu - 2, by omega⟩
    have hl := h.2.1
    by_cases q1 : q = len
    · refine ⟨G, lp_r (fu + 1) ?_, rfl, Or.inl ⟨hf, by unfold nxt; rw [if_pos q1]⟩⟩
      unfold tX8_isText_14
      rw [hf, if_neg (show ¬ (1 : Int32) = 0 by decide), h.1, hs, if_pos (i_ple (by omega) (by omega))]
    · have hat : atT c len q = c q := by unfold atT; rw [if_pos (by omega)]
      have hc := (h.2.2 q (by omega)).2
      have out : ∀ (K : GX8) (n : Nat), pX8_isForm K = 0 → lp tX8_isText_14 (n + 1) K = some K := fun K n hK => lp_r n (by
        unfold tX8_isText_14
        rw [hK, if_pos rfl])
      have st : tX8_isText_14 G = jX8_isText_1 G (if decide (c q = 59) then 1 else 0) := by
        unfold tX8_isText_14
        rw [hf, if_neg (show ¬ (1 : Int32) = 0 by decide), h.1, hs, if_neg (i_nle (show q < len by omega) (by omega)), r_here h hs (by omega), hat]
        simp only [Option.bind_some]
        rw [ifc (show nI (c q) = 59 ↔ c q = 59 from i_eq (b := 59) (by omega) (by omega))]
        by_cases q2 : c q = 59
        · rw [if_pos q2, decide_eq_true q2]; rfl
        · rw [if_neg q2, decide_eq_false q2]; rfl
      obtain ⟨G1, e1, f1, f2, f3, f4, f5⟩ := r_tk1 hs hf (decide (c q = 59))
      unfold jX8_isText_1 at st
      rw [e1] at st
      simp only [Option.bind_some] at st
      by_cases q2 : c q = 59
      · rw [decide_eq_true q2] at f2 f3
        rw [f3, if_neg (show ¬ (if true = true then (1 : Int32) else 0) = 0 by decide)] at st
        obtain ⟨G2, g1, g2, g3⟩ := r_deed (p := q + 1) (f1.x h) f2 f3 (by omega)
        rw [g1] at st
        simp only [Option.bind_some] at st
        rw [lp_l _ st]
        have hn : nxt c len q = fwA c len (len - (q + 1)) 32 0 := by unfold nxt; rw [if_neg q1, if_pos q2]
        rw [hn]
        rcases g3 with ⟨k1, s, k2, k3, k4⟩ | ⟨k1, L, n, t, k2, k3, k4, k5, k6⟩
        · exact ⟨G2, out G2 fu k1, f1.tr g2, Or.inr ⟨k1, s, k2, k4⟩⟩
        · have hle := k2.2.2.1
          obtain ⟨G3, l1, l2, l3⟩ := ih G2 (q + 1 + 1 + n) (fu + 1) ((f1.tr g2).x h) k3 k1 (by omega) (by omega) (by omega)
          rw [k6]
          exact ⟨G3, l1, (f1.tr g2).tr l2, l3⟩
      · rw [decide_eq_false q2] at f2 f3
        rw [f3, if_pos (show (if false = true then (1 : Int32) else 0) = 0 by decide)] at st
        rw [lp_l _ st]
        exact ⟨G1, out G1 fu f3, f1, Or.inr ⟨f3, q, f2, by unfold nxt; rw [if_neg q1, if_neg q2]⟩⟩
theorem r_text {c : Nat → Nat} {len : Nat} {G : GX8} (h : RepX G c len) : ∃ G', fX8_isText G = some (if (fwT c len).isNone then 1 else 0, G') ∧ Ft G G' ∧ (∀ s, fwT c len = some s → pX8_spot G' = nI s) ∧ pX8_isForm G' = (if (fwT c len).isNone then 1 else 0) := by
  have hl := h.2.1
  unfold fX8_isText
  obtain ⟨G1, e1, f1, f2⟩ := r_deed (c := c) (len := len) (G := ((pX8_s G), (pX8_aside G), (pX8_past G), (pX8_known G), (pX8_kept G), (pX8_isKept G), (pX8_pad G), (pX8_length G), (pX8_whyError G), (pX8_whyNumber G), (pX8_whySpot G), (pX8_lots G), (pX8_walker G), (pX8_steps G), (pX8_goes G), (pX8_becomes G), 0, 1, (pX8_letter G), (pX8_told G), (pX8_highest G))) (p := 0) h rfl rfl (Nat.zero_le _)
  rw [e1]
  simp only [Option.bind_some]
  rw [Nat.sub_zero] at f2
  have f1' : Ft G G1 := f1
  rcases f2 with ⟨k1, s, k2, k3, k4⟩ | ⟨k1, L, n, t, k2, k3, k4, k5, k6⟩
  · have e2 : lp tX8_isText_14 FU G1 = some G1 := by
      rw [FU_eq]
      exact lp_r _ (by
        unfold tX8_isText_14
        rw [k1, if_pos rfl])
    rw [e2]
    simp only [Option.bind_some]
    unfold fwT
    rw [k4]
    unfold jgz
    rw [k1, if_pos (Or.inl rfl)]
    exact ⟨G1, rfl, f1', fun s' z => (by cases z; exact k2), k1⟩
  · have hle := k2.2.2.1
    obtain ⟨G2, g1, g2, g3⟩ := r_text_go len G1 (0 + 1 + n) FU (f1'.x h) k3 k1 hle (by omega) (by rw [FU_eq]; omega)
    rw [g1]
    simp only [Option.bind_some]
    unfold fwT
    rw [k6]
    unfold jgz
    rcases g3 with ⟨l1, l2⟩ | ⟨l1, s, l2, l3⟩
    · rw [l1, if_pos (Or.inr rfl), l2]
      exact ⟨G2, rfl, f1'.tr g2, fun s' z => (by cases z), l1⟩
    · rw [l1, if_pos (Or.inl rfl), l3]
      exact ⟨G2, rfl, f1'.tr g2, fun s' z => (by cases z; exact l2), l1⟩
