/-! ===== p28: texts: what is typed, what is carried out ===== -/
theorem fwA_last {c : Nat → Nat} {len : Nat} : ∀ (m o v : Nat), m ≤ len → fwA c len m o v = none → (m = 0 → o ≠ 32) ∧ (0 < m → c (len - 1) ≠ 59)
  | 0, o, v, _, h => by
    refine ⟨fun _ z => ?_, fun z => absurd z (Nat.lt_irrefl 0)⟩
    subst z
    rw [fwA, if_neg (by decide), if_pos rfl] at h
    cases h
  | m + 1, o, v, hm, h => by
    have rec_ : ∀ o' v' : Nat, fwA c len m o' v' = none → (c (len - (m + 1)) = 59 → o' = 32) → 0 < m + 1 → c (len - 1) ≠ 59 := fun o' v' h' ho _ => by
      have ih := fwA_last m o' v' (by omega) h'
      by_cases q : m = 0
      · intro z
        exact ih.1 q (ho (by rw [q]; exact z))
      · exact ih.2 (by omega)
    refine ⟨fun z => absurd z (Nat.succ_ne_zero m), ?_⟩
    rw [fwA] at h
    by_cases q1 : o = 32
    · rw [if_pos q1] at h
      by_cases q2 : c (len - (m + 1)) = 103 ∨ c (len - (m + 1)) = 98 ∨ c (len - (m + 1)) = 119
      · rw [if_pos q2] at h
        exact rec_ _ _ h (fun z => by omega)
      · rw [if_neg q2] at h
        cases h
    · rw [if_neg q1] at h
      by_cases q2 : c (len - (m + 1)) = 59
      · rw [if_pos q2] at h
        by_cases q3 : o = 119
        · rw [if_pos q3] at h
          exact rec_ _ _ h (fun _ => rfl)
        · rw [if_neg q3] at h
          by_cases q4 : v = 0
          · rw [if_pos q4] at h
            cases h
          · rw [if_neg q4] at h
            exact rec_ _ _ h (fun _ => rfl)
      · rw [if_neg q2] at h
        by_cases q3 : o = 119 ∨ c (len - (m + 1)) < 48 ∨ 57 < c (len - (m + 1)) ∨ v = 1
        · rw [if_pos q3] at h
          cases h
        · rw [if_neg q3] at h
          by_cases q4 : (if v = 0 then c (len - (m + 1)) - 48 else 10 * (v - 1) + (c (len - (m + 1)) - 48)) ≤ (if o = 103 then 39 else 120)
          · rw [if_pos q4] at h
            exact rec_ _ _ h (fun z => absurd z q2)
          · rw [if_neg q4] at h
            cases h
theorem fwT_last {c : Nat → Nat} {len : Nat} (h : fwT c len = none) : 0 < len ∧ c (len - 1) ≠ 59 := by
  have k := fwA_last len 32 0 (Nat.le_refl _) h
  have h0 : 0 < len := by
    rcases Nat.eq_zero_or_pos len with z | z
    · exact absurd rfl (k.1 z)
    · exact z
  exact ⟨h0, k.2 h0⟩
def ap (a : AS) (v : Nat) : AS := (a.1, a.2.1, a.2.2.1, (a.2.2.2.1.1 + 1, un a.2.2.2.1.2 a.2.2.2.1.1 v), a.2.2.2.2)
theorem app_ok {a : AS} {v : Nat} (h33 : 33 ≤ v) (h126 : v ≤ 126) (hl : a.2.2.2.1.1 < 60) : padA a (appA a.2.2.2.1 (nI v)) = (nI (a.2.2.2.1.1 + 1), ap a v) := by
  have e : appA a.2.2.2.1 (nI v) = (nI (a.2.2.2.1.1 + 1), (a.2.2.2.1.1 + 1, un a.2.2.2.1.2 a.2.2.2.1.1 v)) := by
    unfold appA
    rw [ix_nI (show v < 127 by omega) (by omega)]
    show (if v < 33 then _ else _) = _
    rw [if_neg (by omega), if_pos hl]
  rw [e]
  rfl
theorem sc_un {c : Nat → Nat} {len v : Nat} : cnt (sc (un c len v)) (len + 1) = cnt (sc c) len + (if v = 59 then 1 else 0) := by
  rw [cnt, cnt_ext (p := sc (un c len v)) (q := sc c) (fun i hi => by
    unfold sc
    rw [un_n (by omega)])]
  unfold sc
  rw [un_s]
  by_cases q : v = 59
  · rw [if_pos q, decide_eq_true q, if_pos rfl]
  · rw [if_neg q, decide_eq_false q, if_neg (by decide)]
/-- a state whose pad alone differs: at most l signs, k of them ';' -/
def TX (a0 b : AS) (l k : Nat) : Prop := IA b ∧ b.1 = a0.1 ∧ b.2.1 = a0.2.1 ∧ b.2.2.1 = a0.2.2.1 ∧ b.2.2.2.2 = a0.2.2.2.2 ∧ b.2.2.2.1.1 ≤ l ∧ cnt (sc b.2.2.2.1.2) b.2.2.2.1.1 = k
theorem TX.mono {a0 b : AS} {l l' k : Nat} (t : TX a0 b l k) (h : l ≤ l') : TX a0 b l' k := ⟨t.1, t.2.1, t.2.2.1, t.2.2.2.1, t.2.2.2.2.1, Nat.le_trans t.2.2.2.2.2.1 h, t.2.2.2.2.2.2⟩
theorem TX.app {a0 b : AS} {l k v : Nat} (t : TX a0 b l k) (hl : l < 60) (h33 : 33 ≤ v) (h126 : v ≤ 126) : padA b (appA b.2.2.2.1 (nI v)) = (nI (b.2.2.2.1.1 + 1), ap b v) ∧ TX a0 (ap b v) (l + 1) (k + (if v = 59 then 1 else 0)) := by
  obtain ⟨t1, t2, t3, t4, t5, t6, t7⟩ := t
  have e := app_ok (a := b) h33 h126 (by omega)
  refine ⟨e, ?_, t2, t3, t4, t5, Nat.succ_le_succ t6, ?_⟩
  · have := t1.append (nI v)
    rw [e] at this
    exact this
  · rw [← t7]
    exact sc_un
/-- one sign typed, and on -/
theorem typ {a0 b : AS} {l k v : Nat} {x : Int32} (t : TX a0 b l k) (hl : l < 60) (hx : x = nI v) (h33 : 33 ≤ v) (h126 : v ≤ 126) {F G : AS → Prop} (h : TX a0 (ap b v) (l + 1) (k + (if v = 59 then 1 else 0)) → G (ap b v)) : bd (padA b (appA b.2.2.2.1 x)) fun o => if o.1 ≤ 0 then F o.2 else G o.2 := by
  obtain ⟨e, t'⟩ := t.app hl h33 h126
  rw [hx]
  refine bdI e ?_
  try dsimp only
  have := t.2.2.2.2.2.1
  rw [if_neg (show ¬ nI (b.2.2.2.1.1 + 1) ≤ 0 from i_nle (b := 0) (Nat.succ_pos _) (by omega))]
  exact h t'
theorem dig {v d m : Nat} (hv : v < 1000) (hd : 0 < d) (hd2 : d < 2147483648) : (48 : Int32) + jrem (nI v / nI d) 10 = nI (48 + v / d % 10) := by
  rw [i_div (by omega) hd hd2, show jrem (nI (v / d)) 10 = nI (v / d % 10) from i_rem (d := 10) (Nat.lt_of_le_of_lt (Nat.div_le_self _ _) (by omega)) (by omega) (by omega)]
  exact i_add 48 _
theorem num_2 {a0 b : AS} {l k v : Nat} {K : Int32 → AS → Prop} (hv : v < 1000) (t : TX a0 b l k) (hl : l < 60) (hK : ∀ b', TX a0 b' (l + 1) k → K 1 b') : jL_number_2 (nI v) K b := by
  unfold jL_number_2
  refine typ (v := 48 + v % 10) (F := fun z => K 0 z) (G := fun z => K 1 z) t hl ?_ (by omega) (by omega) (fun t' => hK _ ?_)
  · rw [show jrem (nI v) 10 = nI (v % 10) from i_rem (d := 10) (by omega) (by omega) (by omega)]
    exact i_add 48 _
  · rw [if_neg (show ¬ 48 + v % 10 = 59 by omega)] at t'
    exact t'
theorem num_1 {a0 b : AS} {l k v : Nat} {K : Int32 → AS → Prop} (hv : v < 1000) (t : TX a0 b l k) (hl : l + 1 < 60) (hK : ∀ b', TX a0 b' (l + 2) k → K 1 b') : jL_number_1 (nI v) K b := by
  unfold jL_number_1
  by_cases q : v < 10
  · rw [if_pos (show nI v < 10 from i_plt (b := 10) q (by omega))]
    exact num_2 hv t (by omega) (fun b' t' => hK b' (t'.mono (by omega)))
  · rw [if_neg (show ¬ nI v < 10 from i_nlt (b := 10) (by omega) (by omega))]
    refine typ (v := 48 + v / 10 % 10) (F := fun z => K 0 z) (G := fun z => jL_number_2 (nI v) K z) t (by omega) (dig (d := 10) (m := 0) hv (by omega) (by omega)) (by omega) (by omega) (fun t' => ?_)
    rw [if_neg (show ¬ 48 + v / 10 % 10 = 59 by omega)] at t'
    exact num_2 hv t' (by omega) hK
theorem num_run {a0 b : AS} {l k v : Nat} {K : Int32 → AS → Prop} (hv : v < 1000) (t : TX a0 b l k) (hl : l + 2 < 60) (hK : ∀ b', TX a0 b' (l + 3) k → K 1 b') : gL_number (nI v) b K := by
  unfold gL_number
  by_cases q : v < 100
  · rw [if_pos (show nI v < 100 from i_plt (b := 100) q (by omega))]
    exact num_1 hv t (by omega) (fun b' t' => hK b' (t'.mono (by omega)))
  · rw [if_neg (show ¬ nI v < 100 from i_nlt (b := 100) (by omega) (by omega))]
    refine typ (v := 48 + v / 100) (F := fun z => K 0 z) (G := fun z => jL_number_1 (nI v) K z) t (by omega) ?_ (by omega) (by omega) (fun t' => ?_)
    · rw [show nI v / 100 = nI (v / 100) from i_div (d := 100) (by omega) (by omega) (by omega)]
      exact i_add 48 _
    · rw [if_neg (show ¬ 48 + v / 100 = 59 by omega)] at t'
      exact num_1 hv t' (by omega) hK
theorem typ_step {a0 b : AS} {i : Nat} (hi : i < 9) {i1 : Int32} {KB : (Int32 × Int32 × AS) → Prop} (t : TX a0 b (5 * i + 1) i) (hk : ∀ b', TX a0 b' (5 * (i + 1)) i → KB (1, nI i + 1, b')) : ∀ s : Int32 × Int32 × AS, s.2.1 = nI i → jL_types_4 i1 s KB b := fun s hs => by
  obtain ⟨w, hw, ew⟩ := low_ok (i1 >>> ((2 + (2 * s.2.1)) &&& 31)) (n := 7) (by omega) (by omega)
  have ew : lwA28 (i1 >>> ((2 + (2 * s.2.1)) &&& 31)) 7 = nI w := ew
  have six : ∀ b', TX a0 b' (5 * (i + 1)) i → jL_types_6 s KB b' := fun b' t' => by
    unfold jL_types_6 jL_types_2
    rw [hs]
    exact hk b' t'
  have seven : ∀ (o : Int32 × AS) (v : Nat), v < 1000 → TX a0 o.2 (5 * i + 2) i → jL_types_7 s KB o (nI v) := fun o v hv t' => by
    unfold jL_types_7
    refine num_run hv t' (by omega) (fun b' t2 => ?_)
    rw [if_neg (show ¬ (1 : Int32) = 0 by decide)]
    exact six b' (t2.mono (by omega))
  have eight : ∀ (o : Int32 × AS) (y : Nat), 0 < y → y < 1000 → TX a0 o.2 (5 * i + 2) i → jL_types_8 i1 s KB o (nI y) := fun o y h0 hy t' => by
    unfold jL_types_8
    obtain ⟨v, hv, ev⟩ := low_ok ((i1 >>> ((2 + (2 * s.2.1)) &&& 31)) >>> (2 &&& 31)) h0 (by omega)
    refine ⟨fun z => by have := (i_eq (b := 0) (by omega) (by omega)).mp z; omega, ?_⟩
    rw [ev]
    exact seven o v (by omega) t'
  have nine : ∀ (o : Int32 × AS) (y : Nat), 0 < y → y < 1000 → TX a0 o.2 (5 * i + 2) i → jL_types_9 i1 s KB o (nI y) := fun o y h0 hy t' => by
    unfold jL_types_9
    obtain ⟨v, hv, ev⟩ := low_ok ((i1 >>> ((2 + (2 * s.2.1)) &&& 31)) >>> (2 &&& 31)) h0 (by omega)
    refine ⟨fun z => by have := (i_eq (b := 0) (by omega) (by omega)).mp z; omega, ?_⟩
    rw [ev]
    exact seven o v (by omega) t'
  have five : ∀ L : Nat, (L = 103 ∨ L = 98 ∨ L = 119) → jL_types_5 i1 s KB b (nI L) := fun L hL => by
    unfold jL_types_5
    obtain ⟨e, t'⟩ := t.app (v := L) (by omega) (by omega) (by omega)
    rw [if_neg (show ¬ L = 59 by omega)] at t'
    have hlen := t.2.2.2.2.2.1
    refine bdI e ?_
    try dsimp only
    rw [if_neg (show ¬ nI (b.2.2.2.1.1 + 1) ≤ 0 from i_nle (b := 0) (Nat.succ_pos _) (by omega)), ew]
    by_cases q6 : w = 6
    · rw [if_pos (show nI w = 6 from congrArg nI q6)]
      exact six _ (t'.mono (by omega))
    · rw [if_neg (show ¬ nI w = 6 from fun z => q6 ((i_eq (b := 6) (by omega) (by omega)).mp z))]
      by_cases q5 : 5 ≤ w
      · rw [if_pos (show (5 : Int32) ≤ nI w from i_ple (a := 5) q5 (by omega))]
        by_cases qz : lwA28 (i1 >>> (23 &&& 31)) 5 = 0
        · rw [if_pos qz]
          exact eight _ 125 (by omega) (by omega) t'
        · rw [if_neg qz]
          exact eight _ 9 (by omega) (by omega) t'
      · rw [if_neg (show ¬ (5 : Int32) ≤ nI w from i_nle (a := 5) (by omega) (by omega))]
        by_cases qz : lwA28 (i1 >>> (22 &&& 31)) 9 = 0
        · rw [if_pos qz]
          exact nine _ 44 (by omega) (by omega) t'
        · rw [if_neg qz]
          exact nine _ 40 (by omega) (by omega) t'
  unfold jL_types_4
  rw [ew]
  by_cases q5 : 5 ≤ w
  · rw [if_pos (show (5 : Int32) ≤ nI w from i_ple (a := 5) q5 (by omega))]
    by_cases q : w = 5
    · rw [if_pos (show nI w = 5 from congrArg nI q)]
      exact five 98 (by omega)
    · rw [if_neg (show ¬ nI w = 5 from fun z => q ((i_eq (b := 5) (by omega) (by omega)).mp z))]
      exact five 119 (by omega)
  · rw [if_neg (show ¬ (5 : Int32) ≤ nI w from i_nle (a := 5) (by omega) (by omega))]
    exact five 103 (by omega)
theorem types_run {a : AS} (h : IA a) {i1 : Int32} {n : Nat} (hn : n < 9) (en : lwA28 i1 9 = nI n) {K : Int32 → AS → Prop} (hK : ∀ b l k, TX a b l k → ((0 < n ∧ k + 1 = n) ∨ b.2.2.2.1.1 = 0 ∨ (0 < b.2.2.2.1.1 ∧ b.2.2.2.1.2 (b.2.2.2.1.1 - 1) = 59)) → K 1 b) : gL_types i1 a K := by
  have hc := h.clear
  have hpad := h.pad
  have e0 : padA a (clrA a.2.2.2.1) = (nI a.2.2.2.1.1, (a.1, a.2.1, a.2.2.1, (0, a.2.2.2.1.2), a.2.2.2.2)) := rfl
  rw [e0] at hc
  have t0 : TX a (a.1, a.2.1, a.2.2.1, (0, a.2.2.2.1.2), a.2.2.2.2) 0 0 := ⟨hc, rfl, rfl, rfl, rfl, Nat.le_refl _, rfl⟩
  unfold gL_types
  refine bdI e0 ?_
  try dsimp only
  rw [if_neg (i_nz (by omega))]
  unfold jL_types_1
  try dsimp only
  refine lpP_inv (fun i s => ∃ b, s = (1, nI i, b) ∧ TX a b (5 * i) (i - 1) ∧ (i = 0 → b.2.2.2.1.1 = 0)) (fun o => ∃ b, o = (1, b) ∧ TX a b (5 * n) (n - 1) ∧ (n = 0 → b.2.2.2.1.1 = 0)) n ?_ ?_ ?_ FU 0 _ (by rw [FU_eq]; omega) (by omega) ⟨_, rfl, t0, fun _ => rfl⟩
  · intro i s KB KX hi hs hk
    obtain ⟨b, rfl, t, tz⟩ := hs
    have hk' : ∀ b', TX a b' (5 * (i + 1)) i → KB (1, nI i + 1, b') := fun b' t' => hk _ ⟨b', by rw [i_inc], t', fun z => absurd z (Nat.succ_ne_zero i)⟩
    unfold tL_types_23
    try dsimp only
    rw [en, if_neg (i_nle hi (by omega)), if_neg (show ¬ (1 : Int32) = 0 by decide)]
    by_cases q : i = 0
    · rw [if_pos (show nI i = 0 from congrArg nI q)]
      subst q
      exact typ_step (by omega) (t.mono (by omega)) hk' _ rfl
    · rw [if_neg (show ¬ nI i = 0 from fun z => q ((i_eq (b := 0) (by omega) (by omega)).mp z))]
      refine typ (v := 59) (F := fun z => jL_types_3 (1, nI i, b) KB z) (G := fun z => jL_types_4 i1 (1, nI i, b) KB z) t (by omega) rfl (by omega) (by omega) (fun t' => ?_)
      rw [if_pos rfl, show i - 1 + 1 = i by omega] at t'
      exact typ_step (by omega) t' hk' _ rfl
  · intro s KB KX hs hk
    obtain ⟨b, rfl, t, tz⟩ := hs
    unfold tL_types_23
    try dsimp only
    rw [en, if_pos (i_ple (Nat.le_refl _) (by omega))]
    exact hk _ ⟨b, rfl, t, tz⟩
  · intro o ho
    obtain ⟨b, rfl, t, tz⟩ := ho
    try dsimp only
    rw [if_neg (show ¬ (1 : Int32) = 0 by decide)]
    by_cases q : (0 : Int32) < lwA28 (i1 >>> (26 &&& 31)) 6
    · rw [if_pos q]
      unfold jL_types_10
      refine hK b _ _ t ?_
      by_cases q0 : n = 0
      · exact Or.inr (Or.inl (tz q0))
      · exact Or.inl ⟨by omega, by omega⟩
    · rw [if_neg q]
      refine typ (v := 59) (F := fun z => K 0 z) (G := fun z => jL_types_10 K z) t (by omega) rfl (by omega) (by omega) (fun t' => ?_)
      unfold jL_types_10
      refine hK _ _ _ t' (Or.inr (Or.inr ⟨Nat.succ_pos _, ?_⟩))
      show un b.2.2.2.1.2 b.2.2.2.1.1 59 (b.2.2.2.1.1 + 1 - 1) = 59
      rw [Nat.add_sub_cancel, un_s]
theorem why_val {y : Int32 × Int32 × Int32} (j : Nat) (hj : j < 3) : whyA y (nI j) = if y.1 = 0 then -4 else if j = 0 then y.1 else if j = 1 then y.2.1 else y.2.2 := by
  unfold whyA
  rw [ix_nI hj (by omega)] <;> rfl
theorem carries_run {a : AS} (h : IA a) {i1 : Int32} {K : Int32 → AS → Prop} (hK : ∀ b, IA b → ActR a b → K 1 b) : gL_carries i1 a K := by
  obtain ⟨n, hn, en⟩ := low_ok i1 (n := 9) (by omega) (by omega)
  have en : lwA28 i1 9 = nI n := en
  have hlen := h.len
  unfold gL_carries
  refine look_run h.n1 ?_
  refine types_run h hn en (fun b l k tx hd => ?_)
  obtain ⟨t1, t2, t3, t4, t5, t6, t7⟩ := tx
  have hpad := t1.pad
  intro r57 a57 hc hI
  have hc63 := hI.clear
  refine bdI rfl ?_
  rw [if_neg (show ¬ (1 : Int32) = 0 by decide)]
  rcases hc with ⟨⟨s, es⟩, hr, ha⟩ | ⟨ew, M, kk, y, hr, ha, hy⟩
  · subst ha hr
    have hs : s ≤ a57.2.2.2.1.1 := fwA_le _ 32 0 s es
    have key : jL_carries_1 i1 a K (lookV a) a57 (-2) (padA a57 (clrA a57.2.2.2.1)) 1 := by
      have e1 : (padA a57 (clrA a57.2.2.2.1)).2.1 = a.1 := t2
      have e2 : (padA a57 (clrA a57.2.2.2.1)).2.2.1 = a.2.1 := t3
      have e3 : (padA a57 (clrA a57.2.2.2.1)).2.2.2.2.2 = a.2.2.2.2 := t5
      unfold jL_carries_1
      rw [es, if_neg (show ¬ oI (some s) = -4 from fun z => (i_n4 (by omega)).mp z), if_neg (show ¬ (1 : Int32) = 0 by decide), oI_some, if_neg (i_nz (by omega)), cot_18, if_neg (show ¬ nI a57.2.2.2.1.1 < nI s from i_nlt hs (by omega)), if_pos (show (padA a57 (clrA a57.2.2.2.1)).1 = nI a57.2.2.2.1.1 from rfl)]
      refine look_run (by rw [e1]; exact h.n1) ?_
      rw [lookV_ext (a := (padA a57 (clrA a57.2.2.2.1)).2) (b := a) e1, if_pos ((lg_cmp_eq _ _).mpr rfl), cot_19, cot_19, e2, if_pos rfl, e3, if_pos rfl, if_pos rfl]
      exact hK _ hc63 ⟨Or.inl ⟨e1, e2⟩, t4⟩
    rw [if_pos rfl]
    unfold jL_carries_6
    rw [es, if_neg (show ¬ oI (some s) = -4 from fun z => (i_n4 (by omega)).mp z)]
    unfold jL_carries_7
    rw [if_pos rfl]
    exact key
  · obtain ⟨hl0, hl59⟩ := fwT_last ew
    have hkn : 0 < n ∧ k + 1 = n := by
      rcases hd with z | z | z
      · exact z
      · omega
      · exact absurd z.2 hl59
    have hk : kk ≤ n := by
      rcases hy with ⟨_, z⟩ | ⟨_, _, _, _, _, _, z⟩ <;> omega
    have hrec : (recA b.2.1 b.1).length = min b.2.1.length 3 + 1 := recA_len t1.len
    subst ha hr
    have two : jL_carries_2 i1 K b (nI kk) (padA (M, recA b.2.1 b.1, b.2.2.1, (0, b.2.2.2.1.2), y) (clrA (0, b.2.2.2.1.2))) (nI (min b.2.1.length 3 + 1)) := by
      have fin : jL_carries_3 K (padA (M, recA b.2.1 b.1, b.2.2.1, (0, b.2.2.2.1.2), y) (clrA (0, b.2.2.2.1.2))) := by
        unfold jL_carries_3
        refine hK _ hc63 ⟨Or.inr ?_, t4⟩
        show recA b.2.1 b.1 = recA a.2.1 a.1
        rw [t2, t3]
      unfold jL_carries_2
      rw [cot_19, if_pos (show nI (padA (M, recA b.2.1 b.1, b.2.2.1, (0, b.2.2.2.1.2), y) (clrA (0, b.2.2.2.1.2))).2.2.1.length = nI (min b.2.1.length 3 + 1) by rw [← hrec]; rfl), en]
      rw [show (padA (M, recA b.2.1 b.1, b.2.2.1, (0, b.2.2.2.1.2), y) (clrA (0, b.2.2.2.1.2))).2.2.2.2.2 = y from rfl]
      rcases hy with ⟨hy, hkk⟩ | ⟨e, p, hy, he, hp2, hpl, hkc⟩
      · have w : ∀ j : Nat, j < 3 → whyA y (nI j) = -4 := fun j hj => by
          rw [why_val j hj, hy, if_pos rfl]
        rw [if_pos (show nI kk = nI n by rw [show kk = n by omega]), show whyA y 0 = -4 from w 0 (by omega), if_pos rfl, show whyA y 1 = -4 from w 1 (by omega), if_pos rfl, show whyA y 2 = -4 from w 2 (by omega), if_pos rfl]
        exact fin
      · have he0 : ¬ e = 0 := by rcases he with rfl | rfl <;> decide
        have w0 : whyA y 0 = e := by
          rw [show whyA y 0 = _ from why_val 0 (by omega), hy, if_neg he0, if_pos rfl]
        have w1 : whyA y 1 = nI kk := by
          rw [show whyA y 1 = _ from why_val 1 (by omega), hy, if_neg he0, if_neg (by decide), if_pos rfl]
        have w2 : whyA y 2 = nI p := by
          rw [show whyA y 2 = _ from why_val 2 (by omega), hy, if_neg he0, if_neg (by decide), if_neg (by decide)]
        have four : jL_carries_4 K b (nI kk) (padA (M, recA b.2.1 b.1, b.2.2.1, (0, b.2.2.2.1.2), y) (clrA (0, b.2.2.2.1.2))) := by
          unfold jL_carries_4
          rw [show (padA (M, recA b.2.1 b.1, b.2.2.1, (0, b.2.2.2.1.2), y) (clrA (0, b.2.2.2.1.2))).2.2.2.2.2 = y from rfl, w1, if_pos rfl, w2, show (2 : Int32) * nI kk = nI (2 * kk) from i_mul 2 kk, if_neg (show ¬ nI p < nI (2 * kk) from i_nlt hp2 (by omega)), cot_18, if_neg (show ¬ nI b.2.2.2.1.1 ≤ nI p from i_nle hpl (by omega))]
          exact fin
        rw [if_neg (show ¬ nI kk = nI n from fun z => by have := (i_eq (by omega) (by omega)).mp z; omega), w0]
        rcases he with rfl | rfl
        · rw [if_pos rfl]
          exact four
        · rw [if_neg (by decide), if_pos rfl]
          exact four
    have key : jL_carries_1 i1 a K (lookV a) b (nI kk) (padA (M, recA b.2.1 b.1, b.2.2.1, (0, b.2.2.2.1.2), y) (clrA (0, b.2.2.2.1.2))) 1 := by
      unfold jL_carries_1
      rw [ew, if_pos (show oI none = -4 from rfl), if_neg (show ¬ (1 : Int32) = 0 by decide), if_neg (i_nz (by omega)), en, if_neg (show ¬ nI n < nI kk from i_nlt hk (by omega)), if_pos (show (padA (M, recA b.2.1 b.1, b.2.2.1, (0, b.2.2.2.1.2), y) (clrA (0, b.2.2.2.1.2))).1 = 0 from rfl), cot_19, ← t3]
      rw [← t3] at hlen
      by_cases q : 4 ≤ b.2.1.length
      · rw [if_pos (show (4 : Int32) ≤ nI b.2.1.length from i_ple (a := 4) q (by omega))]
        have e : (4 : Int32) = nI (min b.2.1.length 3 + 1) := (congrArg nI (show min b.2.1.length 3 + 1 = 4 by omega)).symm
        rw [e]
        exact two
      · rw [if_neg (show ¬ (4 : Int32) ≤ nI b.2.1.length from i_nle (a := 4) (by omega) (by omega)), i_inc]
        rw [show b.2.1.length + 1 = min b.2.1.length 3 + 1 by omega]
        exact two
    rw [if_neg (show ¬ nI kk = -2 from fun z => i_nz (j := kk) (by omega) (by rw [z]; decide))]
    unfold jL_carries_6
    rw [ew, if_pos (show oI none = -4 from rfl)]
    unfold jL_carries_7
    rw [if_pos rfl]
    exact key
