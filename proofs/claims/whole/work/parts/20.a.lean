/-! ===== the invariant between the class and the reference ===== -/
def KI (sv : Int32) (gs : GX4) (ik : Int32) (kept : Nat → Int32) : Prop := (sv = 0 ∧ ik = 0) ∨ (sv = 1 ∧ ik = 1 ∧ Two gs kept)
def TI (gp : GX1) (pad : Nat → Int32) (len : Int32) : Prop := ∃ (c : Nat → Nat) (n : Nat), RepP gp c n ∧ len = nI n ∧ n ≤ 60 ∧ ∀ i, i < n → pad i = nI (c i) ∧ 33 ≤ c i ∧ c i ≤ 126
def Inv (V : GV) (G : GX8) : Prop := Two V.2.1 (pX8_s G) ∧ HI (pX7_states V.1) V.2.2.2.2.1 (pX8_known G) (pX8_past G) ∧ KI (pX7_saved V.1) V.2.2.1 (pX8_isKept G) (pX8_kept G) ∧ TI V.2.2.2.2.2.2.2.2.2 (pX8_pad G) (pX8_length G) ∧ YI V.1.2.2 (whK G)
theorem HI.fq {st : Int32} {gh : GH} {G H : GX8} (h : HI st gh (pX8_known G) (pX8_past G)) (a : fqK H = fqK G) : HI st gh (pX8_known H) (pX8_past H) := by
  rw [show pX8_known H = pX8_known G from congrArg (fun x => x.2.1) a, show pX8_past H = pX8_past G from congrArg (fun x => x.1) a]
  exact h
theorem KI.fq {sv : Int32} {gs : GX4} {G H : GX8} (h : KI sv gs (pX8_isKept G) (pX8_kept G)) (a : fqK H = fqK G) : KI sv gs (pX8_isKept H) (pX8_kept H) := by
  rw [show pX8_isKept H = pX8_isKept G from congrArg (fun x => x.2.2.2.1) a, show pX8_kept H = pX8_kept G from congrArg (fun x => x.2.2.1) a]
  exact h
theorem TI.fq {gp : GX1} {G H : GX8} (h : TI gp (pX8_pad G) (pX8_length G)) (a : fqK H = fqK G) : TI gp (pX8_pad H) (pX8_length H) := by
  rw [show pX8_pad H = pX8_pad G from congrArg (fun x => x.2.2.2.2.1) a, show pX8_length H = pX8_length G from congrArg (fun x => x.2.2.2.2.2) a]
  exact h
theorem YI.wh {y : Int32 × Int32 × Int32} {G H : GX8} (h : YI y (whK G)) (a : whK H = whK G) : YI y (whK H) := by
  rw [a]
  exact h
theorem i_out {α : Sort _} {x : Int32} {n : Nat} (hn : n + 1 < 2147483648) (q : x < 0 ∨ nI (n + 1) ≤ x) {a b : α} : (if x < 0 then a else (if x ≤ nI n then b else a)) = a := by
  rcases q with q | q
  · rw [if_pos q]
  · have h := i_hi hn q
    rw [if_neg h.1, if_neg h.2.1]
theorem i_outl {α : Sort _} {x : Int32} {n : Nat} (hn : n + 1 < 2147483648) (q : x < 0 ∨ nI (n + 1) ≤ x) {a b : α} : (if x < 0 then a else (if x < nI (n + 1) then b else a)) = a := by
  rcases q with q | q
  · rw [if_pos q]
  · have h := i_hi hn q
    rw [if_neg h.1, if_neg h.2.2.2]
theorem i_ne {x : Int32} {n j : Nat} (hn : n + 1 < 2147483648) (q : x < 0 ∨ nI (n + 1) ≤ x) (hj : j ≤ n) : ¬ x = nI j := by
  intro e
  subst e
  rcases q with q | q
  · exact i_nz (by omega) q
  · exact i_nle (show j < n + 1 by omega) (by omega) q
theorem r_zero {s : Nat → Int32} {R : (Nat → Int32) × (Nat → Int32) × Int32 × (Nat → Int32) × Int32 × (Nat → Int32) × Int32 × Int32 × Int32 × Int32 × Int32 × Int32 × Int32 × (Nat → Int32) × (Nat → Int32) × Int32 × Int32 × Int32 × Int32 × (Nat → Int32)} : ∃ f, lp tX8_begin_18 FU (6, (s, R)) = some (f, R) ∧ (∀ j, j < 6 → f j = s j) ∧ (∀ j, 6 ≤ j → j < 373 → f j = 0) := by
  obtain ⟨o, e, f, o1, o2, o3⟩ := lp_inv (step := tX8_begin_18) (s := (6, (s, R))) (fun i x => x.1 = nI (6 + i) ∧ ∃ f : Nat → Int32, x.2 = (f, R) ∧ (∀ j, j < 6 → f j = s j) ∧ (∀ j, 6 ≤ j → j < 6 + i → f j = 0)) (fun o => ∃ f : Nat → Int32, o = (f, R) ∧ (∀ j, j < 6 → f j = s j) ∧ (∀ j, 6 ≤ j → j < 373 → f j = 0)) 367 (by omega) ⟨rfl, s, rfl, fun j _ => rfl, fun j h1 h2 => by omega⟩
    (fun i x hi ⟨a1, f, a2, a3, a4⟩ => by
      obtain ⟨y, T⟩ := x
      dsimp only at a1 a2
      subst a1
      subst a2
      have st : tX8_begin_18 (nI (6 + i), (f, R)) = some (.inl (nI (6 + i) + 1, (upd f (6 + i) 0, R))) := by
        unfold tX8_begin_18
        dsimp only
        rw [if_neg (show ¬ (373 : Int32) ≤ nI (6 + i) from i_nle (a := 373) (by omega) (by omega)), gI (by omega) (by omega), i_cl (by omega)]
      refine ⟨_, st, i_inc _, upd f (6 + i) 0, rfl, fun j hj => ?_, fun j h1 h2 => ?_⟩
      · rw [pk_un (by omega)]; exact a3 j hj
      · by_cases q : j = 6 + i
        · rw [q, pk_us]
        · rw [pk_un q]; exact a4 j h1 (by omega))
    (fun x ⟨a1, f, a2, a3, a4⟩ => by
      refine ⟨x.2, ?_, f, a2, a3, fun j h1 h2 => a4 j h1 (by omega)⟩
      unfold tX8_begin_18
      rw [a1, if_pos (show (373 : Int32) ≤ nI (6 + 367) from i_ple (a := 373) (by omega) (by omega))])
  subst o1
  exact ⟨f, e, o2, o3⟩
theorem pf_begin : st_begin Inv := by
  intro V G a1 ⟨hT, hH, hK, hX, hY⟩
  unfold fX7_begin fX8_begin
  rw [show (2 : Int32) = nI 2 from rfl]
  rcases r_in0 a1 (n := 2) (by omega) with ⟨b, hb, rfl, e⟩ | ⟨e, q⟩
  · rw [e, if_neg (i_nz (by omega)), if_pos (i_ple hb (by omega))]
    simp only [Option.bind_some]
    rw [if_neg (show ¬ (1 : Int32) = 0 by decide)]
    obtain ⟨st, gh', P, kn, e1, e2, hH'⟩ := rec_both (gh := V.2.2.2.2.1) hT hH
    rw [e1, e2]
    simp only [Option.bind_some]
    obtain ⟨M, gd, hS, hR⟩ := hT
    obtain ⟨S', e3, r3⟩ := s_plant (S := V.2.1) (M := M) (b := b) (by omega) hS.2.2.2.2.2.1 hS.2.2.2.2.2.2.1
    obtain ⟨f, e4, f1, f2⟩ := r_zero (s := G.1) (R := (G.2.1, P, kn, G.2.2.2.2))
    obtain ⟨G2, e5, r5, f5⟩ := r_roots (G := (f, G.2.1, P, kn, G.2.2.2.2)) (M := M) (b := b) (by omega) ((f1 1 (by omega)).trans hR.2.2.2.2.1) (fun k hk => (f1 _ (by omega)).trans (hR.2.2.2.2.2.1 k hk)) (f2 6 (by omega) (by omega)) (f2 7 (by omega) (by omega)) (f2 8 (by omega) (by omega)) (f2 9 (by omega) (by omega))
    rw [e3, e4]
    simp only [Option.bind_some]
    rw [e5]
    simp only [Option.bind_some]
    obtain ⟨s2, R2⟩ := G2
    dsimp only at f5
    subst f5
    exact ⟨_, _, rfl, rfl, (r_n r5).symm, ⟨_, Good.beg gd.1 (by omega), r3, r5⟩, hH', hK, hX, hY⟩
  · rw [i_out (by omega) q, e]
    simp only [Option.bind_some]
    rw [if_pos trivial]
    exact ⟨_, _, rfl, rfl, rfl, hT, hH, hK, hX, hY⟩
theorem pf_lot : st_lot Inv := by
  intro V G a1 ⟨hT, hH, hK, hX, hY⟩
  unfold fX7_lot fX8_lot
  rw [show (9999 : Int32) = nI 9999 from rfl, show (10000 : Int32) = nI (9999 + 1) from rfl]
  rcases r_in0 a1 (n := 9999) (by omega) with ⟨b, hb, rfl, e⟩ | ⟨e, q⟩
  · rw [e, if_neg (i_nz (by omega)), if_pos (i_plt (show b < 9999 + 1 by omega) (by omega))]
    simp only [Option.bind_some]
    rw [if_neg (show ¬ (1 : Int32) = 0 by decide)]
    obtain ⟨st, gh', P, kn, e1, e2, hH'⟩ := rec_both (gh := V.2.2.2.2.1) hT hH
    rw [e1, e2]
    simp only [Option.bind_some]
    obtain ⟨M, gd, hS, hR⟩ := hT
    exact ⟨_, _, rfl, rfl, hS.2.2.2.2.2.1.trans hR.2.2.2.2.1.symm, ⟨_, gd.lot (L := b) (by omega), hS.lot b, RepR_lot hR b⟩, hH', hK, hX, hY⟩
  · rw [i_outl (by omega) q, e]
    simp only [Option.bind_some]
    rw [if_pos trivial]
    exact ⟨_, _, rfl, rfl, rfl, hT, hH, hK, hX, hY⟩
theorem pf_go : st_go Inv := by
  intro V G a1 ⟨hT, hH, hK, hX, hY⟩
  unfold fX7_go fX8_go
  obtain ⟨M, gd, hS, hR⟩ := id hT
  rcases ref_go gd hS hR a1 with ⟨r, hr', rfl, ha, e1, e2⟩ | ⟨y, hy, e1, e2⟩
  · rw [e1, e2]
    simp only [Option.bind_some]
    obtain ⟨st, gh', P, kn, e3, e4, hH'⟩ := rec_both (gh := V.2.2.2.2.1) hT hH
    rw [if_pos trivial, if_pos (show (0 : Int32) ≤ 0 by decide), e3, e4]
    simp only [Option.bind_some]
    have hz := wlk_ok gd.1 (rimC_lt r hr') ha
    obtain ⟨S', e5, r5⟩ := s_letWalk gd.1 hS hr' ha (st, V.1.2) V.2.2.2.2.2.1
    obtain ⟨G', e6, r6, f6⟩ := r_go (G := (G.1, G.2.1, P, kn, G.2.2.2.2)) gd.1 hR hr' ha
    rw [e5, e6]
    simp only [Option.bind_some]
    exact ⟨_, _, rfl, rfl, rfl, ⟨_, gd.set hz, r5, r6⟩, HI.fq (G := (G.1, G.2.1, P, kn, G.2.2.2.2)) hH' f6.fq, KI.fq (G := (G.1, G.2.1, P, kn, G.2.2.2.2)) hK f6.fq, TI.fq (G := (G.1, G.2.1, P, kn, G.2.2.2.2)) hX f6.fq, YI.wh (G := (G.1, G.2.1, P, kn, G.2.2.2.2)) hY f6.wh⟩
  · have hy2 := neg_12 hy
    rw [e1, e2]
    simp only [Option.bind_some]
    rw [if_neg hy2.2, if_neg hy2.1]
    exact ⟨_, _, rfl, rfl, rfl, hT, hH, hK, hX, hY⟩
theorem s_rain {S : GX4} {M : GM} (w : WF M) (h : RepS S M) (o14 : GX7 × GH) (K : GX6) {a : Nat} (ha : a < 100) : ∃ S' K', lp (tX7_rain_21 (nI a) o14) FU (0, 0, S, K) = some (nI (rnF M a).1, S', K') ∧ RepS S' (rnF M a).2 := by
  obtain ⟨o, e, o1, o2⟩ := lp_inv (step := tX7_rain_21 (nI a) o14) (s := (0, 0, S, K)) (fun i s => s.1 = nI (rnF M i).1 ∧ s.2.1 = nI i ∧ RepS s.2.2.1 (rnF M i).2) (fun o => o.1 = nI (rnF M a).1 ∧ RepS o.2.1 (rnF M a).2) a (by omega) ⟨rfl, rfl, h⟩
    (fun i s hi ⟨a1, a2, a3⟩ => by
      obtain ⟨x, y, T, J⟩ := s
      dsimp only at a1 a2 a3
      subst a1 a2
      obtain ⟨T', J', e, r⟩ := s_drops (w.rnF i) a3 o14.1 J
      unfold tX7_rain_21 jX7_rain_1
      dsimp only
      rw [if_neg (i_nle hi (by omega)), e]
      simp only [Option.bind_some]
      have es : (rnF M (i + 1)).1 = (rnF M i).1 + (if rnS (rnF M i).2 then 1 else 0) := rfl
      rw [es]
      cases rnS (rnF M i).2 with
      | true =>
        rw [if_neg (show ¬ (if true = true then (1 : Int32) else 0) = 0 by decide)]
        exact ⟨_, rfl, i_inc _, i_inc _, r⟩
      | false =>
        rw [if_pos (show (if false = true then (1 : Int32) else 0) = 0 by decide)]
        exact ⟨_, rfl, rfl, i_inc _, r⟩)
    (fun s ⟨a1, a2, a3⟩ => by
      refine ⟨(s.1, s.2.2.1, s.2.2.2), ?_, a1, a3⟩
      unfold tX7_rain_21
      rw [a2, if_pos (i_ple (Nat.le_refl _) (by omega))])
  obtain ⟨x, S', K'⟩ := o
  dsimp only at o1 o2
  subst o1
  exact ⟨S', K', e, o2⟩
theorem pf_rain : st_rain Inv := by
  intro V G a1 ⟨hT, hH, hK, hX, hY⟩
  unfold fX7_rain fX8_rain
  rw [show (1 : Int32) = nI 1 from rfl, show (20 : Int32) = nI 20 from rfl]
  have bad : (a1 < nI 1 ∨ nI 20 < a1) → (if a1 < nI 1 then some ((-nI 1), V.1, V.2.1, V.2.2.2.2.1, V.2.2.2.2.2.1) else (if a1 ≤ nI 20 then ((fX7_record V.1 V.2.1 V.2.2.2.2.1).bind fun o14 => ((lp (tX7_rain_21 a1 o14) FU (0, 0, V.2.1, V.2.2.2.2.2.1)).bind fun o21 => some (o21.1, o14.1, o21.2.1, o14.2, o21.2.2))) else some ((-nI 1), V.1, V.2.1, V.2.2.2.2.1, V.2.2.2.2.2.1))) = some ((-nI 1), V.1, V.2.1, V.2.2.2.2.1, V.2.2.2.2.2.1) ∧ fX8_in a1 (nI 1) (nI 20) = some 0 := fun q => by
    unfold fX8_in
    by_cases q1 : a1 < nI 1
    · rw [if_pos q1, if_pos q1]; exact ⟨rfl, rfl⟩
    · rcases q with q | q
      · exact absurd q q1
      · rw [if_neg q1, if_neg q1, if_pos q, if_neg (fun z => Int32.lt_irrefl (Int32.lt_of_lt_of_le q z))]; exact ⟨rfl, rfl⟩
  have out : (a1 < nI 1 ∨ nI 20 < a1) ∨ ∃ j, 1 ≤ j ∧ j ≤ 20 ∧ a1 = nI j := by
    rcases i_any a1 (n := 20 + 1) (by omega) with q | q | ⟨j, hj, rfl⟩
    · exact Or.inl (Or.inl (Int32.lt_trans q (show (0 : Int32) < nI 1 by decide)))
    · exact Or.inl (Or.inr (i_hi (by omega) q).2.2.1)
    · by_cases q : j < 1
      · exact Or.inl (Or.inl (i_plt q (by omega)))
      · exact Or.inr ⟨j, by omega, by omega, rfl⟩
  rcases out with q | ⟨j, h1, h2, rfl⟩
  · have hb := bad q
    rw [hb.1, hb.2]
    simp only [Option.bind_some]
    rw [if_pos trivial]
    exact ⟨_, _, rfl, rfl, rfl, hT, hH, hK, hX, hY⟩
  · rw [if_neg (i_nlt h1 (by omega)), if_pos (i_ple h2 (by omega)), r_in (by omega) (by omega) (by omega), if_pos (show 1 ≤ j ∧ j ≤ 20 from ⟨h1, h2⟩)]
    simp only [Option.bind_some]
    rw [if_neg (show ¬ (1 : Int32) = 0 by decide)]
    obtain ⟨st, gh', P, kn, e3, e4, hH'⟩ := rec_both (gh := V.2.2.2.2.1) hT hH
    rw [e3, e4]
    simp only [Option.bind_some]
    obtain ⟨M, gd, hS, hR⟩ := hT
    obtain ⟨S', K', e5, r5⟩ := s_rain gd.1 hS ((st, V.1.2), gh') V.2.2.2.2.2.1 (a := j) (by omega)
    obtain ⟨G', e6, r6, f6⟩ := r_rain (G := (G.1, G.2.1, P, kn, G.2.2.2.2)) gd.1 hR (a := j) (by omega)
    rw [e5, e6]
    simp only [Option.bind_some]
    exact ⟨_, _, rfl, rfl, rfl, ⟨_, gd.rnF j, r5, r6⟩, HI.fq (G := (G.1, G.2.1, P, kn, G.2.2.2.2)) hH' f6.fq, KI.fq (G := (G.1, G.2.1, P, kn, G.2.2.2.2)) hK f6.fq, TI.fq (G := (G.1, G.2.1, P, kn, G.2.2.2.2)) hX f6.fq, YI.wh (G := (G.1, G.2.1, P, kn, G.2.2.2.2)) hY f6.wh⟩
theorem pf_breakOff : st_breakOff Inv := by
  intro V G a1 ⟨hT, hH, hK, hX, hY⟩
  unfold fX7_breakOff fX8_breakOff
  obtain ⟨M, gd, hS, hR⟩ := id hT
  rcases ref_brk gd hS hR a1 with ⟨r, hr', rfl, h0, e1, e2⟩ | ⟨y, hy, e1, e2⟩
  · rw [e1, e2]
    simp only [Option.bind_some]
    obtain ⟨st, gh', P, kn, e3, e4, hH'⟩ := rec_both (gh := V.2.2.2.2.1) hT hH
    rw [if_pos trivial, if_pos (show (0 : Int32) ≤ 0 by decide), e3, e4]
    simp only [Option.bind_some]
    obtain ⟨F', S', e5, r5⟩ := s_dropTree gd.1 hS hr' V.2.2.2.2.2.2.1
    obtain ⟨G', e6, r6, f6⟩ := r_break (G := (G.1, G.2.1, P, kn, G.2.2.2.2)) gd.1 hR hr'
    rw [e5, e6]
    simp only [Option.bind_some]
    exact ⟨_, _, rfl, rfl, rfl, ⟨_, gd.brk hr' h0, r5, r6⟩, HI.fq (G := (G.1, G.2.1, P, kn, G.2.2.2.2)) hH' f6.fq, KI.fq (G := (G.1, G.2.1, P, kn, G.2.2.2.2)) hK f6.fq, TI.fq (G := (G.1, G.2.1, P, kn, G.2.2.2.2)) hX f6.fq, YI.wh (G := (G.1, G.2.1, P, kn, G.2.2.2.2)) hY f6.wh⟩
  · have hy2 := neg_12 hy
    rw [e1, e2]
    simp only [Option.bind_some]
    rw [if_neg hy2.2, if_neg hy2.1]
    exact ⟨_, _, rfl, rfl, rfl, hT, hH, hK, hX, hY⟩
theorem pf_wash : st_wash Inv := by
  intro V G ⟨hT, hH, hK, hX, hY⟩
  unfold fX7_wash fX8_wash
  obtain ⟨st, gh', P, kn, e3, e4, hH'⟩ := rec_both (gh := V.2.2.2.2.1) hT hH
  obtain ⟨M, gd, hS, hR⟩ := hT
  rw [e3, e4]
  simp only [Option.bind_some]
  obtain ⟨F', S', e5, r5⟩ := s_dropTips gd.1 hS V.2.2.2.2.2.2.1
  obtain ⟨G', e6, r6, f6⟩ := r_wash (G := (G.1, G.2.1, P, kn, G.2.2.2.2)) gd.1 hR
  rw [e5, e6]
  simp only [Option.bind_some]
  exact ⟨_, _, rfl, rfl, rfl, ⟨_, gd.wsh, r5, r6⟩, HI.fq (G := (G.1, G.2.1, P, kn, G.2.2.2.2)) hH' f6.fq, KI.fq (G := (G.1, G.2.1, P, kn, G.2.2.2.2)) hK f6.fq, TI.fq (G := (G.1, G.2.1, P, kn, G.2.2.2.2)) hX f6.fq, YI.wh (G := (G.1, G.2.1, P, kn, G.2.2.2.2)) hY f6.wh⟩
