/-! ===== the reference: walks ===== -/
def WI (G0 : GX8) (M : GM) (G : GX8) (x : Nat × Nat × Nat × Nat) : Prop := RepR (pX8_s G) (lotM M x.2.2.2) ∧ Fr G0 G ∧ pX8_walker G = nI x.1 ∧ pX8_steps G = nI x.2.1 ∧ pX8_lots G = nI x.2.2.1
theorem r_draws {G0 G : GX8} {M : GM} {pl st dr L : Nat} (h : WI G0 M G (pl, st, dr, L)) (hL : L < 10000) : ∃ G', fX8_draws G = some (nI (nxl L), G') ∧ WI G0 M G' (pl, st, dr + 1, nxl L) := by
  obtain ⟨h1, h2, h3, h4, h5⟩ := h
  have hk : jrem ((421 * (pX8_s G 1)) + 1663) 10000 = nI (nxl L) := by
    rw [show pX8_s G 1 = nI L from h1.2.2.2.2.1]
    unfold nxl
    simp (disch := omega) only [i_lit, i_add, i_mul, i_sub, i_lt, i_le, i_eq, i_cl, i_max, i_min, i_rem, i_div, i_neg, i_nn, i_n4, i_n4', Option.bind_some, Option.some.injEq, Sum.inl.injEq, Sum.inr.injEq, Prod.mk.injEq, gdn, if_pos, if_neg, Nat.add_zero, Nat.zero_add, and_true, true_and, and_self, ite_true, ite_false, if_true, if_false, reduceIte]
  unfold fX8_draws
  rw [n_cl1, hk, pk_us]
  refine ⟨_, rfl, RepR_lot h1 (nxl L), h2, h3, h4, ?_⟩
  show pX8_lots G + 1 = _
  rw [h5, i_inc]
theorem r_beside {c d : Nat} (hc : c < 121) (hd : d < 4) : fX8_beside (nI c) (nI d) = some (oI (nb c d)) := r_nb c hc d hd
theorem nb_31 {c d : Nat} (hc : c < 121) (hd : d < 4) : ∀ k, nb c d = some k → k < 2147483648 := fun k e => by have := nb_lt c hc d hd k e; omega
theorem at_31 {M : GM} (w : WF M) {c : Nat} : ∀ k, at_ M c = some k → k < 2147483648 := fun k e => by
  have := at_lt e
  have := w.n1
  omega
theorem fgb_31 {M : GM} (w : WF M) {c : Nat} : ∀ k, fgb M c = some k → k < 2147483648 := fun k e => by
  have := fgb_lt e
  have := w.n1
  omega
theorem r_makes {G0 G : GX8} {M : GM} (w : WF M) {pl st dr L : Nat} (h : WI G0 M G (pl, st, dr, L)) (hp : pl < 121) (hL : L < 10000) : ∃ G', fX8_makesStep G = some (if (stepW M pl (nxl L)).isSome then 1 else 0, G') ∧ WI G0 M G' ((stepW M pl (nxl L)).getD pl, st + 1, dr + 1, nxl L) := by
  have h2 := w.2.2.2.2.2.2.2.1
  have h3 := w.2.2.2.2.2.2.2.2
  have hn := nxl_lt L
  obtain ⟨G1, e1, a1, a2, a3, a4, a5⟩ := r_draws h hL
  have w1 := w.lot hn
  have hm : nxl L % (4 + mS M 2) < 4 + mS M 2 := Nat.mod_lt _ (by omega)
  have key : ∀ d, d < 4 → d = (if nxl L % (4 + mS M 2) < 4 then nxl L % (4 + mS M 2) else mS M 3) → ∃ G', jX8_makesStep_1 (nI (nxl L), G1) (nI d) = some (if (stepW M pl (nxl L)).isSome then 1 else 0, G') ∧ WI G0 M G' ((stepW M pl (nxl L)).getD pl, st + 1, dr + 1, nxl L) := by
    intro d hd e
    unfold jX8_makesStep_1 jX8_makesStep_3 jX8_makesStep_2 stepW
    rw [← e]
    dsimp only
    rw [a3, r_beside hp hd]
    simp only [Option.bind_some]
    rw [ifc (oI_neg (nb_31 hp hd))]
    have hst : pX8_steps G1 + 1 = nI (st + 1) := by rw [a4, i_inc]
    cases hb : nb pl d with
    | none =>
      rw [if_pos rfl, if_pos (show oI none < 0 by decide)]
      exact ⟨_, rfl, a1, a2, rfl, hst, a5⟩
    | some k =>
      have hk := nb_lt pl hp d hd k hb
      have hga : ∀ R, fX8_grainAt (nI k) (pX8_s G1, R) = some (oI (at_ M k)) := fun R => (r_grainAt (G := (pX8_s G1, R)) w1 a1 k hk).trans (by rw [at_lot])
      rw [if_neg (fun z => by cases z), oI_some, hga]
      simp only [Option.bind_some]
      rw [if_neg (show ¬ nI k < 0 from i_nlt (b := 0) (Nat.zero_le _) (by omega)), if_neg (show ¬ nI k < 0 from i_nlt (b := 0) (Nat.zero_le _) (by omega))]
      rw [ifc (oI_nn (at_31 w))]
      cases ha : at_ M k with
      | none =>
        rw [if_neg (fun z => z rfl)]
        exact ⟨_, rfl, a1, a2, rfl, hst, a5⟩
      | some g =>
        rw [if_pos (fun z => by cases z)]
        exact ⟨_, rfl, a1, a2, rfl, hst, a5⟩
  unfold fX8_makesStep
  rw [e1]
  simp only [Option.bind_some]
  have s4 : pX8_s G1 (4 : Int32).toNatClampNeg = nI (mS M 2) := a1.2.2.2.2.2.1 2 (by omega)
  have s5 : pX8_s G1 (5 : Int32).toNatClampNeg = nI (mS M 3) := a1.2.2.2.2.2.1 3 (by omega)
  rw [s4, s5, show (4 : Int32) + nI (mS M 2) = nI (4 + mS M 2) from i_add 4 _, i_rem (by omega) (by omega) (by omega)]
  rw [if_neg (show ¬ nI (4 + mS M 2) = 0 by rw [i_0, i_eq (by omega) (by omega)]; omega), ifc (show (4 : Int32) ≤ nI (nxl L % (4 + mS M 2)) ↔ 4 ≤ nxl L % (4 + mS M 2) from i_le (a := 4) (b := nxl L % (4 + mS M 2)) (by omega) (by omega))]
  by_cases q : nxl L % (4 + mS M 2) < 4
  · rw [if_neg (by omega)]
    exact key _ q (by rw [if_pos q])
  · rw [if_pos (by omega)]
    exact key (mS M 3) (by omega) (by rw [if_neg q])
def fin4 : (Nat × Nat × Nat × Nat) ⊕ (Nat × Nat × Nat × Nat × Option Nat) → Nat × Nat × Nat × Nat
  | .inl y => y
  | .inr z => (z.1, z.2.1, z.2.2.1, z.2.2.2.1)
def goS : (Nat × Nat × Nat × Nat) ⊕ (Nat × Nat × Nat × Nat × Option Nat) → Int32
  | .inl _ => 1
  | .inr _ => 0
def stS : (Nat × Nat × Nat × Nat) ⊕ (Nat × Nat × Nat × Nat × Option Nat) → Int32
  | .inl _ => 0
  | .inr z => if z.2.2.2.2.isSome then 1 else 0
theorem r_on {G0 G : GX8} {M : GM} (w : WF M) {pl st dr L : Nat} (h : WI G0 M G (pl, st, dr, L)) (hp : pl < 121) (hL : L < 10000) (hst : st < 1000) : ∃ G', jX8_walks_1 0 G = some (.inl (goS (onW M pl st dr L), stS (onW M pl st dr L), G')) ∧ WI G0 M G' (fin4 (onW M pl st dr L)) := by
  have h200 := w.2.2.2.2.2.2.1.2
  have s3 : pX8_s G (3 : Int32).toNatClampNeg = nI (mS M 1) := h.1.2.2.2.2.2.1 1 (by omega)
  unfold jX8_walks_1 jX8_walks_3 jX8_walks_2 onW
  rw [if_pos rfl, s3, show pX8_steps G = nI st from h.2.2.2.1, ifc (i_le (by omega) (by omega))]
  by_cases q : st < mS M 1
  · rw [if_neg (by omega), if_pos q]
    obtain ⟨G', e, hw⟩ := r_makes w h hp hL
    rw [e]
    simp only [Option.bind_some]
    cases es : stepW M pl (nxl L) with
    | none =>
      rw [es] at hw
      exact ⟨G', rfl, hw⟩
    | some c =>
      rw [es] at hw
      exact ⟨G', rfl, hw⟩
  · rw [if_pos (by omega), if_neg q]
    exact ⟨G, rfl, h⟩
theorem r_turn {G0 G : GX8} {M : GM} (w : WF M) {x : Nat × Nat × Nat × Nat} (h : WI G0 M G x) (hx : okW M x) (z : Int32) : ∃ G', tX8_walks_19 (1, z, G) = some (.inl (goS (turnW M x), stS (turnW M x), G')) ∧ WI G0 M G' (fin4 (turnW M x)) := by
  have h200 := w.2.2.2.2.2.2.1.2
  have h4 := w.2.2.2.2.2.1
  obtain ⟨pl, st, dr, L⟩ := x
  obtain ⟨hp, ha, hL, hst⟩ := hx
  dsimp only at hp ha hL hst
  have w1 := w.lot hL
  have hs2 := h.1.2.2.2.2.2.1 0 (by omega)
  unfold tX8_walks_19 jX8_walks_4 turnW
  dsimp only
  rw [if_neg (show ¬ (1 : Int32) = 0 by decide), h.2.2.1, r_fgb w1 h.1 hp]
  simp only [Option.bind_some]
  show ∃ G', (if oI (fgb M pl) < 0 then _ else _) = _ ∧ _
  rw [ifc (oI_neg (fgb_31 w))]
  cases hf : fgb M pl with
  | none =>
    rw [if_pos rfl]
    exact r_on w h hp hL (by omega)
  | some g =>
    rw [if_neg (fun z => by cases z)]
    obtain ⟨G1, e1, a1⟩ := r_draws h hL
    rw [e1]
    simp only [Option.bind_some]
    have hn := nxl_lt L
    have s2 : pX8_s G1 (2 : Int32).toNatClampNeg = nI (mS M 0) := a1.1.2.2.2.2.2.1 0 (by omega)
    rw [s2, show jrem (nI (nxl L)) 4 = nI (nxl L % 4) from i_rem (a := nxl L) (d := 4) (by omega) (by omega) (by omega), ifc (i_le (by omega) (by omega))]
    by_cases q : nxl L % 4 < mS M 0
    · rw [if_neg (by omega), if_pos q]
      exact ⟨G1, rfl, a1⟩
    · rw [if_pos (by omega), if_neg q]
      exact r_on w a1 hp hn (by omega)
theorem r_walk_end {G : GX8} {z : Int32} (fu : Nat) : lp tX8_walks_19 (fu + 1) (0, z, G) = some (z, G) := lp_r fu (by unfold tX8_walks_19; rw [if_pos rfl])
theorem r_walk_go {G0 : GX8} {M : GM} (w : WF M) : ∀ (m : Nat) (x : Nat × Nat × Nat × Nat) (G : GX8) (z : Int32) (fu : Nat), WI G0 M G x → okW M x → x.2.1 + m = mS M 1 → m + 2 < fu → ∃ G', lp tX8_walks_19 fu (1, z, G) = some (stS (.inr (wlkF M (m + 1) x)), G') ∧ WI G0 M G' (fin4 (.inr (wlkF M (m + 1) x))) := by
  intro m
  induction m with
  | zero =>
    intro x G z fu h hx hm hf
    obtain ⟨fu, rfl⟩ : ∃ q, fu = q + 1 + 1 := ⟨fu - 2, by omega⟩
    obtain ⟨G', e1, a1⟩ := r_turn w h hx z
    rw [lp_l _ e1, wlkF]
    cases e : turnW M x with
    | inl y => obtain ⟨_, _, _, a⟩ := turnW_st w hx.1 e; omega
    | inr z =>
      rw [e] at a1
      exact ⟨G', r_walk_end fu, a1⟩
  | succ m ih =>
    intro x G z fu h hx hm hf
    obtain ⟨fu, rfl⟩ : ∃ q, fu = q + 1 + 1 := ⟨fu - 2, by omega⟩
    obtain ⟨G', e1, a1⟩ := r_turn w h hx z
    have hok := turnW_ok w hx
    rw [lp_l _ e1, wlkF]
    cases e : turnW M x with
    | inl y =>
      rw [e] at a1 hok
      obtain ⟨_, b2, _, _⟩ := turnW_st w hx.1 e
      exact ih y G' 0 (fu + 1) a1 hok (by omega) (by omega)
    | inr z =>
      rw [e] at a1
      exact ⟨G', r_walk_end fu, a1⟩
theorem r_walks {G : GX8} {M : GM} (w : WF M) (h : RepR (pX8_s G) M) {c : Nat} (hc : c < 121) (ha : at_ M c = none) : ∃ G', fX8_walks (nI c) G = some (if (wlk M c).2.2.2.2.isSome then 1 else 0, G') ∧ WI G M G' ((wlk M c).1, (wlk M c).2.1, (wlk M c).2.2.1, (wlk M c).2.2.2.1) := by
  have h200 := w.2.2.2.2.2.2.1.2
  unfold fX8_walks
  obtain ⟨G', e, a⟩ := r_walk_go (G0 := G) w (mS M 1) (c, 0, 0, mL M) ((pX8_s G), (pX8_aside G), (pX8_past G), (pX8_known G), (pX8_kept G), (pX8_isKept G), (pX8_pad G), (pX8_length G), (pX8_whyError G), (pX8_whyNumber G), (pX8_whySpot G), 0, nI c, 0, (pX8_goes G), (pX8_becomes G), (pX8_spot G), (pX8_isForm G), (pX8_letter G), (pX8_told G), (pX8_highest G)) 0 FU ⟨h, rfl, rfl, rfl, rfl⟩ ⟨hc, ha, w.2.2.2.2.1, Nat.zero_le _⟩ (by show 0 + mS M 1 = _; omega) (by rw [FU_eq]; omega)
  rw [e]
  rw [← wlkF_enough w (mS M 1) 201 (c, 0, 0, mL M) hc (by show 0 + mS M 1 = _; omega) (by omega), show wlkF M 201 (c, 0, 0, mL M) = wlk M c by unfold wlk; rfl] at a ⊢
  refine ⟨G', ?_, a⟩
  simp only [Option.bind_some]
  rw [show stS (.inr (wlk M c)) = if (wlk M c).2.2.2.2.isSome then 1 else 0 from rfl]
  unfold jgz
  rw [if_pos (by
    cases (wlk M c).2.2.2.2 with
    | none => exact Or.inl rfl
    | some g => exact Or.inr rfl)]
theorem r_go {G : GX8} {M : GM} (w : WF M) (h : RepR (pX8_s G) M) {r : Nat} (hr : r < 40) (ha : at_ M (rimC r) = none) : ∃ G', fX8_goGrain (nI r) G = some (ansW (wlk M (rimC r)), G') ∧ RepR (pX8_s G') (setM M (wlk M (rimC r))) ∧ Fr G G' := by
  have hz := wlk_ok w (rimC_lt r hr) ha
  have hn := free_lt w hz.1 hz.2.1
  obtain ⟨G1, e1, a1, a2, a3, a4, a5⟩ := r_walks w h (rimC_lt r hr) ha
  unfold fX8_goGrain
  rw [r_rimC r hr]
  simp only [Option.bind_some]
  rw [e1]
  simp only [Option.bind_some]
  generalize wlk M (rimC r) = z at *
  obtain ⟨pl, st, dr, L, o⟩ := z
  dsimp only at a1 a2 a3 a4 a5
  unfold ansW setM
  have n6 : (6 : Int32).toNatClampNeg = 6 := rfl
  have n7 : (7 : Int32).toNatClampNeg = 7 := rfl
  have n9 : (9 : Int32).toNatClampNeg = 9 := rfl
  rw [n6, n7, n9, a4, a3]
  have b6 : pX8_s G1 6 = mR M := a1.2.2.2.2.2.2.1
  have b7 : pX8_s G1 7 = mT M := a1.2.2.2.2.2.2.2.1
  have b8 : pX8_s G1 8 = mA M := a1.2.2.2.2.2.2.2.2.1
  have b9 : pX8_s G1 9 = mK M := a1.2.2.2.2.2.2.2.2.2
  rw [b6]
  rw [show (upd (pX8_s G1) 6 (mR M + 1)) 9 = mK M from by rw [pk_un (by omega), b9]]
  rw [show (upd (upd (pX8_s G1) 6 (mR M + 1)) 9 (mK M + nI st)) 7 = mT M from by rw [pk_un (by omega), pk_un (by omega), b7]]
  cases o with
  | none =>
    refine ⟨_, if_pos rfl, ?_, a2⟩
    have := RepR_cnt (f' := upd (upd (upd (pX8_s G1) 6 (mR M + 1)) 9 (mK M + nI st)) 7 (mT M + 1)) a1 (fun j hj => by rw [pk_un (by omega), pk_un (by omega), pk_un (by omega)])
    rw [show upd (upd (upd (pX8_s G1) 6 (mR M + 1)) 9 (mK M + nI st)) 7 (mT M + 1) 6 = mR M + 1 from by rw [pk_un (by omega), pk_un (by omega), pk_us],
      show upd (upd (upd (pX8_s G1) 6 (mR M + 1)) 9 (mK M + nI st)) 7 (mT M + 1) 7 = mT M + 1 from by rw [pk_us],
      show upd (upd (upd (pX8_s G1) 6 (mR M + 1)) 9 (mK M + nI st)) 7 (mT M + 1) 8 = mA M from by rw [pk_un (by omega), pk_un (by omega), pk_un (by omega), b8],
      show upd (upd (upd (pX8_s G1) 6 (mR M + 1)) 9 (mK M + nI st)) 7 (mT M + 1) 9 = mK M + nI st from by rw [pk_un (by omega), pk_us]] at this
    exact this
  | some g =>
    have hfg := hz.2.2.2.2 g rfl
    have := fgb_lt hfg
    have h1 := w.n1
    have hc := RepR_cnt (f' := upd (upd (pX8_s G1) 6 (mR M + 1)) 9 (mK M + nI st)) a1 (fun j hj => by rw [pk_un (by omega), pk_un (by omega)])
    rw [show upd (upd (pX8_s G1) 6 (mR M + 1)) 9 (mK M + nI st) 6 = mR M + 1 from by rw [pk_un (by omega), pk_us],
      show upd (upd (pX8_s G1) 6 (mR M + 1)) 9 (mK M + nI st) 7 = mT M from by rw [pk_un (by omega), pk_un (by omega), b7],
      show upd (upd (pX8_s G1) 6 (mR M + 1)) 9 (mK M + nI st) 8 = mA M from by rw [pk_un (by omega), pk_un (by omega), b8],
      show upd (upd (pX8_s G1) 6 (mR M + 1)) 9 (mK M + nI st) 9 = mK M + nI st from by rw [pk_us]] at hc
    have wc : WF (cntM (lotM M L) (mR M + 1) (mT M) (mA M) (mK M + nI st)) := (w.lot hz.2.2.1).cnt
    rw [if_neg (show ¬ (if (some g).isSome = true then (1 : Int32) else 0) = 0 by simp)]
    have hfb : ∀ R, fX8_grainBeside (nI pl) (upd (upd (pX8_s G1) 6 (mR M + 1)) 9 (mK M + nI st), R) = some (nI g) := fun R =>
      (r_fgb (G := (upd (upd (pX8_s G1) 6 (mR M + 1)) 9 (mK M + nI st), R)) wc hc hz.1).trans (by
        rw [show fgb (cntM (lotM M L) (mR M + 1) (mT M) (mA M) (mK M + nI st)) pl = some g from hfg, oI_some])
    rw [hfb]
    simp only [Option.bind_some]
    rw [show nI g = hR (g + 1) from (hR_s (Nat.succ_ne_zero g)).symm]
    have had : ∀ R, fX8_adds (nI pl) (hR (g + 1)) (nI st) (upd (upd (pX8_s G1) 6 (mR M + 1)) 9 (mK M + nI st), R) = some (upd (upd (upd (upd (upd (upd (pX8_s G1) 6 (mR M + 1)) 9 (mK M + nI st)) (10 + 3 * mN M) (nI pl)) (10 + 3 * mN M + 1) (nI (g + 1))) (10 + 3 * mN M + 2) (nI st)) 0 (nI (mN M + 1)), R) := fun R => by
      rw [r_adds_raw (G := (upd (upd (pX8_s G1) 6 (mR M + 1)) 9 (mK M + nI st), R)) (k := mN M) hc.1 hn, hR_inc (by omega)]
    rw [had]
    simp only [Option.bind_some]
    rw [show (1000 : Int32) + nI pl = nI (1000 + pl) from i_add 1000 pl]
    exact ⟨_, rfl, RepR_add hc hn, a2⟩
