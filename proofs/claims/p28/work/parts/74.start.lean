theorem nn_all : (nestF.all (fun q => decide (Cond.fieldLinkNest q.1 q.2.1 q.2.2.1 q.2.2.2.1 q.2.2.2.2 "RimGrains" ∈ lw_tbl)) && nestM.all (fun q => decide (Cond.methodLinkNest q.1 q.2.1 q.2.2 "RimGrains" ∈ lw_tbl))) = true := by decide +kernel
theorem nn_known {s : State} {args : Array Value} (h : ∀ w ∈ lw_tbl, w.before args s = true) : NN s := by
  have ha := nn_all
  simp only [Bool.and_eq_true, List.all_eq_true, decide_eq_true_eq] at ha
  exact ⟨fun q hq => va_Nw.of rfl (h _ (ha.1 q hq)), fun q hq => va_Nw.of rfl (h _ (ha.2 q hq))⟩
theorem fl10 (a b c d e f g h i j : va_W) : a ++ b ++ c ++ d ++ e ++ f ++ g ++ h ++ i ++ j = [a, b, c, d, e, f, g, h, i, j].flatten := by simp
set_option maxHeartbeats 40000000 in
set_option maxRecDepth 100000 in
/-- the law's walk -/
theorem whole_start {p : Program} {e : Env} {s : State} {m : MethodId} {below : List Frame} {meth : Method} {c : Code} (l : Launch) (hflags : l.flags = flags0) {b L : Nat} {xs : Nat → Int32} (hL : L ≤ 260) (C0 : lw_At p s m meth c b L xs) : W p l e room_1 s m #[Value.ref b] below meth c s.heap [] 0 0 (lw_Z below #[Value.ref b] s) (entryFrame m ([Value.ref b] : List Value).toArray 13) := by
  obtain ⟨hx, hb, hr, hml, hown, hts00, hX, hbl, hlocks, hgv⟩ := id C0
  obtain ⟨o7, e7, hR0⟩ := k_start
  have hts0 : ∀ w ∈ wsL_law, w.before #[Value.ref b] s = true := fun w h => hts00 w (wsL_law_in w h)
  have hA : ∀ q : Nat, s.heap.size ≤ q → (fun q : Nat => s.heap.size ≤ q) q := fun _ h => h
  have hN0 := nn_known hts00
  have hAO : va_AO RX4 s := va_AO.of (hts00 (.arrayOver (.object RX4)) (by decide +kernel))
  obtain ⟨cI, aI1, aI2⟩ := arr_known (ty := .int) (by decide) (hts00 (.arrayClass .int) (by decide +kernel))
  obtain ⟨cZ, aZ1, aZ2⟩ := arr_known (ty := .boolean) (by decide) (hts00 (.arrayClass .boolean) (by decide +kernel))
  obtain ⟨cC, aC1, aC2⟩ := arr_known (ty := .char) (by decide) (hts00 (.arrayClass .char) (by decide +kernel))
  obtain ⟨cO, aO1, aO2⟩ := arrq_known (C := RX4) (hts00 (.arrayOver (.object RX4)) (by decide +kernel))
  obtain ⟨d0, i0, k0⟩ := u_known (C := RX0) (T := TX0) (N := 2) (n := 2) hts00 inX0 (hts00 (.instantiable RX0 2) (by decide +kernel))
  obtain ⟨d1, i1, k1⟩ := u_known (C := RX1) (T := TX1) (N := 6) (n := 6) hts00 inX1 (hts00 (.instantiable RX1 6) (by decide +kernel))
  obtain ⟨d3, i3, k3⟩ := u_known (C := RX3) (T := TX3) (N := 3) (n := 3) hts00 inX3 (hts00 (.instantiable RX3 3) (by decide +kernel))
  obtain ⟨d4, i4, k4⟩ := u_known (C := RX4) (T := TX4) (N := 11) (n := 11) hts00 inX4 (hts00 (.instantiable RX4 11) (by decide +kernel))
  obtain ⟨d5, i5, k5⟩ := u_known (C := RX5) (T := TX5) (N := 7) (n := 7) hts00 inX5 (hts00 (.instantiable RX5 7) (by decide +kernel))
  obtain ⟨d6, i6, k6⟩ := u_known (C := RX6) (T := TX6) (N := 5) (n := 5) hts00 inX6 (hts00 (.instantiable RX6 5) (by decide +kernel))
  obtain ⟨d7, i7, k7⟩ := u_known (C := RX7) (T := TX7) (N := 14) (n := 14) hts00 inX7 (hts00 (.instantiable RX7 14) (by decide +kernel))
  obtain ⟨dC, dI, hKc⟩ : ∃ (dC : Nat → ClassId) (dI : Nat → Nat → Nat), ∀ (k : Nat) (q : vw_C), vwCl[k]? = some q → u_Kn s q.1 q.2.1 q.2.2 (dC k) (dI k) := by
    refine ⟨fun k => [d0, d1, d3, d4, d5, d6, d7].getD k d0, fun k => [i0, i1, i3, i4, i5, i6, i7].getD k i0, ?_⟩
    intro k q hq
    match k, hq with
    | 0, hq => cases hq; exact k0
    | 1, hq => cases hq; exact k1
    | 2, hq => cases hq; exact k3
    | 3, hq => cases hq; exact k4
    | 4, hq => cases hq; exact k5
    | 5, hq => cases hq; exact k6
    | 6, hq => cases hq; exact k7
    | k + 7, hq => simp [vwCl] at hq
  have hK0 : va_K (dC, dI) vwCl (wTys cI cZ cC cO) s := ⟨hKc, fun k q h => by
    match k, h with
    | 0, h => cases h; exact ⟨aI1, aI2⟩
    | 1, h => cases h; exact ⟨aZ1, aZ2⟩
    | 2, h => cases h; exact ⟨aC1, aC2⟩
    | 3, h => cases h; exact ⟨aO1, aO2⟩
    | k + 4, h => simp at h⟩
  have hd0 := Drawn.sameBut.refl s.drawn lw_cs
  refine W.base ?_
  have hts : ∀ w ∈ wsL_law, w.before #[Value.ref b] (s.setDrawn s.drawn) = true := dr_words hts0 s.drawn
  have hK : va_K (dC, dI) vwCl (wTys cI cZ cC cO) (s.setDrawn s.drawn) := hK0
  have hN : NN (s.setDrawn s.drawn) := hN0
  have hAO2 : va_AO RX4 (s.setDrawn s.drawn) := hAO
  have hS : va_S (fun q : Nat => s.heap.size ≤ q) s.heap s.heap [] := va_S.rf
  have hP : va_P (dC, dI) vwCl ([] : va_W) s.heap := fun k q h => by simp at h
  have hD : va_D (fun q : Nat => s.heap.size ≤ q) ([] : va_W) := ⟨fun i j p q h => by simp at h, fun k q h => by simp at h⟩
  have hl := lv_entry ([.ref b]) (n := 13) (Nat.le_of_ble_eq_true rfl)
  rw [lg_entry_eq]
  generalize (lg_sl ([.ref b]) ++ List.replicate (13 - (lg_sl ([.ref b])).length) Slot.unset).toArray = ls at hl ⊢
  have hl : lv_has ls 13 [(0, .ref b)] := hl
  refine va_new (ws := ([] : va_W)) (ci := 6) (fs := [.null, .null, .null, .null, .null, .null, .null, .null, .null, .int 0, .int 0, .int 0, .int 0, .int 0]) (C := RX7) (T := TX7) (N := 14) hx hb hts inlX7 tyX7 tyX7_ok hown (hts (.classLink RL 14 RX7) (by decide +kernel)) (hts (.instantiable RX7 14) (by decide +kernel)) (hts (.initialized RX7) (by decide +kernel)) hK hP hD hS hA rfl (dfX7) (Nat.le_of_ble_eq_true rfl) (Nat.le_of_ble_eq_true rfl) dL_law_0 (fun q7 H hP hD hS => ?_)
  have hP : va_P (dC, dI) vwCl ([] ++ [(q7, .inr (6, [.null, .null, .null, .null, .null, .null, .null, .null, .null, .int 0, .int 0, .int 0, .int 0, .int 0]))] : va_W) H := hP
  have hD : va_D (fun q : Nat => s.heap.size ≤ q) ([] ++ [(q7, .inr (6, [.null, .null, .null, .null, .null, .null, .null, .null, .null, .int 0, .int 0, .int 0, .int 0, .int 0]))] : va_W) := hD
  refine lv_dup hx hb dL_law_3 rfl ?_
  refine iPv (Pp := pcA (dC, dI) (wTys cI cZ cC cO) H.size) (w := [(q7, .inr (6, [.null, .null, .null, .null, .null, .null, .null, .null, .null, .int 0, .int 0, .int 0, .int 0, .int 0]))]) (wr := []) (w1 := fun u => wAll cI cZ cC cO u (0, 0, 0, 0, 0) o7.2 S0X4 S0X4 (S0X4, S0X4, S0X4, S0X4) S0X6 S0X0 S0X5 S0X3 S0X1) ⟨hx, hb, hml, hown, hts⟩ (mX7_init l dC dI cI cZ cC cO q7 H.size o7 e7) (cwI 0 hts gL_law_X7_init rfl rfl rfl (hts (.initialized RX7) (by decide +kernel)) (hts (.methodLink RL 104 yX7_init) (by decide +kernel)) (hts (.instanceMethod yX7_init) (by decide +kernel)) rfl (by decide +kernel) ⟨Nat.le_of_ble_eq_true rfl, Nat.le_of_ble_eq_true rfl⟩) pcA_blind (fun U hU hW2 hPc hDc => ⟨va_AO.moved hW2.alike hAO2, by rw [hU], by rw [hU]; exact hPc, va_K.moved hW2.alike hK, hN.warm hW2, hDc.weaken (fun _ _ _ _ => trivial)⟩) hP hD hS hA [0] [] rfl rfl (by decide) (by decide) hl.1 rfl (Nat.le_of_ble_eq_true rfl) dL_law_4 ⟨Nat.le_of_ble_eq_true rfl, Nat.le_of_ble_eq_true rfl⟩ (fun Q eQ H locs hPn hDn hSn => ?_)
  obtain rfl := eQ
  have hS := hSn
  have hP : va_P (dC, dI) vwCl (wAll cI cZ cC cO Q (0, 0, 0, 0, 0) o7.2 S0X4 S0X4 (S0X4, S0X4, S0X4, S0X4) S0X6 S0X0 S0X5 S0X3 S0X1) H := hPn
  have hD : va_D (fun q : Nat => s.heap.size ≤ q) (wAll cI cZ cC cO Q (0, 0, 0, 0, 0) o7.2 S0X4 S0X4 (S0X4, S0X4, S0X4, S0X4) S0X6 S0X0 S0X5 S0X3 S0X1) := hDn
  refine lv_astore_n (lv' := [(1, .ref (Q 0 0)), (0, .ref b)]) hx hb dL_law_7 rfl hl (by decide) rfl (fun ls hl => ?_)
  have hfl : (wAll cI cZ cC cO Q (0, 0, 0, 0, 0) o7.2 S0X4 S0X4 (S0X4, S0X4, S0X4, S0X4) S0X6 S0X0 S0X5 S0X3 S0X1 : va_W) = (WB cI cZ cC cO Q (Q 10, Q 11, Q 12, Q 13) ((0, 0, 0, 0, 0), o7.2, S0X4, S0X4, (S0X4, S0X4, S0X4, S0X4), S0X6, S0X0, S0X5, S0X3, S0X1)).flatten := fl10 _ _ _ _ _ _ _ _ _ _
  rw [hfl] at hP hD
  have hn1 : mN A0.1 = 1 := (plM_r (b := 0) (M := M00) 121).2.2.2.trans root_cnt.1
  exact law_walk hL C0 hK0 hN0 Q A0 (fun r => r = 1) (fun _ h => h) (law_run L xs ⟨_, hR0⟩ rfl rfl hn1 rfl) ((0, 0, 0, 0, 0), o7.2, S0X4, S0X4, (S0X4, S0X4, S0X4, S0X4), S0X6, S0X0, S0X5, S0X3, S0X1) (Q 10, Q 11, Q 12, Q 13) H locs ls s.drawn hd0 hR0 hP hD hS hl
