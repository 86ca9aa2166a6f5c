theorem nn_all : (nestF.all (fun q => decide (Cond.fieldLinkNest q.1 q.2.1 q.2.2.1 q.2.2.2.1 q.2.2.2.2 "RimGrains" ∈ lw_tbl)) && nestM.all (fun q => decide (Cond.methodLinkNest q.1 q.2.1 q.2.2 "RimGrains" ∈ lw_tbl))) = true := by decide +kernel
theorem nn_known {s : State} {args : Array Value} (h : ∀ w ∈ lw_tbl, w.before args s = true) : NN s := by
  have ha := nn_all
  simp only [Bool.and_eq_true, List.all_eq_true, decide_eq_true_eq] at ha
  exact ⟨fun q hq => va_Nw.of rfl (h _ (ha.1 q hq)), fun q hq => va_Nw.of rfl (h _ (ha.2 q hq))⟩
set_option maxHeartbeats 40000000 in
set_option maxRecDepth 100000 in
theorem whole_start_open {I : GV → GX8 → Prop} (h_start : st_start I) (h_begin : st_begin I) (h_lot : st_lot I) (h_go : st_go I) (h_rain : st_rain I) (h_breakOff : st_breakOff I) (h_wash : st_wash I) (h_set : st_set I) (h_append : st_append I) (h_clear : st_clear I) (h_fault : st_fault I) (h_carryOut : st_carryOut I) (h_why : st_why I) (h_cell : st_cell I) (h_grain : st_grain I) (h_screens : st_screens I) (h_ring : st_ring I) (h_apart : st_apart I) (h_longest : st_longest I) (h_count : st_count I) (h_density : st_density I) (h_ifGone : st_ifGone I) (h_ifBroken : st_ifBroken I) (h_undo : st_undo I) (h_save : st_save I) (h_restore : st_restore I) {p : Program} {e : Env} {s : State} {m : MethodId} {below : List Frame} {meth : Method} {c : Code} (l : Launch) {b L : Nat} {xs : Nat → Int32} (hL : L ≤ 1536) (C0 : lw_At p s m meth c b L xs) : W p l e room_1 s m #[Value.ref b] below meth c s.heap [] 0 0 (lw_Z below #[Value.ref b] s) (entryFrame m ([Value.ref b] : List Value).toArray 8) := by
  obtain ⟨hx, hb, hr, hml, hown, hts00, hX, hbl, hlocks, hgv⟩ := id C0
  obtain ⟨o7, o8, e7, e8, hI⟩ := h_start
  have hts0 : ∀ w ∈ wsL_law, w.before #[Value.ref b] s = true := fun w h => hts00 w (wsL_law_in w h)
  have hA : ∀ q : Nat, s.heap.size ≤ q → (fun q : Nat => s.heap.size ≤ q) q := fun _ h => h
  have hN0 := nn_known hts00
  have hAO : va_AO RX4 s := va_AO.of (hts00 (.arrayOver (.object RX4)) (by decide +kernel))
  obtain ⟨cI, aI1, aI2⟩ := arr_known (ty := .int) (by decide) (hts00 (.arrayClass .int) (by decide +kernel))
  obtain ⟨cZ, aZ1, aZ2⟩ := arr_known (ty := .boolean) (by decide) (hts00 (.arrayClass .boolean) (by decide +kernel))
  obtain ⟨cC, aC1, aC2⟩ := arr_known (ty := .char) (by decide) (hts00 (.arrayClass .char) (by decide +kernel))
  obtain ⟨cO, aO1, aO2⟩ := arrq_known (C := RX4) (hts00 (.arrayOver (.object RX4)) (by decide +kernel))
  obtain ⟨d0, i0, k0⟩ := u_known (C := RX0) (T := TX0) (N := 2) (n := 2) hts00 inX0 (hts00 (.instantiable RX0 2) (by decide +kernel))
  obtain ⟨d1, i1, k1⟩ := u_known (C := RX1) (T := TX1) (N := 6) (n := 6) hts00 inX1 (hts00 (.instantiable RX1 6) (by decide +kernel))
  obtain ⟨d3, i3, k3⟩ := u_known (C := RX3) (T := TX3) (N := 3) (n := 3) hts00 inX3 (hts00 (.instantiable RX3 3) (by decide +kernel))
  obtain ⟨d4, i4, k4⟩ := u_known (C := RX4) (T := TX4) (N := 11) (n := 11) hts00 inX4 (hts00 (.instantiable RX4 11) (by decide +kernel))
  obtain ⟨d5, i5, k5⟩ := u_known (C := RX5) (T := TX5) (N := 7) (n := 7) hts00 inX5 (hts00 (.instantiable RX5 7) (by decide +kernel))
  obtain ⟨d6, i6, k6⟩ := u_known (C := RX6) (T := TX6) (N := 5) (n := 5) hts00 inX6 (hts00 (.instantiable RX6 5) (by decide +kernel))
  obtain ⟨d7, i7, k7⟩ := u_known (C := RX7) (T := TX7) (N := 14) (n := 14) hts00 inX7 (hts00 (.instantiable RX7 14) (by decide +kernel))
  obtain ⟨d8, i8, k8⟩ := u_known (C := RX8) (T := TX8) (N := 21) (n := 21) hts00 inX8 (hts00 (.instantiable RX8 21) (by decide +kernel))
  obtain ⟨dC, dI, hKc⟩ : ∃ (dC : Nat → ClassId) (dI : Nat → Nat → Nat), ∀ (k : Nat) (q : vw_C), vwCl[k]? = some q → u_Kn s q.1 q.2.1 q.2.2 (dC k) (dI k) := by
    refine ⟨fun k => [d0, d1, d3, d4, d5, d6, d7, d8].getD k d0, fun k => [i0, i1, i3, i4, i5, i6, i7, i8].getD k i0, ?_⟩
    intro k q hq
    match k, hq with
    | 0, hq => cases hq; exact k0
    | 1, hq => cases hq; exact k1
    | 2, hq => cases hq; exact k3
    | 3, hq => cases hq; exact k4
    | 4, hq => cases hq; exact k5
    | 5, hq => cases hq; exact k6
    | 6, hq => cases hq; exact k7
    | 7, hq => cases hq; exact k8
    | k + 8, hq => simp [vwCl] at hq
  have hK0 : va_K (dC, dI) vwCl (wTys cI cZ cC cO) s := ⟨hKc, fun k q h => by
    match k, h with
    | 0, h => cases h; exact ⟨aI1, aI2⟩
    | 1, h => cases h; exact ⟨aZ1, aZ2⟩
    | 2, h => cases h; exact ⟨aC1, aC2⟩
    | 3, h => cases h; exact ⟨aO1, aO2⟩
    | k + 4, h => simp at h⟩
  have hd0 := Drawn.sameBut.refl s.drawn lw_cs
  refine W.base ?_
  have hts : ∀ w ∈ wsL_law, w.before #[Value.ref b] (s.setDrawn s.drawn) = true := dr_words hts0 s.drawn
  have hK : va_K (dC, dI) vwCl (wTys cI cZ cC cO) (s.setDrawn s.drawn) := hK0
  have hN : NN (s.setDrawn s.drawn) := hN0
  have hAO2 : va_AO RX4 (s.setDrawn s.drawn) := hAO
  have hS : va_S (fun q : Nat => s.heap.size ≤ q) s.heap s.heap [] := va_S.rf
  have hP : va_P (dC, dI) vwCl ([] : va_W) s.heap := fun k q h => by simp at h
  have hD : va_D (fun q : Nat => s.heap.size ≤ q) ([] : va_W) := ⟨fun i j p q h => by simp at h, fun k q h => by simp at h⟩
  have hl := lv_entry ([.ref b]) (n := 8) (Nat.le_of_ble_eq_true rfl)
  rw [lg_entry_eq]
  generalize (lg_sl ([.ref b]) ++ List.replicate (8 - (lg_sl ([.ref b])).length) Slot.unset).toArray = ls at hl ⊢
  have hl : lv_has ls 8 [(0, .ref b)] := hl
  refine va_new (ws := ([] : va_W)) (ci := 6) (fs := [.null, .null, .null, .null, .null, .null, .null, .null, .null, .int 0, .int 0, .int 0, .int 0, .int 0]) (C := RX7) (T := TX7) (N := 14) hx hb hts inlX7 tyX7 tyX7_ok hown (hts (.classLink RL 7 RX7) (by decide +kernel)) (hts (.instantiable RX7 14) (by decide +kernel)) (hts (.initialized RX7) (by decide +kernel)) hK hP hD hS hA rfl (dfX7) (Nat.le_of_ble_eq_true rfl) (Nat.le_of_ble_eq_true rfl) dL_law_0 (fun q7 H hP hD hS => ?_)
  have hP : va_P (dC, dI) vwCl ([] ++ [(q7, .inr (6, [.null, .null, .null, .null, .null, .null, .null, .null, .null, .int 0, .int 0, .int 0, .int 0, .int 0]))] : va_W) H := hP
  have hD : va_D (fun q : Nat => s.heap.size ≤ q) ([] ++ [(q7, .inr (6, [.null, .null, .null, .null, .null, .null, .null, .null, .null, .int 0, .int 0, .int 0, .int 0, .int 0]))] : va_W) := hD
  refine lv_dup hx hb dL_law_3 rfl ?_
  refine iPv (Pp := pcA (dC, dI) (wTys cI cZ cC cO) H.size) (w := [(q7, .inr (6, [.null, .null, .null, .null, .null, .null, .null, .null, .null, .int 0, .int 0, .int 0, .int 0, .int 0]))]) (wr := []) (w1 := fun u => wAll cI cZ cC cO u (0, 0, 0, 0, 0) o7.2 S0X4 S0X4 (S0X4, S0X4, S0X4, S0X4) S0X6 S0X0 S0X5 S0X3 S0X1) ⟨hx, hb, hml, hown, hts⟩ (mX7_init l dC dI cI cZ cC cO q7 H.size o7 e7) (cwI 0 hts gL_law_X7_init rfl rfl rfl (hts (.initialized RX7) (by decide +kernel)) (hts (.methodLink RL 9 yX7_init) (by decide +kernel)) (hts (.instanceMethod yX7_init) (by decide +kernel)) rfl (by decide +kernel) ⟨Nat.le_of_ble_eq_true rfl, Nat.le_of_ble_eq_true rfl⟩) pcA_blind (fun U hU hW2 hPc hDc => ⟨va_AO.moved hW2.alike hAO2, by rw [hU], by rw [hU]; exact hPc, va_K.moved hW2.alike hK, hN.warm hW2, hDc.weaken (fun _ _ _ _ => trivial)⟩) hP hD hS hA [0] [] rfl rfl (by decide) (by decide) hl.1 rfl (Nat.le_of_ble_eq_true rfl) dL_law_4 ⟨Nat.le_of_ble_eq_true rfl, Nat.le_of_ble_eq_true rfl⟩ (fun Q eQ H locs hPn hDn hSn => ?_)
  obtain rfl := eQ
  have hS := hSn
  have hP : va_P (dC, dI) vwCl (wAll cI cZ cC cO Q (0, 0, 0, 0, 0) o7.2 S0X4 S0X4 (S0X4, S0X4, S0X4, S0X4) S0X6 S0X0 S0X5 S0X3 S0X1) H := hPn
  have hD : va_D (fun q : Nat => s.heap.size ≤ q) (wAll cI cZ cC cO Q (0, 0, 0, 0, 0) o7.2 S0X4 S0X4 (S0X4, S0X4, S0X4, S0X4) S0X6 S0X0 S0X5 S0X3 S0X1) := hDn
  refine lv_astore_n (lv' := [(1, .ref (Q 0 0)), (0, .ref b)]) hx hb dL_law_7 rfl hl (by decide) rfl (fun ls hl => ?_)
  refine va_new (ws := (wAll cI cZ cC cO Q (0, 0, 0, 0, 0) o7.2 S0X4 S0X4 (S0X4, S0X4, S0X4, S0X4) S0X6 S0X0 S0X5 S0X3 S0X1)) (ci := 7) (fs := [.null, .null, .null, .int 0, .null, .int 0, .null, .int 0, .int 0, .int 0, .int 0, .int 0, .int 0, .int 0, .null, .null, .int 0, .int 0, .int 0, .int 0, .null]) (C := RX8) (T := TX8) (N := 21) hx hb hts inlX8 tyX8 tyX8_ok hown (hts (.classLink RL 10 RX8) (by decide +kernel)) (hts (.instantiable RX8 21) (by decide +kernel)) (hts (.initialized RX8) (by decide +kernel)) hK hP hD hS hA rfl (dfX8) (Nat.le_of_ble_eq_true rfl) (Nat.le_of_ble_eq_true rfl) dL_law_8 (fun q8 H hP hD hS => ?_)
  have hP : va_P (dC, dI) vwCl (wAll cI cZ cC cO Q (0, 0, 0, 0, 0) o7.2 S0X4 S0X4 (S0X4, S0X4, S0X4, S0X4) S0X6 S0X0 S0X5 S0X3 S0X1 ++ [(q8, .inr (7, [.null, .null, .null, .int 0, .null, .int 0, .null, .int 0, .int 0, .int 0, .int 0, .int 0, .int 0, .int 0, .null, .null, .int 0, .int 0, .int 0, .int 0, .null]))] : va_W) H := hP
  have hD : va_D (fun q : Nat => s.heap.size ≤ q) (wAll cI cZ cC cO Q (0, 0, 0, 0, 0) o7.2 S0X4 S0X4 (S0X4, S0X4, S0X4, S0X4) S0X6 S0X0 S0X5 S0X3 S0X1 ++ [(q8, .inr (7, [.null, .null, .null, .int 0, .null, .int 0, .null, .int 0, .int 0, .int 0, .int 0, .int 0, .int 0, .int 0, .null, .null, .int 0, .int 0, .int 0, .int 0, .null]))] : va_W) := hD
  refine lv_dup hx hb dL_law_11 rfl ?_
  refine iPv (Pp := pcW (dC, dI) (wTys cI cZ cC cO) H.size) (w := [(q8, .inr (7, [.null, .null, .null, .int 0, .null, .int 0, .null, .int 0, .int 0, .int 0, .int 0, .int 0, .int 0, .int 0, .null, .null, .int 0, .int 0, .int 0, .int 0, .null]))]) (wr := wAll cI cZ cC cO Q (0, 0, 0, 0, 0) o7.2 S0X4 S0X4 (S0X4, S0X4, S0X4, S0X4) S0X6 S0X0 S0X5 S0X3 S0X1) (w1 := fun u => wX8 cI cZ cC u o8) ⟨hx, hb, hml, hown, hts⟩ (mX8_init l dC dI cI cZ cC cO q8 H.size o8 e8) (cwI 0 hts gL_law_X8_init rfl rfl rfl (hts (.initialized RX8) (by decide +kernel)) (hts (.methodLink RL 12 yX8_init) (by decide +kernel)) (hts (.instanceMethod yX8_init) (by decide +kernel)) rfl (by decide +kernel) ⟨Nat.le_of_ble_eq_true rfl, Nat.le_of_ble_eq_true rfl⟩) pcW_blind (fun U hU hW2 hPc hDc => ⟨by rw [hU], by rw [hU]; exact hPc, va_K.moved hW2.alike hK, hN.warm hW2, hDc.weaken (fun _ _ _ _ => trivial)⟩) hP hD hS hA [59] [0, 1, 2, 3, 4, 5, 6, 7, 8, 9, 10, 11, 12, 13, 14, 15, 16, 17, 18, 19, 20, 21, 22, 23, 24, 25, 26, 27, 28, 29, 30, 31, 32, 33, 34, 35, 36, 37, 38, 39, 40, 41, 42, 43, 44, 45, 46, 47, 48, 49, 50, 51, 52, 53, 54, 55, 56, 57, 58] rfl rfl (by decide) (by decide) hl.1 rfl (Nat.le_of_ble_eq_true rfl) dL_law_12 ⟨Nat.le_of_ble_eq_true rfl, Nat.le_of_ble_eq_true rfl⟩ (fun q8 eq8 H locs hPn hDn hSn => ?_)
  obtain rfl := eq8
  have hS := hSn
  have hfl : (wAll cI cZ cC cO Q (0, 0, 0, 0, 0) o7.2 S0X4 S0X4 (S0X4, S0X4, S0X4, S0X4) S0X6 S0X0 S0X5 S0X3 S0X1 ++ wX8 cI cZ cC q8 o8 : va_W) = (WB cI cZ cC cO Q q8 (Q 10, Q 11, Q 12, Q 13) ((0, 0, 0, 0, 0), o7.2, S0X4, S0X4, (S0X4, S0X4, S0X4, S0X4), S0X6, S0X0, S0X5, S0X3, S0X1) o8).flatten := fl11 _ _ _ _ _ _ _ _ _ _ _
  have hP : va_P (dC, dI) vwCl (WB cI cZ cC cO Q q8 (Q 10, Q 11, Q 12, Q 13) ((0, 0, 0, 0, 0), o7.2, S0X4, S0X4, (S0X4, S0X4, S0X4, S0X4), S0X6, S0X0, S0X5, S0X3, S0X1) o8).flatten H := by rw [← hfl]; exact hPn
  have hD : va_D (fun q : Nat => s.heap.size ≤ q) (WB cI cZ cC cO Q q8 (Q 10, Q 11, Q 12, Q 13) ((0, 0, 0, 0, 0), o7.2, S0X4, S0X4, (S0X4, S0X4, S0X4, S0X4), S0X6, S0X0, S0X5, S0X3, S0X1) o8).flatten := by rw [← hfl]; exact hDn
  refine lv_astore_n (lv' := [(2, .ref (q8 0)), (1, .ref (Q 0 0)), (0, .ref b)]) hx hb dL_law_15 rfl hl (by decide) rfl (fun ls hl => ?_)
  refine lv_iconst (v := 0) hx hb dL_law_16 (by decide) ?_
  refine lv_istore_n (lv' := [(3, .int (nI 0)), (2, .ref (q8 0)), (1, .ref (Q 0 0)), (0, .ref b)]) hx hb dL_law_17 rfl hl (by decide) rfl (fun ls hl => ?_)
  exact law_loop_open hL C0 hK0 hN0 Q q8 h_begin h_lot h_go h_rain h_breakOff h_wash h_set h_append h_clear h_fault h_carryOut h_why h_cell h_grain h_screens h_ring h_apart h_longest h_count h_density h_ifGone h_ifBroken h_undo h_save h_restore (L + 3) 0 (by omega) (by omega) ((0, 0, 0, 0, 0), o7.2, S0X4, S0X4, (S0X4, S0X4, S0X4, S0X4), S0X6, S0X0, S0X5, S0X3, S0X1) o8 hI (Q 10, Q 11, Q 12, Q 13) s.drawn hd0 H locs ls hP hD hS hl
