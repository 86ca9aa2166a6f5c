set_option maxHeartbeats 20000000 in
set_option maxRecDepth 100000 in
theorem law_walk {p : Program} {l : Launch} {e : Env} {s : State} {m : MethodId} {below : List Frame} {meth : Method} {c : Code} {b L : Nat} {xs : Nat → Int32} (hL : L ≤ 260) (C0 : lw_At p s m meth c b L xs) {dC : Nat → ClassId} {dI : Nat → Nat → Nat} {cI cZ cC cO : ClassId} (hK0 : va_K (dC, dI) vwCl (wTys cI cZ cC cO) s) (hN0 : NN s) (Q : Nat → Nat → Nat) (a : AS) (K : Int32 → Prop) (hK1 : ∀ r, K r → r = 1) (hf : gL_law L xs a K) (V : GV) (u : QH) (H : Heap) (locs : List Loc) (ls : Array Slot) (d0 : Drawn) (hd0 : s.drawn.sameBut d0 lw_cs) (hR : RepA V a) (hP : va_P (dC, dI) vwCl (WB cI cZ cC cO Q u V).flatten H) (hD : va_D (fun q : Nat => s.heap.size ≤ q) (WB cI cZ cC cO Q u V).flatten) (hS : va_S (fun q : Nat => s.heap.size ≤ q) s.heap H locs) (hl : lv_has ls 13 [(1, .ref (Q 0 0)), (0, .ref b)]) : W p l e room_1 (s.setDrawn d0) m #[Value.ref b] below meth c H locs 59 4683 (lw_Z below #[Value.ref b] s) (F0 m 8 ls []) := by
  obtain ⟨hx, hb, hr, hml, hown, hts00, hX0, hbl, hlocks, hgv⟩ := id C0
  have hts0 : ∀ w ∈ wsL_law, w.before #[Value.ref b] s = true := fun w h => hts00 w (wsL_law_in w h)
  obtain ⟨A, hAe⟩ : ∃ A : Nat → Prop, A = fun q : Nat => s.heap.size ≤ q := ⟨_, rfl⟩
  have hA : ∀ q : Nat, s.heap.size ≤ q → A q := fun q h => by rw [hAe]; exact h
  have hbA : ¬ A b := by rw [hAe]; exact Nat.not_le.mpr hbl
  rw [← hAe] at hD hS
  have hts := dr_words hts0 d0
  have hK : va_K (dC, dI) vwCl (wTys cI cZ cC cO) (s.setDrawn d0) := hK0
  have hN : NN (s.setDrawn d0) := hN0
  have hX : va_X b L xs (s.setDrawn d0) s.heap := hX0
  unfold gL_law at hf
  refine lv_aload_n hx hb dL_law_8 rfl (lv_at hl 0 rfl) ?_
  refine rsID hd0 (rest := []) (As := [.ref (Q 0 0)]) ⟨hx, hb, hml, hown, hts⟩ (mL_holds l dC dI cI cZ cC cO Q u V a _ _ hR hf) (va_cwS 1 hts gL_law_L_holds rfl rfl rfl (by decide +kernel) ⟨Nat.le_of_ble_eq_true rfl, Nat.le_of_ble_eq_true rfl⟩) hK hN hP hD hS hA rfl hl.1 rfl (Nat.le_of_ble_eq_true rfl) dL_law_9 ⟨Nat.le_of_ble_eq_true rfl, Nat.le_of_ble_eq_true rfl⟩ (fun r9 w9 hk9 H locs d0 hd0 hP hD hS => ?_)
  obtain ⟨u, V⟩ := w9
  obtain ⟨hf, hR⟩ := hk9
  have hR : RepA V a := hR
  have hP : va_P (dC, dI) vwCl (WB cI cZ cC cO Q u V).flatten H := hP
  have hD : va_D A (WB cI cZ cC cO Q u V).flatten := hD
  have hts := dr_words hts0 d0
  have hK : va_K (dC, dI) vwCl (wTys cI cZ cC cO) (s.setDrawn d0) := hK0
  have hN : NN (s.setDrawn d0) := hN0
  have hX : va_X b L xs (s.setDrawn d0) s.heap := hX0
  have hJ1 : ∀ (y0_1 : Int32) (a_1 : AS), jL_law_1 L xs K y0_1 a_1 → ∀ (V : GV) (u : QH) (H : Heap) (locs : List Loc) (ls : Array Slot) (d0 : Drawn), s.drawn.sameBut d0 lw_cs → RepA V a_1 → va_P (dC, dI) vwCl (WB cI cZ cC cO Q u V).flatten H → va_D A (WB cI cZ cC cO Q u V).flatten → va_S A s.heap H locs → lv_has ls 13 [(0, .ref b), (1, .ref (Q 0 0))] → W p l e room_1 (s.setDrawn d0) m #[Value.ref b] below meth c H locs 59 4683 (lw_Z below #[Value.ref b] s) (F0 m 54 ls [.int y0_1]) := by
    intro y0_1 a_1 hf V u H locs ls d0 hd0 hR hP hD hS hl
    have hts := dr_words hts0 d0
    have hK : va_K (dC, dI) vwCl (wTys cI cZ cC cO) (s.setDrawn d0) := hK0
    have hN : NN (s.setDrawn d0) := hN0
    have hX : va_X b L xs (s.setDrawn d0) s.heap := hX0
    unfold jL_law_1 at hf
    refine lv_istore_n (lv' := [(2, .int y0_1), (0, .ref b), (1, .ref (Q 0 0))]) hx hb dL_law_54 rfl hl (by decide) rfl (fun ls hl => ?_)
    refine lv_aload_n hx hb dL_law_55 rfl (lv_at hl 2 rfl) ?_
    refine rsL (rest := []) (As := [.ref (Q 0 0)]) ⟨hx, hb, hml, hown, hts⟩ (mL_look l dC dI cI cZ cC cO Q u V a_1 _ _ hR hf) (va_cwS 1 hts gL_law_L_look rfl rfl rfl (by decide +kernel) ⟨Nat.le_of_ble_eq_true rfl, Nat.le_of_ble_eq_true rfl⟩) hK hN hP hD hS hA rfl hl.1 rfl (Nat.le_of_ble_eq_true rfl) dL_law_56 ⟨Nat.le_of_ble_eq_true rfl, Nat.le_of_ble_eq_true rfl⟩ (fun r56 w9 hk9 H locs hP hD hS => ?_)
    obtain ⟨u, V⟩ := w9
    obtain ⟨hf, hR⟩ := hk9
    have hR : RepA V a_1 := hR
    have hP : va_P (dC, dI) vwCl (WB cI cZ cC cO Q u V).flatten H := hP
    have hD : va_D A (WB cI cZ cC cO Q u V).flatten := hD
    refine lv_lstore_n (lv' := [(3, .long r56), (2, .int y0_1), (0, .ref b), (1, .ref (Q 0 0))]) hx hb dL_law_59 rfl hl (by decide) rfl (fun ls hl => ?_)
    refine lv_iconst (v := 0) hx hb dL_law_60 (by decide) ?_
    refine lv_istore (lv' := [(5, .int 0), (3, .long r56), (2, .int y0_1), (0, .ref b), (1, .ref (Q 0 0))]) hx hb dL_law_61 hl (by decide) rfl (fun ls hl => ?_)
    have hL63 : ∀ (KX63 : (Int32 × AS) → Prop) (n : Nat) (s63 : Int32 × Int64 × Int32 × AS), lpP (tL_law_63 L xs) n s63 KX63 → ∀ (V : GV) (u : QH) (H : Heap) (locs : List Loc) (ls : Array Slot) (d0 : Drawn), s.drawn.sameBut d0 lw_cs → RepA V s63.2.2.2 → va_P (dC, dI) vwCl (WB cI cZ cC cO Q u V).flatten H → va_D A (WB cI cZ cC cO Q u V).flatten → va_S A s.heap H locs → lv_has ls 13 [(0, .ref b), (1, .ref (Q 0 0)), (2, .int s63.1), (3, .long s63.2.1), (5, .int s63.2.2.1)] → (∀ (o63 : Int32 × AS), KX63 o63 → ∀ (V : GV) (u : QH) (H : Heap) (locs : List Loc) (ls : Array Slot) (d0 : Drawn), s.drawn.sameBut d0 lw_cs → RepA V o63.2 → va_P (dC, dI) vwCl (WB cI cZ cC cO Q u V).flatten H → va_D A (WB cI cZ cC cO Q u V).flatten → va_S A s.heap H locs → lv_has ls 13 [(1, .ref (Q 0 0)), (2, .int o63.1)] → W p l e room_1 (s.setDrawn d0) m #[Value.ref b] below meth c H locs 59 4683 (lw_Z below #[Value.ref b] s) (F0 m 382 ls [])) → W p l e room_1 (s.setDrawn d0) m #[Value.ref b] below meth c H locs 59 4683 (lw_Z below #[Value.ref b] s) (F0 m 63 ls []) := by
      intro KX63 n
      induction n with
      | zero => intro s63 hf; exact False.elim hf
      | succ n ih63 =>
        intro s63 hf V u H locs ls d0 hd0 hR hP hD hS hl kx
        have hts := dr_words hts0 d0
        have hK : va_K (dC, dI) vwCl (wTys cI cZ cC cO) (s.setDrawn d0) := hK0
        have hN : NN (s.setDrawn d0) := hN0
        have hX : va_X b L xs (s.setDrawn d0) s.heap := hX0
        obtain ⟨KB63, hKB63⟩ : ∃ F : (Int32 × Int64 × Int32 × AS) → Prop, F = fun s9 => lpP (tL_law_63 L xs) n s9 KX63 := ⟨_, rfl⟩
        have hf : tL_law_63 L xs s63 KB63 KX63 := by rw [hKB63]; exact hf
        unfold tL_law_63 at hf
        refine lv_iload hx hb dL_law_63 (lv_at hl 4 rfl) ?_
        refine lv_bipush (v := 46) hx hb dL_law_65 (by decide) ?_
        refine lv_icmp_ge (tgt := 382) hx hb dL_law_67 (by decide) (fun hc => ?_) (fun hc => ?_)
        · have hf := pt hc hf
          exact kx _ hf _ _ _ _ ls _ hd0 hR hP hD hS (lv_sub hl [1, 2] rfl)
        · have hf := pe hc hf
          refine lv_iload_n hx hb dL_law_70 rfl (lv_at hl 2 rfl) ?_
          refine lv_if_eq (tgt := 382) hx hb dL_law_71 (by decide) (fun hc => ?_) (fun hc => ?_)
          · have hf := pt hc hf
            exact kx _ hf _ _ _ _ ls _ hd0 hR hP hD hS (lv_sub hl [1, 2] rfl)
          · have hf := pe hc hf
            refine lv_aload_n hx hb dL_law_74 rfl (lv_at hl 0 rfl) ?_
            refine lv_iconst (v := 2) hx hb dL_law_75 (by decide) ?_
            refine lv_iload hx hb dL_law_76 (lv_at hl 4 rfl) ?_
            refine lv_imul hx hb dL_law_78 ?_
            obtain ⟨hne, hf⟩ := hf
            refine rLot (rest := []) ⟨hx, hb, hml, hown, hts⟩ (va_cwS 2 hts gL_law_L_lot rfl rfl rfl (by decide +kernel) ⟨Nat.le_of_ble_eq_true rfl, Nat.le_of_ble_eq_true rfl⟩) hne hL hX hbl hbA hS hl.1 rfl (Nat.le_of_ble_eq_true rfl) dL_law_79 ⟨Nat.le_of_ble_eq_true rfl, Nat.le_of_ble_eq_true rfl⟩ ?_
            refine lv_istore (lv' := [(6, .int (sctA L xs ((2 * s63.2.2.1)))), (0, .ref b), (1, .ref (Q 0 0)), (2, .int s63.1), (3, .long s63.2.1), (5, .int s63.2.2.1)]) hx hb dL_law_82 hl (by decide) rfl (fun ls hl => ?_)
            refine lv_aload_n hx hb dL_law_84 rfl (lv_at hl 1 rfl) ?_
            refine lv_iconst (v := 2) hx hb dL_law_85 (by decide) ?_
            refine lv_iload hx hb dL_law_86 (lv_at hl 5 rfl) ?_
            refine lv_imul hx hb dL_law_88 ?_
            refine lv_iconst (v := 1) hx hb dL_law_89 (by decide) ?_
            refine lv_iadd hx hb dL_law_90 ?_
            obtain ⟨hne, hf⟩ := hf
            refine rLot (rest := []) ⟨hx, hb, hml, hown, hts⟩ (va_cwS 2 hts gL_law_L_lot rfl rfl rfl (by decide +kernel) ⟨Nat.le_of_ble_eq_true rfl, Nat.le_of_ble_eq_true rfl⟩) hne hL hX hbl hbA hS hl.1 rfl (Nat.le_of_ble_eq_true rfl) dL_law_91 ⟨Nat.le_of_ble_eq_true rfl, Nat.le_of_ble_eq_true rfl⟩ ?_
            refine lv_istore (lv' := [(7, .int (sctA L xs (((2 * s63.2.2.1) + 1)))), (6, .int (sctA L xs ((2 * s63.2.2.1)))), (0, .ref b), (1, .ref (Q 0 0)), (2, .int s63.1), (3, .long s63.2.1), (5, .int s63.2.2.1)]) hx hb dL_law_94 hl (by decide) rfl (fun ls hl => ?_)
            refine lv_aload_n hx hb dL_law_96 rfl (lv_at hl 3 rfl) ?_
            refine rsL (rest := []) (As := [.ref (Q 0 0)]) ⟨hx, hb, hml, hown, hts⟩ (mL_look l dC dI cI cZ cC cO Q u V s63.2.2.2 _ _ hR hf) (va_cwS 1 hts gL_law_L_look rfl rfl rfl (by decide +kernel) ⟨Nat.le_of_ble_eq_true rfl, Nat.le_of_ble_eq_true rfl⟩) hK hN hP hD hS hA rfl hl.1 rfl (Nat.le_of_ble_eq_true rfl) dL_law_97 ⟨Nat.le_of_ble_eq_true rfl, Nat.le_of_ble_eq_true rfl⟩ (fun r97 w9 hk9 H locs hP hD hS => ?_)
            obtain ⟨u, V⟩ := w9
            obtain ⟨hf, hR⟩ := hk9
            have hR : RepA V s63.2.2.2 := hR
            have hP : va_P (dC, dI) vwCl (WB cI cZ cC cO Q u V).flatten H := hP
            have hD : va_D A (WB cI cZ cC cO Q u V).flatten := hD
            refine lv_lstore (lv' := [(8, .long r97), (7, .int (sctA L xs (((2 * s63.2.2.1) + 1)))), (6, .int (sctA L xs ((2 * s63.2.2.1)))), (0, .ref b), (1, .ref (Q 0 0)), (2, .int s63.1), (3, .long s63.2.1), (5, .int s63.2.2.1)]) hx hb dL_law_100 hl (by decide) rfl (fun ls hl => ?_)
            refine lv_aload_n hx hb dL_law_102 rfl (lv_at hl 4 rfl) ?_
            refine lv_bipush (v := 19) hx hb dL_law_103 (by decide) ?_
            refine rb_count (x0 := 19) (rest := []) ⟨hx, hb, hml, hown, hts⟩ (cwV 1 hts gL_law_X7_count rfl rfl rfl (by decide +kernel) ⟨Nat.le_of_ble_eq_true rfl, Nat.le_of_ble_eq_true rfl⟩) hK hN hP hD hS hA hR hl.1 rfl (Nat.le_of_ble_eq_true rfl) dL_law_105 ⟨Nat.le_of_ble_eq_true rfl, Nat.le_of_ble_eq_true rfl⟩ (fun V u H locs hR hP hD hS => ?_)
            refine lv_istore (lv' := [(10, .int (cotA s63.2.2.2 19)), (8, .long r97), (7, .int (sctA L xs (((2 * s63.2.2.1) + 1)))), (6, .int (sctA L xs ((2 * s63.2.2.1)))), (0, .ref b), (1, .ref (Q 0 0)), (2, .int s63.1), (3, .long s63.2.1), (5, .int s63.2.2.1)]) hx hb dL_law_108 hl (by decide) rfl (fun ls hl => ?_)
            refine lv_aload_n hx hb dL_law_110 rfl (lv_at hl 5 rfl) ?_
            refine lv_iload hx hb dL_law_111 (lv_at hl 3 rfl) ?_
            refine lv_iload hx hb dL_law_113 (lv_at hl 2 rfl) ?_
            refine rsI (rest := []) (As := [.ref (Q 0 0), .int (sctA L xs ((2 * s63.2.2.1))), .int (sctA L xs (((2 * s63.2.2.1) + 1)))]) ⟨hx, hb, hml, hown, hts⟩ (mL_acts l dC dI cI cZ cC cO Q u V ((sctA L xs ((2 * s63.2.2.1)))) ((sctA L xs (((2 * s63.2.2.1) + 1)))) s63.2.2.2 _ _ hR hf) (va_cwS 3 hts gL_law_L_acts rfl rfl rfl (by decide +kernel) ⟨Nat.le_of_ble_eq_true rfl, Nat.le_of_ble_eq_true rfl⟩) hK hN hP hD hS hA rfl hl.1 rfl (Nat.le_of_ble_eq_true rfl) dL_law_115 ⟨Nat.le_of_ble_eq_true rfl, Nat.le_of_ble_eq_true rfl⟩ (fun r115 w9 hk9 H locs hP hD hS => ?_)
            obtain ⟨u, V, a115⟩ := w9
            obtain ⟨hf, hR⟩ := hk9
            have hR : RepA V a115 := hR
            have hP : va_P (dC, dI) vwCl (WB cI cZ cC cO Q u V).flatten H := hP
            have hD : va_D A (WB cI cZ cC cO Q u V).flatten := hD
            have hJ2 : ∀ (y0_2 : Int32), jL_law_2 L xs s63 KB63 r97 a115 y0_2 → ∀ (V : GV) (u : QH) (H : Heap) (locs : List Loc) (ls : Array Slot) (d0 : Drawn), s.drawn.sameBut d0 lw_cs → RepA V a115 → va_P (dC, dI) vwCl (WB cI cZ cC cO Q u V).flatten H → va_D A (WB cI cZ cC cO Q u V).flatten → va_S A s.heap H locs → lv_has ls 13 [(0, .ref b), (1, .ref (Q 0 0)), (3, .long s63.2.1), (5, .int s63.2.2.1), (7, .int (sctA L xs (((2 * s63.2.2.1) + 1)))), (8, .long r97), (10, .int (cotA s63.2.2.2 19))] → W p l e room_1 (s.setDrawn d0) m #[Value.ref b] below meth c H locs 59 4683 (lw_Z below #[Value.ref b] s) (F0 m 157 ls [.int y0_2]) := by
              intro y0_2 hf V u H locs ls d0 hd0 hR hP hD hS hl
              have hts := dr_words hts0 d0
              have hK : va_K (dC, dI) vwCl (wTys cI cZ cC cO) (s.setDrawn d0) := hK0
              have hN : NN (s.setDrawn d0) := hN0
              have hX : va_X b L xs (s.setDrawn d0) s.heap := hX0
              unfold jL_law_2 at hf
              refine lv_istore_n (lv' := [(2, .int y0_2), (0, .ref b), (1, .ref (Q 0 0)), (3, .long s63.2.1), (5, .int s63.2.2.1), (7, .int (sctA L xs (((2 * s63.2.2.1) + 1)))), (8, .long r97), (10, .int (cotA s63.2.2.2 19))]) hx hb dL_law_157 rfl hl (by decide) rfl (fun ls hl => ?_)
              refine lv_aload_n hx hb dL_law_158 rfl (lv_at hl 2 rfl) ?_
              refine lv_bipush (v := 19) hx hb dL_law_159 (by decide) ?_
              refine rb_count (x0 := 19) (rest := []) ⟨hx, hb, hml, hown, hts⟩ (cwV 1 hts gL_law_X7_count rfl rfl rfl (by decide +kernel) ⟨Nat.le_of_ble_eq_true rfl, Nat.le_of_ble_eq_true rfl⟩) hK hN hP hD hS hA hR hl.1 rfl (Nat.le_of_ble_eq_true rfl) dL_law_161 ⟨Nat.le_of_ble_eq_true rfl, Nat.le_of_ble_eq_true rfl⟩ (fun V u H locs hR hP hD hS => ?_)
              refine lv_istore (lv' := [(11, .int (cotA a115 19)), (2, .int y0_2), (0, .ref b), (1, .ref (Q 0 0)), (3, .long s63.2.1), (5, .int s63.2.2.1), (7, .int (sctA L xs (((2 * s63.2.2.1) + 1)))), (8, .long r97), (10, .int (cotA s63.2.2.2 19))]) hx hb dL_law_164 hl (by decide) rfl (fun ls hl => ?_)
              refine lv_iload_n hx hb dL_law_166 rfl (lv_at hl 1 rfl) ?_
              have hJ3 : ∀ (y0_3 : Int32), jL_law_3 L xs s63 KB63 r97 a115 y0_3 → ∀ (V : GV) (u : QH) (H : Heap) (locs : List Loc) (ls : Array Slot) (d0 : Drawn), s.drawn.sameBut d0 lw_cs → RepA V a115 → va_P (dC, dI) vwCl (WB cI cZ cC cO Q u V).flatten H → va_D A (WB cI cZ cC cO Q u V).flatten → va_S A s.heap H locs → lv_has ls 13 [(0, .ref b), (1, .ref (Q 0 0)), (3, .long s63.2.1), (5, .int s63.2.2.1), (7, .int (sctA L xs (((2 * s63.2.2.1) + 1)))), (8, .long r97), (10, .int (cotA s63.2.2.2 19)), (11, .int (cotA a115 19))] → W p l e room_1 (s.setDrawn d0) m #[Value.ref b] below meth c H locs 59 4683 (lw_Z below #[Value.ref b] s) (F0 m 207 ls [.int y0_3]) := by
                intro y0_3 hf V u H locs ls d0 hd0 hR hP hD hS hl
                have hts := dr_words hts0 d0
                have hK : va_K (dC, dI) vwCl (wTys cI cZ cC cO) (s.setDrawn d0) := hK0
                have hN : NN (s.setDrawn d0) := hN0
                have hX : va_X b L xs (s.setDrawn d0) s.heap := hX0
                unfold jL_law_3 at hf
                refine lv_istore_n (lv' := [(2, .int y0_3), (0, .ref b), (1, .ref (Q 0 0)), (3, .long s63.2.1), (5, .int s63.2.2.1), (7, .int (sctA L xs (((2 * s63.2.2.1) + 1)))), (8, .long r97), (10, .int (cotA s63.2.2.2 19)), (11, .int (cotA a115 19))]) hx hb dL_law_207 rfl hl (by decide) rfl (fun ls hl => ?_)
                refine lv_iload_n hx hb dL_law_208 rfl (lv_at hl 0 rfl) ?_
                have hJ4 : ∀ (x2_4 : Int32) (a_4 : AS), jL_law_4 s63 KB63 x2_4 a_4 → ∀ (V : GV) (u : QH) (H : Heap) (locs : List Loc) (ls : Array Slot) (d0 : Drawn), s.drawn.sameBut d0 lw_cs → RepA V a_4 → va_P (dC, dI) vwCl (WB cI cZ cC cO Q u V).flatten H → va_D A (WB cI cZ cC cO Q u V).flatten → va_S A s.heap H locs → lv_has ls 13 [(0, .ref b), (1, .ref (Q 0 0)), (2, .int x2_4), (3, .long s63.2.1), (5, .int s63.2.2.1)] → W p l e room_1 (s.setDrawn d0) m #[Value.ref b] below meth c H locs 59 4683 (lw_Z below #[Value.ref b] s) (F0 m 258 ls []) := by
                  intro x2_4 a_4 hf V u H locs ls d0 hd0 hR hP hD hS hl
                  have hts := dr_words hts0 d0
                  have hK : va_K (dC, dI) vwCl (wTys cI cZ cC cO) (s.setDrawn d0) := hK0
                  have hN : NN (s.setDrawn d0) := hN0
                  have hX : va_X b L xs (s.setDrawn d0) s.heap := hX0
                  unfold jL_law_4 at hf
                  refine lv_iload_n hx hb dL_law_258 rfl (lv_at hl 2 rfl) ?_
                  have hJ5 : ∀ (x2_5 : Int32) (x3_5 : Int64) (a_5 : AS), jL_law_5 s63 KB63 x2_5 x3_5 a_5 → ∀ (V : GV) (u : QH) (H : Heap) (locs : List Loc) (ls : Array Slot) (d0 : Drawn), s.drawn.sameBut d0 lw_cs → RepA V a_5 → va_P (dC, dI) vwCl (WB cI cZ cC cO Q u V).flatten H → va_D A (WB cI cZ cC cO Q u V).flatten → va_S A s.heap H locs → lv_has ls 13 [(0, .ref b), (1, .ref (Q 0 0)), (2, .int x2_5), (3, .long x3_5), (5, .int s63.2.2.1)] → W p l e room_1 (s.setDrawn d0) m #[Value.ref b] below meth c H locs 59 4683 (lw_Z below #[Value.ref b] s) (F0 m 327 ls []) := by
                    intro x2_5 x3_5 a_5 hf V u H locs ls d0 hd0 hR hP hD hS hl
                    have hts := dr_words hts0 d0
                    have hK : va_K (dC, dI) vwCl (wTys cI cZ cC cO) (s.setDrawn d0) := hK0
                    have hN : NN (s.setDrawn d0) := hN0
                    have hX : va_X b L xs (s.setDrawn d0) s.heap := hX0
                    unfold jL_law_5 at hf
                    refine lv_iload_n hx hb dL_law_327 rfl (lv_at hl 2 rfl) ?_
                    have hJ6 : ∀ (x2_6 : Int32) (a_6 : AS), jL_law_6 s63 KB63 x3_5 x2_6 a_6 → ∀ (V : GV) (u : QH) (H : Heap) (locs : List Loc) (ls : Array Slot) (d0 : Drawn), s.drawn.sameBut d0 lw_cs → RepA V a_6 → va_P (dC, dI) vwCl (WB cI cZ cC cO Q u V).flatten H → va_D A (WB cI cZ cC cO Q u V).flatten → va_S A s.heap H locs → lv_has ls 13 [(0, .ref b), (1, .ref (Q 0 0)), (2, .int x2_6), (3, .long x3_5), (5, .int s63.2.2.1)] → W p l e room_1 (s.setDrawn d0) m #[Value.ref b] below meth c H locs 59 4683 (lw_Z below #[Value.ref b] s) (F0 m 376 ls []) := by
                      intro x2_6 a_6 hf V u H locs ls d0 hd0 hR hP hD hS hl
                      have hts := dr_words hts0 d0
                      have hK : va_K (dC, dI) vwCl (wTys cI cZ cC cO) (s.setDrawn d0) := hK0
                      have hN : NN (s.setDrawn d0) := hN0
                      have hX : va_X b L xs (s.setDrawn d0) s.heap := hX0
                      unfold jL_law_6 at hf
                      refine lv_iinc (v := (s63.2.2.1 + 1)) (lv' := [(5, .int (s63.2.2.1 + 1)), (0, .ref b), (1, .ref (Q 0 0)), (2, .int x2_6), (3, .long x3_5)]) hx hb dL_law_376 hl (k := 4) rfl rfl (by decide) rfl (fun ls hl => ?_)
                      refine lv_goto (tgt := 63) hx hb dL_law_379 (by decide) ?_
                      rw [hKB63] at hf
                      exact ih63 _ hf _ _ _ _ ls _ hd0 hR hP hD hS (lv_sub hl [1, 2, 3, 4, 0] rfl) kx
                    refine lv_if_eq (tgt := 376) hx hb dL_law_328 (by decide) (fun hc => ?_) (fun hc => ?_)
                    · have hf := pt hc hf
                      exact hJ6 _ _ hf _ _ _ _ ls _ hd0 hR hP hD hS (lv_sub hl [0, 1, 2, 3, 4] rfl)
                    · have hf := pe hc hf
                      refine lv_iload hx hb dL_law_331 (lv_at hl 4 rfl) ?_
                      refine lv_bipush (v := 11) hx hb dL_law_333 (by decide) ?_
                      refine jirem hx hb dL_law_335 (by decide) ?_
                      refine lv_bipush (v := 10) hx hb dL_law_336 (by decide) ?_
                      refine lv_icmp_ne (tgt := 376) hx hb dL_law_338 (by decide) (fun hc => ?_) (fun hc => ?_)
                      · have hf := pe hc hf
                        exact hJ6 _ _ hf _ _ _ _ ls _ hd0 hR hP hD hS (lv_sub hl [0, 1, 2, 3, 4] rfl)
                      · have hf := pt hc hf
                        refine lv_aload_n hx hb dL_law_341 rfl (lv_at hl 1 rfl) ?_
                        refine lv_bipush (v := 19) hx hb dL_law_342 (by decide) ?_
                        refine rb_count (x0 := 19) (rest := []) ⟨hx, hb, hml, hown, hts⟩ (cwV 1 hts gL_law_X7_count rfl rfl rfl (by decide +kernel) ⟨Nat.le_of_ble_eq_true rfl, Nat.le_of_ble_eq_true rfl⟩) hK hN hP hD hS hA hR hl.1 rfl (Nat.le_of_ble_eq_true rfl) dL_law_344 ⟨Nat.le_of_ble_eq_true rfl, Nat.le_of_ble_eq_true rfl⟩ (fun V u H locs hR hP hD hS => ?_)
                        refine lv_istore (lv' := [(12, .int (cotA a_5 19)), (0, .ref b), (1, .ref (Q 0 0)), (2, .int x2_5), (3, .long x3_5), (5, .int s63.2.2.1)]) hx hb dL_law_347 hl (by decide) rfl (fun ls hl => ?_)
                        refine lv_aload_n hx hb dL_law_349 rfl (lv_at hl 2 rfl) ?_
                        obtain ⟨o350, ho350, hf⟩ := bdE hf
                        refine rb_undo (ho := ho350) (rest := []) ⟨hx, hb, hml, hown, hts⟩ (cwV 0 hts gL_law_X7_undo rfl rfl rfl (by decide +kernel) ⟨Nat.le_of_ble_eq_true rfl, Nat.le_of_ble_eq_true rfl⟩) hK hN hP hD hS hA hR hl.1 rfl (Nat.le_of_ble_eq_true rfl) dL_law_350 ⟨Nat.le_of_ble_eq_true rfl, Nat.le_of_ble_eq_true rfl⟩ (fun V u H locs hR hP hD hS => ?_)
                        refine lv_iload hx hb dL_law_353 (lv_at hl 0 rfl) ?_
                        have hJ7 : ∀ (y0_7 : Int32), jL_law_7 s63 KB63 x3_5 o350 y0_7 → ∀ (V : GV) (u : QH) (H : Heap) (locs : List Loc) (ls : Array Slot) (d0 : Drawn), s.drawn.sameBut d0 lw_cs → RepA V o350.2 → va_P (dC, dI) vwCl (WB cI cZ cC cO Q u V).flatten H → va_D A (WB cI cZ cC cO Q u V).flatten → va_S A s.heap H locs → lv_has ls 13 [(0, .ref b), (1, .ref (Q 0 0)), (3, .long x3_5), (5, .int s63.2.2.1)] → W p l e room_1 (s.setDrawn d0) m #[Value.ref b] below meth c H locs 59 4683 (lw_Z below #[Value.ref b] s) (F0 m 367 ls [.int y0_7, .int o350.1]) := by
                          intro y0_7 hf V u H locs ls d0 hd0 hR hP hD hS hl
                          have hts := dr_words hts0 d0
                          have hK : va_K (dC, dI) vwCl (wTys cI cZ cC cO) (s.setDrawn d0) := hK0
                          have hN : NN (s.setDrawn d0) := hN0
                          have hX : va_X b L xs (s.setDrawn d0) s.heap := hX0
                          unfold jL_law_7 at hf
                          have hJ8 : ∀ (y0_8 : Int32), jL_law_8 s63 KB63 x3_5 o350 y0_8 → ∀ (V : GV) (u : QH) (H : Heap) (locs : List Loc) (ls : Array Slot) (d0 : Drawn), s.drawn.sameBut d0 lw_cs → RepA V o350.2 → va_P (dC, dI) vwCl (WB cI cZ cC cO Q u V).flatten H → va_D A (WB cI cZ cC cO Q u V).flatten → va_S A s.heap H locs → lv_has ls 13 [(0, .ref b), (1, .ref (Q 0 0)), (3, .long x3_5), (5, .int s63.2.2.1)] → W p l e room_1 (s.setDrawn d0) m #[Value.ref b] below meth c H locs 59 4683 (lw_Z below #[Value.ref b] s) (F0 m 375 ls [.int y0_8]) := by
                            intro y0_8 hf V u H locs ls d0 hd0 hR hP hD hS hl
                            have hts := dr_words hts0 d0
                            have hK : va_K (dC, dI) vwCl (wTys cI cZ cC cO) (s.setDrawn d0) := hK0
                            have hN : NN (s.setDrawn d0) := hN0
                            have hX : va_X b L xs (s.setDrawn d0) s.heap := hX0
                            unfold jL_law_8 at hf
                            refine lv_istore_n (lv' := [(2, .int y0_8), (0, .ref b), (1, .ref (Q 0 0)), (3, .long x3_5), (5, .int s63.2.2.1)]) hx hb dL_law_375 rfl hl (by decide) rfl (fun ls hl => ?_)
                            exact hJ6 _ _ hf _ _ _ _ ls _ hd0 hR hP hD hS (lv_sub hl [1, 2, 0, 3, 4] rfl)
                          refine lv_icmp_ne (tgt := 374) hx hb dL_law_367 (by decide) (fun hc => ?_) (fun hc => ?_)
                          · have hf := pe hc hf
                            refine lv_iconst (v := 0) hx hb dL_law_374 (by decide) ?_
                            exact hJ8 _ hf _ _ _ _ ls _ hd0 hR hP hD hS (lv_sub hl [0, 1, 2, 3] rfl)
                          · have hf := pt hc hf
                            refine lv_iconst (v := 1) hx hb dL_law_370 (by decide) ?_
                            refine lv_goto (tgt := 375) hx hb dL_law_371 (by decide) ?_
                            exact hJ8 _ hf _ _ _ _ ls _ hd0 hR hP hD hS (lv_sub hl [0, 1, 2, 3] rfl)
                        refine lv_if_ne (tgt := 363) hx hb dL_law_355 (by decide) (fun hc => ?_) (fun hc => ?_)
                        · have hf := pe hc hf
                          refine lv_iload hx hb dL_law_363 (lv_at hl 0 rfl) ?_
                          refine lv_iconst (v := 1) hx hb dL_law_365 (by decide) ?_
                          refine lv_isub hx hb dL_law_366 ?_
                          exact hJ7 _ hf _ _ _ _ ls _ hd0 hR hP hD hS (lv_sub hl [1, 2, 4, 5] rfl)
                        · have hf := pt hc hf
                          refine lv_bipush (v := (-2)) hx hb dL_law_358 (by decide) ?_
                          refine lv_goto (tgt := 367) hx hb dL_law_360 (by decide) ?_
                          exact hJ7 _ hf _ _ _ _ ls _ hd0 hR hP hD hS (lv_sub hl [1, 2, 4, 5] rfl)
                  refine lv_if_eq (tgt := 327) hx hb dL_law_259 (by decide) (fun hc => ?_) (fun hc => ?_)
                  · have hf := pt hc hf
                    exact hJ5 _ _ _ hf _ _ _ _ ls _ hd0 hR hP hD hS (lv_sub hl [0, 1, 2, 3, 4] rfl)
                  · have hf := pe hc hf
                    refine lv_iload hx hb dL_law_262 (lv_at hl 4 rfl) ?_
                    refine lv_bipush (v := 15) hx hb dL_law_264 (by decide) ?_
                    refine jirem hx hb dL_law_266 (by decide) ?_
                    refine lv_bipush (v := 14) hx hb dL_law_267 (by decide) ?_
                    refine lv_icmp_ne (tgt := 327) hx hb dL_law_269 (by decide) (fun hc => ?_) (fun hc => ?_)
                    · have hf := pe hc hf
                      exact hJ5 _ _ _ hf _ _ _ _ ls _ hd0 hR hP hD hS (lv_sub hl [0, 1, 2, 3, 4] rfl)
                    · have hf := pt hc hf
                      refine lv_aload_n hx hb dL_law_272 rfl (lv_at hl 1 rfl) ?_
                      obtain ⟨o273, ho273, hf⟩ := bdE hf
                      refine rb_restore (ho := ho273) (rest := []) ⟨hx, hb, hml, hown, hts⟩ (cwV 0 hts gL_law_X7_restore rfl rfl rfl (by decide +kernel) ⟨Nat.le_of_ble_eq_true rfl, Nat.le_of_ble_eq_true rfl⟩) hK hN hP hD hS hA hR hl.1 rfl (Nat.le_of_ble_eq_true rfl) dL_law_273 ⟨Nat.le_of_ble_eq_true rfl, Nat.le_of_ble_eq_true rfl⟩ (fun V u H locs hR hP hD hS => ?_)
                      refine lv_istore (lv' := [(12, .int o273.1), (0, .ref b), (1, .ref (Q 0 0)), (2, .int x2_4), (3, .long s63.2.1), (5, .int s63.2.2.1)]) hx hb dL_law_276 hl (by decide) rfl (fun ls hl => ?_)
                      refine lv_iload hx hb dL_law_278 (lv_at hl 0 rfl) ?_
                      refine lv_aload_n hx hb dL_law_280 rfl (lv_at hl 2 rfl) ?_
                      refine lv_iconst (v := 0) hx hb dL_law_281 (by decide) ?_
                      refine rb_count (x0 := 0) (rest := [.int o273.1]) ⟨hx, hb, hml, hown, hts⟩ (cwV 1 hts gL_law_X7_count rfl rfl rfl (by decide +kernel) ⟨Nat.le_of_ble_eq_true rfl, Nat.le_of_ble_eq_true rfl⟩) hK hN hP hD hS hA hR hl.1 rfl (Nat.le_of_ble_eq_true rfl) dL_law_282 ⟨Nat.le_of_ble_eq_true rfl, Nat.le_of_ble_eq_true rfl⟩ (fun V u H locs hR hP hD hS => ?_)
                      have hJ9 : ∀ (y0_9 : Int32) (a_9 : AS), jL_law_9 s63 KB63 y0_9 a_9 → ∀ (V : GV) (u : QH) (H : Heap) (locs : List Loc) (ls : Array Slot) (d0 : Drawn), s.drawn.sameBut d0 lw_cs → RepA V a_9 → va_P (dC, dI) vwCl (WB cI cZ cC cO Q u V).flatten H → va_D A (WB cI cZ cC cO Q u V).flatten → va_S A s.heap H locs → lv_has ls 13 [(0, .ref b), (1, .ref (Q 0 0)), (5, .int s63.2.2.1)] → W p l e room_1 (s.setDrawn d0) m #[Value.ref b] below meth c H locs 59 4683 (lw_Z below #[Value.ref b] s) (F0 m 321 ls [.int y0_9]) := by
                        intro y0_9 a_9 hf V u H locs ls d0 hd0 hR hP hD hS hl
                        have hts := dr_words hts0 d0
                        have hK : va_K (dC, dI) vwCl (wTys cI cZ cC cO) (s.setDrawn d0) := hK0
                        have hN : NN (s.setDrawn d0) := hN0
                        have hX : va_X b L xs (s.setDrawn d0) s.heap := hX0
                        unfold jL_law_9 at hf
                        refine lv_istore_n (lv' := [(2, .int y0_9), (0, .ref b), (1, .ref (Q 0 0)), (5, .int s63.2.2.1)]) hx hb dL_law_321 rfl hl (by decide) rfl (fun ls hl => ?_)
                        refine lv_aload_n hx hb dL_law_322 rfl (lv_at hl 2 rfl) ?_
                        refine rsL (rest := []) (As := [.ref (Q 0 0)]) ⟨hx, hb, hml, hown, hts⟩ (mL_look l dC dI cI cZ cC cO Q u V a_9 _ _ hR hf) (va_cwS 1 hts gL_law_L_look rfl rfl rfl (by decide +kernel) ⟨Nat.le_of_ble_eq_true rfl, Nat.le_of_ble_eq_true rfl⟩) hK hN hP hD hS hA rfl hl.1 rfl (Nat.le_of_ble_eq_true rfl) dL_law_323 ⟨Nat.le_of_ble_eq_true rfl, Nat.le_of_ble_eq_true rfl⟩ (fun r323 w9 hk9 H locs hP hD hS => ?_)
                        obtain ⟨u, V⟩ := w9
                        obtain ⟨hf, hR⟩ := hk9
                        have hR : RepA V a_9 := hR
                        have hP : va_P (dC, dI) vwCl (WB cI cZ cC cO Q u V).flatten H := hP
                        have hD : va_D A (WB cI cZ cC cO Q u V).flatten := hD
                        refine lv_lstore_n (lv' := [(3, .long r323), (2, .int y0_9), (0, .ref b), (1, .ref (Q 0 0)), (5, .int s63.2.2.1)]) hx hb dL_law_326 rfl hl (by decide) rfl (fun ls hl => ?_)
                        exact hJ5 _ _ _ hf _ _ _ _ ls _ hd0 hR hP hD hS (lv_sub hl [2, 3, 1, 0, 4] rfl)
                      have hJ10 : ∀ (a_10 : AS), jL_law_10 s63 KB63 a_10 → ∀ (V : GV) (u : QH) (H : Heap) (locs : List Loc) (ls : Array Slot) (d0 : Drawn), s.drawn.sameBut d0 lw_cs → RepA V a_10 → va_P (dC, dI) vwCl (WB cI cZ cC cO Q u V).flatten H → va_D A (WB cI cZ cC cO Q u V).flatten → va_S A s.heap H locs → lv_has ls 13 [(0, .ref b), (1, .ref (Q 0 0)), (5, .int s63.2.2.1)] → W p l e room_1 (s.setDrawn d0) m #[Value.ref b] below meth c H locs 59 4683 (lw_Z below #[Value.ref b] s) (F0 m 320 ls []) := by
                        intro a_10 hf V u H locs ls d0 hd0 hR hP hD hS hl
                        have hts := dr_words hts0 d0
                        have hK : va_K (dC, dI) vwCl (wTys cI cZ cC cO) (s.setDrawn d0) := hK0
                        have hN : NN (s.setDrawn d0) := hN0
                        have hX : va_X b L xs (s.setDrawn d0) s.heap := hX0
                        unfold jL_law_10 at hf
                        refine lv_iconst (v := 0) hx hb dL_law_320 (by decide) ?_
                        exact hJ9 _ _ hf _ _ _ _ ls _ hd0 hR hP hD hS (lv_sub hl [0, 1, 2] rfl)
                      refine lv_icmp_ne (tgt := 320) hx hb dL_law_285 (by decide) (fun hc => ?_) (fun hc => ?_)
                      · have hf := pe hc hf
                        exact hJ10 _ hf _ _ _ _ ls _ hd0 hR hP hD hS (lv_sub hl [1, 2, 5] rfl)
                      · have hf := pt hc hf
                        refine lv_aload_n hx hb dL_law_288 rfl (lv_at hl 2 rfl) ?_
                        refine rsL (rest := []) (As := [.ref (Q 0 0)]) ⟨hx, hb, hml, hown, hts⟩ (mL_look l dC dI cI cZ cC cO Q u V o273.2 _ _ hR hf) (va_cwS 1 hts gL_law_L_look rfl rfl rfl (by decide +kernel) ⟨Nat.le_of_ble_eq_true rfl, Nat.le_of_ble_eq_true rfl⟩) hK hN hP hD hS hA rfl hl.1 rfl (Nat.le_of_ble_eq_true rfl) dL_law_289 ⟨Nat.le_of_ble_eq_true rfl, Nat.le_of_ble_eq_true rfl⟩ (fun r289 w9 hk9 H locs hP hD hS => ?_)
                        obtain ⟨u, V⟩ := w9
                        obtain ⟨hf, hR⟩ := hk9
                        have hR : RepA V o273.2 := hR
                        have hP : va_P (dC, dI) vwCl (WB cI cZ cC cO Q u V).flatten H := hP
                        have hD : va_D A (WB cI cZ cC cO Q u V).flatten := hD
                        refine lv_lload_n hx hb dL_law_292 rfl (lv_at hl 4 rfl) ?_
                        refine W.lcmp hx hb dL_law_293 ?_
                        refine lv_if_ne (tgt := 320) hx hb dL_law_294 (by decide) (fun hc => ?_) (fun hc => ?_)
                        · have hf := pe hc hf
                          exact hJ10 _ hf _ _ _ _ ls _ hd0 hR hP hD hS (lv_sub hl [1, 2, 5] rfl)
                        · have hf := pt hc hf
                          refine lv_aload_n hx hb dL_law_297 rfl (lv_at hl 2 rfl) ?_
                          obtain ⟨o298, ho298, hf⟩ := bdE hf
                          refine rb_undo (ho := ho298) (rest := []) ⟨hx, hb, hml, hown, hts⟩ (cwV 0 hts gL_law_X7_undo rfl rfl rfl (by decide +kernel) ⟨Nat.le_of_ble_eq_true rfl, Nat.le_of_ble_eq_true rfl⟩) hK hN hP hD hS hA hR hl.1 rfl (Nat.le_of_ble_eq_true rfl) dL_law_298 ⟨Nat.le_of_ble_eq_true rfl, Nat.le_of_ble_eq_true rfl⟩ (fun V u H locs hR hP hD hS => ?_)
                          refine lv_if_lt (tgt := 320) hx hb dL_law_301 (by decide) (fun hc => ?_) (fun hc => ?_)
                          · have hf := pt hc hf
                            exact hJ10 _ hf _ _ _ _ ls _ hd0 hR hP hD hS (lv_sub hl [1, 2, 5] rfl)
                          · have hf := pe hc hf
                            refine lv_aload_n hx hb dL_law_304 rfl (lv_at hl 2 rfl) ?_
                            obtain ⟨o305, ho305, hf⟩ := bdE hf
                            refine rb_save (ho := ho305) (rest := []) ⟨hx, hb, hml, hown, hts⟩ (cwV 0 hts gL_law_X7_save rfl rfl rfl (by decide +kernel) ⟨Nat.le_of_ble_eq_true rfl, Nat.le_of_ble_eq_true rfl⟩) hK hN hP hD hS hA hR hl.1 rfl (Nat.le_of_ble_eq_true rfl) dL_law_305 ⟨Nat.le_of_ble_eq_true rfl, Nat.le_of_ble_eq_true rfl⟩ (fun V u H locs hR hP hD hS => ?_)
                            refine lv_aload_n hx hb dL_law_308 rfl (lv_at hl 2 rfl) ?_
                            refine lv_iconst (v := 0) hx hb dL_law_309 (by decide) ?_
                            refine rb_count (x0 := 0) (rest := [.int o305.1]) ⟨hx, hb, hml, hown, hts⟩ (cwV 1 hts gL_law_X7_count rfl rfl rfl (by decide +kernel) ⟨Nat.le_of_ble_eq_true rfl, Nat.le_of_ble_eq_true rfl⟩) hK hN hP hD hS hA hR hl.1 rfl (Nat.le_of_ble_eq_true rfl) dL_law_310 ⟨Nat.le_of_ble_eq_true rfl, Nat.le_of_ble_eq_true rfl⟩ (fun V u H locs hR hP hD hS => ?_)
                            refine lv_icmp_ne (tgt := 320) hx hb dL_law_313 (by decide) (fun hc => ?_) (fun hc => ?_)
                            · have hf := pe hc hf
                              exact hJ10 _ hf _ _ _ _ ls _ hd0 hR hP hD hS (lv_sub hl [1, 2, 5] rfl)
                            · have hf := pt hc hf
                              refine lv_iconst (v := 1) hx hb dL_law_316 (by decide) ?_
                              refine lv_goto (tgt := 321) hx hb dL_law_317 (by decide) ?_
                              exact hJ9 _ _ hf _ _ _ _ ls _ hd0 hR hP hD hS (lv_sub hl [1, 2, 5] rfl)
                refine lv_if_eq (tgt := 258) hx hb dL_law_209 (by decide) (fun hc => ?_) (fun hc => ?_)
                · have hf := pt hc hf
                  exact hJ4 _ _ hf _ _ _ _ ls _ hd0 hR hP hD hS (lv_sub hl [1, 2, 0, 3, 4] rfl)
                · have hf := pe hc hf
                  refine lv_iload hx hb dL_law_212 (lv_at hl 8 rfl) ?_
                  refine lv_iload hx hb dL_law_214 (lv_at hl 7 rfl) ?_
                  refine lv_iconst (v := 1) hx hb dL_law_216 (by decide) ?_
                  refine lv_iadd hx hb dL_law_217 ?_
                  refine lv_icmp_ne (tgt := 258) hx hb dL_law_218 (by decide) (fun hc => ?_) (fun hc => ?_)
                  · have hf := pe hc hf
                    exact hJ4 _ _ hf _ _ _ _ ls _ hd0 hR hP hD hS (lv_sub hl [1, 2, 0, 3, 4] rfl)
                  · have hf := pt hc hf
                    refine lv_iload hx hb dL_law_221 (lv_at hl 5 rfl) ?_
                    refine lv_bipush (v := 8) hx hb dL_law_223 (by decide) ?_
                    refine lv_ishr hx hb dL_law_225 ?_
                    refine lv_iconst (v := 3) hx hb dL_law_226 (by decide) ?_
                    refine rS (w := []) (W0 := (WB cI cZ cC cO Q u V).flatten) (rest := []) (As := [.int ((sctA L xs (((2 * s63.2.2.1) + 1))) >>> (8 &&& 31)), .int 3]) ⟨hx, hb, hml, hown, hts⟩ (mL_low l dC dI cI cZ cC cO (((sctA L xs (((2 * s63.2.2.1) + 1))) >>> (8 &&& 31))) 3 (by decide)) (va_cwS 2 hts gL_law_L_low rfl rfl rfl (by decide +kernel) ⟨Nat.le_of_ble_eq_true rfl, Nat.le_of_ble_eq_true rfl⟩) hK hN hP [] rfl rfl hl.1 rfl (Nat.le_of_ble_eq_true rfl) dL_law_227 ⟨Nat.le_of_ble_eq_true rfl, Nat.le_of_ble_eq_true rfl⟩ ?_
                    refine lv_if_ne (tgt := 258) hx hb dL_law_230 (by decide) (fun hc => ?_) (fun hc => ?_)
                    · have hf := pe hc hf
                      exact hJ4 _ _ hf _ _ _ _ ls _ hd0 hR hP hD hS (lv_sub hl [1, 2, 0, 3, 4] rfl)
                    · have hf := pt hc hf
                      refine lv_aload_n hx hb dL_law_233 rfl (lv_at hl 2 rfl) ?_
                      obtain ⟨o234, ho234, hf⟩ := bdE hf
                      refine rb_undo (ho := ho234) (rest := []) ⟨hx, hb, hml, hown, hts⟩ (cwV 0 hts gL_law_X7_undo rfl rfl rfl (by decide +kernel) ⟨Nat.le_of_ble_eq_true rfl, Nat.le_of_ble_eq_true rfl⟩) hK hN hP hD hS hA hR hl.1 rfl (Nat.le_of_ble_eq_true rfl) dL_law_234 ⟨Nat.le_of_ble_eq_true rfl, Nat.le_of_ble_eq_true rfl⟩ (fun V u H locs hR hP hD hS => ?_)
                      refine lv_iload hx hb dL_law_237 (lv_at hl 7 rfl) ?_
                      have hJ11 : ∀ (y0_11 : Int32), jL_law_11 s63 KB63 o234 y0_11 → ∀ (V : GV) (u : QH) (H : Heap) (locs : List Loc) (ls : Array Slot) (d0 : Drawn), s.drawn.sameBut d0 lw_cs → RepA V o234.2 → va_P (dC, dI) vwCl (WB cI cZ cC cO Q u V).flatten H → va_D A (WB cI cZ cC cO Q u V).flatten → va_S A s.heap H locs → lv_has ls 13 [(0, .ref b), (1, .ref (Q 0 0)), (3, .long s63.2.1), (5, .int s63.2.2.1)] → W p l e room_1 (s.setDrawn d0) m #[Value.ref b] below meth c H locs 59 4683 (lw_Z below #[Value.ref b] s) (F0 m 257 ls [.int y0_11]) := by
                        intro y0_11 hf V u H locs ls d0 hd0 hR hP hD hS hl
                        have hts := dr_words hts0 d0
                        have hK : va_K (dC, dI) vwCl (wTys cI cZ cC cO) (s.setDrawn d0) := hK0
                        have hN : NN (s.setDrawn d0) := hN0
                        have hX : va_X b L xs (s.setDrawn d0) s.heap := hX0
                        unfold jL_law_11 at hf
                        refine lv_istore_n (lv' := [(2, .int y0_11), (0, .ref b), (1, .ref (Q 0 0)), (3, .long s63.2.1), (5, .int s63.2.2.1)]) hx hb dL_law_257 rfl hl (by decide) rfl (fun ls hl => ?_)
                        exact hJ4 _ _ hf _ _ _ _ ls _ hd0 hR hP hD hS (lv_sub hl [1, 2, 0, 3, 4] rfl)
                      have hJ12 : jL_law_12 s63 KB63 o234 → ∀ (V : GV) (u : QH) (H : Heap) (locs : List Loc) (ls : Array Slot) (d0 : Drawn), s.drawn.sameBut d0 lw_cs → RepA V o234.2 → va_P (dC, dI) vwCl (WB cI cZ cC cO Q u V).flatten H → va_D A (WB cI cZ cC cO Q u V).flatten → va_S A s.heap H locs → lv_has ls 13 [(0, .ref b), (1, .ref (Q 0 0)), (3, .long s63.2.1), (5, .int s63.2.2.1)] → W p l e room_1 (s.setDrawn d0) m #[Value.ref b] below meth c H locs 59 4683 (lw_Z below #[Value.ref b] s) (F0 m 256 ls []) := by
                        intro hf V u H locs ls d0 hd0 hR hP hD hS hl
                        have hts := dr_words hts0 d0
                        have hK : va_K (dC, dI) vwCl (wTys cI cZ cC cO) (s.setDrawn d0) := hK0
                        have hN : NN (s.setDrawn d0) := hN0
                        have hX : va_X b L xs (s.setDrawn d0) s.heap := hX0
                        unfold jL_law_12 at hf
                        refine lv_iconst (v := 0) hx hb dL_law_256 (by decide) ?_
                        exact hJ11 _ hf _ _ _ _ ls _ hd0 hR hP hD hS (lv_sub hl [0, 1, 2, 3] rfl)
                      refine lv_icmp_ne (tgt := 256) hx hb dL_law_239 (by decide) (fun hc => ?_) (fun hc => ?_)
                      · have hf := pe hc hf
                        exact hJ12 hf _ _ _ _ ls _ hd0 hR hP hD hS (lv_sub hl [1, 2, 3, 4] rfl)
                      · have hf := pt hc hf
                        refine lv_aload_n hx hb dL_law_242 rfl (lv_at hl 2 rfl) ?_
                        refine rsL (rest := []) (As := [.ref (Q 0 0)]) ⟨hx, hb, hml, hown, hts⟩ (mL_look l dC dI cI cZ cC cO Q u V o234.2 _ _ hR hf) (va_cwS 1 hts gL_law_L_look rfl rfl rfl (by decide +kernel) ⟨Nat.le_of_ble_eq_true rfl, Nat.le_of_ble_eq_true rfl⟩) hK hN hP hD hS hA rfl hl.1 rfl (Nat.le_of_ble_eq_true rfl) dL_law_243 ⟨Nat.le_of_ble_eq_true rfl, Nat.le_of_ble_eq_true rfl⟩ (fun r243 w9 hk9 H locs hP hD hS => ?_)
                        obtain ⟨u, V⟩ := w9
                        obtain ⟨hf, hR⟩ := hk9
                        have hR : RepA V o234.2 := hR
                        have hP : va_P (dC, dI) vwCl (WB cI cZ cC cO Q u V).flatten H := hP
                        have hD : va_D A (WB cI cZ cC cO Q u V).flatten := hD
                        refine lv_lload hx hb dL_law_246 (lv_at hl 6 rfl) ?_
                        refine W.lcmp hx hb dL_law_248 ?_
                        refine lv_if_ne (tgt := 256) hx hb dL_law_249 (by decide) (fun hc => ?_) (fun hc => ?_)
                        · have hf := pe hc hf
                          exact hJ12 hf _ _ _ _ ls _ hd0 hR hP hD hS (lv_sub hl [1, 2, 3, 4] rfl)
                        · have hf := pt hc hf
                          refine lv_iconst (v := 1) hx hb dL_law_252 (by decide) ?_
                          refine lv_goto (tgt := 257) hx hb dL_law_253 (by decide) ?_
                          exact hJ11 _ hf _ _ _ _ ls _ hd0 hR hP hD hS (lv_sub hl [1, 2, 3, 4] rfl)
              have hJ13 : jL_law_13 L xs s63 KB63 r97 a115 → ∀ (V : GV) (u : QH) (H : Heap) (locs : List Loc) (ls : Array Slot) (d0 : Drawn), s.drawn.sameBut d0 lw_cs → RepA V a115 → va_P (dC, dI) vwCl (WB cI cZ cC cO Q u V).flatten H → va_D A (WB cI cZ cC cO Q u V).flatten → va_S A s.heap H locs → lv_has ls 13 [(0, .ref b), (1, .ref (Q 0 0)), (3, .long s63.2.1), (5, .int s63.2.2.1), (7, .int (sctA L xs (((2 * s63.2.2.1) + 1)))), (8, .long r97), (10, .int (cotA s63.2.2.2 19)), (11, .int (cotA a115 19))] → W p l e room_1 (s.setDrawn d0) m #[Value.ref b] below meth c H locs 59 4683 (lw_Z below #[Value.ref b] s) (F0 m 206 ls []) := by
                intro hf V u H locs ls d0 hd0 hR hP hD hS hl
                have hts := dr_words hts0 d0
                have hK : va_K (dC, dI) vwCl (wTys cI cZ cC cO) (s.setDrawn d0) := hK0
                have hN : NN (s.setDrawn d0) := hN0
                have hX : va_X b L xs (s.setDrawn d0) s.heap := hX0
                unfold jL_law_13 at hf
                refine lv_iconst (v := 0) hx hb dL_law_206 (by decide) ?_
                exact hJ3 _ hf _ _ _ _ ls _ hd0 hR hP hD hS (lv_sub hl [0, 1, 2, 3, 4, 5, 6, 7] rfl)
              refine lv_if_eq (tgt := 206) hx hb dL_law_167 (by decide) (fun hc => ?_) (fun hc => ?_)
              · have hf := pt hc hf
                exact hJ13 hf _ _ _ _ ls _ hd0 hR hP hD hS (lv_sub hl [2, 3, 4, 5, 6, 7, 8, 0] rfl)
              · have hf := pe hc hf
                refine lv_iload hx hb dL_law_170 (lv_at hl 0 rfl) ?_
                refine lv_iload hx hb dL_law_172 (lv_at hl 8 rfl) ?_
                have hJ14 : jL_law_14 L xs s63 KB63 r97 a115 → ∀ (V : GV) (u : QH) (H : Heap) (locs : List Loc) (ls : Array Slot) (d0 : Drawn), s.drawn.sameBut d0 lw_cs → RepA V a115 → va_P (dC, dI) vwCl (WB cI cZ cC cO Q u V).flatten H → va_D A (WB cI cZ cC cO Q u V).flatten → va_S A s.heap H locs → lv_has ls 13 [(0, .ref b), (1, .ref (Q 0 0)), (3, .long s63.2.1), (5, .int s63.2.2.1), (7, .int (sctA L xs (((2 * s63.2.2.1) + 1)))), (8, .long r97), (10, .int (cotA s63.2.2.2 19)), (11, .int (cotA a115 19))] → W p l e room_1 (s.setDrawn d0) m #[Value.ref b] below meth c H locs 59 4683 (lw_Z below #[Value.ref b] s) (F0 m 202 ls []) := by
                  intro hf V u H locs ls d0 hd0 hR hP hD hS hl
                  have hts := dr_words hts0 d0
                  have hK : va_K (dC, dI) vwCl (wTys cI cZ cC cO) (s.setDrawn d0) := hK0
                  have hN : NN (s.setDrawn d0) := hN0
                  have hX : va_X b L xs (s.setDrawn d0) s.heap := hX0
                  unfold jL_law_14 at hf
                  refine lv_iconst (v := 1) hx hb dL_law_202 (by decide) ?_
                  refine lv_goto (tgt := 207) hx hb dL_law_203 (by decide) ?_
                  exact hJ3 _ hf _ _ _ _ ls _ hd0 hR hP hD hS (lv_sub hl [0, 1, 2, 3, 4, 5, 6, 7] rfl)
                have hJ15 : jL_law_15 L xs s63 KB63 r97 a115 → ∀ (V : GV) (u : QH) (H : Heap) (locs : List Loc) (ls : Array Slot) (d0 : Drawn), s.drawn.sameBut d0 lw_cs → RepA V a115 → va_P (dC, dI) vwCl (WB cI cZ cC cO Q u V).flatten H → va_D A (WB cI cZ cC cO Q u V).flatten → va_S A s.heap H locs → lv_has ls 13 [(0, .ref b), (1, .ref (Q 0 0)), (3, .long s63.2.1), (5, .int s63.2.2.1), (7, .int (sctA L xs (((2 * s63.2.2.1) + 1)))), (8, .long r97), (10, .int (cotA s63.2.2.2 19)), (11, .int (cotA a115 19))] → W p l e room_1 (s.setDrawn d0) m #[Value.ref b] below meth c H locs 59 4683 (lw_Z below #[Value.ref b] s) (F0 m 193 ls []) := by
                  intro hf V u H locs ls d0 hd0 hR hP hD hS hl
                  have hts := dr_words hts0 d0
                  have hK : va_K (dC, dI) vwCl (wTys cI cZ cC cO) (s.setDrawn d0) := hK0
                  have hN : NN (s.setDrawn d0) := hN0
                  have hX : va_X b L xs (s.setDrawn d0) s.heap := hX0
                  unfold jL_law_15 at hf
                  refine lv_iload hx hb dL_law_193 (lv_at hl 7 rfl) ?_
                  refine lv_iload hx hb dL_law_195 (lv_at hl 6 rfl) ?_
                  refine lv_iconst (v := 1) hx hb dL_law_197 (by decide) ?_
                  refine lv_iadd hx hb dL_law_198 ?_
                  refine lv_icmp_ne (tgt := 206) hx hb dL_law_199 (by decide) (fun hc => ?_) (fun hc => ?_)
                  · have hf := pe hc hf
                    exact hJ13 hf _ _ _ _ ls _ hd0 hR hP hD hS (lv_sub hl [0, 1, 2, 3, 4, 5, 6, 7] rfl)
                  · have hf := pt hc hf
                    exact hJ14 hf _ _ _ _ ls _ hd0 hR hP hD hS (lv_sub hl [0, 1, 2, 3, 4, 5, 6, 7] rfl)
                refine lv_icmp_ne (tgt := 193) hx hb dL_law_174 (by decide) (fun hc => ?_) (fun hc => ?_)
                · have hf := pe hc hf
                  exact hJ15 hf _ _ _ _ ls _ hd0 hR hP hD hS (lv_sub hl [2, 3, 4, 5, 6, 7, 8, 0] rfl)
                · have hf := pt hc hf
                  refine lv_iload hx hb dL_law_177 (lv_at hl 8 rfl) ?_
                  refine lv_iconst (v := 4) hx hb dL_law_179 (by decide) ?_
                  refine lv_icmp_eq (tgt := 202) hx hb dL_law_180 (by decide) (fun hc => ?_) (fun hc => ?_)
                  · have hf := pt hc hf
                    exact hJ14 hf _ _ _ _ ls _ hd0 hR hP hD hS (lv_sub hl [2, 3, 4, 5, 6, 7, 8, 0] rfl)
                  · have hf := pe hc hf
                    refine lv_aload_n hx hb dL_law_183 rfl (lv_at hl 3 rfl) ?_
                    refine rsL (rest := []) (As := [.ref (Q 0 0)]) ⟨hx, hb, hml, hown, hts⟩ (mL_look l dC dI cI cZ cC cO Q u V a115 _ _ hR hf) (va_cwS 1 hts gL_law_L_look rfl rfl rfl (by decide +kernel) ⟨Nat.le_of_ble_eq_true rfl, Nat.le_of_ble_eq_true rfl⟩) hK hN hP hD hS hA rfl hl.1 rfl (Nat.le_of_ble_eq_true rfl) dL_law_184 ⟨Nat.le_of_ble_eq_true rfl, Nat.le_of_ble_eq_true rfl⟩ (fun r184 w9 hk9 H locs hP hD hS => ?_)
                    obtain ⟨u, V⟩ := w9
                    obtain ⟨hf, hR⟩ := hk9
                    have hR : RepA V a115 := hR
                    have hP : va_P (dC, dI) vwCl (WB cI cZ cC cO Q u V).flatten H := hP
                    have hD : va_D A (WB cI cZ cC cO Q u V).flatten := hD
                    refine lv_lload hx hb dL_law_187 (lv_at hl 7 rfl) ?_
                    refine W.lcmp hx hb dL_law_189 ?_
                    refine lv_if_eq (tgt := 202) hx hb dL_law_190 (by decide) (fun hc => ?_) (fun hc => ?_)
                    · have hf := pt hc hf
                      exact hJ14 hf _ _ _ _ ls _ hd0 hR hP hD hS (lv_sub hl [2, 3, 4, 5, 6, 7, 8, 0] rfl)
                    · have hf := pe hc hf
                      exact hJ15 hf _ _ _ _ ls _ hd0 hR hP hD hS (lv_sub hl [2, 3, 4, 5, 6, 7, 8, 0] rfl)
            have hJ16 : jL_law_16 L xs s63 KB63 r97 a115 → ∀ (V : GV) (u : QH) (H : Heap) (locs : List Loc) (ls : Array Slot) (d0 : Drawn), s.drawn.sameBut d0 lw_cs → RepA V a115 → va_P (dC, dI) vwCl (WB cI cZ cC cO Q u V).flatten H → va_D A (WB cI cZ cC cO Q u V).flatten → va_S A s.heap H locs → lv_has ls 13 [(0, .ref b), (1, .ref (Q 0 0)), (3, .long s63.2.1), (5, .int s63.2.2.1), (7, .int (sctA L xs (((2 * s63.2.2.1) + 1)))), (8, .long r97), (10, .int (cotA s63.2.2.2 19))] → W p l e room_1 (s.setDrawn d0) m #[Value.ref b] below meth c H locs 59 4683 (lw_Z below #[Value.ref b] s) (F0 m 156 ls []) := by
              intro hf V u H locs ls d0 hd0 hR hP hD hS hl
              have hts := dr_words hts0 d0
              have hK : va_K (dC, dI) vwCl (wTys cI cZ cC cO) (s.setDrawn d0) := hK0
              have hN : NN (s.setDrawn d0) := hN0
              have hX : va_X b L xs (s.setDrawn d0) s.heap := hX0
              unfold jL_law_16 at hf
              refine lv_iconst (v := 0) hx hb dL_law_156 (by decide) ?_
              exact hJ2 _ hf _ _ _ _ ls _ hd0 hR hP hD hS (lv_sub hl [0, 1, 2, 3, 4, 5, 6] rfl)
            refine lv_if_eq (tgt := 156) hx hb dL_law_118 (by decide) (fun hc => ?_) (fun hc => ?_)
            · have hf := pt hc hf
              exact hJ16 hf _ _ _ _ ls _ hd0 hR hP hD hS (lv_sub hl [4, 5, 7, 8, 2, 1, 0] rfl)
            · have hf := pe hc hf
              refine lv_iload hx hb dL_law_121 (lv_at hl 8 rfl) ?_
              refine lv_iconst (v := 3) hx hb dL_law_123 (by decide) ?_
              refine jirem hx hb dL_law_124 (by decide) ?_
              have hJ17 : jL_law_17 L xs s63 KB63 r97 a115 → ∀ (V : GV) (u : QH) (H : Heap) (locs : List Loc) (ls : Array Slot) (d0 : Drawn), s.drawn.sameBut d0 lw_cs → RepA V a115 → va_P (dC, dI) vwCl (WB cI cZ cC cO Q u V).flatten H → va_D A (WB cI cZ cC cO Q u V).flatten → va_S A s.heap H locs → lv_has ls 13 [(0, .ref b), (1, .ref (Q 0 0)), (3, .long s63.2.1), (5, .int s63.2.2.1), (7, .int (sctA L xs (((2 * s63.2.2.1) + 1)))), (8, .long r97), (10, .int (cotA s63.2.2.2 19))] → W p l e room_1 (s.setDrawn d0) m #[Value.ref b] below meth c H locs 59 4683 (lw_Z below #[Value.ref b] s) (F0 m 135 ls []) := by
                intro hf V u H locs ls d0 hd0 hR hP hD hS hl
                have hts := dr_words hts0 d0
                have hK : va_K (dC, dI) vwCl (wTys cI cZ cC cO) (s.setDrawn d0) := hK0
                have hN : NN (s.setDrawn d0) := hN0
                have hX : va_X b L xs (s.setDrawn d0) s.heap := hX0
                unfold jL_law_17 at hf
                refine lv_iload hx hb dL_law_135 (lv_at hl 3 rfl) ?_
                refine lv_iconst (v := 4) hx hb dL_law_137 (by decide) ?_
                refine jirem hx hb dL_law_138 (by decide) ?_
                refine lv_iconst (v := 2) hx hb dL_law_139 (by decide) ?_
                have hJ18 : jL_law_18 L xs s63 KB63 r97 a115 → ∀ (V : GV) (u : QH) (H : Heap) (locs : List Loc) (ls : Array Slot) (d0 : Drawn), s.drawn.sameBut d0 lw_cs → RepA V a115 → va_P (dC, dI) vwCl (WB cI cZ cC cO Q u V).flatten H → va_D A (WB cI cZ cC cO Q u V).flatten → va_S A s.heap H locs → lv_has ls 13 [(0, .ref b), (1, .ref (Q 0 0)), (3, .long s63.2.1), (5, .int s63.2.2.1), (7, .int (sctA L xs (((2 * s63.2.2.1) + 1)))), (8, .long r97), (10, .int (cotA s63.2.2.2 19))] → W p l e room_1 (s.setDrawn d0) m #[Value.ref b] below meth c H locs 59 4683 (lw_Z below #[Value.ref b] s) (F0 m 152 ls []) := by
                  intro hf V u H locs ls d0 hd0 hR hP hD hS hl
                  have hts := dr_words hts0 d0
                  have hK : va_K (dC, dI) vwCl (wTys cI cZ cC cO) (s.setDrawn d0) := hK0
                  have hN : NN (s.setDrawn d0) := hN0
                  have hX : va_X b L xs (s.setDrawn d0) s.heap := hX0
                  unfold jL_law_18 at hf
                  refine lv_iconst (v := 1) hx hb dL_law_152 (by decide) ?_
                  refine lv_goto (tgt := 157) hx hb dL_law_153 (by decide) ?_
                  exact hJ2 _ hf _ _ _ _ ls _ hd0 hR hP hD hS (lv_sub hl [0, 1, 2, 3, 4, 5, 6] rfl)
                refine lv_icmp_ne (tgt := 152) hx hb dL_law_140 (by decide) (fun hc => ?_) (fun hc => ?_)
                · have hf := pe hc hf
                  exact hJ18 hf _ _ _ _ ls _ hd0 hR hP hD hS (lv_sub hl [0, 1, 2, 3, 4, 5, 6] rfl)
                · have hf := pt hc hf
                  refine lv_aload_n hx hb dL_law_143 rfl (lv_at hl 1 rfl) ?_
                  refine lv_iload hx hb dL_law_144 (lv_at hl 4 rfl) ?_
                  refine rsI (rest := []) (As := [.ref (Q 0 0), .int (sctA L xs (((2 * s63.2.2.1) + 1)))]) ⟨hx, hb, hml, hown, hts⟩ (mL_would l dC dI cI cZ cC cO Q u V ((sctA L xs (((2 * s63.2.2.1) + 1)))) a115 _ _ hR hf) (va_cwS 2 hts gL_law_L_would rfl rfl rfl (by decide +kernel) ⟨Nat.le_of_ble_eq_true rfl, Nat.le_of_ble_eq_true rfl⟩) hK hN hP hD hS hA rfl hl.1 rfl (Nat.le_of_ble_eq_true rfl) dL_law_146 ⟨Nat.le_of_ble_eq_true rfl, Nat.le_of_ble_eq_true rfl⟩ (fun r146 w9 hk9 H locs hP hD hS => ?_)
                  obtain ⟨u, V⟩ := w9
                  obtain ⟨hf, hR⟩ := hk9
                  have hR : RepA V a115 := hR
                  have hP : va_P (dC, dI) vwCl (WB cI cZ cC cO Q u V).flatten H := hP
                  have hD : va_D A (WB cI cZ cC cO Q u V).flatten := hD
                  refine lv_if_eq (tgt := 156) hx hb dL_law_149 (by decide) (fun hc => ?_) (fun hc => ?_)
                  · have hf := pt hc hf
                    exact hJ16 hf _ _ _ _ ls _ hd0 hR hP hD hS (lv_sub hl [0, 1, 2, 3, 4, 5, 6] rfl)
                  · have hf := pe hc hf
                    exact hJ18 hf _ _ _ _ ls _ hd0 hR hP hD hS (lv_sub hl [0, 1, 2, 3, 4, 5, 6] rfl)
              refine lv_if_gt (tgt := 135) hx hb dL_law_125 (by decide) (fun hc => ?_) (fun hc => ?_)
              · have hf := pt hc hf
                exact hJ17 hf _ _ _ _ ls _ hd0 hR hP hD hS (lv_sub hl [4, 5, 7, 8, 2, 1, 0] rfl)
              · have hf := pe hc hf
                refine lv_aload_n hx hb dL_law_128 rfl (lv_at hl 5 rfl) ?_
                refine rsID hd0 (rest := []) (As := [.ref (Q 0 0)]) ⟨hx, hb, hml, hown, hts⟩ (mL_holds l dC dI cI cZ cC cO Q u V a115 _ _ hR hf) (va_cwS 1 hts gL_law_L_holds rfl rfl rfl (by decide +kernel) ⟨Nat.le_of_ble_eq_true rfl, Nat.le_of_ble_eq_true rfl⟩) hK hN hP hD hS hA rfl hl.1 rfl (Nat.le_of_ble_eq_true rfl) dL_law_129 ⟨Nat.le_of_ble_eq_true rfl, Nat.le_of_ble_eq_true rfl⟩ (fun r129 w9 hk9 H locs d0 hd0 hP hD hS => ?_)
                obtain ⟨u, V⟩ := w9
                obtain ⟨hf, hR⟩ := hk9
                have hR : RepA V a115 := hR
                have hP : va_P (dC, dI) vwCl (WB cI cZ cC cO Q u V).flatten H := hP
                have hD : va_D A (WB cI cZ cC cO Q u V).flatten := hD
                have hts := dr_words hts0 d0
                have hK : va_K (dC, dI) vwCl (wTys cI cZ cC cO) (s.setDrawn d0) := hK0
                have hN : NN (s.setDrawn d0) := hN0
                have hX : va_X b L xs (s.setDrawn d0) s.heap := hX0
                refine lv_if_eq (tgt := 156) hx hb dL_law_132 (by decide) (fun hc => ?_) (fun hc => ?_)
                · have hf := pt hc hf
                  exact hJ16 hf _ _ _ _ ls _ hd0 hR hP hD hS (lv_sub hl [4, 5, 7, 8, 2, 1, 0] rfl)
                · have hf := pe hc hf
                  exact hJ17 hf _ _ _ _ ls _ hd0 hR hP hD hS (lv_sub hl [4, 5, 7, 8, 2, 1, 0] rfl)
    refine hL63 _ FU _ hf _ _ _ _ ls _ hd0 hR hP hD hS (lv_sub hl [3, 4, 2, 1, 0] rfl) ?_
    intro o63 hf V u H locs ls d0 hd0 hR hP hD hS hl
    have hts := dr_words hts0 d0
    have hK : va_K (dC, dI) vwCl (wTys cI cZ cC cO) (s.setDrawn d0) := hK0
    have hN : NN (s.setDrawn d0) := hN0
    have hX : va_X b L xs (s.setDrawn d0) s.heap := hX0
    have hf : (if o63.1 = 0 then K 0 else (gL_holds o63.2 fun r387 => (if r387 = 0 then K 0 else K 1))) := hf
    refine lv_iload_n hx hb dL_law_382 rfl (lv_at hl 1 rfl) ?_
    refine lv_if_eq (tgt := 397) hx hb dL_law_383 (by decide) (fun hc => ?_) (fun hc => ?_)
    · have hf := pt hc hf
      refine lv_iconst (v := 0) hx hb dL_law_397 (by decide) ?_
      have hv1 := hK1 _ hf
      exact absurd hv1 (by decide)
    · have hf := pe hc hf
      refine lv_aload_n hx hb dL_law_386 rfl (lv_at hl 0 rfl) ?_
      refine rsID hd0 (rest := []) (As := [.ref (Q 0 0)]) ⟨hx, hb, hml, hown, hts⟩ (mL_holds l dC dI cI cZ cC cO Q u V o63.2 _ _ hR hf) (va_cwS 1 hts gL_law_L_holds rfl rfl rfl (by decide +kernel) ⟨Nat.le_of_ble_eq_true rfl, Nat.le_of_ble_eq_true rfl⟩) hK hN hP hD hS hA rfl hl.1 rfl (Nat.le_of_ble_eq_true rfl) dL_law_387 ⟨Nat.le_of_ble_eq_true rfl, Nat.le_of_ble_eq_true rfl⟩ (fun r387 w9 hk9 H locs d0 hd0 hP hD hS => ?_)
      obtain ⟨u, V⟩ := w9
      obtain ⟨hf, hR⟩ := hk9
      have hR : RepA V o63.2 := hR
      have hP : va_P (dC, dI) vwCl (WB cI cZ cC cO Q u V).flatten H := hP
      have hD : va_D A (WB cI cZ cC cO Q u V).flatten := hD
      have hts := dr_words hts0 d0
      have hK : va_K (dC, dI) vwCl (wTys cI cZ cC cO) (s.setDrawn d0) := hK0
      have hN : NN (s.setDrawn d0) := hN0
      have hX : va_X b L xs (s.setDrawn d0) s.heap := hX0
      refine lv_if_eq (tgt := 397) hx hb dL_law_390 (by decide) (fun hc => ?_) (fun hc => ?_)
      · have hf := pt hc hf
        refine lv_iconst (v := 0) hx hb dL_law_397 (by decide) ?_
        have hv1 := hK1 _ hf
        exact absurd hv1 (by decide)
      · have hf := pe hc hf
        refine lv_iconst (v := 1) hx hb dL_law_393 (by decide) ?_
        refine lv_goto (tgt := 398) hx hb dL_law_394 (by decide) ?_
        have hv1 := hK1 _ hf
        subst hAe
        refine va_forget (fun q hq => hS.2.2 q hq) ?_
        refine W.widen (k := 600000) (n := 7302250) (Nat.le_of_ble_eq_true rfl) (Nat.le_of_ble_eq_true rfl) ?_
        exact lw_ret hd0 hx hb hr hlocks dL_law_398
  have hJ19 : ∀ (a_19 : AS), jL_law_19 L xs K a_19 → ∀ (V : GV) (u : QH) (H : Heap) (locs : List Loc) (ls : Array Slot) (d0 : Drawn), s.drawn.sameBut d0 lw_cs → RepA V a_19 → va_P (dC, dI) vwCl (WB cI cZ cC cO Q u V).flatten H → va_D A (WB cI cZ cC cO Q u V).flatten → va_S A s.heap H locs → lv_has ls 13 [(0, .ref b), (1, .ref (Q 0 0))] → W p l e room_1 (s.setDrawn d0) m #[Value.ref b] below meth c H locs 59 4683 (lw_Z below #[Value.ref b] s) (F0 m 53 ls []) := by
    intro a_19 hf V u H locs ls d0 hd0 hR hP hD hS hl
    have hts := dr_words hts0 d0
    have hK : va_K (dC, dI) vwCl (wTys cI cZ cC cO) (s.setDrawn d0) := hK0
    have hN : NN (s.setDrawn d0) := hN0
    have hX : va_X b L xs (s.setDrawn d0) s.heap := hX0
    unfold jL_law_19 at hf
    refine lv_iconst (v := 0) hx hb dL_law_53 (by decide) ?_
    exact hJ1 _ _ hf _ _ _ _ ls _ hd0 hR hP hD hS (lv_sub hl [0, 1] rfl)
  refine lv_if_eq (tgt := 53) hx hb dL_law_12 (by decide) (fun hc => ?_) (fun hc => ?_)
  · have hf := pt hc hf
    exact hJ19 _ hf _ _ _ _ ls _ hd0 hR hP hD hS (lv_sub hl [1, 0] rfl)
  · have hf := pe hc hf
    refine lv_aload_n hx hb dL_law_15 rfl (lv_at hl 0 rfl) ?_
    refine lv_iconst (v := 0) hx hb dL_law_16 (by decide) ?_
    refine rsI (rest := []) (As := [.ref (Q 0 0), .int 0]) ⟨hx, hb, hml, hown, hts⟩ (mL_would l dC dI cI cZ cC cO Q u V 0 a _ _ hR hf) (va_cwS 2 hts gL_law_L_would rfl rfl rfl (by decide +kernel) ⟨Nat.le_of_ble_eq_true rfl, Nat.le_of_ble_eq_true rfl⟩) hK hN hP hD hS hA rfl hl.1 rfl (Nat.le_of_ble_eq_true rfl) dL_law_17 ⟨Nat.le_of_ble_eq_true rfl, Nat.le_of_ble_eq_true rfl⟩ (fun r17 w9 hk9 H locs hP hD hS => ?_)
    obtain ⟨u, V⟩ := w9
    obtain ⟨hf, hR⟩ := hk9
    have hR : RepA V a := hR
    have hP : va_P (dC, dI) vwCl (WB cI cZ cC cO Q u V).flatten H := hP
    have hD : va_D A (WB cI cZ cC cO Q u V).flatten := hD
    refine lv_if_eq (tgt := 53) hx hb dL_law_20 (by decide) (fun hc => ?_) (fun hc => ?_)
    · have hf := pt hc hf
      exact hJ19 _ hf _ _ _ _ ls _ hd0 hR hP hD hS (lv_sub hl [1, 0] rfl)
    · have hf := pe hc hf
      refine lv_aload_n hx hb dL_law_23 rfl (lv_at hl 0 rfl) ?_
      obtain ⟨o24, ho24, hf⟩ := bdE hf
      refine rb_undo (ho := ho24) (rest := []) ⟨hx, hb, hml, hown, hts⟩ (cwV 0 hts gL_law_X7_undo rfl rfl rfl (by decide +kernel) ⟨Nat.le_of_ble_eq_true rfl, Nat.le_of_ble_eq_true rfl⟩) hK hN hP hD hS hA hR hl.1 rfl (Nat.le_of_ble_eq_true rfl) dL_law_24 ⟨Nat.le_of_ble_eq_true rfl, Nat.le_of_ble_eq_true rfl⟩ (fun V u H locs hR hP hD hS => ?_)
      refine lv_bipush (v := (-2)) hx hb dL_law_27 (by decide) ?_
      refine lv_icmp_ne (tgt := 53) hx hb dL_law_29 (by decide) (fun hc => ?_) (fun hc => ?_)
      · have hf := pe hc hf
        exact hJ19 _ hf _ _ _ _ ls _ hd0 hR hP hD hS (lv_sub hl [1, 0] rfl)
      · have hf := pt hc hf
        refine lv_aload_n hx hb dL_law_32 rfl (lv_at hl 0 rfl) ?_
        obtain ⟨o33, ho33, hf⟩ := bdE hf
        refine rb_restore (ho := ho33) (rest := []) ⟨hx, hb, hml, hown, hts⟩ (cwV 0 hts gL_law_X7_restore rfl rfl rfl (by decide +kernel) ⟨Nat.le_of_ble_eq_true rfl, Nat.le_of_ble_eq_true rfl⟩) hK hN hP hD hS hA hR hl.1 rfl (Nat.le_of_ble_eq_true rfl) dL_law_33 ⟨Nat.le_of_ble_eq_true rfl, Nat.le_of_ble_eq_true rfl⟩ (fun V u H locs hR hP hD hS => ?_)
        refine lv_bipush (v := (-2)) hx hb dL_law_36 (by decide) ?_
        refine lv_icmp_ne (tgt := 53) hx hb dL_law_38 (by decide) (fun hc => ?_) (fun hc => ?_)
        · have hf := pe hc hf
          exact hJ19 _ hf _ _ _ _ ls _ hd0 hR hP hD hS (lv_sub hl [1, 0] rfl)
        · have hf := pt hc hf
          refine lv_aload_n hx hb dL_law_41 rfl (lv_at hl 0 rfl) ?_
          obtain ⟨o42, ho42, hf⟩ := bdE hf
          refine rb_save (ho := ho42) (rest := []) ⟨hx, hb, hml, hown, hts⟩ (cwV 0 hts gL_law_X7_save rfl rfl rfl (by decide +kernel) ⟨Nat.le_of_ble_eq_true rfl, Nat.le_of_ble_eq_true rfl⟩) hK hN hP hD hS hA hR hl.1 rfl (Nat.le_of_ble_eq_true rfl) dL_law_42 ⟨Nat.le_of_ble_eq_true rfl, Nat.le_of_ble_eq_true rfl⟩ (fun V u H locs hR hP hD hS => ?_)
          refine lv_iconst (v := 1) hx hb dL_law_45 (by decide) ?_
          refine lv_icmp_ne (tgt := 53) hx hb dL_law_46 (by decide) (fun hc => ?_) (fun hc => ?_)
          · have hf := pe hc hf
            exact hJ19 _ hf _ _ _ _ ls _ hd0 hR hP hD hS (lv_sub hl [1, 0] rfl)
          · have hf := pt hc hf
            refine lv_iconst (v := 1) hx hb dL_law_49 (by decide) ?_
            refine lv_goto (tgt := 54) hx hb dL_law_50 (by decide) ?_
            exact hJ1 _ _ hf _ _ _ _ ls _ hd0 hR hP hD hS (lv_sub hl [1, 0] rfl)
