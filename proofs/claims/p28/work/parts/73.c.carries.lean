set_option maxHeartbeats 20000000 in
set_option maxRecDepth 100000 in
theorem mL_carries (l : Launch) (dC : Nat → ClassId) (dI : Nat → Nat → Nat) (cI cZ cC cO : ClassId) (Q : Nat → Nat → Nat) (u : QH) (V : GV) (i1 : Int32) (a : AS) (K : Int32 → AS → Prop) (sz : Nat) (hR : RepA V a) (hf : gL_carries i1 a K) : Met l yL_carries wsL_carries rmL_carries (va_Pc [.ref (Q 0 0), .int i1] (pcW (dC, dI) (wTys cI cZ cC cO) sz (WB cI cZ cC cO Q u V).flatten)) (va_Qi (fun r (w : QH × GV × AS) => K r w.2.2 ∧ RepA w.2.1 w.2.2) (fun w => poW (dC, dI) (va_A (WB cI cZ cC cO Q u V).flatten sz) (WB cI cZ cC cO Q w.1 w.2.1).flatten) (va_A (WB cI cZ cC cO Q u V).flatten sz)) 0 0 (va_A (WB cI cZ cC cO Q u V).flatten sz) := by
  refine Met.ofW (cc := cL_carries) (maxL := 14) (ret := (some .boolean)) (by decide) rfl ?_
  intro p e s m args below meth c s₁ B hml hv
  obtain ⟨hargs, hsz, hP, hK, hN, hD0⟩ := hv
  have hx := B.exec
  have hb := B.bytes
  have hr := B.returns
  have hts := atoms_spec (ws := wsL_carries) B.pre
  have hown : s.vm.findClass RL = some m.cls := findClass_of_methodNamed B.named
  have hlocks := B.notSynchronized
  subst hsz
  have hD := hD0.self (sz := s.heap.size)
  generalize hAe : va_A (WB cI cZ cC cO Q u V).flatten s.heap.size = A at hD ⊢
  have hA : ∀ q : Nat, s.heap.size ≤ q → A q := fun q h => by rw [← hAe]; exact Or.inr h
  have hS : va_S A s.heap s.heap [] := va_S.rf
  have hE := lg_entry_eq m [.ref (Q 0 0), .int i1] 14
  rw [← hargs] at hE
  rw [hE]
  have hl := lv_entry [.ref (Q 0 0), .int i1] (n := 14) (Nat.le_of_ble_eq_true rfl)
  generalize (lg_sl [.ref (Q 0 0), .int i1] ++ List.replicate (14 - (lg_sl [.ref (Q 0 0), .int i1]).length) Slot.unset).toArray = ls at hl ⊢
  have hl : lv_has ls 14 [(0, .ref (Q 0 0)), (1, .int i1)] := hl
  have hP : va_P (dC, dI) vwCl (WB cI cZ cC cO Q u V).flatten s.heap := hP
  unfold gL_carries at hf
  refine lv_aload_n hx hb dL_carries_0 rfl (lv_at hl 0 rfl) ?_
  refine rsL (rest := []) (As := [.ref (Q 0 0)]) ⟨hx, hb, hml, hown, hts⟩ (mL_look l dC dI cI cZ cC cO Q u V a _ _ hR hf) (va_cwS 1 hts gL_carries_L_look rfl rfl rfl (by decide +kernel) ⟨Nat.le_of_ble_eq_true rfl, Nat.le_of_ble_eq_true rfl⟩) hK hN hP hD hS hA rfl hl.1 rfl (Nat.le_of_ble_eq_true rfl) dL_carries_1 ⟨Nat.le_of_ble_eq_true rfl, Nat.le_of_ble_eq_true rfl⟩ (fun r1 w9 hk9 H locs hP hD hS => ?_)
  obtain ⟨u, V⟩ := w9
  obtain ⟨hf, hR⟩ := hk9
  have hR : RepA V a := hR
  have hP : va_P (dC, dI) vwCl (WB cI cZ cC cO Q u V).flatten H := hP
  have hD : va_D A (WB cI cZ cC cO Q u V).flatten := hD
  refine lv_lstore_n (lv' := [(2, .long r1), (0, .ref (Q 0 0)), (1, .int i1)]) hx hb dL_carries_4 rfl hl (by decide) rfl (fun ls hl => ?_)
  refine lv_iload_n hx hb dL_carries_5 rfl (lv_at hl 2 rfl) ?_
  refine lv_bipush (v := 9) hx hb dL_carries_6 (by decide) ?_
  refine rS (w := []) (W0 := (WB cI cZ cC cO Q u V).flatten) (rest := []) (As := [.int i1, .int 9]) ⟨hx, hb, hml, hown, hts⟩ (mL_low l dC dI cI cZ cC cO i1 9 (by decide)) (va_cwS 2 hts gL_carries_L_low rfl rfl rfl (by decide +kernel) ⟨Nat.le_of_ble_eq_true rfl, Nat.le_of_ble_eq_true rfl⟩) hK hN hP [] rfl rfl hl.1 rfl (Nat.le_of_ble_eq_true rfl) dL_carries_8 ⟨Nat.le_of_ble_eq_true rfl, Nat.le_of_ble_eq_true rfl⟩ ?_
  refine lv_istore (lv' := [(4, .int (lwA28 i1 9)), (2, .long r1), (0, .ref (Q 0 0)), (1, .int i1)]) hx hb dL_carries_11 hl (by decide) rfl (fun ls hl => ?_)
  refine lv_aload_n hx hb dL_carries_13 rfl (lv_at hl 2 rfl) ?_
  refine lv_bipush (v := 19) hx hb dL_carries_14 (by decide) ?_
  refine rb_count (x0 := 19) (rest := []) ⟨hx, hb, hml, hown, hts⟩ (cwV 1 hts gL_carries_X7_count rfl rfl rfl (by decide +kernel) ⟨Nat.le_of_ble_eq_true rfl, Nat.le_of_ble_eq_true rfl⟩) hK hN hP hD hS hA hR hl.1 rfl (Nat.le_of_ble_eq_true rfl) dL_carries_16 ⟨Nat.le_of_ble_eq_true rfl, Nat.le_of_ble_eq_true rfl⟩ (fun V u H locs hR hP hD hS => ?_)
  refine lv_istore (lv' := [(5, .int (cotA a 19)), (4, .int (lwA28 i1 9)), (2, .long r1), (0, .ref (Q 0 0)), (1, .int i1)]) hx hb dL_carries_19 hl (by decide) rfl (fun ls hl => ?_)
  refine lv_aload_n hx hb dL_carries_21 rfl (lv_at hl 3 rfl) ?_
  refine lv_iconst (v := 0) hx hb dL_carries_22 (by decide) ?_
  refine rb_why (x0 := 0) (rest := []) ⟨hx, hb, hml, hown, hts⟩ (cwV 1 hts gL_carries_X7_why rfl rfl rfl (by decide +kernel) ⟨Nat.le_of_ble_eq_true rfl, Nat.le_of_ble_eq_true rfl⟩) hK hN hP hD hS hA hR hl.1 rfl (Nat.le_of_ble_eq_true rfl) dL_carries_23 ⟨Nat.le_of_ble_eq_true rfl, Nat.le_of_ble_eq_true rfl⟩ (fun V u H locs hR hP hD hS => ?_)
  refine lv_istore (lv' := [(6, .int (whyA a.2.2.2.2 0)), (5, .int (cotA a 19)), (4, .int (lwA28 i1 9)), (2, .long r1), (0, .ref (Q 0 0)), (1, .int i1)]) hx hb dL_carries_26 hl (by decide) rfl (fun ls hl => ?_)
  refine lv_aload_n hx hb dL_carries_28 rfl (lv_at hl 4 rfl) ?_
  refine lv_iconst (v := 2) hx hb dL_carries_29 (by decide) ?_
  refine rb_why (x0 := 2) (rest := []) ⟨hx, hb, hml, hown, hts⟩ (cwV 1 hts gL_carries_X7_why rfl rfl rfl (by decide +kernel) ⟨Nat.le_of_ble_eq_true rfl, Nat.le_of_ble_eq_true rfl⟩) hK hN hP hD hS hA hR hl.1 rfl (Nat.le_of_ble_eq_true rfl) dL_carries_30 ⟨Nat.le_of_ble_eq_true rfl, Nat.le_of_ble_eq_true rfl⟩ (fun V u H locs hR hP hD hS => ?_)
  refine lv_istore (lv' := [(7, .int (whyA a.2.2.2.2 2)), (6, .int (whyA a.2.2.2.2 0)), (5, .int (cotA a 19)), (4, .int (lwA28 i1 9)), (2, .long r1), (0, .ref (Q 0 0)), (1, .int i1)]) hx hb dL_carries_33 hl (by decide) rfl (fun ls hl => ?_)
  refine lv_aload_n hx hb dL_carries_35 rfl (lv_at hl 5 rfl) ?_
  refine lv_iload_n hx hb dL_carries_36 rfl (lv_at hl 6 rfl) ?_
  refine rsI (rest := []) (As := [.ref (Q 0 0), .int i1]) ⟨hx, hb, hml, hown, hts⟩ (mL_types l dC dI cI cZ cC cO Q u V i1 a _ _ hR hf) (va_cwS 2 hts gL_carries_L_types rfl rfl rfl (by decide +kernel) ⟨Nat.le_of_ble_eq_true rfl, Nat.le_of_ble_eq_true rfl⟩) hK hN hP hD hS hA rfl hl.1 rfl (Nat.le_of_ble_eq_true rfl) dL_carries_37 ⟨Nat.le_of_ble_eq_true rfl, Nat.le_of_ble_eq_true rfl⟩ (fun r37 w9 hk9 H locs hP hD hS => ?_)
  obtain ⟨u, V, a37⟩ := w9
  obtain ⟨hf, hR⟩ := hk9
  have hR : RepA V a37 := hR
  have hP : va_P (dC, dI) vwCl (WB cI cZ cC cO Q u V).flatten H := hP
  have hD : va_D A (WB cI cZ cC cO Q u V).flatten := hD
  refine lv_istore (lv' := [(8, .int r37), (7, .int (whyA a.2.2.2.2 2)), (6, .int (whyA a.2.2.2.2 0)), (5, .int (cotA a 19)), (4, .int (lwA28 i1 9)), (2, .long r1), (0, .ref (Q 0 0)), (1, .int i1)]) hx hb dL_carries_40 hl (by decide) rfl (fun ls hl => ?_)
  refine lv_aload_n hx hb dL_carries_42 rfl (lv_at hl 6 rfl) ?_
  refine lv_bipush (v := 18) hx hb dL_carries_43 (by decide) ?_
  refine rb_count (x0 := 18) (rest := []) ⟨hx, hb, hml, hown, hts⟩ (cwV 1 hts gL_carries_X7_count rfl rfl rfl (by decide +kernel) ⟨Nat.le_of_ble_eq_true rfl, Nat.le_of_ble_eq_true rfl⟩) hK hN hP hD hS hA hR hl.1 rfl (Nat.le_of_ble_eq_true rfl) dL_carries_45 ⟨Nat.le_of_ble_eq_true rfl, Nat.le_of_ble_eq_true rfl⟩ (fun V u H locs hR hP hD hS => ?_)
  refine lv_istore (lv' := [(9, .int (cotA a37 18)), (8, .int r37), (7, .int (whyA a.2.2.2.2 2)), (6, .int (whyA a.2.2.2.2 0)), (5, .int (cotA a 19)), (4, .int (lwA28 i1 9)), (2, .long r1), (0, .ref (Q 0 0)), (1, .int i1)]) hx hb dL_carries_48 hl (by decide) rfl (fun ls hl => ?_)
  refine lv_aload_n hx hb dL_carries_50 rfl (lv_at hl 7 rfl) ?_
  refine rb_fault (rest := []) ⟨hx, hb, hml, hown, hts⟩ (cwV 0 hts gL_carries_X7_fault rfl rfl rfl (by decide +kernel) ⟨Nat.le_of_ble_eq_true rfl, Nat.le_of_ble_eq_true rfl⟩) hK hN hP hD hS hA hR hl.1 rfl (Nat.le_of_ble_eq_true rfl) dL_carries_51 ⟨Nat.le_of_ble_eq_true rfl, Nat.le_of_ble_eq_true rfl⟩ (fun V u H locs hR hP hD hS => ?_)
  refine lv_istore (lv' := [(10, .int (oI (fwT a37.2.2.2.1.2 a37.2.2.2.1.1))), (9, .int (cotA a37 18)), (8, .int r37), (7, .int (whyA a.2.2.2.2 2)), (6, .int (whyA a.2.2.2.2 0)), (5, .int (cotA a 19)), (4, .int (lwA28 i1 9)), (2, .long r1), (0, .ref (Q 0 0)), (1, .int i1)]) hx hb dL_carries_54 hl (by decide) rfl (fun ls hl => ?_)
  refine lv_aload_n hx hb dL_carries_56 rfl (lv_at hl 8 rfl) ?_
  refine rb_carryOut (rest := []) ⟨hx, hb, hml, hown, hts⟩ (cwV 0 hts gL_carries_X7_carryOut rfl rfl rfl (by decide +kernel) ⟨Nat.le_of_ble_eq_true rfl, Nat.le_of_ble_eq_true rfl⟩) hK hN hP hD hS hA hR hl.1 rfl (Nat.le_of_ble_eq_true rfl) dL_carries_57 ⟨Nat.le_of_ble_eq_true rfl, Nat.le_of_ble_eq_true rfl⟩ (fun r57 a57 hc9 V u H locs hR hP hD hS => ?_)
  have hf := hf r57 a57 hc9 ⟨V, hR⟩
  refine lv_istore (lv' := [(11, .int r57), (10, .int (oI (fwT a37.2.2.2.1.2 a37.2.2.2.1.1))), (9, .int (cotA a37 18)), (8, .int r37), (7, .int (whyA a.2.2.2.2 2)), (6, .int (whyA a.2.2.2.2 0)), (5, .int (cotA a 19)), (4, .int (lwA28 i1 9)), (2, .long r1), (0, .ref (Q 0 0)), (1, .int i1)]) hx hb dL_carries_60 hl (by decide) rfl (fun ls hl => ?_)
  refine lv_aload_n hx hb dL_carries_62 rfl (lv_at hl 9 rfl) ?_
  obtain ⟨o63, ho63, hf⟩ := bdE hf
  refine rb_clear (ho := ho63) (rest := []) ⟨hx, hb, hml, hown, hts⟩ (cwV 0 hts gL_carries_X7_clear rfl rfl rfl (by decide +kernel) ⟨Nat.le_of_ble_eq_true rfl, Nat.le_of_ble_eq_true rfl⟩) hK hN hP hD hS hA hR hl.1 rfl (Nat.le_of_ble_eq_true rfl) dL_carries_63 ⟨Nat.le_of_ble_eq_true rfl, Nat.le_of_ble_eq_true rfl⟩ (fun V u H locs hR hP hD hS => ?_)
  refine lv_istore (lv' := [(12, .int o63.1), (11, .int r57), (10, .int (oI (fwT a37.2.2.2.1.2 a37.2.2.2.1.1))), (9, .int (cotA a37 18)), (8, .int r37), (7, .int (whyA a.2.2.2.2 2)), (6, .int (whyA a.2.2.2.2 0)), (5, .int (cotA a 19)), (4, .int (lwA28 i1 9)), (2, .long r1), (0, .ref (Q 0 0)), (1, .int i1)]) hx hb dL_carries_66 hl (by decide) rfl (fun ls hl => ?_)
  refine lv_iload hx hb dL_carries_68 (lv_at hl 4 rfl) ?_
  have hJ1 : ∀ (y0_1 : Int32), jL_carries_1 i1 a K r1 a37 r57 o63 y0_1 → ∀ (V : GV) (u : QH) (H : Heap) (locs : List Loc) (ls : Array Slot), RepA V o63.2 → va_P (dC, dI) vwCl (WB cI cZ cC cO Q u V).flatten H → va_D A (WB cI cZ cC cO Q u V).flatten → va_S A s.heap H locs → lv_has ls 14 [(0, .ref (Q 0 0)), (2, .long r1), (4, .int (lwA28 i1 9)), (5, .int (cotA a 19)), (6, .int (whyA a.2.2.2.2 0)), (7, .int (whyA a.2.2.2.2 2)), (9, .int (cotA a37 18)), (10, .int (oI (fwT a37.2.2.2.1.2 a37.2.2.2.1.1))), (11, .int r57), (12, .int o63.1)] → W p l e (headSpec wsL_carries rmL_carries).room s m args below meth c H locs 0 0 (MQ below (va_Qi (fun r (w : QH × GV × AS) => K r w.2.2 ∧ RepA w.2.1 w.2.2) (fun w => poW (dC, dI) A (WB cI cZ cC cO Q w.1 w.2.1).flatten) A) args s 0 0 A) (F0 m 105 ls [.int y0_1]) := by
    intro y0_1 hf V u H locs ls hR hP hD hS hl
    unfold jL_carries_1 at hf
    refine lv_istore (lv' := [(13, .int y0_1), (0, .ref (Q 0 0)), (2, .long r1), (4, .int (lwA28 i1 9)), (5, .int (cotA a 19)), (6, .int (whyA a.2.2.2.2 0)), (7, .int (whyA a.2.2.2.2 2)), (9, .int (cotA a37 18)), (10, .int (oI (fwT a37.2.2.2.1.2 a37.2.2.2.1.1))), (11, .int r57), (12, .int o63.1)]) hx hb dL_carries_105 hl (by decide) rfl (fun ls hl => ?_)
    refine lv_iload hx hb dL_carries_107 (lv_at hl 8 rfl) ?_
    refine lv_bipush (v := (-4)) hx hb dL_carries_109 (by decide) ?_
    refine lv_icmp_eq (tgt := 184) hx hb dL_carries_111 (by decide) (fun hc => ?_) (fun hc => ?_)
    · have hf := pt hc hf
      refine lv_iload hx hb dL_carries_184 (lv_at hl 0 rfl) ?_
      refine lv_if_eq (tgt := 324) hx hb dL_carries_186 (by decide) (fun hc => ?_) (fun hc => ?_)
      · have hf := pt hc hf
        refine lv_iconst (v := 0) hx hb dL_carries_324 (by decide) ?_
        exact W.zret (v := 0) (ty := .boolean) hx hb hr rfl (fun t ht hW => ⟨⟨_, (u, V, o63.2), rfl, ⟨hf, hR⟩, by rw [ht]; exact hP, hD⟩, hS.F ht⟩) hS.2.2 dL_carries_325
      · have hf := pe hc hf
        refine lv_iload hx hb dL_carries_189 (lv_at hl 9 rfl) ?_
        refine lv_if_lt (tgt := 324) hx hb dL_carries_191 (by decide) (fun hc => ?_) (fun hc => ?_)
        · have hf := pt hc hf
          refine lv_iconst (v := 0) hx hb dL_carries_324 (by decide) ?_
          exact W.zret (v := 0) (ty := .boolean) hx hb hr rfl (fun t ht hW => ⟨⟨_, (u, V, o63.2), rfl, ⟨hf, hR⟩, by rw [ht]; exact hP, hD⟩, hS.F ht⟩) hS.2.2 dL_carries_325
        · have hf := pe hc hf
          refine lv_iload hx hb dL_carries_194 (lv_at hl 9 rfl) ?_
          refine lv_iload hx hb dL_carries_196 (lv_at hl 3 rfl) ?_
          refine lv_icmp_gt (tgt := 324) hx hb dL_carries_198 (by decide) (fun hc => ?_) (fun hc => ?_)
          · have hf := pt hc hf
            refine lv_iconst (v := 0) hx hb dL_carries_324 (by decide) ?_
            exact W.zret (v := 0) (ty := .boolean) hx hb hr rfl (fun t ht hW => ⟨⟨_, (u, V, o63.2), rfl, ⟨hf, hR⟩, by rw [ht]; exact hP, hD⟩, hS.F ht⟩) hS.2.2 dL_carries_325
          · have hf := pe hc hf
            refine lv_iload hx hb dL_carries_201 (lv_at hl 10 rfl) ?_
            refine lv_if_ne (tgt := 324) hx hb dL_carries_203 (by decide) (fun hc => ?_) (fun hc => ?_)
            · have hf := pe hc hf
              refine lv_iconst (v := 0) hx hb dL_carries_324 (by decide) ?_
              exact W.zret (v := 0) (ty := .boolean) hx hb hr rfl (fun t ht hW => ⟨⟨_, (u, V, o63.2), rfl, ⟨hf, hR⟩, by rw [ht]; exact hP, hD⟩, hS.F ht⟩) hS.2.2 dL_carries_325
            · have hf := pt hc hf
              refine lv_aload_n hx hb dL_carries_206 rfl (lv_at hl 1 rfl) ?_
              refine lv_bipush (v := 19) hx hb dL_carries_207 (by decide) ?_
              refine rb_count (x0 := 19) (rest := []) ⟨hx, hb, hml, hown, hts⟩ (cwV 1 hts gL_carries_X7_count rfl rfl rfl (by decide +kernel) ⟨Nat.le_of_ble_eq_true rfl, Nat.le_of_ble_eq_true rfl⟩) hK hN hP hD hS hA hR hl.1 rfl (Nat.le_of_ble_eq_true rfl) dL_carries_209 ⟨Nat.le_of_ble_eq_true rfl, Nat.le_of_ble_eq_true rfl⟩ (fun V u H locs hR hP hD hS => ?_)
              refine lv_iload hx hb dL_carries_212 (lv_at hl 4 rfl) ?_
              refine lv_iconst (v := 4) hx hb dL_carries_214 (by decide) ?_
              have hJ2 : ∀ (y0_2 : Int32), jL_carries_2 i1 K a37 r57 o63 y0_2 → ∀ (V : GV) (u : QH) (H : Heap) (locs : List Loc) (ls : Array Slot), RepA V o63.2 → va_P (dC, dI) vwCl (WB cI cZ cC cO Q u V).flatten H → va_D A (WB cI cZ cC cO Q u V).flatten → va_S A s.heap H locs → lv_has ls 14 [(0, .ref (Q 0 0)), (4, .int (lwA28 i1 9)), (9, .int (cotA a37 18)), (11, .int r57)] → W p l e (headSpec wsL_carries rmL_carries).room s m args below meth c H locs 0 0 (MQ below (va_Qi (fun r (w : QH × GV × AS) => K r w.2.2 ∧ RepA w.2.1 w.2.2) (fun w => poW (dC, dI) A (WB cI cZ cC cO Q w.1 w.2.1).flatten) A) args s 0 0 A) (F0 m 226 ls [.int y0_2, .int (cotA o63.2 19)]) := by
                intro y0_2 hf V u H locs ls hR hP hD hS hl
                unfold jL_carries_2 at hf
                refine lv_icmp_ne (tgt := 324) hx hb dL_carries_226 (by decide) (fun hc => ?_) (fun hc => ?_)
                · have hf := pe hc hf
                  refine lv_iconst (v := 0) hx hb dL_carries_324 (by decide) ?_
                  exact W.zret (v := 0) (ty := .boolean) hx hb hr rfl (fun t ht hW => ⟨⟨_, (u, V, o63.2), rfl, ⟨hf, hR⟩, by rw [ht]; exact hP, hD⟩, hS.F ht⟩) hS.2.2 dL_carries_325
                · have hf := pt hc hf
                  refine lv_iload hx hb dL_carries_229 (lv_at hl 3 rfl) ?_
                  refine lv_iload hx hb dL_carries_231 (lv_at hl 1 rfl) ?_
                  have hJ3 : jL_carries_3 K o63 → ∀ (V : GV) (u : QH) (H : Heap) (locs : List Loc) (ls : Array Slot), RepA V o63.2 → va_P (dC, dI) vwCl (WB cI cZ cC cO Q u V).flatten H → va_D A (WB cI cZ cC cO Q u V).flatten → va_S A s.heap H locs → lv_has ls 14 [] → W p l e (headSpec wsL_carries rmL_carries).room s m args below meth c H locs 0 0 (MQ below (va_Qi (fun r (w : QH × GV × AS) => K r w.2.2 ∧ RepA w.2.1 w.2.2) (fun w => poW (dC, dI) A (WB cI cZ cC cO Q w.1 w.2.1).flatten) A) args s 0 0 A) (F0 m 320 ls []) := by
                    intro hf V u H locs ls hR hP hD hS hl
                    unfold jL_carries_3 at hf
                    refine lv_iconst (v := 1) hx hb dL_carries_320 (by decide) ?_
                    refine lv_goto (tgt := 325) hx hb dL_carries_321 (by decide) ?_
                    exact W.zret (v := 1) (ty := .boolean) hx hb hr rfl (fun t ht hW => ⟨⟨_, (u, V, o63.2), rfl, ⟨hf, hR⟩, by rw [ht]; exact hP, hD⟩, hS.F ht⟩) hS.2.2 dL_carries_325
                  refine lv_icmp_ne (tgt := 269) hx hb dL_carries_233 (by decide) (fun hc => ?_) (fun hc => ?_)
                  · have hf := pe hc hf
                    refine lv_aload_n hx hb dL_carries_269 rfl (lv_at hl 0 rfl) ?_
                    refine lv_iconst (v := 0) hx hb dL_carries_270 (by decide) ?_
                    refine rb_why (x0 := 0) (rest := []) ⟨hx, hb, hml, hown, hts⟩ (cwV 1 hts gL_carries_X7_why rfl rfl rfl (by decide +kernel) ⟨Nat.le_of_ble_eq_true rfl, Nat.le_of_ble_eq_true rfl⟩) hK hN hP hD hS hA hR hl.1 rfl (Nat.le_of_ble_eq_true rfl) dL_carries_271 ⟨Nat.le_of_ble_eq_true rfl, Nat.le_of_ble_eq_true rfl⟩ (fun V u H locs hR hP hD hS => ?_)
                    refine lv_iconst (v := (-1)) hx hb dL_carries_274 (by decide) ?_
                    have hJ4 : jL_carries_4 K a37 r57 o63 → ∀ (V : GV) (u : QH) (H : Heap) (locs : List Loc) (ls : Array Slot), RepA V o63.2 → va_P (dC, dI) vwCl (WB cI cZ cC cO Q u V).flatten H → va_D A (WB cI cZ cC cO Q u V).flatten → va_S A s.heap H locs → lv_has ls 14 [(0, .ref (Q 0 0)), (9, .int (cotA a37 18)), (11, .int r57)] → W p l e (headSpec wsL_carries rmL_carries).room s m args below meth c H locs 0 0 (MQ below (va_Qi (fun r (w : QH × GV × AS) => K r w.2.2 ∧ RepA w.2.1 w.2.2) (fun w => poW (dC, dI) A (WB cI cZ cC cO Q w.1 w.2.1).flatten) A) args s 0 0 A) (F0 m 288 ls []) := by
                      intro hf V u H locs ls hR hP hD hS hl
                      unfold jL_carries_4 at hf
                      refine lv_aload_n hx hb dL_carries_288 rfl (lv_at hl 0 rfl) ?_
                      refine lv_iconst (v := 1) hx hb dL_carries_289 (by decide) ?_
                      refine rb_why (x0 := 1) (rest := []) ⟨hx, hb, hml, hown, hts⟩ (cwV 1 hts gL_carries_X7_why rfl rfl rfl (by decide +kernel) ⟨Nat.le_of_ble_eq_true rfl, Nat.le_of_ble_eq_true rfl⟩) hK hN hP hD hS hA hR hl.1 rfl (Nat.le_of_ble_eq_true rfl) dL_carries_290 ⟨Nat.le_of_ble_eq_true rfl, Nat.le_of_ble_eq_true rfl⟩ (fun V u H locs hR hP hD hS => ?_)
                      refine lv_iload hx hb dL_carries_293 (lv_at hl 2 rfl) ?_
                      refine lv_icmp_ne (tgt := 324) hx hb dL_carries_295 (by decide) (fun hc => ?_) (fun hc => ?_)
                      · have hf := pe hc hf
                        refine lv_iconst (v := 0) hx hb dL_carries_324 (by decide) ?_
                        exact W.zret (v := 0) (ty := .boolean) hx hb hr rfl (fun t ht hW => ⟨⟨_, (u, V, o63.2), rfl, ⟨hf, hR⟩, by rw [ht]; exact hP, hD⟩, hS.F ht⟩) hS.2.2 dL_carries_325
                      · have hf := pt hc hf
                        refine lv_aload_n hx hb dL_carries_298 rfl (lv_at hl 0 rfl) ?_
                        refine lv_iconst (v := 2) hx hb dL_carries_299 (by decide) ?_
                        refine rb_why (x0 := 2) (rest := []) ⟨hx, hb, hml, hown, hts⟩ (cwV 1 hts gL_carries_X7_why rfl rfl rfl (by decide +kernel) ⟨Nat.le_of_ble_eq_true rfl, Nat.le_of_ble_eq_true rfl⟩) hK hN hP hD hS hA hR hl.1 rfl (Nat.le_of_ble_eq_true rfl) dL_carries_300 ⟨Nat.le_of_ble_eq_true rfl, Nat.le_of_ble_eq_true rfl⟩ (fun V u H locs hR hP hD hS => ?_)
                        refine lv_iconst (v := 2) hx hb dL_carries_303 (by decide) ?_
                        refine lv_iload hx hb dL_carries_304 (lv_at hl 2 rfl) ?_
                        refine lv_imul hx hb dL_carries_306 ?_
                        refine lv_icmp_lt (tgt := 324) hx hb dL_carries_307 (by decide) (fun hc => ?_) (fun hc => ?_)
                        · have hf := pt hc hf
                          refine lv_iconst (v := 0) hx hb dL_carries_324 (by decide) ?_
                          exact W.zret (v := 0) (ty := .boolean) hx hb hr rfl (fun t ht hW => ⟨⟨_, (u, V, o63.2), rfl, ⟨hf, hR⟩, by rw [ht]; exact hP, hD⟩, hS.F ht⟩) hS.2.2 dL_carries_325
                        · have hf := pe hc hf
                          refine lv_aload_n hx hb dL_carries_310 rfl (lv_at hl 0 rfl) ?_
                          refine lv_iconst (v := 2) hx hb dL_carries_311 (by decide) ?_
                          refine rb_why (x0 := 2) (rest := []) ⟨hx, hb, hml, hown, hts⟩ (cwV 1 hts gL_carries_X7_why rfl rfl rfl (by decide +kernel) ⟨Nat.le_of_ble_eq_true rfl, Nat.le_of_ble_eq_true rfl⟩) hK hN hP hD hS hA hR hl.1 rfl (Nat.le_of_ble_eq_true rfl) dL_carries_312 ⟨Nat.le_of_ble_eq_true rfl, Nat.le_of_ble_eq_true rfl⟩ (fun V u H locs hR hP hD hS => ?_)
                          refine lv_iload hx hb dL_carries_315 (lv_at hl 1 rfl) ?_
                          refine lv_icmp_ge (tgt := 324) hx hb dL_carries_317 (by decide) (fun hc => ?_) (fun hc => ?_)
                          · have hf := pt hc hf
                            refine lv_iconst (v := 0) hx hb dL_carries_324 (by decide) ?_
                            exact W.zret (v := 0) (ty := .boolean) hx hb hr rfl (fun t ht hW => ⟨⟨_, (u, V, o63.2), rfl, ⟨hf, hR⟩, by rw [ht]; exact hP, hD⟩, hS.F ht⟩) hS.2.2 dL_carries_325
                          · have hf := pe hc hf
                            exact hJ3 hf _ _ _ _ ls hR hP hD hS (lv_sub hl [] rfl)
                    refine lv_icmp_eq (tgt := 288) hx hb dL_carries_275 (by decide) (fun hc => ?_) (fun hc => ?_)
                    · have hf := pt hc hf
                      exact hJ4 hf _ _ _ _ ls hR hP hD hS (lv_sub hl [0, 2, 3] rfl)
                    · have hf := pe hc hf
                      refine lv_aload_n hx hb dL_carries_278 rfl (lv_at hl 0 rfl) ?_
                      refine lv_iconst (v := 0) hx hb dL_carries_279 (by decide) ?_
                      refine rb_why (x0 := 0) (rest := []) ⟨hx, hb, hml, hown, hts⟩ (cwV 1 hts gL_carries_X7_why rfl rfl rfl (by decide +kernel) ⟨Nat.le_of_ble_eq_true rfl, Nat.le_of_ble_eq_true rfl⟩) hK hN hP hD hS hA hR hl.1 rfl (Nat.le_of_ble_eq_true rfl) dL_carries_280 ⟨Nat.le_of_ble_eq_true rfl, Nat.le_of_ble_eq_true rfl⟩ (fun V u H locs hR hP hD hS => ?_)
                      refine lv_bipush (v := (-2)) hx hb dL_carries_283 (by decide) ?_
                      refine lv_icmp_ne (tgt := 324) hx hb dL_carries_285 (by decide) (fun hc => ?_) (fun hc => ?_)
                      · have hf := pe hc hf
                        refine lv_iconst (v := 0) hx hb dL_carries_324 (by decide) ?_
                        exact W.zret (v := 0) (ty := .boolean) hx hb hr rfl (fun t ht hW => ⟨⟨_, (u, V, o63.2), rfl, ⟨hf, hR⟩, by rw [ht]; exact hP, hD⟩, hS.F ht⟩) hS.2.2 dL_carries_325
                      · have hf := pt hc hf
                        exact hJ4 hf _ _ _ _ ls hR hP hD hS (lv_sub hl [0, 2, 3] rfl)
                  · have hf := pt hc hf
                    refine lv_aload_n hx hb dL_carries_236 rfl (lv_at hl 0 rfl) ?_
                    refine lv_iconst (v := 0) hx hb dL_carries_237 (by decide) ?_
                    refine rb_why (x0 := 0) (rest := []) ⟨hx, hb, hml, hown, hts⟩ (cwV 1 hts gL_carries_X7_why rfl rfl rfl (by decide +kernel) ⟨Nat.le_of_ble_eq_true rfl, Nat.le_of_ble_eq_true rfl⟩) hK hN hP hD hS hA hR hl.1 rfl (Nat.le_of_ble_eq_true rfl) dL_carries_238 ⟨Nat.le_of_ble_eq_true rfl, Nat.le_of_ble_eq_true rfl⟩ (fun V u H locs hR hP hD hS => ?_)
                    refine lv_bipush (v := (-4)) hx hb dL_carries_241 (by decide) ?_
                    refine lv_icmp_ne (tgt := 324) hx hb dL_carries_243 (by decide) (fun hc => ?_) (fun hc => ?_)
                    · have hf := pe hc hf
                      refine lv_iconst (v := 0) hx hb dL_carries_324 (by decide) ?_
                      exact W.zret (v := 0) (ty := .boolean) hx hb hr rfl (fun t ht hW => ⟨⟨_, (u, V, o63.2), rfl, ⟨hf, hR⟩, by rw [ht]; exact hP, hD⟩, hS.F ht⟩) hS.2.2 dL_carries_325
                    · have hf := pt hc hf
                      refine lv_aload_n hx hb dL_carries_246 rfl (lv_at hl 0 rfl) ?_
                      refine lv_iconst (v := 1) hx hb dL_carries_247 (by decide) ?_
                      refine rb_why (x0 := 1) (rest := []) ⟨hx, hb, hml, hown, hts⟩ (cwV 1 hts gL_carries_X7_why rfl rfl rfl (by decide +kernel) ⟨Nat.le_of_ble_eq_true rfl, Nat.le_of_ble_eq_true rfl⟩) hK hN hP hD hS hA hR hl.1 rfl (Nat.le_of_ble_eq_true rfl) dL_carries_248 ⟨Nat.le_of_ble_eq_true rfl, Nat.le_of_ble_eq_true rfl⟩ (fun V u H locs hR hP hD hS => ?_)
                      refine lv_bipush (v := (-4)) hx hb dL_carries_251 (by decide) ?_
                      refine lv_icmp_ne (tgt := 324) hx hb dL_carries_253 (by decide) (fun hc => ?_) (fun hc => ?_)
                      · have hf := pe hc hf
                        refine lv_iconst (v := 0) hx hb dL_carries_324 (by decide) ?_
                        exact W.zret (v := 0) (ty := .boolean) hx hb hr rfl (fun t ht hW => ⟨⟨_, (u, V, o63.2), rfl, ⟨hf, hR⟩, by rw [ht]; exact hP, hD⟩, hS.F ht⟩) hS.2.2 dL_carries_325
                      · have hf := pt hc hf
                        refine lv_aload_n hx hb dL_carries_256 rfl (lv_at hl 0 rfl) ?_
                        refine lv_iconst (v := 2) hx hb dL_carries_257 (by decide) ?_
                        refine rb_why (x0 := 2) (rest := []) ⟨hx, hb, hml, hown, hts⟩ (cwV 1 hts gL_carries_X7_why rfl rfl rfl (by decide +kernel) ⟨Nat.le_of_ble_eq_true rfl, Nat.le_of_ble_eq_true rfl⟩) hK hN hP hD hS hA hR hl.1 rfl (Nat.le_of_ble_eq_true rfl) dL_carries_258 ⟨Nat.le_of_ble_eq_true rfl, Nat.le_of_ble_eq_true rfl⟩ (fun V u H locs hR hP hD hS => ?_)
                        refine lv_bipush (v := (-4)) hx hb dL_carries_261 (by decide) ?_
                        refine lv_icmp_ne (tgt := 324) hx hb dL_carries_263 (by decide) (fun hc => ?_) (fun hc => ?_)
                        · have hf := pe hc hf
                          refine lv_iconst (v := 0) hx hb dL_carries_324 (by decide) ?_
                          exact W.zret (v := 0) (ty := .boolean) hx hb hr rfl (fun t ht hW => ⟨⟨_, (u, V, o63.2), rfl, ⟨hf, hR⟩, by rw [ht]; exact hP, hD⟩, hS.F ht⟩) hS.2.2 dL_carries_325
                        · have hf := pt hc hf
                          refine lv_goto (tgt := 320) hx hb dL_carries_266 (by decide) ?_
                          exact hJ3 hf _ _ _ _ ls hR hP hD hS (lv_sub hl [] rfl)
              refine lv_icmp_ge (tgt := 225) hx hb dL_carries_215 (by decide) (fun hc => ?_) (fun hc => ?_)
              · have hf := pt hc hf
                refine lv_iconst (v := 4) hx hb dL_carries_225 (by decide) ?_
                exact hJ2 _ hf _ _ _ _ ls hR hP hD hS (lv_sub hl [1, 3, 7, 9] rfl)
              · have hf := pe hc hf
                refine lv_iload hx hb dL_carries_218 (lv_at hl 4 rfl) ?_
                refine lv_iconst (v := 1) hx hb dL_carries_220 (by decide) ?_
                refine lv_iadd hx hb dL_carries_221 ?_
                refine lv_goto (tgt := 226) hx hb dL_carries_222 (by decide) ?_
                exact hJ2 _ hf _ _ _ _ ls hR hP hD hS (lv_sub hl [1, 3, 7, 9] rfl)
    · have hf := pe hc hf
      refine lv_iload hx hb dL_carries_114 (lv_at hl 0 rfl) ?_
      refine lv_if_eq (tgt := 182) hx hb dL_carries_116 (by decide) (fun hc => ?_) (fun hc => ?_)
      · have hf := pt hc hf
        refine lv_iconst (v := 0) hx hb dL_carries_182 (by decide) ?_
        exact W.zret (v := 0) (ty := .boolean) hx hb hr rfl (fun t ht hW => ⟨⟨_, (u, V, o63.2), rfl, ⟨hf, hR⟩, by rw [ht]; exact hP, hD⟩, hS.F ht⟩) hS.2.2 dL_carries_183
      · have hf := pe hc hf
        refine lv_iload hx hb dL_carries_119 (lv_at hl 8 rfl) ?_
        refine lv_if_lt (tgt := 182) hx hb dL_carries_121 (by decide) (fun hc => ?_) (fun hc => ?_)
        · have hf := pt hc hf
          refine lv_iconst (v := 0) hx hb dL_carries_182 (by decide) ?_
          exact W.zret (v := 0) (ty := .boolean) hx hb hr rfl (fun t ht hW => ⟨⟨_, (u, V, o63.2), rfl, ⟨hf, hR⟩, by rw [ht]; exact hP, hD⟩, hS.F ht⟩) hS.2.2 dL_carries_183
        · have hf := pe hc hf
          refine lv_iload hx hb dL_carries_124 (lv_at hl 8 rfl) ?_
          refine lv_iload hx hb dL_carries_126 (lv_at hl 7 rfl) ?_
          refine lv_icmp_gt (tgt := 182) hx hb dL_carries_128 (by decide) (fun hc => ?_) (fun hc => ?_)
          · have hf := pt hc hf
            refine lv_iconst (v := 0) hx hb dL_carries_182 (by decide) ?_
            exact W.zret (v := 0) (ty := .boolean) hx hb hr rfl (fun t ht hW => ⟨⟨_, (u, V, o63.2), rfl, ⟨hf, hR⟩, by rw [ht]; exact hP, hD⟩, hS.F ht⟩) hS.2.2 dL_carries_183
          · have hf := pe hc hf
            refine lv_iload hx hb dL_carries_131 (lv_at hl 10 rfl) ?_
            refine lv_iload hx hb dL_carries_133 (lv_at hl 7 rfl) ?_
            refine lv_icmp_ne (tgt := 182) hx hb dL_carries_135 (by decide) (fun hc => ?_) (fun hc => ?_)
            · have hf := pe hc hf
              refine lv_iconst (v := 0) hx hb dL_carries_182 (by decide) ?_
              exact W.zret (v := 0) (ty := .boolean) hx hb hr rfl (fun t ht hW => ⟨⟨_, (u, V, o63.2), rfl, ⟨hf, hR⟩, by rw [ht]; exact hP, hD⟩, hS.F ht⟩) hS.2.2 dL_carries_183
            · have hf := pt hc hf
              refine lv_aload_n hx hb dL_carries_138 rfl (lv_at hl 1 rfl) ?_
              refine rsL (rest := []) (As := [.ref (Q 0 0)]) ⟨hx, hb, hml, hown, hts⟩ (mL_look l dC dI cI cZ cC cO Q u V o63.2 _ _ hR hf) (va_cwS 1 hts gL_carries_L_look rfl rfl rfl (by decide +kernel) ⟨Nat.le_of_ble_eq_true rfl, Nat.le_of_ble_eq_true rfl⟩) hK hN hP hD hS hA rfl hl.1 rfl (Nat.le_of_ble_eq_true rfl) dL_carries_139 ⟨Nat.le_of_ble_eq_true rfl, Nat.le_of_ble_eq_true rfl⟩ (fun r139 w9 hk9 H locs hP hD hS => ?_)
              obtain ⟨u, V⟩ := w9
              obtain ⟨hf, hR⟩ := hk9
              have hR : RepA V o63.2 := hR
              have hP : va_P (dC, dI) vwCl (WB cI cZ cC cO Q u V).flatten H := hP
              have hD : va_D A (WB cI cZ cC cO Q u V).flatten := hD
              refine lv_lload_n hx hb dL_carries_142 rfl (lv_at hl 2 rfl) ?_
              refine W.lcmp hx hb dL_carries_143 ?_
              refine lv_if_ne (tgt := 182) hx hb dL_carries_144 (by decide) (fun hc => ?_) (fun hc => ?_)
              · have hf := pe hc hf
                refine lv_iconst (v := 0) hx hb dL_carries_182 (by decide) ?_
                exact W.zret (v := 0) (ty := .boolean) hx hb hr rfl (fun t ht hW => ⟨⟨_, (u, V, o63.2), rfl, ⟨hf, hR⟩, by rw [ht]; exact hP, hD⟩, hS.F ht⟩) hS.2.2 dL_carries_183
              · have hf := pt hc hf
                refine lv_aload_n hx hb dL_carries_147 rfl (lv_at hl 1 rfl) ?_
                refine lv_bipush (v := 19) hx hb dL_carries_148 (by decide) ?_
                refine rb_count (x0 := 19) (rest := []) ⟨hx, hb, hml, hown, hts⟩ (cwV 1 hts gL_carries_X7_count rfl rfl rfl (by decide +kernel) ⟨Nat.le_of_ble_eq_true rfl, Nat.le_of_ble_eq_true rfl⟩) hK hN hP hD hS hA hR hl.1 rfl (Nat.le_of_ble_eq_true rfl) dL_carries_150 ⟨Nat.le_of_ble_eq_true rfl, Nat.le_of_ble_eq_true rfl⟩ (fun V u H locs hR hP hD hS => ?_)
                refine lv_iload hx hb dL_carries_153 (lv_at hl 4 rfl) ?_
                refine lv_icmp_ne (tgt := 182) hx hb dL_carries_155 (by decide) (fun hc => ?_) (fun hc => ?_)
                · have hf := pe hc hf
                  refine lv_iconst (v := 0) hx hb dL_carries_182 (by decide) ?_
                  exact W.zret (v := 0) (ty := .boolean) hx hb hr rfl (fun t ht hW => ⟨⟨_, (u, V, o63.2), rfl, ⟨hf, hR⟩, by rw [ht]; exact hP, hD⟩, hS.F ht⟩) hS.2.2 dL_carries_183
                · have hf := pt hc hf
                  refine lv_aload_n hx hb dL_carries_158 rfl (lv_at hl 1 rfl) ?_
                  refine lv_iconst (v := 0) hx hb dL_carries_159 (by decide) ?_
                  refine rb_why (x0 := 0) (rest := []) ⟨hx, hb, hml, hown, hts⟩ (cwV 1 hts gL_carries_X7_why rfl rfl rfl (by decide +kernel) ⟨Nat.le_of_ble_eq_true rfl, Nat.le_of_ble_eq_true rfl⟩) hK hN hP hD hS hA hR hl.1 rfl (Nat.le_of_ble_eq_true rfl) dL_carries_160 ⟨Nat.le_of_ble_eq_true rfl, Nat.le_of_ble_eq_true rfl⟩ (fun V u H locs hR hP hD hS => ?_)
                  refine lv_iload hx hb dL_carries_163 (lv_at hl 5 rfl) ?_
                  refine lv_icmp_ne (tgt := 182) hx hb dL_carries_165 (by decide) (fun hc => ?_) (fun hc => ?_)
                  · have hf := pe hc hf
                    refine lv_iconst (v := 0) hx hb dL_carries_182 (by decide) ?_
                    exact W.zret (v := 0) (ty := .boolean) hx hb hr rfl (fun t ht hW => ⟨⟨_, (u, V, o63.2), rfl, ⟨hf, hR⟩, by rw [ht]; exact hP, hD⟩, hS.F ht⟩) hS.2.2 dL_carries_183
                  · have hf := pt hc hf
                    refine lv_aload_n hx hb dL_carries_168 rfl (lv_at hl 1 rfl) ?_
                    refine lv_iconst (v := 2) hx hb dL_carries_169 (by decide) ?_
                    refine rb_why (x0 := 2) (rest := []) ⟨hx, hb, hml, hown, hts⟩ (cwV 1 hts gL_carries_X7_why rfl rfl rfl (by decide +kernel) ⟨Nat.le_of_ble_eq_true rfl, Nat.le_of_ble_eq_true rfl⟩) hK hN hP hD hS hA hR hl.1 rfl (Nat.le_of_ble_eq_true rfl) dL_carries_170 ⟨Nat.le_of_ble_eq_true rfl, Nat.le_of_ble_eq_true rfl⟩ (fun V u H locs hR hP hD hS => ?_)
                    refine lv_iload hx hb dL_carries_173 (lv_at hl 6 rfl) ?_
                    refine lv_icmp_ne (tgt := 182) hx hb dL_carries_175 (by decide) (fun hc => ?_) (fun hc => ?_)
                    · have hf := pe hc hf
                      refine lv_iconst (v := 0) hx hb dL_carries_182 (by decide) ?_
                      exact W.zret (v := 0) (ty := .boolean) hx hb hr rfl (fun t ht hW => ⟨⟨_, (u, V, o63.2), rfl, ⟨hf, hR⟩, by rw [ht]; exact hP, hD⟩, hS.F ht⟩) hS.2.2 dL_carries_183
                    · have hf := pt hc hf
                      refine lv_iconst (v := 1) hx hb dL_carries_178 (by decide) ?_
                      refine lv_goto (tgt := 183) hx hb dL_carries_179 (by decide) ?_
                      exact W.zret (v := 1) (ty := .boolean) hx hb hr rfl (fun t ht hW => ⟨⟨_, (u, V, o63.2), rfl, ⟨hf, hR⟩, by rw [ht]; exact hP, hD⟩, hS.F ht⟩) hS.2.2 dL_carries_183
  have hJ5 : jL_carries_5 i1 a K r1 a37 r57 o63 → ∀ (V : GV) (u : QH) (H : Heap) (locs : List Loc) (ls : Array Slot), RepA V o63.2 → va_P (dC, dI) vwCl (WB cI cZ cC cO Q u V).flatten H → va_D A (WB cI cZ cC cO Q u V).flatten → va_S A s.heap H locs → lv_has ls 14 [(0, .ref (Q 0 0)), (2, .long r1), (4, .int (lwA28 i1 9)), (5, .int (cotA a 19)), (6, .int (whyA a.2.2.2.2 0)), (7, .int (whyA a.2.2.2.2 2)), (9, .int (cotA a37 18)), (10, .int (oI (fwT a37.2.2.2.1.2 a37.2.2.2.1.1))), (11, .int r57), (12, .int o63.1)] → W p l e (headSpec wsL_carries rmL_carries).room s m args below meth c H locs 0 0 (MQ below (va_Qi (fun r (w : QH × GV × AS) => K r w.2.2 ∧ RepA w.2.1 w.2.2) (fun w => poW (dC, dI) A (WB cI cZ cC cO Q w.1 w.2.1).flatten) A) args s 0 0 A) (F0 m 104 ls []) := by
    intro hf V u H locs ls hR hP hD hS hl
    unfold jL_carries_5 at hf
    refine lv_iconst (v := 0) hx hb dL_carries_104 (by decide) ?_
    exact hJ1 _ hf _ _ _ _ ls hR hP hD hS (lv_sub hl [0, 1, 2, 3, 4, 5, 6, 7, 8, 9] rfl)
  refine lv_if_eq (tgt := 104) hx hb dL_carries_70 (by decide) (fun hc => ?_) (fun hc => ?_)
  · have hf := pt hc hf
    exact hJ5 hf _ _ _ _ ls hR hP hD hS (lv_sub hl [10, 9, 8, 7, 6, 5, 3, 2, 1, 0] rfl)
  · have hf := pe hc hf
    refine lv_iload hx hb dL_carries_73 (lv_at hl 1 rfl) ?_
    refine lv_bipush (v := (-2)) hx hb dL_carries_75 (by decide) ?_
    have hJ6 : ∀ (y0_6 : Int32), jL_carries_6 i1 a K r1 a37 r57 o63 y0_6 → ∀ (V : GV) (u : QH) (H : Heap) (locs : List Loc) (ls : Array Slot), RepA V o63.2 → va_P (dC, dI) vwCl (WB cI cZ cC cO Q u V).flatten H → va_D A (WB cI cZ cC cO Q u V).flatten → va_S A s.heap H locs → lv_has ls 14 [(0, .ref (Q 0 0)), (2, .long r1), (4, .int (lwA28 i1 9)), (5, .int (cotA a 19)), (6, .int (whyA a.2.2.2.2 0)), (7, .int (whyA a.2.2.2.2 2)), (9, .int (cotA a37 18)), (10, .int (oI (fwT a37.2.2.2.1.2 a37.2.2.2.1.1))), (11, .int r57), (12, .int o63.1)] → W p l e (headSpec wsL_carries rmL_carries).room s m args below meth c H locs 0 0 (MQ below (va_Qi (fun r (w : QH × GV × AS) => K r w.2.2 ∧ RepA w.2.1 w.2.2) (fun w => poW (dC, dI) A (WB cI cZ cC cO Q w.1 w.2.1).flatten) A) args s 0 0 A) (F0 m 85 ls [.int y0_6]) := by
      intro y0_6 hf V u H locs ls hR hP hD hS hl
      unfold jL_carries_6 at hf
      refine lv_iload hx hb dL_carries_85 (lv_at hl 7 rfl) ?_
      refine lv_bipush (v := (-4)) hx hb dL_carries_87 (by decide) ?_
      have hJ7 : ∀ (y0_7 : Int32), jL_carries_7 i1 a K r1 a37 r57 o63 y0_6 y0_7 → ∀ (V : GV) (u : QH) (H : Heap) (locs : List Loc) (ls : Array Slot), RepA V o63.2 → va_P (dC, dI) vwCl (WB cI cZ cC cO Q u V).flatten H → va_D A (WB cI cZ cC cO Q u V).flatten → va_S A s.heap H locs → lv_has ls 14 [(0, .ref (Q 0 0)), (2, .long r1), (4, .int (lwA28 i1 9)), (5, .int (cotA a 19)), (6, .int (whyA a.2.2.2.2 0)), (7, .int (whyA a.2.2.2.2 2)), (9, .int (cotA a37 18)), (10, .int (oI (fwT a37.2.2.2.1.2 a37.2.2.2.1.1))), (11, .int r57), (12, .int o63.1)] → W p l e (headSpec wsL_carries rmL_carries).room s m args below meth c H locs 0 0 (MQ below (va_Qi (fun r (w : QH × GV × AS) => K r w.2.2 ∧ RepA w.2.1 w.2.2) (fun w => poW (dC, dI) A (WB cI cZ cC cO Q w.1 w.2.1).flatten) A) args s 0 0 A) (F0 m 97 ls [.int y0_7, .int y0_6]) := by
        intro y0_7 hf V u H locs ls hR hP hD hS hl
        unfold jL_carries_7 at hf
        refine lv_icmp_ne (tgt := 104) hx hb dL_carries_97 (by decide) (fun hc => ?_) (fun hc => ?_)
        · have hf := pe hc hf
          exact hJ5 hf _ _ _ _ ls hR hP hD hS (lv_sub hl [0, 1, 2, 3, 4, 5, 6, 7, 8, 9] rfl)
        · have hf := pt hc hf
          refine lv_iconst (v := 1) hx hb dL_carries_100 (by decide) ?_
          refine lv_goto (tgt := 105) hx hb dL_carries_101 (by decide) ?_
          exact hJ1 _ hf _ _ _ _ ls hR hP hD hS (lv_sub hl [0, 1, 2, 3, 4, 5, 6, 7, 8, 9] rfl)
      refine lv_icmp_eq (tgt := 96) hx hb dL_carries_89 (by decide) (fun hc => ?_) (fun hc => ?_)
      · have hf := pt hc hf
        refine lv_iconst (v := 0) hx hb dL_carries_96 (by decide) ?_
        exact hJ7 _ hf _ _ _ _ ls hR hP hD hS (lv_sub hl [0, 1, 2, 3, 4, 5, 6, 7, 8, 9] rfl)
      · have hf := pe hc hf
        refine lv_iconst (v := 1) hx hb dL_carries_92 (by decide) ?_
        refine lv_goto (tgt := 97) hx hb dL_carries_93 (by decide) ?_
        exact hJ7 _ hf _ _ _ _ ls hR hP hD hS (lv_sub hl [0, 1, 2, 3, 4, 5, 6, 7, 8, 9] rfl)
    refine lv_icmp_ne (tgt := 84) hx hb dL_carries_77 (by decide) (fun hc => ?_) (fun hc => ?_)
    · have hf := pe hc hf
      refine lv_iconst (v := 0) hx hb dL_carries_84 (by decide) ?_
      exact hJ6 _ hf _ _ _ _ ls hR hP hD hS (lv_sub hl [10, 9, 8, 7, 6, 5, 3, 2, 1, 0] rfl)
    · have hf := pt hc hf
      refine lv_iconst (v := 1) hx hb dL_carries_80 (by decide) ?_
      refine lv_goto (tgt := 85) hx hb dL_carries_81 (by decide) ?_
      exact hJ6 _ hf _ _ _ _ ls hR hP hD hS (lv_sub hl [10, 9, 8, 7, 6, 5, 3, 2, 1, 0] rfl)
