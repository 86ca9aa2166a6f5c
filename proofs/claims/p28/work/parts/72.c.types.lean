set_option maxHeartbeats 20000000 in
set_option maxRecDepth 100000 in
theorem mL_types (l : Launch) (dC : Nat → ClassId) (dI : Nat → Nat → Nat) (cI cZ cC cO : ClassId) (Q : Nat → Nat → Nat) (u : QH) (V : GV) (i1 : Int32) (a : AS) (K : Int32 → AS → Prop) (sz : Nat) (hR : RepA V a) (hf : gL_types i1 a K) : Met l yL_types wsL_types rmL_types (va_Pc [.ref (Q 0 0), .int i1] (pcW (dC, dI) (wTys cI cZ cC cO) sz (WB cI cZ cC cO Q u V).flatten)) (va_Qi (fun r (w : QH × GV × AS) => K r w.2.2 ∧ RepA w.2.1 w.2.2) (fun w => poW (dC, dI) (va_A (WB cI cZ cC cO Q u V).flatten sz) (WB cI cZ cC cO Q w.1 w.2.1).flatten) (va_A (WB cI cZ cC cO Q u V).flatten sz)) 0 0 (va_A (WB cI cZ cC cO Q u V).flatten sz) := by
  refine Met.ofW (cc := cL_types) (maxL := 7) (ret := (some .boolean)) (by decide) rfl ?_
  intro p e s m args below meth c s₁ B hml hv
  obtain ⟨hargs, hsz, hP, hK, hN, hD0⟩ := hv
  have hx := B.exec
  have hb := B.bytes
  have hr := B.returns
  have hts := atoms_spec (ws := wsL_types) B.pre
  have hown : s.vm.findClass RL = some m.cls := findClass_of_methodNamed B.named
  have hlocks := B.notSynchronized
  subst hsz
  have hD := hD0.self (sz := s.heap.size)
  generalize hAe : va_A (WB cI cZ cC cO Q u V).flatten s.heap.size = A at hD ⊢
  have hA : ∀ q : Nat, s.heap.size ≤ q → A q := fun q h => by rw [← hAe]; exact Or.inr h
  have hS : va_S A s.heap s.heap [] := va_S.rf
  have hE := lg_entry_eq m [.ref (Q 0 0), .int i1] 7
  rw [← hargs] at hE
  rw [hE]
  have hl := lv_entry [.ref (Q 0 0), .int i1] (n := 7) (Nat.le_of_ble_eq_true rfl)
  generalize (lg_sl [.ref (Q 0 0), .int i1] ++ List.replicate (7 - (lg_sl [.ref (Q 0 0), .int i1]).length) Slot.unset).toArray = ls at hl ⊢
  have hl : lv_has ls 7 [(0, .ref (Q 0 0)), (1, .int i1)] := hl
  have hP : va_P (dC, dI) vwCl (WB cI cZ cC cO Q u V).flatten s.heap := hP
  unfold gL_types at hf
  refine lv_iload_n hx hb dL_types_0 rfl (lv_at hl 1 rfl) ?_
  refine lv_bipush (v := 9) hx hb dL_types_1 (by decide) ?_
  refine rS (w := []) (W0 := (WB cI cZ cC cO Q u V).flatten) (rest := []) (As := [.int i1, .int 9]) ⟨hx, hb, hml, hown, hts⟩ (mL_low l dC dI cI cZ cC cO i1 9 (by decide)) (va_cwS 2 hts gL_types_L_low rfl rfl rfl (by decide +kernel) ⟨Nat.le_of_ble_eq_true rfl, Nat.le_of_ble_eq_true rfl⟩) hK hN hP [] rfl rfl hl.1 rfl (Nat.le_of_ble_eq_true rfl) dL_types_3 ⟨Nat.le_of_ble_eq_true rfl, Nat.le_of_ble_eq_true rfl⟩ ?_
  refine lv_istore_n (lv' := [(2, .int (lwA28 i1 9)), (0, .ref (Q 0 0)), (1, .int i1)]) hx hb dL_types_6 rfl hl (by decide) rfl (fun ls hl => ?_)
  refine lv_aload_n hx hb dL_types_7 rfl (lv_at hl 1 rfl) ?_
  obtain ⟨o8, ho8, hf⟩ := bdE hf
  refine rb_clear (ho := ho8) (rest := []) ⟨hx, hb, hml, hown, hts⟩ (cwV 0 hts gL_types_X7_clear rfl rfl rfl (by decide +kernel) ⟨Nat.le_of_ble_eq_true rfl, Nat.le_of_ble_eq_true rfl⟩) hK hN hP hD hS hA hR hl.1 rfl (Nat.le_of_ble_eq_true rfl) dL_types_8 ⟨Nat.le_of_ble_eq_true rfl, Nat.le_of_ble_eq_true rfl⟩ (fun V u H locs hR hP hD hS => ?_)
  have hJ1 : ∀ (y0_1 : Int32), jL_types_1 i1 K o8 y0_1 → ∀ (V : GV) (u : QH) (H : Heap) (locs : List Loc) (ls : Array Slot), RepA V o8.2 → va_P (dC, dI) vwCl (WB cI cZ cC cO Q u V).flatten H → va_D A (WB cI cZ cC cO Q u V).flatten → va_S A s.heap H locs → lv_has ls 7 [(0, .ref (Q 0 0)), (1, .int i1), (2, .int (lwA28 i1 9))] → W p l e (headSpec wsL_types rmL_types).room s m args below meth c H locs 0 0 (MQ below (va_Qi (fun r (w : QH × GV × AS) => K r w.2.2 ∧ RepA w.2.1 w.2.2) (fun w => poW (dC, dI) A (WB cI cZ cC cO Q w.1 w.2.1).flatten) A) args s 0 0 A) (F0 m 19 ls [.int y0_1]) := by
    intro y0_1 hf V u H locs ls hR hP hD hS hl
    unfold jL_types_1 at hf
    refine lv_istore_n (lv' := [(3, .int y0_1), (0, .ref (Q 0 0)), (1, .int i1), (2, .int (lwA28 i1 9))]) hx hb dL_types_19 rfl hl (by decide) rfl (fun ls hl => ?_)
    refine lv_iconst (v := 0) hx hb dL_types_20 (by decide) ?_
    refine lv_istore (lv' := [(4, .int 0), (3, .int y0_1), (0, .ref (Q 0 0)), (1, .int i1), (2, .int (lwA28 i1 9))]) hx hb dL_types_21 hl (by decide) rfl (fun ls hl => ?_)
    have hL23 : ∀ (KX23 : (Int32 × AS) → Prop) (n : Nat) (s23 : Int32 × Int32 × AS), lpP (tL_types_23 i1) n s23 KX23 → ∀ (V : GV) (u : QH) (H : Heap) (locs : List Loc) (ls : Array Slot), RepA V s23.2.2 → va_P (dC, dI) vwCl (WB cI cZ cC cO Q u V).flatten H → va_D A (WB cI cZ cC cO Q u V).flatten → va_S A s.heap H locs → lv_has ls 7 [(0, .ref (Q 0 0)), (1, .int i1), (2, .int (lwA28 i1 9)), (3, .int s23.1), (4, .int s23.2.1)] → (∀ (o23 : Int32 × AS), KX23 o23 → ∀ (V : GV) (u : QH) (H : Heap) (locs : List Loc) (ls : Array Slot), RepA V o23.2 → va_P (dC, dI) vwCl (WB cI cZ cC cO Q u V).flatten H → va_D A (WB cI cZ cC cO Q u V).flatten → va_S A s.heap H locs → lv_has ls 7 [(0, .ref (Q 0 0)), (1, .int i1), (3, .int o23.1)] → W p l e (headSpec wsL_types rmL_types).room s m args below meth c H locs 0 0 (MQ below (va_Qi (fun r (w : QH × GV × AS) => K r w.2.2 ∧ RepA w.2.1 w.2.2) (fun w => poW (dC, dI) A (WB cI cZ cC cO Q w.1 w.2.1).flatten) A) args s 0 0 A) (F0 m 183 ls [])) → W p l e (headSpec wsL_types rmL_types).room s m args below meth c H locs 0 0 (MQ below (va_Qi (fun r (w : QH × GV × AS) => K r w.2.2 ∧ RepA w.2.1 w.2.2) (fun w => poW (dC, dI) A (WB cI cZ cC cO Q w.1 w.2.1).flatten) A) args s 0 0 A) (F0 m 23 ls []) := by
      intro KX23 n
      induction n with
      | zero => intro s23 hf; exact False.elim hf
      | succ n ih23 =>
        intro s23 hf V u H locs ls hR hP hD hS hl kx
        obtain ⟨KB23, hKB23⟩ : ∃ F : (Int32 × Int32 × AS) → Prop, F = fun s9 => lpP (tL_types_23 i1) n s9 KX23 := ⟨_, rfl⟩
        have hf : tL_types_23 i1 s23 KB23 KX23 := by rw [hKB23]; exact hf
        unfold tL_types_23 at hf
        refine lv_iload hx hb dL_types_23 (lv_at hl 4 rfl) ?_
        refine lv_iload_n hx hb dL_types_25 rfl (lv_at hl 2 rfl) ?_
        refine lv_icmp_ge (tgt := 183) hx hb dL_types_26 (by decide) (fun hc => ?_) (fun hc => ?_)
        · have hf := pt hc hf
          exact kx _ hf _ _ _ _ ls hR hP hD hS (lv_sub hl [0, 1, 3] rfl)
        · have hf := pe hc hf
          refine lv_iload_n hx hb dL_types_29 rfl (lv_at hl 1 rfl) ?_
          refine lv_iconst (v := 2) hx hb dL_types_30 (by decide) ?_
          refine lv_iconst (v := 2) hx hb dL_types_31 (by decide) ?_
          refine lv_iload hx hb dL_types_32 (lv_at hl 4 rfl) ?_
          refine lv_imul hx hb dL_types_34 ?_
          refine lv_iadd hx hb dL_types_35 ?_
          refine lv_ishr hx hb dL_types_36 ?_
          refine lv_istore (lv' := [(5, .int (i1 >>> ((2 + (2 * s23.2.1)) &&& 31))), (0, .ref (Q 0 0)), (1, .int i1), (2, .int (lwA28 i1 9)), (3, .int s23.1), (4, .int s23.2.1)]) hx hb dL_types_37 hl (by decide) rfl (fun ls hl => ?_)
          refine lv_iload hx hb dL_types_39 (lv_at hl 0 rfl) ?_
          refine lv_bipush (v := 7) hx hb dL_types_41 (by decide) ?_
          refine rS (w := []) (W0 := (WB cI cZ cC cO Q u V).flatten) (rest := []) (As := [.int (i1 >>> ((2 + (2 * s23.2.1)) &&& 31)), .int 7]) ⟨hx, hb, hml, hown, hts⟩ (mL_low l dC dI cI cZ cC cO ((i1 >>> ((2 + (2 * s23.2.1)) &&& 31))) 7 (by decide)) (va_cwS 2 hts gL_types_L_low rfl rfl rfl (by decide +kernel) ⟨Nat.le_of_ble_eq_true rfl, Nat.le_of_ble_eq_true rfl⟩) hK hN hP [] rfl rfl hl.1 rfl (Nat.le_of_ble_eq_true rfl) dL_types_43 ⟨Nat.le_of_ble_eq_true rfl, Nat.le_of_ble_eq_true rfl⟩ ?_
          refine lv_istore (lv' := [(6, .int (lwA28 ((i1 >>> ((2 + (2 * s23.2.1)) &&& 31))) 7)), (5, .int (i1 >>> ((2 + (2 * s23.2.1)) &&& 31))), (0, .ref (Q 0 0)), (1, .int i1), (2, .int (lwA28 i1 9)), (3, .int s23.1), (4, .int s23.2.1)]) hx hb dL_types_46 hl (by decide) rfl (fun ls hl => ?_)
          refine lv_iload_n hx hb dL_types_48 rfl (lv_at hl 5 rfl) ?_
          have hJ2 : ∀ (y0_2 : Int32) (a_2 : AS), jL_types_2 s23 KB23 y0_2 a_2 → ∀ (V : GV) (u : QH) (H : Heap) (locs : List Loc) (ls : Array Slot), RepA V a_2 → va_P (dC, dI) vwCl (WB cI cZ cC cO Q u V).flatten H → va_D A (WB cI cZ cC cO Q u V).flatten → va_S A s.heap H locs → lv_has ls 7 [(0, .ref (Q 0 0)), (1, .int i1), (2, .int (lwA28 i1 9)), (4, .int s23.2.1)] → W p l e (headSpec wsL_types rmL_types).room s m args below meth c H locs 0 0 (MQ below (va_Qi (fun r (w : QH × GV × AS) => K r w.2.2 ∧ RepA w.2.1 w.2.2) (fun w => poW (dC, dI) A (WB cI cZ cC cO Q w.1 w.2.1).flatten) A) args s 0 0 A) (F0 m 176 ls [.int y0_2]) := by
            intro y0_2 a_2 hf V u H locs ls hR hP hD hS hl
            unfold jL_types_2 at hf
            refine lv_istore_n (lv' := [(3, .int y0_2), (0, .ref (Q 0 0)), (1, .int i1), (2, .int (lwA28 i1 9)), (4, .int s23.2.1)]) hx hb dL_types_176 rfl hl (by decide) rfl (fun ls hl => ?_)
            refine lv_iinc (v := (s23.2.1 + 1)) (lv' := [(4, .int (s23.2.1 + 1)), (3, .int y0_2), (0, .ref (Q 0 0)), (1, .int i1), (2, .int (lwA28 i1 9))]) hx hb dL_types_177 hl (k := 4) rfl rfl (by decide) rfl (fun ls hl => ?_)
            refine lv_goto (tgt := 23) hx hb dL_types_180 (by decide) ?_
            rw [hKB23] at hf
            exact ih23 _ hf _ _ _ _ ls hR hP hD hS (lv_sub hl [2, 3, 4, 1, 0] rfl) kx
          have hJ3 : ∀ (a_3 : AS), jL_types_3 s23 KB23 a_3 → ∀ (V : GV) (u : QH) (H : Heap) (locs : List Loc) (ls : Array Slot), RepA V a_3 → va_P (dC, dI) vwCl (WB cI cZ cC cO Q u V).flatten H → va_D A (WB cI cZ cC cO Q u V).flatten → va_S A s.heap H locs → lv_has ls 7 [(0, .ref (Q 0 0)), (1, .int i1), (2, .int (lwA28 i1 9)), (4, .int s23.2.1)] → W p l e (headSpec wsL_types rmL_types).room s m args below meth c H locs 0 0 (MQ below (va_Qi (fun r (w : QH × GV × AS) => K r w.2.2 ∧ RepA w.2.1 w.2.2) (fun w => poW (dC, dI) A (WB cI cZ cC cO Q w.1 w.2.1).flatten) A) args s 0 0 A) (F0 m 175 ls []) := by
            intro a_3 hf V u H locs ls hR hP hD hS hl
            unfold jL_types_3 at hf
            refine lv_iconst (v := 0) hx hb dL_types_175 (by decide) ?_
            exact hJ2 _ _ hf _ _ _ _ ls hR hP hD hS (lv_sub hl [0, 1, 2, 3] rfl)
          refine lv_if_eq (tgt := 175) hx hb dL_types_49 (by decide) (fun hc => ?_) (fun hc => ?_)
          · have hf := pt hc hf
            exact hJ3 _ hf _ _ _ _ ls hR hP hD hS (lv_sub hl [2, 3, 4, 6] rfl)
          · have hf := pe hc hf
            refine lv_iload hx hb dL_types_52 (lv_at hl 6 rfl) ?_
            have hJ4 : ∀ (a_4 : AS), jL_types_4 i1 s23 KB23 a_4 → ∀ (V : GV) (u : QH) (H : Heap) (locs : List Loc) (ls : Array Slot), RepA V a_4 → va_P (dC, dI) vwCl (WB cI cZ cC cO Q u V).flatten H → va_D A (WB cI cZ cC cO Q u V).flatten → va_S A s.heap H locs → lv_has ls 7 [(0, .ref (Q 0 0)), (1, .int i1), (2, .int (lwA28 i1 9)), (4, .int s23.2.1), (5, .int (i1 >>> ((2 + (2 * s23.2.1)) &&& 31))), (6, .int (lwA28 ((i1 >>> ((2 + (2 * s23.2.1)) &&& 31))) 7))] → W p l e (headSpec wsL_types rmL_types).room s m args below meth c H locs 0 0 (MQ below (va_Qi (fun r (w : QH × GV × AS) => K r w.2.2 ∧ RepA w.2.1 w.2.2) (fun w => poW (dC, dI) A (WB cI cZ cC cO Q w.1 w.2.1).flatten) A) args s 0 0 A) (F0 m 66 ls []) := by
              intro a_4 hf V u H locs ls hR hP hD hS hl
              unfold jL_types_4 at hf
              refine lv_aload_n hx hb dL_types_66 rfl (lv_at hl 0 rfl) ?_
              refine lv_iload hx hb dL_types_67 (lv_at hl 5 rfl) ?_
              refine lv_iconst (v := 5) hx hb dL_types_69 (by decide) ?_
              have hJ5 : ∀ (y0_5 : Int32), jL_types_5 i1 s23 KB23 a_4 y0_5 → ∀ (V : GV) (u : QH) (H : Heap) (locs : List Loc) (ls : Array Slot), RepA V a_4 → va_P (dC, dI) vwCl (WB cI cZ cC cO Q u V).flatten H → va_D A (WB cI cZ cC cO Q u V).flatten → va_S A s.heap H locs → lv_has ls 7 [(0, .ref (Q 0 0)), (1, .int i1), (2, .int (lwA28 i1 9)), (4, .int s23.2.1), (5, .int (i1 >>> ((2 + (2 * s23.2.1)) &&& 31))), (6, .int (lwA28 ((i1 >>> ((2 + (2 * s23.2.1)) &&& 31))) 7))] → W p l e (headSpec wsL_types rmL_types).room s m args below meth c H locs 0 0 (MQ below (va_Qi (fun r (w : QH × GV × AS) => K r w.2.2 ∧ RepA w.2.1 w.2.2) (fun w => poW (dC, dI) A (WB cI cZ cC cO Q w.1 w.2.1).flatten) A) args s 0 0 A) (F0 m 91 ls [.int y0_5, .ref (Q 0 0)]) := by
                intro y0_5 hf V u H locs ls hR hP hD hS hl
                unfold jL_types_5 at hf
                obtain ⟨o91, ho91, hf⟩ := bdE hf
                refine rb_append (ho := ho91) (rest := []) ⟨hx, hb, hml, hown, hts⟩ (cwV 1 hts gL_types_X7_append rfl rfl rfl (by decide +kernel) ⟨Nat.le_of_ble_eq_true rfl, Nat.le_of_ble_eq_true rfl⟩) hK hN hP hD hS hA hR hl.1 rfl (Nat.le_of_ble_eq_true rfl) dL_types_91 ⟨Nat.le_of_ble_eq_true rfl, Nat.le_of_ble_eq_true rfl⟩ (fun V u H locs hR hP hD hS => ?_)
                refine lv_if_le (tgt := 175) hx hb dL_types_94 (by decide) (fun hc => ?_) (fun hc => ?_)
                · have hf := pt hc hf
                  exact hJ3 _ hf _ _ _ _ ls hR hP hD hS (lv_sub hl [0, 1, 2, 3] rfl)
                · have hf := pe hc hf
                  refine lv_iload hx hb dL_types_97 (lv_at hl 5 rfl) ?_
                  refine lv_bipush (v := 6) hx hb dL_types_99 (by decide) ?_
                  have hJ6 : ∀ (a_6 : AS), jL_types_6 s23 KB23 a_6 → ∀ (V : GV) (u : QH) (H : Heap) (locs : List Loc) (ls : Array Slot), RepA V a_6 → va_P (dC, dI) vwCl (WB cI cZ cC cO Q u V).flatten H → va_D A (WB cI cZ cC cO Q u V).flatten → va_S A s.heap H locs → lv_has ls 7 [(0, .ref (Q 0 0)), (1, .int i1), (2, .int (lwA28 i1 9)), (4, .int s23.2.1)] → W p l e (headSpec wsL_types rmL_types).room s m args below meth c H locs 0 0 (MQ below (va_Qi (fun r (w : QH × GV × AS) => K r w.2.2 ∧ RepA w.2.1 w.2.2) (fun w => poW (dC, dI) A (WB cI cZ cC cO Q w.1 w.2.1).flatten) A) args s 0 0 A) (F0 m 171 ls []) := by
                    intro a_6 hf V u H locs ls hR hP hD hS hl
                    unfold jL_types_6 at hf
                    refine lv_iconst (v := 1) hx hb dL_types_171 (by decide) ?_
                    refine lv_goto (tgt := 176) hx hb dL_types_172 (by decide) ?_
                    exact hJ2 _ _ hf _ _ _ _ ls hR hP hD hS (lv_sub hl [0, 1, 2, 3] rfl)
                  refine lv_icmp_eq (tgt := 171) hx hb dL_types_101 (by decide) (fun hc => ?_) (fun hc => ?_)
                  · have hf := pt hc hf
                    exact hJ6 _ hf _ _ _ _ ls hR hP hD hS (lv_sub hl [0, 1, 2, 3] rfl)
                  · have hf := pe hc hf
                    refine lv_aload_n hx hb dL_types_104 rfl (lv_at hl 0 rfl) ?_
                    refine lv_iload hx hb dL_types_105 (lv_at hl 5 rfl) ?_
                    refine lv_iconst (v := 5) hx hb dL_types_107 (by decide) ?_
                    have hJ7 : ∀ (y0_7 : Int32), jL_types_7 s23 KB23 o91 y0_7 → ∀ (V : GV) (u : QH) (H : Heap) (locs : List Loc) (ls : Array Slot), RepA V o91.2 → va_P (dC, dI) vwCl (WB cI cZ cC cO Q u V).flatten H → va_D A (WB cI cZ cC cO Q u V).flatten → va_S A s.heap H locs → lv_has ls 7 [(0, .ref (Q 0 0)), (1, .int i1), (2, .int (lwA28 i1 9)), (4, .int s23.2.1)] → W p l e (headSpec wsL_types rmL_types).room s m args below meth c H locs 0 0 (MQ below (va_Qi (fun r (w : QH × GV × AS) => K r w.2.2 ∧ RepA w.2.1 w.2.2) (fun w => poW (dC, dI) A (WB cI cZ cC cO Q w.1 w.2.1).flatten) A) args s 0 0 A) (F0 m 165 ls [.int y0_7, .ref (Q 0 0)]) := by
                      intro y0_7 hf V u H locs ls hR hP hD hS hl
                      unfold jL_types_7 at hf
                      refine rsI (rest := []) (As := [.ref (Q 0 0), .int y0_7]) ⟨hx, hb, hml, hown, hts⟩ (mL_number l dC dI cI cZ cC cO Q u V y0_7 o91.2 _ _ hR hf) (va_cwS 2 hts gL_types_L_number rfl rfl rfl (by decide +kernel) ⟨Nat.le_of_ble_eq_true rfl, Nat.le_of_ble_eq_true rfl⟩) hK hN hP hD hS hA rfl hl.1 rfl (Nat.le_of_ble_eq_true rfl) dL_types_165 ⟨Nat.le_of_ble_eq_true rfl, Nat.le_of_ble_eq_true rfl⟩ (fun r165 w9 hk9 H locs hP hD hS => ?_)
                      obtain ⟨u, V, a165⟩ := w9
                      obtain ⟨hf, hR⟩ := hk9
                      have hR : RepA V a165 := hR
                      have hP : va_P (dC, dI) vwCl (WB cI cZ cC cO Q u V).flatten H := hP
                      have hD : va_D A (WB cI cZ cC cO Q u V).flatten := hD
                      refine lv_if_eq (tgt := 175) hx hb dL_types_168 (by decide) (fun hc => ?_) (fun hc => ?_)
                      · have hf := pt hc hf
                        exact hJ3 _ hf _ _ _ _ ls hR hP hD hS (lv_sub hl [0, 1, 2, 3] rfl)
                      · have hf := pe hc hf
                        exact hJ6 _ hf _ _ _ _ ls hR hP hD hS (lv_sub hl [0, 1, 2, 3] rfl)
                    refine lv_icmp_ge (tgt := 140) hx hb dL_types_108 (by decide) (fun hc => ?_) (fun hc => ?_)
                    · have hf := pt hc hf
                      refine lv_iload hx hb dL_types_140 (lv_at hl 4 rfl) ?_
                      refine lv_iconst (v := 2) hx hb dL_types_142 (by decide) ?_
                      refine lv_ishr hx hb dL_types_143 ?_
                      refine lv_iload_n hx hb dL_types_144 rfl (lv_at hl 1 rfl) ?_
                      refine lv_bipush (v := 23) hx hb dL_types_145 (by decide) ?_
                      refine lv_ishr hx hb dL_types_147 ?_
                      refine lv_iconst (v := 5) hx hb dL_types_148 (by decide) ?_
                      refine rS (w := []) (W0 := (WB cI cZ cC cO Q u V).flatten) (rest := [.int ((i1 >>> ((2 + (2 * s23.2.1)) &&& 31)) >>> (2 &&& 31)), .ref (Q 0 0)]) (As := [.int (i1 >>> (23 &&& 31)), .int 5]) ⟨hx, hb, hml, hown, hts⟩ (mL_low l dC dI cI cZ cC cO ((i1 >>> (23 &&& 31))) 5 (by decide)) (va_cwS 2 hts gL_types_L_low rfl rfl rfl (by decide +kernel) ⟨Nat.le_of_ble_eq_true rfl, Nat.le_of_ble_eq_true rfl⟩) hK hN hP [] rfl rfl hl.1 rfl (Nat.le_of_ble_eq_true rfl) dL_types_149 ⟨Nat.le_of_ble_eq_true rfl, Nat.le_of_ble_eq_true rfl⟩ ?_
                      have hJ8 : ∀ (y0_8 : Int32), jL_types_8 i1 s23 KB23 o91 y0_8 → ∀ (V : GV) (u : QH) (H : Heap) (locs : List Loc) (ls : Array Slot), RepA V o91.2 → va_P (dC, dI) vwCl (WB cI cZ cC cO Q u V).flatten H → va_D A (WB cI cZ cC cO Q u V).flatten → va_S A s.heap H locs → lv_has ls 7 [(0, .ref (Q 0 0)), (1, .int i1), (2, .int (lwA28 i1 9)), (4, .int s23.2.1)] → W p l e (headSpec wsL_types rmL_types).room s m args below meth c H locs 0 0 (MQ below (va_Qi (fun r (w : QH × GV × AS) => K r w.2.2 ∧ RepA w.2.1 w.2.2) (fun w => poW (dC, dI) A (WB cI cZ cC cO Q w.1 w.2.1).flatten) A) args s 0 0 A) (F0 m 162 ls [.int y0_8, .int ((i1 >>> ((2 + (2 * s23.2.1)) &&& 31)) >>> (2 &&& 31)), .ref (Q 0 0)]) := by
                        intro y0_8 hf V u H locs ls hR hP hD hS hl
                        unfold jL_types_8 at hf
                        obtain ⟨hne, hf⟩ := hf
                        refine rS (w := []) (W0 := (WB cI cZ cC cO Q u V).flatten) (rest := [.ref (Q 0 0)]) (As := [.int ((i1 >>> ((2 + (2 * s23.2.1)) &&& 31)) >>> (2 &&& 31)), .int y0_8]) ⟨hx, hb, hml, hown, hts⟩ (mL_low l dC dI cI cZ cC cO (((i1 >>> ((2 + (2 * s23.2.1)) &&& 31)) >>> (2 &&& 31))) y0_8 hne) (va_cwS 2 hts gL_types_L_low rfl rfl rfl (by decide +kernel) ⟨Nat.le_of_ble_eq_true rfl, Nat.le_of_ble_eq_true rfl⟩) hK hN hP [] rfl rfl hl.1 rfl (Nat.le_of_ble_eq_true rfl) dL_types_162 ⟨Nat.le_of_ble_eq_true rfl, Nat.le_of_ble_eq_true rfl⟩ ?_
                        exact hJ7 _ hf _ _ _ _ ls hR hP hD hS (lv_sub hl [0, 1, 2, 3] rfl)
                      refine lv_if_ne (tgt := 160) hx hb dL_types_152 (by decide) (fun hc => ?_) (fun hc => ?_)
                      · have hf := pe hc hf
                        refine lv_bipush (v := 9) hx hb dL_types_160 (by decide) ?_
                        exact hJ8 _ hf _ _ _ _ ls hR hP hD hS (lv_sub hl [0, 1, 2, 3] rfl)
                      · have hf := pt hc hf
                        refine lv_bipush (v := 125) hx hb dL_types_155 (by decide) ?_
                        refine lv_goto (tgt := 162) hx hb dL_types_157 (by decide) ?_
                        exact hJ8 _ hf _ _ _ _ ls hR hP hD hS (lv_sub hl [0, 1, 2, 3] rfl)
                    · have hf := pe hc hf
                      refine lv_iload hx hb dL_types_111 (lv_at hl 4 rfl) ?_
                      refine lv_iconst (v := 2) hx hb dL_types_113 (by decide) ?_
                      refine lv_ishr hx hb dL_types_114 ?_
                      refine lv_iload_n hx hb dL_types_115 rfl (lv_at hl 1 rfl) ?_
                      refine lv_bipush (v := 22) hx hb dL_types_116 (by decide) ?_
                      refine lv_ishr hx hb dL_types_118 ?_
                      refine lv_bipush (v := 9) hx hb dL_types_119 (by decide) ?_
                      refine rS (w := []) (W0 := (WB cI cZ cC cO Q u V).flatten) (rest := [.int ((i1 >>> ((2 + (2 * s23.2.1)) &&& 31)) >>> (2 &&& 31)), .ref (Q 0 0)]) (As := [.int (i1 >>> (22 &&& 31)), .int 9]) ⟨hx, hb, hml, hown, hts⟩ (mL_low l dC dI cI cZ cC cO ((i1 >>> (22 &&& 31))) 9 (by decide)) (va_cwS 2 hts gL_types_L_low rfl rfl rfl (by decide +kernel) ⟨Nat.le_of_ble_eq_true rfl, Nat.le_of_ble_eq_true rfl⟩) hK hN hP [] rfl rfl hl.1 rfl (Nat.le_of_ble_eq_true rfl) dL_types_121 ⟨Nat.le_of_ble_eq_true rfl, Nat.le_of_ble_eq_true rfl⟩ ?_
                      have hJ9 : ∀ (y0_9 : Int32), jL_types_9 i1 s23 KB23 o91 y0_9 → ∀ (V : GV) (u : QH) (H : Heap) (locs : List Loc) (ls : Array Slot), RepA V o91.2 → va_P (dC, dI) vwCl (WB cI cZ cC cO Q u V).flatten H → va_D A (WB cI cZ cC cO Q u V).flatten → va_S A s.heap H locs → lv_has ls 7 [(0, .ref (Q 0 0)), (1, .int i1), (2, .int (lwA28 i1 9)), (4, .int s23.2.1)] → W p l e (headSpec wsL_types rmL_types).room s m args below meth c H locs 0 0 (MQ below (va_Qi (fun r (w : QH × GV × AS) => K r w.2.2 ∧ RepA w.2.1 w.2.2) (fun w => poW (dC, dI) A (WB cI cZ cC cO Q w.1 w.2.1).flatten) A) args s 0 0 A) (F0 m 134 ls [.int y0_9, .int ((i1 >>> ((2 + (2 * s23.2.1)) &&& 31)) >>> (2 &&& 31)), .ref (Q 0 0)]) := by
                        intro y0_9 hf V u H locs ls hR hP hD hS hl
                        unfold jL_types_9 at hf
                        obtain ⟨hne, hf⟩ := hf
                        refine rS (w := []) (W0 := (WB cI cZ cC cO Q u V).flatten) (rest := [.ref (Q 0 0)]) (As := [.int ((i1 >>> ((2 + (2 * s23.2.1)) &&& 31)) >>> (2 &&& 31)), .int y0_9]) ⟨hx, hb, hml, hown, hts⟩ (mL_low l dC dI cI cZ cC cO (((i1 >>> ((2 + (2 * s23.2.1)) &&& 31)) >>> (2 &&& 31))) y0_9 hne) (va_cwS 2 hts gL_types_L_low rfl rfl rfl (by decide +kernel) ⟨Nat.le_of_ble_eq_true rfl, Nat.le_of_ble_eq_true rfl⟩) hK hN hP [] rfl rfl hl.1 rfl (Nat.le_of_ble_eq_true rfl) dL_types_134 ⟨Nat.le_of_ble_eq_true rfl, Nat.le_of_ble_eq_true rfl⟩ ?_
                        refine lv_goto (tgt := 165) hx hb dL_types_137 (by decide) ?_
                        exact hJ7 _ hf _ _ _ _ ls hR hP hD hS (lv_sub hl [0, 1, 2, 3] rfl)
                      refine lv_if_ne (tgt := 132) hx hb dL_types_124 (by decide) (fun hc => ?_) (fun hc => ?_)
                      · have hf := pe hc hf
                        refine lv_bipush (v := 40) hx hb dL_types_132 (by decide) ?_
                        exact hJ9 _ hf _ _ _ _ ls hR hP hD hS (lv_sub hl [0, 1, 2, 3] rfl)
                      · have hf := pt hc hf
                        refine lv_bipush (v := 44) hx hb dL_types_127 (by decide) ?_
                        refine lv_goto (tgt := 134) hx hb dL_types_129 (by decide) ?_
                        exact hJ9 _ hf _ _ _ _ ls hR hP hD hS (lv_sub hl [0, 1, 2, 3] rfl)
              refine lv_icmp_ge (tgt := 78) hx hb dL_types_70 (by decide) (fun hc => ?_) (fun hc => ?_)
              · have hf := pt hc hf
                refine lv_iload hx hb dL_types_78 (lv_at hl 5 rfl) ?_
                refine lv_iconst (v := 5) hx hb dL_types_80 (by decide) ?_
                refine lv_icmp_ne (tgt := 89) hx hb dL_types_81 (by decide) (fun hc => ?_) (fun hc => ?_)
                · have hf := pe hc hf
                  refine lv_bipush (v := 119) hx hb dL_types_89 (by decide) ?_
                  exact hJ5 _ hf _ _ _ _ ls hR hP hD hS (lv_sub hl [0, 1, 2, 3, 4, 5] rfl)
                · have hf := pt hc hf
                  refine lv_bipush (v := 98) hx hb dL_types_84 (by decide) ?_
                  refine lv_goto (tgt := 91) hx hb dL_types_86 (by decide) ?_
                  exact hJ5 _ hf _ _ _ _ ls hR hP hD hS (lv_sub hl [0, 1, 2, 3, 4, 5] rfl)
              · have hf := pe hc hf
                refine lv_bipush (v := 103) hx hb dL_types_73 (by decide) ?_
                refine lv_goto (tgt := 91) hx hb dL_types_75 (by decide) ?_
                exact hJ5 _ hf _ _ _ _ ls hR hP hD hS (lv_sub hl [0, 1, 2, 3, 4, 5] rfl)
            refine lv_if_eq (tgt := 66) hx hb dL_types_54 (by decide) (fun hc => ?_) (fun hc => ?_)
            · have hf := pt hc hf
              exact hJ4 _ hf _ _ _ _ ls hR hP hD hS (lv_sub hl [2, 3, 4, 6, 1, 0] rfl)
            · have hf := pe hc hf
              refine lv_aload_n hx hb dL_types_57 rfl (lv_at hl 2 rfl) ?_
              refine lv_bipush (v := 59) hx hb dL_types_58 (by decide) ?_
              obtain ⟨o60, ho60, hf⟩ := bdE hf
              refine rb_append (ho := ho60) (rest := []) ⟨hx, hb, hml, hown, hts⟩ (cwV 1 hts gL_types_X7_append rfl rfl rfl (by decide +kernel) ⟨Nat.le_of_ble_eq_true rfl, Nat.le_of_ble_eq_true rfl⟩) hK hN hP hD hS hA hR hl.1 rfl (Nat.le_of_ble_eq_true rfl) dL_types_60 ⟨Nat.le_of_ble_eq_true rfl, Nat.le_of_ble_eq_true rfl⟩ (fun V u H locs hR hP hD hS => ?_)
              refine lv_if_le (tgt := 175) hx hb dL_types_63 (by decide) (fun hc => ?_) (fun hc => ?_)
              · have hf := pt hc hf
                exact hJ3 _ hf _ _ _ _ ls hR hP hD hS (lv_sub hl [2, 3, 4, 6] rfl)
              · have hf := pe hc hf
                exact hJ4 _ hf _ _ _ _ ls hR hP hD hS (lv_sub hl [2, 3, 4, 6, 1, 0] rfl)
    refine hL23 _ FU _ hf _ _ _ _ ls hR hP hD hS (lv_sub hl [2, 3, 4, 1, 0] rfl) ?_
    intro o23 hf V u H locs ls hR hP hD hS hl
    have hf : (if o23.1 = 0 then K 0 o23.2 else (if (0 : Int32) < (lwA28 ((i1 >>> (26 &&& 31))) 6) then jL_types_10 K o23.2 else (bd (padA o23.2 (appA o23.2.2.2.2.1 59)) fun o202 => (if o202.1 ≤ 0 then K 0 o202.2 else jL_types_10 K o202.2)))) := hf
    refine lv_iload_n hx hb dL_types_183 rfl (lv_at hl 2 rfl) ?_
    refine lv_if_eq (tgt := 212) hx hb dL_types_184 (by decide) (fun hc => ?_) (fun hc => ?_)
    · have hf := pt hc hf
      refine lv_iconst (v := 0) hx hb dL_types_212 (by decide) ?_
      exact W.zret (v := 0) (ty := .boolean) hx hb hr rfl (fun t ht hW => ⟨⟨_, (u, V, o23.2), rfl, ⟨hf, hR⟩, by rw [ht]; exact hP, hD⟩, hS.F ht⟩) hS.2.2 dL_types_213
    · have hf := pe hc hf
      refine lv_iload_n hx hb dL_types_187 rfl (lv_at hl 1 rfl) ?_
      refine lv_bipush (v := 26) hx hb dL_types_188 (by decide) ?_
      refine lv_ishr hx hb dL_types_190 ?_
      refine lv_bipush (v := 6) hx hb dL_types_191 (by decide) ?_
      refine rS (w := []) (W0 := (WB cI cZ cC cO Q u V).flatten) (rest := []) (As := [.int (i1 >>> (26 &&& 31)), .int 6]) ⟨hx, hb, hml, hown, hts⟩ (mL_low l dC dI cI cZ cC cO ((i1 >>> (26 &&& 31))) 6 (by decide)) (va_cwS 2 hts gL_types_L_low rfl rfl rfl (by decide +kernel) ⟨Nat.le_of_ble_eq_true rfl, Nat.le_of_ble_eq_true rfl⟩) hK hN hP [] rfl rfl hl.1 rfl (Nat.le_of_ble_eq_true rfl) dL_types_193 ⟨Nat.le_of_ble_eq_true rfl, Nat.le_of_ble_eq_true rfl⟩ ?_
      have hJ10 : ∀ (a_10 : AS), jL_types_10 K a_10 → ∀ (V : GV) (u : QH) (H : Heap) (locs : List Loc) (ls : Array Slot), RepA V a_10 → va_P (dC, dI) vwCl (WB cI cZ cC cO Q u V).flatten H → va_D A (WB cI cZ cC cO Q u V).flatten → va_S A s.heap H locs → lv_has ls 7 [] → W p l e (headSpec wsL_types rmL_types).room s m args below meth c H locs 0 0 (MQ below (va_Qi (fun r (w : QH × GV × AS) => K r w.2.2 ∧ RepA w.2.1 w.2.2) (fun w => poW (dC, dI) A (WB cI cZ cC cO Q w.1 w.2.1).flatten) A) args s 0 0 A) (F0 m 208 ls []) := by
        intro a_10 hf V u H locs ls hR hP hD hS hl
        unfold jL_types_10 at hf
        refine lv_iconst (v := 1) hx hb dL_types_208 (by decide) ?_
        refine lv_goto (tgt := 213) hx hb dL_types_209 (by decide) ?_
        exact W.zret (v := 1) (ty := .boolean) hx hb hr rfl (fun t ht hW => ⟨⟨_, (u, V, a_10), rfl, ⟨hf, hR⟩, by rw [ht]; exact hP, hD⟩, hS.F ht⟩) hS.2.2 dL_types_213
      refine lv_if_gt (tgt := 208) hx hb dL_types_196 (by decide) (fun hc => ?_) (fun hc => ?_)
      · have hf := pt hc hf
        exact hJ10 _ hf _ _ _ _ ls hR hP hD hS (lv_sub hl [] rfl)
      · have hf := pe hc hf
        refine lv_aload_n hx hb dL_types_199 rfl (lv_at hl 0 rfl) ?_
        refine lv_bipush (v := 59) hx hb dL_types_200 (by decide) ?_
        obtain ⟨o202, ho202, hf⟩ := bdE hf
        refine rb_append (ho := ho202) (rest := []) ⟨hx, hb, hml, hown, hts⟩ (cwV 1 hts gL_types_X7_append rfl rfl rfl (by decide +kernel) ⟨Nat.le_of_ble_eq_true rfl, Nat.le_of_ble_eq_true rfl⟩) hK hN hP hD hS hA hR hl.1 rfl (Nat.le_of_ble_eq_true rfl) dL_types_202 ⟨Nat.le_of_ble_eq_true rfl, Nat.le_of_ble_eq_true rfl⟩ (fun V u H locs hR hP hD hS => ?_)
        refine lv_if_le (tgt := 212) hx hb dL_types_205 (by decide) (fun hc => ?_) (fun hc => ?_)
        · have hf := pt hc hf
          refine lv_iconst (v := 0) hx hb dL_types_212 (by decide) ?_
          exact W.zret (v := 0) (ty := .boolean) hx hb hr rfl (fun t ht hW => ⟨⟨_, (u, V, o202.2), rfl, ⟨hf, hR⟩, by rw [ht]; exact hP, hD⟩, hS.F ht⟩) hS.2.2 dL_types_213
        · have hf := pe hc hf
          exact hJ10 _ hf _ _ _ _ ls hR hP hD hS (lv_sub hl [] rfl)
  refine lv_if_lt (tgt := 18) hx hb dL_types_11 (by decide) (fun hc => ?_) (fun hc => ?_)
  · have hf := pt hc hf
    refine lv_iconst (v := 0) hx hb dL_types_18 (by decide) ?_
    exact hJ1 _ hf _ _ _ _ ls hR hP hD hS (lv_sub hl [1, 2, 0] rfl)
  · have hf := pe hc hf
    refine lv_iconst (v := 1) hx hb dL_types_14 (by decide) ?_
    refine lv_goto (tgt := 19) hx hb dL_types_15 (by decide) ?_
    exact hJ1 _ hf _ _ _ _ ls hR hP hD hS (lv_sub hl [1, 2, 0] rfl)
