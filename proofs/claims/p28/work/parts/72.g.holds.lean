set_option maxHeartbeats 20000000 in
set_option maxRecDepth 100000 in
theorem mL_holds (l : Launch) (dC : Nat → ClassId) (dI : Nat → Nat → Nat) (cI cZ cC cO : ClassId) (Q : Nat → Nat → Nat) (u : QH) (V : GV) (a : AS) (K : Int32 → Prop) (sz : Nat) (hR : RepA V a) (hf : gL_holds a K) : MetD lw_cs l yL_holds wsL_holds rmL_holds (va_Pc [.ref (Q 0 0)] (pcW (dC, dI) (wTys cI cZ cC cO) sz (WB cI cZ cC cO Q u V).flatten)) (va_Qi (fun r (w : QH × GV) => K r ∧ RepA w.2 a) (fun w => poW (dC, dI) (va_A (WB cI cZ cC cO Q u V).flatten sz) (WB cI cZ cC cO Q w.1 w.2).flatten) (va_A (WB cI cZ cC cO Q u V).flatten sz)) 0 0 (va_A (WB cI cZ cC cO Q u V).flatten sz) := by
  refine MetD.ofW (cc := cL_holds) (maxL := 13) (ret := (some .boolean)) (by decide) rfl ?_
  intro p e s m args below meth c s₁ B hml hv hd0
  obtain ⟨hargs, hsz, hP, hK0, hN0, hD0⟩ := hv
  have hx := B.exec
  have hb := B.bytes
  have hr := B.returns
  have hts0 := atoms_spec (ws := wsL_holds) B.pre
  have hown : s.vm.findClass RL = some m.cls := findClass_of_methodNamed B.named
  have hlocks := B.notSynchronized
  have hts := dr_words hts0 s.drawn
  have hK : va_K (dC, dI) vwCl (wTys cI cZ cC cO) (s.setDrawn s.drawn) := hK0
  have hN : NN (s.setDrawn s.drawn) := hN0
  subst hsz
  have hD := hD0.self (sz := s.heap.size)
  generalize hAe : va_A (WB cI cZ cC cO Q u V).flatten s.heap.size = A at hD ⊢
  have hA : ∀ q : Nat, s.heap.size ≤ q → A q := fun q h => by rw [← hAe]; exact Or.inr h
  have hS : va_S A s.heap s.heap [] := va_S.rf
  have hE := lg_entry_eq m [.ref (Q 0 0)] 13
  rw [← hargs] at hE
  rw [hE]
  have hl := lv_entry [.ref (Q 0 0)] (n := 13) (Nat.le_of_ble_eq_true rfl)
  generalize (lg_sl [.ref (Q 0 0)] ++ List.replicate (13 - (lg_sl [.ref (Q 0 0)]).length) Slot.unset).toArray = ls at hl ⊢
  have hl : lv_has ls 13 [(0, .ref (Q 0 0))] := hl
  have hP : va_P (dC, dI) vwCl (WB cI cZ cC cO Q u V).flatten s.heap := hP
  unfold gL_holds at hf
  refine lv_aload_n hx hb dL_holds_0 rfl (lv_at hl 0 rfl) ?_
  refine lv_iconst (v := 0) hx hb dL_holds_1 (by decide) ?_
  refine rb_count (x0 := 0) (rest := []) ⟨hx, hb, hml, hown, hts⟩ (cwV 1 hts gL_holds_X7_count rfl rfl rfl (by decide +kernel) ⟨Nat.le_of_ble_eq_true rfl, Nat.le_of_ble_eq_true rfl⟩) hK hN hP hD hS hA hR hl.1 rfl (Nat.le_of_ble_eq_true rfl) dL_holds_2 ⟨Nat.le_of_ble_eq_true rfl, Nat.le_of_ble_eq_true rfl⟩ (fun V u H locs hR hP hD hS => ?_)
  refine lv_istore_n (lv' := [(1, .int (cotA a 0)), (0, .ref (Q 0 0))]) hx hb dL_holds_5 rfl hl (by decide) rfl (fun ls hl => ?_)
  refine lv_iconst (v := 0) hx hb dL_holds_6 (by decide) ?_
  refine lv_istore_n (lv' := [(2, .int 0), (1, .int (cotA a 0)), (0, .ref (Q 0 0))]) hx hb dL_holds_7 rfl hl (by decide) rfl (fun ls hl => ?_)
  refine lv_iconst (v := 0) hx hb dL_holds_8 (by decide) ?_
  refine lv_istore_n (lv' := [(3, .int 0), (2, .int 0), (1, .int (cotA a 0)), (0, .ref (Q 0 0))]) hx hb dL_holds_9 rfl hl (by decide) rfl (fun ls hl => ?_)
  refine lv_iconst (v := 0) hx hb dL_holds_10 (by decide) ?_
  refine lv_istore (lv' := [(4, .int 0), (3, .int 0), (2, .int 0), (1, .int (cotA a 0)), (0, .ref (Q 0 0))]) hx hb dL_holds_11 hl (by decide) rfl (fun ls hl => ?_)
  refine lv_iconst (v := 0) hx hb dL_holds_13 (by decide) ?_
  refine lv_istore (lv' := [(5, .int 0), (4, .int 0), (3, .int 0), (2, .int 0), (1, .int (cotA a 0)), (0, .ref (Q 0 0))]) hx hb dL_holds_14 hl (by decide) rfl (fun ls hl => ?_)
  refine lv_iconst (v := 0) hx hb dL_holds_16 (by decide) ?_
  refine lv_istore (lv' := [(6, .int 0), (5, .int 0), (4, .int 0), (3, .int 0), (2, .int 0), (1, .int (cotA a 0)), (0, .ref (Q 0 0))]) hx hb dL_holds_17 hl (by decide) rfl (fun ls hl => ?_)
  refine lv_iload_n hx hb dL_holds_19 rfl (lv_at hl 5 rfl) ?_
  have hJ1 : ∀ (y0_1 : Int32), jL_holds_1 a K y0_1 → ∀ (V : GV) (u : QH) (H : Heap) (locs : List Loc) (ls : Array Slot) (d0 : Drawn), s.drawn.sameBut d0 lw_cs → RepA V a → va_P (dC, dI) vwCl (WB cI cZ cC cO Q u V).flatten H → va_D A (WB cI cZ cC cO Q u V).flatten → va_S A s.heap H locs → lv_has ls 13 [(0, .ref (Q 0 0)), (1, .int (cotA a 0)), (2, .int 0), (3, .int 0), (4, .int 0), (5, .int 0), (6, .int 0)] → W p l e (headSpec wsL_holds rmL_holds).room (s.setDrawn d0) m args below meth c H locs 0 0 (MQD lw_cs below (va_Qi (fun r (w : QH × GV) => K r ∧ RepA w.2 a) (fun w => poW (dC, dI) A (WB cI cZ cC cO Q w.1 w.2).flatten) A) args s 0 0 A) (F0 m 95 ls [.int y0_1]) := by
    intro y0_1 hf V u H locs ls d0 hd0 hR hP hD hS hl
    have hts := dr_words hts0 d0
    have hK : va_K (dC, dI) vwCl (wTys cI cZ cC cO) (s.setDrawn d0) := hK0
    have hN : NN (s.setDrawn d0) := hN0
    unfold jL_holds_1 at hf
    refine lv_istore (lv' := [(7, .int y0_1), (0, .ref (Q 0 0)), (1, .int (cotA a 0)), (2, .int 0), (3, .int 0), (4, .int 0), (5, .int 0), (6, .int 0)]) hx hb dL_holds_95 hl (by decide) rfl (fun ls hl => ?_)
    refine lv_iconst (v := 0) hx hb dL_holds_97 (by decide) ?_
    refine lv_istore (lv' := [(8, .int 0), (7, .int y0_1), (0, .ref (Q 0 0)), (1, .int (cotA a 0)), (2, .int 0), (3, .int 0), (4, .int 0), (5, .int 0), (6, .int 0)]) hx hb dL_holds_98 hl (by decide) rfl (fun ls hl => ?_)
    have hL100 : ∀ (KX100 : (Int32 × Int32 × Int32 × Int32 × Int32) → Prop) (n : Nat) (s100 : Int32 × Int32 × Int32 × Int32 × Int32 × Int32), lpP (tL_holds_100 a) n s100 KX100 → ∀ (V : GV) (u : QH) (H : Heap) (locs : List Loc) (ls : Array Slot) (d0 : Drawn), s.drawn.sameBut d0 lw_cs → RepA V a → va_P (dC, dI) vwCl (WB cI cZ cC cO Q u V).flatten H → va_D A (WB cI cZ cC cO Q u V).flatten → va_S A s.heap H locs → lv_has ls 13 [(0, .ref (Q 0 0)), (1, .int (cotA a 0)), (2, .int s100.1), (3, .int s100.2.1), (4, .int s100.2.2.1), (5, .int s100.2.2.2.1), (6, .int 0), (7, .int s100.2.2.2.2.1), (8, .int s100.2.2.2.2.2)] → (∀ (o100 : Int32 × Int32 × Int32 × Int32 × Int32), KX100 o100 → ∀ (V : GV) (u : QH) (H : Heap) (locs : List Loc) (ls : Array Slot) (d0 : Drawn), s.drawn.sameBut d0 lw_cs → RepA V a → va_P (dC, dI) vwCl (WB cI cZ cC cO Q u V).flatten H → va_D A (WB cI cZ cC cO Q u V).flatten → va_S A s.heap H locs → lv_has ls 13 [(0, .ref (Q 0 0)), (1, .int (cotA a 0)), (2, .int o100.1), (3, .int o100.2.1), (4, .int o100.2.2.1), (5, .int o100.2.2.2.1), (6, .int 0), (7, .int o100.2.2.2.2)] → W p l e (headSpec wsL_holds rmL_holds).room (s.setDrawn d0) m args below meth c H locs 0 0 (MQD lw_cs below (va_Qi (fun r (w : QH × GV) => K r ∧ RepA w.2 a) (fun w => poW (dC, dI) A (WB cI cZ cC cO Q w.1 w.2).flatten) A) args s 0 0 A) (F0 m 402 ls [])) → W p l e (headSpec wsL_holds rmL_holds).room (s.setDrawn d0) m args below meth c H locs 0 0 (MQD lw_cs below (va_Qi (fun r (w : QH × GV) => K r ∧ RepA w.2 a) (fun w => poW (dC, dI) A (WB cI cZ cC cO Q w.1 w.2).flatten) A) args s 0 0 A) (F0 m 100 ls []) := by
      intro KX100 n
      induction n with
      | zero => intro s100 hf; exact False.elim hf
      | succ n ih100 =>
        intro s100 hf V u H locs ls d0 hd0 hR hP hD hS hl kx
        have hts := dr_words hts0 d0
        have hK : va_K (dC, dI) vwCl (wTys cI cZ cC cO) (s.setDrawn d0) := hK0
        have hN : NN (s.setDrawn d0) := hN0
        obtain ⟨KB100, hKB100⟩ : ∃ F : (Int32 × Int32 × Int32 × Int32 × Int32 × Int32) → Prop, F = fun s9 => lpP (tL_holds_100 a) n s9 KX100 := ⟨_, rfl⟩
        have hf : tL_holds_100 a s100 KB100 KX100 := by rw [hKB100]; exact hf
        unfold tL_holds_100 at hf
        refine lv_iload hx hb dL_holds_100 (lv_at hl 8 rfl) ?_
        refine lv_iload_n hx hb dL_holds_102 rfl (lv_at hl 1 rfl) ?_
        refine lv_icmp_ge (tgt := 402) hx hb dL_holds_103 (by decide) (fun hc => ?_) (fun hc => ?_)
        · have hf := pt hc hf
          exact kx _ hf _ _ _ _ ls _ hd0 hR hP hD hS (lv_sub hl [0, 1, 2, 3, 4, 5, 6, 7] rfl)
        · have hf := pe hc hf
          refine lv_iload hx hb dL_holds_106 (lv_at hl 7 rfl) ?_
          refine lv_if_eq (tgt := 402) hx hb dL_holds_108 (by decide) (fun hc => ?_) (fun hc => ?_)
          · have hf := pt hc hf
            exact kx _ hf _ _ _ _ ls _ hd0 hR hP hD hS (lv_sub hl [0, 1, 2, 3, 4, 5, 6, 7] rfl)
          · have hf := pe hc hf
            refine lv_aload_n hx hb dL_holds_111 rfl (lv_at hl 0 rfl) ?_
            refine lv_iload hx hb dL_holds_112 (lv_at hl 8 rfl) ?_
            refine lv_iconst (v := 1) hx hb dL_holds_114 (by decide) ?_
            refine rb_grain (x0 := s100.2.2.2.2.2) (x1 := 1) (rest := []) ⟨hx, hb, hml, hown, hts⟩ (cwV 2 hts gL_holds_X7_grain rfl rfl rfl (by decide +kernel) ⟨Nat.le_of_ble_eq_true rfl, Nat.le_of_ble_eq_true rfl⟩) hK hN hP hD hS hA hR hl.1 rfl (Nat.le_of_ble_eq_true rfl) dL_holds_115 ⟨Nat.le_of_ble_eq_true rfl, Nat.le_of_ble_eq_true rfl⟩ (fun V u H locs hR hP hD hS => ?_)
            refine lv_istore (lv' := [(9, .int (grnA a.1 s100.2.2.2.2.2 1)), (0, .ref (Q 0 0)), (1, .int (cotA a 0)), (2, .int s100.1), (3, .int s100.2.1), (4, .int s100.2.2.1), (5, .int s100.2.2.2.1), (6, .int 0), (7, .int s100.2.2.2.2.1), (8, .int s100.2.2.2.2.2)]) hx hb dL_holds_118 hl (by decide) rfl (fun ls hl => ?_)
            refine lv_aload_n hx hb dL_holds_120 rfl (lv_at hl 1 rfl) ?_
            refine lv_iload hx hb dL_holds_121 (lv_at hl 9 rfl) ?_
            refine lv_iconst (v := 0) hx hb dL_holds_123 (by decide) ?_
            refine rb_grain (x0 := s100.2.2.2.2.2) (x1 := 0) (rest := []) ⟨hx, hb, hml, hown, hts⟩ (cwV 2 hts gL_holds_X7_grain rfl rfl rfl (by decide +kernel) ⟨Nat.le_of_ble_eq_true rfl, Nat.le_of_ble_eq_true rfl⟩) hK hN hP hD hS hA hR hl.1 rfl (Nat.le_of_ble_eq_true rfl) dL_holds_124 ⟨Nat.le_of_ble_eq_true rfl, Nat.le_of_ble_eq_true rfl⟩ (fun V u H locs hR hP hD hS => ?_)
            refine lv_istore (lv' := [(10, .int (grnA a.1 s100.2.2.2.2.2 0)), (9, .int (grnA a.1 s100.2.2.2.2.2 1)), (0, .ref (Q 0 0)), (1, .int (cotA a 0)), (2, .int s100.1), (3, .int s100.2.1), (4, .int s100.2.2.1), (5, .int s100.2.2.2.1), (6, .int 0), (7, .int s100.2.2.2.2.1), (8, .int s100.2.2.2.2.2)]) hx hb dL_holds_127 hl (by decide) rfl (fun ls hl => ?_)
            refine lv_iload hx hb dL_holds_129 (lv_at hl 1 rfl) ?_
            refine lv_bipush (v := (-4)) hx hb dL_holds_131 (by decide) ?_
            have hJ2 : ∀ (y0_2 : Int32), jL_holds_2 a s100 KB100 y0_2 → ∀ (V : GV) (u : QH) (H : Heap) (locs : List Loc) (ls : Array Slot) (d0 : Drawn), s.drawn.sameBut d0 lw_cs → RepA V a → va_P (dC, dI) vwCl (WB cI cZ cC cO Q u V).flatten H → va_D A (WB cI cZ cC cO Q u V).flatten → va_S A s.heap H locs → lv_has ls 13 [(0, .ref (Q 0 0)), (1, .int (cotA a 0)), (2, .int s100.1), (3, .int s100.2.1), (4, .int s100.2.2.1), (5, .int s100.2.2.2.1), (6, .int 0), (8, .int s100.2.2.2.2.2), (9, .int (grnA a.1 s100.2.2.2.2.2 1)), (10, .int (grnA a.1 s100.2.2.2.2.2 0))] → W p l e (headSpec wsL_holds rmL_holds).room (s.setDrawn d0) m args below meth c H locs 0 0 (MQD lw_cs below (va_Qi (fun r (w : QH × GV) => K r ∧ RepA w.2 a) (fun w => poW (dC, dI) A (WB cI cZ cC cO Q w.1 w.2).flatten) A) args s 0 0 A) (F0 m 148 ls [.int y0_2]) := by
              intro y0_2 hf V u H locs ls d0 hd0 hR hP hD hS hl
              have hts := dr_words hts0 d0
              have hK : va_K (dC, dI) vwCl (wTys cI cZ cC cO) (s.setDrawn d0) := hK0
              have hN : NN (s.setDrawn d0) := hN0
              unfold jL_holds_2 at hf
              refine lv_istore (lv' := [(11, .int y0_2), (0, .ref (Q 0 0)), (1, .int (cotA a 0)), (2, .int s100.1), (3, .int s100.2.1), (4, .int s100.2.2.1), (5, .int s100.2.2.2.1), (6, .int 0), (8, .int s100.2.2.2.2.2), (9, .int (grnA a.1 s100.2.2.2.2.2 1)), (10, .int (grnA a.1 s100.2.2.2.2.2 0))]) hx hb dL_holds_148 hl (by decide) rfl (fun ls hl => ?_)
              refine lv_iload hx hb dL_holds_150 (lv_at hl 10 rfl) ?_
              refine lv_iload hx hb dL_holds_152 (lv_at hl 0 rfl) ?_
              have hJ3 : ∀ (y0_3 : Int32), jL_holds_3 a s100 KB100 y0_2 y0_3 → ∀ (V : GV) (u : QH) (H : Heap) (locs : List Loc) (ls : Array Slot) (d0 : Drawn), s.drawn.sameBut d0 lw_cs → RepA V a → va_P (dC, dI) vwCl (WB cI cZ cC cO Q u V).flatten H → va_D A (WB cI cZ cC cO Q u V).flatten → va_S A s.heap H locs → lv_has ls 13 [(0, .ref (Q 0 0)), (1, .int (cotA a 0)), (2, .int s100.1), (3, .int s100.2.1), (4, .int s100.2.2.1), (5, .int s100.2.2.2.1), (6, .int 0), (8, .int s100.2.2.2.2.2), (9, .int (grnA a.1 s100.2.2.2.2.2 1)), (10, .int (grnA a.1 s100.2.2.2.2.2 0)), (11, .int y0_2)] → W p l e (headSpec wsL_holds rmL_holds).room (s.setDrawn d0) m args below meth c H locs 0 0 (MQD lw_cs below (va_Qi (fun r (w : QH × GV) => K r ∧ RepA w.2 a) (fun w => poW (dC, dI) A (WB cI cZ cC cO Q w.1 w.2).flatten) A) args s 0 0 A) (F0 m 170 ls [.int y0_3]) := by
                intro y0_3 hf V u H locs ls d0 hd0 hR hP hD hS hl
                have hts := dr_words hts0 d0
                have hK : va_K (dC, dI) vwCl (wTys cI cZ cC cO) (s.setDrawn d0) := hK0
                have hN : NN (s.setDrawn d0) := hN0
                unfold jL_holds_3 at hf
                refine lv_istore (lv' := [(12, .int y0_3), (0, .ref (Q 0 0)), (1, .int (cotA a 0)), (2, .int s100.1), (3, .int s100.2.1), (4, .int s100.2.2.1), (5, .int s100.2.2.2.1), (6, .int 0), (8, .int s100.2.2.2.2.2), (9, .int (grnA a.1 s100.2.2.2.2.2 1)), (10, .int (grnA a.1 s100.2.2.2.2.2 0)), (11, .int y0_2)]) hx hb dL_holds_170 hl (by decide) rfl (fun ls hl => ?_)
                refine lv_iload_n hx hb dL_holds_172 rfl (lv_at hl 3 rfl) ?_
                refine lv_iload hx hb dL_holds_173 (lv_at hl 9 rfl) ?_
                refine lv_bipush (v := (-4)) hx hb dL_holds_175 (by decide) ?_
                have hJ4 : ∀ (y0_4 : Int32), jL_holds_4 a s100 KB100 y0_2 y0_3 y0_4 → ∀ (V : GV) (u : QH) (H : Heap) (locs : List Loc) (ls : Array Slot) (d0 : Drawn), s.drawn.sameBut d0 lw_cs → RepA V a → va_P (dC, dI) vwCl (WB cI cZ cC cO Q u V).flatten H → va_D A (WB cI cZ cC cO Q u V).flatten → va_S A s.heap H locs → lv_has ls 13 [(0, .ref (Q 0 0)), (1, .int (cotA a 0)), (3, .int s100.2.1), (4, .int s100.2.2.1), (5, .int s100.2.2.2.1), (6, .int 0), (8, .int s100.2.2.2.2.2), (9, .int (grnA a.1 s100.2.2.2.2.2 1)), (10, .int (grnA a.1 s100.2.2.2.2.2 0)), (11, .int y0_2), (12, .int y0_3)] → W p l e (headSpec wsL_holds rmL_holds).room (s.setDrawn d0) m args below meth c H locs 0 0 (MQD lw_cs below (va_Qi (fun r (w : QH × GV) => K r ∧ RepA w.2 a) (fun w => poW (dC, dI) A (WB cI cZ cC cO Q w.1 w.2).flatten) A) args s 0 0 A) (F0 m 185 ls [.int y0_4, .int s100.1]) := by
                  intro y0_4 hf V u H locs ls d0 hd0 hR hP hD hS hl
                  have hts := dr_words hts0 d0
                  have hK : va_K (dC, dI) vwCl (wTys cI cZ cC cO) (s.setDrawn d0) := hK0
                  have hN : NN (s.setDrawn d0) := hN0
                  unfold jL_holds_4 at hf
                  refine lv_iadd hx hb dL_holds_185 ?_
                  refine lv_istore_n (lv' := [(2, .int (s100.1 + y0_4)), (0, .ref (Q 0 0)), (1, .int (cotA a 0)), (3, .int s100.2.1), (4, .int s100.2.2.1), (5, .int s100.2.2.2.1), (6, .int 0), (8, .int s100.2.2.2.2.2), (9, .int (grnA a.1 s100.2.2.2.2.2 1)), (10, .int (grnA a.1 s100.2.2.2.2.2 0)), (11, .int y0_2), (12, .int y0_3)]) hx hb dL_holds_186 rfl hl (by decide) rfl (fun ls hl => ?_)
                  refine lv_iload_n hx hb dL_holds_187 rfl (lv_at hl 3 rfl) ?_
                  refine lv_aload_n hx hb dL_holds_188 rfl (lv_at hl 1 rfl) ?_
                  refine lv_iload hx hb dL_holds_189 (lv_at hl 7 rfl) ?_
                  refine lv_iconst (v := 3) hx hb dL_holds_191 (by decide) ?_
                  refine rb_grain (x0 := s100.2.2.2.2.2) (x1 := 3) (rest := [.int s100.2.1]) ⟨hx, hb, hml, hown, hts⟩ (cwV 2 hts gL_holds_X7_grain rfl rfl rfl (by decide +kernel) ⟨Nat.le_of_ble_eq_true rfl, Nat.le_of_ble_eq_true rfl⟩) hK hN hP hD hS hA hR hl.1 rfl (Nat.le_of_ble_eq_true rfl) dL_holds_192 ⟨Nat.le_of_ble_eq_true rfl, Nat.le_of_ble_eq_true rfl⟩ (fun V u H locs hR hP hD hS => ?_)
                  have hJ5 : ∀ (y0_5 : Int32), jL_holds_5 a s100 KB100 y0_2 y0_3 y0_4 y0_5 → ∀ (V : GV) (u : QH) (H : Heap) (locs : List Loc) (ls : Array Slot) (d0 : Drawn), s.drawn.sameBut d0 lw_cs → RepA V a → va_P (dC, dI) vwCl (WB cI cZ cC cO Q u V).flatten H → va_D A (WB cI cZ cC cO Q u V).flatten → va_S A s.heap H locs → lv_has ls 13 [(0, .ref (Q 0 0)), (1, .int (cotA a 0)), (2, .int (s100.1 + y0_4)), (4, .int s100.2.2.1), (5, .int s100.2.2.2.1), (6, .int 0), (8, .int s100.2.2.2.2.2), (9, .int (grnA a.1 s100.2.2.2.2.2 1)), (10, .int (grnA a.1 s100.2.2.2.2.2 0)), (11, .int y0_2), (12, .int y0_3)] → W p l e (headSpec wsL_holds rmL_holds).room (s.setDrawn d0) m args below meth c H locs 0 0 (MQD lw_cs below (va_Qi (fun r (w : QH × GV) => K r ∧ RepA w.2 a) (fun w => poW (dC, dI) A (WB cI cZ cC cO Q w.1 w.2).flatten) A) args s 0 0 A) (F0 m 203 ls [.int y0_5, .int s100.2.1]) := by
                    intro y0_5 hf V u H locs ls d0 hd0 hR hP hD hS hl
                    have hts := dr_words hts0 d0
                    have hK : va_K (dC, dI) vwCl (wTys cI cZ cC cO) (s.setDrawn d0) := hK0
                    have hN : NN (s.setDrawn d0) := hN0
                    unfold jL_holds_5 at hf
                    refine lv_iadd hx hb dL_holds_203 ?_
                    refine lv_istore_n (lv' := [(3, .int (s100.2.1 + y0_5)), (0, .ref (Q 0 0)), (1, .int (cotA a 0)), (2, .int (s100.1 + y0_4)), (4, .int s100.2.2.1), (5, .int s100.2.2.2.1), (6, .int 0), (8, .int s100.2.2.2.2.2), (9, .int (grnA a.1 s100.2.2.2.2.2 1)), (10, .int (grnA a.1 s100.2.2.2.2.2 0)), (11, .int y0_2), (12, .int y0_3)]) hx hb dL_holds_204 rfl hl (by decide) rfl (fun ls hl => ?_)
                    refine lv_iload hx hb dL_holds_205 (lv_at hl 4 rfl) ?_
                    refine lv_aload_n hx hb dL_holds_207 rfl (lv_at hl 1 rfl) ?_
                    refine lv_iload hx hb dL_holds_208 (lv_at hl 7 rfl) ?_
                    refine lv_iconst (v := 3) hx hb dL_holds_210 (by decide) ?_
                    refine rb_grain (x0 := s100.2.2.2.2.2) (x1 := 3) (rest := [.int s100.2.2.1]) ⟨hx, hb, hml, hown, hts⟩ (cwV 2 hts gL_holds_X7_grain rfl rfl rfl (by decide +kernel) ⟨Nat.le_of_ble_eq_true rfl, Nat.le_of_ble_eq_true rfl⟩) hK hN hP hD hS hA hR hl.1 rfl (Nat.le_of_ble_eq_true rfl) dL_holds_211 ⟨Nat.le_of_ble_eq_true rfl, Nat.le_of_ble_eq_true rfl⟩ (fun V u H locs hR hP hD hS => ?_)
                    refine lv_iconst (v := 1) hx hb dL_holds_214 (by decide) ?_
                    have hJ6 : ∀ (y0_6 : Int32), jL_holds_6 a s100 KB100 y0_2 y0_3 y0_4 y0_5 y0_6 → ∀ (V : GV) (u : QH) (H : Heap) (locs : List Loc) (ls : Array Slot) (d0 : Drawn), s.drawn.sameBut d0 lw_cs → RepA V a → va_P (dC, dI) vwCl (WB cI cZ cC cO Q u V).flatten H → va_D A (WB cI cZ cC cO Q u V).flatten → va_S A s.heap H locs → lv_has ls 13 [(0, .ref (Q 0 0)), (1, .int (cotA a 0)), (2, .int (s100.1 + y0_4)), (3, .int (s100.2.1 + y0_5)), (5, .int s100.2.2.2.1), (6, .int 0), (8, .int s100.2.2.2.2.2), (9, .int (grnA a.1 s100.2.2.2.2.2 1)), (10, .int (grnA a.1 s100.2.2.2.2.2 0)), (11, .int y0_2), (12, .int y0_3)] → W p l e (headSpec wsL_holds rmL_holds).room (s.setDrawn d0) m args below meth c H locs 0 0 (MQD lw_cs below (va_Qi (fun r (w : QH × GV) => K r ∧ RepA w.2 a) (fun w => poW (dC, dI) A (WB cI cZ cC cO Q w.1 w.2).flatten) A) args s 0 0 A) (F0 m 223 ls [.int y0_6, .int s100.2.2.1]) := by
                      intro y0_6 hf V u H locs ls d0 hd0 hR hP hD hS hl
                      have hts := dr_words hts0 d0
                      have hK : va_K (dC, dI) vwCl (wTys cI cZ cC cO) (s.setDrawn d0) := hK0
                      have hN : NN (s.setDrawn d0) := hN0
                      unfold jL_holds_6 at hf
                      refine lv_iadd hx hb dL_holds_223 ?_
                      refine lv_istore (lv' := [(4, .int (s100.2.2.1 + y0_6)), (0, .ref (Q 0 0)), (1, .int (cotA a 0)), (2, .int (s100.1 + y0_4)), (3, .int (s100.2.1 + y0_5)), (5, .int s100.2.2.2.1), (6, .int 0), (8, .int s100.2.2.2.2.2), (9, .int (grnA a.1 s100.2.2.2.2.2 1)), (10, .int (grnA a.1 s100.2.2.2.2.2 0)), (11, .int y0_2), (12, .int y0_3)]) hx hb dL_holds_224 hl (by decide) rfl (fun ls hl => ?_)
                      refine lv_iload hx hb dL_holds_226 (lv_at hl 5 rfl) ?_
                      refine lv_aload_n hx hb dL_holds_228 rfl (lv_at hl 1 rfl) ?_
                      refine lv_iload hx hb dL_holds_229 (lv_at hl 7 rfl) ?_
                      refine lv_iconst (v := 3) hx hb dL_holds_231 (by decide) ?_
                      refine rb_grain (x0 := s100.2.2.2.2.2) (x1 := 3) (rest := [.int s100.2.2.2.1]) ⟨hx, hb, hml, hown, hts⟩ (cwV 2 hts gL_holds_X7_grain rfl rfl rfl (by decide +kernel) ⟨Nat.le_of_ble_eq_true rfl, Nat.le_of_ble_eq_true rfl⟩) hK hN hP hD hS hA hR hl.1 rfl (Nat.le_of_ble_eq_true rfl) dL_holds_232 ⟨Nat.le_of_ble_eq_true rfl, Nat.le_of_ble_eq_true rfl⟩ (fun V u H locs hR hP hD hS => ?_)
                      refine lv_iadd hx hb dL_holds_235 ?_
                      refine lv_istore (lv' := [(5, .int (s100.2.2.2.1 + (grnA a.1 s100.2.2.2.2.2 3))), (4, .int (s100.2.2.1 + y0_6)), (0, .ref (Q 0 0)), (1, .int (cotA a 0)), (2, .int (s100.1 + y0_4)), (3, .int (s100.2.1 + y0_5)), (6, .int 0), (8, .int s100.2.2.2.2.2), (9, .int (grnA a.1 s100.2.2.2.2.2 1)), (10, .int (grnA a.1 s100.2.2.2.2.2 0)), (11, .int y0_2), (12, .int y0_3)]) hx hb dL_holds_236 hl (by decide) rfl (fun ls hl => ?_)
                      refine lv_aload_n hx hb dL_holds_238 rfl (lv_at hl 2 rfl) ?_
                      refine lv_iload hx hb dL_holds_239 (lv_at hl 9 rfl) ?_
                      refine lv_iconst (v := 0) hx hb dL_holds_241 (by decide) ?_
                      refine rb_cell (x0 := ((grnA a.1 s100.2.2.2.2.2 0))) (x1 := 0) (rest := []) ⟨hx, hb, hml, hown, hts⟩ (cwV 2 hts gL_holds_X7_cell rfl rfl rfl (by decide +kernel) ⟨Nat.le_of_ble_eq_true rfl, Nat.le_of_ble_eq_true rfl⟩) hK hN hP hD hS hA hR hl.1 rfl (Nat.le_of_ble_eq_true rfl) dL_holds_242 ⟨Nat.le_of_ble_eq_true rfl, Nat.le_of_ble_eq_true rfl⟩ (fun V u H locs hR hP hD hS => ?_)
                      refine lv_iload hx hb dL_holds_245 (lv_at hl 7 rfl) ?_
                      have hJ7 : ∀ (y0_7 : Int32), jL_holds_7 a s100 KB100 y0_4 y0_5 y0_6 y0_7 → ∀ (V : GV) (u : QH) (H : Heap) (locs : List Loc) (ls : Array Slot) (d0 : Drawn), s.drawn.sameBut d0 lw_cs → RepA V a → va_P (dC, dI) vwCl (WB cI cZ cC cO Q u V).flatten H → va_D A (WB cI cZ cC cO Q u V).flatten → va_S A s.heap H locs → lv_has ls 13 [(0, .ref (Q 0 0)), (1, .int (cotA a 0)), (2, .int (s100.1 + y0_4)), (3, .int (s100.2.1 + y0_5)), (4, .int (s100.2.2.1 + y0_6)), (5, .int (s100.2.2.2.1 + (grnA a.1 s100.2.2.2.2.2 3))), (6, .int 0), (8, .int s100.2.2.2.2.2)] → W p l e (headSpec wsL_holds rmL_holds).room (s.setDrawn d0) m args below meth c H locs 0 0 (MQD lw_cs below (va_Qi (fun r (w : QH × GV) => K r ∧ RepA w.2 a) (fun w => poW (dC, dI) A (WB cI cZ cC cO Q w.1 w.2).flatten) A) args s 0 0 A) (F0 m 394 ls [.int y0_7]) := by
                        intro y0_7 hf V u H locs ls d0 hd0 hR hP hD hS hl
                        have hts := dr_words hts0 d0
                        have hK : va_K (dC, dI) vwCl (wTys cI cZ cC cO) (s.setDrawn d0) := hK0
                        have hN : NN (s.setDrawn d0) := hN0
                        unfold jL_holds_7 at hf
                        refine lv_istore (lv' := [(7, .int y0_7), (0, .ref (Q 0 0)), (1, .int (cotA a 0)), (2, .int (s100.1 + y0_4)), (3, .int (s100.2.1 + y0_5)), (4, .int (s100.2.2.1 + y0_6)), (5, .int (s100.2.2.2.1 + (grnA a.1 s100.2.2.2.2.2 3))), (6, .int 0), (8, .int s100.2.2.2.2.2)]) hx hb dL_holds_394 hl (by decide) rfl (fun ls hl => ?_)
                        refine lv_iinc (v := (s100.2.2.2.2.2 + 1)) (lv' := [(8, .int (s100.2.2.2.2.2 + 1)), (7, .int y0_7), (0, .ref (Q 0 0)), (1, .int (cotA a 0)), (2, .int (s100.1 + y0_4)), (3, .int (s100.2.1 + y0_5)), (4, .int (s100.2.2.1 + y0_6)), (5, .int (s100.2.2.2.1 + (grnA a.1 s100.2.2.2.2.2 3))), (6, .int 0)]) hx hb dL_holds_396 hl (k := 8) rfl rfl (by decide) rfl (fun ls hl => ?_)
                        refine lv_goto (tgt := 100) hx hb dL_holds_399 (by decide) ?_
                        rw [hKB100] at hf
                        exact ih100 _ hf _ _ _ _ ls _ hd0 hR hP hD hS (lv_sub hl [2, 3, 4, 5, 6, 7, 8, 1, 0] rfl) kx
                      have hJ8 : jL_holds_8 a s100 KB100 y0_4 y0_5 y0_6 → ∀ (V : GV) (u : QH) (H : Heap) (locs : List Loc) (ls : Array Slot) (d0 : Drawn), s.drawn.sameBut d0 lw_cs → RepA V a → va_P (dC, dI) vwCl (WB cI cZ cC cO Q u V).flatten H → va_D A (WB cI cZ cC cO Q u V).flatten → va_S A s.heap H locs → lv_has ls 13 [(0, .ref (Q 0 0)), (1, .int (cotA a 0)), (2, .int (s100.1 + y0_4)), (3, .int (s100.2.1 + y0_5)), (4, .int (s100.2.2.1 + y0_6)), (5, .int (s100.2.2.2.1 + (grnA a.1 s100.2.2.2.2.2 3))), (6, .int 0), (8, .int s100.2.2.2.2.2)] → W p l e (headSpec wsL_holds rmL_holds).room (s.setDrawn d0) m args below meth c H locs 0 0 (MQD lw_cs below (va_Qi (fun r (w : QH × GV) => K r ∧ RepA w.2 a) (fun w => poW (dC, dI) A (WB cI cZ cC cO Q w.1 w.2).flatten) A) args s 0 0 A) (F0 m 393 ls []) := by
                        intro hf V u H locs ls d0 hd0 hR hP hD hS hl
                        have hts := dr_words hts0 d0
                        have hK : va_K (dC, dI) vwCl (wTys cI cZ cC cO) (s.setDrawn d0) := hK0
                        have hN : NN (s.setDrawn d0) := hN0
                        unfold jL_holds_8 at hf
                        refine lv_iconst (v := 0) hx hb dL_holds_393 (by decide) ?_
                        exact hJ7 _ hf _ _ _ _ ls _ hd0 hR hP hD hS (lv_sub hl [0, 1, 2, 3, 4, 5, 6, 7] rfl)
                      refine lv_icmp_ne (tgt := 393) hx hb dL_holds_247 (by decide) (fun hc => ?_) (fun hc => ?_)
                      · have hf := pe hc hf
                        exact hJ8 hf _ _ _ _ ls _ hd0 hR hP hD hS (lv_sub hl [2, 3, 4, 5, 1, 0, 6, 7] rfl)
                      · have hf := pt hc hf
                        refine lv_iload hx hb dL_holds_250 (lv_at hl 8 rfl) ?_
                        refine lv_bipush (v := (-4)) hx hb dL_holds_252 (by decide) ?_
                        have hJ9 : jL_holds_9 a s100 KB100 y0_4 y0_5 y0_6 → ∀ (V : GV) (u : QH) (H : Heap) (locs : List Loc) (ls : Array Slot) (d0 : Drawn), s.drawn.sameBut d0 lw_cs → RepA V a → va_P (dC, dI) vwCl (WB cI cZ cC cO Q u V).flatten H → va_D A (WB cI cZ cC cO Q u V).flatten → va_S A s.heap H locs → lv_has ls 13 [(0, .ref (Q 0 0)), (1, .int (cotA a 0)), (2, .int (s100.1 + y0_4)), (3, .int (s100.2.1 + y0_5)), (4, .int (s100.2.2.1 + y0_6)), (5, .int (s100.2.2.2.1 + (grnA a.1 s100.2.2.2.2.2 3))), (6, .int 0), (8, .int s100.2.2.2.2.2), (10, .int (grnA a.1 s100.2.2.2.2.2 0))] → W p l e (headSpec wsL_holds rmL_holds).room (s.setDrawn d0) m args below meth c H locs 0 0 (MQD lw_cs below (va_Qi (fun r (w : QH × GV) => K r ∧ RepA w.2 a) (fun w => poW (dC, dI) A (WB cI cZ cC cO Q w.1 w.2).flatten) A) args s 0 0 A) (F0 m 360 ls []) := by
                          intro hf V u H locs ls d0 hd0 hR hP hD hS hl
                          have hts := dr_words hts0 d0
                          have hK : va_K (dC, dI) vwCl (wTys cI cZ cC cO) (s.setDrawn d0) := hK0
                          have hN : NN (s.setDrawn d0) := hN0
                          unfold jL_holds_9 at hf
                          refine lv_aload_n hx hb dL_holds_360 rfl (lv_at hl 0 rfl) ?_
                          refine lv_iload hx hb dL_holds_361 (lv_at hl 7 rfl) ?_
                          refine lv_bipush (v := 8) hx hb dL_holds_363 (by decide) ?_
                          refine rb_grain (x0 := s100.2.2.2.2.2) (x1 := 8) (rest := []) ⟨hx, hb, hml, hown, hts⟩ (cwV 2 hts gL_holds_X7_grain rfl rfl rfl (by decide +kernel) ⟨Nat.le_of_ble_eq_true rfl, Nat.le_of_ble_eq_true rfl⟩) hK hN hP hD hS hA hR hl.1 rfl (Nat.le_of_ble_eq_true rfl) dL_holds_365 ⟨Nat.le_of_ble_eq_true rfl, Nat.le_of_ble_eq_true rfl⟩ (fun V u H locs hR hP hD hS => ?_)
                          refine lv_sipush (v := 200) hx hb dL_holds_368 (by decide) ?_
                          refine lv_icmp_gt (tgt := 393) hx hb dL_holds_371 (by decide) (fun hc => ?_) (fun hc => ?_)
                          · have hf := pt hc hf
                            exact hJ8 hf _ _ _ _ ls _ hd0 hR hP hD hS (lv_sub hl [0, 1, 2, 3, 4, 5, 6, 7] rfl)
                          · have hf := pe hc hf
                            refine lv_aload_n hx hb dL_holds_374 rfl (lv_at hl 0 rfl) ?_
                            refine lv_iload hx hb dL_holds_375 (lv_at hl 8 rfl) ?_
                            refine lv_iconst (v := 1) hx hb dL_holds_377 (by decide) ?_
                            refine rb_cell (x0 := ((grnA a.1 s100.2.2.2.2.2 0))) (x1 := 1) (rest := []) ⟨hx, hb, hml, hown, hts⟩ (cwV 2 hts gL_holds_X7_cell rfl rfl rfl (by decide +kernel) ⟨Nat.le_of_ble_eq_true rfl, Nat.le_of_ble_eq_true rfl⟩) hK hN hP hD hS hA hR hl.1 rfl (Nat.le_of_ble_eq_true rfl) dL_holds_378 ⟨Nat.le_of_ble_eq_true rfl, Nat.le_of_ble_eq_true rfl⟩ (fun V u H locs hR hP hD hS => ?_)
                            refine lv_aload_n hx hb dL_holds_381 rfl (lv_at hl 0 rfl) ?_
                            refine lv_iconst (v := 5) hx hb dL_holds_382 (by decide) ?_
                            refine rb_count (x0 := 5) (rest := [.int (celA a.1 ((grnA a.1 s100.2.2.2.2.2 0)) 1)]) ⟨hx, hb, hml, hown, hts⟩ (cwV 1 hts gL_holds_X7_count rfl rfl rfl (by decide +kernel) ⟨Nat.le_of_ble_eq_true rfl, Nat.le_of_ble_eq_true rfl⟩) hK hN hP hD hS hA hR hl.1 rfl (Nat.le_of_ble_eq_true rfl) dL_holds_383 ⟨Nat.le_of_ble_eq_true rfl, Nat.le_of_ble_eq_true rfl⟩ (fun V u H locs hR hP hD hS => ?_)
                            refine lv_icmp_gt (tgt := 393) hx hb dL_holds_386 (by decide) (fun hc => ?_) (fun hc => ?_)
                            · have hf := pt hc hf
                              exact hJ8 hf _ _ _ _ ls _ hd0 hR hP hD hS (lv_sub hl [0, 1, 2, 3, 4, 5, 6, 7] rfl)
                            · have hf := pe hc hf
                              refine lv_iconst (v := 1) hx hb dL_holds_389 (by decide) ?_
                              refine lv_goto (tgt := 394) hx hb dL_holds_390 (by decide) ?_
                              exact hJ7 _ hf _ _ _ _ ls _ hd0 hR hP hD hS (lv_sub hl [0, 1, 2, 3, 4, 5, 6, 7] rfl)
                        refine lv_icmp_ne (tgt := 284) hx hb dL_holds_254 (by decide) (fun hc => ?_) (fun hc => ?_)
                        · have hf := pe hc hf
                          refine lv_iload hx hb dL_holds_284 (lv_at hl 8 rfl) ?_
                          refine lv_if_lt (tgt := 393) hx hb dL_holds_286 (by decide) (fun hc => ?_) (fun hc => ?_)
                          · have hf := pt hc hf
                            exact hJ8 hf _ _ _ _ ls _ hd0 hR hP hD hS (lv_sub hl [2, 3, 4, 5, 1, 0, 6, 7] rfl)
                          · have hf := pe hc hf
                            refine lv_iload hx hb dL_holds_289 (lv_at hl 8 rfl) ?_
                            refine lv_iload hx hb dL_holds_291 (lv_at hl 7 rfl) ?_
                            refine lv_icmp_ge (tgt := 393) hx hb dL_holds_293 (by decide) (fun hc => ?_) (fun hc => ?_)
                            · have hf := pt hc hf
                              exact hJ8 hf _ _ _ _ ls _ hd0 hR hP hD hS (lv_sub hl [2, 3, 4, 5, 1, 0, 6, 7] rfl)
                            · have hf := pe hc hf
                              refine lv_iload hx hb dL_holds_296 (lv_at hl 11 rfl) ?_
                              refine lv_bipush (v := 11) hx hb dL_holds_298 (by decide) ?_
                              have hJ10 : jL_holds_10 a s100 KB100 y0_4 y0_5 y0_6 → ∀ (V : GV) (u : QH) (H : Heap) (locs : List Loc) (ls : Array Slot) (d0 : Drawn), s.drawn.sameBut d0 lw_cs → RepA V a → va_P (dC, dI) vwCl (WB cI cZ cC cO Q u V).flatten H → va_D A (WB cI cZ cC cO Q u V).flatten → va_S A s.heap H locs → lv_has ls 13 [(0, .ref (Q 0 0)), (1, .int (cotA a 0)), (2, .int (s100.1 + y0_4)), (3, .int (s100.2.1 + y0_5)), (4, .int (s100.2.2.1 + y0_6)), (5, .int (s100.2.2.2.1 + (grnA a.1 s100.2.2.2.2.2 3))), (6, .int 0), (8, .int s100.2.2.2.2.2), (9, .int (grnA a.1 s100.2.2.2.2.2 1)), (10, .int (grnA a.1 s100.2.2.2.2.2 0))] → W p l e (headSpec wsL_holds rmL_holds).room (s.setDrawn d0) m args below meth c H locs 0 0 (MQD lw_cs below (va_Qi (fun r (w : QH × GV) => K r ∧ RepA w.2 a) (fun w => poW (dC, dI) A (WB cI cZ cC cO Q w.1 w.2).flatten) A) args s 0 0 A) (F0 m 322 ls []) := by
                                intro hf V u H locs ls d0 hd0 hR hP hD hS hl
                                have hts := dr_words hts0 d0
                                have hK : va_K (dC, dI) vwCl (wTys cI cZ cC cO) (s.setDrawn d0) := hK0
                                have hN : NN (s.setDrawn d0) := hN0
                                unfold jL_holds_10 at hf
                                refine lv_aload_n hx hb dL_holds_322 rfl (lv_at hl 0 rfl) ?_
                                refine lv_iload hx hb dL_holds_323 (lv_at hl 7 rfl) ?_
                                refine lv_bipush (v := 7) hx hb dL_holds_325 (by decide) ?_
                                refine rb_grain (x0 := s100.2.2.2.2.2) (x1 := 7) (rest := []) ⟨hx, hb, hml, hown, hts⟩ (cwV 2 hts gL_holds_X7_grain rfl rfl rfl (by decide +kernel) ⟨Nat.le_of_ble_eq_true rfl, Nat.le_of_ble_eq_true rfl⟩) hK hN hP hD hS hA hR hl.1 rfl (Nat.le_of_ble_eq_true rfl) dL_holds_327 ⟨Nat.le_of_ble_eq_true rfl, Nat.le_of_ble_eq_true rfl⟩ (fun V u H locs hR hP hD hS => ?_)
                                refine lv_aload_n hx hb dL_holds_330 rfl (lv_at hl 0 rfl) ?_
                                refine lv_iload hx hb dL_holds_331 (lv_at hl 8 rfl) ?_
                                refine lv_bipush (v := 7) hx hb dL_holds_333 (by decide) ?_
                                refine rb_grain (x0 := ((grnA a.1 s100.2.2.2.2.2 1))) (x1 := 7) (rest := [.int (grnA a.1 s100.2.2.2.2.2 7)]) ⟨hx, hb, hml, hown, hts⟩ (cwV 2 hts gL_holds_X7_grain rfl rfl rfl (by decide +kernel) ⟨Nat.le_of_ble_eq_true rfl, Nat.le_of_ble_eq_true rfl⟩) hK hN hP hD hS hA hR hl.1 rfl (Nat.le_of_ble_eq_true rfl) dL_holds_335 ⟨Nat.le_of_ble_eq_true rfl, Nat.le_of_ble_eq_true rfl⟩ (fun V u H locs hR hP hD hS => ?_)
                                refine lv_icmp_ne (tgt := 393) hx hb dL_holds_338 (by decide) (fun hc => ?_) (fun hc => ?_)
                                · have hf := pe hc hf
                                  exact hJ8 hf _ _ _ _ ls _ hd0 hR hP hD hS (lv_sub hl [0, 1, 2, 3, 4, 5, 6, 7] rfl)
                                · have hf := pt hc hf
                                  refine lv_aload_n hx hb dL_holds_341 rfl (lv_at hl 0 rfl) ?_
                                  refine lv_iload hx hb dL_holds_342 (lv_at hl 7 rfl) ?_
                                  refine lv_iconst (v := 2) hx hb dL_holds_344 (by decide) ?_
                                  refine rb_grain (x0 := s100.2.2.2.2.2) (x1 := 2) (rest := []) ⟨hx, hb, hml, hown, hts⟩ (cwV 2 hts gL_holds_X7_grain rfl rfl rfl (by decide +kernel) ⟨Nat.le_of_ble_eq_true rfl, Nat.le_of_ble_eq_true rfl⟩) hK hN hP hD hS hA hR hl.1 rfl (Nat.le_of_ble_eq_true rfl) dL_holds_345 ⟨Nat.le_of_ble_eq_true rfl, Nat.le_of_ble_eq_true rfl⟩ (fun V u H locs hR hP hD hS => ?_)
                                  refine lv_aload_n hx hb dL_holds_348 rfl (lv_at hl 0 rfl) ?_
                                  refine lv_iload hx hb dL_holds_349 (lv_at hl 8 rfl) ?_
                                  refine lv_iconst (v := 2) hx hb dL_holds_351 (by decide) ?_
                                  refine rb_grain (x0 := ((grnA a.1 s100.2.2.2.2.2 1))) (x1 := 2) (rest := [.int (grnA a.1 s100.2.2.2.2.2 2)]) ⟨hx, hb, hml, hown, hts⟩ (cwV 2 hts gL_holds_X7_grain rfl rfl rfl (by decide +kernel) ⟨Nat.le_of_ble_eq_true rfl, Nat.le_of_ble_eq_true rfl⟩) hK hN hP hD hS hA hR hl.1 rfl (Nat.le_of_ble_eq_true rfl) dL_holds_352 ⟨Nat.le_of_ble_eq_true rfl, Nat.le_of_ble_eq_true rfl⟩ (fun V u H locs hR hP hD hS => ?_)
                                  refine lv_iconst (v := 1) hx hb dL_holds_355 (by decide) ?_
                                  refine lv_iadd hx hb dL_holds_356 ?_
                                  refine lv_icmp_ne (tgt := 393) hx hb dL_holds_357 (by decide) (fun hc => ?_) (fun hc => ?_)
                                  · have hf := pe hc hf
                                    exact hJ8 hf _ _ _ _ ls _ hd0 hR hP hD hS (lv_sub hl [0, 1, 2, 3, 4, 5, 6, 7] rfl)
                                  · have hf := pt hc hf
                                    exact hJ9 hf _ _ _ _ ls _ hd0 hR hP hD hS (lv_sub hl [0, 1, 2, 3, 4, 5, 6, 7, 9] rfl)
                              refine lv_icmp_eq (tgt := 322) hx hb dL_holds_300 (by decide) (fun hc => ?_) (fun hc => ?_)
                              · have hf := pt hc hf
                                exact hJ10 hf _ _ _ _ ls _ hd0 hR hP hD hS (lv_sub hl [2, 3, 4, 5, 1, 0, 6, 7, 8, 9] rfl)
                              · have hf := pe hc hf
                                refine lv_iload hx hb dL_holds_303 (lv_at hl 11 rfl) ?_
                                refine lv_iconst (v := 1) hx hb dL_holds_305 (by decide) ?_
                                refine lv_icmp_ne (tgt := 393) hx hb dL_holds_306 (by decide) (fun hc => ?_) (fun hc => ?_)
                                · have hf := pe hc hf
                                  exact hJ8 hf _ _ _ _ ls _ hd0 hR hP hD hS (lv_sub hl [2, 3, 4, 5, 1, 0, 6, 7] rfl)
                                · have hf := pt hc hf
                                  refine lv_iload hx hb dL_holds_309 (lv_at hl 9 rfl) ?_
                                  refine lv_bipush (v := 11) hx hb dL_holds_311 (by decide) ?_
                                  refine lv_idiv hx hb dL_holds_313 (by decide) ?_
                                  refine lv_iload hx hb dL_holds_314 (lv_at hl 10 rfl) ?_
                                  refine lv_bipush (v := 11) hx hb dL_holds_316 (by decide) ?_
                                  refine lv_idiv hx hb dL_holds_318 (by decide) ?_
                                  refine lv_icmp_ne (tgt := 393) hx hb dL_holds_319 (by decide) (fun hc => ?_) (fun hc => ?_)
                                  · have hf := pe hc hf
                                    exact hJ8 hf _ _ _ _ ls _ hd0 hR hP hD hS (lv_sub hl [2, 3, 4, 5, 1, 0, 6, 7] rfl)
                                  · have hf := pt hc hf
                                    exact hJ10 hf _ _ _ _ ls _ hd0 hR hP hD hS (lv_sub hl [2, 3, 4, 5, 1, 0, 6, 7, 8, 9] rfl)
                        · have hf := pt hc hf
                          refine lv_aload_n hx hb dL_holds_257 rfl (lv_at hl 2 rfl) ?_
                          refine lv_iload hx hb dL_holds_258 (lv_at hl 7 rfl) ?_
                          refine lv_bipush (v := 8) hx hb dL_holds_260 (by decide) ?_
                          refine rb_grain (x0 := s100.2.2.2.2.2) (x1 := 8) (rest := []) ⟨hx, hb, hml, hown, hts⟩ (cwV 2 hts gL_holds_X7_grain rfl rfl rfl (by decide +kernel) ⟨Nat.le_of_ble_eq_true rfl, Nat.le_of_ble_eq_true rfl⟩) hK hN hP hD hS hA hR hl.1 rfl (Nat.le_of_ble_eq_true rfl) dL_holds_262 ⟨Nat.le_of_ble_eq_true rfl, Nat.le_of_ble_eq_true rfl⟩ (fun V u H locs hR hP hD hS => ?_)
                          refine lv_if_ne (tgt := 393) hx hb dL_holds_265 (by decide) (fun hc => ?_) (fun hc => ?_)
                          · have hf := pe hc hf
                            exact hJ8 hf _ _ _ _ ls _ hd0 hR hP hD hS (lv_sub hl [2, 3, 4, 5, 1, 0, 6, 7] rfl)
                          · have hf := pt hc hf
                            refine lv_aload_n hx hb dL_holds_268 rfl (lv_at hl 2 rfl) ?_
                            refine lv_iload hx hb dL_holds_269 (lv_at hl 7 rfl) ?_
                            refine lv_bipush (v := 7) hx hb dL_holds_271 (by decide) ?_
                            refine rb_grain (x0 := s100.2.2.2.2.2) (x1 := 7) (rest := []) ⟨hx, hb, hml, hown, hts⟩ (cwV 2 hts gL_holds_X7_grain rfl rfl rfl (by decide +kernel) ⟨Nat.le_of_ble_eq_true rfl, Nat.le_of_ble_eq_true rfl⟩) hK hN hP hD hS hA hR hl.1 rfl (Nat.le_of_ble_eq_true rfl) dL_holds_273 ⟨Nat.le_of_ble_eq_true rfl, Nat.le_of_ble_eq_true rfl⟩ (fun V u H locs hR hP hD hS => ?_)
                            refine lv_iload hx hb dL_holds_276 (lv_at hl 7 rfl) ?_
                            refine lv_icmp_ne (tgt := 393) hx hb dL_holds_278 (by decide) (fun hc => ?_) (fun hc => ?_)
                            · have hf := pe hc hf
                              exact hJ8 hf _ _ _ _ ls _ hd0 hR hP hD hS (lv_sub hl [2, 3, 4, 5, 1, 0, 6, 7] rfl)
                            · have hf := pt hc hf
                              refine lv_goto (tgt := 360) hx hb dL_holds_281 (by decide) ?_
                              exact hJ9 hf _ _ _ _ ls _ hd0 hR hP hD hS (lv_sub hl [2, 3, 4, 5, 1, 0, 6, 7, 9] rfl)
                    refine lv_icmp_le (tgt := 222) hx hb dL_holds_215 (by decide) (fun hc => ?_) (fun hc => ?_)
                    · have hf := pt hc hf
                      refine lv_iconst (v := 0) hx hb dL_holds_222 (by decide) ?_
                      exact hJ6 _ hf _ _ _ _ ls _ hd0 hR hP hD hS (lv_sub hl [1, 2, 3, 0, 5, 6, 7, 8, 9, 10, 11] rfl)
                    · have hf := pe hc hf
                      refine lv_iconst (v := 1) hx hb dL_holds_218 (by decide) ?_
                      refine lv_goto (tgt := 223) hx hb dL_holds_219 (by decide) ?_
                      exact hJ6 _ hf _ _ _ _ ls _ hd0 hR hP hD hS (lv_sub hl [1, 2, 3, 0, 5, 6, 7, 8, 9, 10, 11] rfl)
                  refine lv_if_ne (tgt := 202) hx hb dL_holds_195 (by decide) (fun hc => ?_) (fun hc => ?_)
                  · have hf := pe hc hf
                    refine lv_iconst (v := 0) hx hb dL_holds_202 (by decide) ?_
                    exact hJ5 _ hf _ _ _ _ ls _ hd0 hR hP hD hS (lv_sub hl [1, 2, 0, 4, 5, 6, 7, 8, 9, 10, 11] rfl)
                  · have hf := pt hc hf
                    refine lv_iconst (v := 1) hx hb dL_holds_198 (by decide) ?_
                    refine lv_goto (tgt := 203) hx hb dL_holds_199 (by decide) ?_
                    exact hJ5 _ hf _ _ _ _ ls _ hd0 hR hP hD hS (lv_sub hl [1, 2, 0, 4, 5, 6, 7, 8, 9, 10, 11] rfl)
                refine lv_icmp_ne (tgt := 184) hx hb dL_holds_177 (by decide) (fun hc => ?_) (fun hc => ?_)
                · have hf := pe hc hf
                  refine lv_iconst (v := 0) hx hb dL_holds_184 (by decide) ?_
                  exact hJ4 _ hf _ _ _ _ ls _ hd0 hR hP hD hS (lv_sub hl [1, 2, 4, 5, 6, 7, 8, 9, 10, 11, 0] rfl)
                · have hf := pt hc hf
                  refine lv_iconst (v := 1) hx hb dL_holds_180 (by decide) ?_
                  refine lv_goto (tgt := 185) hx hb dL_holds_181 (by decide) ?_
                  exact hJ4 _ hf _ _ _ _ ls _ hd0 hR hP hD hS (lv_sub hl [1, 2, 4, 5, 6, 7, 8, 9, 10, 11, 0] rfl)
              refine lv_icmp_le (tgt := 165) hx hb dL_holds_154 (by decide) (fun hc => ?_) (fun hc => ?_)
              · have hf := pt hc hf
                refine lv_iload hx hb dL_holds_165 (lv_at hl 0 rfl) ?_
                refine lv_iload hx hb dL_holds_167 (lv_at hl 10 rfl) ?_
                refine lv_isub hx hb dL_holds_169 ?_
                exact hJ3 _ hf _ _ _ _ ls _ hd0 hR hP hD hS (lv_sub hl [1, 2, 3, 4, 5, 6, 7, 8, 9, 10, 0] rfl)
              · have hf := pe hc hf
                refine lv_iload hx hb dL_holds_157 (lv_at hl 10 rfl) ?_
                refine lv_iload hx hb dL_holds_159 (lv_at hl 0 rfl) ?_
                refine lv_isub hx hb dL_holds_161 ?_
                refine lv_goto (tgt := 170) hx hb dL_holds_162 (by decide) ?_
                exact hJ3 _ hf _ _ _ _ ls _ hd0 hR hP hD hS (lv_sub hl [1, 2, 3, 4, 5, 6, 7, 8, 9, 10, 0] rfl)
            refine lv_icmp_ne (tgt := 141) hx hb dL_holds_133 (by decide) (fun hc => ?_) (fun hc => ?_)
            · have hf := pe hc hf
              refine lv_aload_n hx hb dL_holds_141 rfl (lv_at hl 2 rfl) ?_
              refine lv_iload hx hb dL_holds_142 (lv_at hl 1 rfl) ?_
              refine lv_iconst (v := 0) hx hb dL_holds_144 (by decide) ?_
              refine rb_grain (x0 := ((grnA a.1 s100.2.2.2.2.2 1))) (x1 := 0) (rest := []) ⟨hx, hb, hml, hown, hts⟩ (cwV 2 hts gL_holds_X7_grain rfl rfl rfl (by decide +kernel) ⟨Nat.le_of_ble_eq_true rfl, Nat.le_of_ble_eq_true rfl⟩) hK hN hP hD hS hA hR hl.1 rfl (Nat.le_of_ble_eq_true rfl) dL_holds_145 ⟨Nat.le_of_ble_eq_true rfl, Nat.le_of_ble_eq_true rfl⟩ (fun V u H locs hR hP hD hS => ?_)
              exact hJ2 _ hf _ _ _ _ ls _ hd0 hR hP hD hS (lv_sub hl [2, 3, 4, 5, 6, 7, 8, 10, 1, 0] rfl)
            · have hf := pt hc hf
              refine lv_iload hx hb dL_holds_136 (lv_at hl 0 rfl) ?_
              refine lv_goto (tgt := 148) hx hb dL_holds_138 (by decide) ?_
              exact hJ2 _ hf _ _ _ _ ls _ hd0 hR hP hD hS (lv_sub hl [2, 3, 4, 5, 6, 7, 8, 10, 1, 0] rfl)
    refine hL100 _ FU _ hf _ _ _ _ ls _ hd0 hR hP hD hS (lv_sub hl [2, 3, 4, 5, 6, 7, 8, 1, 0] rfl) ?_
    intro o100 hf V u H locs ls d0 hd0 hR hP hD hS hl
    have hts := dr_words hts0 d0
    have hK : va_K (dC, dI) vwCl (wTys cI cZ cC cO) (s.setDrawn d0) := hK0
    have hN : NN (s.setDrawn d0) := hN0
    have hf : (lpP (tL_holds_405 a) FU (0, 0) fun o405 => (if o100.2.2.2.2 = 0 then K 0 else (if o100.1 = (cotA a 1) then (if o100.2.1 = (cotA a 2) then (if o100.2.2.1 = (cotA a 3) then (if o100.2.2.2.1 = ((cotA a 0) - o100.1) then (if o405 = (cotA a 0) then (if (lngA a.1 0) = (lngA a.1 1) then (if (grnA a.1 ((cotA a 12)) 6) = (cotA a 11) then (∀ (r511 : UInt64), alike64 r511 (dnsA a) = true → (if (Op.cmpValue (FP.dcmp r511 FP.dconst0) CmpOp.l) ≤ 0 then K 0 else (∀ (r520 : UInt64), alike64 r520 (dnsA a) = true → (if (0 : Int32) < (Op.cmpValue (FP.dcmp r520 FP.dconst1) CmpOp.g) then K 0 else K 1)))) else K 0) else K 0) else K 0) else K 0) else K 0) else K 0) else K 0))) := hf
    refine lv_iconst (v := 0) hx hb dL_holds_402 (by decide) ?_
    refine lv_istore (lv' := [(8, .int 0), (0, .ref (Q 0 0)), (1, .int (cotA a 0)), (2, .int o100.1), (3, .int o100.2.1), (4, .int o100.2.2.1), (5, .int o100.2.2.2.1), (6, .int 0), (7, .int o100.2.2.2.2)]) hx hb dL_holds_403 hl (by decide) rfl (fun ls hl => ?_)
    have hL405 : ∀ (KX405 : (Int32) → Prop) (n : Nat) (s405 : Int32 × Int32), lpP (tL_holds_405 a) n s405 KX405 → ∀ (V : GV) (u : QH) (H : Heap) (locs : List Loc) (ls : Array Slot) (d0 : Drawn), s.drawn.sameBut d0 lw_cs → RepA V a → va_P (dC, dI) vwCl (WB cI cZ cC cO Q u V).flatten H → va_D A (WB cI cZ cC cO Q u V).flatten → va_S A s.heap H locs → lv_has ls 13 [(0, .ref (Q 0 0)), (1, .int (cotA a 0)), (2, .int o100.1), (3, .int o100.2.1), (4, .int o100.2.2.1), (5, .int o100.2.2.2.1), (6, .int s405.1), (7, .int o100.2.2.2.2), (8, .int s405.2)] → (∀ (o405 : Int32), KX405 o405 → ∀ (V : GV) (u : QH) (H : Heap) (locs : List Loc) (ls : Array Slot) (d0 : Drawn), s.drawn.sameBut d0 lw_cs → RepA V a → va_P (dC, dI) vwCl (WB cI cZ cC cO Q u V).flatten H → va_D A (WB cI cZ cC cO Q u V).flatten → va_S A s.heap H locs → lv_has ls 13 [(0, .ref (Q 0 0)), (1, .int (cotA a 0)), (2, .int o100.1), (3, .int o100.2.1), (4, .int o100.2.2.1), (5, .int o100.2.2.2.1), (6, .int o405), (7, .int o100.2.2.2.2)] → W p l e (headSpec wsL_holds rmL_holds).room (s.setDrawn d0) m args below meth c H locs 0 0 (MQD lw_cs below (va_Qi (fun r (w : QH × GV) => K r ∧ RepA w.2 a) (fun w => poW (dC, dI) A (WB cI cZ cC cO Q w.1 w.2).flatten) A) args s 0 0 A) (F0 m 429 ls [])) → W p l e (headSpec wsL_holds rmL_holds).room (s.setDrawn d0) m args below meth c H locs 0 0 (MQD lw_cs below (va_Qi (fun r (w : QH × GV) => K r ∧ RepA w.2 a) (fun w => poW (dC, dI) A (WB cI cZ cC cO Q w.1 w.2).flatten) A) args s 0 0 A) (F0 m 405 ls []) := by
      intro KX405 n
      induction n with
      | zero => intro s405 hf; exact False.elim hf
      | succ n ih405 =>
        intro s405 hf V u H locs ls d0 hd0 hR hP hD hS hl kx
        have hts := dr_words hts0 d0
        have hK : va_K (dC, dI) vwCl (wTys cI cZ cC cO) (s.setDrawn d0) := hK0
        have hN : NN (s.setDrawn d0) := hN0
        obtain ⟨KB405, hKB405⟩ : ∃ F : (Int32 × Int32) → Prop, F = fun s9 => lpP (tL_holds_405 a) n s9 KX405 := ⟨_, rfl⟩
        have hf : tL_holds_405 a s405 KB405 KX405 := by rw [hKB405]; exact hf
        unfold tL_holds_405 at hf
        refine lv_iload hx hb dL_holds_405 (lv_at hl 8 rfl) ?_
        refine lv_bipush (v := 6) hx hb dL_holds_407 (by decide) ?_
        refine lv_icmp_ge (tgt := 429) hx hb dL_holds_409 (by decide) (fun hc => ?_) (fun hc => ?_)
        · have hf := pt hc hf
          exact kx _ hf _ _ _ _ ls _ hd0 hR hP hD hS (lv_sub hl [0, 1, 2, 3, 4, 5, 6, 7] rfl)
        · have hf := pe hc hf
          refine lv_iload hx hb dL_holds_412 (lv_at hl 6 rfl) ?_
          refine lv_aload_n hx hb dL_holds_414 rfl (lv_at hl 0 rfl) ?_
          refine lv_iload hx hb dL_holds_415 (lv_at hl 8 rfl) ?_
          refine rb_ring (x0 := s405.2) (rest := [.int s405.1]) ⟨hx, hb, hml, hown, hts⟩ (cwV 1 hts gL_holds_X7_ring rfl rfl rfl (by decide +kernel) ⟨Nat.le_of_ble_eq_true rfl, Nat.le_of_ble_eq_true rfl⟩) hK hN hP hD hS hA hR hl.1 rfl (Nat.le_of_ble_eq_true rfl) dL_holds_417 ⟨Nat.le_of_ble_eq_true rfl, Nat.le_of_ble_eq_true rfl⟩ (fun V u H locs hR hP hD hS => ?_)
          refine lv_iadd hx hb dL_holds_420 ?_
          refine lv_istore (lv' := [(6, .int (s405.1 + (rngA a.1 s405.2))), (0, .ref (Q 0 0)), (1, .int (cotA a 0)), (2, .int o100.1), (3, .int o100.2.1), (4, .int o100.2.2.1), (5, .int o100.2.2.2.1), (7, .int o100.2.2.2.2), (8, .int s405.2)]) hx hb dL_holds_421 hl (by decide) rfl (fun ls hl => ?_)
          refine lv_iinc (v := (s405.2 + 1)) (lv' := [(8, .int (s405.2 + 1)), (6, .int (s405.1 + (rngA a.1 s405.2))), (0, .ref (Q 0 0)), (1, .int (cotA a 0)), (2, .int o100.1), (3, .int o100.2.1), (4, .int o100.2.2.1), (5, .int o100.2.2.2.1), (7, .int o100.2.2.2.2)]) hx hb dL_holds_423 hl (k := 8) rfl rfl (by decide) rfl (fun ls hl => ?_)
          refine lv_goto (tgt := 405) hx hb dL_holds_426 (by decide) ?_
          rw [hKB405] at hf
          exact ih405 _ hf _ _ _ _ ls _ hd0 hR hP hD hS (lv_sub hl [2, 3, 4, 5, 6, 7, 1, 8, 0] rfl) kx
    refine hL405 _ FU _ hf _ _ _ _ ls _ hd0 hR hP hD hS (lv_sub hl [1, 2, 3, 4, 5, 6, 7, 8, 0] rfl) ?_
    intro o405 hf V u H locs ls d0 hd0 hR hP hD hS hl
    have hts := dr_words hts0 d0
    have hK : va_K (dC, dI) vwCl (wTys cI cZ cC cO) (s.setDrawn d0) := hK0
    have hN : NN (s.setDrawn d0) := hN0
    have hf : (if o100.2.2.2.2 = 0 then K 0 else (if o100.1 = (cotA a 1) then (if o100.2.1 = (cotA a 2) then (if o100.2.2.1 = (cotA a 3) then (if o100.2.2.2.1 = ((cotA a 0) - o100.1) then (if o405 = (cotA a 0) then (if (lngA a.1 0) = (lngA a.1 1) then (if (grnA a.1 ((cotA a 12)) 6) = (cotA a 11) then (∀ (r511 : UInt64), alike64 r511 (dnsA a) = true → (if (Op.cmpValue (FP.dcmp r511 FP.dconst0) CmpOp.l) ≤ 0 then K 0 else (∀ (r520 : UInt64), alike64 r520 (dnsA a) = true → (if (0 : Int32) < (Op.cmpValue (FP.dcmp r520 FP.dconst1) CmpOp.g) then K 0 else K 1)))) else K 0) else K 0) else K 0) else K 0) else K 0) else K 0) else K 0)) := hf
    refine lv_iload hx hb dL_holds_429 (lv_at hl 7 rfl) ?_
    refine lv_if_eq (tgt := 532) hx hb dL_holds_431 (by decide) (fun hc => ?_) (fun hc => ?_)
    · have hf := pt hc hf
      refine lv_iconst (v := 0) hx hb dL_holds_532 (by decide) ?_
      refine W.endD hd0 ?_
      exact W.zret (v := 0) (ty := .boolean) hx hb hr rfl (fun t ht hW => ⟨⟨_, (u, V), rfl, ⟨hf, hR⟩, by rw [ht]; exact hP, hD⟩, hS.F ht⟩) hS.2.2 dL_holds_533
    · have hf := pe hc hf
      refine lv_iload_n hx hb dL_holds_434 rfl (lv_at hl 2 rfl) ?_
      refine lv_aload_n hx hb dL_holds_435 rfl (lv_at hl 0 rfl) ?_
      refine lv_iconst (v := 1) hx hb dL_holds_436 (by decide) ?_
      refine rb_count (x0 := 1) (rest := [.int o100.1]) ⟨hx, hb, hml, hown, hts⟩ (cwV 1 hts gL_holds_X7_count rfl rfl rfl (by decide +kernel) ⟨Nat.le_of_ble_eq_true rfl, Nat.le_of_ble_eq_true rfl⟩) hK hN hP hD hS hA hR hl.1 rfl (Nat.le_of_ble_eq_true rfl) dL_holds_437 ⟨Nat.le_of_ble_eq_true rfl, Nat.le_of_ble_eq_true rfl⟩ (fun V u H locs hR hP hD hS => ?_)
      refine lv_icmp_ne (tgt := 532) hx hb dL_holds_440 (by decide) (fun hc => ?_) (fun hc => ?_)
      · have hf := pe hc hf
        refine lv_iconst (v := 0) hx hb dL_holds_532 (by decide) ?_
        refine W.endD hd0 ?_
        exact W.zret (v := 0) (ty := .boolean) hx hb hr rfl (fun t ht hW => ⟨⟨_, (u, V), rfl, ⟨hf, hR⟩, by rw [ht]; exact hP, hD⟩, hS.F ht⟩) hS.2.2 dL_holds_533
      · have hf := pt hc hf
        refine lv_iload_n hx hb dL_holds_443 rfl (lv_at hl 3 rfl) ?_
        refine lv_aload_n hx hb dL_holds_444 rfl (lv_at hl 0 rfl) ?_
        refine lv_iconst (v := 2) hx hb dL_holds_445 (by decide) ?_
        refine rb_count (x0 := 2) (rest := [.int o100.2.1]) ⟨hx, hb, hml, hown, hts⟩ (cwV 1 hts gL_holds_X7_count rfl rfl rfl (by decide +kernel) ⟨Nat.le_of_ble_eq_true rfl, Nat.le_of_ble_eq_true rfl⟩) hK hN hP hD hS hA hR hl.1 rfl (Nat.le_of_ble_eq_true rfl) dL_holds_446 ⟨Nat.le_of_ble_eq_true rfl, Nat.le_of_ble_eq_true rfl⟩ (fun V u H locs hR hP hD hS => ?_)
        refine lv_icmp_ne (tgt := 532) hx hb dL_holds_449 (by decide) (fun hc => ?_) (fun hc => ?_)
        · have hf := pe hc hf
          refine lv_iconst (v := 0) hx hb dL_holds_532 (by decide) ?_
          refine W.endD hd0 ?_
          exact W.zret (v := 0) (ty := .boolean) hx hb hr rfl (fun t ht hW => ⟨⟨_, (u, V), rfl, ⟨hf, hR⟩, by rw [ht]; exact hP, hD⟩, hS.F ht⟩) hS.2.2 dL_holds_533
        · have hf := pt hc hf
          refine lv_iload hx hb dL_holds_452 (lv_at hl 4 rfl) ?_
          refine lv_aload_n hx hb dL_holds_454 rfl (lv_at hl 0 rfl) ?_
          refine lv_iconst (v := 3) hx hb dL_holds_455 (by decide) ?_
          refine rb_count (x0 := 3) (rest := [.int o100.2.2.1]) ⟨hx, hb, hml, hown, hts⟩ (cwV 1 hts gL_holds_X7_count rfl rfl rfl (by decide +kernel) ⟨Nat.le_of_ble_eq_true rfl, Nat.le_of_ble_eq_true rfl⟩) hK hN hP hD hS hA hR hl.1 rfl (Nat.le_of_ble_eq_true rfl) dL_holds_456 ⟨Nat.le_of_ble_eq_true rfl, Nat.le_of_ble_eq_true rfl⟩ (fun V u H locs hR hP hD hS => ?_)
          refine lv_icmp_ne (tgt := 532) hx hb dL_holds_459 (by decide) (fun hc => ?_) (fun hc => ?_)
          · have hf := pe hc hf
            refine lv_iconst (v := 0) hx hb dL_holds_532 (by decide) ?_
            refine W.endD hd0 ?_
            exact W.zret (v := 0) (ty := .boolean) hx hb hr rfl (fun t ht hW => ⟨⟨_, (u, V), rfl, ⟨hf, hR⟩, by rw [ht]; exact hP, hD⟩, hS.F ht⟩) hS.2.2 dL_holds_533
          · have hf := pt hc hf
            refine lv_iload hx hb dL_holds_462 (lv_at hl 5 rfl) ?_
            refine lv_iload_n hx hb dL_holds_464 rfl (lv_at hl 1 rfl) ?_
            refine lv_iload_n hx hb dL_holds_465 rfl (lv_at hl 2 rfl) ?_
            refine lv_isub hx hb dL_holds_466 ?_
            refine lv_icmp_ne (tgt := 532) hx hb dL_holds_467 (by decide) (fun hc => ?_) (fun hc => ?_)
            · have hf := pe hc hf
              refine lv_iconst (v := 0) hx hb dL_holds_532 (by decide) ?_
              refine W.endD hd0 ?_
              exact W.zret (v := 0) (ty := .boolean) hx hb hr rfl (fun t ht hW => ⟨⟨_, (u, V), rfl, ⟨hf, hR⟩, by rw [ht]; exact hP, hD⟩, hS.F ht⟩) hS.2.2 dL_holds_533
            · have hf := pt hc hf
              refine lv_iload hx hb dL_holds_470 (lv_at hl 6 rfl) ?_
              refine lv_iload_n hx hb dL_holds_472 rfl (lv_at hl 1 rfl) ?_
              refine lv_icmp_ne (tgt := 532) hx hb dL_holds_473 (by decide) (fun hc => ?_) (fun hc => ?_)
              · have hf := pe hc hf
                refine lv_iconst (v := 0) hx hb dL_holds_532 (by decide) ?_
                refine W.endD hd0 ?_
                exact W.zret (v := 0) (ty := .boolean) hx hb hr rfl (fun t ht hW => ⟨⟨_, (u, V), rfl, ⟨hf, hR⟩, by rw [ht]; exact hP, hD⟩, hS.F ht⟩) hS.2.2 dL_holds_533
              · have hf := pt hc hf
                refine lv_aload_n hx hb dL_holds_476 rfl (lv_at hl 0 rfl) ?_
                refine lv_iconst (v := 0) hx hb dL_holds_477 (by decide) ?_
                refine rb_longest (x0 := 0) (rest := []) ⟨hx, hb, hml, hown, hts⟩ (cwV 1 hts gL_holds_X7_longest rfl rfl rfl (by decide +kernel) ⟨Nat.le_of_ble_eq_true rfl, Nat.le_of_ble_eq_true rfl⟩) hK hN hP hD hS hA hR hl.1 rfl (Nat.le_of_ble_eq_true rfl) dL_holds_478 ⟨Nat.le_of_ble_eq_true rfl, Nat.le_of_ble_eq_true rfl⟩ (fun V u H locs hR hP hD hS => ?_)
                refine lv_aload_n hx hb dL_holds_481 rfl (lv_at hl 0 rfl) ?_
                refine lv_iconst (v := 1) hx hb dL_holds_482 (by decide) ?_
                refine rb_longest (x0 := 1) (rest := [.int (lngA a.1 0)]) ⟨hx, hb, hml, hown, hts⟩ (cwV 1 hts gL_holds_X7_longest rfl rfl rfl (by decide +kernel) ⟨Nat.le_of_ble_eq_true rfl, Nat.le_of_ble_eq_true rfl⟩) hK hN hP hD hS hA hR hl.1 rfl (Nat.le_of_ble_eq_true rfl) dL_holds_483 ⟨Nat.le_of_ble_eq_true rfl, Nat.le_of_ble_eq_true rfl⟩ (fun V u H locs hR hP hD hS => ?_)
                refine lv_icmp_ne (tgt := 532) hx hb dL_holds_486 (by decide) (fun hc => ?_) (fun hc => ?_)
                · have hf := pe hc hf
                  refine lv_iconst (v := 0) hx hb dL_holds_532 (by decide) ?_
                  refine W.endD hd0 ?_
                  exact W.zret (v := 0) (ty := .boolean) hx hb hr rfl (fun t ht hW => ⟨⟨_, (u, V), rfl, ⟨hf, hR⟩, by rw [ht]; exact hP, hD⟩, hS.F ht⟩) hS.2.2 dL_holds_533
                · have hf := pt hc hf
                  refine lv_aload_n hx hb dL_holds_489 rfl (lv_at hl 0 rfl) ?_
                  refine lv_aload_n hx hb dL_holds_490 rfl (lv_at hl 0 rfl) ?_
                  refine lv_bipush (v := 12) hx hb dL_holds_491 (by decide) ?_
                  refine rb_count (x0 := 12) (rest := [.ref (Q 0 0)]) ⟨hx, hb, hml, hown, hts⟩ (cwV 1 hts gL_holds_X7_count rfl rfl rfl (by decide +kernel) ⟨Nat.le_of_ble_eq_true rfl, Nat.le_of_ble_eq_true rfl⟩) hK hN hP hD hS hA hR hl.1 rfl (Nat.le_of_ble_eq_true rfl) dL_holds_493 ⟨Nat.le_of_ble_eq_true rfl, Nat.le_of_ble_eq_true rfl⟩ (fun V u H locs hR hP hD hS => ?_)
                  refine lv_bipush (v := 6) hx hb dL_holds_496 (by decide) ?_
                  refine rb_grain (x0 := ((cotA a 12))) (x1 := 6) (rest := []) ⟨hx, hb, hml, hown, hts⟩ (cwV 2 hts gL_holds_X7_grain rfl rfl rfl (by decide +kernel) ⟨Nat.le_of_ble_eq_true rfl, Nat.le_of_ble_eq_true rfl⟩) hK hN hP hD hS hA hR hl.1 rfl (Nat.le_of_ble_eq_true rfl) dL_holds_498 ⟨Nat.le_of_ble_eq_true rfl, Nat.le_of_ble_eq_true rfl⟩ (fun V u H locs hR hP hD hS => ?_)
                  refine lv_aload_n hx hb dL_holds_501 rfl (lv_at hl 0 rfl) ?_
                  refine lv_bipush (v := 11) hx hb dL_holds_502 (by decide) ?_
                  refine rb_count (x0 := 11) (rest := [.int (grnA a.1 ((cotA a 12)) 6)]) ⟨hx, hb, hml, hown, hts⟩ (cwV 1 hts gL_holds_X7_count rfl rfl rfl (by decide +kernel) ⟨Nat.le_of_ble_eq_true rfl, Nat.le_of_ble_eq_true rfl⟩) hK hN hP hD hS hA hR hl.1 rfl (Nat.le_of_ble_eq_true rfl) dL_holds_504 ⟨Nat.le_of_ble_eq_true rfl, Nat.le_of_ble_eq_true rfl⟩ (fun V u H locs hR hP hD hS => ?_)
                  refine lv_icmp_ne (tgt := 532) hx hb dL_holds_507 (by decide) (fun hc => ?_) (fun hc => ?_)
                  · have hf := pe hc hf
                    refine lv_iconst (v := 0) hx hb dL_holds_532 (by decide) ?_
                    refine W.endD hd0 ?_
                    exact W.zret (v := 0) (ty := .boolean) hx hb hr rfl (fun t ht hW => ⟨⟨_, (u, V), rfl, ⟨hf, hR⟩, by rw [ht]; exact hP, hD⟩, hS.F ht⟩) hS.2.2 dL_holds_533
                  · have hf := pt hc hf
                    refine lv_aload_n hx hb dL_holds_510 rfl (lv_at hl 0 rfl) ?_
                    refine rb_density hd0 (rest := []) ⟨hx, hb, hml, hown, hts⟩ (cwV 0 hts gL_holds_X7_density rfl rfl rfl (by decide +kernel) ⟨Nat.le_of_ble_eq_true rfl, Nat.le_of_ble_eq_true rfl⟩) hK hN hP hD hS hR hl.1 rfl (Nat.le_of_ble_eq_true rfl) dL_holds_511 ⟨Nat.le_of_ble_eq_true rfl, Nat.le_of_ble_eq_true rfl⟩ (fun r511 hr9 H locs d0 hd0 hP hD hS => ?_)
                    have hf := hf r511 hr9
                    have hts := dr_words hts0 d0
                    have hK : va_K (dC, dI) vwCl (wTys cI cZ cC cO) (s.setDrawn d0) := hK0
                    have hN : NN (s.setDrawn d0) := hN0
                    refine lv_dconst0 hx hb dL_holds_514 ?_
                    refine lv_dcmp hx hb dL_holds_515 ?_
                    refine lv_if_le (tgt := 532) hx hb dL_holds_516 (by decide) (fun hc => ?_) (fun hc => ?_)
                    · have hf := pt hc hf
                      refine lv_iconst (v := 0) hx hb dL_holds_532 (by decide) ?_
                      refine W.endD hd0 ?_
                      exact W.zret (v := 0) (ty := .boolean) hx hb hr rfl (fun t ht hW => ⟨⟨_, (u, V), rfl, ⟨hf, hR⟩, by rw [ht]; exact hP, hD⟩, hS.F ht⟩) hS.2.2 dL_holds_533
                    · have hf := pe hc hf
                      refine lv_aload_n hx hb dL_holds_519 rfl (lv_at hl 0 rfl) ?_
                      refine rb_density hd0 (rest := []) ⟨hx, hb, hml, hown, hts⟩ (cwV 0 hts gL_holds_X7_density rfl rfl rfl (by decide +kernel) ⟨Nat.le_of_ble_eq_true rfl, Nat.le_of_ble_eq_true rfl⟩) hK hN hP hD hS hR hl.1 rfl (Nat.le_of_ble_eq_true rfl) dL_holds_520 ⟨Nat.le_of_ble_eq_true rfl, Nat.le_of_ble_eq_true rfl⟩ (fun r520 hr9 H locs d0 hd0 hP hD hS => ?_)
                      have hf := hf r520 hr9
                      have hts := dr_words hts0 d0
                      have hK : va_K (dC, dI) vwCl (wTys cI cZ cC cO) (s.setDrawn d0) := hK0
                      have hN : NN (s.setDrawn d0) := hN0
                      refine lv_dconst1 hx hb dL_holds_523 ?_
                      refine lv_dcmp hx hb dL_holds_524 ?_
                      refine lv_if_gt (tgt := 532) hx hb dL_holds_525 (by decide) (fun hc => ?_) (fun hc => ?_)
                      · have hf := pt hc hf
                        refine lv_iconst (v := 0) hx hb dL_holds_532 (by decide) ?_
                        refine W.endD hd0 ?_
                        exact W.zret (v := 0) (ty := .boolean) hx hb hr rfl (fun t ht hW => ⟨⟨_, (u, V), rfl, ⟨hf, hR⟩, by rw [ht]; exact hP, hD⟩, hS.F ht⟩) hS.2.2 dL_holds_533
                      · have hf := pe hc hf
                        refine lv_iconst (v := 1) hx hb dL_holds_528 (by decide) ?_
                        refine lv_goto (tgt := 533) hx hb dL_holds_529 (by decide) ?_
                        refine W.endD hd0 ?_
                        exact W.zret (v := 1) (ty := .boolean) hx hb hr rfl (fun t ht hW => ⟨⟨_, (u, V), rfl, ⟨hf, hR⟩, by rw [ht]; exact hP, hD⟩, hS.F ht⟩) hS.2.2 dL_holds_533
  have hJ11 : jL_holds_11 a K → ∀ (V : GV) (u : QH) (H : Heap) (locs : List Loc) (ls : Array Slot) (d0 : Drawn), s.drawn.sameBut d0 lw_cs → RepA V a → va_P (dC, dI) vwCl (WB cI cZ cC cO Q u V).flatten H → va_D A (WB cI cZ cC cO Q u V).flatten → va_S A s.heap H locs → lv_has ls 13 [(0, .ref (Q 0 0)), (1, .int (cotA a 0)), (2, .int 0), (3, .int 0), (4, .int 0), (5, .int 0), (6, .int 0)] → W p l e (headSpec wsL_holds rmL_holds).room (s.setDrawn d0) m args below meth c H locs 0 0 (MQD lw_cs below (va_Qi (fun r (w : QH × GV) => K r ∧ RepA w.2 a) (fun w => poW (dC, dI) A (WB cI cZ cC cO Q w.1 w.2).flatten) A) args s 0 0 A) (F0 m 94 ls []) := by
    intro hf V u H locs ls d0 hd0 hR hP hD hS hl
    have hts := dr_words hts0 d0
    have hK : va_K (dC, dI) vwCl (wTys cI cZ cC cO) (s.setDrawn d0) := hK0
    have hN : NN (s.setDrawn d0) := hN0
    unfold jL_holds_11 at hf
    refine lv_iconst (v := 0) hx hb dL_holds_94 (by decide) ?_
    exact hJ1 _ hf _ _ _ _ ls _ hd0 hR hP hD hS (lv_sub hl [0, 1, 2, 3, 4, 5, 6] rfl)
  refine lv_if_le (tgt := 94) hx hb dL_holds_20 (by decide) (fun hc => ?_) (fun hc => ?_)
  · have hf := pt hc hf
    exact hJ11 hf _ _ _ _ ls _ hd0 hR hP hD hS (lv_sub hl [6, 5, 4, 3, 2, 1, 0] rfl)
  · have hf := pe hc hf
    refine lv_iload_n hx hb dL_holds_23 rfl (lv_at hl 5 rfl) ?_
    refine lv_bipush (v := 121) hx hb dL_holds_24 (by decide) ?_
    refine lv_icmp_gt (tgt := 94) hx hb dL_holds_26 (by decide) (fun hc => ?_) (fun hc => ?_)
    · have hf := pt hc hf
      exact hJ11 hf _ _ _ _ ls _ hd0 hR hP hD hS (lv_sub hl [6, 5, 4, 3, 2, 1, 0] rfl)
    · have hf := pe hc hf
      refine lv_iload_n hx hb dL_holds_29 rfl (lv_at hl 5 rfl) ?_
      refine lv_aload_n hx hb dL_holds_30 rfl (lv_at hl 6 rfl) ?_
      refine lv_iconst (v := 1) hx hb dL_holds_31 (by decide) ?_
      refine rb_count (x0 := 1) (rest := [.int (cotA a 0)]) ⟨hx, hb, hml, hown, hts⟩ (cwV 1 hts gL_holds_X7_count rfl rfl rfl (by decide +kernel) ⟨Nat.le_of_ble_eq_true rfl, Nat.le_of_ble_eq_true rfl⟩) hK hN hP hD hS hA hR hl.1 rfl (Nat.le_of_ble_eq_true rfl) dL_holds_32 ⟨Nat.le_of_ble_eq_true rfl, Nat.le_of_ble_eq_true rfl⟩ (fun V u H locs hR hP hD hS => ?_)
      refine lv_isub hx hb dL_holds_35 ?_
      refine lv_aload_n hx hb dL_holds_36 rfl (lv_at hl 6 rfl) ?_
      refine lv_bipush (v := 7) hx hb dL_holds_37 (by decide) ?_
      refine rb_count (x0 := 7) (rest := [.int ((cotA a 0) - (cotA a 1))]) ⟨hx, hb, hml, hown, hts⟩ (cwV 1 hts gL_holds_X7_count rfl rfl rfl (by decide +kernel) ⟨Nat.le_of_ble_eq_true rfl, Nat.le_of_ble_eq_true rfl⟩) hK hN hP hD hS hA hR hl.1 rfl (Nat.le_of_ble_eq_true rfl) dL_holds_39 ⟨Nat.le_of_ble_eq_true rfl, Nat.le_of_ble_eq_true rfl⟩ (fun V u H locs hR hP hD hS => ?_)
      refine lv_aload_n hx hb dL_holds_42 rfl (lv_at hl 6 rfl) ?_
      refine lv_bipush (v := 8) hx hb dL_holds_43 (by decide) ?_
      refine rb_count (x0 := 8) (rest := [.int (cotA a 7), .int ((cotA a 0) - (cotA a 1))]) ⟨hx, hb, hml, hown, hts⟩ (cwV 1 hts gL_holds_X7_count rfl rfl rfl (by decide +kernel) ⟨Nat.le_of_ble_eq_true rfl, Nat.le_of_ble_eq_true rfl⟩) hK hN hP hD hS hA hR hl.1 rfl (Nat.le_of_ble_eq_true rfl) dL_holds_45 ⟨Nat.le_of_ble_eq_true rfl, Nat.le_of_ble_eq_true rfl⟩ (fun V u H locs hR hP hD hS => ?_)
      refine lv_isub hx hb dL_holds_48 ?_
      refine lv_aload_n hx hb dL_holds_49 rfl (lv_at hl 6 rfl) ?_
      refine lv_bipush (v := 9) hx hb dL_holds_50 (by decide) ?_
      refine rb_count (x0 := 9) (rest := [.int ((cotA a 7) - (cotA a 8)), .int ((cotA a 0) - (cotA a 1))]) ⟨hx, hb, hml, hown, hts⟩ (cwV 1 hts gL_holds_X7_count rfl rfl rfl (by decide +kernel) ⟨Nat.le_of_ble_eq_true rfl, Nat.le_of_ble_eq_true rfl⟩) hK hN hP hD hS hA hR hl.1 rfl (Nat.le_of_ble_eq_true rfl) dL_holds_52 ⟨Nat.le_of_ble_eq_true rfl, Nat.le_of_ble_eq_true rfl⟩ (fun V u H locs hR hP hD hS => ?_)
      refine lv_isub hx hb dL_holds_55 ?_
      refine lv_icmp_ne (tgt := 94) hx hb dL_holds_56 (by decide) (fun hc => ?_) (fun hc => ?_)
      · have hf := pe hc hf
        exact hJ11 hf _ _ _ _ ls _ hd0 hR hP hD hS (lv_sub hl [6, 5, 4, 3, 2, 1, 0] rfl)
      · have hf := pt hc hf
        refine lv_aload_n hx hb dL_holds_59 rfl (lv_at hl 6 rfl) ?_
        refine lv_bipush (v := 17) hx hb dL_holds_60 (by decide) ?_
        refine rb_count (x0 := 17) (rest := []) ⟨hx, hb, hml, hown, hts⟩ (cwV 1 hts gL_holds_X7_count rfl rfl rfl (by decide +kernel) ⟨Nat.le_of_ble_eq_true rfl, Nat.le_of_ble_eq_true rfl⟩) hK hN hP hD hS hA hR hl.1 rfl (Nat.le_of_ble_eq_true rfl) dL_holds_62 ⟨Nat.le_of_ble_eq_true rfl, Nat.le_of_ble_eq_true rfl⟩ (fun V u H locs hR hP hD hS => ?_)
        refine lv_if_lt (tgt := 94) hx hb dL_holds_65 (by decide) (fun hc => ?_) (fun hc => ?_)
        · have hf := pt hc hf
          exact hJ11 hf _ _ _ _ ls _ hd0 hR hP hD hS (lv_sub hl [6, 5, 4, 3, 2, 1, 0] rfl)
        · have hf := pe hc hf
          refine lv_aload_n hx hb dL_holds_68 rfl (lv_at hl 6 rfl) ?_
          refine lv_bipush (v := 17) hx hb dL_holds_69 (by decide) ?_
          refine rb_count (x0 := 17) (rest := []) ⟨hx, hb, hml, hown, hts⟩ (cwV 1 hts gL_holds_X7_count rfl rfl rfl (by decide +kernel) ⟨Nat.le_of_ble_eq_true rfl, Nat.le_of_ble_eq_true rfl⟩) hK hN hP hD hS hA hR hl.1 rfl (Nat.le_of_ble_eq_true rfl) dL_holds_71 ⟨Nat.le_of_ble_eq_true rfl, Nat.le_of_ble_eq_true rfl⟩ (fun V u H locs hR hP hD hS => ?_)
          refine lv_sipush (v := 10000) hx hb dL_holds_74 (by decide) ?_
          refine lv_icmp_ge (tgt := 94) hx hb dL_holds_77 (by decide) (fun hc => ?_) (fun hc => ?_)
          · have hf := pt hc hf
            exact hJ11 hf _ _ _ _ ls _ hd0 hR hP hD hS (lv_sub hl [6, 5, 4, 3, 2, 1, 0] rfl)
          · have hf := pe hc hf
            refine lv_aload_n hx hb dL_holds_80 rfl (lv_at hl 6 rfl) ?_
            refine lv_iload_n hx hb dL_holds_81 rfl (lv_at hl 5 rfl) ?_
            refine lv_iconst (v := 0) hx hb dL_holds_82 (by decide) ?_
            refine rb_grain (x0 := ((cotA a 0))) (x1 := 0) (rest := []) ⟨hx, hb, hml, hown, hts⟩ (cwV 2 hts gL_holds_X7_grain rfl rfl rfl (by decide +kernel) ⟨Nat.le_of_ble_eq_true rfl, Nat.le_of_ble_eq_true rfl⟩) hK hN hP hD hS hA hR hl.1 rfl (Nat.le_of_ble_eq_true rfl) dL_holds_83 ⟨Nat.le_of_ble_eq_true rfl, Nat.le_of_ble_eq_true rfl⟩ (fun V u H locs hR hP hD hS => ?_)
            refine lv_iconst (v := (-1)) hx hb dL_holds_86 (by decide) ?_
            refine lv_icmp_ne (tgt := 94) hx hb dL_holds_87 (by decide) (fun hc => ?_) (fun hc => ?_)
            · have hf := pe hc hf
              exact hJ11 hf _ _ _ _ ls _ hd0 hR hP hD hS (lv_sub hl [6, 5, 4, 3, 2, 1, 0] rfl)
            · have hf := pt hc hf
              refine lv_iconst (v := 1) hx hb dL_holds_90 (by decide) ?_
              refine lv_goto (tgt := 95) hx hb dL_holds_91 (by decide) ?_
              exact hJ1 _ hf _ _ _ _ ls _ hd0 hR hP hD hS (lv_sub hl [6, 5, 4, 3, 2, 1, 0] rfl)
