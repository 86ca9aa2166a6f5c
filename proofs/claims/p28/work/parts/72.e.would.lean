set_option maxHeartbeats 20000000 in
set_option maxRecDepth 100000 in
theorem mL_would (l : Launch) (dC : Nat → ClassId) (dI : Nat → Nat → Nat) (cI cZ cC cO : ClassId) (Q : Nat → Nat → Nat) (u : QH) (V : GV) (i1 : Int32) (a : AS) (K : Int32 → Prop) (sz : Nat) (hR : RepA V a) (hf : gL_would i1 a K) : Met l yL_would wsL_would rmL_would (va_Pc [.ref (Q 0 0), .int i1] (pcW (dC, dI) (wTys cI cZ cC cO) sz (WB cI cZ cC cO Q u V).flatten)) (va_Qi (fun r (w : QH × GV) => K r ∧ RepA w.2 a) (fun w => poW (dC, dI) (va_A (WB cI cZ cC cO Q u V).flatten sz) (WB cI cZ cC cO Q w.1 w.2).flatten) (va_A (WB cI cZ cC cO Q u V).flatten sz)) 0 0 (va_A (WB cI cZ cC cO Q u V).flatten sz) := by
  refine Met.ofW (cc := cL_would) (maxL := 17) (ret := (some .boolean)) (by decide) rfl ?_
  intro p e s m args below meth c s₁ B hml hv
  obtain ⟨hargs, hsz, hP, hK, hN, hD0⟩ := hv
  have hx := B.exec
  have hb := B.bytes
  have hr := B.returns
  have hts := atoms_spec (ws := wsL_would) B.pre
  have hown : s.vm.findClass RL = some m.cls := findClass_of_methodNamed B.named
  have hlocks := B.notSynchronized
  subst hsz
  have hD := hD0.self (sz := s.heap.size)
  generalize hAe : va_A (WB cI cZ cC cO Q u V).flatten s.heap.size = A at hD ⊢
  have hA : ∀ q : Nat, s.heap.size ≤ q → A q := fun q h => by rw [← hAe]; exact Or.inr h
  have hS : va_S A s.heap s.heap [] := va_S.rf
  have hE := lg_entry_eq m [.ref (Q 0 0), .int i1] 17
  rw [← hargs] at hE
  rw [hE]
  have hl := lv_entry [.ref (Q 0 0), .int i1] (n := 17) (Nat.le_of_ble_eq_true rfl)
  generalize (lg_sl [.ref (Q 0 0), .int i1] ++ List.replicate (17 - (lg_sl [.ref (Q 0 0), .int i1]).length) Slot.unset).toArray = ls at hl ⊢
  have hl : lv_has ls 17 [(0, .ref (Q 0 0)), (1, .int i1)] := hl
  have hP : va_P (dC, dI) vwCl (WB cI cZ cC cO Q u V).flatten s.heap := hP
  unfold gL_would at hf
  refine lv_iload_n hx hb dL_would_0 rfl (lv_at hl 1 rfl) ?_
  refine lv_bipush (v := 42) hx hb dL_would_1 (by decide) ?_
  refine rS (w := []) (W0 := (WB cI cZ cC cO Q u V).flatten) (rest := []) (As := [.int i1, .int 42]) ⟨hx, hb, hml, hown, hts⟩ (mL_low l dC dI cI cZ cC cO i1 42 (by decide)) (va_cwS 2 hts gL_would_L_low rfl rfl rfl (by decide +kernel) ⟨Nat.le_of_ble_eq_true rfl, Nat.le_of_ble_eq_true rfl⟩) hK hN hP [] rfl rfl hl.1 rfl (Nat.le_of_ble_eq_true rfl) dL_would_3 ⟨Nat.le_of_ble_eq_true rfl, Nat.le_of_ble_eq_true rfl⟩ ?_
  refine lv_iconst (v := 1) hx hb dL_would_6 (by decide) ?_
  refine lv_isub hx hb dL_would_7 ?_
  refine lv_istore_n (lv' := [(2, .int ((lwA28 i1 42) - 1)), (0, .ref (Q 0 0)), (1, .int i1)]) hx hb dL_would_8 rfl hl (by decide) rfl (fun ls hl => ?_)
  refine lv_iload_n hx hb dL_would_9 rfl (lv_at hl 2 rfl) ?_
  refine lv_bipush (v := 6) hx hb dL_would_10 (by decide) ?_
  refine lv_ishr hx hb dL_would_12 ?_
  refine lv_iconst (v := 5) hx hb dL_would_13 (by decide) ?_
  refine rS (w := []) (W0 := (WB cI cZ cC cO Q u V).flatten) (rest := []) (As := [.int (i1 >>> (6 &&& 31)), .int 5]) ⟨hx, hb, hml, hown, hts⟩ (mL_low l dC dI cI cZ cC cO ((i1 >>> (6 &&& 31))) 5 (by decide)) (va_cwS 2 hts gL_would_L_low rfl rfl rfl (by decide +kernel) ⟨Nat.le_of_ble_eq_true rfl, Nat.le_of_ble_eq_true rfl⟩) hK hN hP [] rfl rfl hl.1 rfl (Nat.le_of_ble_eq_true rfl) dL_would_14 ⟨Nat.le_of_ble_eq_true rfl, Nat.le_of_ble_eq_true rfl⟩ ?_
  refine lv_iconst (v := 1) hx hb dL_would_17 (by decide) ?_
  refine lv_isub hx hb dL_would_18 ?_
  refine lv_istore_n (lv' := [(3, .int ((lwA28 ((i1 >>> (6 &&& 31))) 5) - 1)), (2, .int ((lwA28 i1 42) - 1)), (0, .ref (Q 0 0)), (1, .int i1)]) hx hb dL_would_19 rfl hl (by decide) rfl (fun ls hl => ?_)
  refine lv_aload_n hx hb dL_would_20 rfl (lv_at hl 2 rfl) ?_
  refine lv_iload_n hx hb dL_would_21 rfl (lv_at hl 1 rfl) ?_
  refine lv_iload_n hx hb dL_would_22 rfl (lv_at hl 0 rfl) ?_
  refine rb_ifGone (x0 := (((lwA28 i1 42) - 1))) (x1 := (((lwA28 ((i1 >>> (6 &&& 31))) 5) - 1))) (rest := []) ⟨hx, hb, hml, hown, hts⟩ (cwV 2 hts gL_would_X7_ifGone rfl rfl rfl (by decide +kernel) ⟨Nat.le_of_ble_eq_true rfl, Nat.le_of_ble_eq_true rfl⟩) hK hN hP hD hS hA hR hl.1 rfl (Nat.le_of_ble_eq_true rfl) dL_would_23 ⟨Nat.le_of_ble_eq_true rfl, Nat.le_of_ble_eq_true rfl⟩ (fun V u H locs hR hP hD hS => ?_)
  refine lv_istore (lv' := [(4, .int (ifgA a.1 (((lwA28 i1 42) - 1)) (((lwA28 ((i1 >>> (6 &&& 31))) 5) - 1)))), (3, .int ((lwA28 ((i1 >>> (6 &&& 31))) 5) - 1)), (2, .int ((lwA28 i1 42) - 1)), (0, .ref (Q 0 0)), (1, .int i1)]) hx hb dL_would_26 hl (by decide) rfl (fun ls hl => ?_)
  refine lv_iload_n hx hb dL_would_28 rfl (lv_at hl 2 rfl) ?_
  have hJ1 : ∀ (y0_1 : Int32), jL_would_1 i1 a K y0_1 → ∀ (V : GV) (u : QH) (H : Heap) (locs : List Loc) (ls : Array Slot), RepA V a → va_P (dC, dI) vwCl (WB cI cZ cC cO Q u V).flatten H → va_D A (WB cI cZ cC cO Q u V).flatten → va_S A s.heap H locs → lv_has ls 17 [(0, .ref (Q 0 0)), (1, .int i1), (2, .int ((lwA28 i1 42) - 1)), (3, .int ((lwA28 ((i1 >>> (6 &&& 31))) 5) - 1)), (4, .int (ifgA a.1 (((lwA28 i1 42) - 1)) (((lwA28 ((i1 >>> (6 &&& 31))) 5) - 1))))] → W p l e (headSpec wsL_would rmL_would).room s m args below meth c H locs 0 0 (MQ below (va_Qi (fun r (w : QH × GV) => K r ∧ RepA w.2 a) (fun w => poW (dC, dI) A (WB cI cZ cC cO Q w.1 w.2).flatten) A) args s 0 0 A) (F0 m 48 ls [.int y0_1]) := by
    intro y0_1 hf V u H locs ls hR hP hD hS hl
    unfold jL_would_1 at hf
    refine lv_istore (lv' := [(5, .int y0_1), (0, .ref (Q 0 0)), (1, .int i1), (2, .int ((lwA28 i1 42) - 1)), (3, .int ((lwA28 ((i1 >>> (6 &&& 31))) 5) - 1)), (4, .int (ifgA a.1 (((lwA28 i1 42) - 1)) (((lwA28 ((i1 >>> (6 &&& 31))) 5) - 1))))]) hx hb dL_would_48 hl (by decide) rfl (fun ls hl => ?_)
    refine lv_iload_n hx hb dL_would_50 rfl (lv_at hl 3 rfl) ?_
    have hJ2 : ∀ (y0_2 : Int32), jL_would_2 i1 a K y0_1 y0_2 → ∀ (V : GV) (u : QH) (H : Heap) (locs : List Loc) (ls : Array Slot), RepA V a → va_P (dC, dI) vwCl (WB cI cZ cC cO Q u V).flatten H → va_D A (WB cI cZ cC cO Q u V).flatten → va_S A s.heap H locs → lv_has ls 17 [(0, .ref (Q 0 0)), (1, .int i1), (2, .int ((lwA28 i1 42) - 1)), (3, .int ((lwA28 ((i1 >>> (6 &&& 31))) 5) - 1)), (4, .int (ifgA a.1 (((lwA28 i1 42) - 1)) (((lwA28 ((i1 >>> (6 &&& 31))) 5) - 1)))), (5, .int y0_1)] → W p l e (headSpec wsL_would rmL_would).room s m args below meth c H locs 0 0 (MQ below (va_Qi (fun r (w : QH × GV) => K r ∧ RepA w.2 a) (fun w => poW (dC, dI) A (WB cI cZ cC cO Q w.1 w.2).flatten) A) args s 0 0 A) (F0 m 114 ls [.int y0_2]) := by
      intro y0_2 hf V u H locs ls hR hP hD hS hl
      unfold jL_would_2 at hf
      refine lv_istore (lv' := [(6, .int y0_2), (0, .ref (Q 0 0)), (1, .int i1), (2, .int ((lwA28 i1 42) - 1)), (3, .int ((lwA28 ((i1 >>> (6 &&& 31))) 5) - 1)), (4, .int (ifgA a.1 (((lwA28 i1 42) - 1)) (((lwA28 ((i1 >>> (6 &&& 31))) 5) - 1)))), (5, .int y0_1)]) hx hb dL_would_114 hl (by decide) rfl (fun ls hl => ?_)
      refine lv_iload_n hx hb dL_would_116 rfl (lv_at hl 3 rfl) ?_
      have hJ3 : ∀ (y0_3 : Int32), jL_would_3 i1 a K y0_1 y0_2 y0_3 → ∀ (V : GV) (u : QH) (H : Heap) (locs : List Loc) (ls : Array Slot), RepA V a → va_P (dC, dI) vwCl (WB cI cZ cC cO Q u V).flatten H → va_D A (WB cI cZ cC cO Q u V).flatten → va_S A s.heap H locs → lv_has ls 17 [(0, .ref (Q 0 0)), (1, .int i1), (3, .int ((lwA28 ((i1 >>> (6 &&& 31))) 5) - 1)), (4, .int (ifgA a.1 (((lwA28 i1 42) - 1)) (((lwA28 ((i1 >>> (6 &&& 31))) 5) - 1)))), (5, .int y0_1), (6, .int y0_2)] → W p l e (headSpec wsL_would rmL_would).room s m args below meth c H locs 0 0 (MQ below (va_Qi (fun r (w : QH × GV) => K r ∧ RepA w.2 a) (fun w => poW (dC, dI) A (WB cI cZ cC cO Q w.1 w.2).flatten) A) args s 0 0 A) (F0 m 140 ls [.int y0_3]) := by
        intro y0_3 hf V u H locs ls hR hP hD hS hl
        unfold jL_would_3 at hf
        refine lv_istore (lv' := [(7, .int y0_3), (0, .ref (Q 0 0)), (1, .int i1), (3, .int ((lwA28 ((i1 >>> (6 &&& 31))) 5) - 1)), (4, .int (ifgA a.1 (((lwA28 i1 42) - 1)) (((lwA28 ((i1 >>> (6 &&& 31))) 5) - 1)))), (5, .int y0_1), (6, .int y0_2)]) hx hb dL_would_140 hl (by decide) rfl (fun ls hl => ?_)
        refine lv_iload hx hb dL_would_142 (lv_at hl 5 rfl) ?_
        have hJ4 : ∀ (y0_4 : Int32), jL_would_4 i1 a K y0_3 y0_4 → ∀ (V : GV) (u : QH) (H : Heap) (locs : List Loc) (ls : Array Slot), RepA V a → va_P (dC, dI) vwCl (WB cI cZ cC cO Q u V).flatten H → va_D A (WB cI cZ cC cO Q u V).flatten → va_S A s.heap H locs → lv_has ls 17 [(0, .ref (Q 0 0)), (1, .int i1), (3, .int ((lwA28 ((i1 >>> (6 &&& 31))) 5) - 1)), (4, .int (ifgA a.1 (((lwA28 i1 42) - 1)) (((lwA28 ((i1 >>> (6 &&& 31))) 5) - 1)))), (7, .int y0_3)] → W p l e (headSpec wsL_would rmL_would).room s m args below meth c H locs 0 0 (MQ below (va_Qi (fun r (w : QH × GV) => K r ∧ RepA w.2 a) (fun w => poW (dC, dI) A (WB cI cZ cC cO Q w.1 w.2).flatten) A) args s 0 0 A) (F0 m 164 ls [.int y0_4]) := by
          intro y0_4 hf V u H locs ls hR hP hD hS hl
          unfold jL_would_4 at hf
          refine lv_istore (lv' := [(8, .int y0_4), (0, .ref (Q 0 0)), (1, .int i1), (3, .int ((lwA28 ((i1 >>> (6 &&& 31))) 5) - 1)), (4, .int (ifgA a.1 (((lwA28 i1 42) - 1)) (((lwA28 ((i1 >>> (6 &&& 31))) 5) - 1)))), (7, .int y0_3)]) hx hb dL_would_164 hl (by decide) rfl (fun ls hl => ?_)
          refine lv_iload_n hx hb dL_would_166 rfl (lv_at hl 2 rfl) ?_
          refine lv_bipush (v := 9) hx hb dL_would_167 (by decide) ?_
          refine lv_ishr hx hb dL_would_169 ?_
          refine lv_aload_n hx hb dL_would_170 rfl (lv_at hl 1 rfl) ?_
          refine lv_iconst (v := 0) hx hb dL_would_171 (by decide) ?_
          refine rb_count (x0 := 0) (rest := [.int (i1 >>> (9 &&& 31))]) ⟨hx, hb, hml, hown, hts⟩ (cwV 1 hts gL_would_X7_count rfl rfl rfl (by decide +kernel) ⟨Nat.le_of_ble_eq_true rfl, Nat.le_of_ble_eq_true rfl⟩) hK hN hP hD hS hA hR hl.1 rfl (Nat.le_of_ble_eq_true rfl) dL_would_172 ⟨Nat.le_of_ble_eq_true rfl, Nat.le_of_ble_eq_true rfl⟩ (fun V u H locs hR hP hD hS => ?_)
          refine lv_iconst (v := 1) hx hb dL_would_175 (by decide) ?_
          refine lv_iadd hx hb dL_would_176 ?_
          obtain ⟨hne, hf⟩ := hf
          refine rS (w := []) (W0 := (WB cI cZ cC cO Q u V).flatten) (rest := []) (As := [.int (i1 >>> (9 &&& 31)), .int ((cotA a 0) + 1)]) ⟨hx, hb, hml, hown, hts⟩ (mL_low l dC dI cI cZ cC cO ((i1 >>> (9 &&& 31))) (((cotA a 0) + 1)) hne) (va_cwS 2 hts gL_would_L_low rfl rfl rfl (by decide +kernel) ⟨Nat.le_of_ble_eq_true rfl, Nat.le_of_ble_eq_true rfl⟩) hK hN hP [] rfl rfl hl.1 rfl (Nat.le_of_ble_eq_true rfl) dL_would_177 ⟨Nat.le_of_ble_eq_true rfl, Nat.le_of_ble_eq_true rfl⟩ ?_
          refine lv_istore (lv' := [(9, .int (lwA28 ((i1 >>> (9 &&& 31))) (((cotA a 0) + 1)))), (8, .int y0_4), (0, .ref (Q 0 0)), (1, .int i1), (3, .int ((lwA28 ((i1 >>> (6 &&& 31))) 5) - 1)), (4, .int (ifgA a.1 (((lwA28 i1 42) - 1)) (((lwA28 ((i1 >>> (6 &&& 31))) 5) - 1)))), (7, .int y0_3)]) hx hb dL_would_180 hl (by decide) rfl (fun ls hl => ?_)
          refine lv_iload_n hx hb dL_would_182 rfl (lv_at hl 3 rfl) ?_
          refine lv_bipush (v := 16) hx hb dL_would_183 (by decide) ?_
          refine lv_ishr hx hb dL_would_185 ?_
          refine lv_bipush (v := 6) hx hb dL_would_186 (by decide) ?_
          refine rS (w := []) (W0 := (WB cI cZ cC cO Q u V).flatten) (rest := []) (As := [.int (i1 >>> (16 &&& 31)), .int 6]) ⟨hx, hb, hml, hown, hts⟩ (mL_low l dC dI cI cZ cC cO ((i1 >>> (16 &&& 31))) 6 (by decide)) (va_cwS 2 hts gL_would_L_low rfl rfl rfl (by decide +kernel) ⟨Nat.le_of_ble_eq_true rfl, Nat.le_of_ble_eq_true rfl⟩) hK hN hP [] rfl rfl hl.1 rfl (Nat.le_of_ble_eq_true rfl) dL_would_188 ⟨Nat.le_of_ble_eq_true rfl, Nat.le_of_ble_eq_true rfl⟩ ?_
          refine lv_iconst (v := 1) hx hb dL_would_191 (by decide) ?_
          refine lv_isub hx hb dL_would_192 ?_
          refine lv_istore (lv' := [(10, .int ((lwA28 ((i1 >>> (16 &&& 31))) 6) - 1)), (9, .int (lwA28 ((i1 >>> (9 &&& 31))) (((cotA a 0) + 1)))), (8, .int y0_4), (0, .ref (Q 0 0)), (1, .int i1), (3, .int ((lwA28 ((i1 >>> (6 &&& 31))) 5) - 1)), (4, .int (ifgA a.1 (((lwA28 i1 42) - 1)) (((lwA28 ((i1 >>> (6 &&& 31))) 5) - 1)))), (7, .int y0_3)]) hx hb dL_would_193 hl (by decide) rfl (fun ls hl => ?_)
          refine lv_aload_n hx hb dL_would_195 rfl (lv_at hl 3 rfl) ?_
          refine lv_iload hx hb dL_would_196 (lv_at hl 1 rfl) ?_
          refine lv_iload hx hb dL_would_198 (lv_at hl 0 rfl) ?_
          refine rb_ifBroken (x0 := ((lwA28 ((i1 >>> (9 &&& 31))) (((cotA a 0) + 1))))) (x1 := (((lwA28 ((i1 >>> (16 &&& 31))) 6) - 1))) (rest := []) ⟨hx, hb, hml, hown, hts⟩ (cwV 2 hts gL_would_X7_ifBroken rfl rfl rfl (by decide +kernel) ⟨Nat.le_of_ble_eq_true rfl, Nat.le_of_ble_eq_true rfl⟩) hK hN hP hD hS hA hR hl.1 rfl (Nat.le_of_ble_eq_true rfl) dL_would_200 ⟨Nat.le_of_ble_eq_true rfl, Nat.le_of_ble_eq_true rfl⟩ (fun V u H locs hR hP hD hS => ?_)
          refine lv_istore (lv' := [(11, .int (ifbA a.1 ((lwA28 ((i1 >>> (9 &&& 31))) (((cotA a 0) + 1)))) (((lwA28 ((i1 >>> (16 &&& 31))) 6) - 1)))), (10, .int ((lwA28 ((i1 >>> (16 &&& 31))) 6) - 1)), (9, .int (lwA28 ((i1 >>> (9 &&& 31))) (((cotA a 0) + 1)))), (8, .int y0_4), (0, .ref (Q 0 0)), (1, .int i1), (3, .int ((lwA28 ((i1 >>> (6 &&& 31))) 5) - 1)), (4, .int (ifgA a.1 (((lwA28 i1 42) - 1)) (((lwA28 ((i1 >>> (6 &&& 31))) 5) - 1)))), (7, .int y0_3)]) hx hb dL_would_203 hl (by decide) rfl (fun ls hl => ?_)
          refine lv_iload hx hb dL_would_205 (lv_at hl 2 rfl) ?_
          refine lv_aload_n hx hb dL_would_207 rfl (lv_at hl 4 rfl) ?_
          refine lv_iconst (v := 0) hx hb dL_would_208 (by decide) ?_
          refine rb_count (x0 := 0) (rest := [.int (lwA28 ((i1 >>> (9 &&& 31))) (((cotA a 0) + 1)))]) ⟨hx, hb, hml, hown, hts⟩ (cwV 1 hts gL_would_X7_count rfl rfl rfl (by decide +kernel) ⟨Nat.le_of_ble_eq_true rfl, Nat.le_of_ble_eq_true rfl⟩) hK hN hP hD hS hA hR hl.1 rfl (Nat.le_of_ble_eq_true rfl) dL_would_209 ⟨Nat.le_of_ble_eq_true rfl, Nat.le_of_ble_eq_true rfl⟩ (fun V u H locs hR hP hD hS => ?_)
          have hJ5 : ∀ (y0_5 : Int32), jL_would_5 i1 a K y0_3 y0_4 y0_5 → ∀ (V : GV) (u : QH) (H : Heap) (locs : List Loc) (ls : Array Slot), RepA V a → va_P (dC, dI) vwCl (WB cI cZ cC cO Q u V).flatten H → va_D A (WB cI cZ cC cO Q u V).flatten → va_S A s.heap H locs → lv_has ls 17 [(0, .ref (Q 0 0)), (1, .int i1), (3, .int ((lwA28 ((i1 >>> (6 &&& 31))) 5) - 1)), (4, .int (ifgA a.1 (((lwA28 i1 42) - 1)) (((lwA28 ((i1 >>> (6 &&& 31))) 5) - 1)))), (7, .int y0_3), (8, .int y0_4), (9, .int (lwA28 ((i1 >>> (9 &&& 31))) (((cotA a 0) + 1)))), (10, .int ((lwA28 ((i1 >>> (16 &&& 31))) 6) - 1)), (11, .int (ifbA a.1 ((lwA28 ((i1 >>> (9 &&& 31))) (((cotA a 0) + 1)))) (((lwA28 ((i1 >>> (16 &&& 31))) 6) - 1))))] → W p l e (headSpec wsL_would rmL_would).room s m args below meth c H locs 0 0 (MQ below (va_Qi (fun r (w : QH × GV) => K r ∧ RepA w.2 a) (fun w => poW (dC, dI) A (WB cI cZ cC cO Q w.1 w.2).flatten) A) args s 0 0 A) (F0 m 231 ls [.int y0_5]) := by
            intro y0_5 hf V u H locs ls hR hP hD hS hl
            unfold jL_would_5 at hf
            refine lv_istore (lv' := [(12, .int y0_5), (0, .ref (Q 0 0)), (1, .int i1), (3, .int ((lwA28 ((i1 >>> (6 &&& 31))) 5) - 1)), (4, .int (ifgA a.1 (((lwA28 i1 42) - 1)) (((lwA28 ((i1 >>> (6 &&& 31))) 5) - 1)))), (7, .int y0_3), (8, .int y0_4), (9, .int (lwA28 ((i1 >>> (9 &&& 31))) (((cotA a 0) + 1)))), (10, .int ((lwA28 ((i1 >>> (16 &&& 31))) 6) - 1)), (11, .int (ifbA a.1 ((lwA28 ((i1 >>> (9 &&& 31))) (((cotA a 0) + 1)))) (((lwA28 ((i1 >>> (16 &&& 31))) 6) - 1))))]) hx hb dL_would_231 hl (by decide) rfl (fun ls hl => ?_)
            refine lv_iload_n hx hb dL_would_233 rfl (lv_at hl 2 rfl) ?_
            refine lv_iconst (v := 4) hx hb dL_would_234 (by decide) ?_
            refine lv_ishr hx hb dL_would_235 ?_
            refine lv_aload_n hx hb dL_would_236 rfl (lv_at hl 1 rfl) ?_
            refine lv_iconst (v := 0) hx hb dL_would_237 (by decide) ?_
            refine rb_count (x0 := 0) (rest := [.int (i1 >>> (4 &&& 31))]) ⟨hx, hb, hml, hown, hts⟩ (cwV 1 hts gL_would_X7_count rfl rfl rfl (by decide +kernel) ⟨Nat.le_of_ble_eq_true rfl, Nat.le_of_ble_eq_true rfl⟩) hK hN hP hD hS hA hR hl.1 rfl (Nat.le_of_ble_eq_true rfl) dL_would_238 ⟨Nat.le_of_ble_eq_true rfl, Nat.le_of_ble_eq_true rfl⟩ (fun V u H locs hR hP hD hS => ?_)
            obtain ⟨hne, hf⟩ := hf
            refine rS (w := []) (W0 := (WB cI cZ cC cO Q u V).flatten) (rest := []) (As := [.int (i1 >>> (4 &&& 31)), .int (cotA a 0)]) ⟨hx, hb, hml, hown, hts⟩ (mL_low l dC dI cI cZ cC cO ((i1 >>> (4 &&& 31))) ((cotA a 0)) hne) (va_cwS 2 hts gL_would_L_low rfl rfl rfl (by decide +kernel) ⟨Nat.le_of_ble_eq_true rfl, Nat.le_of_ble_eq_true rfl⟩) hK hN hP [] rfl rfl hl.1 rfl (Nat.le_of_ble_eq_true rfl) dL_would_241 ⟨Nat.le_of_ble_eq_true rfl, Nat.le_of_ble_eq_true rfl⟩ ?_
            refine lv_istore (lv' := [(13, .int (lwA28 ((i1 >>> (4 &&& 31))) ((cotA a 0)))), (12, .int y0_5), (0, .ref (Q 0 0)), (1, .int i1), (3, .int ((lwA28 ((i1 >>> (6 &&& 31))) 5) - 1)), (4, .int (ifgA a.1 (((lwA28 i1 42) - 1)) (((lwA28 ((i1 >>> (6 &&& 31))) 5) - 1)))), (7, .int y0_3), (8, .int y0_4), (9, .int (lwA28 ((i1 >>> (9 &&& 31))) (((cotA a 0) + 1)))), (10, .int ((lwA28 ((i1 >>> (16 &&& 31))) 6) - 1)), (11, .int (ifbA a.1 ((lwA28 ((i1 >>> (9 &&& 31))) (((cotA a 0) + 1)))) (((lwA28 ((i1 >>> (16 &&& 31))) 6) - 1))))]) hx hb dL_would_244 hl (by decide) rfl (fun ls hl => ?_)
            refine lv_iload_n hx hb dL_would_246 rfl (lv_at hl 3 rfl) ?_
            refine lv_bipush (v := 12) hx hb dL_would_247 (by decide) ?_
            refine lv_ishr hx hb dL_would_249 ?_
            refine lv_aload_n hx hb dL_would_250 rfl (lv_at hl 2 rfl) ?_
            refine lv_iconst (v := 0) hx hb dL_would_251 (by decide) ?_
            refine rb_count (x0 := 0) (rest := [.int (i1 >>> (12 &&& 31))]) ⟨hx, hb, hml, hown, hts⟩ (cwV 1 hts gL_would_X7_count rfl rfl rfl (by decide +kernel) ⟨Nat.le_of_ble_eq_true rfl, Nat.le_of_ble_eq_true rfl⟩) hK hN hP hD hS hA hR hl.1 rfl (Nat.le_of_ble_eq_true rfl) dL_would_252 ⟨Nat.le_of_ble_eq_true rfl, Nat.le_of_ble_eq_true rfl⟩ (fun V u H locs hR hP hD hS => ?_)
            obtain ⟨hne, hf⟩ := hf
            refine rS (w := []) (W0 := (WB cI cZ cC cO Q u V).flatten) (rest := []) (As := [.int (i1 >>> (12 &&& 31)), .int (cotA a 0)]) ⟨hx, hb, hml, hown, hts⟩ (mL_low l dC dI cI cZ cC cO ((i1 >>> (12 &&& 31))) ((cotA a 0)) hne) (va_cwS 2 hts gL_would_L_low rfl rfl rfl (by decide +kernel) ⟨Nat.le_of_ble_eq_true rfl, Nat.le_of_ble_eq_true rfl⟩) hK hN hP [] rfl rfl hl.1 rfl (Nat.le_of_ble_eq_true rfl) dL_would_255 ⟨Nat.le_of_ble_eq_true rfl, Nat.le_of_ble_eq_true rfl⟩ ?_
            refine lv_istore (lv' := [(14, .int (lwA28 ((i1 >>> (12 &&& 31))) ((cotA a 0)))), (13, .int (lwA28 ((i1 >>> (4 &&& 31))) ((cotA a 0)))), (12, .int y0_5), (0, .ref (Q 0 0)), (1, .int i1), (3, .int ((lwA28 ((i1 >>> (6 &&& 31))) 5) - 1)), (4, .int (ifgA a.1 (((lwA28 i1 42) - 1)) (((lwA28 ((i1 >>> (6 &&& 31))) 5) - 1)))), (7, .int y0_3), (8, .int y0_4), (9, .int (lwA28 ((i1 >>> (9 &&& 31))) (((cotA a 0) + 1)))), (10, .int ((lwA28 ((i1 >>> (16 &&& 31))) 6) - 1)), (11, .int (ifbA a.1 ((lwA28 ((i1 >>> (9 &&& 31))) (((cotA a 0) + 1)))) (((lwA28 ((i1 >>> (16 &&& 31))) 6) - 1))))]) hx hb dL_would_258 hl (by decide) rfl (fun ls hl => ?_)
            refine lv_aload_n hx hb dL_would_260 rfl (lv_at hl 3 rfl) ?_
            refine lv_iload hx hb dL_would_261 (lv_at hl 1 rfl) ?_
            refine lv_iload hx hb dL_would_263 (lv_at hl 0 rfl) ?_
            refine rb_apart (x0 := ((lwA28 ((i1 >>> (4 &&& 31))) ((cotA a 0))))) (x1 := ((lwA28 ((i1 >>> (12 &&& 31))) ((cotA a 0))))) (rest := []) ⟨hx, hb, hml, hown, hts⟩ (cwV 2 hts gL_would_X7_apart rfl rfl rfl (by decide +kernel) ⟨Nat.le_of_ble_eq_true rfl, Nat.le_of_ble_eq_true rfl⟩) hK hN hP hD hS hA hR hl.1 rfl (Nat.le_of_ble_eq_true rfl) dL_would_265 ⟨Nat.le_of_ble_eq_true rfl, Nat.le_of_ble_eq_true rfl⟩ (fun V u H locs hR hP hD hS => ?_)
            refine lv_istore (lv' := [(15, .int (aptA a.1 ((lwA28 ((i1 >>> (4 &&& 31))) ((cotA a 0)))) ((lwA28 ((i1 >>> (12 &&& 31))) ((cotA a 0)))))), (14, .int (lwA28 ((i1 >>> (12 &&& 31))) ((cotA a 0)))), (13, .int (lwA28 ((i1 >>> (4 &&& 31))) ((cotA a 0)))), (12, .int y0_5), (0, .ref (Q 0 0)), (1, .int i1), (3, .int ((lwA28 ((i1 >>> (6 &&& 31))) 5) - 1)), (4, .int (ifgA a.1 (((lwA28 i1 42) - 1)) (((lwA28 ((i1 >>> (6 &&& 31))) 5) - 1)))), (7, .int y0_3), (8, .int y0_4), (9, .int (lwA28 ((i1 >>> (9 &&& 31))) (((cotA a 0) + 1)))), (10, .int ((lwA28 ((i1 >>> (16 &&& 31))) 6) - 1)), (11, .int (ifbA a.1 ((lwA28 ((i1 >>> (9 &&& 31))) (((cotA a 0) + 1)))) (((lwA28 ((i1 >>> (16 &&& 31))) 6) - 1))))]) hx hb dL_would_268 hl (by decide) rfl (fun ls hl => ?_)
            refine lv_iload hx hb dL_would_270 (lv_at hl 8 rfl) ?_
            have hJ6 : ∀ (y0_6 : Int32), jL_would_6 i1 a K y0_6 → ∀ (V : GV) (u : QH) (H : Heap) (locs : List Loc) (ls : Array Slot), RepA V a → va_P (dC, dI) vwCl (WB cI cZ cC cO Q u V).flatten H → va_D A (WB cI cZ cC cO Q u V).flatten → va_S A s.heap H locs → lv_has ls 17 [(0, .ref (Q 0 0)), (13, .int (lwA28 ((i1 >>> (4 &&& 31))) ((cotA a 0)))), (14, .int (lwA28 ((i1 >>> (12 &&& 31))) ((cotA a 0)))), (15, .int (aptA a.1 ((lwA28 ((i1 >>> (4 &&& 31))) ((cotA a 0)))) ((lwA28 ((i1 >>> (12 &&& 31))) ((cotA a 0))))))] → W p l e (headSpec wsL_would rmL_would).room s m args below meth c H locs 0 0 (MQ below (va_Qi (fun r (w : QH × GV) => K r ∧ RepA w.2 a) (fun w => poW (dC, dI) A (WB cI cZ cC cO Q w.1 w.2).flatten) A) args s 0 0 A) (F0 m 491 ls [.int y0_6]) := by
              intro y0_6 hf V u H locs ls hR hP hD hS hl
              unfold jL_would_6 at hf
              refine lv_istore (lv' := [(16, .int y0_6), (0, .ref (Q 0 0)), (13, .int (lwA28 ((i1 >>> (4 &&& 31))) ((cotA a 0)))), (14, .int (lwA28 ((i1 >>> (12 &&& 31))) ((cotA a 0)))), (15, .int (aptA a.1 ((lwA28 ((i1 >>> (4 &&& 31))) ((cotA a 0)))) ((lwA28 ((i1 >>> (12 &&& 31))) ((cotA a 0))))))]) hx hb dL_would_491 hl (by decide) rfl (fun ls hl => ?_)
              refine lv_iload hx hb dL_would_493 (lv_at hl 0 rfl) ?_
              refine lv_if_eq (tgt := 589) hx hb dL_would_495 (by decide) (fun hc => ?_) (fun hc => ?_)
              · have hf := pt hc hf
                refine lv_iconst (v := 0) hx hb dL_would_589 (by decide) ?_
                exact W.zret (v := 0) (ty := .boolean) hx hb hr rfl (fun t ht hW => ⟨⟨_, (u, V), rfl, ⟨hf, hR⟩, by rw [ht]; exact hP, hD⟩, hS.F ht⟩) hS.2.2 dL_would_590
              · have hf := pe hc hf
                refine lv_iload hx hb dL_would_498 (lv_at hl 4 rfl) ?_
                refine lv_aload_n hx hb dL_would_500 rfl (lv_at hl 1 rfl) ?_
                refine lv_iload hx hb dL_would_501 (lv_at hl 3 rfl) ?_
                refine lv_iload hx hb dL_would_503 (lv_at hl 2 rfl) ?_
                refine rb_apart (x0 := ((lwA28 ((i1 >>> (12 &&& 31))) ((cotA a 0))))) (x1 := ((lwA28 ((i1 >>> (4 &&& 31))) ((cotA a 0))))) (rest := [.int (aptA a.1 ((lwA28 ((i1 >>> (4 &&& 31))) ((cotA a 0)))) ((lwA28 ((i1 >>> (12 &&& 31))) ((cotA a 0)))))]) ⟨hx, hb, hml, hown, hts⟩ (cwV 2 hts gL_would_X7_apart rfl rfl rfl (by decide +kernel) ⟨Nat.le_of_ble_eq_true rfl, Nat.le_of_ble_eq_true rfl⟩) hK hN hP hD hS hA hR hl.1 rfl (Nat.le_of_ble_eq_true rfl) dL_would_505 ⟨Nat.le_of_ble_eq_true rfl, Nat.le_of_ble_eq_true rfl⟩ (fun V u H locs hR hP hD hS => ?_)
                refine lv_icmp_ne (tgt := 589) hx hb dL_would_508 (by decide) (fun hc => ?_) (fun hc => ?_)
                · have hf := pe hc hf
                  refine lv_iconst (v := 0) hx hb dL_would_589 (by decide) ?_
                  exact W.zret (v := 0) (ty := .boolean) hx hb hr rfl (fun t ht hW => ⟨⟨_, (u, V), rfl, ⟨hf, hR⟩, by rw [ht]; exact hP, hD⟩, hS.F ht⟩) hS.2.2 dL_would_590
                · have hf := pt hc hf
                  refine lv_iload hx hb dL_would_511 (lv_at hl 4 rfl) ?_
                  have hJ7 : ∀ (y0_7 : Int32), jL_would_7 i1 a K y0_7 → ∀ (V : GV) (u : QH) (H : Heap) (locs : List Loc) (ls : Array Slot), RepA V a → va_P (dC, dI) vwCl (WB cI cZ cC cO Q u V).flatten H → va_D A (WB cI cZ cC cO Q u V).flatten → va_S A s.heap H locs → lv_has ls 17 [(0, .ref (Q 0 0)), (13, .int (lwA28 ((i1 >>> (4 &&& 31))) ((cotA a 0)))), (14, .int (lwA28 ((i1 >>> (12 &&& 31))) ((cotA a 0)))), (15, .int (aptA a.1 ((lwA28 ((i1 >>> (4 &&& 31))) ((cotA a 0)))) ((lwA28 ((i1 >>> (12 &&& 31))) ((cotA a 0))))))] → W p l e (headSpec wsL_would rmL_would).room s m args below meth c H locs 0 0 (MQ below (va_Qi (fun r (w : QH × GV) => K r ∧ RepA w.2 a) (fun w => poW (dC, dI) A (WB cI cZ cC cO Q w.1 w.2).flatten) A) args s 0 0 A) (F0 m 521 ls [.int y0_7]) := by
                    intro y0_7 hf V u H locs ls hR hP hD hS hl
                    unfold jL_would_7 at hf
                    refine lv_iload hx hb dL_would_521 (lv_at hl 1 rfl) ?_
                    refine lv_iload hx hb dL_would_523 (lv_at hl 2 rfl) ?_
                    have hJ8 : ∀ (y0_8 : Int32), jL_would_8 i1 a K y0_7 y0_8 → ∀ (V : GV) (u : QH) (H : Heap) (locs : List Loc) (ls : Array Slot), RepA V a → va_P (dC, dI) vwCl (WB cI cZ cC cO Q u V).flatten H → va_D A (WB cI cZ cC cO Q u V).flatten → va_S A s.heap H locs → lv_has ls 17 [(0, .ref (Q 0 0)), (13, .int (lwA28 ((i1 >>> (4 &&& 31))) ((cotA a 0)))), (14, .int (lwA28 ((i1 >>> (12 &&& 31))) ((cotA a 0)))), (15, .int (aptA a.1 ((lwA28 ((i1 >>> (4 &&& 31))) ((cotA a 0)))) ((lwA28 ((i1 >>> (12 &&& 31))) ((cotA a 0))))))] → W p l e (headSpec wsL_would rmL_would).room s m args below meth c H locs 0 0 (MQ below (va_Qi (fun r (w : QH × GV) => K r ∧ RepA w.2 a) (fun w => poW (dC, dI) A (WB cI cZ cC cO Q w.1 w.2).flatten) A) args s 0 0 A) (F0 m 533 ls [.int y0_8, .int y0_7]) := by
                      intro y0_8 hf V u H locs ls hR hP hD hS hl
                      unfold jL_would_8 at hf
                      refine lv_icmp_ne (tgt := 589) hx hb dL_would_533 (by decide) (fun hc => ?_) (fun hc => ?_)
                      · have hf := pe hc hf
                        refine lv_iconst (v := 0) hx hb dL_would_589 (by decide) ?_
                        exact W.zret (v := 0) (ty := .boolean) hx hb hr rfl (fun t ht hW => ⟨⟨_, (u, V), rfl, ⟨hf, hR⟩, by rw [ht]; exact hP, hD⟩, hS.F ht⟩) hS.2.2 dL_would_590
                      · have hf := pt hc hf
                        refine lv_iload hx hb dL_would_536 (lv_at hl 3 rfl) ?_
                        refine lv_bipush (v := (-4)) hx hb dL_would_538 (by decide) ?_
                        have hJ9 : ∀ (y0_9 : Int32), jL_would_9 i1 a K y0_9 → ∀ (V : GV) (u : QH) (H : Heap) (locs : List Loc) (ls : Array Slot), RepA V a → va_P (dC, dI) vwCl (WB cI cZ cC cO Q u V).flatten H → va_D A (WB cI cZ cC cO Q u V).flatten → va_S A s.heap H locs → lv_has ls 17 [(0, .ref (Q 0 0)), (13, .int (lwA28 ((i1 >>> (4 &&& 31))) ((cotA a 0)))), (14, .int (lwA28 ((i1 >>> (12 &&& 31))) ((cotA a 0)))), (15, .int (aptA a.1 ((lwA28 ((i1 >>> (4 &&& 31))) ((cotA a 0)))) ((lwA28 ((i1 >>> (12 &&& 31))) ((cotA a 0))))))] → W p l e (headSpec wsL_would rmL_would).room s m args below meth c H locs 0 0 (MQ below (va_Qi (fun r (w : QH × GV) => K r ∧ RepA w.2 a) (fun w => poW (dC, dI) A (WB cI cZ cC cO Q w.1 w.2).flatten) A) args s 0 0 A) (F0 m 548 ls [.int y0_9]) := by
                          intro y0_9 hf V u H locs ls hR hP hD hS hl
                          unfold jL_would_9 at hf
                          refine lv_aload_n hx hb dL_would_548 rfl (lv_at hl 0 rfl) ?_
                          refine lv_iload hx hb dL_would_549 (lv_at hl 1 rfl) ?_
                          refine lv_bipush (v := 7) hx hb dL_would_551 (by decide) ?_
                          refine rb_grain (x0 := ((lwA28 ((i1 >>> (4 &&& 31))) ((cotA a 0))))) (x1 := 7) (rest := [.int y0_9]) ⟨hx, hb, hml, hown, hts⟩ (cwV 2 hts gL_would_X7_grain rfl rfl rfl (by decide +kernel) ⟨Nat.le_of_ble_eq_true rfl, Nat.le_of_ble_eq_true rfl⟩) hK hN hP hD hS hA hR hl.1 rfl (Nat.le_of_ble_eq_true rfl) dL_would_553 ⟨Nat.le_of_ble_eq_true rfl, Nat.le_of_ble_eq_true rfl⟩ (fun V u H locs hR hP hD hS => ?_)
                          refine lv_aload_n hx hb dL_would_556 rfl (lv_at hl 0 rfl) ?_
                          refine lv_iload hx hb dL_would_557 (lv_at hl 2 rfl) ?_
                          refine lv_bipush (v := 7) hx hb dL_would_559 (by decide) ?_
                          refine rb_grain (x0 := ((lwA28 ((i1 >>> (12 &&& 31))) ((cotA a 0))))) (x1 := 7) (rest := [.int (grnA a.1 ((lwA28 ((i1 >>> (4 &&& 31))) ((cotA a 0)))) 7), .int y0_9]) ⟨hx, hb, hml, hown, hts⟩ (cwV 2 hts gL_would_X7_grain rfl rfl rfl (by decide +kernel) ⟨Nat.le_of_ble_eq_true rfl, Nat.le_of_ble_eq_true rfl⟩) hK hN hP hD hS hA hR hl.1 rfl (Nat.le_of_ble_eq_true rfl) dL_would_561 ⟨Nat.le_of_ble_eq_true rfl, Nat.le_of_ble_eq_true rfl⟩ (fun V u H locs hR hP hD hS => ?_)
                          have hJ10 : ∀ (y0_10 : Int32), jL_would_10 i1 a K y0_9 y0_10 → ∀ (V : GV) (u : QH) (H : Heap) (locs : List Loc) (ls : Array Slot), RepA V a → va_P (dC, dI) vwCl (WB cI cZ cC cO Q u V).flatten H → va_D A (WB cI cZ cC cO Q u V).flatten → va_S A s.heap H locs → lv_has ls 17 [(0, .ref (Q 0 0)), (15, .int (aptA a.1 ((lwA28 ((i1 >>> (4 &&& 31))) ((cotA a 0)))) ((lwA28 ((i1 >>> (12 &&& 31))) ((cotA a 0))))))] → W p l e (headSpec wsL_would rmL_would).room s m args below meth c H locs 0 0 (MQ below (va_Qi (fun r (w : QH × GV) => K r ∧ RepA w.2 a) (fun w => poW (dC, dI) A (WB cI cZ cC cO Q w.1 w.2).flatten) A) args s 0 0 A) (F0 m 572 ls [.int y0_10, .int y0_9]) := by
                            intro y0_10 hf V u H locs ls hR hP hD hS hl
                            unfold jL_would_10 at hf
                            refine lv_icmp_ne (tgt := 589) hx hb dL_would_572 (by decide) (fun hc => ?_) (fun hc => ?_)
                            · have hf := pe hc hf
                              refine lv_iconst (v := 0) hx hb dL_would_589 (by decide) ?_
                              exact W.zret (v := 0) (ty := .boolean) hx hb hr rfl (fun t ht hW => ⟨⟨_, (u, V), rfl, ⟨hf, hR⟩, by rw [ht]; exact hP, hD⟩, hS.F ht⟩) hS.2.2 dL_would_590
                            · have hf := pt hc hf
                              refine lv_iload hx hb dL_would_575 (lv_at hl 1 rfl) ?_
                              refine lv_aload_n hx hb dL_would_577 rfl (lv_at hl 0 rfl) ?_
                              refine lv_iconst (v := 0) hx hb dL_would_578 (by decide) ?_
                              refine rb_longest (x0 := 0) (rest := [.int (aptA a.1 ((lwA28 ((i1 >>> (4 &&& 31))) ((cotA a 0)))) ((lwA28 ((i1 >>> (12 &&& 31))) ((cotA a 0)))))]) ⟨hx, hb, hml, hown, hts⟩ (cwV 1 hts gL_would_X7_longest rfl rfl rfl (by decide +kernel) ⟨Nat.le_of_ble_eq_true rfl, Nat.le_of_ble_eq_true rfl⟩) hK hN hP hD hS hA hR hl.1 rfl (Nat.le_of_ble_eq_true rfl) dL_would_579 ⟨Nat.le_of_ble_eq_true rfl, Nat.le_of_ble_eq_true rfl⟩ (fun V u H locs hR hP hD hS => ?_)
                              refine lv_icmp_gt (tgt := 589) hx hb dL_would_582 (by decide) (fun hc => ?_) (fun hc => ?_)
                              · have hf := pt hc hf
                                refine lv_iconst (v := 0) hx hb dL_would_589 (by decide) ?_
                                exact W.zret (v := 0) (ty := .boolean) hx hb hr rfl (fun t ht hW => ⟨⟨_, (u, V), rfl, ⟨hf, hR⟩, by rw [ht]; exact hP, hD⟩, hS.F ht⟩) hS.2.2 dL_would_590
                              · have hf := pe hc hf
                                refine lv_iconst (v := 1) hx hb dL_would_585 (by decide) ?_
                                refine lv_goto (tgt := 590) hx hb dL_would_586 (by decide) ?_
                                exact W.zret (v := 1) (ty := .boolean) hx hb hr rfl (fun t ht hW => ⟨⟨_, (u, V), rfl, ⟨hf, hR⟩, by rw [ht]; exact hP, hD⟩, hS.F ht⟩) hS.2.2 dL_would_590
                          refine lv_icmp_eq (tgt := 571) hx hb dL_would_564 (by decide) (fun hc => ?_) (fun hc => ?_)
                          · have hf := pt hc hf
                            refine lv_iconst (v := 0) hx hb dL_would_571 (by decide) ?_
                            exact hJ10 _ hf _ _ _ _ ls hR hP hD hS (lv_sub hl [0, 3] rfl)
                          · have hf := pe hc hf
                            refine lv_iconst (v := 1) hx hb dL_would_567 (by decide) ?_
                            refine lv_goto (tgt := 572) hx hb dL_would_568 (by decide) ?_
                            exact hJ10 _ hf _ _ _ _ ls hR hP hD hS (lv_sub hl [0, 3] rfl)
                        refine lv_icmp_ne (tgt := 547) hx hb dL_would_540 (by decide) (fun hc => ?_) (fun hc => ?_)
                        · have hf := pe hc hf
                          refine lv_iconst (v := 0) hx hb dL_would_547 (by decide) ?_
                          exact hJ9 _ hf _ _ _ _ ls hR hP hD hS (lv_sub hl [0, 1, 2, 3] rfl)
                        · have hf := pt hc hf
                          refine lv_iconst (v := 1) hx hb dL_would_543 (by decide) ?_
                          refine lv_goto (tgt := 548) hx hb dL_would_544 (by decide) ?_
                          exact hJ9 _ hf _ _ _ _ ls hR hP hD hS (lv_sub hl [0, 1, 2, 3] rfl)
                    refine lv_icmp_ne (tgt := 532) hx hb dL_would_525 (by decide) (fun hc => ?_) (fun hc => ?_)
                    · have hf := pe hc hf
                      refine lv_iconst (v := 0) hx hb dL_would_532 (by decide) ?_
                      exact hJ8 _ hf _ _ _ _ ls hR hP hD hS (lv_sub hl [0, 1, 2, 3] rfl)
                    · have hf := pt hc hf
                      refine lv_iconst (v := 1) hx hb dL_would_528 (by decide) ?_
                      refine lv_goto (tgt := 533) hx hb dL_would_529 (by decide) ?_
                      exact hJ8 _ hf _ _ _ _ ls hR hP hD hS (lv_sub hl [0, 1, 2, 3] rfl)
                  refine lv_if_ne (tgt := 520) hx hb dL_would_513 (by decide) (fun hc => ?_) (fun hc => ?_)
                  · have hf := pe hc hf
                    refine lv_iconst (v := 0) hx hb dL_would_520 (by decide) ?_
                    exact hJ7 _ hf _ _ _ _ ls hR hP hD hS (lv_sub hl [1, 2, 3, 4] rfl)
                  · have hf := pt hc hf
                    refine lv_iconst (v := 1) hx hb dL_would_516 (by decide) ?_
                    refine lv_goto (tgt := 521) hx hb dL_would_517 (by decide) ?_
                    exact hJ7 _ hf _ _ _ _ ls hR hP hD hS (lv_sub hl [1, 2, 3, 4] rfl)
            have hJ11 : jL_would_11 i1 a K → ∀ (V : GV) (u : QH) (H : Heap) (locs : List Loc) (ls : Array Slot), RepA V a → va_P (dC, dI) vwCl (WB cI cZ cC cO Q u V).flatten H → va_D A (WB cI cZ cC cO Q u V).flatten → va_S A s.heap H locs → lv_has ls 17 [(0, .ref (Q 0 0)), (13, .int (lwA28 ((i1 >>> (4 &&& 31))) ((cotA a 0)))), (14, .int (lwA28 ((i1 >>> (12 &&& 31))) ((cotA a 0)))), (15, .int (aptA a.1 ((lwA28 ((i1 >>> (4 &&& 31))) ((cotA a 0)))) ((lwA28 ((i1 >>> (12 &&& 31))) ((cotA a 0))))))] → W p l e (headSpec wsL_would rmL_would).room s m args below meth c H locs 0 0 (MQ below (va_Qi (fun r (w : QH × GV) => K r ∧ RepA w.2 a) (fun w => poW (dC, dI) A (WB cI cZ cC cO Q w.1 w.2).flatten) A) args s 0 0 A) (F0 m 490 ls []) := by
              intro hf V u H locs ls hR hP hD hS hl
              unfold jL_would_11 at hf
              refine lv_iconst (v := 0) hx hb dL_would_490 (by decide) ?_
              exact hJ6 _ hf _ _ _ _ ls hR hP hD hS (lv_sub hl [0, 1, 2, 3] rfl)
            have hJ12 : jL_would_12 i1 a K y0_5 → ∀ (V : GV) (u : QH) (H : Heap) (locs : List Loc) (ls : Array Slot), RepA V a → va_P (dC, dI) vwCl (WB cI cZ cC cO Q u V).flatten H → va_D A (WB cI cZ cC cO Q u V).flatten → va_S A s.heap H locs → lv_has ls 17 [(0, .ref (Q 0 0)), (9, .int (lwA28 ((i1 >>> (9 &&& 31))) (((cotA a 0) + 1)))), (10, .int ((lwA28 ((i1 >>> (16 &&& 31))) 6) - 1)), (11, .int (ifbA a.1 ((lwA28 ((i1 >>> (9 &&& 31))) (((cotA a 0) + 1)))) (((lwA28 ((i1 >>> (16 &&& 31))) 6) - 1)))), (12, .int y0_5), (13, .int (lwA28 ((i1 >>> (4 &&& 31))) ((cotA a 0)))), (14, .int (lwA28 ((i1 >>> (12 &&& 31))) ((cotA a 0)))), (15, .int (aptA a.1 ((lwA28 ((i1 >>> (4 &&& 31))) ((cotA a 0)))) ((lwA28 ((i1 >>> (12 &&& 31))) ((cotA a 0))))))] → W p l e (headSpec wsL_would rmL_would).room s m args below meth c H locs 0 0 (MQ below (va_Qi (fun r (w : QH × GV) => K r ∧ RepA w.2 a) (fun w => poW (dC, dI) A (WB cI cZ cC cO Q w.1 w.2).flatten) A) args s 0 0 A) (F0 m 395 ls []) := by
              intro hf V u H locs ls hR hP hD hS hl
              unfold jL_would_12 at hf
              refine lv_iload hx hb dL_would_395 (lv_at hl 4 rfl) ?_
              have hJ13 : jL_would_13 i1 a K → ∀ (V : GV) (u : QH) (H : Heap) (locs : List Loc) (ls : Array Slot), RepA V a → va_P (dC, dI) vwCl (WB cI cZ cC cO Q u V).flatten H → va_D A (WB cI cZ cC cO Q u V).flatten → va_S A s.heap H locs → lv_has ls 17 [(0, .ref (Q 0 0)), (13, .int (lwA28 ((i1 >>> (4 &&& 31))) ((cotA a 0)))), (14, .int (lwA28 ((i1 >>> (12 &&& 31))) ((cotA a 0)))), (15, .int (aptA a.1 ((lwA28 ((i1 >>> (4 &&& 31))) ((cotA a 0)))) ((lwA28 ((i1 >>> (12 &&& 31))) ((cotA a 0))))))] → W p l e (headSpec wsL_would rmL_would).room s m args below meth c H locs 0 0 (MQ below (va_Qi (fun r (w : QH × GV) => K r ∧ RepA w.2 a) (fun w => poW (dC, dI) A (WB cI cZ cC cO Q w.1 w.2).flatten) A) args s 0 0 A) (F0 m 486 ls []) := by
                intro hf V u H locs ls hR hP hD hS hl
                unfold jL_would_13 at hf
                refine lv_iconst (v := 1) hx hb dL_would_486 (by decide) ?_
                refine lv_goto (tgt := 491) hx hb dL_would_487 (by decide) ?_
                exact hJ6 _ hf _ _ _ _ ls hR hP hD hS (lv_sub hl [0, 1, 2, 3] rfl)
              refine lv_if_eq (tgt := 409) hx hb dL_would_397 (by decide) (fun hc => ?_) (fun hc => ?_)
              · have hf := pt hc hf
                refine lv_aload_n hx hb dL_would_409 rfl (lv_at hl 0 rfl) ?_
                refine lv_iload hx hb dL_would_410 (lv_at hl 1 rfl) ?_
                refine lv_iconst (v := 1) hx hb dL_would_412 (by decide) ?_
                refine rb_grain (x0 := ((lwA28 ((i1 >>> (9 &&& 31))) (((cotA a 0) + 1))))) (x1 := 1) (rest := []) ⟨hx, hb, hml, hown, hts⟩ (cwV 2 hts gL_would_X7_grain rfl rfl rfl (by decide +kernel) ⟨Nat.le_of_ble_eq_true rfl, Nat.le_of_ble_eq_true rfl⟩) hK hN hP hD hS hA hR hl.1 rfl (Nat.le_of_ble_eq_true rfl) dL_would_413 ⟨Nat.le_of_ble_eq_true rfl, Nat.le_of_ble_eq_true rfl⟩ (fun V u H locs hR hP hD hS => ?_)
                refine lv_bipush (v := (-4)) hx hb dL_would_416 (by decide) ?_
                refine lv_icmp_ne (tgt := 431) hx hb dL_would_418 (by decide) (fun hc => ?_) (fun hc => ?_)
                · have hf := pe hc hf
                  refine lv_iload hx hb dL_would_431 (lv_at hl 3 rfl) ?_
                  refine lv_if_lt (tgt := 490) hx hb dL_would_433 (by decide) (fun hc => ?_) (fun hc => ?_)
                  · have hf := pt hc hf
                    exact hJ11 hf _ _ _ _ ls hR hP hD hS (lv_sub hl [0, 5, 6, 7] rfl)
                  · have hf := pe hc hf
                    refine lv_iload hx hb dL_would_436 (lv_at hl 3 rfl) ?_
                    refine lv_iload hx hb dL_would_438 (lv_at hl 2 rfl) ?_
                    have hJ14 : ∀ (y0_14 : Int32), jL_would_14 i1 a K y0_14 → ∀ (V : GV) (u : QH) (H : Heap) (locs : List Loc) (ls : Array Slot), RepA V a → va_P (dC, dI) vwCl (WB cI cZ cC cO Q u V).flatten H → va_D A (WB cI cZ cC cO Q u V).flatten → va_S A s.heap H locs → lv_has ls 17 [(0, .ref (Q 0 0)), (13, .int (lwA28 ((i1 >>> (4 &&& 31))) ((cotA a 0)))), (14, .int (lwA28 ((i1 >>> (12 &&& 31))) ((cotA a 0)))), (15, .int (aptA a.1 ((lwA28 ((i1 >>> (4 &&& 31))) ((cotA a 0)))) ((lwA28 ((i1 >>> (12 &&& 31))) ((cotA a 0))))))] → W p l e (headSpec wsL_would rmL_would).room s m args below meth c H locs 0 0 (MQ below (va_Qi (fun r (w : QH × GV) => K r ∧ RepA w.2 a) (fun w => poW (dC, dI) A (WB cI cZ cC cO Q w.1 w.2).flatten) A) args s 0 0 A) (F0 m 483 ls [.int y0_14, .int (ifbA a.1 ((lwA28 ((i1 >>> (9 &&& 31))) (((cotA a 0) + 1)))) (((lwA28 ((i1 >>> (16 &&& 31))) 6) - 1)))]) := by
                      intro y0_14 hf V u H locs ls hR hP hD hS hl
                      unfold jL_would_14 at hf
                      refine lv_icmp_gt (tgt := 490) hx hb dL_would_483 (by decide) (fun hc => ?_) (fun hc => ?_)
                      · have hf := pt hc hf
                        exact hJ11 hf _ _ _ _ ls hR hP hD hS (lv_sub hl [0, 1, 2, 3] rfl)
                      · have hf := pe hc hf
                        exact hJ13 hf _ _ _ _ ls hR hP hD hS (lv_sub hl [0, 1, 2, 3] rfl)
                    refine lv_if_ne (tgt := 453) hx hb dL_would_440 (by decide) (fun hc => ?_) (fun hc => ?_)
                    · have hf := pe hc hf
                      refine lv_iload hx hb dL_would_453 (lv_at hl 2 rfl) ?_
                      refine lv_iconst (v := 1) hx hb dL_would_455 (by decide) ?_
                      refine lv_icmp_ne (tgt := 467) hx hb dL_would_456 (by decide) (fun hc => ?_) (fun hc => ?_)
                      · have hf := pe hc hf
                        refine lv_iload hx hb dL_would_467 (lv_at hl 2 rfl) ?_
                        refine lv_iconst (v := 2) hx hb dL_would_469 (by decide) ?_
                        refine lv_icmp_ne (tgt := 481) hx hb dL_would_470 (by decide) (fun hc => ?_) (fun hc => ?_)
                        · have hf := pe hc hf
                          refine lv_bipush (v := 40) hx hb dL_would_481 (by decide) ?_
                          exact hJ14 _ hf _ _ _ _ ls hR hP hD hS (lv_sub hl [0, 5, 6, 7] rfl)
                        · have hf := pt hc hf
                          refine lv_aload_n hx hb dL_would_473 rfl (lv_at hl 0 rfl) ?_
                          refine lv_iconst (v := 4) hx hb dL_would_474 (by decide) ?_
                          refine rb_count (x0 := 4) (rest := [.int (ifbA a.1 ((lwA28 ((i1 >>> (9 &&& 31))) (((cotA a 0) + 1)))) (((lwA28 ((i1 >>> (16 &&& 31))) 6) - 1)))]) ⟨hx, hb, hml, hown, hts⟩ (cwV 1 hts gL_would_X7_count rfl rfl rfl (by decide +kernel) ⟨Nat.le_of_ble_eq_true rfl, Nat.le_of_ble_eq_true rfl⟩) hK hN hP hD hS hA hR hl.1 rfl (Nat.le_of_ble_eq_true rfl) dL_would_475 ⟨Nat.le_of_ble_eq_true rfl, Nat.le_of_ble_eq_true rfl⟩ (fun V u H locs hR hP hD hS => ?_)
                          refine lv_goto (tgt := 483) hx hb dL_would_478 (by decide) ?_
                          exact hJ14 _ hf _ _ _ _ ls hR hP hD hS (lv_sub hl [0, 5, 6, 7] rfl)
                      · have hf := pt hc hf
                        refine lv_aload_n hx hb dL_would_459 rfl (lv_at hl 0 rfl) ?_
                        refine lv_iconst (v := 5) hx hb dL_would_460 (by decide) ?_
                        refine rb_count (x0 := 5) (rest := [.int (ifbA a.1 ((lwA28 ((i1 >>> (9 &&& 31))) (((cotA a 0) + 1)))) (((lwA28 ((i1 >>> (16 &&& 31))) 6) - 1)))]) ⟨hx, hb, hml, hown, hts⟩ (cwV 1 hts gL_would_X7_count rfl rfl rfl (by decide +kernel) ⟨Nat.le_of_ble_eq_true rfl, Nat.le_of_ble_eq_true rfl⟩) hK hN hP hD hS hA hR hl.1 rfl (Nat.le_of_ble_eq_true rfl) dL_would_461 ⟨Nat.le_of_ble_eq_true rfl, Nat.le_of_ble_eq_true rfl⟩ (fun V u H locs hR hP hD hS => ?_)
                        refine lv_goto (tgt := 483) hx hb dL_would_464 (by decide) ?_
                        exact hJ14 _ hf _ _ _ _ ls hR hP hD hS (lv_sub hl [0, 5, 6, 7] rfl)
                    · have hf := pt hc hf
                      refine lv_aload_n hx hb dL_would_443 rfl (lv_at hl 0 rfl) ?_
                      refine lv_iconst (v := 0) hx hb dL_would_444 (by decide) ?_
                      refine rb_count (x0 := 0) (rest := [.int (ifbA a.1 ((lwA28 ((i1 >>> (9 &&& 31))) (((cotA a 0) + 1)))) (((lwA28 ((i1 >>> (16 &&& 31))) 6) - 1)))]) ⟨hx, hb, hml, hown, hts⟩ (cwV 1 hts gL_would_X7_count rfl rfl rfl (by decide +kernel) ⟨Nat.le_of_ble_eq_true rfl, Nat.le_of_ble_eq_true rfl⟩) hK hN hP hD hS hA hR hl.1 rfl (Nat.le_of_ble_eq_true rfl) dL_would_445 ⟨Nat.le_of_ble_eq_true rfl, Nat.le_of_ble_eq_true rfl⟩ (fun V u H locs hR hP hD hS => ?_)
                      refine lv_iconst (v := 1) hx hb dL_would_448 (by decide) ?_
                      refine lv_isub hx hb dL_would_449 ?_
                      refine lv_goto (tgt := 483) hx hb dL_would_450 (by decide) ?_
                      exact hJ14 _ hf _ _ _ _ ls hR hP hD hS (lv_sub hl [0, 5, 6, 7] rfl)
                · have hf := pt hc hf
                  refine lv_iload hx hb dL_would_421 (lv_at hl 3 rfl) ?_
                  refine lv_bipush (v := (-2)) hx hb dL_would_423 (by decide) ?_
                  refine lv_icmp_ne (tgt := 490) hx hb dL_would_425 (by decide) (fun hc => ?_) (fun hc => ?_)
                  · have hf := pe hc hf
                    exact hJ11 hf _ _ _ _ ls hR hP hD hS (lv_sub hl [0, 5, 6, 7] rfl)
                  · have hf := pt hc hf
                    refine lv_goto (tgt := 486) hx hb dL_would_428 (by decide) ?_
                    exact hJ13 hf _ _ _ _ ls hR hP hD hS (lv_sub hl [0, 5, 6, 7] rfl)
              · have hf := pe hc hf
                refine lv_iload hx hb dL_would_400 (lv_at hl 3 rfl) ?_
                refine lv_iconst (v := (-1)) hx hb dL_would_402 (by decide) ?_
                refine lv_icmp_ne (tgt := 490) hx hb dL_would_403 (by decide) (fun hc => ?_) (fun hc => ?_)
                · have hf := pe hc hf
                  exact hJ11 hf _ _ _ _ ls hR hP hD hS (lv_sub hl [0, 5, 6, 7] rfl)
                · have hf := pt hc hf
                  refine lv_goto (tgt := 486) hx hb dL_would_406 (by decide) ?_
                  exact hJ13 hf _ _ _ _ ls hR hP hD hS (lv_sub hl [0, 5, 6, 7] rfl)
            refine lv_if_eq (tgt := 284) hx hb dL_would_272 (by decide) (fun hc => ?_) (fun hc => ?_)
            · have hf := pt hc hf
              refine lv_iload hx hb dL_would_284 (lv_at hl 9 rfl) ?_
              refine lv_if_eq (tgt := 299) hx hb dL_would_286 (by decide) (fun hc => ?_) (fun hc => ?_)
              · have hf := pt hc hf
                refine lv_iload_n hx hb dL_would_299 rfl (lv_at hl 6 rfl) ?_
                refine lv_iconst (v := 1) hx hb dL_would_300 (by decide) ?_
                refine lv_icmp_ne (tgt := 331) hx hb dL_would_301 (by decide) (fun hc => ?_) (fun hc => ?_)
                · have hf := pe hc hf
                  refine lv_iload_n hx hb dL_would_331 rfl (lv_at hl 6 rfl) ?_
                  refine lv_iconst (v := 2) hx hb dL_would_332 (by decide) ?_
                  refine lv_icmp_ne (tgt := 353) hx hb dL_would_333 (by decide) (fun hc => ?_) (fun hc => ?_)
                  · have hf := pe hc hf
                    refine lv_iload hx hb dL_would_353 (lv_at hl 7 rfl) ?_
                    refine lv_sipush (v := 1000) hx hb dL_would_355 (by decide) ?_
                    refine lv_icmp_lt (tgt := 378) hx hb dL_would_358 (by decide) (fun hc => ?_) (fun hc => ?_)
                    · have hf := pt hc hf
                      refine lv_iload hx hb dL_would_378 (lv_at hl 7 rfl) ?_
                      refine lv_iconst (v := 1) hx hb dL_would_380 (by decide) ?_
                      refine lv_icmp_lt (tgt := 490) hx hb dL_would_381 (by decide) (fun hc => ?_) (fun hc => ?_)
                      · have hf := pt hc hf
                        exact hJ11 hf _ _ _ _ ls hR hP hD hS (lv_sub hl [4, 2, 1, 0] rfl)
                      · have hf := pe hc hf
                        refine lv_iload hx hb dL_would_384 (lv_at hl 7 rfl) ?_
                        refine lv_aload_n hx hb dL_would_386 rfl (lv_at hl 4 rfl) ?_
                        refine lv_bipush (v := 14) hx hb dL_would_387 (by decide) ?_
                        refine rb_count (x0 := 14) (rest := [.int (ifgA a.1 (((lwA28 i1 42) - 1)) (((lwA28 ((i1 >>> (6 &&& 31))) 5) - 1)))]) ⟨hx, hb, hml, hown, hts⟩ (cwV 1 hts gL_would_X7_count rfl rfl rfl (by decide +kernel) ⟨Nat.le_of_ble_eq_true rfl, Nat.le_of_ble_eq_true rfl⟩) hK hN hP hD hS hA hR hl.1 rfl (Nat.le_of_ble_eq_true rfl) dL_would_389 ⟨Nat.le_of_ble_eq_true rfl, Nat.le_of_ble_eq_true rfl⟩ (fun V u H locs hR hP hD hS => ?_)
                        refine lv_icmp_gt (tgt := 490) hx hb dL_would_392 (by decide) (fun hc => ?_) (fun hc => ?_)
                        · have hf := pt hc hf
                          exact hJ11 hf _ _ _ _ ls hR hP hD hS (lv_sub hl [4, 2, 1, 0] rfl)
                        · have hf := pe hc hf
                          exact hJ12 hf _ _ _ _ ls hR hP hD hS (lv_sub hl [4, 10, 11, 12, 3, 2, 1, 0] rfl)
                    · have hf := pe hc hf
                      refine lv_aload_n hx hb dL_would_361 rfl (lv_at hl 4 rfl) ?_
                      refine lv_iload hx hb dL_would_362 (lv_at hl 7 rfl) ?_
                      refine lv_sipush (v := 1000) hx hb dL_would_364 (by decide) ?_
                      refine lv_isub hx hb dL_would_367 ?_
                      refine lv_iconst (v := 2) hx hb dL_would_368 (by decide) ?_
                      refine rb_cell (x0 := (((ifgA a.1 (((lwA28 i1 42) - 1)) (((lwA28 ((i1 >>> (6 &&& 31))) 5) - 1))) - 1000))) (x1 := 2) (rest := []) ⟨hx, hb, hml, hown, hts⟩ (cwV 2 hts gL_would_X7_cell rfl rfl rfl (by decide +kernel) ⟨Nat.le_of_ble_eq_true rfl, Nat.le_of_ble_eq_true rfl⟩) hK hN hP hD hS hA hR hl.1 rfl (Nat.le_of_ble_eq_true rfl) dL_would_369 ⟨Nat.le_of_ble_eq_true rfl, Nat.le_of_ble_eq_true rfl⟩ (fun V u H locs hR hP hD hS => ?_)
                      refine lv_if_le (tgt := 490) hx hb dL_would_372 (by decide) (fun hc => ?_) (fun hc => ?_)
                      · have hf := pt hc hf
                        exact hJ11 hf _ _ _ _ ls hR hP hD hS (lv_sub hl [4, 2, 1, 0] rfl)
                      · have hf := pe hc hf
                        refine lv_goto (tgt := 395) hx hb dL_would_375 (by decide) ?_
                        exact hJ12 hf _ _ _ _ ls hR hP hD hS (lv_sub hl [4, 10, 11, 12, 3, 2, 1, 0] rfl)
                  · have hf := pt hc hf
                    refine lv_iload hx hb dL_would_336 (lv_at hl 7 rfl) ?_
                    refine lv_iconst (v := 1) hx hb dL_would_338 (by decide) ?_
                    refine lv_icmp_lt (tgt := 490) hx hb dL_would_339 (by decide) (fun hc => ?_) (fun hc => ?_)
                    · have hf := pt hc hf
                      exact hJ11 hf _ _ _ _ ls hR hP hD hS (lv_sub hl [4, 2, 1, 0] rfl)
                    · have hf := pe hc hf
                      refine lv_iload hx hb dL_would_342 (lv_at hl 7 rfl) ?_
                      refine lv_sipush (v := 401) hx hb dL_would_344 (by decide) ?_
                      refine lv_icmp_gt (tgt := 490) hx hb dL_would_347 (by decide) (fun hc => ?_) (fun hc => ?_)
                      · have hf := pt hc hf
                        exact hJ11 hf _ _ _ _ ls hR hP hD hS (lv_sub hl [4, 2, 1, 0] rfl)
                      · have hf := pe hc hf
                        refine lv_goto (tgt := 395) hx hb dL_would_350 (by decide) ?_
                        exact hJ12 hf _ _ _ _ ls hR hP hD hS (lv_sub hl [4, 10, 11, 12, 3, 2, 1, 0] rfl)
                · have hf := pt hc hf
                  refine lv_iload hx hb dL_would_304 (lv_at hl 7 rfl) ?_
                  refine lv_if_lt (tgt := 490) hx hb dL_would_306 (by decide) (fun hc => ?_) (fun hc => ?_)
                  · have hf := pt hc hf
                    exact hJ11 hf _ _ _ _ ls hR hP hD hS (lv_sub hl [4, 2, 1, 0] rfl)
                  · have hf := pe hc hf
                    refine lv_iload hx hb dL_would_309 (lv_at hl 7 rfl) ?_
                    refine lv_bipush (v := 121) hx hb dL_would_311 (by decide) ?_
                    refine lv_icmp_ge (tgt := 490) hx hb dL_would_313 (by decide) (fun hc => ?_) (fun hc => ?_)
                    · have hf := pt hc hf
                      exact hJ11 hf _ _ _ _ ls hR hP hD hS (lv_sub hl [4, 2, 1, 0] rfl)
                    · have hf := pe hc hf
                      refine lv_aload_n hx hb dL_would_316 rfl (lv_at hl 4 rfl) ?_
                      refine lv_iload hx hb dL_would_317 (lv_at hl 7 rfl) ?_
                      refine lv_iconst (v := 0) hx hb dL_would_319 (by decide) ?_
                      refine rb_cell (x0 := ((ifgA a.1 (((lwA28 i1 42) - 1)) (((lwA28 ((i1 >>> (6 &&& 31))) 5) - 1))))) (x1 := 0) (rest := []) ⟨hx, hb, hml, hown, hts⟩ (cwV 2 hts gL_would_X7_cell rfl rfl rfl (by decide +kernel) ⟨Nat.le_of_ble_eq_true rfl, Nat.le_of_ble_eq_true rfl⟩) hK hN hP hD hS hA hR hl.1 rfl (Nat.le_of_ble_eq_true rfl) dL_would_320 ⟨Nat.le_of_ble_eq_true rfl, Nat.le_of_ble_eq_true rfl⟩ (fun V u H locs hR hP hD hS => ?_)
                      refine lv_bipush (v := (-4)) hx hb dL_would_323 (by decide) ?_
                      refine lv_icmp_ne (tgt := 490) hx hb dL_would_325 (by decide) (fun hc => ?_) (fun hc => ?_)
                      · have hf := pe hc hf
                        exact hJ11 hf _ _ _ _ ls hR hP hD hS (lv_sub hl [4, 2, 1, 0] rfl)
                      · have hf := pt hc hf
                        refine lv_goto (tgt := 395) hx hb dL_would_328 (by decide) ?_
                        exact hJ12 hf _ _ _ _ ls hR hP hD hS (lv_sub hl [4, 10, 11, 12, 3, 2, 1, 0] rfl)
              · have hf := pe hc hf
                refine lv_iload hx hb dL_would_289 (lv_at hl 7 rfl) ?_
                refine lv_bipush (v := (-2)) hx hb dL_would_291 (by decide) ?_
                refine lv_icmp_ne (tgt := 490) hx hb dL_would_293 (by decide) (fun hc => ?_) (fun hc => ?_)
                · have hf := pe hc hf
                  exact hJ11 hf _ _ _ _ ls hR hP hD hS (lv_sub hl [4, 2, 1, 0] rfl)
                · have hf := pt hc hf
                  refine lv_goto (tgt := 395) hx hb dL_would_296 (by decide) ?_
                  exact hJ12 hf _ _ _ _ ls hR hP hD hS (lv_sub hl [4, 10, 11, 12, 3, 2, 1, 0] rfl)
            · have hf := pe hc hf
              refine lv_iload hx hb dL_would_275 (lv_at hl 7 rfl) ?_
              refine lv_iconst (v := (-1)) hx hb dL_would_277 (by decide) ?_
              refine lv_icmp_ne (tgt := 490) hx hb dL_would_278 (by decide) (fun hc => ?_) (fun hc => ?_)
              · have hf := pe hc hf
                exact hJ11 hf _ _ _ _ ls hR hP hD hS (lv_sub hl [4, 2, 1, 0] rfl)
              · have hf := pt hc hf
                refine lv_goto (tgt := 395) hx hb dL_would_281 (by decide) ?_
                exact hJ12 hf _ _ _ _ ls hR hP hD hS (lv_sub hl [4, 10, 11, 12, 3, 2, 1, 0] rfl)
          have hJ15 : jL_would_15 i1 a K y0_3 y0_4 → ∀ (V : GV) (u : QH) (H : Heap) (locs : List Loc) (ls : Array Slot), RepA V a → va_P (dC, dI) vwCl (WB cI cZ cC cO Q u V).flatten H → va_D A (WB cI cZ cC cO Q u V).flatten → va_S A s.heap H locs → lv_has ls 17 [(0, .ref (Q 0 0)), (1, .int i1), (3, .int ((lwA28 ((i1 >>> (6 &&& 31))) 5) - 1)), (4, .int (ifgA a.1 (((lwA28 i1 42) - 1)) (((lwA28 ((i1 >>> (6 &&& 31))) 5) - 1)))), (7, .int y0_3), (8, .int y0_4), (9, .int (lwA28 ((i1 >>> (9 &&& 31))) (((cotA a 0) + 1)))), (10, .int ((lwA28 ((i1 >>> (16 &&& 31))) 6) - 1)), (11, .int (ifbA a.1 ((lwA28 ((i1 >>> (9 &&& 31))) (((cotA a 0) + 1)))) (((lwA28 ((i1 >>> (16 &&& 31))) 6) - 1))))] → W p l e (headSpec wsL_would rmL_would).room s m args below meth c H locs 0 0 (MQ below (va_Qi (fun r (w : QH × GV) => K r ∧ RepA w.2 a) (fun w => poW (dC, dI) A (WB cI cZ cC cO Q w.1 w.2).flatten) A) args s 0 0 A) (F0 m 226 ls []) := by
            intro hf V u H locs ls hR hP hD hS hl
            unfold jL_would_15 at hf
            refine lv_iconst (v := 1) hx hb dL_would_226 (by decide) ?_
            refine lv_goto (tgt := 231) hx hb dL_would_227 (by decide) ?_
            exact hJ5 _ hf _ _ _ _ ls hR hP hD hS (lv_sub hl [0, 1, 2, 3, 4, 5, 6, 7, 8] rfl)
          refine lv_icmp_eq (tgt := 226) hx hb dL_would_212 (by decide) (fun hc => ?_) (fun hc => ?_)
          · have hf := pt hc hf
            exact hJ15 hf _ _ _ _ ls hR hP hD hS (lv_sub hl [4, 5, 6, 7, 8, 3, 2, 1, 0] rfl)
          · have hf := pe hc hf
            refine lv_iload hx hb dL_would_215 (lv_at hl 1 rfl) ?_
            refine lv_if_lt (tgt := 226) hx hb dL_would_217 (by decide) (fun hc => ?_) (fun hc => ?_)
            · have hf := pt hc hf
              exact hJ15 hf _ _ _ _ ls hR hP hD hS (lv_sub hl [4, 5, 6, 7, 8, 3, 2, 1, 0] rfl)
            · have hf := pe hc hf
              refine lv_iload hx hb dL_would_220 (lv_at hl 1 rfl) ?_
              refine lv_iconst (v := 3) hx hb dL_would_222 (by decide) ?_
              refine lv_icmp_le (tgt := 230) hx hb dL_would_223 (by decide) (fun hc => ?_) (fun hc => ?_)
              · have hf := pt hc hf
                refine lv_iconst (v := 0) hx hb dL_would_230 (by decide) ?_
                exact hJ5 _ hf _ _ _ _ ls hR hP hD hS (lv_sub hl [4, 5, 6, 7, 8, 3, 2, 1, 0] rfl)
              · have hf := pe hc hf
                exact hJ15 hf _ _ _ _ ls hR hP hD hS (lv_sub hl [4, 5, 6, 7, 8, 3, 2, 1, 0] rfl)
        have hJ16 : jL_would_16 i1 a K y0_3 → ∀ (V : GV) (u : QH) (H : Heap) (locs : List Loc) (ls : Array Slot), RepA V a → va_P (dC, dI) vwCl (WB cI cZ cC cO Q u V).flatten H → va_D A (WB cI cZ cC cO Q u V).flatten → va_S A s.heap H locs → lv_has ls 17 [(0, .ref (Q 0 0)), (1, .int i1), (3, .int ((lwA28 ((i1 >>> (6 &&& 31))) 5) - 1)), (4, .int (ifgA a.1 (((lwA28 i1 42) - 1)) (((lwA28 ((i1 >>> (6 &&& 31))) 5) - 1)))), (7, .int y0_3)] → W p l e (headSpec wsL_would rmL_would).room s m args below meth c H locs 0 0 (MQ below (va_Qi (fun r (w : QH × GV) => K r ∧ RepA w.2 a) (fun w => poW (dC, dI) A (WB cI cZ cC cO Q w.1 w.2).flatten) A) args s 0 0 A) (F0 m 163 ls []) := by
          intro hf V u H locs ls hR hP hD hS hl
          unfold jL_would_16 at hf
          refine lv_iconst (v := 0) hx hb dL_would_163 (by decide) ?_
          exact hJ4 _ hf _ _ _ _ ls hR hP hD hS (lv_sub hl [0, 1, 2, 3, 4] rfl)
        refine lv_if_lt (tgt := 163) hx hb dL_would_144 (by decide) (fun hc => ?_) (fun hc => ?_)
        · have hf := pt hc hf
          exact hJ16 hf _ _ _ _ ls hR hP hD hS (lv_sub hl [1, 2, 3, 4, 0] rfl)
        · have hf := pe hc hf
          refine lv_aload_n hx hb dL_would_147 rfl (lv_at hl 1 rfl) ?_
          refine lv_iload hx hb dL_would_148 (lv_at hl 5 rfl) ?_
          refine lv_iconst (v := 0) hx hb dL_would_150 (by decide) ?_
          refine rb_grain (x0 := y0_1) (x1 := 0) (rest := []) ⟨hx, hb, hml, hown, hts⟩ (cwV 2 hts gL_would_X7_grain rfl rfl rfl (by decide +kernel) ⟨Nat.le_of_ble_eq_true rfl, Nat.le_of_ble_eq_true rfl⟩) hK hN hP hD hS hA hR hl.1 rfl (Nat.le_of_ble_eq_true rfl) dL_would_151 ⟨Nat.le_of_ble_eq_true rfl, Nat.le_of_ble_eq_true rfl⟩ (fun V u H locs hR hP hD hS => ?_)
          refine lv_iload hx hb dL_would_154 (lv_at hl 6 rfl) ?_
          refine lv_icmp_ne (tgt := 163) hx hb dL_would_156 (by decide) (fun hc => ?_) (fun hc => ?_)
          · have hf := pe hc hf
            exact hJ16 hf _ _ _ _ ls hR hP hD hS (lv_sub hl [1, 2, 3, 4, 0] rfl)
          · have hf := pt hc hf
            refine lv_iconst (v := 1) hx hb dL_would_159 (by decide) ?_
            refine lv_goto (tgt := 164) hx hb dL_would_160 (by decide) ?_
            exact hJ4 _ hf _ _ _ _ ls hR hP hD hS (lv_sub hl [1, 2, 3, 4, 0] rfl)
      have hJ17 : jL_would_17 i1 a K y0_1 y0_2 → ∀ (V : GV) (u : QH) (H : Heap) (locs : List Loc) (ls : Array Slot), RepA V a → va_P (dC, dI) vwCl (WB cI cZ cC cO Q u V).flatten H → va_D A (WB cI cZ cC cO Q u V).flatten → va_S A s.heap H locs → lv_has ls 17 [(0, .ref (Q 0 0)), (1, .int i1), (3, .int ((lwA28 ((i1 >>> (6 &&& 31))) 5) - 1)), (4, .int (ifgA a.1 (((lwA28 i1 42) - 1)) (((lwA28 ((i1 >>> (6 &&& 31))) 5) - 1)))), (5, .int y0_1), (6, .int y0_2)] → W p l e (headSpec wsL_would rmL_would).room s m args below meth c H locs 0 0 (MQ below (va_Qi (fun r (w : QH × GV) => K r ∧ RepA w.2 a) (fun w => poW (dC, dI) A (WB cI cZ cC cO Q w.1 w.2).flatten) A) args s 0 0 A) (F0 m 135 ls []) := by
        intro hf V u H locs ls hR hP hD hS hl
        unfold jL_would_17 at hf
        refine lv_iconst (v := 1) hx hb dL_would_135 (by decide) ?_
        refine lv_goto (tgt := 140) hx hb dL_would_136 (by decide) ?_
        exact hJ3 _ hf _ _ _ _ ls hR hP hD hS (lv_sub hl [0, 1, 2, 3, 4, 5] rfl)
      refine lv_if_lt (tgt := 135) hx hb dL_would_117 (by decide) (fun hc => ?_) (fun hc => ?_)
      · have hf := pt hc hf
        exact hJ17 hf _ _ _ _ ls hR hP hD hS (lv_sub hl [1, 2, 4, 5, 6, 0] rfl)
      · have hf := pe hc hf
        refine lv_iload_n hx hb dL_would_120 rfl (lv_at hl 3 rfl) ?_
        refine lv_bipush (v := 39) hx hb dL_would_121 (by decide) ?_
        refine lv_icmp_gt (tgt := 135) hx hb dL_would_123 (by decide) (fun hc => ?_) (fun hc => ?_)
        · have hf := pt hc hf
          exact hJ17 hf _ _ _ _ ls hR hP hD hS (lv_sub hl [1, 2, 4, 5, 6, 0] rfl)
        · have hf := pe hc hf
          refine lv_iload_n hx hb dL_would_126 rfl (lv_at hl 4 rfl) ?_
          refine lv_if_lt (tgt := 135) hx hb dL_would_127 (by decide) (fun hc => ?_) (fun hc => ?_)
          · have hf := pt hc hf
            exact hJ17 hf _ _ _ _ ls hR hP hD hS (lv_sub hl [1, 2, 4, 5, 6, 0] rfl)
          · have hf := pe hc hf
            refine lv_iload_n hx hb dL_would_130 rfl (lv_at hl 4 rfl) ?_
            refine lv_iconst (v := 2) hx hb dL_would_131 (by decide) ?_
            refine lv_icmp_le (tgt := 139) hx hb dL_would_132 (by decide) (fun hc => ?_) (fun hc => ?_)
            · have hf := pt hc hf
              refine lv_iconst (v := 0) hx hb dL_would_139 (by decide) ?_
              exact hJ3 _ hf _ _ _ _ ls hR hP hD hS (lv_sub hl [1, 2, 4, 5, 6, 0] rfl)
            · have hf := pe hc hf
              exact hJ17 hf _ _ _ _ ls hR hP hD hS (lv_sub hl [1, 2, 4, 5, 6, 0] rfl)
    have hJ18 : jL_would_18 i1 a K y0_1 → ∀ (V : GV) (u : QH) (H : Heap) (locs : List Loc) (ls : Array Slot), RepA V a → va_P (dC, dI) vwCl (WB cI cZ cC cO Q u V).flatten H → va_D A (WB cI cZ cC cO Q u V).flatten → va_S A s.heap H locs → lv_has ls 17 [(0, .ref (Q 0 0)), (1, .int i1), (2, .int ((lwA28 i1 42) - 1)), (3, .int ((lwA28 ((i1 >>> (6 &&& 31))) 5) - 1)), (4, .int (ifgA a.1 (((lwA28 i1 42) - 1)) (((lwA28 ((i1 >>> (6 &&& 31))) 5) - 1)))), (5, .int y0_1)] → W p l e (headSpec wsL_would rmL_would).room s m args below meth c H locs 0 0 (MQ below (va_Qi (fun r (w : QH × GV) => K r ∧ RepA w.2 a) (fun w => poW (dC, dI) A (WB cI cZ cC cO Q w.1 w.2).flatten) A) args s 0 0 A) (F0 m 60 ls []) := by
      intro hf V u H locs ls hR hP hD hS hl
      unfold jL_would_18 at hf
      refine lv_iconst (v := 0) hx hb dL_would_60 (by decide) ?_
      refine lv_goto (tgt := 114) hx hb dL_would_61 (by decide) ?_
      exact hJ2 _ hf _ _ _ _ ls hR hP hD hS (lv_sub hl [0, 1, 2, 3, 4, 5] rfl)
    refine lv_if_lt (tgt := 60) hx hb dL_would_51 (by decide) (fun hc => ?_) (fun hc => ?_)
    · have hf := pt hc hf
      exact hJ18 hf _ _ _ _ ls hR hP hD hS (lv_sub hl [1, 2, 3, 4, 5, 0] rfl)
    · have hf := pe hc hf
      refine lv_iload_n hx hb dL_would_54 rfl (lv_at hl 3 rfl) ?_
      refine lv_bipush (v := 39) hx hb dL_would_55 (by decide) ?_
      refine lv_icmp_le (tgt := 64) hx hb dL_would_57 (by decide) (fun hc => ?_) (fun hc => ?_)
      · have hf := pt hc hf
        refine lv_iload_n hx hb dL_would_64 rfl (lv_at hl 3 rfl) ?_
        refine lv_bipush (v := 11) hx hb dL_would_65 (by decide) ?_
        refine lv_icmp_ge (tgt := 74) hx hb dL_would_67 (by decide) (fun hc => ?_) (fun hc => ?_)
        · have hf := pt hc hf
          refine lv_iload_n hx hb dL_would_74 rfl (lv_at hl 3 rfl) ?_
          refine lv_bipush (v := 21) hx hb dL_would_75 (by decide) ?_
          refine lv_icmp_ge (tgt := 93) hx hb dL_would_77 (by decide) (fun hc => ?_) (fun hc => ?_)
          · have hf := pt hc hf
            refine lv_iload_n hx hb dL_would_93 rfl (lv_at hl 3 rfl) ?_
            refine lv_bipush (v := 31) hx hb dL_would_94 (by decide) ?_
            refine lv_icmp_ge (tgt := 107) hx hb dL_would_96 (by decide) (fun hc => ?_) (fun hc => ?_)
            · have hf := pt hc hf
              refine lv_bipush (v := 11) hx hb dL_would_107 (by decide) ?_
              refine lv_bipush (v := 40) hx hb dL_would_109 (by decide) ?_
              refine lv_iload_n hx hb dL_would_111 rfl (lv_at hl 3 rfl) ?_
              refine lv_isub hx hb dL_would_112 ?_
              refine lv_imul hx hb dL_would_113 ?_
              exact hJ2 _ hf _ _ _ _ ls hR hP hD hS (lv_sub hl [1, 2, 3, 4, 5, 0] rfl)
            · have hf := pe hc hf
              refine lv_sipush (v := 140) hx hb dL_would_99 (by decide) ?_
              refine lv_iload_n hx hb dL_would_102 rfl (lv_at hl 3 rfl) ?_
              refine lv_isub hx hb dL_would_103 ?_
              refine lv_goto (tgt := 114) hx hb dL_would_104 (by decide) ?_
              exact hJ2 _ hf _ _ _ _ ls hR hP hD hS (lv_sub hl [1, 2, 3, 4, 5, 0] rfl)
          · have hf := pe hc hf
            refine lv_bipush (v := 11) hx hb dL_would_80 (by decide) ?_
            refine lv_iload_n hx hb dL_would_82 rfl (lv_at hl 3 rfl) ?_
            refine lv_bipush (v := 10) hx hb dL_would_83 (by decide) ?_
            refine lv_isub hx hb dL_would_85 ?_
            refine lv_imul hx hb dL_would_86 ?_
            refine lv_bipush (v := 10) hx hb dL_would_87 (by decide) ?_
            refine lv_iadd hx hb dL_would_89 ?_
            refine lv_goto (tgt := 114) hx hb dL_would_90 (by decide) ?_
            exact hJ2 _ hf _ _ _ _ ls hR hP hD hS (lv_sub hl [1, 2, 3, 4, 5, 0] rfl)
        · have hf := pe hc hf
          refine lv_iload_n hx hb dL_would_70 rfl (lv_at hl 3 rfl) ?_
          refine lv_goto (tgt := 114) hx hb dL_would_71 (by decide) ?_
          exact hJ2 _ hf _ _ _ _ ls hR hP hD hS (lv_sub hl [1, 2, 3, 4, 5, 0] rfl)
      · have hf := pe hc hf
        exact hJ18 hf _ _ _ _ ls hR hP hD hS (lv_sub hl [1, 2, 3, 4, 5, 0] rfl)
  have hJ19 : jL_would_19 i1 a K → ∀ (V : GV) (u : QH) (H : Heap) (locs : List Loc) (ls : Array Slot), RepA V a → va_P (dC, dI) vwCl (WB cI cZ cC cO Q u V).flatten H → va_D A (WB cI cZ cC cO Q u V).flatten → va_S A s.heap H locs → lv_has ls 17 [(0, .ref (Q 0 0)), (1, .int i1), (2, .int ((lwA28 i1 42) - 1)), (3, .int ((lwA28 ((i1 >>> (6 &&& 31))) 5) - 1)), (4, .int (ifgA a.1 (((lwA28 i1 42) - 1)) (((lwA28 ((i1 >>> (6 &&& 31))) 5) - 1))))] → W p l e (headSpec wsL_would rmL_would).room s m args below meth c H locs 0 0 (MQ below (va_Qi (fun r (w : QH × GV) => K r ∧ RepA w.2 a) (fun w => poW (dC, dI) A (WB cI cZ cC cO Q w.1 w.2).flatten) A) args s 0 0 A) (F0 m 38 ls []) := by
    intro hf V u H locs ls hR hP hD hS hl
    unfold jL_would_19 at hf
    refine lv_bipush (v := (-4)) hx hb dL_would_38 (by decide) ?_
    refine lv_goto (tgt := 48) hx hb dL_would_40 (by decide) ?_
    exact hJ1 _ hf _ _ _ _ ls hR hP hD hS (lv_sub hl [0, 1, 2, 3, 4] rfl)
  refine lv_if_lt (tgt := 38) hx hb dL_would_29 (by decide) (fun hc => ?_) (fun hc => ?_)
  · have hf := pt hc hf
    exact hJ19 hf _ _ _ _ ls hR hP hD hS (lv_sub hl [3, 4, 2, 1, 0] rfl)
  · have hf := pe hc hf
    refine lv_iload_n hx hb dL_would_32 rfl (lv_at hl 2 rfl) ?_
    refine lv_bipush (v := 39) hx hb dL_would_33 (by decide) ?_
    refine lv_icmp_le (tgt := 43) hx hb dL_would_35 (by decide) (fun hc => ?_) (fun hc => ?_)
    · have hf := pt hc hf
      refine lv_aload_n hx hb dL_would_43 rfl (lv_at hl 3 rfl) ?_
      refine lv_iload_n hx hb dL_would_44 rfl (lv_at hl 2 rfl) ?_
      refine rb_screens (x0 := (((lwA28 i1 42) - 1))) (rest := []) ⟨hx, hb, hml, hown, hts⟩ (cwV 1 hts gL_would_X7_screens rfl rfl rfl (by decide +kernel) ⟨Nat.le_of_ble_eq_true rfl, Nat.le_of_ble_eq_true rfl⟩) hK hN hP hD hS hA hR hl.1 rfl (Nat.le_of_ble_eq_true rfl) dL_would_45 ⟨Nat.le_of_ble_eq_true rfl, Nat.le_of_ble_eq_true rfl⟩ (fun V u H locs hR hP hD hS => ?_)
      exact hJ1 _ hf _ _ _ _ ls hR hP hD hS (lv_sub hl [3, 4, 2, 1, 0] rfl)
    · have hf := pe hc hf
      exact hJ19 hf _ _ _ _ ls hR hP hD hS (lv_sub hl [3, 4, 2, 1, 0] rfl)
