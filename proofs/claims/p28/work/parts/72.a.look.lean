set_option maxHeartbeats 20000000 in
set_option maxRecDepth 100000 in
theorem mL_look (l : Launch) (dC : Nat → ClassId) (dI : Nat → Nat → Nat) (cI cZ cC cO : ClassId) (Q : Nat → Nat → Nat) (u : QH) (V : GV) (a : AS) (K : Int64 → Prop) (sz : Nat) (hR : RepA V a) (hf : gL_look a K) : Met l yL_look wsL_look rmL_look (va_Pc [.ref (Q 0 0)] (pcW (dC, dI) (wTys cI cZ cC cO) sz (WB cI cZ cC cO Q u V).flatten)) (va_Ql (fun r (w : QH × GV) => K r ∧ RepA w.2 a) (fun w => poW (dC, dI) (va_A (WB cI cZ cC cO Q u V).flatten sz) (WB cI cZ cC cO Q w.1 w.2).flatten) (va_A (WB cI cZ cC cO Q u V).flatten sz)) 0 0 (va_A (WB cI cZ cC cO Q u V).flatten sz) := by
  refine Met.ofW (cc := cL_look) (maxL := 4) (ret := (some .long)) (by decide) rfl ?_
  intro p e s m args below meth c s₁ B hml hv
  obtain ⟨hargs, hsz, hP, hK, hN, hD0⟩ := hv
  have hx := B.exec
  have hb := B.bytes
  have hr := B.returns
  have hts := atoms_spec (ws := wsL_look) B.pre
  have hown : s.vm.findClass RL = some m.cls := findClass_of_methodNamed B.named
  have hlocks := B.notSynchronized
  subst hsz
  have hD := hD0.self (sz := s.heap.size)
  generalize hAe : va_A (WB cI cZ cC cO Q u V).flatten s.heap.size = A at hD ⊢
  have hA : ∀ q : Nat, s.heap.size ≤ q → A q := fun q h => by rw [← hAe]; exact Or.inr h
  have hS : va_S A s.heap s.heap [] := va_S.rf
  have hE := lg_entry_eq m [.ref (Q 0 0)] 4
  rw [← hargs] at hE
  rw [hE]
  have hl := lv_entry [.ref (Q 0 0)] (n := 4) (Nat.le_of_ble_eq_true rfl)
  generalize (lg_sl [.ref (Q 0 0)] ++ List.replicate (4 - (lg_sl [.ref (Q 0 0)]).length) Slot.unset).toArray = ls at hl ⊢
  have hl : lv_has ls 4 [(0, .ref (Q 0 0))] := hl
  have hP : va_P (dC, dI) vwCl (WB cI cZ cC cO Q u V).flatten s.heap := hP
  unfold gL_look at hf
  refine lv_ldc2 hx hb hown (hts (.constantLong RL 9 (379)) (by decide +kernel)) dL_look_0 ?_
  refine lv_lstore_n (lv' := [(1, .long (379 : Int64)), (0, .ref (Q 0 0))]) hx hb dL_look_3 rfl hl (by decide) rfl (fun ls hl => ?_)
  refine lv_ldc2 hx hb hown (hts (.constantLong RL 11 (31)) (by decide +kernel)) dL_look_4 ?_
  refine lv_ldc2 hx hb hown (hts (.constantLong RL 11 (31)) (by decide +kernel)) dL_look_7 ?_
  refine lv_lload_n hx hb dL_look_10 rfl (lv_at hl 0 rfl) ?_
  refine lv_lmul hx hb dL_look_11 ?_
  refine lv_aload_n hx hb dL_look_12 rfl (lv_at hl 1 rfl) ?_
  refine lv_iconst (v := 0) hx hb dL_look_13 (by decide) ?_
  refine rb_count (x0 := 0) (rest := [.long ((31 : Int64) * (379 : Int64)), .long (31 : Int64)]) ⟨hx, hb, hml, hown, hts⟩ (cwV 1 hts gL_look_X7_count rfl rfl rfl (by decide +kernel) ⟨Nat.le_of_ble_eq_true rfl, Nat.le_of_ble_eq_true rfl⟩) hK hN hP hD hS hA hR hl.1 rfl (Nat.le_of_ble_eq_true rfl) dL_look_14 ⟨Nat.le_of_ble_eq_true rfl, Nat.le_of_ble_eq_true rfl⟩ (fun V u H locs hR hP hD hS => ?_)
  refine lv_i2l (v := Int32.toInt64 ((cotA a 0))) hx hb dL_look_17 rfl ?_
  refine lv_ladd hx hb dL_look_18 ?_
  refine lv_lmul hx hb dL_look_19 ?_
  refine lv_aload_n hx hb dL_look_20 rfl (lv_at hl 1 rfl) ?_
  refine lv_bipush (v := 17) hx hb dL_look_21 (by decide) ?_
  refine rb_count (x0 := 17) (rest := [.long ((31 : Int64) * (((31 : Int64) * (379 : Int64)) + (Int32.toInt64 ((cotA a 0)))))]) ⟨hx, hb, hml, hown, hts⟩ (cwV 1 hts gL_look_X7_count rfl rfl rfl (by decide +kernel) ⟨Nat.le_of_ble_eq_true rfl, Nat.le_of_ble_eq_true rfl⟩) hK hN hP hD hS hA hR hl.1 rfl (Nat.le_of_ble_eq_true rfl) dL_look_23 ⟨Nat.le_of_ble_eq_true rfl, Nat.le_of_ble_eq_true rfl⟩ (fun V u H locs hR hP hD hS => ?_)
  refine lv_i2l (v := Int32.toInt64 ((cotA a 17))) hx hb dL_look_26 rfl ?_
  refine lv_ladd hx hb dL_look_27 ?_
  refine lv_lstore_n (lv' := [(1, .long (((31 : Int64) * (((31 : Int64) * (379 : Int64)) + (Int32.toInt64 ((cotA a 0))))) + (Int32.toInt64 ((cotA a 17))))), (0, .ref (Q 0 0))]) hx hb dL_look_28 rfl hl (by decide) rfl (fun ls hl => ?_)
  refine lv_bipush (v := 7) hx hb dL_look_29 (by decide) ?_
  refine lv_istore_n (lv' := [(3, .int 7), (1, .long (((31 : Int64) * (((31 : Int64) * (379 : Int64)) + (Int32.toInt64 ((cotA a 0))))) + (Int32.toInt64 ((cotA a 17))))), (0, .ref (Q 0 0))]) hx hb dL_look_31 rfl hl (by decide) rfl (fun ls hl => ?_)
  have hL32 : ∀ (KX32 : (Int64) → Prop) (n : Nat) (s32 : Int64 × Int32), lpP (tL_look_32 a) n s32 KX32 → ∀ (V : GV) (u : QH) (H : Heap) (locs : List Loc) (ls : Array Slot), RepA V a → va_P (dC, dI) vwCl (WB cI cZ cC cO Q u V).flatten H → va_D A (WB cI cZ cC cO Q u V).flatten → va_S A s.heap H locs → lv_has ls 4 [(0, .ref (Q 0 0)), (1, .long s32.1), (3, .int s32.2)] → (∀ (o32 : Int64), KX32 o32 → ∀ (V : GV) (u : QH) (H : Heap) (locs : List Loc) (ls : Array Slot), RepA V a → va_P (dC, dI) vwCl (WB cI cZ cC cO Q u V).flatten H → va_D A (WB cI cZ cC cO Q u V).flatten → va_S A s.heap H locs → lv_has ls 4 [(0, .ref (Q 0 0)), (1, .long o32)] → W p l e (headSpec wsL_look rmL_look).room s m args below meth c H locs 0 0 (MQ below (va_Ql (fun r (w : QH × GV) => K r ∧ RepA w.2 a) (fun w => poW (dC, dI) A (WB cI cZ cC cO Q w.1 w.2).flatten) A) args s 0 0 A) (F0 m 57 ls [])) → W p l e (headSpec wsL_look rmL_look).room s m args below meth c H locs 0 0 (MQ below (va_Ql (fun r (w : QH × GV) => K r ∧ RepA w.2 a) (fun w => poW (dC, dI) A (WB cI cZ cC cO Q w.1 w.2).flatten) A) args s 0 0 A) (F0 m 32 ls []) := by
    intro KX32 n
    induction n with
    | zero => intro s32 hf; exact False.elim hf
    | succ n ih32 =>
      intro s32 hf V u H locs ls hR hP hD hS hl kx
      obtain ⟨KB32, hKB32⟩ : ∃ F : (Int64 × Int32) → Prop, F = fun s9 => lpP (tL_look_32 a) n s9 KX32 := ⟨_, rfl⟩
      have hf : tL_look_32 a s32 KB32 KX32 := by rw [hKB32]; exact hf
      unfold tL_look_32 at hf
      refine lv_iload_n hx hb dL_look_32 rfl (lv_at hl 2 rfl) ?_
      refine lv_bipush (v := 11) hx hb dL_look_33 (by decide) ?_
      refine lv_icmp_ge (tgt := 57) hx hb dL_look_35 (by decide) (fun hc => ?_) (fun hc => ?_)
      · have hf := pt hc hf
        exact kx _ hf _ _ _ _ ls hR hP hD hS (lv_sub hl [0, 1] rfl)
      · have hf := pe hc hf
        refine lv_ldc2 hx hb hown (hts (.constantLong RL 11 (31)) (by decide +kernel)) dL_look_38 ?_
        refine lv_lload_n hx hb dL_look_41 rfl (lv_at hl 1 rfl) ?_
        refine lv_lmul hx hb dL_look_42 ?_
        refine lv_aload_n hx hb dL_look_43 rfl (lv_at hl 0 rfl) ?_
        refine lv_iload_n hx hb dL_look_44 rfl (lv_at hl 2 rfl) ?_
        refine rb_count (x0 := s32.2) (rest := [.long ((31 : Int64) * s32.1)]) ⟨hx, hb, hml, hown, hts⟩ (cwV 1 hts gL_look_X7_count rfl rfl rfl (by decide +kernel) ⟨Nat.le_of_ble_eq_true rfl, Nat.le_of_ble_eq_true rfl⟩) hK hN hP hD hS hA hR hl.1 rfl (Nat.le_of_ble_eq_true rfl) dL_look_45 ⟨Nat.le_of_ble_eq_true rfl, Nat.le_of_ble_eq_true rfl⟩ (fun V u H locs hR hP hD hS => ?_)
        refine lv_i2l (v := Int32.toInt64 ((cotA a s32.2))) hx hb dL_look_48 rfl ?_
        refine lv_ladd hx hb dL_look_49 ?_
        refine lv_lstore_n (lv' := [(1, .long (((31 : Int64) * s32.1) + (Int32.toInt64 ((cotA a s32.2))))), (0, .ref (Q 0 0)), (3, .int s32.2)]) hx hb dL_look_50 rfl hl (by decide) rfl (fun ls hl => ?_)
        refine lv_iinc (v := (s32.2 + 1)) (lv' := [(3, .int (s32.2 + 1)), (1, .long (((31 : Int64) * s32.1) + (Int32.toInt64 ((cotA a s32.2))))), (0, .ref (Q 0 0))]) hx hb dL_look_51 hl (k := 2) rfl rfl (by decide) rfl (fun ls hl => ?_)
        refine lv_goto (tgt := 32) hx hb dL_look_54 (by decide) ?_
        rw [hKB32] at hf
        exact ih32 _ hf _ _ _ _ ls hR hP hD hS (lv_sub hl [2, 1, 0] rfl) kx
  refine hL32 _ FU _ hf _ _ _ _ ls hR hP hD hS (lv_sub hl [2, 1, 0] rfl) ?_
  intro o32 hf V u H locs ls hR hP hD hS hl
  have hf : (lpP (tL_look_60 a) FU (o32, 13) fun o60 => (lpP (tL_look_87 a) FU (o60, 0) fun o87 => K o87)) := hf
  refine lv_bipush (v := 13) hx hb dL_look_57 (by decide) ?_
  refine lv_istore_n (lv' := [(3, .int 13), (0, .ref (Q 0 0)), (1, .long o32)]) hx hb dL_look_59 rfl hl (by decide) rfl (fun ls hl => ?_)
  have hL60 : ∀ (KX60 : (Int64) → Prop) (n : Nat) (s60 : Int64 × Int32), lpP (tL_look_60 a) n s60 KX60 → ∀ (V : GV) (u : QH) (H : Heap) (locs : List Loc) (ls : Array Slot), RepA V a → va_P (dC, dI) vwCl (WB cI cZ cC cO Q u V).flatten H → va_D A (WB cI cZ cC cO Q u V).flatten → va_S A s.heap H locs → lv_has ls 4 [(0, .ref (Q 0 0)), (1, .long s60.1), (3, .int s60.2)] → (∀ (o60 : Int64), KX60 o60 → ∀ (V : GV) (u : QH) (H : Heap) (locs : List Loc) (ls : Array Slot), RepA V a → va_P (dC, dI) vwCl (WB cI cZ cC cO Q u V).flatten H → va_D A (WB cI cZ cC cO Q u V).flatten → va_S A s.heap H locs → lv_has ls 4 [(0, .ref (Q 0 0)), (1, .long o60)] → W p l e (headSpec wsL_look rmL_look).room s m args below meth c H locs 0 0 (MQ below (va_Ql (fun r (w : QH × GV) => K r ∧ RepA w.2 a) (fun w => poW (dC, dI) A (WB cI cZ cC cO Q w.1 w.2).flatten) A) args s 0 0 A) (F0 m 85 ls [])) → W p l e (headSpec wsL_look rmL_look).room s m args below meth c H locs 0 0 (MQ below (va_Ql (fun r (w : QH × GV) => K r ∧ RepA w.2 a) (fun w => poW (dC, dI) A (WB cI cZ cC cO Q w.1 w.2).flatten) A) args s 0 0 A) (F0 m 60 ls []) := by
    intro KX60 n
    induction n with
    | zero => intro s60 hf; exact False.elim hf
    | succ n ih60 =>
      intro s60 hf V u H locs ls hR hP hD hS hl kx
      obtain ⟨KB60, hKB60⟩ : ∃ F : (Int64 × Int32) → Prop, F = fun s9 => lpP (tL_look_60 a) n s9 KX60 := ⟨_, rfl⟩
      have hf : tL_look_60 a s60 KB60 KX60 := by rw [hKB60]; exact hf
      unfold tL_look_60 at hf
      refine lv_iload_n hx hb dL_look_60 rfl (lv_at hl 2 rfl) ?_
      refine lv_bipush (v := 17) hx hb dL_look_61 (by decide) ?_
      refine lv_icmp_ge (tgt := 85) hx hb dL_look_63 (by decide) (fun hc => ?_) (fun hc => ?_)
      · have hf := pt hc hf
        exact kx _ hf _ _ _ _ ls hR hP hD hS (lv_sub hl [0, 1] rfl)
      · have hf := pe hc hf
        refine lv_ldc2 hx hb hown (hts (.constantLong RL 11 (31)) (by decide +kernel)) dL_look_66 ?_
        refine lv_lload_n hx hb dL_look_69 rfl (lv_at hl 1 rfl) ?_
        refine lv_lmul hx hb dL_look_70 ?_
        refine lv_aload_n hx hb dL_look_71 rfl (lv_at hl 0 rfl) ?_
        refine lv_iload_n hx hb dL_look_72 rfl (lv_at hl 2 rfl) ?_
        refine rb_count (x0 := s60.2) (rest := [.long ((31 : Int64) * s60.1)]) ⟨hx, hb, hml, hown, hts⟩ (cwV 1 hts gL_look_X7_count rfl rfl rfl (by decide +kernel) ⟨Nat.le_of_ble_eq_true rfl, Nat.le_of_ble_eq_true rfl⟩) hK hN hP hD hS hA hR hl.1 rfl (Nat.le_of_ble_eq_true rfl) dL_look_73 ⟨Nat.le_of_ble_eq_true rfl, Nat.le_of_ble_eq_true rfl⟩ (fun V u H locs hR hP hD hS => ?_)
        refine lv_i2l (v := Int32.toInt64 ((cotA a s60.2))) hx hb dL_look_76 rfl ?_
        refine lv_ladd hx hb dL_look_77 ?_
        refine lv_lstore_n (lv' := [(1, .long (((31 : Int64) * s60.1) + (Int32.toInt64 ((cotA a s60.2))))), (0, .ref (Q 0 0)), (3, .int s60.2)]) hx hb dL_look_78 rfl hl (by decide) rfl (fun ls hl => ?_)
        refine lv_iinc (v := (s60.2 + 1)) (lv' := [(3, .int (s60.2 + 1)), (1, .long (((31 : Int64) * s60.1) + (Int32.toInt64 ((cotA a s60.2))))), (0, .ref (Q 0 0))]) hx hb dL_look_79 hl (k := 2) rfl rfl (by decide) rfl (fun ls hl => ?_)
        refine lv_goto (tgt := 60) hx hb dL_look_82 (by decide) ?_
        rw [hKB60] at hf
        exact ih60 _ hf _ _ _ _ ls hR hP hD hS (lv_sub hl [2, 1, 0] rfl) kx
  refine hL60 _ FU _ hf _ _ _ _ ls hR hP hD hS (lv_sub hl [1, 2, 0] rfl) ?_
  intro o60 hf V u H locs ls hR hP hD hS hl
  have hf : (lpP (tL_look_87 a) FU (o60, 0) fun o87 => K o87) := hf
  refine lv_iconst (v := 0) hx hb dL_look_85 (by decide) ?_
  refine lv_istore_n (lv' := [(3, .int 0), (0, .ref (Q 0 0)), (1, .long o60)]) hx hb dL_look_86 rfl hl (by decide) rfl (fun ls hl => ?_)
  have hL87 : ∀ (KX87 : (Int64) → Prop) (n : Nat) (s87 : Int64 × Int32), lpP (tL_look_87 a) n s87 KX87 → ∀ (V : GV) (u : QH) (H : Heap) (locs : List Loc) (ls : Array Slot), RepA V a → va_P (dC, dI) vwCl (WB cI cZ cC cO Q u V).flatten H → va_D A (WB cI cZ cC cO Q u V).flatten → va_S A s.heap H locs → lv_has ls 4 [(0, .ref (Q 0 0)), (1, .long s87.1), (3, .int s87.2)] → (∀ (o87 : Int64), KX87 o87 → ∀ (V : GV) (u : QH) (H : Heap) (locs : List Loc) (ls : Array Slot), RepA V a → va_P (dC, dI) vwCl (WB cI cZ cC cO Q u V).flatten H → va_D A (WB cI cZ cC cO Q u V).flatten → va_S A s.heap H locs → lv_has ls 4 [(1, .long o87)] → W p l e (headSpec wsL_look rmL_look).room s m args below meth c H locs 0 0 (MQ below (va_Ql (fun r (w : QH × GV) => K r ∧ RepA w.2 a) (fun w => poW (dC, dI) A (WB cI cZ cC cO Q w.1 w.2).flatten) A) args s 0 0 A) (F0 m 141 ls [])) → W p l e (headSpec wsL_look rmL_look).room s m args below meth c H locs 0 0 (MQ below (va_Ql (fun r (w : QH × GV) => K r ∧ RepA w.2 a) (fun w => poW (dC, dI) A (WB cI cZ cC cO Q w.1 w.2).flatten) A) args s 0 0 A) (F0 m 87 ls []) := by
    intro KX87 n
    induction n with
    | zero => intro s87 hf; exact False.elim hf
    | succ n ih87 =>
      intro s87 hf V u H locs ls hR hP hD hS hl kx
      obtain ⟨KB87, hKB87⟩ : ∃ F : (Int64 × Int32) → Prop, F = fun s9 => lpP (tL_look_87 a) n s9 KX87 := ⟨_, rfl⟩
      have hf : tL_look_87 a s87 KB87 KX87 := by rw [hKB87]; exact hf
      unfold tL_look_87 at hf
      refine lv_iload_n hx hb dL_look_87 rfl (lv_at hl 2 rfl) ?_
      refine lv_aload_n hx hb dL_look_88 rfl (lv_at hl 0 rfl) ?_
      refine lv_iconst (v := 0) hx hb dL_look_89 (by decide) ?_
      refine rb_count (x0 := 0) (rest := [.int s87.2]) ⟨hx, hb, hml, hown, hts⟩ (cwV 1 hts gL_look_X7_count rfl rfl rfl (by decide +kernel) ⟨Nat.le_of_ble_eq_true rfl, Nat.le_of_ble_eq_true rfl⟩) hK hN hP hD hS hA hR hl.1 rfl (Nat.le_of_ble_eq_true rfl) dL_look_90 ⟨Nat.le_of_ble_eq_true rfl, Nat.le_of_ble_eq_true rfl⟩ (fun V u H locs hR hP hD hS => ?_)
      refine lv_icmp_ge (tgt := 141) hx hb dL_look_93 (by decide) (fun hc => ?_) (fun hc => ?_)
      · have hf := pt hc hf
        exact kx _ hf _ _ _ _ ls hR hP hD hS (lv_sub hl [1] rfl)
      · have hf := pe hc hf
        refine lv_ldc2 hx hb hown (hts (.constantLong RL 11 (31)) (by decide +kernel)) dL_look_96 ?_
        refine lv_ldc2 hx hb hown (hts (.constantLong RL 11 (31)) (by decide +kernel)) dL_look_99 ?_
        refine lv_ldc2 hx hb hown (hts (.constantLong RL 11 (31)) (by decide +kernel)) dL_look_102 ?_
        refine lv_lload_n hx hb dL_look_105 rfl (lv_at hl 1 rfl) ?_
        refine lv_lmul hx hb dL_look_106 ?_
        refine lv_aload_n hx hb dL_look_107 rfl (lv_at hl 0 rfl) ?_
        refine lv_iload_n hx hb dL_look_108 rfl (lv_at hl 2 rfl) ?_
        refine lv_iconst (v := 0) hx hb dL_look_109 (by decide) ?_
        refine rb_grain (x0 := s87.2) (x1 := 0) (rest := [.long ((31 : Int64) * s87.1), .long (31 : Int64), .long (31 : Int64)]) ⟨hx, hb, hml, hown, hts⟩ (cwV 2 hts gL_look_X7_grain rfl rfl rfl (by decide +kernel) ⟨Nat.le_of_ble_eq_true rfl, Nat.le_of_ble_eq_true rfl⟩) hK hN hP hD hS hA hR hl.1 rfl (Nat.le_of_ble_eq_true rfl) dL_look_110 ⟨Nat.le_of_ble_eq_true rfl, Nat.le_of_ble_eq_true rfl⟩ (fun V u H locs hR hP hD hS => ?_)
        refine lv_i2l (v := Int32.toInt64 ((grnA a.1 s87.2 0))) hx hb dL_look_113 rfl ?_
        refine lv_ladd hx hb dL_look_114 ?_
        refine lv_lmul hx hb dL_look_115 ?_
        refine lv_aload_n hx hb dL_look_116 rfl (lv_at hl 0 rfl) ?_
        refine lv_iload_n hx hb dL_look_117 rfl (lv_at hl 2 rfl) ?_
        refine lv_iconst (v := 1) hx hb dL_look_118 (by decide) ?_
        refine rb_grain (x0 := s87.2) (x1 := 1) (rest := [.long ((31 : Int64) * (((31 : Int64) * s87.1) + (Int32.toInt64 ((grnA a.1 s87.2 0))))), .long (31 : Int64)]) ⟨hx, hb, hml, hown, hts⟩ (cwV 2 hts gL_look_X7_grain rfl rfl rfl (by decide +kernel) ⟨Nat.le_of_ble_eq_true rfl, Nat.le_of_ble_eq_true rfl⟩) hK hN hP hD hS hA hR hl.1 rfl (Nat.le_of_ble_eq_true rfl) dL_look_119 ⟨Nat.le_of_ble_eq_true rfl, Nat.le_of_ble_eq_true rfl⟩ (fun V u H locs hR hP hD hS => ?_)
        refine lv_i2l (v := Int32.toInt64 ((grnA a.1 s87.2 1))) hx hb dL_look_122 rfl ?_
        refine lv_ladd hx hb dL_look_123 ?_
        refine lv_lmul hx hb dL_look_124 ?_
        refine lv_aload_n hx hb dL_look_125 rfl (lv_at hl 0 rfl) ?_
        refine lv_iload_n hx hb dL_look_126 rfl (lv_at hl 2 rfl) ?_
        refine lv_bipush (v := 8) hx hb dL_look_127 (by decide) ?_
        refine rb_grain (x0 := s87.2) (x1 := 8) (rest := [.long ((31 : Int64) * (((31 : Int64) * (((31 : Int64) * s87.1) + (Int32.toInt64 ((grnA a.1 s87.2 0))))) + (Int32.toInt64 ((grnA a.1 s87.2 1)))))]) ⟨hx, hb, hml, hown, hts⟩ (cwV 2 hts gL_look_X7_grain rfl rfl rfl (by decide +kernel) ⟨Nat.le_of_ble_eq_true rfl, Nat.le_of_ble_eq_true rfl⟩) hK hN hP hD hS hA hR hl.1 rfl (Nat.le_of_ble_eq_true rfl) dL_look_129 ⟨Nat.le_of_ble_eq_true rfl, Nat.le_of_ble_eq_true rfl⟩ (fun V u H locs hR hP hD hS => ?_)
        refine lv_i2l (v := Int32.toInt64 ((grnA a.1 s87.2 8))) hx hb dL_look_132 rfl ?_
        refine lv_ladd hx hb dL_look_133 ?_
        refine lv_lstore_n (lv' := [(1, .long (((31 : Int64) * (((31 : Int64) * (((31 : Int64) * s87.1) + (Int32.toInt64 ((grnA a.1 s87.2 0))))) + (Int32.toInt64 ((grnA a.1 s87.2 1))))) + (Int32.toInt64 ((grnA a.1 s87.2 8))))), (0, .ref (Q 0 0)), (3, .int s87.2)]) hx hb dL_look_134 rfl hl (by decide) rfl (fun ls hl => ?_)
        refine lv_iinc (v := (s87.2 + 1)) (lv' := [(3, .int (s87.2 + 1)), (1, .long (((31 : Int64) * (((31 : Int64) * (((31 : Int64) * s87.1) + (Int32.toInt64 ((grnA a.1 s87.2 0))))) + (Int32.toInt64 ((grnA a.1 s87.2 1))))) + (Int32.toInt64 ((grnA a.1 s87.2 8))))), (0, .ref (Q 0 0))]) hx hb dL_look_135 hl (k := 2) rfl rfl (by decide) rfl (fun ls hl => ?_)
        refine lv_goto (tgt := 87) hx hb dL_look_138 (by decide) ?_
        rw [hKB87] at hf
        exact ih87 _ hf _ _ _ _ ls hR hP hD hS (lv_sub hl [2, 1, 0] rfl) kx
  refine hL87 _ FU _ hf _ _ _ _ ls hR hP hD hS (lv_sub hl [1, 2, 0] rfl) ?_
  intro o87 hf V u H locs ls hR hP hD hS hl
  have hf : K o87 := hf
  refine lv_lload_n hx hb dL_look_141 rfl (lv_at hl 0 rfl) ?_
  exact W.lret (v := o87) hx hb hr (fun t ht hW => ⟨⟨_, (u, V), rfl, ⟨hf, hR⟩, by rw [ht]; exact hP, hD⟩, hS.F ht⟩) hS.2.2 dL_look_142
