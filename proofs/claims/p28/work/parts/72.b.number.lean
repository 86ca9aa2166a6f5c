set_option maxHeartbeats 20000000 in
set_option maxRecDepth 100000 in
theorem mL_number (l : Launch) (dC : Nat → ClassId) (dI : Nat → Nat → Nat) (cI cZ cC cO : ClassId) (Q : Nat → Nat → Nat) (u : QH) (V : GV) (i1 : Int32) (a : AS) (K : Int32 → AS → Prop) (sz : Nat) (hR : RepA V a) (hf : gL_number i1 a K) : Met l yL_number wsL_number rmL_number (va_Pc [.ref (Q 0 0), .int i1] (pcW (dC, dI) (wTys cI cZ cC cO) sz (WB cI cZ cC cO Q u V).flatten)) (va_Qi (fun r (w : QH × GV × AS) => K r w.2.2 ∧ RepA w.2.1 w.2.2) (fun w => poW (dC, dI) (va_A (WB cI cZ cC cO Q u V).flatten sz) (WB cI cZ cC cO Q w.1 w.2.1).flatten) (va_A (WB cI cZ cC cO Q u V).flatten sz)) 0 0 (va_A (WB cI cZ cC cO Q u V).flatten sz) := by
  refine Met.ofW (cc := cL_number) (maxL := 2) (ret := (some .boolean)) (by decide) rfl ?_
  intro p e s m args below meth c s₁ B hml hv
  obtain ⟨hargs, hsz, hP, hK, hN, hD0⟩ := hv
  have hx := B.exec
  have hb := B.bytes
  have hr := B.returns
  have hts := atoms_spec (ws := wsL_number) B.pre
  have hown : s.vm.findClass RL = some m.cls := findClass_of_methodNamed B.named
  have hlocks := B.notSynchronized
  subst hsz
  have hD := hD0.self (sz := s.heap.size)
  generalize hAe : va_A (WB cI cZ cC cO Q u V).flatten s.heap.size = A at hD ⊢
  have hA : ∀ q : Nat, s.heap.size ≤ q → A q := fun q h => by rw [← hAe]; exact Or.inr h
  have hS : va_S A s.heap s.heap [] := va_S.rf
  have hE := lg_entry_eq m [.ref (Q 0 0), .int i1] 2
  rw [← hargs] at hE
  rw [hE]
  have hl := lv_entry [.ref (Q 0 0), .int i1] (n := 2) (Nat.le_of_ble_eq_true rfl)
  generalize (lg_sl [.ref (Q 0 0), .int i1] ++ List.replicate (2 - (lg_sl [.ref (Q 0 0), .int i1]).length) Slot.unset).toArray = ls at hl ⊢
  have hl : lv_has ls 2 [(0, .ref (Q 0 0)), (1, .int i1)] := hl
  have hP : va_P (dC, dI) vwCl (WB cI cZ cC cO Q u V).flatten s.heap := hP
  unfold gL_number at hf
  refine lv_iload_n hx hb dL_number_0 rfl (lv_at hl 1 rfl) ?_
  refine lv_bipush (v := 100) hx hb dL_number_1 (by decide) ?_
  have hJ1 : ∀ (a_1 : AS), jL_number_1 i1 K a_1 → ∀ (V : GV) (u : QH) (H : Heap) (locs : List Loc) (ls : Array Slot), RepA V a_1 → va_P (dC, dI) vwCl (WB cI cZ cC cO Q u V).flatten H → va_D A (WB cI cZ cC cO Q u V).flatten → va_S A s.heap H locs → lv_has ls 2 [(0, .ref (Q 0 0)), (1, .int i1)] → W p l e (headSpec wsL_number rmL_number).room s m args below meth c H locs 0 0 (MQ below (va_Qi (fun r (w : QH × GV × AS) => K r w.2.2 ∧ RepA w.2.1 w.2.2) (fun w => poW (dC, dI) A (WB cI cZ cC cO Q w.1 w.2.1).flatten) A) args s 0 0 A) (F0 m 20 ls []) := by
    intro a_1 hf V u H locs ls hR hP hD hS hl
    unfold jL_number_1 at hf
    refine lv_iload_n hx hb dL_number_20 rfl (lv_at hl 1 rfl) ?_
    refine lv_bipush (v := 10) hx hb dL_number_21 (by decide) ?_
    have hJ2 : ∀ (a_2 : AS), jL_number_2 i1 K a_2 → ∀ (V : GV) (u : QH) (H : Heap) (locs : List Loc) (ls : Array Slot), RepA V a_2 → va_P (dC, dI) vwCl (WB cI cZ cC cO Q u V).flatten H → va_D A (WB cI cZ cC cO Q u V).flatten → va_S A s.heap H locs → lv_has ls 2 [(0, .ref (Q 0 0)), (1, .int i1)] → W p l e (headSpec wsL_number rmL_number).room s m args below meth c H locs 0 0 (MQ below (va_Qi (fun r (w : QH × GV × AS) => K r w.2.2 ∧ RepA w.2.1 w.2.2) (fun w => poW (dC, dI) A (WB cI cZ cC cO Q w.1 w.2.1).flatten) A) args s 0 0 A) (F0 m 43 ls []) := by
      intro a_2 hf V u H locs ls hR hP hD hS hl
      unfold jL_number_2 at hf
      refine lv_aload_n hx hb dL_number_43 rfl (lv_at hl 0 rfl) ?_
      refine lv_bipush (v := 48) hx hb dL_number_44 (by decide) ?_
      refine lv_iload_n hx hb dL_number_46 rfl (lv_at hl 1 rfl) ?_
      refine lv_bipush (v := 10) hx hb dL_number_47 (by decide) ?_
      refine jirem hx hb dL_number_49 (by decide) ?_
      refine lv_iadd hx hb dL_number_50 ?_
      obtain ⟨o51, ho51, hf⟩ := bdE hf
      refine rb_append (ho := ho51) (rest := []) ⟨hx, hb, hml, hown, hts⟩ (cwV 1 hts gL_number_X7_append rfl rfl rfl (by decide +kernel) ⟨Nat.le_of_ble_eq_true rfl, Nat.le_of_ble_eq_true rfl⟩) hK hN hP hD hS hA hR hl.1 rfl (Nat.le_of_ble_eq_true rfl) dL_number_51 ⟨Nat.le_of_ble_eq_true rfl, Nat.le_of_ble_eq_true rfl⟩ (fun V u H locs hR hP hD hS => ?_)
      refine lv_if_le (tgt := 61) hx hb dL_number_54 (by decide) (fun hc => ?_) (fun hc => ?_)
      · have hf := pt hc hf
        refine lv_iconst (v := 0) hx hb dL_number_61 (by decide) ?_
        exact W.zret (v := 0) (ty := .boolean) hx hb hr rfl (fun t ht hW => ⟨⟨_, (u, V, o51.2), rfl, ⟨hf, hR⟩, by rw [ht]; exact hP, hD⟩, hS.F ht⟩) hS.2.2 dL_number_62
      · have hf := pe hc hf
        refine lv_iconst (v := 1) hx hb dL_number_57 (by decide) ?_
        refine lv_goto (tgt := 62) hx hb dL_number_58 (by decide) ?_
        exact W.zret (v := 1) (ty := .boolean) hx hb hr rfl (fun t ht hW => ⟨⟨_, (u, V, o51.2), rfl, ⟨hf, hR⟩, by rw [ht]; exact hP, hD⟩, hS.F ht⟩) hS.2.2 dL_number_62
    refine lv_icmp_lt (tgt := 43) hx hb dL_number_23 (by decide) (fun hc => ?_) (fun hc => ?_)
    · have hf := pt hc hf
      exact hJ2 _ hf _ _ _ _ ls hR hP hD hS (lv_sub hl [0, 1] rfl)
    · have hf := pe hc hf
      refine lv_aload_n hx hb dL_number_26 rfl (lv_at hl 0 rfl) ?_
      refine lv_bipush (v := 48) hx hb dL_number_27 (by decide) ?_
      refine lv_iload_n hx hb dL_number_29 rfl (lv_at hl 1 rfl) ?_
      refine lv_bipush (v := 10) hx hb dL_number_30 (by decide) ?_
      refine lv_idiv hx hb dL_number_32 (by decide) ?_
      refine lv_bipush (v := 10) hx hb dL_number_33 (by decide) ?_
      refine jirem hx hb dL_number_35 (by decide) ?_
      refine lv_iadd hx hb dL_number_36 ?_
      obtain ⟨o37, ho37, hf⟩ := bdE hf
      refine rb_append (ho := ho37) (rest := []) ⟨hx, hb, hml, hown, hts⟩ (cwV 1 hts gL_number_X7_append rfl rfl rfl (by decide +kernel) ⟨Nat.le_of_ble_eq_true rfl, Nat.le_of_ble_eq_true rfl⟩) hK hN hP hD hS hA hR hl.1 rfl (Nat.le_of_ble_eq_true rfl) dL_number_37 ⟨Nat.le_of_ble_eq_true rfl, Nat.le_of_ble_eq_true rfl⟩ (fun V u H locs hR hP hD hS => ?_)
      refine lv_if_le (tgt := 61) hx hb dL_number_40 (by decide) (fun hc => ?_) (fun hc => ?_)
      · have hf := pt hc hf
        refine lv_iconst (v := 0) hx hb dL_number_61 (by decide) ?_
        exact W.zret (v := 0) (ty := .boolean) hx hb hr rfl (fun t ht hW => ⟨⟨_, (u, V, o37.2), rfl, ⟨hf, hR⟩, by rw [ht]; exact hP, hD⟩, hS.F ht⟩) hS.2.2 dL_number_62
      · have hf := pe hc hf
        exact hJ2 _ hf _ _ _ _ ls hR hP hD hS (lv_sub hl [0, 1] rfl)
  refine lv_icmp_lt (tgt := 20) hx hb dL_number_3 (by decide) (fun hc => ?_) (fun hc => ?_)
  · have hf := pt hc hf
    exact hJ1 _ hf _ _ _ _ ls hR hP hD hS (lv_sub hl [0, 1] rfl)
  · have hf := pe hc hf
    refine lv_aload_n hx hb dL_number_6 rfl (lv_at hl 0 rfl) ?_
    refine lv_bipush (v := 48) hx hb dL_number_7 (by decide) ?_
    refine lv_iload_n hx hb dL_number_9 rfl (lv_at hl 1 rfl) ?_
    refine lv_bipush (v := 100) hx hb dL_number_10 (by decide) ?_
    refine lv_idiv hx hb dL_number_12 (by decide) ?_
    refine lv_iadd hx hb dL_number_13 ?_
    obtain ⟨o14, ho14, hf⟩ := bdE hf
    refine rb_append (ho := ho14) (rest := []) ⟨hx, hb, hml, hown, hts⟩ (cwV 1 hts gL_number_X7_append rfl rfl rfl (by decide +kernel) ⟨Nat.le_of_ble_eq_true rfl, Nat.le_of_ble_eq_true rfl⟩) hK hN hP hD hS hA hR hl.1 rfl (Nat.le_of_ble_eq_true rfl) dL_number_14 ⟨Nat.le_of_ble_eq_true rfl, Nat.le_of_ble_eq_true rfl⟩ (fun V u H locs hR hP hD hS => ?_)
    refine lv_if_le (tgt := 61) hx hb dL_number_17 (by decide) (fun hc => ?_) (fun hc => ?_)
    · have hf := pt hc hf
      refine lv_iconst (v := 0) hx hb dL_number_61 (by decide) ?_
      exact W.zret (v := 0) (ty := .boolean) hx hb hr rfl (fun t ht hW => ⟨⟨_, (u, V, o14.2), rfl, ⟨hf, hR⟩, by rw [ht]; exact hP, hD⟩, hS.F ht⟩) hS.2.2 dL_number_62
    · have hf := pe hc hf
      exact hJ1 _ hf _ _ _ _ ls hR hP hD hS (lv_sub hl [0, 1] rfl)
