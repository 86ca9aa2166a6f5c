set_option maxHeartbeats 4000000 in
set_option maxRecDepth 100000 in
theorem mX5_isGrain (l : Launch) (dC : Nat → ClassId) (dI : Nat → Nat → Nat) (cI cZ cC cO : ClassId) (q0 : Nat → Nat) (a1 : Int32) (g0 : GX5) (out : Int32) (hf : fX5_isGrain a1 g0 = some out) : Met l yX5_isGrain wsX5_isGrain rmX5_isGrain (va_Pc [.ref (q0 0), .int a1] (pcR (dC, dI) (wTys cI cZ cC cO) (wX5 cI cZ cC q0 g0))) (vp_Si (fun r => r = out)) 0 0 (fun _ => False) := by
  refine Met.ofW (cc := cX5_isGrain) (maxL := 2) (ret := (some .boolean)) (by decide) rfl ?_
  intro p e s m args below meth c s₁ B hml hv
  obtain ⟨hargs, hP, hK, hN⟩ := hv
  have hx := B.exec
  have hb := B.bytes
  have hr := B.returns
  have hts := atoms_spec (ws := wsX5_isGrain) B.pre
  have hown : s.vm.findClass RX5 = some m.cls := findClass_of_methodNamed B.named
  have hlocks := B.notSynchronized
  have hk0 := hts (.fieldLink RX5 30 "RimGrains$Trees" "grains" "I") (by decide +kernel)
  have hin5 : ∀ w ∈ wsX50, w ∈ wsX5_isGrain := by decide +kernel
  have hE := lg_entry_eq m [.ref (q0 0), .int a1] 2
  rw [← hargs] at hE
  rw [hE]
  have hl := lv_entry [.ref (q0 0), .int a1] (n := 2) (Nat.le_of_ble_eq_true rfl)
  generalize (lg_sl [.ref (q0 0), .int a1] ++ List.replicate (2 - (lg_sl [.ref (q0 0), .int a1]).length) Slot.unset).toArray = ls at hl ⊢
  have hl : lv_has ls 2 [(0, .ref (q0 0)), (1, .int a1)] := hl
  unfold fX5_isGrain at hf
  refine lv_iload_n hx hb dX5_isGrain_0 rfl (lv_at hl 1 rfl) ?_
  refine lv_if_lt (tgt := 16) hx hb dX5_isGrain_1 (by decide) (fun hc => ?_) (fun hc => ?_)
  · have hf := ot hc hf
    refine lv_iconst (v := 0) hx hb dX5_isGrain_16 (by decide) ?_
    obtain rfl := Option.some.inj hf
    exact W.zret (v := 0) (ty := .boolean) hx hb hr rfl (fun t ht hW => ⟨_, rfl, rfl, ht⟩) (fun _ h => by cases h) dX5_isGrain_17
  · have hf := oe hc hf
    refine lv_iload_n hx hb dX5_isGrain_4 rfl (lv_at hl 1 rfl) ?_
    refine lv_aload_n hx hb dX5_isGrain_5 rfl (lv_at hl 0 rfl) ?_
    refine va_get (D := (dC, dI)) (ci := 4) (v := .int (pX5_grains g0)) (C := RX5) (T := TX5) (N := 7) hx hb hts hin5 hown hK hP 0 rfl rfl 6 (by decide) hk0 (fun _ h9 => h9) rfl dX5_isGrain_6 ?_
    refine lv_icmp_ge (tgt := 16) hx hb dX5_isGrain_9 (by decide) (fun hc => ?_) (fun hc => ?_)
    · have hf := ot hc hf
      refine lv_iconst (v := 0) hx hb dX5_isGrain_16 (by decide) ?_
      obtain rfl := Option.some.inj hf
      exact W.zret (v := 0) (ty := .boolean) hx hb hr rfl (fun t ht hW => ⟨_, rfl, rfl, ht⟩) (fun _ h => by cases h) dX5_isGrain_17
    · have hf := oe hc hf
      refine lv_iconst (v := 1) hx hb dX5_isGrain_12 (by decide) ?_
      refine lv_goto (tgt := 17) hx hb dX5_isGrain_13 (by decide) ?_
      obtain rfl := Option.some.inj hf
      exact W.zret (v := 1) (ty := .boolean) hx hb hr rfl (fun t ht hW => ⟨_, rfl, rfl, ht⟩) (fun _ h => by cases h) dX5_isGrain_17
set_option maxHeartbeats 4000000 in
set_option maxRecDepth 100000 in
theorem mX5_readFromHolder (l : Launch) (dC : Nat → ClassId) (dI : Nat → Nat → Nat) (cI cZ cC cO : ClassId) (q0 : Nat → Nat) (a1 : Int32) (a2 : Int32) (g0 : GX5) (sz : Nat) (out : GX5) (hf : fX5_readFromHolder a1 a2 g0 = some out) : Met l yX5_readFromHolder wsX5_readFromHolder rmX5_readFromHolder (va_Pc [.ref (q0 0), .int a1, .int a2] (pcW (dC, dI) (wTys cI cZ cC cO) sz (wX5 cI cZ cC q0 g0))) (va_Qv (fun (_ : Unit) => True) (fun _ => poW (dC, dI) (va_A (wX5 cI cZ cC q0 g0) sz) (wX5 cI cZ cC q0 out)) (va_A (wX5 cI cZ cC q0 g0) sz)) 0 0 (va_A (wX5 cI cZ cC q0 g0) sz) := by
  refine Met.ofW (cc := cX5_readFromHolder) (maxL := 3) (ret := none) (by decide) rfl ?_
  intro p e s m args below meth c s₁ B hml hv
  obtain ⟨hargs, hsz, hP, hK, hN, hD0⟩ := hv
  have hx := B.exec
  have hb := B.bytes
  have hr := B.returns
  have hts := atoms_spec (ws := wsX5_readFromHolder) B.pre
  have hown : s.vm.findClass RX5 = some m.cls := findClass_of_methodNamed B.named
  have hlocks := B.notSynchronized
  have hk0 := hts (.fieldLink RX5 9 "RimGrains$Trees" "depths" "[I") (by decide +kernel)
  have hk1 := hts (.fieldLink RX5 15 "RimGrains$Trees" "roots" "[I") (by decide +kernel)
  have hk2 := hts (.fieldLink RX5 18 "RimGrains$Trees" "holding" "[I") (by decide +kernel)
  have hk3 := hts (.fieldLink RX5 21 "RimGrains$Trees" "members" "[I") (by decide +kernel)
  have hk4 := hts (.fieldLink RX5 24 "RimGrains$Trees" "highest" "[I") (by decide +kernel)
  have hk5 := hts (.fieldLink RX5 27 "RimGrains$Trees" "second" "[I") (by decide +kernel)
  have hin5 : ∀ w ∈ wsX50, w ∈ wsX5_readFromHolder := by decide +kernel
  subst hsz
  have hD := hD0.self (sz := s.heap.size)
  generalize hAe : va_A (wX5 cI cZ cC q0 g0) s.heap.size = A at hD ⊢
  have hA : ∀ q : Nat, s.heap.size ≤ q → A q := fun q h => by rw [← hAe]; exact Or.inr h
  have hS : va_S A s.heap s.heap [] := va_S.rf
  have hE := lg_entry_eq m [.ref (q0 0), .int a1, .int a2] 3
  rw [← hargs] at hE
  rw [hE]
  have hl := lv_entry [.ref (q0 0), .int a1, .int a2] (n := 3) (Nat.le_of_ble_eq_true rfl)
  generalize (lg_sl [.ref (q0 0), .int a1, .int a2] ++ List.replicate (3 - (lg_sl [.ref (q0 0), .int a1, .int a2]).length) Slot.unset).toArray = ls at hl ⊢
  have hl : lv_has ls 3 [(0, .ref (q0 0)), (1, .int a1), (2, .int a2)] := hl
  have hP : va_P (dC, dI) vwCl (wX5 cI cZ cC q0 g0) s.heap := hP
  unfold fX5_readFromHolder at hf
  refine lv_aload_n hx hb dX5_readFromHolder_0 rfl (lv_at hl 0 rfl) ?_
  refine va_get (D := (dC, dI)) (ci := 4) (v := .ref (q0 1)) (C := RX5) (T := TX5) (N := 7) hx hb hts hin5 hown hK hP 0 rfl rfl 0 (by decide) hk0 (fun _ h9 => h9) rfl dX5_readFromHolder_1 ?_
  refine lv_iload_n hx hb dX5_readFromHolder_4 rfl (lv_at hl 1 rfl) ?_
  refine lv_aload_n hx hb dX5_readFromHolder_5 rfl (lv_at hl 0 rfl) ?_
  refine lv_iload_n hx hb dX5_readFromHolder_6 rfl (lv_at hl 2 rfl) ?_
  obtain ⟨o7, ho7, hf⟩ := ob hf
  refine rV (rest := [.int a1, .ref (q0 1)]) (As := [.int a2]) ⟨hx, hb, hml, hown, hts⟩ (mX5_isGrain l dC dI cI cZ cC cO q0 _ _ _ ho7) (cwV 1 hts gX5_readFromHolder_X5_isGrain rfl rfl rfl (by decide +kernel) ⟨Nat.le_of_ble_eq_true rfl, Nat.le_of_ble_eq_true rfl⟩) hK hN hP [0, 1, 2, 3, 4, 5, 6] rfl 4 rfl rfl rfl rfl hl.1 rfl (Nat.le_of_ble_eq_true rfl) dX5_readFromHolder_7 ⟨Nat.zero_le _, Nat.zero_le _⟩ ?_
  have hJ1 : ∀ (y0_1 : Int32), jX5_readFromHolder_1 a1 a2 g0 y0_1 = some out → ∀ (H : Heap) (locs : List Loc) (ls : Array Slot), va_P (dC, dI) vwCl (wX5 cI cZ cC q0 g0) H → va_D A (wX5 cI cZ cC q0 g0) → va_S A s.heap H locs → lv_has ls 3 [(0, .ref (q0 0)), (1, .int a1), (2, .int a2)] → W p l e (headSpec wsX5_readFromHolder rmX5_readFromHolder).room s m args below meth c H locs 0 0 (MQ below (va_Qv (fun (_ : Unit) => True) (fun _ => poW (dC, dI) A (wX5 cI cZ cC q0 out)) A) args s 0 0 A) (F0 m 25 ls [.int y0_1, .int a1, .ref (q0 1)]) := by
    intro y0_1 hf H locs ls hP hD hS hl
    unfold jX5_readFromHolder_1 at hf
    obtain ⟨hin, hf⟩ := og hf
    refine va_iast hx hb hK hP hD hS 1 0 rfl rfl hin dX5_readFromHolder_25 (fun H locs hP hD hS => ?_)
    have hP : va_P (dC, dI) vwCl (wX5 cI cZ cC q0 ((upd (pX5_depths g0) a1.toNatClampNeg y0_1), (pX5_roots g0), (pX5_holding g0), (pX5_members g0), (pX5_highest g0), (pX5_second g0), (pX5_grains g0))) H := hP
    have hD : va_D A (wX5 cI cZ cC q0 ((upd (pX5_depths g0) a1.toNatClampNeg y0_1), (pX5_roots g0), (pX5_holding g0), (pX5_members g0), (pX5_highest g0), (pX5_second g0), (pX5_grains g0))) := hD
    refine lv_aload_n hx hb dX5_readFromHolder_26 rfl (lv_at hl 0 rfl) ?_
    refine va_get (D := (dC, dI)) (ci := 4) (v := .ref (q0 2)) (C := RX5) (T := TX5) (N := 7) hx hb hts hin5 hown hK hP 0 rfl rfl 1 (by decide) hk1 (fun _ h9 => h9) rfl dX5_readFromHolder_27 ?_
    refine lv_iload_n hx hb dX5_readFromHolder_30 rfl (lv_at hl 1 rfl) ?_
    refine lv_aload_n hx hb dX5_readFromHolder_31 rfl (lv_at hl 0 rfl) ?_
    refine lv_iload_n hx hb dX5_readFromHolder_32 rfl (lv_at hl 2 rfl) ?_
    obtain ⟨o33, ho33, hf⟩ := ob hf
    refine rV (rest := [.int a1, .ref (q0 2)]) (As := [.int a2]) ⟨hx, hb, hml, hown, hts⟩ (mX5_isGrain l dC dI cI cZ cC cO q0 _ _ _ ho33) (cwV 1 hts gX5_readFromHolder_X5_isGrain rfl rfl rfl (by decide +kernel) ⟨Nat.le_of_ble_eq_true rfl, Nat.le_of_ble_eq_true rfl⟩) hK hN hP [0, 1, 2, 3, 4, 5, 6] rfl 4 rfl rfl rfl rfl hl.1 rfl (Nat.le_of_ble_eq_true rfl) dX5_readFromHolder_33 ⟨Nat.zero_le _, Nat.zero_le _⟩ ?_
    have hJ2 : ∀ (y0_2 : Int32), jX5_readFromHolder_2 a1 g0 y0_1 y0_2 = some out → ∀ (H : Heap) (locs : List Loc) (ls : Array Slot), va_P (dC, dI) vwCl (wX5 cI cZ cC q0 ((upd (pX5_depths g0) a1.toNatClampNeg y0_1), (pX5_roots g0), (pX5_holding g0), (pX5_members g0), (pX5_highest g0), (pX5_second g0), (pX5_grains g0))) H → va_D A (wX5 cI cZ cC q0 ((upd (pX5_depths g0) a1.toNatClampNeg y0_1), (pX5_roots g0), (pX5_holding g0), (pX5_members g0), (pX5_highest g0), (pX5_second g0), (pX5_grains g0))) → va_S A s.heap H locs → lv_has ls 3 [(0, .ref (q0 0)), (1, .int a1)] → W p l e (headSpec wsX5_readFromHolder rmX5_readFromHolder).room s m args below meth c H locs 0 0 (MQ below (va_Qv (fun (_ : Unit) => True) (fun _ => poW (dC, dI) A (wX5 cI cZ cC q0 out)) A) args s 0 0 A) (F0 m 49 ls [.int y0_2, .int a1, .ref (q0 2)]) := by
      intro y0_2 hf H locs ls hP hD hS hl
      unfold jX5_readFromHolder_2 at hf
      obtain ⟨hin, hf⟩ := og hf
      refine va_iast hx hb hK hP hD hS 2 0 rfl rfl hin dX5_readFromHolder_49 (fun H locs hP hD hS => ?_)
      have hP : va_P (dC, dI) vwCl (wX5 cI cZ cC q0 ((upd (pX5_depths g0) a1.toNatClampNeg y0_1), (upd (pX5_roots g0) a1.toNatClampNeg y0_2), (pX5_holding g0), (pX5_members g0), (pX5_highest g0), (pX5_second g0), (pX5_grains g0))) H := hP
      have hD : va_D A (wX5 cI cZ cC q0 ((upd (pX5_depths g0) a1.toNatClampNeg y0_1), (upd (pX5_roots g0) a1.toNatClampNeg y0_2), (pX5_holding g0), (pX5_members g0), (pX5_highest g0), (pX5_second g0), (pX5_grains g0))) := hD
      refine lv_aload_n hx hb dX5_readFromHolder_50 rfl (lv_at hl 0 rfl) ?_
      refine va_get (D := (dC, dI)) (ci := 4) (v := .ref (q0 3)) (C := RX5) (T := TX5) (N := 7) hx hb hts hin5 hown hK hP 0 rfl rfl 2 (by decide) hk2 (fun _ h9 => h9) rfl dX5_readFromHolder_51 ?_
      refine lv_iload_n hx hb dX5_readFromHolder_54 rfl (lv_at hl 1 rfl) ?_
      refine lv_iconst (v := 0) hx hb dX5_readFromHolder_55 (by decide) ?_
      obtain ⟨hin, hf⟩ := og hf
      refine va_iast hx hb hK hP hD hS 3 0 rfl rfl hin dX5_readFromHolder_56 (fun H locs hP hD hS => ?_)
      have hP : va_P (dC, dI) vwCl (wX5 cI cZ cC q0 ((upd (pX5_depths g0) a1.toNatClampNeg y0_1), (upd (pX5_roots g0) a1.toNatClampNeg y0_2), (upd (pX5_holding g0) a1.toNatClampNeg 0), (pX5_members g0), (pX5_highest g0), (pX5_second g0), (pX5_grains g0))) H := hP
      have hD : va_D A (wX5 cI cZ cC q0 ((upd (pX5_depths g0) a1.toNatClampNeg y0_1), (upd (pX5_roots g0) a1.toNatClampNeg y0_2), (upd (pX5_holding g0) a1.toNatClampNeg 0), (pX5_members g0), (pX5_highest g0), (pX5_second g0), (pX5_grains g0))) := hD
      refine lv_aload_n hx hb dX5_readFromHolder_57 rfl (lv_at hl 0 rfl) ?_
      refine va_get (D := (dC, dI)) (ci := 4) (v := .ref (q0 4)) (C := RX5) (T := TX5) (N := 7) hx hb hts hin5 hown hK hP 0 rfl rfl 3 (by decide) hk3 (fun _ h9 => h9) rfl dX5_readFromHolder_58 ?_
      refine lv_iload_n hx hb dX5_readFromHolder_61 rfl (lv_at hl 1 rfl) ?_
      refine lv_iconst (v := 1) hx hb dX5_readFromHolder_62 (by decide) ?_
      obtain ⟨hin, hf⟩ := og hf
      refine va_iast hx hb hK hP hD hS 4 0 rfl rfl hin dX5_readFromHolder_63 (fun H locs hP hD hS => ?_)
      have hP : va_P (dC, dI) vwCl (wX5 cI cZ cC q0 ((upd (pX5_depths g0) a1.toNatClampNeg y0_1), (upd (pX5_roots g0) a1.toNatClampNeg y0_2), (upd (pX5_holding g0) a1.toNatClampNeg 0), (upd (pX5_members g0) a1.toNatClampNeg 1), (pX5_highest g0), (pX5_second g0), (pX5_grains g0))) H := hP
      have hD : va_D A (wX5 cI cZ cC q0 ((upd (pX5_depths g0) a1.toNatClampNeg y0_1), (upd (pX5_roots g0) a1.toNatClampNeg y0_2), (upd (pX5_holding g0) a1.toNatClampNeg 0), (upd (pX5_members g0) a1.toNatClampNeg 1), (pX5_highest g0), (pX5_second g0), (pX5_grains g0))) := hD
      refine lv_aload_n hx hb dX5_readFromHolder_64 rfl (lv_at hl 0 rfl) ?_
      refine va_get (D := (dC, dI)) (ci := 4) (v := .ref (q0 5)) (C := RX5) (T := TX5) (N := 7) hx hb hts hin5 hown hK hP 0 rfl rfl 4 (by decide) hk4 (fun _ h9 => h9) rfl dX5_readFromHolder_65 ?_
      refine lv_iload_n hx hb dX5_readFromHolder_68 rfl (lv_at hl 1 rfl) ?_
      refine lv_iconst (v := 0) hx hb dX5_readFromHolder_69 (by decide) ?_
      obtain ⟨hin, hf⟩ := og hf
      refine va_iast hx hb hK hP hD hS 5 0 rfl rfl hin dX5_readFromHolder_70 (fun H locs hP hD hS => ?_)
      have hP : va_P (dC, dI) vwCl (wX5 cI cZ cC q0 ((upd (pX5_depths g0) a1.toNatClampNeg y0_1), (upd (pX5_roots g0) a1.toNatClampNeg y0_2), (upd (pX5_holding g0) a1.toNatClampNeg 0), (upd (pX5_members g0) a1.toNatClampNeg 1), (upd (pX5_highest g0) a1.toNatClampNeg 0), (pX5_second g0), (pX5_grains g0))) H := hP
      have hD : va_D A (wX5 cI cZ cC q0 ((upd (pX5_depths g0) a1.toNatClampNeg y0_1), (upd (pX5_roots g0) a1.toNatClampNeg y0_2), (upd (pX5_holding g0) a1.toNatClampNeg 0), (upd (pX5_members g0) a1.toNatClampNeg 1), (upd (pX5_highest g0) a1.toNatClampNeg 0), (pX5_second g0), (pX5_grains g0))) := hD
      refine lv_aload_n hx hb dX5_readFromHolder_71 rfl (lv_at hl 0 rfl) ?_
      refine va_get (D := (dC, dI)) (ci := 4) (v := .ref (q0 6)) (C := RX5) (T := TX5) (N := 7) hx hb hts hin5 hown hK hP 0 rfl rfl 5 (by decide) hk5 (fun _ h9 => h9) rfl dX5_readFromHolder_72 ?_
      refine lv_iload_n hx hb dX5_readFromHolder_75 rfl (lv_at hl 1 rfl) ?_
      refine lv_iconst (v := 0) hx hb dX5_readFromHolder_76 (by decide) ?_
      obtain ⟨hin, hf⟩ := og hf
      refine va_iast hx hb hK hP hD hS 6 0 rfl rfl hin dX5_readFromHolder_77 (fun H locs hP hD hS => ?_)
      have hP : va_P (dC, dI) vwCl (wX5 cI cZ cC q0 ((upd (pX5_depths g0) a1.toNatClampNeg y0_1), (upd (pX5_roots g0) a1.toNatClampNeg y0_2), (upd (pX5_holding g0) a1.toNatClampNeg 0), (upd (pX5_members g0) a1.toNatClampNeg 1), (upd (pX5_highest g0) a1.toNatClampNeg 0), (upd (pX5_second g0) a1.toNatClampNeg 0), (pX5_grains g0))) H := hP
      have hD : va_D A (wX5 cI cZ cC q0 ((upd (pX5_depths g0) a1.toNatClampNeg y0_1), (upd (pX5_roots g0) a1.toNatClampNeg y0_2), (upd (pX5_holding g0) a1.toNatClampNeg 0), (upd (pX5_members g0) a1.toNatClampNeg 1), (upd (pX5_highest g0) a1.toNatClampNeg 0), (upd (pX5_second g0) a1.toNatClampNeg 0), (pX5_grains g0))) := hD
      obtain rfl := Option.some.inj hf
      exact W.vret hx hb hr (fun t ht hW => ⟨⟨(), rfl, trivial, by rw [ht]; exact hP, hD⟩, hS.F ht⟩) hS.2.2 dX5_readFromHolder_78
    refine lv_if_eq (tgt := 48) hx hb dX5_readFromHolder_36 (by decide) (fun hc => ?_) (fun hc => ?_)
    · have hf := ot hc hf
      refine lv_iload_n hx hb dX5_readFromHolder_48 rfl (lv_at hl 1 rfl) ?_
      exact hJ2 _ hf _ _ ls hP hD hS (lv_sub hl [0, 1] rfl)
    · have hf := oe hc hf
      refine lv_aload_n hx hb dX5_readFromHolder_39 rfl (lv_at hl 0 rfl) ?_
      refine va_get (D := (dC, dI)) (ci := 4) (v := .ref (q0 2)) (C := RX5) (T := TX5) (N := 7) hx hb hts hin5 hown hK hP 0 rfl rfl 1 (by decide) hk1 (fun _ h9 => h9) rfl dX5_readFromHolder_40 ?_
      refine lv_iload_n hx hb dX5_readFromHolder_43 rfl (lv_at hl 2 rfl) ?_
      obtain ⟨hin, hf⟩ := og hf
      refine va_iald hx hb hK hP 2 0 rfl rfl hin dX5_readFromHolder_44 ?_
      refine lv_goto (tgt := 49) hx hb dX5_readFromHolder_45 (by decide) ?_
      exact hJ2 _ hf _ _ ls hP hD hS (lv_sub hl [0, 1] rfl)
  refine lv_if_eq (tgt := 24) hx hb dX5_readFromHolder_10 (by decide) (fun hc => ?_) (fun hc => ?_)
  · have hf := ot hc hf
    refine lv_iconst (v := 0) hx hb dX5_readFromHolder_24 (by decide) ?_
    exact hJ1 _ hf _ _ ls hP hD hS (lv_sub hl [0, 1, 2] rfl)
  · have hf := oe hc hf
    refine lv_aload_n hx hb dX5_readFromHolder_13 rfl (lv_at hl 0 rfl) ?_
    refine va_get (D := (dC, dI)) (ci := 4) (v := .ref (q0 1)) (C := RX5) (T := TX5) (N := 7) hx hb hts hin5 hown hK hP 0 rfl rfl 0 (by decide) hk0 (fun _ h9 => h9) rfl dX5_readFromHolder_14 ?_
    refine lv_iload_n hx hb dX5_readFromHolder_17 rfl (lv_at hl 2 rfl) ?_
    obtain ⟨hin, hf⟩ := og hf
    refine va_iald hx hb hK hP 1 0 rfl rfl hin dX5_readFromHolder_18 ?_
    refine lv_iconst (v := 1) hx hb dX5_readFromHolder_19 (by decide) ?_
    refine lv_iadd hx hb dX5_readFromHolder_20 ?_
    refine lv_goto (tgt := 25) hx hb dX5_readFromHolder_21 (by decide) ?_
    exact hJ1 _ hf _ _ ls hP hD hS (lv_sub hl [0, 1, 2] rfl)
set_option maxHeartbeats 4000000 in
set_option maxRecDepth 100000 in
theorem mX5_addToHolder (l : Launch) (dC : Nat → ClassId) (dI : Nat → Nat → Nat) (cI cZ cC cO : ClassId) (q0 : Nat → Nat) (a1 : Int32) (a2 : Int32) (g0 : GX5) (sz : Nat) (out : GX5) (hf : fX5_addToHolder a1 a2 g0 = some out) : Met l yX5_addToHolder wsX5_addToHolder rmX5_addToHolder (va_Pc [.ref (q0 0), .int a1, .int a2] (pcW (dC, dI) (wTys cI cZ cC cO) sz (wX5 cI cZ cC q0 g0))) (va_Qv (fun (_ : Unit) => True) (fun _ => poW (dC, dI) (va_A (wX5 cI cZ cC q0 g0) sz) (wX5 cI cZ cC q0 out)) (va_A (wX5 cI cZ cC q0 g0) sz)) 0 0 (va_A (wX5 cI cZ cC q0 g0) sz) := by
  refine Met.ofW (cc := cX5_addToHolder) (maxL := 4) (ret := none) (by decide) rfl ?_
  intro p e s m args below meth c s₁ B hml hv
  obtain ⟨hargs, hsz, hP, hK, hN, hD0⟩ := hv
  have hx := B.exec
  have hb := B.bytes
  have hr := B.returns
  have hts := atoms_spec (ws := wsX5_addToHolder) B.pre
  have hown : s.vm.findClass RX5 = some m.cls := findClass_of_methodNamed B.named
  have hlocks := B.notSynchronized
  have hk0 := hts (.fieldLink RX5 18 "RimGrains$Trees" "holding" "[I") (by decide +kernel)
  have hk1 := hts (.fieldLink RX5 21 "RimGrains$Trees" "members" "[I") (by decide +kernel)
  have hk2 := hts (.fieldLink RX5 24 "RimGrains$Trees" "highest" "[I") (by decide +kernel)
  have hk3 := hts (.fieldLink RX5 27 "RimGrains$Trees" "second" "[I") (by decide +kernel)
  have hin5 : ∀ w ∈ wsX50, w ∈ wsX5_addToHolder := by decide +kernel
  subst hsz
  have hD := hD0.self (sz := s.heap.size)
  generalize hAe : va_A (wX5 cI cZ cC q0 g0) s.heap.size = A at hD ⊢
  have hA : ∀ q : Nat, s.heap.size ≤ q → A q := fun q h => by rw [← hAe]; exact Or.inr h
  have hS : va_S A s.heap s.heap [] := va_S.rf
  have hE := lg_entry_eq m [.ref (q0 0), .int a1, .int a2] 4
  rw [← hargs] at hE
  rw [hE]
  have hl := lv_entry [.ref (q0 0), .int a1, .int a2] (n := 4) (Nat.le_of_ble_eq_true rfl)
  generalize (lg_sl [.ref (q0 0), .int a1, .int a2] ++ List.replicate (4 - (lg_sl [.ref (q0 0), .int a1, .int a2]).length) Slot.unset).toArray = ls at hl ⊢
  have hl : lv_has ls 4 [(0, .ref (q0 0)), (1, .int a1), (2, .int a2)] := hl
  have hP : va_P (dC, dI) vwCl (wX5 cI cZ cC q0 g0) s.heap := hP
  unfold fX5_addToHolder at hf
  refine lv_aload_n hx hb dX5_addToHolder_0 rfl (lv_at hl 0 rfl) ?_
  refine va_get (D := (dC, dI)) (ci := 4) (v := .ref (q0 3)) (C := RX5) (T := TX5) (N := 7) hx hb hts hin5 hown hK hP 0 rfl rfl 2 (by decide) hk0 (fun _ h9 => h9) rfl dX5_addToHolder_1 ?_
  refine lv_iload_n hx hb dX5_addToHolder_4 rfl (lv_at hl 2 rfl) ?_
  refine lv_dup2_11 hx hb dX5_addToHolder_5 rfl rfl ?_
  obtain ⟨hin, hf⟩ := og hf
  refine va_iald hx hb hK hP 3 0 rfl rfl hin dX5_addToHolder_6 ?_
  refine lv_iconst (v := 1) hx hb dX5_addToHolder_7 (by decide) ?_
  refine lv_iadd hx hb dX5_addToHolder_8 ?_
  obtain ⟨hin, hf⟩ := og hf
  refine va_iast hx hb hK hP hD hS 3 0 rfl rfl hin dX5_addToHolder_9 (fun H locs hP hD hS => ?_)
  have hP : va_P (dC, dI) vwCl (wX5 cI cZ cC q0 ((pX5_depths g0), (pX5_roots g0), (upd (pX5_holding g0) a2.toNatClampNeg (((pX5_holding g0) a2.toNatClampNeg) + 1)), (pX5_members g0), (pX5_highest g0), (pX5_second g0), (pX5_grains g0))) H := hP
  have hD : va_D A (wX5 cI cZ cC q0 ((pX5_depths g0), (pX5_roots g0), (upd (pX5_holding g0) a2.toNatClampNeg (((pX5_holding g0) a2.toNatClampNeg) + 1)), (pX5_members g0), (pX5_highest g0), (pX5_second g0), (pX5_grains g0))) := hD
  refine lv_aload_n hx hb dX5_addToHolder_10 rfl (lv_at hl 0 rfl) ?_
  refine va_get (D := (dC, dI)) (ci := 4) (v := .ref (q0 4)) (C := RX5) (T := TX5) (N := 7) hx hb hts hin5 hown hK hP 0 rfl rfl 3 (by decide) hk1 (fun _ h9 => h9) rfl dX5_addToHolder_11 ?_
  refine lv_iload_n hx hb dX5_addToHolder_14 rfl (lv_at hl 2 rfl) ?_
  refine lv_dup2_11 hx hb dX5_addToHolder_15 rfl rfl ?_
  obtain ⟨hin, hf⟩ := og hf
  refine va_iald hx hb hK hP 4 0 rfl rfl hin dX5_addToHolder_16 ?_
  refine lv_aload_n hx hb dX5_addToHolder_17 rfl (lv_at hl 0 rfl) ?_
  refine va_get (D := (dC, dI)) (ci := 4) (v := .ref (q0 4)) (C := RX5) (T := TX5) (N := 7) hx hb hts hin5 hown hK hP 0 rfl rfl 3 (by decide) hk1 (fun _ h9 => h9) rfl dX5_addToHolder_18 ?_
  refine lv_iload_n hx hb dX5_addToHolder_21 rfl (lv_at hl 1 rfl) ?_
  obtain ⟨hin, hf⟩ := og hf
  refine va_iald hx hb hK hP 4 0 rfl rfl hin dX5_addToHolder_22 ?_
  refine lv_iadd hx hb dX5_addToHolder_23 ?_
  obtain ⟨hin, hf⟩ := og hf
  refine va_iast hx hb hK hP hD hS 4 0 rfl rfl hin dX5_addToHolder_24 (fun H locs hP hD hS => ?_)
  have hP : va_P (dC, dI) vwCl (wX5 cI cZ cC q0 ((pX5_depths g0), (pX5_roots g0), (upd (pX5_holding g0) a2.toNatClampNeg (((pX5_holding g0) a2.toNatClampNeg) + 1)), (upd (pX5_members g0) a2.toNatClampNeg (((pX5_members g0) a2.toNatClampNeg) + ((pX5_members g0) a1.toNatClampNeg))), (pX5_highest g0), (pX5_second g0), (pX5_grains g0))) H := hP
  have hD : va_D A (wX5 cI cZ cC q0 ((pX5_depths g0), (pX5_roots g0), (upd (pX5_holding g0) a2.toNatClampNeg (((pX5_holding g0) a2.toNatClampNeg) + 1)), (upd (pX5_members g0) a2.toNatClampNeg (((pX5_members g0) a2.toNatClampNeg) + ((pX5_members g0) a1.toNatClampNeg))), (pX5_highest g0), (pX5_second g0), (pX5_grains g0))) := hD
  refine lv_aload_n hx hb dX5_addToHolder_25 rfl (lv_at hl 0 rfl) ?_
  refine va_get (D := (dC, dI)) (ci := 4) (v := .ref (q0 5)) (C := RX5) (T := TX5) (N := 7) hx hb hts hin5 hown hK hP 0 rfl rfl 4 (by decide) hk2 (fun _ h9 => h9) rfl dX5_addToHolder_26 ?_
  refine lv_iload_n hx hb dX5_addToHolder_29 rfl (lv_at hl 1 rfl) ?_
  obtain ⟨hin, hf⟩ := og hf
  refine va_iald hx hb hK hP 5 0 rfl rfl hin dX5_addToHolder_30 ?_
  refine lv_iconst (v := 1) hx hb dX5_addToHolder_31 (by decide) ?_
  refine lv_iadd hx hb dX5_addToHolder_32 ?_
  refine lv_istore_n (lv' := [(3, .int (((pX5_highest g0) a1.toNatClampNeg) + 1)), (0, .ref (q0 0)), (1, .int a1), (2, .int a2)]) hx hb dX5_addToHolder_33 rfl hl (by decide) rfl (fun ls hl => ?_)
  refine lv_iload_n hx hb dX5_addToHolder_34 rfl (lv_at hl 0 rfl) ?_
  refine lv_aload_n hx hb dX5_addToHolder_35 rfl (lv_at hl 1 rfl) ?_
  refine va_get (D := (dC, dI)) (ci := 4) (v := .ref (q0 5)) (C := RX5) (T := TX5) (N := 7) hx hb hts hin5 hown hK hP 0 rfl rfl 4 (by decide) hk2 (fun _ h9 => h9) rfl dX5_addToHolder_36 ?_
  refine lv_iload_n hx hb dX5_addToHolder_39 rfl (lv_at hl 3 rfl) ?_
  obtain ⟨hin, hf⟩ := og hf
  refine va_iald hx hb hK hP 5 0 rfl rfl hin dX5_addToHolder_40 ?_
  refine lv_icmp_le (tgt := 66) hx hb dX5_addToHolder_41 (by decide) (fun hc => ?_) (fun hc => ?_)
  · have hf := ot hc hf
    refine lv_iload_n hx hb dX5_addToHolder_66 rfl (lv_at hl 0 rfl) ?_
    refine lv_aload_n hx hb dX5_addToHolder_67 rfl (lv_at hl 1 rfl) ?_
    refine va_get (D := (dC, dI)) (ci := 4) (v := .ref (q0 6)) (C := RX5) (T := TX5) (N := 7) hx hb hts hin5 hown hK hP 0 rfl rfl 5 (by decide) hk3 (fun _ h9 => h9) rfl dX5_addToHolder_68 ?_
    refine lv_iload_n hx hb dX5_addToHolder_71 rfl (lv_at hl 3 rfl) ?_
    obtain ⟨hin, hf⟩ := og hf
    refine va_iald hx hb hK hP 6 0 rfl rfl hin dX5_addToHolder_72 ?_
    refine lv_icmp_le (tgt := 83) hx hb dX5_addToHolder_73 (by decide) (fun hc => ?_) (fun hc => ?_)
    · have hf := ot hc hf
      obtain rfl := Option.some.inj hf
      exact W.vret hx hb hr (fun t ht hW => ⟨⟨(), rfl, trivial, by rw [ht]; exact hP, hD⟩, hS.F ht⟩) hS.2.2 dX5_addToHolder_83
    · have hf := oe hc hf
      refine lv_aload_n hx hb dX5_addToHolder_76 rfl (lv_at hl 1 rfl) ?_
      refine va_get (D := (dC, dI)) (ci := 4) (v := .ref (q0 6)) (C := RX5) (T := TX5) (N := 7) hx hb hts hin5 hown hK hP 0 rfl rfl 5 (by decide) hk3 (fun _ h9 => h9) rfl dX5_addToHolder_77 ?_
      refine lv_iload_n hx hb dX5_addToHolder_80 rfl (lv_at hl 3 rfl) ?_
      refine lv_iload_n hx hb dX5_addToHolder_81 rfl (lv_at hl 0 rfl) ?_
      obtain ⟨hin, hf⟩ := og hf
      refine va_iast hx hb hK hP hD hS 6 0 rfl rfl hin dX5_addToHolder_82 (fun H locs hP hD hS => ?_)
      have hP : va_P (dC, dI) vwCl (wX5 cI cZ cC q0 ((pX5_depths g0), (pX5_roots g0), (upd (pX5_holding g0) a2.toNatClampNeg (((pX5_holding g0) a2.toNatClampNeg) + 1)), (upd (pX5_members g0) a2.toNatClampNeg (((pX5_members g0) a2.toNatClampNeg) + ((pX5_members g0) a1.toNatClampNeg))), (pX5_highest g0), (upd (pX5_second g0) a2.toNatClampNeg (((pX5_highest g0) a1.toNatClampNeg) + 1)), (pX5_grains g0))) H := hP
      have hD : va_D A (wX5 cI cZ cC q0 ((pX5_depths g0), (pX5_roots g0), (upd (pX5_holding g0) a2.toNatClampNeg (((pX5_holding g0) a2.toNatClampNeg) + 1)), (upd (pX5_members g0) a2.toNatClampNeg (((pX5_members g0) a2.toNatClampNeg) + ((pX5_members g0) a1.toNatClampNeg))), (pX5_highest g0), (upd (pX5_second g0) a2.toNatClampNeg (((pX5_highest g0) a1.toNatClampNeg) + 1)), (pX5_grains g0))) := hD
      obtain rfl := Option.some.inj hf
      exact W.vret hx hb hr (fun t ht hW => ⟨⟨(), rfl, trivial, by rw [ht]; exact hP, hD⟩, hS.F ht⟩) hS.2.2 dX5_addToHolder_83
  · have hf := oe hc hf
    refine lv_aload_n hx hb dX5_addToHolder_44 rfl (lv_at hl 1 rfl) ?_
    refine va_get (D := (dC, dI)) (ci := 4) (v := .ref (q0 6)) (C := RX5) (T := TX5) (N := 7) hx hb hts hin5 hown hK hP 0 rfl rfl 5 (by decide) hk3 (fun _ h9 => h9) rfl dX5_addToHolder_45 ?_
    refine lv_iload_n hx hb dX5_addToHolder_48 rfl (lv_at hl 3 rfl) ?_
    refine lv_aload_n hx hb dX5_addToHolder_49 rfl (lv_at hl 1 rfl) ?_
    refine va_get (D := (dC, dI)) (ci := 4) (v := .ref (q0 5)) (C := RX5) (T := TX5) (N := 7) hx hb hts hin5 hown hK hP 0 rfl rfl 4 (by decide) hk2 (fun _ h9 => h9) rfl dX5_addToHolder_50 ?_
    refine lv_iload_n hx hb dX5_addToHolder_53 rfl (lv_at hl 3 rfl) ?_
    obtain ⟨hin, hf⟩ := og hf
    refine va_iald hx hb hK hP 5 0 rfl rfl hin dX5_addToHolder_54 ?_
    obtain ⟨hin, hf⟩ := og hf
    refine va_iast hx hb hK hP hD hS 6 0 rfl rfl hin dX5_addToHolder_55 (fun H locs hP hD hS => ?_)
    have hP : va_P (dC, dI) vwCl (wX5 cI cZ cC q0 ((pX5_depths g0), (pX5_roots g0), (upd (pX5_holding g0) a2.toNatClampNeg (((pX5_holding g0) a2.toNatClampNeg) + 1)), (upd (pX5_members g0) a2.toNatClampNeg (((pX5_members g0) a2.toNatClampNeg) + ((pX5_members g0) a1.toNatClampNeg))), (pX5_highest g0), (upd (pX5_second g0) a2.toNatClampNeg ((pX5_highest g0) a2.toNatClampNeg)), (pX5_grains g0))) H := hP
    have hD : va_D A (wX5 cI cZ cC q0 ((pX5_depths g0), (pX5_roots g0), (upd (pX5_holding g0) a2.toNatClampNeg (((pX5_holding g0) a2.toNatClampNeg) + 1)), (upd (pX5_members g0) a2.toNatClampNeg (((pX5_members g0) a2.toNatClampNeg) + ((pX5_members g0) a1.toNatClampNeg))), (pX5_highest g0), (upd (pX5_second g0) a2.toNatClampNeg ((pX5_highest g0) a2.toNatClampNeg)), (pX5_grains g0))) := hD
    refine lv_aload_n hx hb dX5_addToHolder_56 rfl (lv_at hl 1 rfl) ?_
    refine va_get (D := (dC, dI)) (ci := 4) (v := .ref (q0 5)) (C := RX5) (T := TX5) (N := 7) hx hb hts hin5 hown hK hP 0 rfl rfl 4 (by decide) hk2 (fun _ h9 => h9) rfl dX5_addToHolder_57 ?_
    refine lv_iload_n hx hb dX5_addToHolder_60 rfl (lv_at hl 3 rfl) ?_
    refine lv_iload_n hx hb dX5_addToHolder_61 rfl (lv_at hl 0 rfl) ?_
    obtain ⟨hin, hf⟩ := og hf
    refine va_iast hx hb hK hP hD hS 5 0 rfl rfl hin dX5_addToHolder_62 (fun H locs hP hD hS => ?_)
    have hP : va_P (dC, dI) vwCl (wX5 cI cZ cC q0 ((pX5_depths g0), (pX5_roots g0), (upd (pX5_holding g0) a2.toNatClampNeg (((pX5_holding g0) a2.toNatClampNeg) + 1)), (upd (pX5_members g0) a2.toNatClampNeg (((pX5_members g0) a2.toNatClampNeg) + ((pX5_members g0) a1.toNatClampNeg))), (upd (pX5_highest g0) a2.toNatClampNeg (((pX5_highest g0) a1.toNatClampNeg) + 1)), (upd (pX5_second g0) a2.toNatClampNeg ((pX5_highest g0) a2.toNatClampNeg)), (pX5_grains g0))) H := hP
    have hD : va_D A (wX5 cI cZ cC q0 ((pX5_depths g0), (pX5_roots g0), (upd (pX5_holding g0) a2.toNatClampNeg (((pX5_holding g0) a2.toNatClampNeg) + 1)), (upd (pX5_members g0) a2.toNatClampNeg (((pX5_members g0) a2.toNatClampNeg) + ((pX5_members g0) a1.toNatClampNeg))), (upd (pX5_highest g0) a2.toNatClampNeg (((pX5_highest g0) a1.toNatClampNeg) + 1)), (upd (pX5_second g0) a2.toNatClampNeg ((pX5_highest g0) a2.toNatClampNeg)), (pX5_grains g0))) := hD
    refine lv_goto (tgt := 83) hx hb dX5_addToHolder_63 (by decide) ?_
    obtain rfl := Option.some.inj hf
    exact W.vret hx hb hr (fun t ht hW => ⟨⟨(), rfl, trivial, by rw [ht]; exact hP, hD⟩, hS.F ht⟩) hS.2.2 dX5_addToHolder_83
set_option maxHeartbeats 4000000 in
set_option maxRecDepth 100000 in
theorem mX5_read (l : Launch) (dC : Nat → ClassId) (dI : Nat → Nat → Nat) (cI cZ cC cO : ClassId) (q0 : Nat → Nat) (q1 : Nat → Nat) (g0 : GX5) (g1 : GX4) (sz : Nat) (out : GX5) (hf : fX5_read g0 g1 = some out) : Met l yX5_read wsX5_read rmX5_read (va_Pc [.ref (q0 0), .ref (q1 0)] (pcW (dC, dI) (wTys cI cZ cC cO) sz (wX5 cI cZ cC q0 g0 ++ wX4 cI cZ cC q1 g1))) (va_Qv (fun (_ : Unit) => True) (fun _ => poW (dC, dI) (va_A (wX5 cI cZ cC q0 g0 ++ wX4 cI cZ cC q1 g1) sz) (wX5 cI cZ cC q0 out ++ wX4 cI cZ cC q1 g1)) (va_A (wX5 cI cZ cC q0 g0 ++ wX4 cI cZ cC q1 g1) sz)) 0 0 (va_A (wX5 cI cZ cC q0 g0 ++ wX4 cI cZ cC q1 g1) sz) := by
  refine Met.ofW (cc := cX5_read) (maxL := 4) (ret := none) (by decide) rfl ?_
  intro p e s m args below meth c s₁ B hml hv
  obtain ⟨hargs, hsz, hP, hK, hN, hD0⟩ := hv
  have hx := B.exec
  have hb := B.bytes
  have hr := B.returns
  have hts := atoms_spec (ws := wsX5_read) B.pre
  have hown : s.vm.findClass RX5 = some m.cls := findClass_of_methodNamed B.named
  have hlocks := B.notSynchronized
  have hk0 := hN.f (args := args) 1 rfl
  have hk1 := hts (.fieldLink RX5 30 "RimGrains$Trees" "grains" "I") (by decide +kernel)
  have hin4 : ∀ w ∈ wsX40, w ∈ wsX5_read := by decide +kernel
  have hin5 : ∀ w ∈ wsX50, w ∈ wsX5_read := by decide +kernel
  subst hsz
  have hD := hD0.self (sz := s.heap.size)
  generalize hAe : va_A (wX5 cI cZ cC q0 g0 ++ wX4 cI cZ cC q1 g1) s.heap.size = A at hD ⊢
  have hA : ∀ q : Nat, s.heap.size ≤ q → A q := fun q h => by rw [← hAe]; exact Or.inr h
  have hS : va_S A s.heap s.heap [] := va_S.rf
  have hE := lg_entry_eq m [.ref (q0 0), .ref (q1 0)] 4
  rw [← hargs] at hE
  rw [hE]
  have hl := lv_entry [.ref (q0 0), .ref (q1 0)] (n := 4) (Nat.le_of_ble_eq_true rfl)
  generalize (lg_sl [.ref (q0 0), .ref (q1 0)] ++ List.replicate (4 - (lg_sl [.ref (q0 0), .ref (q1 0)]).length) Slot.unset).toArray = ls at hl ⊢
  have hl : lv_has ls 4 [(0, .ref (q0 0)), (1, .ref (q1 0))] := hl
  have hP : va_P (dC, dI) vwCl (wX5 cI cZ cC q0 g0 ++ wX4 cI cZ cC q1 g1) s.heap := hP
  unfold fX5_read at hf
  refine lv_aload_n hx hb dX5_read_0 rfl (lv_at hl 0 rfl) ?_
  refine lv_aload_n hx hb dX5_read_1 rfl (lv_at hl 1 rfl) ?_
  refine va_getN (D := (dC, dI)) (ci := 3) (v := .int (pX4_grains g1)) (C := RX4) (T := TX4) (N := 11) hx hb hts hin4 hown hK hP 7 rfl rfl 5 (by decide) hk0 (fun _ h9 => h9) rfl dX5_read_2 ?_
  refine va_put (D := (dC, dI)) (ci := 4) (v := .int (pX4_grains g1)) (ty := .int) (C := RX5) (T := TX5) (N := 7) hx hb hts hin5 tyX5 tyX5_ok nmX5 hown hK hP hD hS 0 rfl rfl 6 (by decide) hk1 (fun _ h9 => h9) rfl (by decide +kernel) rfl rfl (Nat.le_of_ble_eq_true rfl) dX5_read_5 (fun H locs hP hD hS => ?_)
  have hP : va_P (dC, dI) vwCl (wX5 cI cZ cC q0 ((pX5_depths g0), (pX5_roots g0), (pX5_holding g0), (pX5_members g0), (pX5_highest g0), (pX5_second g0), (pX4_grains g1)) ++ wX4 cI cZ cC q1 g1) H := hP
  have hD : va_D A (wX5 cI cZ cC q0 ((pX5_depths g0), (pX5_roots g0), (pX5_holding g0), (pX5_members g0), (pX5_highest g0), (pX5_second g0), (pX4_grains g1)) ++ wX4 cI cZ cC q1 g1) := hD
  refine lv_iconst (v := 0) hx hb dX5_read_8 (by decide) ?_
  refine lv_istore_n (lv' := [(2, .int 0), (0, .ref (q0 0)), (1, .ref (q1 0))]) hx hb dX5_read_9 rfl hl (by decide) rfl (fun ls hl => ?_)
  have hL10 : ∀ (n : Nat) (s10 : Int32 × GX5) (o10 : GX5), lp (tX5_read_10 g1) n s10 = some o10 → ∀ (H : Heap) (locs : List Loc) (ls : Array Slot), va_P (dC, dI) vwCl (wX5 cI cZ cC q0 s10.2 ++ wX4 cI cZ cC q1 g1) H → va_D A (wX5 cI cZ cC q0 s10.2 ++ wX4 cI cZ cC q1 g1) → va_S A s.heap H locs → lv_has ls 4 [(0, .ref (q0 0)), (1, .ref (q1 0)), (2, .int s10.1)] → (∀ (H : Heap) (locs : List Loc) (ls : Array Slot), va_P (dC, dI) vwCl (wX5 cI cZ cC q0 o10 ++ wX4 cI cZ cC q1 g1) H → va_D A (wX5 cI cZ cC q0 o10 ++ wX4 cI cZ cC q1 g1) → va_S A s.heap H locs → lv_has ls 4 [(0, .ref (q0 0)), (1, .ref (q1 0))] → W p l e (headSpec wsX5_read rmX5_read).room s m args below meth c H locs 0 0 (MQ below (va_Qv (fun (_ : Unit) => True) (fun _ => poW (dC, dI) A (wX5 cI cZ cC q0 out ++ wX4 cI cZ cC q1 g1)) A) args s 0 0 A) (F0 m 34 ls [])) → W p l e (headSpec wsX5_read rmX5_read).room s m args below meth c H locs 0 0 (MQ below (va_Qv (fun (_ : Unit) => True) (fun _ => poW (dC, dI) A (wX5 cI cZ cC q0 out ++ wX4 cI cZ cC q1 g1)) A) args s 0 0 A) (F0 m 10 ls []) := by
    intro n
    induction n with
    | zero => intro s10 o10 hf; exact (lp0 hf).elim
    | succ n ih10 =>
      intro s10 o10 hf H locs ls hP hD hS hl kx
      obtain ⟨r10, hf, hn⟩ := lps hf
      unfold tX5_read_10 at hf
      refine lv_iload_n hx hb dX5_read_10 rfl (lv_at hl 2 rfl) ?_
      refine lv_aload_n hx hb dX5_read_11 rfl (lv_at hl 0 rfl) ?_
      refine va_get (D := (dC, dI)) (ci := 4) (v := .int (pX5_grains s10.2)) (C := RX5) (T := TX5) (N := 7) hx hb hts hin5 hown hK hP 0 rfl rfl 6 (by decide) hk1 (fun _ h9 => h9) rfl dX5_read_12 ?_
      refine lv_icmp_ge (tgt := 34) hx hb dX5_read_15 (by decide) (fun hc => ?_) (fun hc => ?_)
      · have hf := ot hc hf
        obtain rfl := Option.some.inj hf
        obtain rfl := Option.some.inj hn
        exact kx _ _ ls hP hD hS (lv_sub hl [0, 1] rfl)
      · have hf := oe hc hf
        refine lv_aload_n hx hb dX5_read_18 rfl (lv_at hl 0 rfl) ?_
        refine lv_iload_n hx hb dX5_read_19 rfl (lv_at hl 2 rfl) ?_
        refine lv_aload_n hx hb dX5_read_20 rfl (lv_at hl 1 rfl) ?_
        refine lv_iload_n hx hb dX5_read_21 rfl (lv_at hl 2 rfl) ?_
        obtain ⟨o22, ho22, hf⟩ := ob hf
        refine rV (rest := [.int s10.1, .ref (q0 0)]) (As := [.int s10.1]) ⟨hx, hb, hml, hown, hts⟩ (mX4_holderOf l dC dI cI cZ cC cO q1 _ _ _ ho22) (cwV 1 hts gX5_read_X4_holderOf rfl rfl rfl (by decide +kernel) ⟨Nat.le_of_ble_eq_true rfl, Nat.le_of_ble_eq_true rfl⟩) hK hN hP [7, 8, 9, 10, 11, 12] rfl 3 rfl rfl rfl rfl hl.1 rfl (Nat.le_of_ble_eq_true rfl) dX5_read_22 ⟨Nat.zero_le _, Nat.zero_le _⟩ ?_
        obtain ⟨o25, ho25, hf⟩ := ob hf
        refine wVv (W1 := (fun _ : Unit => (wX5 cI cZ cC q0 o25 ++ wX4 cI cZ cC q1 g1))) (rest := []) (As := [.int s10.1, .int o22]) ⟨hx, hb, hml, hown, hts⟩ (mX5_readFromHolder l dC dI cI cZ cC cO q0 _ _ _ _ _ ho25) (cwV 2 hts gX5_read_X5_readFromHolder rfl rfl rfl (by decide +kernel) ⟨Nat.le_of_ble_eq_true rfl, Nat.le_of_ble_eq_true rfl⟩) hK hN hP hD hS hA [0, 1, 2, 3, 4, 5, 6] [7, 8, 9, 10, 11, 12] [6, 7, 8, 9, 10, 11, 12, 0, 1, 2, 3, 4, 5] rfl rfl (by decide) (by decide) (fun _ => rfl) 4 rfl rfl rfl rfl hl.1 rfl (Nat.le_of_ble_eq_true rfl) dX5_read_25 ⟨Nat.zero_le _, Nat.zero_le _⟩ (fun _ H locs hP hD hS => ?_)
        have hP : va_P (dC, dI) vwCl (wX5 cI cZ cC q0 o25 ++ wX4 cI cZ cC q1 g1) H := hP
        have hD : va_D A (wX5 cI cZ cC q0 o25 ++ wX4 cI cZ cC q1 g1) := hD
        refine lv_iinc (v := (s10.1 + 1)) (lv' := [(2, .int (s10.1 + 1)), (0, .ref (q0 0)), (1, .ref (q1 0))]) hx hb dX5_read_28 hl (k := 2) rfl rfl (by decide) rfl (fun ls hl => ?_)
        refine lv_goto (tgt := 10) hx hb dX5_read_31 (by decide) ?_
        obtain rfl := Option.some.inj hf
        exact ih10 _ _ hn _ _ ls hP hD hS (lv_sub hl [1, 2, 0] rfl) kx
  obtain ⟨o10, ho10, hf⟩ := ob hf
  refine hL10 FU _ _ ho10 _ _ ls hP hD hS (lv_sub hl [1, 2, 0] rfl) (fun H locs ls hP hD hS hl => ?_)
  refine lv_aload_n hx hb dX5_read_34 rfl (lv_at hl 0 rfl) ?_
  refine va_get (D := (dC, dI)) (ci := 4) (v := .int (pX5_grains o10)) (C := RX5) (T := TX5) (N := 7) hx hb hts hin5 hown hK hP 0 rfl rfl 6 (by decide) hk1 (fun _ h9 => h9) rfl dX5_read_35 ?_
  refine lv_iconst (v := 1) hx hb dX5_read_38 (by decide) ?_
  refine lv_isub hx hb dX5_read_39 ?_
  refine lv_istore_n (lv' := [(2, .int ((pX5_grains o10) - 1)), (0, .ref (q0 0)), (1, .ref (q1 0))]) hx hb dX5_read_40 rfl hl (by decide) rfl (fun ls hl => ?_)
  have hL41 : ∀ (n : Nat) (s41 : Int32 × GX5) (o41 : GX5), lp (tX5_read_41 g1) n s41 = some o41 → ∀ (H : Heap) (locs : List Loc) (ls : Array Slot), va_P (dC, dI) vwCl (wX5 cI cZ cC q0 s41.2 ++ wX4 cI cZ cC q1 g1) H → va_D A (wX5 cI cZ cC q0 s41.2 ++ wX4 cI cZ cC q1 g1) → va_S A s.heap H locs → lv_has ls 4 [(0, .ref (q0 0)), (1, .ref (q1 0)), (2, .int s41.1)] → (∀ (H : Heap) (locs : List Loc) (ls : Array Slot), va_P (dC, dI) vwCl (wX5 cI cZ cC q0 o41 ++ wX4 cI cZ cC q1 g1) H → va_D A (wX5 cI cZ cC q0 o41 ++ wX4 cI cZ cC q1 g1) → va_S A s.heap H locs → lv_has ls 4 [] → W p l e (headSpec wsX5_read rmX5_read).room s m args below meth c H locs 0 0 (MQ below (va_Qv (fun (_ : Unit) => True) (fun _ => poW (dC, dI) A (wX5 cI cZ cC q0 out ++ wX4 cI cZ cC q1 g1)) A) args s 0 0 A) (F0 m 71 ls [])) → W p l e (headSpec wsX5_read rmX5_read).room s m args below meth c H locs 0 0 (MQ below (va_Qv (fun (_ : Unit) => True) (fun _ => poW (dC, dI) A (wX5 cI cZ cC q0 out ++ wX4 cI cZ cC q1 g1)) A) args s 0 0 A) (F0 m 41 ls []) := by
    intro n
    induction n with
    | zero => intro s41 o41 hf; exact (lp0 hf).elim
    | succ n ih41 =>
      intro s41 o41 hf H locs ls hP hD hS hl kx
      obtain ⟨r41, hf, hn⟩ := lps hf
      unfold tX5_read_41 at hf
      refine lv_iload_n hx hb dX5_read_41 rfl (lv_at hl 2 rfl) ?_
      refine lv_if_lt (tgt := 71) hx hb dX5_read_42 (by decide) (fun hc => ?_) (fun hc => ?_)
      · have hf := ot hc hf
        obtain rfl := Option.some.inj hf
        obtain rfl := Option.some.inj hn
        exact kx _ _ ls hP hD hS (lv_sub hl [] rfl)
      · have hf := oe hc hf
        refine lv_aload_n hx hb dX5_read_45 rfl (lv_at hl 1 rfl) ?_
        refine lv_iload_n hx hb dX5_read_46 rfl (lv_at hl 2 rfl) ?_
        obtain ⟨o47, ho47, hf⟩ := ob hf
        refine rV (rest := []) (As := [.int s41.1]) ⟨hx, hb, hml, hown, hts⟩ (mX4_holderOf l dC dI cI cZ cC cO q1 _ _ _ ho47) (cwV 1 hts gX5_read_X4_holderOf rfl rfl rfl (by decide +kernel) ⟨Nat.le_of_ble_eq_true rfl, Nat.le_of_ble_eq_true rfl⟩) hK hN hP [7, 8, 9, 10, 11, 12] rfl 3 rfl rfl rfl rfl hl.1 rfl (Nat.le_of_ble_eq_true rfl) dX5_read_47 ⟨Nat.zero_le _, Nat.zero_le _⟩ ?_
        refine lv_istore_n (lv' := [(3, .int o47), (0, .ref (q0 0)), (1, .ref (q1 0)), (2, .int s41.1)]) hx hb dX5_read_50 rfl hl (by decide) rfl (fun ls hl => ?_)
        refine lv_aload_n hx hb dX5_read_51 rfl (lv_at hl 1 rfl) ?_
        refine lv_iload_n hx hb dX5_read_52 rfl (lv_at hl 0 rfl) ?_
        obtain ⟨o53, ho53, hf⟩ := ob hf
        refine rV (rest := []) (As := [.int o47]) ⟨hx, hb, hml, hown, hts⟩ (mX5_isGrain l dC dI cI cZ cC cO q0 _ _ _ ho53) (cwV 1 hts gX5_read_X5_isGrain rfl rfl rfl (by decide +kernel) ⟨Nat.le_of_ble_eq_true rfl, Nat.le_of_ble_eq_true rfl⟩) hK hN hP [0, 1, 2, 3, 4, 5, 6] rfl 4 rfl rfl rfl rfl hl.1 rfl (Nat.le_of_ble_eq_true rfl) dX5_read_53 ⟨Nat.zero_le _, Nat.zero_le _⟩ ?_
        have hJ1 : ∀ (g0_1 : GX5), jX5_read_1 s41 g0_1 = some r41 → ∀ (H : Heap) (locs : List Loc) (ls : Array Slot), va_P (dC, dI) vwCl (wX5 cI cZ cC q0 g0_1 ++ wX4 cI cZ cC q1 g1) H → va_D A (wX5 cI cZ cC q0 g0_1 ++ wX4 cI cZ cC q1 g1) → va_S A s.heap H locs → lv_has ls 4 [(0, .ref (q0 0)), (1, .ref (q1 0)), (2, .int s41.1)] → W p l e (headSpec wsX5_read rmX5_read).room s m args below meth c H locs 0 0 (MQ below (va_Qv (fun (_ : Unit) => True) (fun _ => poW (dC, dI) A (wX5 cI cZ cC q0 out ++ wX4 cI cZ cC q1 g1)) A) args s 0 0 A) (F0 m 65 ls []) := by
          intro g0_1 hf H locs ls hP hD hS hl
          unfold jX5_read_1 at hf
          refine lv_iinc (v := (s41.1 + (-1))) (lv' := [(2, .int (s41.1 + (-1))), (0, .ref (q0 0)), (1, .ref (q1 0))]) hx hb dX5_read_65 hl (k := 2) rfl rfl (by decide) rfl (fun ls hl => ?_)
          refine lv_goto (tgt := 41) hx hb dX5_read_68 (by decide) ?_
          obtain rfl := Option.some.inj hf
          exact ih41 _ _ hn _ _ ls hP hD hS (lv_sub hl [1, 2, 0] rfl) kx
        refine lv_if_eq (tgt := 65) hx hb dX5_read_56 (by decide) (fun hc => ?_) (fun hc => ?_)
        · have hf := ot hc hf
          exact hJ1 _ hf _ _ ls hP hD hS (lv_sub hl [1, 2, 3] rfl)
        · have hf := oe hc hf
          refine lv_aload_n hx hb dX5_read_59 rfl (lv_at hl 1 rfl) ?_
          refine lv_iload_n hx hb dX5_read_60 rfl (lv_at hl 3 rfl) ?_
          refine lv_iload_n hx hb dX5_read_61 rfl (lv_at hl 0 rfl) ?_
          obtain ⟨o62, ho62, hf⟩ := ob hf
          refine wVv (W1 := (fun _ : Unit => (wX5 cI cZ cC q0 o62 ++ wX4 cI cZ cC q1 g1))) (rest := []) (As := [.int s41.1, .int o47]) ⟨hx, hb, hml, hown, hts⟩ (mX5_addToHolder l dC dI cI cZ cC cO q0 _ _ _ _ _ ho62) (cwV 2 hts gX5_read_X5_addToHolder rfl rfl rfl (by decide +kernel) ⟨Nat.le_of_ble_eq_true rfl, Nat.le_of_ble_eq_true rfl⟩) hK hN hP hD hS hA [0, 1, 2, 3, 4, 5, 6] [7, 8, 9, 10, 11, 12] [6, 7, 8, 9, 10, 11, 12, 0, 1, 2, 3, 4, 5] rfl rfl (by decide) (by decide) (fun _ => rfl) 4 rfl rfl rfl rfl hl.1 rfl (Nat.le_of_ble_eq_true rfl) dX5_read_62 ⟨Nat.zero_le _, Nat.zero_le _⟩ (fun _ H locs hP hD hS => ?_)
          have hP : va_P (dC, dI) vwCl (wX5 cI cZ cC q0 o62 ++ wX4 cI cZ cC q1 g1) H := hP
          have hD : va_D A (wX5 cI cZ cC q0 o62 ++ wX4 cI cZ cC q1 g1) := hD
          exact hJ1 _ hf _ _ ls hP hD hS (lv_sub hl [1, 2, 3] rfl)
  obtain ⟨o41, ho41, hf⟩ := ob hf
  refine hL41 FU _ _ ho41 _ _ ls hP hD hS (lv_sub hl [1, 2, 0] rfl) (fun H locs ls hP hD hS hl => ?_)
  obtain rfl := Option.some.inj hf
  exact W.vret hx hb hr (fun t ht hW => ⟨⟨(), rfl, trivial, by rw [ht]; exact hP, hD⟩, hS.F ht⟩) hS.2.2 dX5_read_71
set_option maxHeartbeats 4000000 in
set_option maxRecDepth 100000 in
theorem mX5_longestOfHeights (l : Launch) (dC : Nat → ClassId) (dI : Nat → Nat → Nat) (cI cZ cC cO : ClassId) (q0 : Nat → Nat) (g0 : GX5) (out : Int32) (hf : fX5_longestOfHeights g0 = some out) : Met l yX5_longestOfHeights wsX5_longestOfHeights rmX5_longestOfHeights (va_Pc [.ref (q0 0)] (pcR (dC, dI) (wTys cI cZ cC cO) (wX5 cI cZ cC q0 g0))) (vp_Si (fun r => r = out)) 0 0 (fun _ => False) := by
  refine Met.ofW (cc := cX5_longestOfHeights) (maxL := 3) (ret := (some .int)) (by decide) rfl ?_
  intro p e s m args below meth c s₁ B hml hv
  obtain ⟨hargs, hP, hK, hN⟩ := hv
  have hx := B.exec
  have hb := B.bytes
  have hr := B.returns
  have hts := atoms_spec (ws := wsX5_longestOfHeights) B.pre
  have hown : s.vm.findClass RX5 = some m.cls := findClass_of_methodNamed B.named
  have hlocks := B.notSynchronized
  have hk0 := hts (.fieldLink RX5 30 "RimGrains$Trees" "grains" "I") (by decide +kernel)
  have hk1 := hts (.fieldLink RX5 24 "RimGrains$Trees" "highest" "[I") (by decide +kernel)
  have hk2 := hts (.fieldLink RX5 27 "RimGrains$Trees" "second" "[I") (by decide +kernel)
  have hk3 := hts (.methodLink RX5 52 Lib.Math.max.name) (by decide +kernel)
  have hk3S := hts (.static Lib.Math.max.name) (by decide +kernel)
  have hk3I := hts (.initialized "java/lang/Math") (by decide +kernel)
  have hk3C := hts (.code Lib.Math.max.name Lib.Math.max.code 2 (some .int)) (by decide +kernel)
  have hin5 : ∀ w ∈ wsX50, w ∈ wsX5_longestOfHeights := by decide +kernel
  have hE := lg_entry_eq m [.ref (q0 0)] 3
  rw [← hargs] at hE
  rw [hE]
  have hl := lv_entry [.ref (q0 0)] (n := 3) (Nat.le_of_ble_eq_true rfl)
  generalize (lg_sl [.ref (q0 0)] ++ List.replicate (3 - (lg_sl [.ref (q0 0)]).length) Slot.unset).toArray = ls at hl ⊢
  have hl : lv_has ls 3 [(0, .ref (q0 0))] := hl
  unfold fX5_longestOfHeights at hf
  refine lv_iconst (v := 0) hx hb dX5_longestOfHeights_0 (by decide) ?_
  refine lv_istore_n (lv' := [(1, .int 0), (0, .ref (q0 0))]) hx hb dX5_longestOfHeights_1 rfl hl (by decide) rfl (fun ls hl => ?_)
  refine lv_iconst (v := 0) hx hb dX5_longestOfHeights_2 (by decide) ?_
  refine lv_istore_n (lv' := [(2, .int 0), (1, .int 0), (0, .ref (q0 0))]) hx hb dX5_longestOfHeights_3 rfl hl (by decide) rfl (fun ls hl => ?_)
  have hL4 : ∀ (n : Nat) (s4 : Int32 × Int32) (o4 : Int32), lp (tX5_longestOfHeights_4 g0) n s4 = some o4 → ∀ (ls : Array Slot), lv_has ls 3 [(0, .ref (q0 0)), (1, .int s4.1), (2, .int s4.2)] → (∀ (ls : Array Slot), lv_has ls 3 [(1, .int o4)] → W p l e (headSpec wsX5_longestOfHeights rmX5_longestOfHeights).room s m args below meth c s.heap [] 0 0 (MQ below (vp_Si (fun r => r = out)) args s 0 0 (fun _ => False)) (F0 m 36 ls [])) → W p l e (headSpec wsX5_longestOfHeights rmX5_longestOfHeights).room s m args below meth c s.heap [] 0 0 (MQ below (vp_Si (fun r => r = out)) args s 0 0 (fun _ => False)) (F0 m 4 ls []) := by
    intro n
    induction n with
    | zero => intro s4 o4 hf; exact (lp0 hf).elim
    | succ n ih4 =>
      intro s4 o4 hf ls hl kx
      obtain ⟨r4, hf, hn⟩ := lps hf
      unfold tX5_longestOfHeights_4 at hf
      refine lv_iload_n hx hb dX5_longestOfHeights_4 rfl (lv_at hl 2 rfl) ?_
      refine lv_aload_n hx hb dX5_longestOfHeights_5 rfl (lv_at hl 0 rfl) ?_
      refine va_get (D := (dC, dI)) (ci := 4) (v := .int (pX5_grains g0)) (C := RX5) (T := TX5) (N := 7) hx hb hts hin5 hown hK hP 0 rfl rfl 6 (by decide) hk0 (fun _ h9 => h9) rfl dX5_longestOfHeights_6 ?_
      refine lv_icmp_ge (tgt := 36) hx hb dX5_longestOfHeights_9 (by decide) (fun hc => ?_) (fun hc => ?_)
      · have hf := ot hc hf
        obtain rfl := Option.some.inj hf
        obtain rfl := Option.some.inj hn
        exact kx ls (lv_sub hl [1] rfl)
      · have hf := oe hc hf
        refine lv_iload_n hx hb dX5_longestOfHeights_12 rfl (lv_at hl 1 rfl) ?_
        refine lv_aload_n hx hb dX5_longestOfHeights_13 rfl (lv_at hl 0 rfl) ?_
        refine va_get (D := (dC, dI)) (ci := 4) (v := .ref (q0 5)) (C := RX5) (T := TX5) (N := 7) hx hb hts hin5 hown hK hP 0 rfl rfl 4 (by decide) hk1 (fun _ h9 => h9) rfl dX5_longestOfHeights_14 ?_
        refine lv_iload_n hx hb dX5_longestOfHeights_17 rfl (lv_at hl 2 rfl) ?_
        obtain ⟨hin, hf⟩ := og hf
        refine va_iald hx hb hK hP 5 0 rfl rfl hin dX5_longestOfHeights_18 ?_
        refine lv_aload_n hx hb dX5_longestOfHeights_19 rfl (lv_at hl 0 rfl) ?_
        refine va_get (D := (dC, dI)) (ci := 4) (v := .ref (q0 6)) (C := RX5) (T := TX5) (N := 7) hx hb hts hin5 hown hK hP 0 rfl rfl 5 (by decide) hk2 (fun _ h9 => h9) rfl dX5_longestOfHeights_20 ?_
        refine lv_iload_n hx hb dX5_longestOfHeights_23 rfl (lv_at hl 2 rfl) ?_
        obtain ⟨hin, hf⟩ := og hf
        refine va_iald hx hb hK hP 6 0 rfl rfl hin dX5_longestOfHeights_24 ?_
        refine lv_iadd hx hb dX5_longestOfHeights_25 ?_
        refine mmax hx hb hml hl.1 hown hk3 hk3S hk3I hk3C (Nat.le_of_ble_eq_true rfl) (Nat.le_of_ble_eq_true rfl) ⟨Nat.zero_le _, Nat.zero_le _⟩ dX5_longestOfHeights_26 ?_
        refine lv_istore_n (lv' := [(1, .int (jmax s4.1 (((pX5_highest g0) s4.2.toNatClampNeg) + ((pX5_second g0) s4.2.toNatClampNeg)))), (0, .ref (q0 0)), (2, .int s4.2)]) hx hb dX5_longestOfHeights_29 rfl hl (by decide) rfl (fun ls hl => ?_)
        refine lv_iinc (v := (s4.2 + 1)) (lv' := [(2, .int (s4.2 + 1)), (1, .int (jmax s4.1 (((pX5_highest g0) s4.2.toNatClampNeg) + ((pX5_second g0) s4.2.toNatClampNeg)))), (0, .ref (q0 0))]) hx hb dX5_longestOfHeights_30 hl (k := 2) rfl rfl (by decide) rfl (fun ls hl => ?_)
        refine lv_goto (tgt := 4) hx hb dX5_longestOfHeights_33 (by decide) ?_
        obtain rfl := Option.some.inj hf
        exact ih4 _ _ hn ls (lv_sub hl [2, 1, 0] rfl) kx
  obtain ⟨o4, ho4, hf⟩ := ob hf
  refine hL4 FU _ _ ho4 ls (lv_sub hl [2, 1, 0] rfl) (fun ls hl => ?_)
  refine lv_iload_n hx hb dX5_longestOfHeights_36 rfl (lv_at hl 0 rfl) ?_
  obtain rfl := Option.some.inj hf
  exact W.iret (v := o4) hx hb hr (fun t ht hW => ⟨_, rfl, rfl, ht⟩) (fun _ h => by cases h) dX5_longestOfHeights_37
set_option maxHeartbeats 4000000 in
set_option maxRecDepth 100000 in
theorem mX5_rootGrains (l : Launch) (dC : Nat → ClassId) (dI : Nat → Nat → Nat) (cI cZ cC cO : ClassId) (q0 : Nat → Nat) (g0 : GX5) (out : Int32) (hf : fX5_rootGrains g0 = some out) : Met l yX5_rootGrains wsX5_rootGrains rmX5_rootGrains (va_Pc [.ref (q0 0)] (pcR (dC, dI) (wTys cI cZ cC cO) (wX5 cI cZ cC q0 g0))) (vp_Si (fun r => r = out)) 0 0 (fun _ => False) := by
  refine Met.ofW (cc := cX5_rootGrains) (maxL := 3) (ret := (some .int)) (by decide) rfl ?_
  intro p e s m args below meth c s₁ B hml hv
  obtain ⟨hargs, hP, hK, hN⟩ := hv
  have hx := B.exec
  have hb := B.bytes
  have hr := B.returns
  have hts := atoms_spec (ws := wsX5_rootGrains) B.pre
  have hown : s.vm.findClass RX5 = some m.cls := findClass_of_methodNamed B.named
  have hlocks := B.notSynchronized
  have hk0 := hts (.fieldLink RX5 30 "RimGrains$Trees" "grains" "I") (by decide +kernel)
  have hk1 := hts (.fieldLink RX5 15 "RimGrains$Trees" "roots" "[I") (by decide +kernel)
  have hin5 : ∀ w ∈ wsX50, w ∈ wsX5_rootGrains := by decide +kernel
  have hE := lg_entry_eq m [.ref (q0 0)] 3
  rw [← hargs] at hE
  rw [hE]
  have hl := lv_entry [.ref (q0 0)] (n := 3) (Nat.le_of_ble_eq_true rfl)
  generalize (lg_sl [.ref (q0 0)] ++ List.replicate (3 - (lg_sl [.ref (q0 0)]).length) Slot.unset).toArray = ls at hl ⊢
  have hl : lv_has ls 3 [(0, .ref (q0 0))] := hl
  unfold fX5_rootGrains at hf
  refine lv_iconst (v := 0) hx hb dX5_rootGrains_0 (by decide) ?_
  refine lv_istore_n (lv' := [(1, .int 0), (0, .ref (q0 0))]) hx hb dX5_rootGrains_1 rfl hl (by decide) rfl (fun ls hl => ?_)
  refine lv_iconst (v := 0) hx hb dX5_rootGrains_2 (by decide) ?_
  refine lv_istore_n (lv' := [(2, .int 0), (1, .int 0), (0, .ref (q0 0))]) hx hb dX5_rootGrains_3 rfl hl (by decide) rfl (fun ls hl => ?_)
  have hL4 : ∀ (n : Nat) (s4 : Int32 × Int32) (o4 : Int32), lp (tX5_rootGrains_4 g0) n s4 = some o4 → ∀ (ls : Array Slot), lv_has ls 3 [(0, .ref (q0 0)), (1, .int s4.1), (2, .int s4.2)] → (∀ (ls : Array Slot), lv_has ls 3 [(1, .int o4)] → W p l e (headSpec wsX5_rootGrains rmX5_rootGrains).room s m args below meth c s.heap [] 0 0 (MQ below (vp_Si (fun r => r = out)) args s 0 0 (fun _ => False)) (F0 m 31 ls [])) → W p l e (headSpec wsX5_rootGrains rmX5_rootGrains).room s m args below meth c s.heap [] 0 0 (MQ below (vp_Si (fun r => r = out)) args s 0 0 (fun _ => False)) (F0 m 4 ls []) := by
    intro n
    induction n with
    | zero => intro s4 o4 hf; exact (lp0 hf).elim
    | succ n ih4 =>
      intro s4 o4 hf ls hl kx
      obtain ⟨r4, hf, hn⟩ := lps hf
      unfold tX5_rootGrains_4 at hf
      refine lv_iload_n hx hb dX5_rootGrains_4 rfl (lv_at hl 2 rfl) ?_
      refine lv_aload_n hx hb dX5_rootGrains_5 rfl (lv_at hl 0 rfl) ?_
      refine va_get (D := (dC, dI)) (ci := 4) (v := .int (pX5_grains g0)) (C := RX5) (T := TX5) (N := 7) hx hb hts hin5 hown hK hP 0 rfl rfl 6 (by decide) hk0 (fun _ h9 => h9) rfl dX5_rootGrains_6 ?_
      refine lv_icmp_ge (tgt := 31) hx hb dX5_rootGrains_9 (by decide) (fun hc => ?_) (fun hc => ?_)
      · have hf := ot hc hf
        obtain rfl := Option.some.inj hf
        obtain rfl := Option.some.inj hn
        exact kx ls (lv_sub hl [1] rfl)
      · have hf := oe hc hf
        refine lv_aload_n hx hb dX5_rootGrains_12 rfl (lv_at hl 0 rfl) ?_
        refine va_get (D := (dC, dI)) (ci := 4) (v := .ref (q0 2)) (C := RX5) (T := TX5) (N := 7) hx hb hts hin5 hown hK hP 0 rfl rfl 1 (by decide) hk1 (fun _ h9 => h9) rfl dX5_rootGrains_13 ?_
        refine lv_iload_n hx hb dX5_rootGrains_16 rfl (lv_at hl 2 rfl) ?_
        obtain ⟨hin, hf⟩ := og hf
        refine va_iald hx hb hK hP 2 0 rfl rfl hin dX5_rootGrains_17 ?_
        refine lv_iload_n hx hb dX5_rootGrains_18 rfl (lv_at hl 2 rfl) ?_
        have hJ1 : ∀ (x1_1 : Int32), jX5_rootGrains_1 s4 x1_1 = some r4 → ∀ ls : Array Slot, lv_has ls 3 [(0, .ref (q0 0)), (1, .int x1_1), (2, .int s4.2)] → W p l e (headSpec wsX5_rootGrains rmX5_rootGrains).room s m args below meth c s.heap [] 0 0 (MQ below (vp_Si (fun r => r = out)) args s 0 0 (fun _ => False)) (F0 m 25 ls []) := by
          intro x1_1 hf ls hl
          unfold jX5_rootGrains_1 at hf
          refine lv_iinc (v := (s4.2 + 1)) (lv' := [(2, .int (s4.2 + 1)), (0, .ref (q0 0)), (1, .int x1_1)]) hx hb dX5_rootGrains_25 hl (k := 2) rfl rfl (by decide) rfl (fun ls hl => ?_)
          refine lv_goto (tgt := 4) hx hb dX5_rootGrains_28 (by decide) ?_
          obtain rfl := Option.some.inj hf
          exact ih4 _ _ hn ls (lv_sub hl [1, 2, 0] rfl) kx
        refine lv_icmp_ne (tgt := 25) hx hb dX5_rootGrains_19 (by decide) (fun hc => ?_) (fun hc => ?_)
        · have hf := oe hc hf
          exact hJ1 _ hf ls (lv_sub hl [0, 1, 2] rfl)
        · have hf := ot hc hf
          refine lv_iinc (v := (s4.1 + 1)) (lv' := [(1, .int (s4.1 + 1)), (0, .ref (q0 0)), (2, .int s4.2)]) hx hb dX5_rootGrains_22 hl (k := 1) rfl rfl (by decide) rfl (fun ls hl => ?_)
          exact hJ1 _ hf ls (lv_sub hl [1, 0, 2] rfl)
  obtain ⟨o4, ho4, hf⟩ := ob hf
  refine hL4 FU _ _ ho4 ls (lv_sub hl [2, 1, 0] rfl) (fun ls hl => ?_)
  refine lv_iload_n hx hb dX5_rootGrains_31 rfl (lv_at hl 0 rfl) ?_
  obtain rfl := Option.some.inj hf
  exact W.iret (v := o4) hx hb hr (fun t ht hW => ⟨_, rfl, rfl, ht⟩) (fun _ h => by cases h) dX5_rootGrains_32
set_option maxHeartbeats 4000000 in
set_option maxRecDepth 100000 in
theorem mX5_grainsHeldBy (l : Launch) (dC : Nat → ClassId) (dI : Nat → Nat → Nat) (cI cZ cC cO : ClassId) (q0 : Nat → Nat) (a1 : Int32) (a2 : Int32) (g0 : GX5) (out : Int32) (hf : fX5_grainsHeldBy a1 a2 g0 = some out) : Met l yX5_grainsHeldBy wsX5_grainsHeldBy rmX5_grainsHeldBy (va_Pc [.ref (q0 0), .int a1, .int a2] (pcR (dC, dI) (wTys cI cZ cC cO) (wX5 cI cZ cC q0 g0))) (vp_Si (fun r => r = out)) 0 0 (fun _ => False) := by
  refine Met.ofW (cc := cX5_grainsHeldBy) (maxL := 5) (ret := (some .int)) (by decide) rfl ?_
  intro p e s m args below meth c s₁ B hml hv
  obtain ⟨hargs, hP, hK, hN⟩ := hv
  have hx := B.exec
  have hb := B.bytes
  have hr := B.returns
  have hts := atoms_spec (ws := wsX5_grainsHeldBy) B.pre
  have hown : s.vm.findClass RX5 = some m.cls := findClass_of_methodNamed B.named
  have hlocks := B.notSynchronized
  have hk0 := hts (.fieldLink RX5 30 "RimGrains$Trees" "grains" "I") (by decide +kernel)
  have hk1 := hts (.fieldLink RX5 18 "RimGrains$Trees" "holding" "[I") (by decide +kernel)
  have hin5 : ∀ w ∈ wsX50, w ∈ wsX5_grainsHeldBy := by decide +kernel
  have hE := lg_entry_eq m [.ref (q0 0), .int a1, .int a2] 5
  rw [← hargs] at hE
  rw [hE]
  have hl := lv_entry [.ref (q0 0), .int a1, .int a2] (n := 5) (Nat.le_of_ble_eq_true rfl)
  generalize (lg_sl [.ref (q0 0), .int a1, .int a2] ++ List.replicate (5 - (lg_sl [.ref (q0 0), .int a1, .int a2]).length) Slot.unset).toArray = ls at hl ⊢
  have hl : lv_has ls 5 [(0, .ref (q0 0)), (1, .int a1), (2, .int a2)] := hl
  unfold fX5_grainsHeldBy at hf
  refine lv_iconst (v := 0) hx hb dX5_grainsHeldBy_0 (by decide) ?_
  refine lv_istore_n (lv' := [(3, .int 0), (0, .ref (q0 0)), (1, .int a1), (2, .int a2)]) hx hb dX5_grainsHeldBy_1 rfl hl (by decide) rfl (fun ls hl => ?_)
  refine lv_iconst (v := 0) hx hb dX5_grainsHeldBy_2 (by decide) ?_
  refine lv_istore (lv' := [(4, .int 0), (3, .int 0), (0, .ref (q0 0)), (1, .int a1), (2, .int a2)]) hx hb dX5_grainsHeldBy_3 hl (by decide) rfl (fun ls hl => ?_)
  have hL5 : ∀ (n : Nat) (s5 : Int32 × Int32) (o5 : Int32), lp (tX5_grainsHeldBy_5 a1 a2 g0) n s5 = some o5 → ∀ (ls : Array Slot), lv_has ls 5 [(0, .ref (q0 0)), (1, .int a1), (2, .int a2), (3, .int s5.1), (4, .int s5.2)] → (∀ (ls : Array Slot), lv_has ls 5 [(3, .int o5)] → W p l e (headSpec wsX5_grainsHeldBy rmX5_grainsHeldBy).room s m args below meth c s.heap [] 0 0 (MQ below (vp_Si (fun r => r = out)) args s 0 0 (fun _ => False)) (F0 m 45 ls [])) → W p l e (headSpec wsX5_grainsHeldBy rmX5_grainsHeldBy).room s m args below meth c s.heap [] 0 0 (MQ below (vp_Si (fun r => r = out)) args s 0 0 (fun _ => False)) (F0 m 5 ls []) := by
    intro n
    induction n with
    | zero => intro s5 o5 hf; exact (lp0 hf).elim
    | succ n ih5 =>
      intro s5 o5 hf ls hl kx
      obtain ⟨r5, hf, hn⟩ := lps hf
      unfold tX5_grainsHeldBy_5 at hf
      refine lv_iload hx hb dX5_grainsHeldBy_5 (lv_at hl 4 rfl) ?_
      refine lv_aload_n hx hb dX5_grainsHeldBy_7 rfl (lv_at hl 0 rfl) ?_
      refine va_get (D := (dC, dI)) (ci := 4) (v := .int (pX5_grains g0)) (C := RX5) (T := TX5) (N := 7) hx hb hts hin5 hown hK hP 0 rfl rfl 6 (by decide) hk0 (fun _ h9 => h9) rfl dX5_grainsHeldBy_8 ?_
      refine lv_icmp_ge (tgt := 45) hx hb dX5_grainsHeldBy_11 (by decide) (fun hc => ?_) (fun hc => ?_)
      · have hf := ot hc hf
        obtain rfl := Option.some.inj hf
        obtain rfl := Option.some.inj hn
        exact kx ls (lv_sub hl [3] rfl)
      · have hf := oe hc hf
        refine lv_aload_n hx hb dX5_grainsHeldBy_14 rfl (lv_at hl 0 rfl) ?_
        refine va_get (D := (dC, dI)) (ci := 4) (v := .ref (q0 3)) (C := RX5) (T := TX5) (N := 7) hx hb hts hin5 hown hK hP 0 rfl rfl 2 (by decide) hk1 (fun _ h9 => h9) rfl dX5_grainsHeldBy_15 ?_
        refine lv_iload hx hb dX5_grainsHeldBy_18 (lv_at hl 4 rfl) ?_
        obtain ⟨hin, hf⟩ := og hf
        refine va_iald hx hb hK hP 3 0 rfl rfl hin dX5_grainsHeldBy_20 ?_
        refine lv_iload_n hx hb dX5_grainsHeldBy_21 rfl (lv_at hl 1 rfl) ?_
        have hJ1 : ∀ (x3_1 : Int32), jX5_grainsHeldBy_1 s5 x3_1 = some r5 → ∀ ls : Array Slot, lv_has ls 5 [(0, .ref (q0 0)), (1, .int a1), (2, .int a2), (3, .int x3_1), (4, .int s5.2)] → W p l e (headSpec wsX5_grainsHeldBy rmX5_grainsHeldBy).room s m args below meth c s.heap [] 0 0 (MQ below (vp_Si (fun r => r = out)) args s 0 0 (fun _ => False)) (F0 m 39 ls []) := by
          intro x3_1 hf ls hl
          unfold jX5_grainsHeldBy_1 at hf
          refine lv_iinc (v := (s5.2 + 1)) (lv' := [(4, .int (s5.2 + 1)), (0, .ref (q0 0)), (1, .int a1), (2, .int a2), (3, .int x3_1)]) hx hb dX5_grainsHeldBy_39 hl (k := 4) rfl rfl (by decide) rfl (fun ls hl => ?_)
          refine lv_goto (tgt := 5) hx hb dX5_grainsHeldBy_42 (by decide) ?_
          obtain rfl := Option.some.inj hf
          exact ih5 _ _ hn ls (lv_sub hl [1, 2, 3, 4, 0] rfl) kx
        refine lv_icmp_lt (tgt := 39) hx hb dX5_grainsHeldBy_22 (by decide) (fun hc => ?_) (fun hc => ?_)
        · have hf := ot hc hf
          exact hJ1 _ hf ls (lv_sub hl [0, 1, 2, 3, 4] rfl)
        · have hf := oe hc hf
          refine lv_aload_n hx hb dX5_grainsHeldBy_25 rfl (lv_at hl 0 rfl) ?_
          refine va_get (D := (dC, dI)) (ci := 4) (v := .ref (q0 3)) (C := RX5) (T := TX5) (N := 7) hx hb hts hin5 hown hK hP 0 rfl rfl 2 (by decide) hk1 (fun _ h9 => h9) rfl dX5_grainsHeldBy_26 ?_
          refine lv_iload hx hb dX5_grainsHeldBy_29 (lv_at hl 4 rfl) ?_
          obtain ⟨hin, hf⟩ := og hf
          refine va_iald hx hb hK hP 3 0 rfl rfl hin dX5_grainsHeldBy_31 ?_
          refine lv_iload_n hx hb dX5_grainsHeldBy_32 rfl (lv_at hl 2 rfl) ?_
          refine lv_icmp_gt (tgt := 39) hx hb dX5_grainsHeldBy_33 (by decide) (fun hc => ?_) (fun hc => ?_)
          · have hf := ot hc hf
            exact hJ1 _ hf ls (lv_sub hl [0, 1, 2, 3, 4] rfl)
          · have hf := oe hc hf
            refine lv_iinc (v := (s5.1 + 1)) (lv' := [(3, .int (s5.1 + 1)), (0, .ref (q0 0)), (1, .int a1), (2, .int a2), (4, .int s5.2)]) hx hb dX5_grainsHeldBy_36 hl (k := 3) rfl rfl (by decide) rfl (fun ls hl => ?_)
            exact hJ1 _ hf ls (lv_sub hl [1, 2, 3, 0, 4] rfl)
  obtain ⟨o5, ho5, hf⟩ := ob hf
  refine hL5 FU _ _ ho5 ls (lv_sub hl [2, 3, 4, 1, 0] rfl) (fun ls hl => ?_)
  refine lv_iload_n hx hb dX5_grainsHeldBy_45 rfl (lv_at hl 0 rfl) ?_
  obtain rfl := Option.some.inj hf
  exact W.iret (v := o5) hx hb hr (fun t ht hW => ⟨_, rfl, rfl, ht⟩) (fun _ h => by cases h) dX5_grainsHeldBy_46
set_option maxHeartbeats 4000000 in
set_option maxRecDepth 100000 in
theorem mX5_deepest (l : Launch) (dC : Nat → ClassId) (dI : Nat → Nat → Nat) (cI cZ cC cO : ClassId) (q0 : Nat → Nat) (g0 : GX5) (out : Int32) (hf : fX5_deepest g0 = some out) : Met l yX5_deepest wsX5_deepest rmX5_deepest (va_Pc [.ref (q0 0)] (pcR (dC, dI) (wTys cI cZ cC cO) (wX5 cI cZ cC q0 g0))) (vp_Si (fun r => r = out)) 0 0 (fun _ => False) := by
  refine Met.ofW (cc := cX5_deepest) (maxL := 3) (ret := (some .int)) (by decide) rfl ?_
  intro p e s m args below meth c s₁ B hml hv
  obtain ⟨hargs, hP, hK, hN⟩ := hv
  have hx := B.exec
  have hb := B.bytes
  have hr := B.returns
  have hts := atoms_spec (ws := wsX5_deepest) B.pre
  have hown : s.vm.findClass RX5 = some m.cls := findClass_of_methodNamed B.named
  have hlocks := B.notSynchronized
  have hk0 := hts (.fieldLink RX5 30 "RimGrains$Trees" "grains" "I") (by decide +kernel)
  have hk1 := hts (.fieldLink RX5 9 "RimGrains$Trees" "depths" "[I") (by decide +kernel)
  have hk2 := hts (.methodLink RX5 52 Lib.Math.max.name) (by decide +kernel)
  have hk2S := hts (.static Lib.Math.max.name) (by decide +kernel)
  have hk2I := hts (.initialized "java/lang/Math") (by decide +kernel)
  have hk2C := hts (.code Lib.Math.max.name Lib.Math.max.code 2 (some .int)) (by decide +kernel)
  have hin5 : ∀ w ∈ wsX50, w ∈ wsX5_deepest := by decide +kernel
  have hE := lg_entry_eq m [.ref (q0 0)] 3
  rw [← hargs] at hE
  rw [hE]
  have hl := lv_entry [.ref (q0 0)] (n := 3) (Nat.le_of_ble_eq_true rfl)
  generalize (lg_sl [.ref (q0 0)] ++ List.replicate (3 - (lg_sl [.ref (q0 0)]).length) Slot.unset).toArray = ls at hl ⊢
  have hl : lv_has ls 3 [(0, .ref (q0 0))] := hl
  unfold fX5_deepest at hf
  refine lv_iconst (v := 0) hx hb dX5_deepest_0 (by decide) ?_
  refine lv_istore_n (lv' := [(1, .int 0), (0, .ref (q0 0))]) hx hb dX5_deepest_1 rfl hl (by decide) rfl (fun ls hl => ?_)
  refine lv_iconst (v := 0) hx hb dX5_deepest_2 (by decide) ?_
  refine lv_istore_n (lv' := [(2, .int 0), (1, .int 0), (0, .ref (q0 0))]) hx hb dX5_deepest_3 rfl hl (by decide) rfl (fun ls hl => ?_)
  have hL4 : ∀ (n : Nat) (s4 : Int32 × Int32) (o4 : Int32), lp (tX5_deepest_4 g0) n s4 = some o4 → ∀ (ls : Array Slot), lv_has ls 3 [(0, .ref (q0 0)), (1, .int s4.1), (2, .int s4.2)] → (∀ (ls : Array Slot), lv_has ls 3 [(1, .int o4)] → W p l e (headSpec wsX5_deepest rmX5_deepest).room s m args below meth c s.heap [] 0 0 (MQ below (vp_Si (fun r => r = out)) args s 0 0 (fun _ => False)) (F0 m 29 ls [])) → W p l e (headSpec wsX5_deepest rmX5_deepest).room s m args below meth c s.heap [] 0 0 (MQ below (vp_Si (fun r => r = out)) args s 0 0 (fun _ => False)) (F0 m 4 ls []) := by
    intro n
    induction n with
    | zero => intro s4 o4 hf; exact (lp0 hf).elim
    | succ n ih4 =>
      intro s4 o4 hf ls hl kx
      obtain ⟨r4, hf, hn⟩ := lps hf
      unfold tX5_deepest_4 at hf
      refine lv_iload_n hx hb dX5_deepest_4 rfl (lv_at hl 2 rfl) ?_
      refine lv_aload_n hx hb dX5_deepest_5 rfl (lv_at hl 0 rfl) ?_
      refine va_get (D := (dC, dI)) (ci := 4) (v := .int (pX5_grains g0)) (C := RX5) (T := TX5) (N := 7) hx hb hts hin5 hown hK hP 0 rfl rfl 6 (by decide) hk0 (fun _ h9 => h9) rfl dX5_deepest_6 ?_
      refine lv_icmp_ge (tgt := 29) hx hb dX5_deepest_9 (by decide) (fun hc => ?_) (fun hc => ?_)
      · have hf := ot hc hf
        obtain rfl := Option.some.inj hf
        obtain rfl := Option.some.inj hn
        exact kx ls (lv_sub hl [1] rfl)
      · have hf := oe hc hf
        refine lv_iload_n hx hb dX5_deepest_12 rfl (lv_at hl 1 rfl) ?_
        refine lv_aload_n hx hb dX5_deepest_13 rfl (lv_at hl 0 rfl) ?_
        refine va_get (D := (dC, dI)) (ci := 4) (v := .ref (q0 1)) (C := RX5) (T := TX5) (N := 7) hx hb hts hin5 hown hK hP 0 rfl rfl 0 (by decide) hk1 (fun _ h9 => h9) rfl dX5_deepest_14 ?_
        refine lv_iload_n hx hb dX5_deepest_17 rfl (lv_at hl 2 rfl) ?_
        obtain ⟨hin, hf⟩ := og hf
        refine va_iald hx hb hK hP 1 0 rfl rfl hin dX5_deepest_18 ?_
        refine mmax hx hb hml hl.1 hown hk2 hk2S hk2I hk2C (Nat.le_of_ble_eq_true rfl) (Nat.le_of_ble_eq_true rfl) ⟨Nat.zero_le _, Nat.zero_le _⟩ dX5_deepest_19 ?_
        refine lv_istore_n (lv' := [(1, .int (jmax s4.1 ((pX5_depths g0) s4.2.toNatClampNeg))), (0, .ref (q0 0)), (2, .int s4.2)]) hx hb dX5_deepest_22 rfl hl (by decide) rfl (fun ls hl => ?_)
        refine lv_iinc (v := (s4.2 + 1)) (lv' := [(2, .int (s4.2 + 1)), (1, .int (jmax s4.1 ((pX5_depths g0) s4.2.toNatClampNeg))), (0, .ref (q0 0))]) hx hb dX5_deepest_23 hl (k := 2) rfl rfl (by decide) rfl (fun ls hl => ?_)
        refine lv_goto (tgt := 4) hx hb dX5_deepest_26 (by decide) ?_
        obtain rfl := Option.some.inj hf
        exact ih4 _ _ hn ls (lv_sub hl [2, 1, 0] rfl) kx
  obtain ⟨o4, ho4, hf⟩ := ob hf
  refine hL4 FU _ _ ho4 ls (lv_sub hl [2, 1, 0] rfl) (fun ls hl => ?_)
  refine lv_iload_n hx hb dX5_deepest_29 rfl (lv_at hl 0 rfl) ?_
  obtain rfl := Option.some.inj hf
  exact W.iret (v := o4) hx hb hr (fun t ht hW => ⟨_, rfl, rfl, ht⟩) (fun _ h => by cases h) dX5_deepest_30
