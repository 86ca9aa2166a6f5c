set_option maxHeartbeats 4000000 in
set_option maxRecDepth 100000 in
theorem mX0_dropTree (l : Launch) (dC : Nat → ClassId) (dI : Nat → Nat → Nat) (cI cZ cC cO : ClassId) (q0 : Nat → Nat) (q1 : Nat → Nat) (a2 : Int32) (g0 : GX0) (g1 : GX4) (sz : Nat) (out : Int32 × GX0 × GX4) (hf : fX0_dropTree a2 g0 g1 = some out) : Met l yX0_dropTree wsX0_dropTree rmX0_dropTree (va_Pc [.ref (q0 0), .ref (q1 0), .int a2] (pcW (dC, dI) (wTys cI cZ cC cO) sz (wX0 cI cZ cC q0 g0 ++ wX4 cI cZ cC q1 g1))) (va_Qi (fun r (_ : Unit) => r = out.1) (fun _ => poW (dC, dI) (va_A (wX0 cI cZ cC q0 g0 ++ wX4 cI cZ cC q1 g1) sz) (wX0 cI cZ cC q0 out.2.1 ++ wX4 cI cZ cC q1 out.2.2)) (va_A (wX0 cI cZ cC q0 g0 ++ wX4 cI cZ cC q1 g1) sz)) 0 0 (va_A (wX0 cI cZ cC q0 g0 ++ wX4 cI cZ cC q1 g1) sz) := by
  refine Met.ofW (cc := cX0_dropTree) (maxL := 5) (ret := (some .int)) (by decide) rfl ?_
  intro p e s m args below meth c s₁ B hml hv
  obtain ⟨hargs, hsz, hP, hK, hN, hD0⟩ := hv
  have hx := B.exec
  have hb := B.bytes
  have hr := B.returns
  have hts := atoms_spec (ws := wsX0_dropTree) B.pre
  have hown : s.vm.findClass RX0 = some m.cls := findClass_of_methodNamed B.named
  have hlocks := B.notSynchronized
  have hk0 := hN.f (args := args) 2 rfl
  have hk1 := hts (.fieldLink RX0 9 "RimGrains$Fall" "falling" "[Z") (by decide +kernel)
  have hk2 := hts (.fieldLink RX0 15 "RimGrains$Fall" "newNumbers" "[I") (by decide +kernel)
  have hin4 : ∀ w ∈ wsX40, w ∈ wsX0_dropTree := by decide +kernel
  have hin0 : ∀ w ∈ wsX00, w ∈ wsX0_dropTree := by decide +kernel
  subst hsz
  have hD := hD0.self (sz := s.heap.size)
  generalize hAe : va_A (wX0 cI cZ cC q0 g0 ++ wX4 cI cZ cC q1 g1) s.heap.size = A at hD ⊢
  have hA : ∀ q : Nat, s.heap.size ≤ q → A q := fun q h => by rw [← hAe]; exact Or.inr h
  have hS : va_S A s.heap s.heap [] := va_S.rf
  have hE := lg_entry_eq m [.ref (q0 0), .ref (q1 0), .int a2] 5
  rw [← hargs] at hE
  rw [hE]
  have hl := lv_entry [.ref (q0 0), .ref (q1 0), .int a2] (n := 5) (Nat.le_of_ble_eq_true rfl)
  generalize (lg_sl [.ref (q0 0), .ref (q1 0), .int a2] ++ List.replicate (5 - (lg_sl [.ref (q0 0), .ref (q1 0), .int a2]).length) Slot.unset).toArray = ls at hl ⊢
  have hl : lv_has ls 5 [(0, .ref (q0 0)), (1, .ref (q1 0)), (2, .int a2)] := hl
  have hP : va_P (dC, dI) vwCl (wX0 cI cZ cC q0 g0 ++ wX4 cI cZ cC q1 g1) s.heap := hP
  unfold fX0_dropTree at hf
  refine lv_iconst (v := 0) hx hb dX0_dropTree_0 (by decide) ?_
  refine lv_istore_n (lv' := [(3, .int 0), (0, .ref (q0 0)), (1, .ref (q1 0)), (2, .int a2)]) hx hb dX0_dropTree_1 rfl hl (by decide) rfl (fun ls hl => ?_)
  have hL2 : ∀ (n : Nat) (s2 : Int32 × GX0) (o2 : GX0), lp (tX0_dropTree_2 a2 g1) n s2 = some o2 → ∀ (H : Heap) (locs : List Loc) (ls : Array Slot), va_P (dC, dI) vwCl (wX0 cI cZ cC q0 s2.2 ++ wX4 cI cZ cC q1 g1) H → va_D A (wX0 cI cZ cC q0 s2.2 ++ wX4 cI cZ cC q1 g1) → va_S A s.heap H locs → lv_has ls 5 [(0, .ref (q0 0)), (1, .ref (q1 0)), (2, .int a2), (3, .int s2.1)] → (∀ (H : Heap) (locs : List Loc) (ls : Array Slot), va_P (dC, dI) vwCl (wX0 cI cZ cC q0 o2 ++ wX4 cI cZ cC q1 g1) H → va_D A (wX0 cI cZ cC q0 o2 ++ wX4 cI cZ cC q1 g1) → va_S A s.heap H locs → lv_has ls 5 [(0, .ref (q0 0)), (1, .ref (q1 0))] → W p l e (headSpec wsX0_dropTree rmX0_dropTree).room s m args below meth c H locs 0 0 (MQ below (va_Qi (fun r (_ : Unit) => r = out.1) (fun _ => poW (dC, dI) A (wX0 cI cZ cC q0 out.2.1 ++ wX4 cI cZ cC q1 out.2.2)) A) args s 0 0 A) (F0 m 58 ls [])) → W p l e (headSpec wsX0_dropTree rmX0_dropTree).room s m args below meth c H locs 0 0 (MQ below (va_Qi (fun r (_ : Unit) => r = out.1) (fun _ => poW (dC, dI) A (wX0 cI cZ cC q0 out.2.1 ++ wX4 cI cZ cC q1 out.2.2)) A) args s 0 0 A) (F0 m 2 ls []) := by
    intro n
    induction n with
    | zero => intro s2 o2 hf; exact (lp0 hf).elim
    | succ n ih2 =>
      intro s2 o2 hf H locs ls hP hD hS hl kx
      obtain ⟨r2, hf, hn⟩ := lps hf
      unfold tX0_dropTree_2 at hf
      refine lv_iload_n hx hb dX0_dropTree_2 rfl (lv_at hl 3 rfl) ?_
      refine lv_aload_n hx hb dX0_dropTree_3 rfl (lv_at hl 1 rfl) ?_
      refine va_getN (D := (dC, dI)) (ci := 3) (v := .int (pX4_grains g1)) (C := RX4) (T := TX4) (N := 11) hx hb hts hin4 hown hK hP 3 rfl rfl 5 (by decide) hk0 (fun _ h9 => h9) rfl dX0_dropTree_4 ?_
      refine lv_icmp_ge (tgt := 58) hx hb dX0_dropTree_7 (by decide) (fun hc => ?_) (fun hc => ?_)
      · have hf := ot hc hf
        obtain rfl := Option.some.inj hf
        obtain rfl := Option.some.inj hn
        exact kx _ _ ls hP hD hS (lv_sub hl [0, 1] rfl)
      · have hf := oe hc hf
        refine lv_aload_n hx hb dX0_dropTree_10 rfl (lv_at hl 1 rfl) ?_
        refine lv_iload_n hx hb dX0_dropTree_11 rfl (lv_at hl 3 rfl) ?_
        obtain ⟨o12, ho12, hf⟩ := ob hf
        refine rV (rest := []) (As := [.int s2.1]) ⟨hx, hb, hml, hown, hts⟩ (mX4_holderOf l dC dI cI cZ cC cO q1 _ _ _ ho12) (cwV 1 hts gX0_dropTree_X4_holderOf rfl rfl rfl (by decide +kernel) ⟨Nat.le_of_ble_eq_true rfl, Nat.le_of_ble_eq_true rfl⟩) hK hN hP [3, 4, 5, 6, 7, 8] rfl 3 rfl rfl rfl rfl hl.1 rfl (Nat.le_of_ble_eq_true rfl) dX0_dropTree_12 ⟨Nat.zero_le _, Nat.zero_le _⟩ ?_
        refine lv_istore (lv' := [(4, .int o12), (0, .ref (q0 0)), (1, .ref (q1 0)), (2, .int a2), (3, .int s2.1)]) hx hb dX0_dropTree_15 hl (by decide) rfl (fun ls hl => ?_)
        refine lv_aload_n hx hb dX0_dropTree_17 rfl (lv_at hl 1 rfl) ?_
        refine va_get (D := (dC, dI)) (ci := 0) (v := .ref (q0 1)) (C := RX0) (T := TX0) (N := 2) hx hb hts hin0 hown hK hP 0 rfl rfl 0 (by decide) hk1 (fun _ h9 => h9) rfl dX0_dropTree_18 ?_
        refine lv_iload_n hx hb dX0_dropTree_21 rfl (lv_at hl 4 rfl) ?_
        refine lv_iload_n hx hb dX0_dropTree_22 rfl (lv_at hl 4 rfl) ?_
        refine lv_iload_n hx hb dX0_dropTree_23 rfl (lv_at hl 3 rfl) ?_
        have hJ1 : ∀ (y0_1 : Int32), jX0_dropTree_1 s2 y0_1 = some r2 → ∀ (H : Heap) (locs : List Loc) (ls : Array Slot), va_P (dC, dI) vwCl (wX0 cI cZ cC q0 s2.2 ++ wX4 cI cZ cC q1 g1) H → va_D A (wX0 cI cZ cC q0 s2.2 ++ wX4 cI cZ cC q1 g1) → va_S A s.heap H locs → lv_has ls 5 [(0, .ref (q0 0)), (1, .ref (q1 0)), (2, .int a2), (3, .int s2.1)] → W p l e (headSpec wsX0_dropTree rmX0_dropTree).room s m args below meth c H locs 0 0 (MQ below (va_Qi (fun r (_ : Unit) => r = out.1) (fun _ => poW (dC, dI) A (wX0 cI cZ cC q0 out.2.1 ++ wX4 cI cZ cC q1 out.2.2)) A) args s 0 0 A) (F0 m 51 ls [.int y0_1, .int s2.1, .ref (q0 1)]) := by
          intro y0_1 hf H locs ls hP hD hS hl
          unfold jX0_dropTree_1 at hf
          obtain ⟨hin, hf⟩ := og hf
          refine va_zast hx hb hK hP hD hS 1 1 rfl rfl hin dX0_dropTree_51 (fun H locs hP hD hS => ?_)
          have hP : va_P (dC, dI) vwCl (wX0 cI cZ cC q0 ((upd (pX0_falling s2.2) s2.1.toNatClampNeg (vp_nar .boolean y0_1)), (pX0_newNumbers s2.2)) ++ wX4 cI cZ cC q1 g1) H := hP
          have hD : va_D A (wX0 cI cZ cC q0 ((upd (pX0_falling s2.2) s2.1.toNatClampNeg (vp_nar .boolean y0_1)), (pX0_newNumbers s2.2)) ++ wX4 cI cZ cC q1 g1) := hD
          refine lv_iinc (v := (s2.1 + 1)) (lv' := [(3, .int (s2.1 + 1)), (0, .ref (q0 0)), (1, .ref (q1 0)), (2, .int a2)]) hx hb dX0_dropTree_52 hl (k := 3) rfl rfl (by decide) rfl (fun ls hl => ?_)
          refine lv_goto (tgt := 2) hx hb dX0_dropTree_55 (by decide) ?_
          obtain rfl := Option.some.inj hf
          exact ih2 _ _ hn _ _ ls hP hD hS (lv_sub hl [1, 2, 3, 0] rfl) kx
        have hJ2 : jX0_dropTree_2 s2 = some r2 → ∀ (H : Heap) (locs : List Loc) (ls : Array Slot), va_P (dC, dI) vwCl (wX0 cI cZ cC q0 s2.2 ++ wX4 cI cZ cC q1 g1) H → va_D A (wX0 cI cZ cC q0 s2.2 ++ wX4 cI cZ cC q1 g1) → va_S A s.heap H locs → lv_has ls 5 [(0, .ref (q0 0)), (1, .ref (q1 0)), (2, .int a2), (3, .int s2.1)] → W p l e (headSpec wsX0_dropTree rmX0_dropTree).room s m args below meth c H locs 0 0 (MQ below (va_Qi (fun r (_ : Unit) => r = out.1) (fun _ => poW (dC, dI) A (wX0 cI cZ cC q0 out.2.1 ++ wX4 cI cZ cC q1 out.2.2)) A) args s 0 0 A) (F0 m 46 ls [.int s2.1, .ref (q0 1)]) := by
          intro  hf H locs ls hP hD hS hl
          unfold jX0_dropTree_2 at hf
          refine lv_iconst (v := 1) hx hb dX0_dropTree_46 (by decide) ?_
          refine lv_goto (tgt := 51) hx hb dX0_dropTree_47 (by decide) ?_
          exact hJ1 _ hf _ _ ls hP hD hS (lv_sub hl [0, 1, 2, 3] rfl)
        refine lv_icmp_eq (tgt := 46) hx hb dX0_dropTree_24 (by decide) (fun hc => ?_) (fun hc => ?_)
        · have hf := ot hc hf
          exact hJ2 hf _ _ ls hP hD hS (lv_sub hl [1, 2, 3, 4] rfl)
        · have hf := oe hc hf
          refine lv_aload_n hx hb dX0_dropTree_27 rfl (lv_at hl 2 rfl) ?_
          refine lv_iload hx hb dX0_dropTree_28 (lv_at hl 0 rfl) ?_
          obtain ⟨o30, ho30, hf⟩ := ob hf
          refine rV (rest := [.int s2.1, .ref (q0 1)]) (As := [.int o12]) ⟨hx, hb, hml, hown, hts⟩ (mX4_isGrain l dC dI cI cZ cC cO q1 _ _ _ ho30) (cwV 1 hts gX0_dropTree_X4_isGrain rfl rfl rfl (by decide +kernel) ⟨Nat.le_of_ble_eq_true rfl, Nat.le_of_ble_eq_true rfl⟩) hK hN hP [3, 4, 5, 6, 7, 8] rfl 3 rfl rfl rfl rfl hl.1 rfl (Nat.le_of_ble_eq_true rfl) dX0_dropTree_30 ⟨Nat.zero_le _, Nat.zero_le _⟩ ?_
          have hJ3 : jX0_dropTree_3 s2 = some r2 → ∀ (H : Heap) (locs : List Loc) (ls : Array Slot), va_P (dC, dI) vwCl (wX0 cI cZ cC q0 s2.2 ++ wX4 cI cZ cC q1 g1) H → va_D A (wX0 cI cZ cC q0 s2.2 ++ wX4 cI cZ cC q1 g1) → va_S A s.heap H locs → lv_has ls 5 [(0, .ref (q0 0)), (1, .ref (q1 0)), (2, .int a2), (3, .int s2.1)] → W p l e (headSpec wsX0_dropTree rmX0_dropTree).room s m args below meth c H locs 0 0 (MQ below (va_Qi (fun r (_ : Unit) => r = out.1) (fun _ => poW (dC, dI) A (wX0 cI cZ cC q0 out.2.1 ++ wX4 cI cZ cC q1 out.2.2)) A) args s 0 0 A) (F0 m 50 ls [.int s2.1, .ref (q0 1)]) := by
            intro  hf H locs ls hP hD hS hl
            unfold jX0_dropTree_3 at hf
            refine lv_iconst (v := 0) hx hb dX0_dropTree_50 (by decide) ?_
            exact hJ1 _ hf _ _ ls hP hD hS (lv_sub hl [0, 1, 2, 3] rfl)
          refine lv_if_eq (tgt := 50) hx hb dX0_dropTree_33 (by decide) (fun hc => ?_) (fun hc => ?_)
          · have hf := ot hc hf
            exact hJ3 hf _ _ ls hP hD hS (lv_sub hl [1, 2, 3, 4] rfl)
          · have hf := oe hc hf
            refine lv_aload_n hx hb dX0_dropTree_36 rfl (lv_at hl 1 rfl) ?_
            refine va_get (D := (dC, dI)) (ci := 0) (v := .ref (q0 1)) (C := RX0) (T := TX0) (N := 2) hx hb hts hin0 hown hK hP 0 rfl rfl 0 (by decide) hk1 (fun _ h9 => h9) rfl dX0_dropTree_37 ?_
            refine lv_iload hx hb dX0_dropTree_40 (lv_at hl 0 rfl) ?_
            obtain ⟨hin, hf⟩ := og hf
            refine va_zald hx hb hK hP 1 1 rfl rfl hin dX0_dropTree_42 ?_
            refine lv_if_eq (tgt := 50) hx hb dX0_dropTree_43 (by decide) (fun hc => ?_) (fun hc => ?_)
            · have hf := ot hc hf
              exact hJ3 hf _ _ ls hP hD hS (lv_sub hl [1, 2, 3, 4] rfl)
            · have hf := oe hc hf
              exact hJ2 hf _ _ ls hP hD hS (lv_sub hl [1, 2, 3, 4] rfl)
  obtain ⟨o2, ho2, hf⟩ := ob hf
  refine hL2 FU _ _ ho2 _ _ ls hP hD hS (lv_sub hl [1, 2, 3, 0] rfl) (fun H locs ls hP hD hS hl => ?_)
  refine lv_aload_n hx hb dX0_dropTree_58 rfl (lv_at hl 1 rfl) ?_
  refine lv_aload_n hx hb dX0_dropTree_59 rfl (lv_at hl 0 rfl) ?_
  refine va_get (D := (dC, dI)) (ci := 0) (v := .ref (q0 1)) (C := RX0) (T := TX0) (N := 2) hx hb hts hin0 hown hK hP 0 rfl rfl 0 (by decide) hk1 (fun _ h9 => h9) rfl dX0_dropTree_60 ?_
  refine lv_aload_n hx hb dX0_dropTree_63 rfl (lv_at hl 0 rfl) ?_
  refine va_get (D := (dC, dI)) (ci := 0) (v := .ref (q0 2)) (C := RX0) (T := TX0) (N := 2) hx hb hts hin0 hown hK hP 0 rfl rfl 1 (by decide) hk2 (fun _ h9 => h9) rfl dX0_dropTree_64 ?_
  obtain ⟨o67, ho67, hf⟩ := ob hf
  refine wVi (W1 := (fun _ : Unit => (wX0 cI cZ cC q0 ((pX0_falling o2), o67.2.2) ++ wX4 cI cZ cC q1 o67.2.1))) (rest := []) (As := [.ref (q0 1), .ref (q0 2)]) ⟨hx, hb, hml, hown, hts⟩ (mX4_drop l dC dI cI cZ cC cO q1 (q0 1) (q0 2) _ _ _ _ _ _ _ ho67) (cwV 2 hts gX0_dropTree_X4_drop rfl rfl rfl (by decide +kernel) ⟨Nat.le_of_ble_eq_true rfl, Nat.le_of_ble_eq_true rfl⟩) hK hN hP hD hS hA [3, 4, 5, 6, 7, 8, 1, 2] [0] [0, 7, 8, 1, 2, 3, 4, 5, 6] rfl rfl (by decide) (by decide) (fun _ => rfl) 3 rfl rfl rfl rfl hl.1 rfl (Nat.le_of_ble_eq_true rfl) dX0_dropTree_67 ⟨Nat.zero_le _, Nat.zero_le _⟩ (fun _ H locs hP hD hS => ?_)
  have hP : va_P (dC, dI) vwCl (wX0 cI cZ cC q0 ((pX0_falling o2), o67.2.2) ++ wX4 cI cZ cC q1 o67.2.1) H := hP
  have hD : va_D A (wX0 cI cZ cC q0 ((pX0_falling o2), o67.2.2) ++ wX4 cI cZ cC q1 o67.2.1) := hD
  obtain rfl := Option.some.inj hf
  exact W.iret (v := o67.1) hx hb hr (fun t ht hW => ⟨⟨_, (), rfl, rfl, by rw [ht]; exact hP, hD⟩, hS.F ht⟩) hS.2.2 dX0_dropTree_70
set_option maxHeartbeats 4000000 in
set_option maxRecDepth 100000 in
theorem mX0_dropTips (l : Launch) (dC : Nat → ClassId) (dI : Nat → Nat → Nat) (cI cZ cC cO : ClassId) (q0 : Nat → Nat) (q1 : Nat → Nat) (g0 : GX0) (g1 : GX4) (sz : Nat) (out : Int32 × GX0 × GX4) (hf : fX0_dropTips g0 g1 = some out) : Met l yX0_dropTips wsX0_dropTips rmX0_dropTips (va_Pc [.ref (q0 0), .ref (q1 0)] (pcW (dC, dI) (wTys cI cZ cC cO) sz (wX0 cI cZ cC q0 g0 ++ wX4 cI cZ cC q1 g1))) (va_Qi (fun r (_ : Unit) => r = out.1) (fun _ => poW (dC, dI) (va_A (wX0 cI cZ cC q0 g0 ++ wX4 cI cZ cC q1 g1) sz) (wX0 cI cZ cC q0 out.2.1 ++ wX4 cI cZ cC q1 out.2.2)) (va_A (wX0 cI cZ cC q0 g0 ++ wX4 cI cZ cC q1 g1) sz)) 0 0 (va_A (wX0 cI cZ cC q0 g0 ++ wX4 cI cZ cC q1 g1) sz) := by
  refine Met.ofW (cc := cX0_dropTips) (maxL := 4) (ret := (some .int)) (by decide) rfl ?_
  intro p e s m args below meth c s₁ B hml hv
  obtain ⟨hargs, hsz, hP, hK, hN, hD0⟩ := hv
  have hx := B.exec
  have hb := B.bytes
  have hr := B.returns
  have hts := atoms_spec (ws := wsX0_dropTips) B.pre
  have hown : s.vm.findClass RX0 = some m.cls := findClass_of_methodNamed B.named
  have hlocks := B.notSynchronized
  have hk0 := hN.f (args := args) 2 rfl
  have hk1 := hts (.fieldLink RX0 9 "RimGrains$Fall" "falling" "[Z") (by decide +kernel)
  have hk2 := hts (.fieldLink RX0 15 "RimGrains$Fall" "newNumbers" "[I") (by decide +kernel)
  have hin4 : ∀ w ∈ wsX40, w ∈ wsX0_dropTips := by decide +kernel
  have hin0 : ∀ w ∈ wsX00, w ∈ wsX0_dropTips := by decide +kernel
  subst hsz
  have hD := hD0.self (sz := s.heap.size)
  generalize hAe : va_A (wX0 cI cZ cC q0 g0 ++ wX4 cI cZ cC q1 g1) s.heap.size = A at hD ⊢
  have hA : ∀ q : Nat, s.heap.size ≤ q → A q := fun q h => by rw [← hAe]; exact Or.inr h
  have hS : va_S A s.heap s.heap [] := va_S.rf
  have hE := lg_entry_eq m [.ref (q0 0), .ref (q1 0)] 4
  rw [← hargs] at hE
  rw [hE]
  have hl := lv_entry [.ref (q0 0), .ref (q1 0)] (n := 4) (Nat.le_of_ble_eq_true rfl)
  generalize (lg_sl [.ref (q0 0), .ref (q1 0)] ++ List.replicate (4 - (lg_sl [.ref (q0 0), .ref (q1 0)]).length) Slot.unset).toArray = ls at hl ⊢
  have hl : lv_has ls 4 [(0, .ref (q0 0)), (1, .ref (q1 0))] := hl
  have hP : va_P (dC, dI) vwCl (wX0 cI cZ cC q0 g0 ++ wX4 cI cZ cC q1 g1) s.heap := hP
  unfold fX0_dropTips at hf
  refine lv_iconst (v := 0) hx hb dX0_dropTips_0 (by decide) ?_
  refine lv_istore_n (lv' := [(2, .int 0), (0, .ref (q0 0)), (1, .ref (q1 0))]) hx hb dX0_dropTips_1 rfl hl (by decide) rfl (fun ls hl => ?_)
  have hL2 : ∀ (n : Nat) (s2 : Int32 × GX0) (o2 : GX0), lp (tX0_dropTips_2 g1) n s2 = some o2 → ∀ (H : Heap) (locs : List Loc) (ls : Array Slot), va_P (dC, dI) vwCl (wX0 cI cZ cC q0 s2.2 ++ wX4 cI cZ cC q1 g1) H → va_D A (wX0 cI cZ cC q0 s2.2 ++ wX4 cI cZ cC q1 g1) → va_S A s.heap H locs → lv_has ls 4 [(0, .ref (q0 0)), (1, .ref (q1 0)), (2, .int s2.1)] → (∀ (H : Heap) (locs : List Loc) (ls : Array Slot), va_P (dC, dI) vwCl (wX0 cI cZ cC q0 o2 ++ wX4 cI cZ cC q1 g1) H → va_D A (wX0 cI cZ cC q0 o2 ++ wX4 cI cZ cC q1 g1) → va_S A s.heap H locs → lv_has ls 4 [(0, .ref (q0 0)), (1, .ref (q1 0))] → W p l e (headSpec wsX0_dropTips rmX0_dropTips).room s m args below meth c H locs 0 0 (MQ below (va_Qi (fun r (_ : Unit) => r = out.1) (fun _ => poW (dC, dI) A (wX0 cI cZ cC q0 out.2.1 ++ wX4 cI cZ cC q1 out.2.2)) A) args s 0 0 A) (F0 m 48 ls [])) → W p l e (headSpec wsX0_dropTips rmX0_dropTips).room s m args below meth c H locs 0 0 (MQ below (va_Qi (fun r (_ : Unit) => r = out.1) (fun _ => poW (dC, dI) A (wX0 cI cZ cC q0 out.2.1 ++ wX4 cI cZ cC q1 out.2.2)) A) args s 0 0 A) (F0 m 2 ls []) := by
    intro n
    induction n with
    | zero => intro s2 o2 hf; exact (lp0 hf).elim
    | succ n ih2 =>
      intro s2 o2 hf H locs ls hP hD hS hl kx
      obtain ⟨r2, hf, hn⟩ := lps hf
      unfold tX0_dropTips_2 at hf
      refine lv_iload_n hx hb dX0_dropTips_2 rfl (lv_at hl 2 rfl) ?_
      refine lv_aload_n hx hb dX0_dropTips_3 rfl (lv_at hl 1 rfl) ?_
      refine va_getN (D := (dC, dI)) (ci := 3) (v := .int (pX4_grains g1)) (C := RX4) (T := TX4) (N := 11) hx hb hts hin4 hown hK hP 3 rfl rfl 5 (by decide) hk0 (fun _ h9 => h9) rfl dX0_dropTips_4 ?_
      refine lv_icmp_ge (tgt := 48) hx hb dX0_dropTips_7 (by decide) (fun hc => ?_) (fun hc => ?_)
      · have hf := ot hc hf
        obtain rfl := Option.some.inj hf
        obtain rfl := Option.some.inj hn
        exact kx _ _ ls hP hD hS (lv_sub hl [0, 1] rfl)
      · have hf := oe hc hf
        refine lv_aload_n hx hb dX0_dropTips_10 rfl (lv_at hl 1 rfl) ?_
        refine lv_iload_n hx hb dX0_dropTips_11 rfl (lv_at hl 2 rfl) ?_
        obtain ⟨o12, ho12, hf⟩ := ob hf
        refine rV (rest := []) (As := [.int s2.1]) ⟨hx, hb, hml, hown, hts⟩ (mX4_holderOf l dC dI cI cZ cC cO q1 _ _ _ ho12) (cwV 1 hts gX0_dropTips_X4_holderOf rfl rfl rfl (by decide +kernel) ⟨Nat.le_of_ble_eq_true rfl, Nat.le_of_ble_eq_true rfl⟩) hK hN hP [3, 4, 5, 6, 7, 8] rfl 3 rfl rfl rfl rfl hl.1 rfl (Nat.le_of_ble_eq_true rfl) dX0_dropTips_12 ⟨Nat.zero_le _, Nat.zero_le _⟩ ?_
        refine lv_istore_n (lv' := [(3, .int o12), (0, .ref (q0 0)), (1, .ref (q1 0)), (2, .int s2.1)]) hx hb dX0_dropTips_15 rfl hl (by decide) rfl (fun ls hl => ?_)
        refine lv_aload_n hx hb dX0_dropTips_16 rfl (lv_at hl 1 rfl) ?_
        refine va_get (D := (dC, dI)) (ci := 0) (v := .ref (q0 1)) (C := RX0) (T := TX0) (N := 2) hx hb hts hin0 hown hK hP 0 rfl rfl 0 (by decide) hk1 (fun _ h9 => h9) rfl dX0_dropTips_17 ?_
        refine lv_iload_n hx hb dX0_dropTips_20 rfl (lv_at hl 3 rfl) ?_
        refine lv_aload_n hx hb dX0_dropTips_21 rfl (lv_at hl 2 rfl) ?_
        refine lv_iload_n hx hb dX0_dropTips_22 rfl (lv_at hl 0 rfl) ?_
        obtain ⟨o23, ho23, hf⟩ := ob hf
        refine rV (rest := [.int s2.1, .ref (q0 1)]) (As := [.int o12]) ⟨hx, hb, hml, hown, hts⟩ (mX4_isGrain l dC dI cI cZ cC cO q1 _ _ _ ho23) (cwV 1 hts gX0_dropTips_X4_isGrain rfl rfl rfl (by decide +kernel) ⟨Nat.le_of_ble_eq_true rfl, Nat.le_of_ble_eq_true rfl⟩) hK hN hP [3, 4, 5, 6, 7, 8] rfl 3 rfl rfl rfl rfl hl.1 rfl (Nat.le_of_ble_eq_true rfl) dX0_dropTips_23 ⟨Nat.zero_le _, Nat.zero_le _⟩ ?_
        obtain ⟨hin, hf⟩ := og hf
        refine va_zast hx hb hK hP hD hS 1 1 rfl rfl hin dX0_dropTips_26 (fun H locs hP hD hS => ?_)
        have hP : va_P (dC, dI) vwCl (wX0 cI cZ cC q0 ((upd (pX0_falling s2.2) s2.1.toNatClampNeg (vp_nar .boolean o23)), (pX0_newNumbers s2.2)) ++ wX4 cI cZ cC q1 g1) H := hP
        have hD : va_D A (wX0 cI cZ cC q0 ((upd (pX0_falling s2.2) s2.1.toNatClampNeg (vp_nar .boolean o23)), (pX0_newNumbers s2.2)) ++ wX4 cI cZ cC q1 g1) := hD
        refine lv_aload_n hx hb dX0_dropTips_27 rfl (lv_at hl 2 rfl) ?_
        refine lv_iload_n hx hb dX0_dropTips_28 rfl (lv_at hl 0 rfl) ?_
        obtain ⟨o29, ho29, hf⟩ := ob hf
        refine rV (rest := []) (As := [.int o12]) ⟨hx, hb, hml, hown, hts⟩ (mX4_isGrain l dC dI cI cZ cC cO q1 _ _ _ ho29) (cwV 1 hts gX0_dropTips_X4_isGrain rfl rfl rfl (by decide +kernel) ⟨Nat.le_of_ble_eq_true rfl, Nat.le_of_ble_eq_true rfl⟩) hK hN hP [3, 4, 5, 6, 7, 8] rfl 3 rfl rfl rfl rfl hl.1 rfl (Nat.le_of_ble_eq_true rfl) dX0_dropTips_29 ⟨Nat.zero_le _, Nat.zero_le _⟩ ?_
        have hJ1 : ∀ (g0_1 : GX0), jX0_dropTips_1 s2 g0_1 = some r2 → ∀ (H : Heap) (locs : List Loc) (ls : Array Slot), va_P (dC, dI) vwCl (wX0 cI cZ cC q0 g0_1 ++ wX4 cI cZ cC q1 g1) H → va_D A (wX0 cI cZ cC q0 g0_1 ++ wX4 cI cZ cC q1 g1) → va_S A s.heap H locs → lv_has ls 4 [(0, .ref (q0 0)), (1, .ref (q1 0)), (2, .int s2.1)] → W p l e (headSpec wsX0_dropTips rmX0_dropTips).room s m args below meth c H locs 0 0 (MQ below (va_Qi (fun r (_ : Unit) => r = out.1) (fun _ => poW (dC, dI) A (wX0 cI cZ cC q0 out.2.1 ++ wX4 cI cZ cC q1 out.2.2)) A) args s 0 0 A) (F0 m 42 ls []) := by
          intro g0_1 hf H locs ls hP hD hS hl
          unfold jX0_dropTips_1 at hf
          refine lv_iinc (v := (s2.1 + 1)) (lv' := [(2, .int (s2.1 + 1)), (0, .ref (q0 0)), (1, .ref (q1 0))]) hx hb dX0_dropTips_42 hl (k := 2) rfl rfl (by decide) rfl (fun ls hl => ?_)
          refine lv_goto (tgt := 2) hx hb dX0_dropTips_45 (by decide) ?_
          obtain rfl := Option.some.inj hf
          exact ih2 _ _ hn _ _ ls hP hD hS (lv_sub hl [1, 2, 0] rfl) kx
        refine lv_if_eq (tgt := 42) hx hb dX0_dropTips_32 (by decide) (fun hc => ?_) (fun hc => ?_)
        · have hf := ot hc hf
          exact hJ1 _ hf _ _ ls hP hD hS (lv_sub hl [1, 2, 3] rfl)
        · have hf := oe hc hf
          refine lv_aload_n hx hb dX0_dropTips_35 rfl (lv_at hl 1 rfl) ?_
          refine va_get (D := (dC, dI)) (ci := 0) (v := .ref (q0 1)) (C := RX0) (T := TX0) (N := 2) hx hb hts hin0 hown hK hP 0 rfl rfl 0 (by decide) hk1 (fun _ h9 => h9) rfl dX0_dropTips_36 ?_
          refine lv_iload_n hx hb dX0_dropTips_39 rfl (lv_at hl 0 rfl) ?_
          refine lv_iconst (v := 0) hx hb dX0_dropTips_40 (by decide) ?_
          obtain ⟨hin, hf⟩ := og hf
          refine va_zast hx hb hK hP hD hS 1 1 rfl rfl hin dX0_dropTips_41 (fun H locs hP hD hS => ?_)
          have hP : va_P (dC, dI) vwCl (wX0 cI cZ cC q0 ((upd (upd (pX0_falling s2.2) s2.1.toNatClampNeg (vp_nar .boolean o23)) o12.toNatClampNeg (vp_nar .boolean 0)), (pX0_newNumbers s2.2)) ++ wX4 cI cZ cC q1 g1) H := hP
          have hD : va_D A (wX0 cI cZ cC q0 ((upd (upd (pX0_falling s2.2) s2.1.toNatClampNeg (vp_nar .boolean o23)) o12.toNatClampNeg (vp_nar .boolean 0)), (pX0_newNumbers s2.2)) ++ wX4 cI cZ cC q1 g1) := hD
          exact hJ1 _ hf _ _ ls hP hD hS (lv_sub hl [1, 2, 3] rfl)
  obtain ⟨o2, ho2, hf⟩ := ob hf
  refine hL2 FU _ _ ho2 _ _ ls hP hD hS (lv_sub hl [1, 2, 0] rfl) (fun H locs ls hP hD hS hl => ?_)
  refine lv_aload_n hx hb dX0_dropTips_48 rfl (lv_at hl 1 rfl) ?_
  refine lv_aload_n hx hb dX0_dropTips_49 rfl (lv_at hl 0 rfl) ?_
  refine va_get (D := (dC, dI)) (ci := 0) (v := .ref (q0 1)) (C := RX0) (T := TX0) (N := 2) hx hb hts hin0 hown hK hP 0 rfl rfl 0 (by decide) hk1 (fun _ h9 => h9) rfl dX0_dropTips_50 ?_
  refine lv_aload_n hx hb dX0_dropTips_53 rfl (lv_at hl 0 rfl) ?_
  refine va_get (D := (dC, dI)) (ci := 0) (v := .ref (q0 2)) (C := RX0) (T := TX0) (N := 2) hx hb hts hin0 hown hK hP 0 rfl rfl 1 (by decide) hk2 (fun _ h9 => h9) rfl dX0_dropTips_54 ?_
  obtain ⟨o57, ho57, hf⟩ := ob hf
  refine wVi (W1 := (fun _ : Unit => (wX0 cI cZ cC q0 ((pX0_falling o2), o57.2.2) ++ wX4 cI cZ cC q1 o57.2.1))) (rest := []) (As := [.ref (q0 1), .ref (q0 2)]) ⟨hx, hb, hml, hown, hts⟩ (mX4_drop l dC dI cI cZ cC cO q1 (q0 1) (q0 2) _ _ _ _ _ _ _ ho57) (cwV 2 hts gX0_dropTips_X4_drop rfl rfl rfl (by decide +kernel) ⟨Nat.le_of_ble_eq_true rfl, Nat.le_of_ble_eq_true rfl⟩) hK hN hP hD hS hA [3, 4, 5, 6, 7, 8, 1, 2] [0] [0, 7, 8, 1, 2, 3, 4, 5, 6] rfl rfl (by decide) (by decide) (fun _ => rfl) 3 rfl rfl rfl rfl hl.1 rfl (Nat.le_of_ble_eq_true rfl) dX0_dropTips_57 ⟨Nat.zero_le _, Nat.zero_le _⟩ (fun _ H locs hP hD hS => ?_)
  have hP : va_P (dC, dI) vwCl (wX0 cI cZ cC q0 ((pX0_falling o2), o57.2.2) ++ wX4 cI cZ cC q1 o57.2.1) H := hP
  have hD : va_D A (wX0 cI cZ cC q0 ((pX0_falling o2), o57.2.2) ++ wX4 cI cZ cC q1 o57.2.1) := hD
  obtain rfl := Option.some.inj hf
  exact W.iret (v := o57.1) hx hb hr (fun t ht hW => ⟨⟨_, (), rfl, rfl, by rw [ht]; exact hP, hD⟩, hS.F ht⟩) hS.2.2 dX0_dropTips_60
