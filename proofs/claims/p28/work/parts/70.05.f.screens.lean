set_option maxHeartbeats 4000000 in
set_option maxRecDepth 100000 in
theorem mX3_firstMet (l : Launch) (dC : Nat → ClassId) (dI : Nat → Nat → Nat) (cI cZ cC cO : ClassId) (q0 : Nat → Nat) (a1 : Int32) (g0 : GX4) (out : Int32) (hf : fX3_firstMet a1 g0 = some out) : Met l yX3_firstMet wsX3_firstMet rmX3_firstMet (va_Pc [.ref (q0 0), .int a1] (pcR (dC, dI) (wTys cI cZ cC cO) (wX4 cI cZ cC q0 g0))) (vp_Si (fun r => r = out)) 0 0 (fun _ => False) := by
  refine Met.ofW (cc := cX3_firstMet) (maxL := 6) (ret := (some .int)) (by decide) rfl ?_
  intro p e s m args below meth c s₁ B hml hv
  obtain ⟨hargs, hP, hK, hN⟩ := hv
  have hx := B.exec
  have hb := B.bytes
  have hr := B.returns
  have hts := atoms_spec (ws := wsX3_firstMet) B.pre
  have hown : s.vm.findClass RX3 = some m.cls := findClass_of_methodNamed B.named
  have hlocks := B.notSynchronized
  have hE := lg_entry_eq m [.ref (q0 0), .int a1] 6
  rw [← hargs] at hE
  rw [hE]
  have hl := lv_entry [.ref (q0 0), .int a1] (n := 6) (Nat.le_of_ble_eq_true rfl)
  generalize (lg_sl [.ref (q0 0), .int a1] ++ List.replicate (6 - (lg_sl [.ref (q0 0), .int a1]).length) Slot.unset).toArray = ls at hl ⊢
  have hl : lv_has ls 6 [(0, .ref (q0 0)), (1, .int a1)] := hl
  unfold fX3_firstMet at hf
  refine lv_iload_n hx hb dX3_firstMet_0 rfl (lv_at hl 1 rfl) ?_
  obtain ⟨o1, ho1, hf⟩ := ob hf
  refine rS (rest := []) (As := [.int a1]) ⟨hx, hb, hml, hown, hts⟩ (mX2_cellOfRim l dC dI cI cZ cC cO  _ _ ho1) (va_cwS 1 hts gX3_firstMet_X2_cellOfRim rfl rfl rfl (by decide +kernel) ⟨Nat.le_of_ble_eq_true rfl, Nat.le_of_ble_eq_true rfl⟩) hK hN hP [] rfl rfl hl.1 rfl (Nat.le_of_ble_eq_true rfl) dX3_firstMet_1 ⟨Nat.zero_le _, Nat.zero_le _⟩ ?_
  refine lv_istore_n (lv' := [(2, .int o1), (0, .ref (q0 0)), (1, .int a1)]) hx hb dX3_firstMet_4 rfl hl (by decide) rfl (fun ls hl => ?_)
  refine lv_iload_n hx hb dX3_firstMet_5 rfl (lv_at hl 2 rfl) ?_
  obtain ⟨o6, ho6, hf⟩ := ob hf
  refine rS (rest := []) (As := [.int a1]) ⟨hx, hb, hml, hown, hts⟩ (mX2_directionInward l dC dI cI cZ cC cO  _ _ ho6) (va_cwS 1 hts gX3_firstMet_X2_directionInward rfl rfl rfl (by decide +kernel) ⟨Nat.le_of_ble_eq_true rfl, Nat.le_of_ble_eq_true rfl⟩) hK hN hP [] rfl rfl hl.1 rfl (Nat.le_of_ble_eq_true rfl) dX3_firstMet_6 ⟨Nat.zero_le _, Nat.zero_le _⟩ ?_
  refine lv_istore_n (lv' := [(3, .int o6), (2, .int o1), (0, .ref (q0 0)), (1, .int a1)]) hx hb dX3_firstMet_9 rfl hl (by decide) rfl (fun ls hl => ?_)
  refine lv_iconst (v := 0) hx hb dX3_firstMet_10 (by decide) ?_
  refine lv_istore (lv' := [(4, .int 0), (3, .int o6), (2, .int o1), (0, .ref (q0 0)), (1, .int a1)]) hx hb dX3_firstMet_11 hl (by decide) rfl (fun ls hl => ?_)
  have hL13 : ∀ (n : Nat) (s13 : Int32 × Int32), lp (tX3_firstMet_13 g0 o6) n s13 = some out → ∀ (ls : Array Slot), lv_has ls 6 [(0, .ref (q0 0)), (2, .int s13.1), (3, .int o6), (4, .int s13.2)] → W p l e (headSpec wsX3_firstMet rmX3_firstMet).room s m args below meth c s.heap [] 0 0 (MQ below (vp_Si (fun r => r = out)) args s 0 0 (fun _ => False)) (F0 m 13 ls []) := by
    intro n
    induction n with
    | zero => intro s13 hf; exact (lp0 hf).elim
    | succ n ih13 =>
      intro s13 hf ls hl
      obtain ⟨r13, hf, hn⟩ := lps hf
      unfold tX3_firstMet_13 at hf
      refine lv_iload hx hb dX3_firstMet_13 (lv_at hl 3 rfl) ?_
      refine lv_bipush (v := 11) hx hb dX3_firstMet_15 (by decide) ?_
      refine lv_icmp_ge (tgt := 49) hx hb dX3_firstMet_17 (by decide) (fun hc => ?_) (fun hc => ?_)
      · have hf := ot hc hf
        refine lv_bipush (v := (-4)) hx hb dX3_firstMet_49 (by decide) ?_
        obtain rfl := Option.some.inj hf
        obtain rfl := Option.some.inj hn
        exact W.iret (v := (-4)) hx hb hr (fun t ht hW => ⟨_, rfl, rfl, ht⟩) (fun _ h => by cases h) dX3_firstMet_51
      · have hf := oe hc hf
        refine lv_aload_n hx hb dX3_firstMet_20 rfl (lv_at hl 0 rfl) ?_
        refine lv_iload_n hx hb dX3_firstMet_21 rfl (lv_at hl 1 rfl) ?_
        obtain ⟨o22, ho22, hf⟩ := ob hf
        refine rV (rest := []) (As := [.int s13.1]) ⟨hx, hb, hml, hown, hts⟩ (mX4_grainAt l dC dI cI cZ cC cO q0 _ _ _ ho22) (cwV 1 hts gX3_firstMet_X4_grainAt rfl rfl rfl (by decide +kernel) ⟨Nat.le_of_ble_eq_true rfl, Nat.le_of_ble_eq_true rfl⟩) hK hN hP [0, 1, 2, 3, 4, 5] rfl 3 rfl rfl rfl rfl hl.1 rfl (Nat.le_of_ble_eq_true rfl) dX3_firstMet_22 ⟨Nat.zero_le _, Nat.zero_le _⟩ ?_
        refine lv_istore (lv' := [(5, .int o22), (0, .ref (q0 0)), (2, .int s13.1), (3, .int o6), (4, .int s13.2)]) hx hb dX3_firstMet_25 hl (by decide) rfl (fun ls hl => ?_)
        refine lv_iload hx hb dX3_firstMet_27 (lv_at hl 0 rfl) ?_
        refine lv_bipush (v := (-4)) hx hb dX3_firstMet_29 (by decide) ?_
        refine lv_icmp_eq (tgt := 37) hx hb dX3_firstMet_31 (by decide) (fun hc => ?_) (fun hc => ?_)
        · have hf := ot hc hf
          refine lv_iload_n hx hb dX3_firstMet_37 rfl (lv_at hl 2 rfl) ?_
          refine lv_iload_n hx hb dX3_firstMet_38 rfl (lv_at hl 3 rfl) ?_
          obtain ⟨o39, ho39, hf⟩ := ob hf
          refine rS (rest := []) (As := [.int s13.1, .int o6]) ⟨hx, hb, hml, hown, hts⟩ (mX2_neighbour l dC dI cI cZ cC cO  _ _ _ ho39) (va_cwS 2 hts gX3_firstMet_X2_neighbour rfl rfl rfl (by decide +kernel) ⟨Nat.le_of_ble_eq_true rfl, Nat.le_of_ble_eq_true rfl⟩) hK hN hP [] rfl rfl hl.1 rfl (Nat.le_of_ble_eq_true rfl) dX3_firstMet_39 ⟨Nat.zero_le _, Nat.zero_le _⟩ ?_
          refine lv_istore_n (lv' := [(2, .int o39), (5, .int o22), (0, .ref (q0 0)), (3, .int o6), (4, .int s13.2)]) hx hb dX3_firstMet_42 rfl hl (by decide) rfl (fun ls hl => ?_)
          refine lv_iinc (v := (s13.2 + 1)) (lv' := [(4, .int (s13.2 + 1)), (2, .int o39), (5, .int o22), (0, .ref (q0 0)), (3, .int o6)]) hx hb dX3_firstMet_43 hl (k := 4) rfl rfl (by decide) rfl (fun ls hl => ?_)
          refine lv_goto (tgt := 13) hx hb dX3_firstMet_46 (by decide) ?_
          obtain rfl := Option.some.inj hf
          exact ih13 _ hn ls (lv_sub hl [3, 1, 4, 0] rfl)
        · have hf := oe hc hf
          refine lv_iload hx hb dX3_firstMet_34 (lv_at hl 0 rfl) ?_
          obtain rfl := Option.some.inj hf
          obtain rfl := Option.some.inj hn
          exact W.iret (v := o22) hx hb hr (fun t ht hW => ⟨_, rfl, rfl, ht⟩) (fun _ h => by cases h) dX3_firstMet_36
  exact hL13 FU _ hf ls (lv_sub hl [3, 2, 1, 0] rfl)
set_option maxHeartbeats 4000000 in
set_option maxRecDepth 100000 in
theorem mX3_read (l : Launch) (dC : Nat → ClassId) (dI : Nat → Nat → Nat) (cI cZ cC cO : ClassId) (q0 : Nat → Nat) (q1 : Nat → Nat) (g0 : GX3) (g1 : GX4) (sz : Nat) (out : GX3) (hf : fX3_read g0 g1 = some out) : Met l yX3_read wsX3_read rmX3_read (va_Pc [.ref (q0 0), .ref (q1 0)] (pcW (dC, dI) (wTys cI cZ cC cO) sz (wX3 cI cZ cC q0 g0 ++ wX4 cI cZ cC q1 g1))) (va_Qv (fun (_ : Unit) => True) (fun _ => poW (dC, dI) (va_A (wX3 cI cZ cC q0 g0 ++ wX4 cI cZ cC q1 g1) sz) (wX3 cI cZ cC q0 out ++ wX4 cI cZ cC q1 g1)) (va_A (wX3 cI cZ cC q0 g0 ++ wX4 cI cZ cC q1 g1) sz)) 0 0 (va_A (wX3 cI cZ cC q0 g0 ++ wX4 cI cZ cC q1 g1) sz) := by
  refine Met.ofW (cc := cX3_read) (maxL := 4) (ret := none) (by decide) rfl ?_
  intro p e s m args below meth c s₁ B hml hv
  obtain ⟨hargs, hsz, hP, hK, hN, hD0⟩ := hv
  have hx := B.exec
  have hb := B.bytes
  have hr := B.returns
  have hts := atoms_spec (ws := wsX3_read) B.pre
  have hown : s.vm.findClass RX3 = some m.cls := findClass_of_methodNamed B.named
  have hlocks := B.notSynchronized
  have hk0 := hN.f (args := args) 0 rfl
  have hk1 := hts (.fieldLink RX3 15 "RimGrains$Screens" "grains" "I") (by decide +kernel)
  have hk2 := hts (.fieldLink RX3 19 "RimGrains$Screens" "open" "I") (by decide +kernel)
  have hk3 := hts (.fieldLink RX3 9 "RimGrains$Screens" "catches" "[I") (by decide +kernel)
  have hin4 : ∀ w ∈ wsX40, w ∈ wsX3_read := by decide +kernel
  have hin3 : ∀ w ∈ wsX30, w ∈ wsX3_read := by decide +kernel
  subst hsz
  have hD := hD0.self (sz := s.heap.size)
  generalize hAe : va_A (wX3 cI cZ cC q0 g0 ++ wX4 cI cZ cC q1 g1) s.heap.size = A at hD ⊢
  have hA : ∀ q : Nat, s.heap.size ≤ q → A q := fun q h => by rw [← hAe]; exact Or.inr h
  have hS : va_S A s.heap s.heap [] := va_S.rf
  have hE := lg_entry_eq m [.ref (q0 0), .ref (q1 0)] 4
  rw [← hargs] at hE
  rw [hE]
  have hl := lv_entry [.ref (q0 0), .ref (q1 0)] (n := 4) (Nat.le_of_ble_eq_true rfl)
  generalize (lg_sl [.ref (q0 0), .ref (q1 0)] ++ List.replicate (4 - (lg_sl [.ref (q0 0), .ref (q1 0)]).length) Slot.unset).toArray = ls at hl ⊢
  have hl : lv_has ls 4 [(0, .ref (q0 0)), (1, .ref (q1 0))] := hl
  have hP : va_P (dC, dI) vwCl (wX3 cI cZ cC q0 g0 ++ wX4 cI cZ cC q1 g1) s.heap := hP
  unfold fX3_read at hf
  refine lv_aload_n hx hb dX3_read_0 rfl (lv_at hl 0 rfl) ?_
  refine lv_aload_n hx hb dX3_read_1 rfl (lv_at hl 1 rfl) ?_
  refine va_getN (D := (dC, dI)) (ci := 3) (v := .int (pX4_grains g1)) (C := RX4) (T := TX4) (N := 11) hx hb hts hin4 hown hK hP 2 rfl rfl 5 (by decide) hk0 (fun _ h9 => h9) rfl dX3_read_2 ?_
  refine va_put (D := (dC, dI)) (ci := 2) (v := .int (pX4_grains g1)) (ty := .int) (C := RX3) (T := TX3) (N := 3) hx hb hts hin3 tyX3 tyX3_ok nmX3 hown hK hP hD hS 0 rfl rfl 1 (by decide) hk1 (fun _ h9 => h9) rfl (by decide +kernel) rfl rfl (Nat.le_of_ble_eq_true rfl) dX3_read_5 (fun H locs hP hD hS => ?_)
  have hP : va_P (dC, dI) vwCl (wX3 cI cZ cC q0 ((pX3_catches g0), (pX4_grains g1), (pX3_open g0)) ++ wX4 cI cZ cC q1 g1) H := hP
  have hD : va_D A (wX3 cI cZ cC q0 ((pX3_catches g0), (pX4_grains g1), (pX3_open g0)) ++ wX4 cI cZ cC q1 g1) := hD
  refine lv_aload_n hx hb dX3_read_8 rfl (lv_at hl 0 rfl) ?_
  refine lv_iconst (v := 0) hx hb dX3_read_9 (by decide) ?_
  refine va_put (D := (dC, dI)) (ci := 2) (v := .int 0) (ty := .int) (C := RX3) (T := TX3) (N := 3) hx hb hts hin3 tyX3 tyX3_ok nmX3 hown hK hP hD hS 0 rfl rfl 2 (by decide) hk2 (fun _ h9 => h9) rfl (by decide +kernel) rfl rfl (Nat.le_of_ble_eq_true rfl) dX3_read_10 (fun H locs hP hD hS => ?_)
  have hP : va_P (dC, dI) vwCl (wX3 cI cZ cC q0 ((pX3_catches g0), (pX4_grains g1), 0) ++ wX4 cI cZ cC q1 g1) H := hP
  have hD : va_D A (wX3 cI cZ cC q0 ((pX3_catches g0), (pX4_grains g1), 0) ++ wX4 cI cZ cC q1 g1) := hD
  refine lv_iconst (v := 0) hx hb dX3_read_13 (by decide) ?_
  refine lv_istore_n (lv' := [(2, .int 0), (0, .ref (q0 0)), (1, .ref (q1 0))]) hx hb dX3_read_14 rfl hl (by decide) rfl (fun ls hl => ?_)
  have hL15 : ∀ (n : Nat) (s15 : Int32 × GX3) (o15 : GX3), lp tX3_read_15 n s15 = some o15 → ∀ (H : Heap) (locs : List Loc) (ls : Array Slot), va_P (dC, dI) vwCl (wX3 cI cZ cC q0 s15.2 ++ wX4 cI cZ cC q1 g1) H → va_D A (wX3 cI cZ cC q0 s15.2 ++ wX4 cI cZ cC q1 g1) → va_S A s.heap H locs → lv_has ls 4 [(0, .ref (q0 0)), (1, .ref (q1 0)), (2, .int s15.1)] → (∀ (H : Heap) (locs : List Loc) (ls : Array Slot), va_P (dC, dI) vwCl (wX3 cI cZ cC q0 o15 ++ wX4 cI cZ cC q1 g1) H → va_D A (wX3 cI cZ cC q0 o15 ++ wX4 cI cZ cC q1 g1) → va_S A s.heap H locs → lv_has ls 4 [(0, .ref (q0 0)), (1, .ref (q1 0))] → W p l e (headSpec wsX3_read rmX3_read).room s m args below meth c H locs 0 0 (MQ below (va_Qv (fun (_ : Unit) => True) (fun _ => poW (dC, dI) A (wX3 cI cZ cC q0 out ++ wX4 cI cZ cC q1 g1)) A) args s 0 0 A) (F0 m 36 ls [])) → W p l e (headSpec wsX3_read rmX3_read).room s m args below meth c H locs 0 0 (MQ below (va_Qv (fun (_ : Unit) => True) (fun _ => poW (dC, dI) A (wX3 cI cZ cC q0 out ++ wX4 cI cZ cC q1 g1)) A) args s 0 0 A) (F0 m 15 ls []) := by
    intro n
    induction n with
    | zero => intro s15 o15 hf; exact (lp0 hf).elim
    | succ n ih15 =>
      intro s15 o15 hf H locs ls hP hD hS hl kx
      obtain ⟨r15, hf, hn⟩ := lps hf
      unfold tX3_read_15 at hf
      refine lv_iload_n hx hb dX3_read_15 rfl (lv_at hl 2 rfl) ?_
      refine lv_aload_n hx hb dX3_read_16 rfl (lv_at hl 0 rfl) ?_
      refine va_get (D := (dC, dI)) (ci := 2) (v := .int (pX3_grains s15.2)) (C := RX3) (T := TX3) (N := 3) hx hb hts hin3 hown hK hP 0 rfl rfl 1 (by decide) hk1 (fun _ h9 => h9) rfl dX3_read_17 ?_
      refine lv_icmp_ge (tgt := 36) hx hb dX3_read_20 (by decide) (fun hc => ?_) (fun hc => ?_)
      · have hf := ot hc hf
        obtain rfl := Option.some.inj hf
        obtain rfl := Option.some.inj hn
        exact kx _ _ ls hP hD hS (lv_sub hl [0, 1] rfl)
      · have hf := oe hc hf
        refine lv_aload_n hx hb dX3_read_23 rfl (lv_at hl 0 rfl) ?_
        refine va_get (D := (dC, dI)) (ci := 2) (v := .ref (q0 1)) (C := RX3) (T := TX3) (N := 3) hx hb hts hin3 hown hK hP 0 rfl rfl 0 (by decide) hk3 (fun _ h9 => h9) rfl dX3_read_24 ?_
        refine lv_iload_n hx hb dX3_read_27 rfl (lv_at hl 2 rfl) ?_
        refine lv_iconst (v := 0) hx hb dX3_read_28 (by decide) ?_
        obtain ⟨hin, hf⟩ := og hf
        refine va_iast hx hb hK hP hD hS 1 0 rfl rfl hin dX3_read_29 (fun H locs hP hD hS => ?_)
        have hP : va_P (dC, dI) vwCl (wX3 cI cZ cC q0 ((upd (pX3_catches s15.2) s15.1.toNatClampNeg 0), (pX3_grains s15.2), (pX3_open s15.2)) ++ wX4 cI cZ cC q1 g1) H := hP
        have hD : va_D A (wX3 cI cZ cC q0 ((upd (pX3_catches s15.2) s15.1.toNatClampNeg 0), (pX3_grains s15.2), (pX3_open s15.2)) ++ wX4 cI cZ cC q1 g1) := hD
        refine lv_iinc (v := (s15.1 + 1)) (lv' := [(2, .int (s15.1 + 1)), (0, .ref (q0 0)), (1, .ref (q1 0))]) hx hb dX3_read_30 hl (k := 2) rfl rfl (by decide) rfl (fun ls hl => ?_)
        refine lv_goto (tgt := 15) hx hb dX3_read_33 (by decide) ?_
        obtain rfl := Option.some.inj hf
        exact ih15 _ _ hn _ _ ls hP hD hS (lv_sub hl [1, 2, 0] rfl) kx
  obtain ⟨o15, ho15, hf⟩ := ob hf
  refine hL15 FU _ _ ho15 _ _ ls hP hD hS (lv_sub hl [1, 2, 0] rfl) (fun H locs ls hP hD hS hl => ?_)
  refine lv_iconst (v := 0) hx hb dX3_read_36 (by decide) ?_
  refine lv_istore_n (lv' := [(2, .int 0), (0, .ref (q0 0)), (1, .ref (q1 0))]) hx hb dX3_read_37 rfl hl (by decide) rfl (fun ls hl => ?_)
  have hL38 : ∀ (n : Nat) (s38 : Int32 × GX3) (o38 : GX3), lp (tX3_read_38 g1) n s38 = some o38 → ∀ (H : Heap) (locs : List Loc) (ls : Array Slot), va_P (dC, dI) vwCl (wX3 cI cZ cC q0 s38.2 ++ wX4 cI cZ cC q1 g1) H → va_D A (wX3 cI cZ cC q0 s38.2 ++ wX4 cI cZ cC q1 g1) → va_S A s.heap H locs → lv_has ls 4 [(0, .ref (q0 0)), (1, .ref (q1 0)), (2, .int s38.1)] → (∀ (H : Heap) (locs : List Loc) (ls : Array Slot), va_P (dC, dI) vwCl (wX3 cI cZ cC q0 o38 ++ wX4 cI cZ cC q1 g1) H → va_D A (wX3 cI cZ cC q0 o38 ++ wX4 cI cZ cC q1 g1) → va_S A s.heap H locs → lv_has ls 4 [] → W p l e (headSpec wsX3_read rmX3_read).room s m args below meth c H locs 0 0 (MQ below (va_Qv (fun (_ : Unit) => True) (fun _ => poW (dC, dI) A (wX3 cI cZ cC q0 out ++ wX4 cI cZ cC q1 g1)) A) args s 0 0 A) (F0 m 87 ls [])) → W p l e (headSpec wsX3_read rmX3_read).room s m args below meth c H locs 0 0 (MQ below (va_Qv (fun (_ : Unit) => True) (fun _ => poW (dC, dI) A (wX3 cI cZ cC q0 out ++ wX4 cI cZ cC q1 g1)) A) args s 0 0 A) (F0 m 38 ls []) := by
    intro n
    induction n with
    | zero => intro s38 o38 hf; exact (lp0 hf).elim
    | succ n ih38 =>
      intro s38 o38 hf H locs ls hP hD hS hl kx
      obtain ⟨r38, hf, hn⟩ := lps hf
      unfold tX3_read_38 at hf
      refine lv_iload_n hx hb dX3_read_38 rfl (lv_at hl 2 rfl) ?_
      refine lv_bipush (v := 40) hx hb dX3_read_39 (by decide) ?_
      refine lv_icmp_ge (tgt := 87) hx hb dX3_read_41 (by decide) (fun hc => ?_) (fun hc => ?_)
      · have hf := ot hc hf
        obtain rfl := Option.some.inj hf
        obtain rfl := Option.some.inj hn
        exact kx _ _ ls hP hD hS (lv_sub hl [] rfl)
      · have hf := oe hc hf
        refine lv_aload_n hx hb dX3_read_44 rfl (lv_at hl 1 rfl) ?_
        refine lv_iload_n hx hb dX3_read_45 rfl (lv_at hl 2 rfl) ?_
        obtain ⟨o46, ho46, hf⟩ := ob hf
        refine rS (rest := []) (As := [.ref (q1 0), .int s38.1]) ⟨hx, hb, hml, hown, hts⟩ (mX3_firstMet l dC dI cI cZ cC cO q1 _ _ _ ho46) (va_cwS 2 hts gX3_read_X3_firstMet rfl rfl rfl (by decide +kernel) ⟨Nat.le_of_ble_eq_true rfl, Nat.le_of_ble_eq_true rfl⟩) hK hN hP [2, 3, 4, 5, 6, 7] rfl rfl hl.1 rfl (Nat.le_of_ble_eq_true rfl) dX3_read_46 ⟨Nat.zero_le _, Nat.zero_le _⟩ ?_
        refine lv_istore_n (lv' := [(3, .int o46), (0, .ref (q0 0)), (1, .ref (q1 0)), (2, .int s38.1)]) hx hb dX3_read_49 rfl hl (by decide) rfl (fun ls hl => ?_)
        refine lv_aload_n hx hb dX3_read_50 rfl (lv_at hl 2 rfl) ?_
        refine lv_iload_n hx hb dX3_read_51 rfl (lv_at hl 0 rfl) ?_
        obtain ⟨o52, ho52, hf⟩ := ob hf
        refine rV (rest := []) (As := [.int o46]) ⟨hx, hb, hml, hown, hts⟩ (mX4_isGrain l dC dI cI cZ cC cO q1 _ _ _ ho52) (cwV 1 hts gX3_read_X4_isGrain rfl rfl rfl (by decide +kernel) ⟨Nat.le_of_ble_eq_true rfl, Nat.le_of_ble_eq_true rfl⟩) hK hN hP [2, 3, 4, 5, 6, 7] rfl 3 rfl rfl rfl rfl hl.1 rfl (Nat.le_of_ble_eq_true rfl) dX3_read_52 ⟨Nat.zero_le _, Nat.zero_le _⟩ ?_
        have hJ1 : ∀ (g0_1 : GX3), jX3_read_1 s38 g0_1 = some r38 → ∀ (H : Heap) (locs : List Loc) (ls : Array Slot), va_P (dC, dI) vwCl (wX3 cI cZ cC q0 g0_1 ++ wX4 cI cZ cC q1 g1) H → va_D A (wX3 cI cZ cC q0 g0_1 ++ wX4 cI cZ cC q1 g1) → va_S A s.heap H locs → lv_has ls 4 [(0, .ref (q0 0)), (1, .ref (q1 0)), (2, .int s38.1)] → W p l e (headSpec wsX3_read rmX3_read).room s m args below meth c H locs 0 0 (MQ below (va_Qv (fun (_ : Unit) => True) (fun _ => poW (dC, dI) A (wX3 cI cZ cC q0 out ++ wX4 cI cZ cC q1 g1)) A) args s 0 0 A) (F0 m 81 ls []) := by
          intro g0_1 hf H locs ls hP hD hS hl
          unfold jX3_read_1 at hf
          refine lv_iinc (v := (s38.1 + 1)) (lv' := [(2, .int (s38.1 + 1)), (0, .ref (q0 0)), (1, .ref (q1 0))]) hx hb dX3_read_81 hl (k := 2) rfl rfl (by decide) rfl (fun ls hl => ?_)
          refine lv_goto (tgt := 38) hx hb dX3_read_84 (by decide) ?_
          obtain rfl := Option.some.inj hf
          exact ih38 _ _ hn _ _ ls hP hD hS (lv_sub hl [1, 2, 0] rfl) kx
        refine lv_if_eq (tgt := 71) hx hb dX3_read_55 (by decide) (fun hc => ?_) (fun hc => ?_)
        · have hf := ot hc hf
          refine lv_aload_n hx hb dX3_read_71 rfl (lv_at hl 1 rfl) ?_
          refine lv_dup hx hb dX3_read_72 rfl ?_
          refine va_get (D := (dC, dI)) (ci := 2) (v := .int (pX3_open s38.2)) (C := RX3) (T := TX3) (N := 3) hx hb hts hin3 hown hK hP 0 rfl rfl 2 (by decide) hk2 (fun _ h9 => h9) rfl dX3_read_73 ?_
          refine lv_iconst (v := 1) hx hb dX3_read_76 (by decide) ?_
          refine lv_iadd hx hb dX3_read_77 ?_
          refine va_put (D := (dC, dI)) (ci := 2) (v := .int ((pX3_open s38.2) + 1)) (ty := .int) (C := RX3) (T := TX3) (N := 3) hx hb hts hin3 tyX3 tyX3_ok nmX3 hown hK hP hD hS 0 rfl rfl 2 (by decide) hk2 (fun _ h9 => h9) rfl (by decide +kernel) rfl rfl (Nat.le_of_ble_eq_true rfl) dX3_read_78 (fun H locs hP hD hS => ?_)
          have hP : va_P (dC, dI) vwCl (wX3 cI cZ cC q0 ((pX3_catches s38.2), (pX3_grains s38.2), ((pX3_open s38.2) + 1)) ++ wX4 cI cZ cC q1 g1) H := hP
          have hD : va_D A (wX3 cI cZ cC q0 ((pX3_catches s38.2), (pX3_grains s38.2), ((pX3_open s38.2) + 1)) ++ wX4 cI cZ cC q1 g1) := hD
          exact hJ1 _ hf _ _ ls hP hD hS (lv_sub hl [1, 2, 3] rfl)
        · have hf := oe hc hf
          refine lv_aload_n hx hb dX3_read_58 rfl (lv_at hl 1 rfl) ?_
          refine va_get (D := (dC, dI)) (ci := 2) (v := .ref (q0 1)) (C := RX3) (T := TX3) (N := 3) hx hb hts hin3 hown hK hP 0 rfl rfl 0 (by decide) hk3 (fun _ h9 => h9) rfl dX3_read_59 ?_
          refine lv_iload_n hx hb dX3_read_62 rfl (lv_at hl 0 rfl) ?_
          refine lv_dup2_11 hx hb dX3_read_63 rfl rfl ?_
          obtain ⟨hin, hf⟩ := og hf
          refine va_iald hx hb hK hP 1 0 rfl rfl hin dX3_read_64 ?_
          refine lv_iconst (v := 1) hx hb dX3_read_65 (by decide) ?_
          refine lv_iadd hx hb dX3_read_66 ?_
          obtain ⟨hin, hf⟩ := og hf
          refine va_iast hx hb hK hP hD hS 1 0 rfl rfl hin dX3_read_67 (fun H locs hP hD hS => ?_)
          have hP : va_P (dC, dI) vwCl (wX3 cI cZ cC q0 ((upd (pX3_catches s38.2) o46.toNatClampNeg (((pX3_catches s38.2) o46.toNatClampNeg) + 1)), (pX3_grains s38.2), (pX3_open s38.2)) ++ wX4 cI cZ cC q1 g1) H := hP
          have hD : va_D A (wX3 cI cZ cC q0 ((upd (pX3_catches s38.2) o46.toNatClampNeg (((pX3_catches s38.2) o46.toNatClampNeg) + 1)), (pX3_grains s38.2), (pX3_open s38.2)) ++ wX4 cI cZ cC q1 g1) := hD
          refine lv_goto (tgt := 81) hx hb dX3_read_68 (by decide) ?_
          exact hJ1 _ hf _ _ ls hP hD hS (lv_sub hl [1, 2, 3] rfl)
  obtain ⟨o38, ho38, hf⟩ := ob hf
  refine hL38 FU _ _ ho38 _ _ ls hP hD hS (lv_sub hl [1, 2, 0] rfl) (fun H locs ls hP hD hS hl => ?_)
  obtain rfl := Option.some.inj hf
  exact W.vret hx hb hr (fun t ht hW => ⟨⟨(), rfl, trivial, by rw [ht]; exact hP, hD⟩, hS.F ht⟩) hS.2.2 dX3_read_87
set_option maxHeartbeats 4000000 in
set_option maxRecDepth 100000 in
theorem mX3_bestGrain (l : Launch) (dC : Nat → ClassId) (dI : Nat → Nat → Nat) (cI cZ cC cO : ClassId) (q0 : Nat → Nat) (g0 : GX3) (out : Int32) (hf : fX3_bestGrain g0 = some out) : Met l yX3_bestGrain wsX3_bestGrain rmX3_bestGrain (va_Pc [.ref (q0 0)] (pcR (dC, dI) (wTys cI cZ cC cO) (wX3 cI cZ cC q0 g0))) (vp_Si (fun r => r = out)) 0 0 (fun _ => False) := by
  refine Met.ofW (cc := cX3_bestGrain) (maxL := 3) (ret := (some .int)) (by decide) rfl ?_
  intro p e s m args below meth c s₁ B hml hv
  obtain ⟨hargs, hP, hK, hN⟩ := hv
  have hx := B.exec
  have hb := B.bytes
  have hr := B.returns
  have hts := atoms_spec (ws := wsX3_bestGrain) B.pre
  have hown : s.vm.findClass RX3 = some m.cls := findClass_of_methodNamed B.named
  have hlocks := B.notSynchronized
  have hk0 := hts (.fieldLink RX3 15 "RimGrains$Screens" "grains" "I") (by decide +kernel)
  have hk1 := hts (.fieldLink RX3 9 "RimGrains$Screens" "catches" "[I") (by decide +kernel)
  have hin3 : ∀ w ∈ wsX30, w ∈ wsX3_bestGrain := by decide +kernel
  have hE := lg_entry_eq m [.ref (q0 0)] 3
  rw [← hargs] at hE
  rw [hE]
  have hl := lv_entry [.ref (q0 0)] (n := 3) (Nat.le_of_ble_eq_true rfl)
  generalize (lg_sl [.ref (q0 0)] ++ List.replicate (3 - (lg_sl [.ref (q0 0)]).length) Slot.unset).toArray = ls at hl ⊢
  have hl : lv_has ls 3 [(0, .ref (q0 0))] := hl
  unfold fX3_bestGrain at hf
  refine lv_iconst (v := 0) hx hb dX3_bestGrain_0 (by decide) ?_
  refine lv_istore_n (lv' := [(1, .int 0), (0, .ref (q0 0))]) hx hb dX3_bestGrain_1 rfl hl (by decide) rfl (fun ls hl => ?_)
  refine lv_iconst (v := 1) hx hb dX3_bestGrain_2 (by decide) ?_
  refine lv_istore_n (lv' := [(2, .int 1), (1, .int 0), (0, .ref (q0 0))]) hx hb dX3_bestGrain_3 rfl hl (by decide) rfl (fun ls hl => ?_)
  have hL4 : ∀ (n : Nat) (s4 : Int32 × Int32) (o4 : Int32), lp (tX3_bestGrain_4 g0) n s4 = some o4 → ∀ (ls : Array Slot), lv_has ls 3 [(0, .ref (q0 0)), (1, .int s4.1), (2, .int s4.2)] → (∀ (ls : Array Slot), lv_has ls 3 [(1, .int o4)] → W p l e (headSpec wsX3_bestGrain rmX3_bestGrain).room s m args below meth c s.heap [] 0 0 (MQ below (vp_Si (fun r => r = out)) args s 0 0 (fun _ => False)) (F0 m 35 ls [])) → W p l e (headSpec wsX3_bestGrain rmX3_bestGrain).room s m args below meth c s.heap [] 0 0 (MQ below (vp_Si (fun r => r = out)) args s 0 0 (fun _ => False)) (F0 m 4 ls []) := by
    intro n
    induction n with
    | zero => intro s4 o4 hf; exact (lp0 hf).elim
    | succ n ih4 =>
      intro s4 o4 hf ls hl kx
      obtain ⟨r4, hf, hn⟩ := lps hf
      unfold tX3_bestGrain_4 at hf
      refine lv_iload_n hx hb dX3_bestGrain_4 rfl (lv_at hl 2 rfl) ?_
      refine lv_aload_n hx hb dX3_bestGrain_5 rfl (lv_at hl 0 rfl) ?_
      refine va_get (D := (dC, dI)) (ci := 2) (v := .int (pX3_grains g0)) (C := RX3) (T := TX3) (N := 3) hx hb hts hin3 hown hK hP 0 rfl rfl 1 (by decide) hk0 (fun _ h9 => h9) rfl dX3_bestGrain_6 ?_
      refine lv_icmp_ge (tgt := 35) hx hb dX3_bestGrain_9 (by decide) (fun hc => ?_) (fun hc => ?_)
      · have hf := ot hc hf
        obtain rfl := Option.some.inj hf
        obtain rfl := Option.some.inj hn
        exact kx ls (lv_sub hl [1] rfl)
      · have hf := oe hc hf
        refine lv_aload_n hx hb dX3_bestGrain_12 rfl (lv_at hl 0 rfl) ?_
        refine va_get (D := (dC, dI)) (ci := 2) (v := .ref (q0 1)) (C := RX3) (T := TX3) (N := 3) hx hb hts hin3 hown hK hP 0 rfl rfl 0 (by decide) hk1 (fun _ h9 => h9) rfl dX3_bestGrain_13 ?_
        refine lv_iload_n hx hb dX3_bestGrain_16 rfl (lv_at hl 2 rfl) ?_
        obtain ⟨hin, hf⟩ := og hf
        refine va_iald hx hb hK hP 1 0 rfl rfl hin dX3_bestGrain_17 ?_
        refine lv_aload_n hx hb dX3_bestGrain_18 rfl (lv_at hl 0 rfl) ?_
        refine va_get (D := (dC, dI)) (ci := 2) (v := .ref (q0 1)) (C := RX3) (T := TX3) (N := 3) hx hb hts hin3 hown hK hP 0 rfl rfl 0 (by decide) hk1 (fun _ h9 => h9) rfl dX3_bestGrain_19 ?_
        refine lv_iload_n hx hb dX3_bestGrain_22 rfl (lv_at hl 1 rfl) ?_
        obtain ⟨hin, hf⟩ := og hf
        refine va_iald hx hb hK hP 1 0 rfl rfl hin dX3_bestGrain_23 ?_
        have hJ1 : ∀ (x1_1 : Int32), jX3_bestGrain_1 s4 x1_1 = some r4 → ∀ ls : Array Slot, lv_has ls 3 [(0, .ref (q0 0)), (1, .int x1_1), (2, .int s4.2)] → W p l e (headSpec wsX3_bestGrain rmX3_bestGrain).room s m args below meth c s.heap [] 0 0 (MQ below (vp_Si (fun r => r = out)) args s 0 0 (fun _ => False)) (F0 m 29 ls []) := by
          intro x1_1 hf ls hl
          unfold jX3_bestGrain_1 at hf
          refine lv_iinc (v := (s4.2 + 1)) (lv' := [(2, .int (s4.2 + 1)), (0, .ref (q0 0)), (1, .int x1_1)]) hx hb dX3_bestGrain_29 hl (k := 2) rfl rfl (by decide) rfl (fun ls hl => ?_)
          refine lv_goto (tgt := 4) hx hb dX3_bestGrain_32 (by decide) ?_
          obtain rfl := Option.some.inj hf
          exact ih4 _ _ hn ls (lv_sub hl [1, 2, 0] rfl) kx
        refine lv_icmp_le (tgt := 29) hx hb dX3_bestGrain_24 (by decide) (fun hc => ?_) (fun hc => ?_)
        · have hf := ot hc hf
          exact hJ1 _ hf ls (lv_sub hl [0, 1, 2] rfl)
        · have hf := oe hc hf
          refine lv_iload_n hx hb dX3_bestGrain_27 rfl (lv_at hl 2 rfl) ?_
          refine lv_istore_n (lv' := [(1, .int s4.2), (0, .ref (q0 0)), (2, .int s4.2)]) hx hb dX3_bestGrain_28 rfl hl (by decide) rfl (fun ls hl => ?_)
          exact hJ1 _ hf ls (lv_sub hl [1, 0, 2] rfl)
  obtain ⟨o4, ho4, hf⟩ := ob hf
  refine hL4 FU _ _ ho4 ls (lv_sub hl [2, 1, 0] rfl) (fun ls hl => ?_)
  refine lv_iload_n hx hb dX3_bestGrain_35 rfl (lv_at hl 0 rfl) ?_
  obtain rfl := Option.some.inj hf
  exact W.iret (v := o4) hx hb hr (fun t ht hW => ⟨_, rfl, rfl, ht⟩) (fun _ h => by cases h) dX3_bestGrain_36
