/-- RimGrainsModel.public int cell(int, int); -/
def fX8_cell (a1 : Int32) (a2 : Int32) (g0 : GX8) : Option (Int32) :=
  ((fX8_isCell a1).bind fun o1 => (if o1 = 0 then some (-1) else (if a2 = 0 then ((fX8_grainAt a1 g0).bind fun o42 => some o42) else (if a2 = 1 then ((fX8_ringOf a1).bind fun o47 => some o47) else (if a2 = 2 then ((fX8_besides a1 g0).bind fun o53 => some o53) else (if a2 = 3 then ((fX8_rimOf a1).bind fun o58 => some o58) else some (-1)))))))
abbrev rmX8_cell : Room := { frames := 3, cells := 0, slots := 0, locals := 69 }
set_option maxHeartbeats 4000000 in
set_option maxRecDepth 100000 in
theorem mX8_cell (l : Launch) (dC : Nat → ClassId) (dI : Nat → Nat → Nat) (cI cZ cC cO : ClassId) (q0 : Nat → Nat) (a1 : Int32) (a2 : Int32) (g0 : GX8) (out : Int32) (hf : fX8_cell a1 a2 g0 = some out) : Met l yX8_cell wsX8_cell rmX8_cell (va_Pc [.ref (q0 0), .int a1, .int a2] (pcR (dC, dI) (wTys cI cZ cC cO) (wX8 cI cZ cC q0 g0))) (vp_Si (fun r => r = out)) 0 0 (fun _ => False) := by
  refine Met.ofW (cc := cX8_cell) (maxL := 3) (ret := (some .int)) (by decide) rfl ?_
  intro p e s m args below meth c s₁ B hml hv
  obtain ⟨hargs, hP, hK, hN⟩ := hv
  have hx := B.exec
  have hb := B.bytes
  have hr := B.returns
  have hts := atoms_spec (ws := wsX8_cell) B.pre
  have hown : s.vm.findClass RX8 = some m.cls := findClass_of_methodNamed B.named
  have hlocks := B.notSynchronized
  have hE := lg_entry_eq m [.ref (q0 0), .int a1, .int a2] 3
  rw [← hargs] at hE
  rw [hE]
  have hl := lv_entry [.ref (q0 0), .int a1, .int a2] (n := 3) (Nat.le_of_ble_eq_true rfl)
  generalize (lg_sl [.ref (q0 0), .int a1, .int a2] ++ List.replicate (3 - (lg_sl [.ref (q0 0), .int a1, .int a2]).length) Slot.unset).toArray = ls at hl ⊢
  have hl : lv_has ls 3 [(0, .ref (q0 0)), (1, .int a1), (2, .int a2)] := hl
  unfold fX8_cell at hf
  refine lv_iload_n hx hb dX8_cell_0 rfl (lv_at hl 1 rfl) ?_
  obtain ⟨o1, ho1, hf⟩ := ob hf
  refine rS (rest := []) (As := [.int a1]) ⟨hx, hb, hml, hown, hts⟩ (mX8_isCell l dC dI cI cZ cC cO  _ _ ho1) (va_cwS 1 hts gX8_cell_X8_isCell rfl rfl rfl (by decide +kernel) ⟨Nat.le_of_ble_eq_true rfl, Nat.le_of_ble_eq_true rfl⟩) hK hN hP [] rfl rfl hl.1 rfl (Nat.le_of_ble_eq_true rfl) dX8_cell_1 ⟨Nat.zero_le _, Nat.zero_le _⟩ ?_
  refine lv_if_ne (tgt := 9) hx hb dX8_cell_4 (by decide) (fun hc => ?_) (fun hc => ?_)
  · have hf := oe hc hf
    refine lv_iload_n hx hb dX8_cell_9 rfl (lv_at hl 2 rfl) ?_
    by_cases hs10_0 : a2 = 0
    · have hf := ot hs10_0 hf
      refine lv_tableIn (off := 30) (tgt := 40) hx hb dX8_cell_10 (by rw [hs10_0]; decide) (by rw [hs10_0]; decide) (by rw [hs10_0]; rfl) (by decide) ?_
      refine lv_aload_n hx hb dX8_cell_40 rfl (lv_at hl 0 rfl) ?_
      refine lv_iload_n hx hb dX8_cell_41 rfl (lv_at hl 1 rfl) ?_
      obtain ⟨o42, ho42, hf⟩ := ob hf
      refine rV (rest := []) (As := [.int a1]) ⟨hx, hb, hml, hown, hts⟩ (mX8_grainAt l dC dI cI cZ cC cO q0 _ _ _ ho42) (cwV 1 hts gX8_cell_X8_grainAt rfl rfl rfl (by decide +kernel) ⟨Nat.le_of_ble_eq_true rfl, Nat.le_of_ble_eq_true rfl⟩) hK hN hP [0, 1, 2, 3, 4, 5, 6, 7, 8] rfl 7 rfl rfl rfl rfl hl.1 rfl (Nat.le_of_ble_eq_true rfl) dX8_cell_42 ⟨Nat.zero_le _, Nat.zero_le _⟩ ?_
      obtain rfl := Option.some.inj hf
      exact W.iret (v := o42) hx hb hr (fun t ht hW => ⟨_, rfl, rfl, ht⟩) (fun _ h => by cases h) dX8_cell_45
    have hf := oe hs10_0 hf
    by_cases hs10_1 : a2 = 1
    · have hf := ot hs10_1 hf
      refine lv_tableIn (off := 36) (tgt := 46) hx hb dX8_cell_10 (by rw [hs10_1]; decide) (by rw [hs10_1]; decide) (by rw [hs10_1]; rfl) (by decide) ?_
      refine lv_iload_n hx hb dX8_cell_46 rfl (lv_at hl 1 rfl) ?_
      obtain ⟨o47, ho47, hf⟩ := ob hf
      refine rS (rest := []) (As := [.int a1]) ⟨hx, hb, hml, hown, hts⟩ (mX8_ringOf l dC dI cI cZ cC cO  _ _ ho47) (va_cwS 1 hts gX8_cell_X8_ringOf rfl rfl rfl (by decide +kernel) ⟨Nat.le_of_ble_eq_true rfl, Nat.le_of_ble_eq_true rfl⟩) hK hN hP [] rfl rfl hl.1 rfl (Nat.le_of_ble_eq_true rfl) dX8_cell_47 ⟨Nat.zero_le _, Nat.zero_le _⟩ ?_
      obtain rfl := Option.some.inj hf
      exact W.iret (v := o47) hx hb hr (fun t ht hW => ⟨_, rfl, rfl, ht⟩) (fun _ h => by cases h) dX8_cell_50
    have hf := oe hs10_1 hf
    by_cases hs10_2 : a2 = 2
    · have hf := ot hs10_2 hf
      refine lv_tableIn (off := 41) (tgt := 51) hx hb dX8_cell_10 (by rw [hs10_2]; decide) (by rw [hs10_2]; decide) (by rw [hs10_2]; rfl) (by decide) ?_
      refine lv_aload_n hx hb dX8_cell_51 rfl (lv_at hl 0 rfl) ?_
      refine lv_iload_n hx hb dX8_cell_52 rfl (lv_at hl 1 rfl) ?_
      obtain ⟨o53, ho53, hf⟩ := ob hf
      refine rV (rest := []) (As := [.int a1]) ⟨hx, hb, hml, hown, hts⟩ (mX8_besides l dC dI cI cZ cC cO q0 _ _ _ ho53) (cwV 1 hts gX8_cell_X8_besides rfl rfl rfl (by decide +kernel) ⟨Nat.le_of_ble_eq_true rfl, Nat.le_of_ble_eq_true rfl⟩) hK hN hP [0, 1, 2, 3, 4, 5, 6, 7, 8] rfl 7 rfl rfl rfl rfl hl.1 rfl (Nat.le_of_ble_eq_true rfl) dX8_cell_53 ⟨Nat.zero_le _, Nat.zero_le _⟩ ?_
      obtain rfl := Option.some.inj hf
      exact W.iret (v := o53) hx hb hr (fun t ht hW => ⟨_, rfl, rfl, ht⟩) (fun _ h => by cases h) dX8_cell_56
    have hf := oe hs10_2 hf
    by_cases hs10_3 : a2 = 3
    · have hf := ot hs10_3 hf
      refine lv_tableIn (off := 47) (tgt := 57) hx hb dX8_cell_10 (by rw [hs10_3]; decide) (by rw [hs10_3]; decide) (by rw [hs10_3]; rfl) (by decide) ?_
      refine lv_iload_n hx hb dX8_cell_57 rfl (lv_at hl 1 rfl) ?_
      obtain ⟨o58, ho58, hf⟩ := ob hf
      refine rS (rest := []) (As := [.int a1]) ⟨hx, hb, hml, hown, hts⟩ (mX8_rimOf l dC dI cI cZ cC cO  _ _ ho58) (va_cwS 1 hts gX8_cell_X8_rimOf rfl rfl rfl (by decide +kernel) ⟨Nat.le_of_ble_eq_true rfl, Nat.le_of_ble_eq_true rfl⟩) hK hN hP [] rfl rfl hl.1 rfl (Nat.le_of_ble_eq_true rfl) dX8_cell_58 ⟨Nat.zero_le _, Nat.zero_le _⟩ ?_
      obtain rfl := Option.some.inj hf
      exact W.iret (v := o58) hx hb hr (fun t ht hW => ⟨_, rfl, rfl, ht⟩) (fun _ h => by cases h) dX8_cell_61
    have hf := oe hs10_3 hf
    have hs10_0T := lv_neT (a := 0) hs10_0 rfl
    have hs10_1T := lv_neT (a := 1) hs10_1 rfl
    have hs10_2T := lv_neT (a := 2) hs10_2 rfl
    have hs10_3T := lv_neT (a := 3) hs10_3 rfl
    refine lv_tableOut (tgt := 62) hx hb dX8_cell_10 (by omega) (by decide) ?_
    refine lv_iconst (v := (-1)) hx hb dX8_cell_62 (by decide) ?_
    obtain rfl := Option.some.inj hf
    exact W.iret (v := (-1)) hx hb hr (fun t ht hW => ⟨_, rfl, rfl, ht⟩) (fun _ h => by cases h) dX8_cell_63
  · have hf := ot hc hf
    refine lv_iconst (v := (-1)) hx hb dX8_cell_7 (by decide) ?_
    obtain rfl := Option.some.inj hf
    exact W.iret (v := (-1)) hx hb hr (fun t ht hW => ⟨_, rfl, rfl, ht⟩) (fun _ h => by cases h) dX8_cell_8
/-- RimGrainsModel.private int depthOf(int); -/
def tX8_depthOf_8 (g0 : GX8) (s8 : (Int32 × Int32)) : Option ((Int32 × Int32) ⊕ (Int32)) :=
  (if s8.2 < 0 then some (.inr s8.1) else ((fX8_holder s8.2 g0).bind fun o17 => some (.inl ((s8.1 + 1), o17))))
def fX8_depthOf (a1 : Int32) (g0 : GX8) : Option (Int32) :=
  ((fX8_holder a1 g0).bind fun o4 => ((lp (tX8_depthOf_8 g0) FU (0, o4)).bind fun o8 => some o8))
abbrev rmX8_depthOf : Room := { frames := 2, cells := 0, slots := 0, locals := 43 }
set_option maxHeartbeats 4000000 in
set_option maxRecDepth 100000 in
theorem mX8_depthOf (l : Launch) (dC : Nat → ClassId) (dI : Nat → Nat → Nat) (cI cZ cC cO : ClassId) (q0 : Nat → Nat) (a1 : Int32) (g0 : GX8) (out : Int32) (hf : fX8_depthOf a1 g0 = some out) : Met l yX8_depthOf wsX8_depthOf rmX8_depthOf (va_Pc [.ref (q0 0), .int a1] (pcR (dC, dI) (wTys cI cZ cC cO) (wX8 cI cZ cC q0 g0))) (vp_Si (fun r => r = out)) 0 0 (fun _ => False) := by
  refine Met.ofW (cc := cX8_depthOf) (maxL := 4) (ret := (some .int)) (by decide) rfl ?_
  intro p e s m args below meth c s₁ B hml hv
  obtain ⟨hargs, hP, hK, hN⟩ := hv
  have hx := B.exec
  have hb := B.bytes
  have hr := B.returns
  have hts := atoms_spec (ws := wsX8_depthOf) B.pre
  have hown : s.vm.findClass RX8 = some m.cls := findClass_of_methodNamed B.named
  have hlocks := B.notSynchronized
  have hE := lg_entry_eq m [.ref (q0 0), .int a1] 4
  rw [← hargs] at hE
  rw [hE]
  have hl := lv_entry [.ref (q0 0), .int a1] (n := 4) (Nat.le_of_ble_eq_true rfl)
  generalize (lg_sl [.ref (q0 0), .int a1] ++ List.replicate (4 - (lg_sl [.ref (q0 0), .int a1]).length) Slot.unset).toArray = ls at hl ⊢
  have hl : lv_has ls 4 [(0, .ref (q0 0)), (1, .int a1)] := hl
  unfold fX8_depthOf at hf
  refine lv_iconst (v := 0) hx hb dX8_depthOf_0 (by decide) ?_
  refine lv_istore_n (lv' := [(2, .int 0), (0, .ref (q0 0)), (1, .int a1)]) hx hb dX8_depthOf_1 rfl hl (by decide) rfl (fun ls hl => ?_)
  refine lv_aload_n hx hb dX8_depthOf_2 rfl (lv_at hl 1 rfl) ?_
  refine lv_iload_n hx hb dX8_depthOf_3 rfl (lv_at hl 2 rfl) ?_
  obtain ⟨o4, ho4, hf⟩ := ob hf
  refine rV (rest := []) (As := [.int a1]) ⟨hx, hb, hml, hown, hts⟩ (mX8_holder l dC dI cI cZ cC cO q0 _ _ _ ho4) (cwV 1 hts gX8_depthOf_X8_holder rfl rfl rfl (by decide +kernel) ⟨Nat.le_of_ble_eq_true rfl, Nat.le_of_ble_eq_true rfl⟩) hK hN hP [0, 1, 2, 3, 4, 5, 6, 7, 8] rfl 7 rfl rfl rfl rfl hl.1 rfl (Nat.le_of_ble_eq_true rfl) dX8_depthOf_4 ⟨Nat.zero_le _, Nat.zero_le _⟩ ?_
  refine lv_istore_n (lv' := [(3, .int o4), (2, .int 0), (0, .ref (q0 0)), (1, .int a1)]) hx hb dX8_depthOf_7 rfl hl (by decide) rfl (fun ls hl => ?_)
  have hL8 : ∀ (n : Nat) (s8 : Int32 × Int32) (o8 : Int32), lp (tX8_depthOf_8 g0) n s8 = some o8 → ∀ (ls : Array Slot), lv_has ls 4 [(0, .ref (q0 0)), (2, .int s8.1), (3, .int s8.2)] → (∀ (ls : Array Slot), lv_has ls 4 [(2, .int o8)] → W p l e (headSpec wsX8_depthOf rmX8_depthOf).room s m args below meth c s.heap [] 0 0 (MQ below (vp_Si (fun r => r = out)) args s 0 0 (fun _ => False)) (F0 m 24 ls [])) → W p l e (headSpec wsX8_depthOf rmX8_depthOf).room s m args below meth c s.heap [] 0 0 (MQ below (vp_Si (fun r => r = out)) args s 0 0 (fun _ => False)) (F0 m 8 ls []) := by
    intro n
    induction n with
    | zero => intro s8 o8 hf; exact (lp0 hf).elim
    | succ n ih8 =>
      intro s8 o8 hf ls hl kx
      obtain ⟨r8, hf, hn⟩ := lps hf
      unfold tX8_depthOf_8 at hf
      refine lv_iload_n hx hb dX8_depthOf_8 rfl (lv_at hl 2 rfl) ?_
      refine lv_if_lt (tgt := 24) hx hb dX8_depthOf_9 (by decide) (fun hc => ?_) (fun hc => ?_)
      · have hf := ot hc hf
        obtain rfl := Option.some.inj hf
        obtain rfl := Option.some.inj hn
        exact kx ls (lv_sub hl [1] rfl)
      · have hf := oe hc hf
        refine lv_iinc (v := (s8.1 + 1)) (lv' := [(2, .int (s8.1 + 1)), (0, .ref (q0 0)), (3, .int s8.2)]) hx hb dX8_depthOf_12 hl (k := 1) rfl rfl (by decide) rfl (fun ls hl => ?_)
        refine lv_aload_n hx hb dX8_depthOf_15 rfl (lv_at hl 1 rfl) ?_
        refine lv_iload_n hx hb dX8_depthOf_16 rfl (lv_at hl 2 rfl) ?_
        obtain ⟨o17, ho17, hf⟩ := ob hf
        refine rV (rest := []) (As := [.int s8.2]) ⟨hx, hb, hml, hown, hts⟩ (mX8_holder l dC dI cI cZ cC cO q0 _ _ _ ho17) (cwV 1 hts gX8_depthOf_X8_holder rfl rfl rfl (by decide +kernel) ⟨Nat.le_of_ble_eq_true rfl, Nat.le_of_ble_eq_true rfl⟩) hK hN hP [0, 1, 2, 3, 4, 5, 6, 7, 8] rfl 7 rfl rfl rfl rfl hl.1 rfl (Nat.le_of_ble_eq_true rfl) dX8_depthOf_17 ⟨Nat.zero_le _, Nat.zero_le _⟩ ?_
        refine lv_istore_n (lv' := [(3, .int o17), (2, .int (s8.1 + 1)), (0, .ref (q0 0))]) hx hb dX8_depthOf_20 rfl hl (by decide) rfl (fun ls hl => ?_)
        refine lv_goto (tgt := 8) hx hb dX8_depthOf_21 (by decide) ?_
        obtain rfl := Option.some.inj hf
        exact ih8 _ _ hn ls (lv_sub hl [2, 1, 0] rfl) kx
  obtain ⟨o8, ho8, hf⟩ := ob hf
  refine hL8 FU _ _ ho8 ls (lv_sub hl [2, 1, 0] rfl) (fun ls hl => ?_)
  refine lv_iload_n hx hb dX8_depthOf_24 rfl (lv_at hl 0 rfl) ?_
  obtain rfl := Option.some.inj hf
  exact W.iret (v := o8) hx hb hr (fun t ht hW => ⟨_, rfl, rfl, ht⟩) (fun _ h => by cases h) dX8_depthOf_25
/-- RimGrainsModel.private int rootOf(int); -/
def tX8_rootOf_2 (g0 : GX8) (s2 : (Int32)) : Option ((Int32) ⊕ (Int32)) :=
  ((fX8_holder s2 g0).bind fun o4 => (if o4 < 0 then some (.inr s2) else ((fX8_holder s2 g0).bind fun o12 => some (.inl o12))))
def fX8_rootOf (a1 : Int32) (g0 : GX8) : Option (Int32) :=
  ((lp (tX8_rootOf_2 g0) FU a1).bind fun o2 => some o2)
abbrev rmX8_rootOf : Room := { frames := 2, cells := 0, slots := 0, locals := 43 }
set_option maxHeartbeats 4000000 in
set_option maxRecDepth 100000 in
theorem mX8_rootOf (l : Launch) (dC : Nat → ClassId) (dI : Nat → Nat → Nat) (cI cZ cC cO : ClassId) (q0 : Nat → Nat) (a1 : Int32) (g0 : GX8) (out : Int32) (hf : fX8_rootOf a1 g0 = some out) : Met l yX8_rootOf wsX8_rootOf rmX8_rootOf (va_Pc [.ref (q0 0), .int a1] (pcR (dC, dI) (wTys cI cZ cC cO) (wX8 cI cZ cC q0 g0))) (vp_Si (fun r => r = out)) 0 0 (fun _ => False) := by
  refine Met.ofW (cc := cX8_rootOf) (maxL := 3) (ret := (some .int)) (by decide) rfl ?_
  intro p e s m args below meth c s₁ B hml hv
  obtain ⟨hargs, hP, hK, hN⟩ := hv
  have hx := B.exec
  have hb := B.bytes
  have hr := B.returns
  have hts := atoms_spec (ws := wsX8_rootOf) B.pre
  have hown : s.vm.findClass RX8 = some m.cls := findClass_of_methodNamed B.named
  have hlocks := B.notSynchronized
  have hE := lg_entry_eq m [.ref (q0 0), .int a1] 3
  rw [← hargs] at hE
  rw [hE]
  have hl := lv_entry [.ref (q0 0), .int a1] (n := 3) (Nat.le_of_ble_eq_true rfl)
  generalize (lg_sl [.ref (q0 0), .int a1] ++ List.replicate (3 - (lg_sl [.ref (q0 0), .int a1]).length) Slot.unset).toArray = ls at hl ⊢
  have hl : lv_has ls 3 [(0, .ref (q0 0)), (1, .int a1)] := hl
  unfold fX8_rootOf at hf
  refine lv_iload_n hx hb dX8_rootOf_0 rfl (lv_at hl 1 rfl) ?_
  refine lv_istore_n (lv' := [(2, .int a1), (0, .ref (q0 0)), (1, .int a1)]) hx hb dX8_rootOf_1 rfl hl (by decide) rfl (fun ls hl => ?_)
  have hL2 : ∀ (n : Nat) (s2 : Int32) (o2 : Int32), lp (tX8_rootOf_2 g0) n s2 = some o2 → ∀ (ls : Array Slot), lv_has ls 3 [(0, .ref (q0 0)), (2, .int s2)] → (∀ (ls : Array Slot), lv_has ls 3 [(2, .int o2)] → W p l e (headSpec wsX8_rootOf rmX8_rootOf).room s m args below meth c s.heap [] 0 0 (MQ below (vp_Si (fun r => r = out)) args s 0 0 (fun _ => False)) (F0 m 19 ls [])) → W p l e (headSpec wsX8_rootOf rmX8_rootOf).room s m args below meth c s.heap [] 0 0 (MQ below (vp_Si (fun r => r = out)) args s 0 0 (fun _ => False)) (F0 m 2 ls []) := by
    intro n
    induction n with
    | zero => intro s2 o2 hf; exact (lp0 hf).elim
    | succ n ih2 =>
      intro s2 o2 hf ls hl kx
      obtain ⟨r2, hf, hn⟩ := lps hf
      unfold tX8_rootOf_2 at hf
      refine lv_aload_n hx hb dX8_rootOf_2 rfl (lv_at hl 0 rfl) ?_
      refine lv_iload_n hx hb dX8_rootOf_3 rfl (lv_at hl 1 rfl) ?_
      obtain ⟨o4, ho4, hf⟩ := ob hf
      refine rV (rest := []) (As := [.int s2]) ⟨hx, hb, hml, hown, hts⟩ (mX8_holder l dC dI cI cZ cC cO q0 _ _ _ ho4) (cwV 1 hts gX8_rootOf_X8_holder rfl rfl rfl (by decide +kernel) ⟨Nat.le_of_ble_eq_true rfl, Nat.le_of_ble_eq_true rfl⟩) hK hN hP [0, 1, 2, 3, 4, 5, 6, 7, 8] rfl 7 rfl rfl rfl rfl hl.1 rfl (Nat.le_of_ble_eq_true rfl) dX8_rootOf_4 ⟨Nat.zero_le _, Nat.zero_le _⟩ ?_
      refine lv_if_lt (tgt := 19) hx hb dX8_rootOf_7 (by decide) (fun hc => ?_) (fun hc => ?_)
      · have hf := ot hc hf
        obtain rfl := Option.some.inj hf
        obtain rfl := Option.some.inj hn
        exact kx ls (lv_sub hl [1] rfl)
      · have hf := oe hc hf
        refine lv_aload_n hx hb dX8_rootOf_10 rfl (lv_at hl 0 rfl) ?_
        refine lv_iload_n hx hb dX8_rootOf_11 rfl (lv_at hl 1 rfl) ?_
        obtain ⟨o12, ho12, hf⟩ := ob hf
        refine rV (rest := []) (As := [.int s2]) ⟨hx, hb, hml, hown, hts⟩ (mX8_holder l dC dI cI cZ cC cO q0 _ _ _ ho12) (cwV 1 hts gX8_rootOf_X8_holder rfl rfl rfl (by decide +kernel) ⟨Nat.le_of_ble_eq_true rfl, Nat.le_of_ble_eq_true rfl⟩) hK hN hP [0, 1, 2, 3, 4, 5, 6, 7, 8] rfl 7 rfl rfl rfl rfl hl.1 rfl (Nat.le_of_ble_eq_true rfl) dX8_rootOf_12 ⟨Nat.zero_le _, Nat.zero_le _⟩ ?_
        refine lv_istore_n (lv' := [(2, .int o12), (0, .ref (q0 0))]) hx hb dX8_rootOf_15 rfl hl (by decide) rfl (fun ls hl => ?_)
        refine lv_goto (tgt := 2) hx hb dX8_rootOf_16 (by decide) ?_
        obtain rfl := Option.some.inj hf
        exact ih2 _ _ hn ls (lv_sub hl [1, 0] rfl) kx
  obtain ⟨o2, ho2, hf⟩ := ob hf
  refine hL2 FU _ _ ho2 ls (lv_sub hl [1, 0] rfl) (fun ls hl => ?_)
  refine lv_iload_n hx hb dX8_rootOf_19 rfl (lv_at hl 0 rfl) ?_
  obtain rfl := Option.some.inj hf
  exact W.iret (v := o2) hx hb hr (fun t ht hW => ⟨_, rfl, rfl, ht⟩) (fun _ h => by cases h) dX8_rootOf_20
/-- RimGrainsModel.private boolean isIn(int, int); -/
def tX8_isIn_2 (a2 : Int32) (g0 : GX8) (s2 : (Int32)) : Option ((Int32) ⊕ (Int32)) :=
  (if s2 ≤ a2 then some (.inr s2) else ((fX8_holder s2 g0).bind fun o9 => some (.inl o9)))
def fX8_isIn (a1 : Int32) (a2 : Int32) (g0 : GX8) : Option (Int32) :=
  ((lp (tX8_isIn_2 a2 g0) FU a1).bind fun o2 => (if o2 = a2 then some 1 else some 0))
abbrev rmX8_isIn : Room := { frames := 2, cells := 0, slots := 0, locals := 43 }
set_option maxHeartbeats 4000000 in
set_option maxRecDepth 100000 in
theorem mX8_isIn (l : Launch) (dC : Nat → ClassId) (dI : Nat → Nat → Nat) (cI cZ cC cO : ClassId) (q0 : Nat → Nat) (a1 : Int32) (a2 : Int32) (g0 : GX8) (out : Int32) (hf : fX8_isIn a1 a2 g0 = some out) : Met l yX8_isIn wsX8_isIn rmX8_isIn (va_Pc [.ref (q0 0), .int a1, .int a2] (pcR (dC, dI) (wTys cI cZ cC cO) (wX8 cI cZ cC q0 g0))) (vp_Si (fun r => r = out)) 0 0 (fun _ => False) := by
  refine Met.ofW (cc := cX8_isIn) (maxL := 4) (ret := (some .boolean)) (by decide) rfl ?_
  intro p e s m args below meth c s₁ B hml hv
  obtain ⟨hargs, hP, hK, hN⟩ := hv
  have hx := B.exec
  have hb := B.bytes
  have hr := B.returns
  have hts := atoms_spec (ws := wsX8_isIn) B.pre
  have hown : s.vm.findClass RX8 = some m.cls := findClass_of_methodNamed B.named
  have hlocks := B.notSynchronized
  have hE := lg_entry_eq m [.ref (q0 0), .int a1, .int a2] 4
  rw [← hargs] at hE
  rw [hE]
  have hl := lv_entry [.ref (q0 0), .int a1, .int a2] (n := 4) (Nat.le_of_ble_eq_true rfl)
  generalize (lg_sl [.ref (q0 0), .int a1, .int a2] ++ List.replicate (4 - (lg_sl [.ref (q0 0), .int a1, .int a2]).length) Slot.unset).toArray = ls at hl ⊢
  have hl : lv_has ls 4 [(0, .ref (q0 0)), (1, .int a1), (2, .int a2)] := hl
  unfold fX8_isIn at hf
  refine lv_iload_n hx hb dX8_isIn_0 rfl (lv_at hl 1 rfl) ?_
  refine lv_istore_n (lv' := [(3, .int a1), (0, .ref (q0 0)), (1, .int a1), (2, .int a2)]) hx hb dX8_isIn_1 rfl hl (by decide) rfl (fun ls hl => ?_)
  have hL2 : ∀ (n : Nat) (s2 : Int32) (o2 : Int32), lp (tX8_isIn_2 a2 g0) n s2 = some o2 → ∀ (ls : Array Slot), lv_has ls 4 [(0, .ref (q0 0)), (2, .int a2), (3, .int s2)] → (∀ (ls : Array Slot), lv_has ls 4 [(2, .int a2), (3, .int o2)] → W p l e (headSpec wsX8_isIn rmX8_isIn).room s m args below meth c s.heap [] 0 0 (MQ below (vp_Si (fun r => r = out)) args s 0 0 (fun _ => False)) (F0 m 16 ls [])) → W p l e (headSpec wsX8_isIn rmX8_isIn).room s m args below meth c s.heap [] 0 0 (MQ below (vp_Si (fun r => r = out)) args s 0 0 (fun _ => False)) (F0 m 2 ls []) := by
    intro n
    induction n with
    | zero => intro s2 o2 hf; exact (lp0 hf).elim
    | succ n ih2 =>
      intro s2 o2 hf ls hl kx
      obtain ⟨r2, hf, hn⟩ := lps hf
      unfold tX8_isIn_2 at hf
      refine lv_iload_n hx hb dX8_isIn_2 rfl (lv_at hl 2 rfl) ?_
      refine lv_iload_n hx hb dX8_isIn_3 rfl (lv_at hl 1 rfl) ?_
      refine lv_icmp_le (tgt := 16) hx hb dX8_isIn_4 (by decide) (fun hc => ?_) (fun hc => ?_)
      · have hf := ot hc hf
        obtain rfl := Option.some.inj hf
        obtain rfl := Option.some.inj hn
        exact kx ls (lv_sub hl [1, 2] rfl)
      · have hf := oe hc hf
        refine lv_aload_n hx hb dX8_isIn_7 rfl (lv_at hl 0 rfl) ?_
        refine lv_iload_n hx hb dX8_isIn_8 rfl (lv_at hl 2 rfl) ?_
        obtain ⟨o9, ho9, hf⟩ := ob hf
        refine rV (rest := []) (As := [.int s2]) ⟨hx, hb, hml, hown, hts⟩ (mX8_holder l dC dI cI cZ cC cO q0 _ _ _ ho9) (cwV 1 hts gX8_isIn_X8_holder rfl rfl rfl (by decide +kernel) ⟨Nat.le_of_ble_eq_true rfl, Nat.le_of_ble_eq_true rfl⟩) hK hN hP [0, 1, 2, 3, 4, 5, 6, 7, 8] rfl 7 rfl rfl rfl rfl hl.1 rfl (Nat.le_of_ble_eq_true rfl) dX8_isIn_9 ⟨Nat.zero_le _, Nat.zero_le _⟩ ?_
        refine lv_istore_n (lv' := [(3, .int o9), (0, .ref (q0 0)), (2, .int a2)]) hx hb dX8_isIn_12 rfl hl (by decide) rfl (fun ls hl => ?_)
        refine lv_goto (tgt := 2) hx hb dX8_isIn_13 (by decide) ?_
        obtain rfl := Option.some.inj hf
        exact ih2 _ _ hn ls (lv_sub hl [1, 2, 0] rfl) kx
  obtain ⟨o2, ho2, hf⟩ := ob hf
  refine hL2 FU _ _ ho2 ls (lv_sub hl [1, 3, 0] rfl) (fun ls hl => ?_)
  refine lv_iload_n hx hb dX8_isIn_16 rfl (lv_at hl 1 rfl) ?_
  refine lv_iload_n hx hb dX8_isIn_17 rfl (lv_at hl 0 rfl) ?_
  refine lv_icmp_ne (tgt := 25) hx hb dX8_isIn_18 (by decide) (fun hc => ?_) (fun hc => ?_)
  · have hf := oe hc hf
    refine lv_iconst (v := 0) hx hb dX8_isIn_25 (by decide) ?_
    obtain rfl := Option.some.inj hf
    exact W.zret (v := 0) (ty := .boolean) hx hb hr rfl (fun t ht hW => ⟨_, rfl, rfl, ht⟩) (fun _ h => by cases h) dX8_isIn_26
  · have hf := ot hc hf
    refine lv_iconst (v := 1) hx hb dX8_isIn_21 (by decide) ?_
    refine lv_goto (tgt := 26) hx hb dX8_isIn_22 (by decide) ?_
    obtain rfl := Option.some.inj hf
    exact W.zret (v := 1) (ty := .boolean) hx hb hr rfl (fun t ht hW => ⟨_, rfl, rfl, ht⟩) (fun _ h => by cases h) dX8_isIn_26
/-- RimGrainsModel.private int treeOf(int); -/
def jX8_treeOf_1 (s4 : (Int32 × Int32)) (y0_1 : Int32) : Option ((Int32 × Int32) ⊕ (Int32)) :=
  some (.inl ((s4.1 + y0_1), (s4.2 + 1)))
def tX8_treeOf_4 (a1 : Int32) (g0 : GX8) (s4 : (Int32 × Int32)) : Option ((Int32 × Int32) ⊕ (Int32)) :=
  (if ((pX8_s g0) (0 : Int32).toNatClampNeg) ≤ s4.2 then some (.inr s4.1) else ((fX8_isIn s4.2 a1 g0).bind fun o18 => (if o18 = 0 then jX8_treeOf_1 s4 0 else jX8_treeOf_1 s4 1)))
def fX8_treeOf (a1 : Int32) (g0 : GX8) : Option (Int32) :=
  ((lp (tX8_treeOf_4 a1 g0) FU (0, a1)).bind fun o4 => some o4)
abbrev rmX8_treeOf : Room := { frames := 3, cells := 0, slots := 0, locals := 66 }
set_option maxHeartbeats 4000000 in
set_option maxRecDepth 100000 in
theorem mX8_treeOf (l : Launch) (dC : Nat → ClassId) (dI : Nat → Nat → Nat) (cI cZ cC cO : ClassId) (q0 : Nat → Nat) (a1 : Int32) (g0 : GX8) (out : Int32) (hf : fX8_treeOf a1 g0 = some out) : Met l yX8_treeOf wsX8_treeOf rmX8_treeOf (va_Pc [.ref (q0 0), .int a1] (pcR (dC, dI) (wTys cI cZ cC cO) (wX8 cI cZ cC q0 g0))) (vp_Si (fun r => r = out)) 0 0 (fun _ => False) := by
  refine Met.ofW (cc := cX8_treeOf) (maxL := 4) (ret := (some .int)) (by decide) rfl ?_
  intro p e s m args below meth c s₁ B hml hv
  obtain ⟨hargs, hP, hK, hN⟩ := hv
  have hx := B.exec
  have hb := B.bytes
  have hr := B.returns
  have hts := atoms_spec (ws := wsX8_treeOf) B.pre
  have hown : s.vm.findClass RX8 = some m.cls := findClass_of_methodNamed B.named
  have hlocks := B.notSynchronized
  have hk0 := hts (.fieldLink RX8 7 "RimGrainsModel" "s" "[I") (by decide +kernel)
  have hin8 : ∀ w ∈ wsX80, w ∈ wsX8_treeOf := by decide +kernel
  have hE := lg_entry_eq m [.ref (q0 0), .int a1] 4
  rw [← hargs] at hE
  rw [hE]
  have hl := lv_entry [.ref (q0 0), .int a1] (n := 4) (Nat.le_of_ble_eq_true rfl)
  generalize (lg_sl [.ref (q0 0), .int a1] ++ List.replicate (4 - (lg_sl [.ref (q0 0), .int a1]).length) Slot.unset).toArray = ls at hl ⊢
  have hl : lv_has ls 4 [(0, .ref (q0 0)), (1, .int a1)] := hl
  unfold fX8_treeOf at hf
  refine lv_iconst (v := 0) hx hb dX8_treeOf_0 (by decide) ?_
  refine lv_istore_n (lv' := [(2, .int 0), (0, .ref (q0 0)), (1, .int a1)]) hx hb dX8_treeOf_1 rfl hl (by decide) rfl (fun ls hl => ?_)
  refine lv_iload_n hx hb dX8_treeOf_2 rfl (lv_at hl 2 rfl) ?_
  refine lv_istore_n (lv' := [(3, .int a1), (2, .int 0), (0, .ref (q0 0)), (1, .int a1)]) hx hb dX8_treeOf_3 rfl hl (by decide) rfl (fun ls hl => ?_)
  have hL4 : ∀ (n : Nat) (s4 : Int32 × Int32) (o4 : Int32), lp (tX8_treeOf_4 a1 g0) n s4 = some o4 → ∀ (ls : Array Slot), lv_has ls 4 [(0, .ref (q0 0)), (1, .int a1), (2, .int s4.1), (3, .int s4.2)] → (∀ (ls : Array Slot), lv_has ls 4 [(2, .int o4)] → W p l e (headSpec wsX8_treeOf rmX8_treeOf).room s m args below meth c s.heap [] 0 0 (MQ below (vp_Si (fun r => r = out)) args s 0 0 (fun _ => False)) (F0 m 37 ls [])) → W p l e (headSpec wsX8_treeOf rmX8_treeOf).room s m args below meth c s.heap [] 0 0 (MQ below (vp_Si (fun r => r = out)) args s 0 0 (fun _ => False)) (F0 m 4 ls []) := by
    intro n
    induction n with
    | zero => intro s4 o4 hf; exact (lp0 hf).elim
    | succ n ih4 =>
      intro s4 o4 hf ls hl kx
      obtain ⟨r4, hf, hn⟩ := lps hf
      unfold tX8_treeOf_4 at hf
      refine lv_iload_n hx hb dX8_treeOf_4 rfl (lv_at hl 3 rfl) ?_
      refine lv_aload_n hx hb dX8_treeOf_5 rfl (lv_at hl 0 rfl) ?_
      refine va_get (D := (dC, dI)) (ci := 7) (v := .ref (q0 1)) (C := RX8) (T := TX8) (N := 21) hx hb hts hin8 hown hK hP 0 rfl rfl 0 (by decide) hk0 (fun _ h9 => h9) rfl dX8_treeOf_6 ?_
      refine lv_iconst (v := 0) hx hb dX8_treeOf_9 (by decide) ?_
      have hin : vp_in (0 : Int32) 373 := by unfold vp_in; decide
      refine va_iald hx hb hK hP 1 0 rfl rfl hin dX8_treeOf_10 ?_
      refine lv_icmp_ge (tgt := 37) hx hb dX8_treeOf_11 (by decide) (fun hc => ?_) (fun hc => ?_)
      · have hf := ot hc hf
        obtain rfl := Option.some.inj hf
        obtain rfl := Option.some.inj hn
        exact kx ls (lv_sub hl [2] rfl)
      · have hf := oe hc hf
        refine lv_iload_n hx hb dX8_treeOf_14 rfl (lv_at hl 2 rfl) ?_
        refine lv_aload_n hx hb dX8_treeOf_15 rfl (lv_at hl 0 rfl) ?_
        refine lv_iload_n hx hb dX8_treeOf_16 rfl (lv_at hl 3 rfl) ?_
        refine lv_iload_n hx hb dX8_treeOf_17 rfl (lv_at hl 1 rfl) ?_
        obtain ⟨o18, ho18, hf⟩ := ob hf
        refine rV (rest := [.int s4.1]) (As := [.int s4.2, .int a1]) ⟨hx, hb, hml, hown, hts⟩ (mX8_isIn l dC dI cI cZ cC cO q0 _ _ _ _ ho18) (cwV 2 hts gX8_treeOf_X8_isIn rfl rfl rfl (by decide +kernel) ⟨Nat.le_of_ble_eq_true rfl, Nat.le_of_ble_eq_true rfl⟩) hK hN hP [0, 1, 2, 3, 4, 5, 6, 7, 8] rfl 7 rfl rfl rfl rfl hl.1 rfl (Nat.le_of_ble_eq_true rfl) dX8_treeOf_18 ⟨Nat.zero_le _, Nat.zero_le _⟩ ?_
        have hJ1 : ∀ (y0_1 : Int32), jX8_treeOf_1 s4 y0_1 = some r4 → ∀ ls : Array Slot, lv_has ls 4 [(0, .ref (q0 0)), (1, .int a1), (3, .int s4.2)] → W p l e (headSpec wsX8_treeOf rmX8_treeOf).room s m args below meth c s.heap [] 0 0 (MQ below (vp_Si (fun r => r = out)) args s 0 0 (fun _ => False)) (F0 m 29 ls [.int y0_1, .int s4.1]) := by
          intro y0_1 hf ls hl
          unfold jX8_treeOf_1 at hf
          refine lv_iadd hx hb dX8_treeOf_29 ?_
          refine lv_istore_n (lv' := [(2, .int (s4.1 + y0_1)), (0, .ref (q0 0)), (1, .int a1), (3, .int s4.2)]) hx hb dX8_treeOf_30 rfl hl (by decide) rfl (fun ls hl => ?_)
          refine lv_iinc (v := (s4.2 + 1)) (lv' := [(3, .int (s4.2 + 1)), (2, .int (s4.1 + y0_1)), (0, .ref (q0 0)), (1, .int a1)]) hx hb dX8_treeOf_31 hl (k := 3) rfl rfl (by decide) rfl (fun ls hl => ?_)
          refine lv_goto (tgt := 4) hx hb dX8_treeOf_34 (by decide) ?_
          obtain rfl := Option.some.inj hf
          exact ih4 _ _ hn ls (lv_sub hl [2, 3, 1, 0] rfl) kx
        refine lv_if_eq (tgt := 28) hx hb dX8_treeOf_21 (by decide) (fun hc => ?_) (fun hc => ?_)
        · have hf := ot hc hf
          refine lv_iconst (v := 0) hx hb dX8_treeOf_28 (by decide) ?_
          exact hJ1 _ hf ls (lv_sub hl [0, 1, 3] rfl)
        · have hf := oe hc hf
          refine lv_iconst (v := 1) hx hb dX8_treeOf_24 (by decide) ?_
          refine lv_goto (tgt := 29) hx hb dX8_treeOf_25 (by decide) ?_
          exact hJ1 _ hf ls (lv_sub hl [0, 1, 3] rfl)
  obtain ⟨o4, ho4, hf⟩ := ob hf
  refine hL4 FU _ _ ho4 ls (lv_sub hl [2, 3, 1, 0] rfl) (fun ls hl => ?_)
  refine lv_iload_n hx hb dX8_treeOf_37 rfl (lv_at hl 0 rfl) ?_
  obtain rfl := Option.some.inj hf
  exact W.iret (v := o4) hx hb hr (fun t ht hW => ⟨_, rfl, rfl, ht⟩) (fun _ h => by cases h) dX8_treeOf_38
/-- RimGrainsModel.private int highOf(int); -/
def jX8_highOf_2 (s4 : (Int32 × Int32)) (y0_2 : Int32) : Option ((Int32 × Int32) ⊕ (Int32)) :=
  some (.inl (y0_2, (s4.2 + 1)))
def jX8_highOf_1 (s4 : (Int32 × Int32)) (y0_1 : Int32) : Option ((Int32 × Int32) ⊕ (Int32)) :=
  (if y0_1 ≤ s4.1 then jX8_highOf_2 s4 s4.1 else jX8_highOf_2 s4 y0_1)
def tX8_highOf_4 (a1 : Int32) (g0 : GX8) (s4 : (Int32 × Int32)) : Option ((Int32 × Int32) ⊕ (Int32)) :=
  (if ((pX8_s g0) (0 : Int32).toNatClampNeg) ≤ s4.2 then some (.inr s4.1) else ((fX8_isIn s4.2 a1 g0).bind fun o17 => (if o17 = 0 then jX8_highOf_1 s4 0 else ((fX8_depthOf s4.2 g0).bind fun o25 => ((fX8_depthOf a1 g0).bind fun o30 => jX8_highOf_1 s4 (o25 - o30))))))
def fX8_highOf (a1 : Int32) (g0 : GX8) : Option (Int32) :=
  ((lp (tX8_highOf_4 a1 g0) FU (0, a1)).bind fun o4 => some o4)
abbrev rmX8_highOf : Room := { frames := 3, cells := 0, slots := 0, locals := 66 }
set_option maxHeartbeats 4000000 in
set_option maxRecDepth 100000 in
theorem mX8_highOf (l : Launch) (dC : Nat → ClassId) (dI : Nat → Nat → Nat) (cI cZ cC cO : ClassId) (q0 : Nat → Nat) (a1 : Int32) (g0 : GX8) (out : Int32) (hf : fX8_highOf a1 g0 = some out) : Met l yX8_highOf wsX8_highOf rmX8_highOf (va_Pc [.ref (q0 0), .int a1] (pcR (dC, dI) (wTys cI cZ cC cO) (wX8 cI cZ cC q0 g0))) (vp_Si (fun r => r = out)) 0 0 (fun _ => False) := by
  refine Met.ofW (cc := cX8_highOf) (maxL := 5) (ret := (some .int)) (by decide) rfl ?_
  intro p e s m args below meth c s₁ B hml hv
  obtain ⟨hargs, hP, hK, hN⟩ := hv
  have hx := B.exec
  have hb := B.bytes
  have hr := B.returns
  have hts := atoms_spec (ws := wsX8_highOf) B.pre
  have hown : s.vm.findClass RX8 = some m.cls := findClass_of_methodNamed B.named
  have hlocks := B.notSynchronized
  have hk0 := hts (.fieldLink RX8 7 "RimGrainsModel" "s" "[I") (by decide +kernel)
  have hin8 : ∀ w ∈ wsX80, w ∈ wsX8_highOf := by decide +kernel
  have hE := lg_entry_eq m [.ref (q0 0), .int a1] 5
  rw [← hargs] at hE
  rw [hE]
  have hl := lv_entry [.ref (q0 0), .int a1] (n := 5) (Nat.le_of_ble_eq_true rfl)
  generalize (lg_sl [.ref (q0 0), .int a1] ++ List.replicate (5 - (lg_sl [.ref (q0 0), .int a1]).length) Slot.unset).toArray = ls at hl ⊢
  have hl : lv_has ls 5 [(0, .ref (q0 0)), (1, .int a1)] := hl
  unfold fX8_highOf at hf
  refine lv_iconst (v := 0) hx hb dX8_highOf_0 (by decide) ?_
  refine lv_istore_n (lv' := [(2, .int 0), (0, .ref (q0 0)), (1, .int a1)]) hx hb dX8_highOf_1 rfl hl (by decide) rfl (fun ls hl => ?_)
  refine lv_iload_n hx hb dX8_highOf_2 rfl (lv_at hl 2 rfl) ?_
  refine lv_istore_n (lv' := [(3, .int a1), (2, .int 0), (0, .ref (q0 0)), (1, .int a1)]) hx hb dX8_highOf_3 rfl hl (by decide) rfl (fun ls hl => ?_)
  have hL4 : ∀ (n : Nat) (s4 : Int32 × Int32) (o4 : Int32), lp (tX8_highOf_4 a1 g0) n s4 = some o4 → ∀ (ls : Array Slot), lv_has ls 5 [(0, .ref (q0 0)), (1, .int a1), (2, .int s4.1), (3, .int s4.2)] → (∀ (ls : Array Slot), lv_has ls 5 [(2, .int o4)] → W p l e (headSpec wsX8_highOf rmX8_highOf).room s m args below meth c s.heap [] 0 0 (MQ below (vp_Si (fun r => r = out)) args s 0 0 (fun _ => False)) (F0 m 59 ls [])) → W p l e (headSpec wsX8_highOf rmX8_highOf).room s m args below meth c s.heap [] 0 0 (MQ below (vp_Si (fun r => r = out)) args s 0 0 (fun _ => False)) (F0 m 4 ls []) := by
    intro n
    induction n with
    | zero => intro s4 o4 hf; exact (lp0 hf).elim
    | succ n ih4 =>
      intro s4 o4 hf ls hl kx
      obtain ⟨r4, hf, hn⟩ := lps hf
      unfold tX8_highOf_4 at hf
      refine lv_iload_n hx hb dX8_highOf_4 rfl (lv_at hl 3 rfl) ?_
      refine lv_aload_n hx hb dX8_highOf_5 rfl (lv_at hl 0 rfl) ?_
      refine va_get (D := (dC, dI)) (ci := 7) (v := .ref (q0 1)) (C := RX8) (T := TX8) (N := 21) hx hb hts hin8 hown hK hP 0 rfl rfl 0 (by decide) hk0 (fun _ h9 => h9) rfl dX8_highOf_6 ?_
      refine lv_iconst (v := 0) hx hb dX8_highOf_9 (by decide) ?_
      have hin : vp_in (0 : Int32) 373 := by unfold vp_in; decide
      refine va_iald hx hb hK hP 1 0 rfl rfl hin dX8_highOf_10 ?_
      refine lv_icmp_ge (tgt := 59) hx hb dX8_highOf_11 (by decide) (fun hc => ?_) (fun hc => ?_)
      · have hf := ot hc hf
        obtain rfl := Option.some.inj hf
        obtain rfl := Option.some.inj hn
        exact kx ls (lv_sub hl [2] rfl)
      · have hf := oe hc hf
        refine lv_aload_n hx hb dX8_highOf_14 rfl (lv_at hl 0 rfl) ?_
        refine lv_iload_n hx hb dX8_highOf_15 rfl (lv_at hl 3 rfl) ?_
        refine lv_iload_n hx hb dX8_highOf_16 rfl (lv_at hl 1 rfl) ?_
        obtain ⟨o17, ho17, hf⟩ := ob hf
        refine rV (rest := []) (As := [.int s4.2, .int a1]) ⟨hx, hb, hml, hown, hts⟩ (mX8_isIn l dC dI cI cZ cC cO q0 _ _ _ _ ho17) (cwV 2 hts gX8_highOf_X8_isIn rfl rfl rfl (by decide +kernel) ⟨Nat.le_of_ble_eq_true rfl, Nat.le_of_ble_eq_true rfl⟩) hK hN hP [0, 1, 2, 3, 4, 5, 6, 7, 8] rfl 7 rfl rfl rfl rfl hl.1 rfl (Nat.le_of_ble_eq_true rfl) dX8_highOf_17 ⟨Nat.zero_le _, Nat.zero_le _⟩ ?_
        have hJ1 : ∀ (y0_1 : Int32), jX8_highOf_1 s4 y0_1 = some r4 → ∀ ls : Array Slot, lv_has ls 5 [(0, .ref (q0 0)), (1, .int a1), (2, .int s4.1), (3, .int s4.2)] → W p l e (headSpec wsX8_highOf rmX8_highOf).room s m args below meth c s.heap [] 0 0 (MQ below (vp_Si (fun r => r = out)) args s 0 0 (fun _ => False)) (F0 m 38 ls [.int y0_1]) := by
          intro y0_1 hf ls hl
          unfold jX8_highOf_1 at hf
          refine lv_istore (lv' := [(4, .int y0_1), (0, .ref (q0 0)), (1, .int a1), (2, .int s4.1), (3, .int s4.2)]) hx hb dX8_highOf_38 hl (by decide) rfl (fun ls hl => ?_)
          refine lv_iload hx hb dX8_highOf_40 (lv_at hl 0 rfl) ?_
          refine lv_iload_n hx hb dX8_highOf_42 rfl (lv_at hl 3 rfl) ?_
          have hJ2 : ∀ (y0_2 : Int32), jX8_highOf_2 s4 y0_2 = some r4 → ∀ ls : Array Slot, lv_has ls 5 [(0, .ref (q0 0)), (1, .int a1), (3, .int s4.2)] → W p l e (headSpec wsX8_highOf rmX8_highOf).room s m args below meth c s.heap [] 0 0 (MQ below (vp_Si (fun r => r = out)) args s 0 0 (fun _ => False)) (F0 m 52 ls [.int y0_2]) := by
            intro y0_2 hf ls hl
            unfold jX8_highOf_2 at hf
            refine lv_istore_n (lv' := [(2, .int y0_2), (0, .ref (q0 0)), (1, .int a1), (3, .int s4.2)]) hx hb dX8_highOf_52 rfl hl (by decide) rfl (fun ls hl => ?_)
            refine lv_iinc (v := (s4.2 + 1)) (lv' := [(3, .int (s4.2 + 1)), (2, .int y0_2), (0, .ref (q0 0)), (1, .int a1)]) hx hb dX8_highOf_53 hl (k := 3) rfl rfl (by decide) rfl (fun ls hl => ?_)
            refine lv_goto (tgt := 4) hx hb dX8_highOf_56 (by decide) ?_
            obtain rfl := Option.some.inj hf
            exact ih4 _ _ hn ls (lv_sub hl [2, 3, 1, 0] rfl) kx
          refine lv_icmp_le (tgt := 51) hx hb dX8_highOf_43 (by decide) (fun hc => ?_) (fun hc => ?_)
          · have hf := ot hc hf
            refine lv_iload_n hx hb dX8_highOf_51 rfl (lv_at hl 3 rfl) ?_
            exact hJ2 _ hf ls (lv_sub hl [1, 2, 4] rfl)
          · have hf := oe hc hf
            refine lv_iload hx hb dX8_highOf_46 (lv_at hl 0 rfl) ?_
            refine lv_goto (tgt := 52) hx hb dX8_highOf_48 (by decide) ?_
            exact hJ2 _ hf ls (lv_sub hl [1, 2, 4] rfl)
        refine lv_if_eq (tgt := 37) hx hb dX8_highOf_20 (by decide) (fun hc => ?_) (fun hc => ?_)
        · have hf := ot hc hf
          refine lv_iconst (v := 0) hx hb dX8_highOf_37 (by decide) ?_
          exact hJ1 _ hf ls (lv_sub hl [0, 1, 2, 3] rfl)
        · have hf := oe hc hf
          refine lv_aload_n hx hb dX8_highOf_23 rfl (lv_at hl 0 rfl) ?_
          refine lv_iload_n hx hb dX8_highOf_24 rfl (lv_at hl 3 rfl) ?_
          obtain ⟨o25, ho25, hf⟩ := ob hf
          refine rV (rest := []) (As := [.int s4.2]) ⟨hx, hb, hml, hown, hts⟩ (mX8_depthOf l dC dI cI cZ cC cO q0 _ _ _ ho25) (cwV 1 hts gX8_highOf_X8_depthOf rfl rfl rfl (by decide +kernel) ⟨Nat.le_of_ble_eq_true rfl, Nat.le_of_ble_eq_true rfl⟩) hK hN hP [0, 1, 2, 3, 4, 5, 6, 7, 8] rfl 7 rfl rfl rfl rfl hl.1 rfl (Nat.le_of_ble_eq_true rfl) dX8_highOf_25 ⟨Nat.zero_le _, Nat.zero_le _⟩ ?_
          refine lv_aload_n hx hb dX8_highOf_28 rfl (lv_at hl 0 rfl) ?_
          refine lv_iload_n hx hb dX8_highOf_29 rfl (lv_at hl 1 rfl) ?_
          obtain ⟨o30, ho30, hf⟩ := ob hf
          refine rV (rest := [.int o25]) (As := [.int a1]) ⟨hx, hb, hml, hown, hts⟩ (mX8_depthOf l dC dI cI cZ cC cO q0 _ _ _ ho30) (cwV 1 hts gX8_highOf_X8_depthOf rfl rfl rfl (by decide +kernel) ⟨Nat.le_of_ble_eq_true rfl, Nat.le_of_ble_eq_true rfl⟩) hK hN hP [0, 1, 2, 3, 4, 5, 6, 7, 8] rfl 7 rfl rfl rfl rfl hl.1 rfl (Nat.le_of_ble_eq_true rfl) dX8_highOf_30 ⟨Nat.zero_le _, Nat.zero_le _⟩ ?_
          refine lv_isub hx hb dX8_highOf_33 ?_
          refine lv_goto (tgt := 38) hx hb dX8_highOf_34 (by decide) ?_
          exact hJ1 _ hf ls (lv_sub hl [0, 1, 2, 3] rfl)
  obtain ⟨o4, ho4, hf⟩ := ob hf
  refine hL4 FU _ _ ho4 ls (lv_sub hl [2, 3, 1, 0] rfl) (fun ls hl => ?_)
  refine lv_iload_n hx hb dX8_highOf_59 rfl (lv_at hl 0 rfl) ?_
  obtain rfl := Option.some.inj hf
  exact W.iret (v := o4) hx hb hr (fun t ht hW => ⟨_, rfl, rfl, ht⟩) (fun _ h => by cases h) dX8_highOf_60
/-- RimGrainsModel.private static int lookingFrom(int); -/
def fX8_lookingFrom (a0 : Int32) : Option (Int32) :=
  (if 11 ≤ a0 then (if 20 ≤ a0 then (if 31 ≤ a0 then some 1 else some 0) else some 3) else some 2)
abbrev rmX8_lookingFrom : Room := { frames := 0, cells := 0, slots := 0, locals := 0 }
set_option maxHeartbeats 4000000 in
set_option maxRecDepth 100000 in
theorem mX8_lookingFrom (l : Launch) (dC : Nat → ClassId) (dI : Nat → Nat → Nat) (cI cZ cC cO : ClassId) (a0 : Int32) (out : Int32) (hf : fX8_lookingFrom a0 = some out) : Met l yX8_lookingFrom wsX8_lookingFrom rmX8_lookingFrom (va_Pc [.int a0] (pcR (dC, dI) (wTys cI cZ cC cO) ([] : va_W))) (vp_Si (fun r => r = out)) 0 0 (fun _ => False) := by
  refine Met.ofW (cc := cX8_lookingFrom) (maxL := 1) (ret := (some .int)) (by decide) rfl ?_
  intro p e s m args below meth c s₁ B hml hv
  obtain ⟨hargs, hP, hK, hN⟩ := hv
  have hx := B.exec
  have hb := B.bytes
  have hr := B.returns
  have hts := atoms_spec (ws := wsX8_lookingFrom) B.pre
  have hown : s.vm.findClass RX8 = some m.cls := findClass_of_methodNamed B.named
  have hlocks := B.notSynchronized
  have hE := lg_entry_eq m [.int a0] 1
  rw [← hargs] at hE
  rw [hE]
  have hl := lv_entry [.int a0] (n := 1) (Nat.le_of_ble_eq_true rfl)
  generalize (lg_sl [.int a0] ++ List.replicate (1 - (lg_sl [.int a0]).length) Slot.unset).toArray = ls at hl ⊢
  have hl : lv_has ls 1 [(0, .int a0)] := hl
  unfold fX8_lookingFrom at hf
  refine lv_iload_n hx hb dX8_lookingFrom_0 rfl (lv_at hl 0 rfl) ?_
  refine lv_bipush (v := 11) hx hb dX8_lookingFrom_1 (by decide) ?_
  refine lv_icmp_ge (tgt := 10) hx hb dX8_lookingFrom_3 (by decide) (fun hc => ?_) (fun hc => ?_)
  · have hf := ot hc hf
    refine lv_iload_n hx hb dX8_lookingFrom_10 rfl (lv_at hl 0 rfl) ?_
    refine lv_bipush (v := 20) hx hb dX8_lookingFrom_11 (by decide) ?_
    refine lv_icmp_ge (tgt := 20) hx hb dX8_lookingFrom_13 (by decide) (fun hc => ?_) (fun hc => ?_)
    · have hf := ot hc hf
      refine lv_iload_n hx hb dX8_lookingFrom_20 rfl (lv_at hl 0 rfl) ?_
      refine lv_bipush (v := 31) hx hb dX8_lookingFrom_21 (by decide) ?_
      refine lv_icmp_ge (tgt := 30) hx hb dX8_lookingFrom_23 (by decide) (fun hc => ?_) (fun hc => ?_)
      · have hf := ot hc hf
        refine lv_iconst (v := 1) hx hb dX8_lookingFrom_30 (by decide) ?_
        obtain rfl := Option.some.inj hf
        exact W.iret (v := 1) hx hb hr (fun t ht hW => ⟨_, rfl, rfl, ht⟩) (fun _ h => by cases h) dX8_lookingFrom_31
      · have hf := oe hc hf
        refine lv_iconst (v := 0) hx hb dX8_lookingFrom_26 (by decide) ?_
        refine lv_goto (tgt := 31) hx hb dX8_lookingFrom_27 (by decide) ?_
        obtain rfl := Option.some.inj hf
        exact W.iret (v := 0) hx hb hr (fun t ht hW => ⟨_, rfl, rfl, ht⟩) (fun _ h => by cases h) dX8_lookingFrom_31
    · have hf := oe hc hf
      refine lv_iconst (v := 3) hx hb dX8_lookingFrom_16 (by decide) ?_
      refine lv_goto (tgt := 31) hx hb dX8_lookingFrom_17 (by decide) ?_
      obtain rfl := Option.some.inj hf
      exact W.iret (v := 3) hx hb hr (fun t ht hW => ⟨_, rfl, rfl, ht⟩) (fun _ h => by cases h) dX8_lookingFrom_31
  · have hf := oe hc hf
    refine lv_iconst (v := 2) hx hb dX8_lookingFrom_6 (by decide) ?_
    refine lv_goto (tgt := 31) hx hb dX8_lookingFrom_7 (by decide) ?_
    obtain rfl := Option.some.inj hf
    exact W.iret (v := 2) hx hb hr (fun t ht hW => ⟨_, rfl, rfl, ht⟩) (fun _ h => by cases h) dX8_lookingFrom_31
/-- RimGrainsModel.private int screening(int); -/
def tX8_screening_5 (a1 : Int32) (g0 : GX8) (s5 : (Int32)) : Option ((Int32) ⊕ (Int32)) :=
  (if s5 < 0 then some (.inr s5) else ((fX8_grainAt s5 g0).bind fun o11 => (if 0 ≤ o11 then some (.inr s5) else ((fX8_lookingFrom a1).bind fun o19 => ((fX8_beside s5 o19).bind fun o22 => some (.inl o22))))))
def fX8_screening (a1 : Int32) (g0 : GX8) : Option (Int32) :=
  ((fX8_rimCell a1).bind fun o1 => ((lp (tX8_screening_5 a1 g0) FU o1).bind fun o5 => (if 0 ≤ o5 then ((fX8_grainAt o5 g0).bind fun o40 => some o40) else some (-4))))
abbrev rmX8_screening : Room := { frames := 2, cells := 0, slots := 0, locals := 45 }
set_option maxHeartbeats 4000000 in
set_option maxRecDepth 100000 in
theorem mX8_screening (l : Launch) (dC : Nat → ClassId) (dI : Nat → Nat → Nat) (cI cZ cC cO : ClassId) (q0 : Nat → Nat) (a1 : Int32) (g0 : GX8) (out : Int32) (hf : fX8_screening a1 g0 = some out) : Met l yX8_screening wsX8_screening rmX8_screening (va_Pc [.ref (q0 0), .int a1] (pcR (dC, dI) (wTys cI cZ cC cO) (wX8 cI cZ cC q0 g0))) (vp_Si (fun r => r = out)) 0 0 (fun _ => False) := by
  refine Met.ofW (cc := cX8_screening) (maxL := 3) (ret := (some .int)) (by decide) rfl ?_
  intro p e s m args below meth c s₁ B hml hv
  obtain ⟨hargs, hP, hK, hN⟩ := hv
  have hx := B.exec
  have hb := B.bytes
  have hr := B.returns
  have hts := atoms_spec (ws := wsX8_screening) B.pre
  have hown : s.vm.findClass RX8 = some m.cls := findClass_of_methodNamed B.named
  have hlocks := B.notSynchronized
  have hE := lg_entry_eq m [.ref (q0 0), .int a1] 3
  rw [← hargs] at hE
  rw [hE]
  have hl := lv_entry [.ref (q0 0), .int a1] (n := 3) (Nat.le_of_ble_eq_true rfl)
  generalize (lg_sl [.ref (q0 0), .int a1] ++ List.replicate (3 - (lg_sl [.ref (q0 0), .int a1]).length) Slot.unset).toArray = ls at hl ⊢
  have hl : lv_has ls 3 [(0, .ref (q0 0)), (1, .int a1)] := hl
  unfold fX8_screening at hf
  refine lv_iload_n hx hb dX8_screening_0 rfl (lv_at hl 1 rfl) ?_
  obtain ⟨o1, ho1, hf⟩ := ob hf
  refine rS (rest := []) (As := [.int a1]) ⟨hx, hb, hml, hown, hts⟩ (mX8_rimCell l dC dI cI cZ cC cO  _ _ ho1) (va_cwS 1 hts gX8_screening_X8_rimCell rfl rfl rfl (by decide +kernel) ⟨Nat.le_of_ble_eq_true rfl, Nat.le_of_ble_eq_true rfl⟩) hK hN hP [] rfl rfl hl.1 rfl (Nat.le_of_ble_eq_true rfl) dX8_screening_1 ⟨Nat.zero_le _, Nat.zero_le _⟩ ?_
  refine lv_istore_n (lv' := [(2, .int o1), (0, .ref (q0 0)), (1, .int a1)]) hx hb dX8_screening_4 rfl hl (by decide) rfl (fun ls hl => ?_)
  have hL5 : ∀ (n : Nat) (s5 : Int32) (o5 : Int32), lp (tX8_screening_5 a1 g0) n s5 = some o5 → ∀ (ls : Array Slot), lv_has ls 3 [(0, .ref (q0 0)), (1, .int a1), (2, .int s5)] → (∀ (ls : Array Slot), lv_has ls 3 [(0, .ref (q0 0)), (2, .int o5)] → W p l e (headSpec wsX8_screening rmX8_screening).room s m args below meth c s.heap [] 0 0 (MQ below (vp_Si (fun r => r = out)) args s 0 0 (fun _ => False)) (F0 m 29 ls [])) → W p l e (headSpec wsX8_screening rmX8_screening).room s m args below meth c s.heap [] 0 0 (MQ below (vp_Si (fun r => r = out)) args s 0 0 (fun _ => False)) (F0 m 5 ls []) := by
    intro n
    induction n with
    | zero => intro s5 o5 hf; exact (lp0 hf).elim
    | succ n ih5 =>
      intro s5 o5 hf ls hl kx
      obtain ⟨r5, hf, hn⟩ := lps hf
      unfold tX8_screening_5 at hf
      refine lv_iload_n hx hb dX8_screening_5 rfl (lv_at hl 2 rfl) ?_
      refine lv_if_lt (tgt := 29) hx hb dX8_screening_6 (by decide) (fun hc => ?_) (fun hc => ?_)
      · have hf := ot hc hf
        obtain rfl := Option.some.inj hf
        obtain rfl := Option.some.inj hn
        exact kx ls (lv_sub hl [0, 2] rfl)
      · have hf := oe hc hf
        refine lv_aload_n hx hb dX8_screening_9 rfl (lv_at hl 0 rfl) ?_
        refine lv_iload_n hx hb dX8_screening_10 rfl (lv_at hl 2 rfl) ?_
        obtain ⟨o11, ho11, hf⟩ := ob hf
        refine rV (rest := []) (As := [.int s5]) ⟨hx, hb, hml, hown, hts⟩ (mX8_grainAt l dC dI cI cZ cC cO q0 _ _ _ ho11) (cwV 1 hts gX8_screening_X8_grainAt rfl rfl rfl (by decide +kernel) ⟨Nat.le_of_ble_eq_true rfl, Nat.le_of_ble_eq_true rfl⟩) hK hN hP [0, 1, 2, 3, 4, 5, 6, 7, 8] rfl 7 rfl rfl rfl rfl hl.1 rfl (Nat.le_of_ble_eq_true rfl) dX8_screening_11 ⟨Nat.zero_le _, Nat.zero_le _⟩ ?_
        refine lv_if_ge (tgt := 29) hx hb dX8_screening_14 (by decide) (fun hc => ?_) (fun hc => ?_)
        · have hf := ot hc hf
          obtain rfl := Option.some.inj hf
          obtain rfl := Option.some.inj hn
          exact kx ls (lv_sub hl [0, 2] rfl)
        · have hf := oe hc hf
          refine lv_iload_n hx hb dX8_screening_17 rfl (lv_at hl 2 rfl) ?_
          refine lv_iload_n hx hb dX8_screening_18 rfl (lv_at hl 1 rfl) ?_
          obtain ⟨o19, ho19, hf⟩ := ob hf
          refine rS (rest := [.int s5]) (As := [.int a1]) ⟨hx, hb, hml, hown, hts⟩ (mX8_lookingFrom l dC dI cI cZ cC cO  _ _ ho19) (va_cwS 1 hts gX8_screening_X8_lookingFrom rfl rfl rfl (by decide +kernel) ⟨Nat.le_of_ble_eq_true rfl, Nat.le_of_ble_eq_true rfl⟩) hK hN hP [] rfl rfl hl.1 rfl (Nat.le_of_ble_eq_true rfl) dX8_screening_19 ⟨Nat.zero_le _, Nat.zero_le _⟩ ?_
          obtain ⟨o22, ho22, hf⟩ := ob hf
          refine rS (rest := []) (As := [.int s5, .int o19]) ⟨hx, hb, hml, hown, hts⟩ (mX8_beside l dC dI cI cZ cC cO  _ _ _ ho22) (va_cwS 2 hts gX8_screening_X8_beside rfl rfl rfl (by decide +kernel) ⟨Nat.le_of_ble_eq_true rfl, Nat.le_of_ble_eq_true rfl⟩) hK hN hP [] rfl rfl hl.1 rfl (Nat.le_of_ble_eq_true rfl) dX8_screening_22 ⟨Nat.zero_le _, Nat.zero_le _⟩ ?_
          refine lv_istore_n (lv' := [(2, .int o22), (0, .ref (q0 0)), (1, .int a1)]) hx hb dX8_screening_25 rfl hl (by decide) rfl (fun ls hl => ?_)
          refine lv_goto (tgt := 5) hx hb dX8_screening_26 (by decide) ?_
          obtain rfl := Option.some.inj hf
          exact ih5 _ _ hn ls (lv_sub hl [1, 2, 0] rfl) kx
  obtain ⟨o5, ho5, hf⟩ := ob hf
  refine hL5 FU _ _ ho5 ls (lv_sub hl [1, 2, 0] rfl) (fun ls hl => ?_)
  refine lv_iload_n hx hb dX8_screening_29 rfl (lv_at hl 1 rfl) ?_
  refine lv_if_ge (tgt := 38) hx hb dX8_screening_30 (by decide) (fun hc => ?_) (fun hc => ?_)
  · have hf := ot hc hf
    refine lv_aload_n hx hb dX8_screening_38 rfl (lv_at hl 0 rfl) ?_
    refine lv_iload_n hx hb dX8_screening_39 rfl (lv_at hl 1 rfl) ?_
    obtain ⟨o40, ho40, hf⟩ := ob hf
    refine rV (rest := []) (As := [.int o5]) ⟨hx, hb, hml, hown, hts⟩ (mX8_grainAt l dC dI cI cZ cC cO q0 _ _ _ ho40) (cwV 1 hts gX8_screening_X8_grainAt rfl rfl rfl (by decide +kernel) ⟨Nat.le_of_ble_eq_true rfl, Nat.le_of_ble_eq_true rfl⟩) hK hN hP [0, 1, 2, 3, 4, 5, 6, 7, 8] rfl 7 rfl rfl rfl rfl hl.1 rfl (Nat.le_of_ble_eq_true rfl) dX8_screening_40 ⟨Nat.zero_le _, Nat.zero_le _⟩ ?_
    obtain rfl := Option.some.inj hf
    exact W.iret (v := o40) hx hb hr (fun t ht hW => ⟨_, rfl, rfl, ht⟩) (fun _ h => by cases h) dX8_screening_43
  · have hf := oe hc hf
    refine lv_bipush (v := (-4)) hx hb dX8_screening_33 (by decide) ?_
    refine lv_goto (tgt := 43) hx hb dX8_screening_35 (by decide) ?_
    obtain rfl := Option.some.inj hf
    exact W.iret (v := (-4)) hx hb hr (fun t ht hW => ⟨_, rfl, rfl, ht⟩) (fun _ h => by cases h) dX8_screening_43
/-- RimGrainsModel.private int catchOf(int); -/
def jX8_catchOf_1 (s4 : (Int32 × Int32)) (y0_1 : Int32) : Option ((Int32 × Int32) ⊕ (Int32)) :=
  some (.inl ((s4.1 + y0_1), (s4.2 + 1)))
def tX8_catchOf_4 (a1 : Int32) (g0 : GX8) (s4 : (Int32 × Int32)) : Option ((Int32 × Int32) ⊕ (Int32)) :=
  (if 40 ≤ s4.2 then some (.inr s4.1) else ((fX8_screening s4.2 g0).bind fun o13 => (if o13 = a1 then jX8_catchOf_1 s4 1 else jX8_catchOf_1 s4 0)))
def fX8_catchOf (a1 : Int32) (g0 : GX8) : Option (Int32) :=
  ((lp (tX8_catchOf_4 a1 g0) FU (0, 0)).bind fun o4 => some o4)
abbrev rmX8_catchOf : Room := { frames := 3, cells := 0, slots := 0, locals := 67 }
set_option maxHeartbeats 4000000 in
set_option maxRecDepth 100000 in
theorem mX8_catchOf (l : Launch) (dC : Nat → ClassId) (dI : Nat → Nat → Nat) (cI cZ cC cO : ClassId) (q0 : Nat → Nat) (a1 : Int32) (g0 : GX8) (out : Int32) (hf : fX8_catchOf a1 g0 = some out) : Met l yX8_catchOf wsX8_catchOf rmX8_catchOf (va_Pc [.ref (q0 0), .int a1] (pcR (dC, dI) (wTys cI cZ cC cO) (wX8 cI cZ cC q0 g0))) (vp_Si (fun r => r = out)) 0 0 (fun _ => False) := by
  refine Met.ofW (cc := cX8_catchOf) (maxL := 4) (ret := (some .int)) (by decide) rfl ?_
  intro p e s m args below meth c s₁ B hml hv
  obtain ⟨hargs, hP, hK, hN⟩ := hv
  have hx := B.exec
  have hb := B.bytes
  have hr := B.returns
  have hts := atoms_spec (ws := wsX8_catchOf) B.pre
  have hown : s.vm.findClass RX8 = some m.cls := findClass_of_methodNamed B.named
  have hlocks := B.notSynchronized
  have hE := lg_entry_eq m [.ref (q0 0), .int a1] 4
  rw [← hargs] at hE
  rw [hE]
  have hl := lv_entry [.ref (q0 0), .int a1] (n := 4) (Nat.le_of_ble_eq_true rfl)
  generalize (lg_sl [.ref (q0 0), .int a1] ++ List.replicate (4 - (lg_sl [.ref (q0 0), .int a1]).length) Slot.unset).toArray = ls at hl ⊢
  have hl : lv_has ls 4 [(0, .ref (q0 0)), (1, .int a1)] := hl
  unfold fX8_catchOf at hf
  refine lv_iconst (v := 0) hx hb dX8_catchOf_0 (by decide) ?_
  refine lv_istore_n (lv' := [(2, .int 0), (0, .ref (q0 0)), (1, .int a1)]) hx hb dX8_catchOf_1 rfl hl (by decide) rfl (fun ls hl => ?_)
  refine lv_iconst (v := 0) hx hb dX8_catchOf_2 (by decide) ?_
  refine lv_istore_n (lv' := [(3, .int 0), (2, .int 0), (0, .ref (q0 0)), (1, .int a1)]) hx hb dX8_catchOf_3 rfl hl (by decide) rfl (fun ls hl => ?_)
  have hL4 : ∀ (n : Nat) (s4 : Int32 × Int32) (o4 : Int32), lp (tX8_catchOf_4 a1 g0) n s4 = some o4 → ∀ (ls : Array Slot), lv_has ls 4 [(0, .ref (q0 0)), (1, .int a1), (2, .int s4.1), (3, .int s4.2)] → (∀ (ls : Array Slot), lv_has ls 4 [(2, .int o4)] → W p l e (headSpec wsX8_catchOf rmX8_catchOf).room s m args below meth c s.heap [] 0 0 (MQ below (vp_Si (fun r => r = out)) args s 0 0 (fun _ => False)) (F0 m 33 ls [])) → W p l e (headSpec wsX8_catchOf rmX8_catchOf).room s m args below meth c s.heap [] 0 0 (MQ below (vp_Si (fun r => r = out)) args s 0 0 (fun _ => False)) (F0 m 4 ls []) := by
    intro n
    induction n with
    | zero => intro s4 o4 hf; exact (lp0 hf).elim
    | succ n ih4 =>
      intro s4 o4 hf ls hl kx
      obtain ⟨r4, hf, hn⟩ := lps hf
      unfold tX8_catchOf_4 at hf
      refine lv_iload_n hx hb dX8_catchOf_4 rfl (lv_at hl 3 rfl) ?_
      refine lv_bipush (v := 40) hx hb dX8_catchOf_5 (by decide) ?_
      refine lv_icmp_ge (tgt := 33) hx hb dX8_catchOf_7 (by decide) (fun hc => ?_) (fun hc => ?_)
      · have hf := ot hc hf
        obtain rfl := Option.some.inj hf
        obtain rfl := Option.some.inj hn
        exact kx ls (lv_sub hl [2] rfl)
      · have hf := oe hc hf
        refine lv_iload_n hx hb dX8_catchOf_10 rfl (lv_at hl 2 rfl) ?_
        refine lv_aload_n hx hb dX8_catchOf_11 rfl (lv_at hl 0 rfl) ?_
        refine lv_iload_n hx hb dX8_catchOf_12 rfl (lv_at hl 3 rfl) ?_
        obtain ⟨o13, ho13, hf⟩ := ob hf
        refine rV (rest := [.int s4.1]) (As := [.int s4.2]) ⟨hx, hb, hml, hown, hts⟩ (mX8_screening l dC dI cI cZ cC cO q0 _ _ _ ho13) (cwV 1 hts gX8_catchOf_X8_screening rfl rfl rfl (by decide +kernel) ⟨Nat.le_of_ble_eq_true rfl, Nat.le_of_ble_eq_true rfl⟩) hK hN hP [0, 1, 2, 3, 4, 5, 6, 7, 8] rfl 7 rfl rfl rfl rfl hl.1 rfl (Nat.le_of_ble_eq_true rfl) dX8_catchOf_13 ⟨Nat.zero_le _, Nat.zero_le _⟩ ?_
        refine lv_iload_n hx hb dX8_catchOf_16 rfl (lv_at hl 1 rfl) ?_
        have hJ1 : ∀ (y0_1 : Int32), jX8_catchOf_1 s4 y0_1 = some r4 → ∀ ls : Array Slot, lv_has ls 4 [(0, .ref (q0 0)), (1, .int a1), (3, .int s4.2)] → W p l e (headSpec wsX8_catchOf rmX8_catchOf).room s m args below meth c s.heap [] 0 0 (MQ below (vp_Si (fun r => r = out)) args s 0 0 (fun _ => False)) (F0 m 25 ls [.int y0_1, .int s4.1]) := by
          intro y0_1 hf ls hl
          unfold jX8_catchOf_1 at hf
          refine lv_iadd hx hb dX8_catchOf_25 ?_
          refine lv_istore_n (lv' := [(2, .int (s4.1 + y0_1)), (0, .ref (q0 0)), (1, .int a1), (3, .int s4.2)]) hx hb dX8_catchOf_26 rfl hl (by decide) rfl (fun ls hl => ?_)
          refine lv_iinc (v := (s4.2 + 1)) (lv' := [(3, .int (s4.2 + 1)), (2, .int (s4.1 + y0_1)), (0, .ref (q0 0)), (1, .int a1)]) hx hb dX8_catchOf_27 hl (k := 3) rfl rfl (by decide) rfl (fun ls hl => ?_)
          refine lv_goto (tgt := 4) hx hb dX8_catchOf_30 (by decide) ?_
          obtain rfl := Option.some.inj hf
          exact ih4 _ _ hn ls (lv_sub hl [2, 3, 1, 0] rfl) kx
        refine lv_icmp_ne (tgt := 24) hx hb dX8_catchOf_17 (by decide) (fun hc => ?_) (fun hc => ?_)
        · have hf := oe hc hf
          refine lv_iconst (v := 0) hx hb dX8_catchOf_24 (by decide) ?_
          exact hJ1 _ hf ls (lv_sub hl [0, 1, 3] rfl)
        · have hf := ot hc hf
          refine lv_iconst (v := 1) hx hb dX8_catchOf_20 (by decide) ?_
          refine lv_goto (tgt := 25) hx hb dX8_catchOf_21 (by decide) ?_
          exact hJ1 _ hf ls (lv_sub hl [0, 1, 3] rfl)
  obtain ⟨o4, ho4, hf⟩ := ob hf
  refine hL4 FU _ _ ho4 ls (lv_sub hl [2, 3, 1, 0] rfl) (fun ls hl => ?_)
  refine lv_iload_n hx hb dX8_catchOf_33 rfl (lv_at hl 0 rfl) ?_
  obtain rfl := Option.some.inj hf
  exact W.iret (v := o4) hx hb hr (fun t ht hW => ⟨_, rfl, rfl, ht⟩) (fun _ h => by cases h) dX8_catchOf_34
/-- RimGrainsModel.public int grain(int, int); -/
def fX8_grain (a1 : Int32) (a2 : Int32) (g0 : GX8) : Option (Int32) :=
  ((fX8_isGrain a1 g0).bind fun o2 => (if o2 = 0 then some (-1) else (if a2 = 0 then ((fX8_of a1 0 g0).bind fun o63 => some o63) else (if a2 = 1 then ((fX8_holder a1 g0).bind fun o69 => (if 0 ≤ o69 then ((fX8_holder a1 g0).bind fun o82 => some o82) else some (-4))) else (if a2 = 2 then ((fX8_depthOf a1 g0).bind fun o88 => some o88) else (if a2 = 3 then ((fX8_children a1 g0).bind fun o94 => some o94) else (if a2 = 4 then ((fX8_treeOf a1 g0).bind fun o100 => some o100) else (if a2 = 5 then ((fX8_highOf a1 g0).bind fun o106 => some o106) else (if a2 = 6 then ((fX8_catchOf a1 g0).bind fun o112 => some o112) else (if a2 = 7 then ((fX8_rootOf a1 g0).bind fun o118 => some o118) else (if a2 = 8 then ((fX8_of a1 2 g0).bind fun o125 => some o125) else some (-1))))))))))))
abbrev rmX8_grain : Room := { frames := 4, cells := 0, slots := 0, locals := 90 }
set_option maxHeartbeats 4000000 in
set_option maxRecDepth 100000 in
theorem mX8_grain (l : Launch) (dC : Nat → ClassId) (dI : Nat → Nat → Nat) (cI cZ cC cO : ClassId) (q0 : Nat → Nat) (a1 : Int32) (a2 : Int32) (g0 : GX8) (out : Int32) (hf : fX8_grain a1 a2 g0 = some out) : Met l yX8_grain wsX8_grain rmX8_grain (va_Pc [.ref (q0 0), .int a1, .int a2] (pcR (dC, dI) (wTys cI cZ cC cO) (wX8 cI cZ cC q0 g0))) (vp_Si (fun r => r = out)) 0 0 (fun _ => False) := by
  refine Met.ofW (cc := cX8_grain) (maxL := 3) (ret := (some .int)) (by decide) rfl ?_
  intro p e s m args below meth c s₁ B hml hv
  obtain ⟨hargs, hP, hK, hN⟩ := hv
  have hx := B.exec
  have hb := B.bytes
  have hr := B.returns
  have hts := atoms_spec (ws := wsX8_grain) B.pre
  have hown : s.vm.findClass RX8 = some m.cls := findClass_of_methodNamed B.named
  have hlocks := B.notSynchronized
  have hE := lg_entry_eq m [.ref (q0 0), .int a1, .int a2] 3
  rw [← hargs] at hE
  rw [hE]
  have hl := lv_entry [.ref (q0 0), .int a1, .int a2] (n := 3) (Nat.le_of_ble_eq_true rfl)
  generalize (lg_sl [.ref (q0 0), .int a1, .int a2] ++ List.replicate (3 - (lg_sl [.ref (q0 0), .int a1, .int a2]).length) Slot.unset).toArray = ls at hl ⊢
  have hl : lv_has ls 3 [(0, .ref (q0 0)), (1, .int a1), (2, .int a2)] := hl
  unfold fX8_grain at hf
  refine lv_aload_n hx hb dX8_grain_0 rfl (lv_at hl 0 rfl) ?_
  refine lv_iload_n hx hb dX8_grain_1 rfl (lv_at hl 1 rfl) ?_
  obtain ⟨o2, ho2, hf⟩ := ob hf
  refine rV (rest := []) (As := [.int a1]) ⟨hx, hb, hml, hown, hts⟩ (mX8_isGrain l dC dI cI cZ cC cO q0 _ _ _ ho2) (cwV 1 hts gX8_grain_X8_isGrain rfl rfl rfl (by decide +kernel) ⟨Nat.le_of_ble_eq_true rfl, Nat.le_of_ble_eq_true rfl⟩) hK hN hP [0, 1, 2, 3, 4, 5, 6, 7, 8] rfl 7 rfl rfl rfl rfl hl.1 rfl (Nat.le_of_ble_eq_true rfl) dX8_grain_2 ⟨Nat.zero_le _, Nat.zero_le _⟩ ?_
  refine lv_if_ne (tgt := 10) hx hb dX8_grain_5 (by decide) (fun hc => ?_) (fun hc => ?_)
  · have hf := oe hc hf
    refine lv_iload_n hx hb dX8_grain_10 rfl (lv_at hl 2 rfl) ?_
    by_cases hs11_0 : a2 = 0
    · have hf := ot hs11_0 hf
      refine lv_tableIn (off := 49) (tgt := 60) hx hb dX8_grain_11 (by rw [hs11_0]; decide) (by rw [hs11_0]; decide) (by rw [hs11_0]; rfl) (by decide) ?_
      refine lv_aload_n hx hb dX8_grain_60 rfl (lv_at hl 0 rfl) ?_
      refine lv_iload_n hx hb dX8_grain_61 rfl (lv_at hl 1 rfl) ?_
      refine lv_iconst (v := 0) hx hb dX8_grain_62 (by decide) ?_
      obtain ⟨o63, ho63, hf⟩ := ob hf
      refine rV (rest := []) (As := [.int a1, .int 0]) ⟨hx, hb, hml, hown, hts⟩ (mX8_of l dC dI cI cZ cC cO q0 _ _ _ _ ho63) (cwV 2 hts gX8_grain_X8_of rfl rfl rfl (by decide +kernel) ⟨Nat.le_of_ble_eq_true rfl, Nat.le_of_ble_eq_true rfl⟩) hK hN hP [0, 1, 2, 3, 4, 5, 6, 7, 8] rfl 7 rfl rfl rfl rfl hl.1 rfl (Nat.le_of_ble_eq_true rfl) dX8_grain_63 ⟨Nat.zero_le _, Nat.zero_le _⟩ ?_
      obtain rfl := Option.some.inj hf
      exact W.iret (v := o63) hx hb hr (fun t ht hW => ⟨_, rfl, rfl, ht⟩) (fun _ h => by cases h) dX8_grain_66
    have hf := oe hs11_0 hf
    by_cases hs11_1 : a2 = 1
    · have hf := ot hs11_1 hf
      refine lv_tableIn (off := 56) (tgt := 67) hx hb dX8_grain_11 (by rw [hs11_1]; decide) (by rw [hs11_1]; decide) (by rw [hs11_1]; rfl) (by decide) ?_
      refine lv_aload_n hx hb dX8_grain_67 rfl (lv_at hl 0 rfl) ?_
      refine lv_iload_n hx hb dX8_grain_68 rfl (lv_at hl 1 rfl) ?_
      obtain ⟨o69, ho69, hf⟩ := ob hf
      refine rV (rest := []) (As := [.int a1]) ⟨hx, hb, hml, hown, hts⟩ (mX8_holder l dC dI cI cZ cC cO q0 _ _ _ ho69) (cwV 1 hts gX8_grain_X8_holder rfl rfl rfl (by decide +kernel) ⟨Nat.le_of_ble_eq_true rfl, Nat.le_of_ble_eq_true rfl⟩) hK hN hP [0, 1, 2, 3, 4, 5, 6, 7, 8] rfl 7 rfl rfl rfl rfl hl.1 rfl (Nat.le_of_ble_eq_true rfl) dX8_grain_69 ⟨Nat.zero_le _, Nat.zero_le _⟩ ?_
      refine lv_if_ge (tgt := 80) hx hb dX8_grain_72 (by decide) (fun hc => ?_) (fun hc => ?_)
      · have hf := ot hc hf
        refine lv_aload_n hx hb dX8_grain_80 rfl (lv_at hl 0 rfl) ?_
        refine lv_iload_n hx hb dX8_grain_81 rfl (lv_at hl 1 rfl) ?_
        obtain ⟨o82, ho82, hf⟩ := ob hf
        refine rV (rest := []) (As := [.int a1]) ⟨hx, hb, hml, hown, hts⟩ (mX8_holder l dC dI cI cZ cC cO q0 _ _ _ ho82) (cwV 1 hts gX8_grain_X8_holder rfl rfl rfl (by decide +kernel) ⟨Nat.le_of_ble_eq_true rfl, Nat.le_of_ble_eq_true rfl⟩) hK hN hP [0, 1, 2, 3, 4, 5, 6, 7, 8] rfl 7 rfl rfl rfl rfl hl.1 rfl (Nat.le_of_ble_eq_true rfl) dX8_grain_82 ⟨Nat.zero_le _, Nat.zero_le _⟩ ?_
        obtain rfl := Option.some.inj hf
        exact W.iret (v := o82) hx hb hr (fun t ht hW => ⟨_, rfl, rfl, ht⟩) (fun _ h => by cases h) dX8_grain_85
      · have hf := oe hc hf
        refine lv_bipush (v := (-4)) hx hb dX8_grain_75 (by decide) ?_
        refine lv_goto (tgt := 85) hx hb dX8_grain_77 (by decide) ?_
        obtain rfl := Option.some.inj hf
        exact W.iret (v := (-4)) hx hb hr (fun t ht hW => ⟨_, rfl, rfl, ht⟩) (fun _ h => by cases h) dX8_grain_85
    have hf := oe hs11_1 hf
    by_cases hs11_2 : a2 = 2
    · have hf := ot hs11_2 hf
      refine lv_tableIn (off := 75) (tgt := 86) hx hb dX8_grain_11 (by rw [hs11_2]; decide) (by rw [hs11_2]; decide) (by rw [hs11_2]; rfl) (by decide) ?_
      refine lv_aload_n hx hb dX8_grain_86 rfl (lv_at hl 0 rfl) ?_
      refine lv_iload_n hx hb dX8_grain_87 rfl (lv_at hl 1 rfl) ?_
      obtain ⟨o88, ho88, hf⟩ := ob hf
      refine rV (rest := []) (As := [.int a1]) ⟨hx, hb, hml, hown, hts⟩ (mX8_depthOf l dC dI cI cZ cC cO q0 _ _ _ ho88) (cwV 1 hts gX8_grain_X8_depthOf rfl rfl rfl (by decide +kernel) ⟨Nat.le_of_ble_eq_true rfl, Nat.le_of_ble_eq_true rfl⟩) hK hN hP [0, 1, 2, 3, 4, 5, 6, 7, 8] rfl 7 rfl rfl rfl rfl hl.1 rfl (Nat.le_of_ble_eq_true rfl) dX8_grain_88 ⟨Nat.zero_le _, Nat.zero_le _⟩ ?_
      obtain rfl := Option.some.inj hf
      exact W.iret (v := o88) hx hb hr (fun t ht hW => ⟨_, rfl, rfl, ht⟩) (fun _ h => by cases h) dX8_grain_91
    have hf := oe hs11_2 hf
    by_cases hs11_3 : a2 = 3
    · have hf := ot hs11_3 hf
      refine lv_tableIn (off := 81) (tgt := 92) hx hb dX8_grain_11 (by rw [hs11_3]; decide) (by rw [hs11_3]; decide) (by rw [hs11_3]; rfl) (by decide) ?_
      refine lv_aload_n hx hb dX8_grain_92 rfl (lv_at hl 0 rfl) ?_
      refine lv_iload_n hx hb dX8_grain_93 rfl (lv_at hl 1 rfl) ?_
      obtain ⟨o94, ho94, hf⟩ := ob hf
      refine rV (rest := []) (As := [.int a1]) ⟨hx, hb, hml, hown, hts⟩ (mX8_children l dC dI cI cZ cC cO q0 _ _ _ ho94) (cwV 1 hts gX8_grain_X8_children rfl rfl rfl (by decide +kernel) ⟨Nat.le_of_ble_eq_true rfl, Nat.le_of_ble_eq_true rfl⟩) hK hN hP [0, 1, 2, 3, 4, 5, 6, 7, 8] rfl 7 rfl rfl rfl rfl hl.1 rfl (Nat.le_of_ble_eq_true rfl) dX8_grain_94 ⟨Nat.zero_le _, Nat.zero_le _⟩ ?_
      obtain rfl := Option.some.inj hf
      exact W.iret (v := o94) hx hb hr (fun t ht hW => ⟨_, rfl, rfl, ht⟩) (fun _ h => by cases h) dX8_grain_97
    have hf := oe hs11_3 hf
    by_cases hs11_4 : a2 = 4
    · have hf := ot hs11_4 hf
      refine lv_tableIn (off := 87) (tgt := 98) hx hb dX8_grain_11 (by rw [hs11_4]; decide) (by rw [hs11_4]; decide) (by rw [hs11_4]; rfl) (by decide) ?_
      refine lv_aload_n hx hb dX8_grain_98 rfl (lv_at hl 0 rfl) ?_
      refine lv_iload_n hx hb dX8_grain_99 rfl (lv_at hl 1 rfl) ?_
      obtain ⟨o100, ho100, hf⟩ := ob hf
      refine rV (rest := []) (As := [.int a1]) ⟨hx, hb, hml, hown, hts⟩ (mX8_treeOf l dC dI cI cZ cC cO q0 _ _ _ ho100) (cwV 1 hts gX8_grain_X8_treeOf rfl rfl rfl (by decide +kernel) ⟨Nat.le_of_ble_eq_true rfl, Nat.le_of_ble_eq_true rfl⟩) hK hN hP [0, 1, 2, 3, 4, 5, 6, 7, 8] rfl 7 rfl rfl rfl rfl hl.1 rfl (Nat.le_of_ble_eq_true rfl) dX8_grain_100 ⟨Nat.zero_le _, Nat.zero_le _⟩ ?_
      obtain rfl := Option.some.inj hf
      exact W.iret (v := o100) hx hb hr (fun t ht hW => ⟨_, rfl, rfl, ht⟩) (fun _ h => by cases h) dX8_grain_103
    have hf := oe hs11_4 hf
    by_cases hs11_5 : a2 = 5
    · have hf := ot hs11_5 hf
      refine lv_tableIn (off := 93) (tgt := 104) hx hb dX8_grain_11 (by rw [hs11_5]; decide) (by rw [hs11_5]; decide) (by rw [hs11_5]; rfl) (by decide) ?_
      refine lv_aload_n hx hb dX8_grain_104 rfl (lv_at hl 0 rfl) ?_
      refine lv_iload_n hx hb dX8_grain_105 rfl (lv_at hl 1 rfl) ?_
      obtain ⟨o106, ho106, hf⟩ := ob hf
      refine rV (rest := []) (As := [.int a1]) ⟨hx, hb, hml, hown, hts⟩ (mX8_highOf l dC dI cI cZ cC cO q0 _ _ _ ho106) (cwV 1 hts gX8_grain_X8_highOf rfl rfl rfl (by decide +kernel) ⟨Nat.le_of_ble_eq_true rfl, Nat.le_of_ble_eq_true rfl⟩) hK hN hP [0, 1, 2, 3, 4, 5, 6, 7, 8] rfl 7 rfl rfl rfl rfl hl.1 rfl (Nat.le_of_ble_eq_true rfl) dX8_grain_106 ⟨Nat.zero_le _, Nat.zero_le _⟩ ?_
      obtain rfl := Option.some.inj hf
      exact W.iret (v := o106) hx hb hr (fun t ht hW => ⟨_, rfl, rfl, ht⟩) (fun _ h => by cases h) dX8_grain_109
    have hf := oe hs11_5 hf
    by_cases hs11_6 : a2 = 6
    · have hf := ot hs11_6 hf
      refine lv_tableIn (off := 99) (tgt := 110) hx hb dX8_grain_11 (by rw [hs11_6]; decide) (by rw [hs11_6]; decide) (by rw [hs11_6]; rfl) (by decide) ?_
      refine lv_aload_n hx hb dX8_grain_110 rfl (lv_at hl 0 rfl) ?_
      refine lv_iload_n hx hb dX8_grain_111 rfl (lv_at hl 1 rfl) ?_
      obtain ⟨o112, ho112, hf⟩ := ob hf
      refine rV (rest := []) (As := [.int a1]) ⟨hx, hb, hml, hown, hts⟩ (mX8_catchOf l dC dI cI cZ cC cO q0 _ _ _ ho112) (cwV 1 hts gX8_grain_X8_catchOf rfl rfl rfl (by decide +kernel) ⟨Nat.le_of_ble_eq_true rfl, Nat.le_of_ble_eq_true rfl⟩) hK hN hP [0, 1, 2, 3, 4, 5, 6, 7, 8] rfl 7 rfl rfl rfl rfl hl.1 rfl (Nat.le_of_ble_eq_true rfl) dX8_grain_112 ⟨Nat.zero_le _, Nat.zero_le _⟩ ?_
      obtain rfl := Option.some.inj hf
      exact W.iret (v := o112) hx hb hr (fun t ht hW => ⟨_, rfl, rfl, ht⟩) (fun _ h => by cases h) dX8_grain_115
    have hf := oe hs11_6 hf
    by_cases hs11_7 : a2 = 7
    · have hf := ot hs11_7 hf
      refine lv_tableIn (off := 105) (tgt := 116) hx hb dX8_grain_11 (by rw [hs11_7]; decide) (by rw [hs11_7]; decide) (by rw [hs11_7]; rfl) (by decide) ?_
      refine lv_aload_n hx hb dX8_grain_116 rfl (lv_at hl 0 rfl) ?_
      refine lv_iload_n hx hb dX8_grain_117 rfl (lv_at hl 1 rfl) ?_
      obtain ⟨o118, ho118, hf⟩ := ob hf
      refine rV (rest := []) (As := [.int a1]) ⟨hx, hb, hml, hown, hts⟩ (mX8_rootOf l dC dI cI cZ cC cO q0 _ _ _ ho118) (cwV 1 hts gX8_grain_X8_rootOf rfl rfl rfl (by decide +kernel) ⟨Nat.le_of_ble_eq_true rfl, Nat.le_of_ble_eq_true rfl⟩) hK hN hP [0, 1, 2, 3, 4, 5, 6, 7, 8] rfl 7 rfl rfl rfl rfl hl.1 rfl (Nat.le_of_ble_eq_true rfl) dX8_grain_118 ⟨Nat.zero_le _, Nat.zero_le _⟩ ?_
      obtain rfl := Option.some.inj hf
      exact W.iret (v := o118) hx hb hr (fun t ht hW => ⟨_, rfl, rfl, ht⟩) (fun _ h => by cases h) dX8_grain_121
    have hf := oe hs11_7 hf
    by_cases hs11_8 : a2 = 8
    · have hf := ot hs11_8 hf
      refine lv_tableIn (off := 111) (tgt := 122) hx hb dX8_grain_11 (by rw [hs11_8]; decide) (by rw [hs11_8]; decide) (by rw [hs11_8]; rfl) (by decide) ?_
      refine lv_aload_n hx hb dX8_grain_122 rfl (lv_at hl 0 rfl) ?_
      refine lv_iload_n hx hb dX8_grain_123 rfl (lv_at hl 1 rfl) ?_
      refine lv_iconst (v := 2) hx hb dX8_grain_124 (by decide) ?_
      obtain ⟨o125, ho125, hf⟩ := ob hf
      refine rV (rest := []) (As := [.int a1, .int 2]) ⟨hx, hb, hml, hown, hts⟩ (mX8_of l dC dI cI cZ cC cO q0 _ _ _ _ ho125) (cwV 2 hts gX8_grain_X8_of rfl rfl rfl (by decide +kernel) ⟨Nat.le_of_ble_eq_true rfl, Nat.le_of_ble_eq_true rfl⟩) hK hN hP [0, 1, 2, 3, 4, 5, 6, 7, 8] rfl 7 rfl rfl rfl rfl hl.1 rfl (Nat.le_of_ble_eq_true rfl) dX8_grain_125 ⟨Nat.zero_le _, Nat.zero_le _⟩ ?_
      obtain rfl := Option.some.inj hf
      exact W.iret (v := o125) hx hb hr (fun t ht hW => ⟨_, rfl, rfl, ht⟩) (fun _ h => by cases h) dX8_grain_128
    have hf := oe hs11_8 hf
    have hs11_0T := lv_neT (a := 0) hs11_0 rfl
    have hs11_1T := lv_neT (a := 1) hs11_1 rfl
    have hs11_2T := lv_neT (a := 2) hs11_2 rfl
    have hs11_3T := lv_neT (a := 3) hs11_3 rfl
    have hs11_4T := lv_neT (a := 4) hs11_4 rfl
    have hs11_5T := lv_neT (a := 5) hs11_5 rfl
    have hs11_6T := lv_neT (a := 6) hs11_6 rfl
    have hs11_7T := lv_neT (a := 7) hs11_7 rfl
    have hs11_8T := lv_neT (a := 8) hs11_8 rfl
    refine lv_tableOut (tgt := 129) hx hb dX8_grain_11 (by omega) (by decide) ?_
    refine lv_iconst (v := (-1)) hx hb dX8_grain_129 (by decide) ?_
    obtain rfl := Option.some.inj hf
    exact W.iret (v := (-1)) hx hb hr (fun t ht hW => ⟨_, rfl, rfl, ht⟩) (fun _ h => by cases h) dX8_grain_130
  · have hf := ot hc hf
    refine lv_iconst (v := (-1)) hx hb dX8_grain_8 (by decide) ?_
    obtain rfl := Option.some.inj hf
    exact W.iret (v := (-1)) hx hb hr (fun t ht hW => ⟨_, rfl, rfl, ht⟩) (fun _ h => by cases h) dX8_grain_9
/-- RimGrainsModel.public int screens(int); -/
def fX8_screens (a1 : Int32) (g0 : GX8) : Option (Int32) :=
  ((fX8_isRim a1).bind fun o1 => (if o1 = 0 then some (-1) else ((fX8_screening a1 g0).bind fun o9 => some o9)))
abbrev rmX8_screens : Room := { frames := 3, cells := 0, slots := 0, locals := 67 }
set_option maxHeartbeats 4000000 in
set_option maxRecDepth 100000 in
theorem mX8_screens (l : Launch) (dC : Nat → ClassId) (dI : Nat → Nat → Nat) (cI cZ cC cO : ClassId) (q0 : Nat → Nat) (a1 : Int32) (g0 : GX8) (out : Int32) (hf : fX8_screens a1 g0 = some out) : Met l yX8_screens wsX8_screens rmX8_screens (va_Pc [.ref (q0 0), .int a1] (pcR (dC, dI) (wTys cI cZ cC cO) (wX8 cI cZ cC q0 g0))) (vp_Si (fun r => r = out)) 0 0 (fun _ => False) := by
  refine Met.ofW (cc := cX8_screens) (maxL := 2) (ret := (some .int)) (by decide) rfl ?_
  intro p e s m args below meth c s₁ B hml hv
  obtain ⟨hargs, hP, hK, hN⟩ := hv
  have hx := B.exec
  have hb := B.bytes
  have hr := B.returns
  have hts := atoms_spec (ws := wsX8_screens) B.pre
  have hown : s.vm.findClass RX8 = some m.cls := findClass_of_methodNamed B.named
  have hlocks := B.notSynchronized
  have hE := lg_entry_eq m [.ref (q0 0), .int a1] 2
  rw [← hargs] at hE
  rw [hE]
  have hl := lv_entry [.ref (q0 0), .int a1] (n := 2) (Nat.le_of_ble_eq_true rfl)
  generalize (lg_sl [.ref (q0 0), .int a1] ++ List.replicate (2 - (lg_sl [.ref (q0 0), .int a1]).length) Slot.unset).toArray = ls at hl ⊢
  have hl : lv_has ls 2 [(0, .ref (q0 0)), (1, .int a1)] := hl
  unfold fX8_screens at hf
  refine lv_iload_n hx hb dX8_screens_0 rfl (lv_at hl 1 rfl) ?_
  obtain ⟨o1, ho1, hf⟩ := ob hf
  refine rS (rest := []) (As := [.int a1]) ⟨hx, hb, hml, hown, hts⟩ (mX8_isRim l dC dI cI cZ cC cO  _ _ ho1) (va_cwS 1 hts gX8_screens_X8_isRim rfl rfl rfl (by decide +kernel) ⟨Nat.le_of_ble_eq_true rfl, Nat.le_of_ble_eq_true rfl⟩) hK hN hP [] rfl rfl hl.1 rfl (Nat.le_of_ble_eq_true rfl) dX8_screens_1 ⟨Nat.zero_le _, Nat.zero_le _⟩ ?_
  refine lv_if_eq (tgt := 15) hx hb dX8_screens_4 (by decide) (fun hc => ?_) (fun hc => ?_)
  · have hf := ot hc hf
    refine lv_iconst (v := (-1)) hx hb dX8_screens_15 (by decide) ?_
    obtain rfl := Option.some.inj hf
    exact W.iret (v := (-1)) hx hb hr (fun t ht hW => ⟨_, rfl, rfl, ht⟩) (fun _ h => by cases h) dX8_screens_16
  · have hf := oe hc hf
    refine lv_aload_n hx hb dX8_screens_7 rfl (lv_at hl 0 rfl) ?_
    refine lv_iload_n hx hb dX8_screens_8 rfl (lv_at hl 1 rfl) ?_
    obtain ⟨o9, ho9, hf⟩ := ob hf
    refine rV (rest := []) (As := [.int a1]) ⟨hx, hb, hml, hown, hts⟩ (mX8_screening l dC dI cI cZ cC cO q0 _ _ _ ho9) (cwV 1 hts gX8_screens_X8_screening rfl rfl rfl (by decide +kernel) ⟨Nat.le_of_ble_eq_true rfl, Nat.le_of_ble_eq_true rfl⟩) hK hN hP [0, 1, 2, 3, 4, 5, 6, 7, 8] rfl 7 rfl rfl rfl rfl hl.1 rfl (Nat.le_of_ble_eq_true rfl) dX8_screens_9 ⟨Nat.zero_le _, Nat.zero_le _⟩ ?_
    refine lv_goto (tgt := 16) hx hb dX8_screens_12 (by decide) ?_
    obtain rfl := Option.some.inj hf
    exact W.iret (v := o9) hx hb hr (fun t ht hW => ⟨_, rfl, rfl, ht⟩) (fun _ h => by cases h) dX8_screens_16
/-- RimGrainsModel.public int ring(int); -/
def jX8_ring_1 (s15 : (Int32 × Int32)) (y0_1 : Int32) : Option ((Int32 × Int32) ⊕ (Int32)) :=
  some (.inl ((s15.1 + y0_1), (s15.2 + 1)))
def tX8_ring_15 (a1 : Int32) (g0 : GX8) (s15 : (Int32 × Int32)) : Option ((Int32 × Int32) ⊕ (Int32)) :=
  (if ((pX8_s g0) (0 : Int32).toNatClampNeg) ≤ s15.2 then some (.inr s15.1) else ((fX8_of s15.2 0 g0).bind fun o29 => ((fX8_ringOf o29).bind fun o32 => (if o32 = a1 then jX8_ring_1 s15 1 else jX8_ring_1 s15 0))))
def fX8_ring (a1 : Int32) (g0 : GX8) : Option (Int32) :=
  ((fX8_in a1 0 5).bind fun o3 => (if o3 = 0 then some (-1) else ((lp (tX8_ring_15 a1 g0) FU (0, 0)).bind fun o15 => some o15)))
abbrev rmX8_ring : Room := { frames := 2, cells := 0, slots := 0, locals := 42 }
set_option maxHeartbeats 4000000 in
set_option maxRecDepth 100000 in
theorem mX8_ring (l : Launch) (dC : Nat → ClassId) (dI : Nat → Nat → Nat) (cI cZ cC cO : ClassId) (q0 : Nat → Nat) (a1 : Int32) (g0 : GX8) (out : Int32) (hf : fX8_ring a1 g0 = some out) : Met l yX8_ring wsX8_ring rmX8_ring (va_Pc [.ref (q0 0), .int a1] (pcR (dC, dI) (wTys cI cZ cC cO) (wX8 cI cZ cC q0 g0))) (vp_Si (fun r => r = out)) 0 0 (fun _ => False) := by
  refine Met.ofW (cc := cX8_ring) (maxL := 4) (ret := (some .int)) (by decide) rfl ?_
  intro p e s m args below meth c s₁ B hml hv
  obtain ⟨hargs, hP, hK, hN⟩ := hv
  have hx := B.exec
  have hb := B.bytes
  have hr := B.returns
  have hts := atoms_spec (ws := wsX8_ring) B.pre
  have hown : s.vm.findClass RX8 = some m.cls := findClass_of_methodNamed B.named
  have hlocks := B.notSynchronized
  have hk0 := hts (.fieldLink RX8 7 "RimGrainsModel" "s" "[I") (by decide +kernel)
  have hin8 : ∀ w ∈ wsX80, w ∈ wsX8_ring := by decide +kernel
  have hE := lg_entry_eq m [.ref (q0 0), .int a1] 4
  rw [← hargs] at hE
  rw [hE]
  have hl := lv_entry [.ref (q0 0), .int a1] (n := 4) (Nat.le_of_ble_eq_true rfl)
  generalize (lg_sl [.ref (q0 0), .int a1] ++ List.replicate (4 - (lg_sl [.ref (q0 0), .int a1]).length) Slot.unset).toArray = ls at hl ⊢
  have hl : lv_has ls 4 [(0, .ref (q0 0)), (1, .int a1)] := hl
  unfold fX8_ring at hf
  refine lv_iload_n hx hb dX8_ring_0 rfl (lv_at hl 1 rfl) ?_
  refine lv_iconst (v := 0) hx hb dX8_ring_1 (by decide) ?_
  refine lv_iconst (v := 5) hx hb dX8_ring_2 (by decide) ?_
  obtain ⟨o3, ho3, hf⟩ := ob hf
  refine rS (rest := []) (As := [.int a1, .int 0, .int 5]) ⟨hx, hb, hml, hown, hts⟩ (mX8_in l dC dI cI cZ cC cO  _ _ _ _ ho3) (va_cwS 3 hts gX8_ring_X8_in rfl rfl rfl (by decide +kernel) ⟨Nat.le_of_ble_eq_true rfl, Nat.le_of_ble_eq_true rfl⟩) hK hN hP [] rfl rfl hl.1 rfl (Nat.le_of_ble_eq_true rfl) dX8_ring_3 ⟨Nat.zero_le _, Nat.zero_le _⟩ ?_
  refine lv_if_ne (tgt := 11) hx hb dX8_ring_6 (by decide) (fun hc => ?_) (fun hc => ?_)
  · have hf := oe hc hf
    refine lv_iconst (v := 0) hx hb dX8_ring_11 (by decide) ?_
    refine lv_istore_n (lv' := [(2, .int 0), (0, .ref (q0 0)), (1, .int a1)]) hx hb dX8_ring_12 rfl hl (by decide) rfl (fun ls hl => ?_)
    refine lv_iconst (v := 0) hx hb dX8_ring_13 (by decide) ?_
    refine lv_istore_n (lv' := [(3, .int 0), (2, .int 0), (0, .ref (q0 0)), (1, .int a1)]) hx hb dX8_ring_14 rfl hl (by decide) rfl (fun ls hl => ?_)
    have hL15 : ∀ (n : Nat) (s15 : Int32 × Int32) (o15 : Int32), lp (tX8_ring_15 a1 g0) n s15 = some o15 → ∀ (ls : Array Slot), lv_has ls 4 [(0, .ref (q0 0)), (1, .int a1), (2, .int s15.1), (3, .int s15.2)] → (∀ (ls : Array Slot), lv_has ls 4 [(2, .int o15)] → W p l e (headSpec wsX8_ring rmX8_ring).room s m args below meth c s.heap [] 0 0 (MQ below (vp_Si (fun r => r = out)) args s 0 0 (fun _ => False)) (F0 m 52 ls [])) → W p l e (headSpec wsX8_ring rmX8_ring).room s m args below meth c s.heap [] 0 0 (MQ below (vp_Si (fun r => r = out)) args s 0 0 (fun _ => False)) (F0 m 15 ls []) := by
      intro n
      induction n with
      | zero => intro s15 o15 hf; exact (lp0 hf).elim
      | succ n ih15 =>
        intro s15 o15 hf ls hl kx
        obtain ⟨r15, hf, hn⟩ := lps hf
        unfold tX8_ring_15 at hf
        refine lv_iload_n hx hb dX8_ring_15 rfl (lv_at hl 3 rfl) ?_
        refine lv_aload_n hx hb dX8_ring_16 rfl (lv_at hl 0 rfl) ?_
        refine va_get (D := (dC, dI)) (ci := 7) (v := .ref (q0 1)) (C := RX8) (T := TX8) (N := 21) hx hb hts hin8 hown hK hP 0 rfl rfl 0 (by decide) hk0 (fun _ h9 => h9) rfl dX8_ring_17 ?_
        refine lv_iconst (v := 0) hx hb dX8_ring_20 (by decide) ?_
        have hin : vp_in (0 : Int32) 373 := by unfold vp_in; decide
        refine va_iald hx hb hK hP 1 0 rfl rfl hin dX8_ring_21 ?_
        refine lv_icmp_ge (tgt := 52) hx hb dX8_ring_22 (by decide) (fun hc => ?_) (fun hc => ?_)
        · have hf := ot hc hf
          obtain rfl := Option.some.inj hf
          obtain rfl := Option.some.inj hn
          exact kx ls (lv_sub hl [2] rfl)
        · have hf := oe hc hf
          refine lv_iload_n hx hb dX8_ring_25 rfl (lv_at hl 2 rfl) ?_
          refine lv_aload_n hx hb dX8_ring_26 rfl (lv_at hl 0 rfl) ?_
          refine lv_iload_n hx hb dX8_ring_27 rfl (lv_at hl 3 rfl) ?_
          refine lv_iconst (v := 0) hx hb dX8_ring_28 (by decide) ?_
          obtain ⟨o29, ho29, hf⟩ := ob hf
          refine rV (rest := [.int s15.1]) (As := [.int s15.2, .int 0]) ⟨hx, hb, hml, hown, hts⟩ (mX8_of l dC dI cI cZ cC cO q0 _ _ _ _ ho29) (cwV 2 hts gX8_ring_X8_of rfl rfl rfl (by decide +kernel) ⟨Nat.le_of_ble_eq_true rfl, Nat.le_of_ble_eq_true rfl⟩) hK hN hP [0, 1, 2, 3, 4, 5, 6, 7, 8] rfl 7 rfl rfl rfl rfl hl.1 rfl (Nat.le_of_ble_eq_true rfl) dX8_ring_29 ⟨Nat.zero_le _, Nat.zero_le _⟩ ?_
          obtain ⟨o32, ho32, hf⟩ := ob hf
          refine rS (rest := [.int s15.1]) (As := [.int o29]) ⟨hx, hb, hml, hown, hts⟩ (mX8_ringOf l dC dI cI cZ cC cO  _ _ ho32) (va_cwS 1 hts gX8_ring_X8_ringOf rfl rfl rfl (by decide +kernel) ⟨Nat.le_of_ble_eq_true rfl, Nat.le_of_ble_eq_true rfl⟩) hK hN hP [] rfl rfl hl.1 rfl (Nat.le_of_ble_eq_true rfl) dX8_ring_32 ⟨Nat.zero_le _, Nat.zero_le _⟩ ?_
          refine lv_iload_n hx hb dX8_ring_35 rfl (lv_at hl 1 rfl) ?_
          have hJ1 : ∀ (y0_1 : Int32), jX8_ring_1 s15 y0_1 = some r15 → ∀ ls : Array Slot, lv_has ls 4 [(0, .ref (q0 0)), (1, .int a1), (3, .int s15.2)] → W p l e (headSpec wsX8_ring rmX8_ring).room s m args below meth c s.heap [] 0 0 (MQ below (vp_Si (fun r => r = out)) args s 0 0 (fun _ => False)) (F0 m 44 ls [.int y0_1, .int s15.1]) := by
            intro y0_1 hf ls hl
            unfold jX8_ring_1 at hf
            refine lv_iadd hx hb dX8_ring_44 ?_
            refine lv_istore_n (lv' := [(2, .int (s15.1 + y0_1)), (0, .ref (q0 0)), (1, .int a1), (3, .int s15.2)]) hx hb dX8_ring_45 rfl hl (by decide) rfl (fun ls hl => ?_)
            refine lv_iinc (v := (s15.2 + 1)) (lv' := [(3, .int (s15.2 + 1)), (2, .int (s15.1 + y0_1)), (0, .ref (q0 0)), (1, .int a1)]) hx hb dX8_ring_46 hl (k := 3) rfl rfl (by decide) rfl (fun ls hl => ?_)
            refine lv_goto (tgt := 15) hx hb dX8_ring_49 (by decide) ?_
            obtain rfl := Option.some.inj hf
            exact ih15 _ _ hn ls (lv_sub hl [2, 3, 1, 0] rfl) kx
          refine lv_icmp_ne (tgt := 43) hx hb dX8_ring_36 (by decide) (fun hc => ?_) (fun hc => ?_)
          · have hf := oe hc hf
            refine lv_iconst (v := 0) hx hb dX8_ring_43 (by decide) ?_
            exact hJ1 _ hf ls (lv_sub hl [0, 1, 3] rfl)
          · have hf := ot hc hf
            refine lv_iconst (v := 1) hx hb dX8_ring_39 (by decide) ?_
            refine lv_goto (tgt := 44) hx hb dX8_ring_40 (by decide) ?_
            exact hJ1 _ hf ls (lv_sub hl [0, 1, 3] rfl)
    obtain ⟨o15, ho15, hf⟩ := ob hf
    refine hL15 FU _ _ ho15 ls (lv_sub hl [2, 3, 1, 0] rfl) (fun ls hl => ?_)
    refine lv_iload_n hx hb dX8_ring_52 rfl (lv_at hl 0 rfl) ?_
    obtain rfl := Option.some.inj hf
    exact W.iret (v := o15) hx hb hr (fun t ht hW => ⟨_, rfl, rfl, ht⟩) (fun _ h => by cases h) dX8_ring_53
  · have hf := ot hc hf
    refine lv_iconst (v := (-1)) hx hb dX8_ring_9 (by decide) ?_
    obtain rfl := Option.some.inj hf
    exact W.iret (v := (-1)) hx hb hr (fun t ht hW => ⟨_, rfl, rfl, ht⟩) (fun _ h => by cases h) dX8_ring_10
/-- RimGrainsModel.public int apart(int, int); -/
def tX8_apart_26 (g0 : GX8) (s26 : (Int32 × Int32 × Int32)) : Option ((Int32 × Int32 × Int32) ⊕ (Int32 × Int32 × Int32)) :=
  (if s26.1 = s26.2.1 then some (.inr (s26.1, s26.2.1, s26.2.2)) else (if s26.1 < 0 then some (.inr (s26.1, s26.2.1, s26.2.2)) else (if s26.2.1 < 0 then some (.inr (s26.1, s26.2.1, s26.2.2)) else (if s26.1 ≤ s26.2.1 then ((fX8_holder s26.2.1 g0).bind fun o62 => some (.inl (s26.1, o62, (s26.2.2 + 1)))) else ((fX8_holder s26.1 g0).bind fun o52 => some (.inl (o52, s26.2.1, (s26.2.2 + 1))))))))
def fX8_apart (a1 : Int32) (a2 : Int32) (g0 : GX8) : Option (Int32) :=
  ((fX8_isGrain a1 g0).bind fun o2 => (if o2 = 0 then some (-1) else ((fX8_isGrain a2 g0).bind fun o10 => (if o10 = 0 then some (-1) else ((lp (tX8_apart_26 g0) FU (a1, a2, 0)).bind fun o26 => (if o26.1 = o26.2.1 then some o26.2.2 else some (-4)))))))
abbrev rmX8_apart : Room := { frames := 2, cells := 0, slots := 0, locals := 43 }
set_option maxHeartbeats 4000000 in
set_option maxRecDepth 100000 in
theorem mX8_apart (l : Launch) (dC : Nat → ClassId) (dI : Nat → Nat → Nat) (cI cZ cC cO : ClassId) (q0 : Nat → Nat) (a1 : Int32) (a2 : Int32) (g0 : GX8) (out : Int32) (hf : fX8_apart a1 a2 g0 = some out) : Met l yX8_apart wsX8_apart rmX8_apart (va_Pc [.ref (q0 0), .int a1, .int a2] (pcR (dC, dI) (wTys cI cZ cC cO) (wX8 cI cZ cC q0 g0))) (vp_Si (fun r => r = out)) 0 0 (fun _ => False) := by
  refine Met.ofW (cc := cX8_apart) (maxL := 6) (ret := (some .int)) (by decide) rfl ?_
  intro p e s m args below meth c s₁ B hml hv
  obtain ⟨hargs, hP, hK, hN⟩ := hv
  have hx := B.exec
  have hb := B.bytes
  have hr := B.returns
  have hts := atoms_spec (ws := wsX8_apart) B.pre
  have hown : s.vm.findClass RX8 = some m.cls := findClass_of_methodNamed B.named
  have hlocks := B.notSynchronized
  have hE := lg_entry_eq m [.ref (q0 0), .int a1, .int a2] 6
  rw [← hargs] at hE
  rw [hE]
  have hl := lv_entry [.ref (q0 0), .int a1, .int a2] (n := 6) (Nat.le_of_ble_eq_true rfl)
  generalize (lg_sl [.ref (q0 0), .int a1, .int a2] ++ List.replicate (6 - (lg_sl [.ref (q0 0), .int a1, .int a2]).length) Slot.unset).toArray = ls at hl ⊢
  have hl : lv_has ls 6 [(0, .ref (q0 0)), (1, .int a1), (2, .int a2)] := hl
  unfold fX8_apart at hf
  refine lv_aload_n hx hb dX8_apart_0 rfl (lv_at hl 0 rfl) ?_
  refine lv_iload_n hx hb dX8_apart_1 rfl (lv_at hl 1 rfl) ?_
  obtain ⟨o2, ho2, hf⟩ := ob hf
  refine rV (rest := []) (As := [.int a1]) ⟨hx, hb, hml, hown, hts⟩ (mX8_isGrain l dC dI cI cZ cC cO q0 _ _ _ ho2) (cwV 1 hts gX8_apart_X8_isGrain rfl rfl rfl (by decide +kernel) ⟨Nat.le_of_ble_eq_true rfl, Nat.le_of_ble_eq_true rfl⟩) hK hN hP [0, 1, 2, 3, 4, 5, 6, 7, 8] rfl 7 rfl rfl rfl rfl hl.1 rfl (Nat.le_of_ble_eq_true rfl) dX8_apart_2 ⟨Nat.zero_le _, Nat.zero_le _⟩ ?_
  refine lv_if_eq (tgt := 16) hx hb dX8_apart_5 (by decide) (fun hc => ?_) (fun hc => ?_)
  · have hf := ot hc hf
    refine lv_iconst (v := (-1)) hx hb dX8_apart_16 (by decide) ?_
    obtain rfl := Option.some.inj hf
    exact W.iret (v := (-1)) hx hb hr (fun t ht hW => ⟨_, rfl, rfl, ht⟩) (fun _ h => by cases h) dX8_apart_17
  · have hf := oe hc hf
    refine lv_aload_n hx hb dX8_apart_8 rfl (lv_at hl 0 rfl) ?_
    refine lv_iload_n hx hb dX8_apart_9 rfl (lv_at hl 2 rfl) ?_
    obtain ⟨o10, ho10, hf⟩ := ob hf
    refine rV (rest := []) (As := [.int a2]) ⟨hx, hb, hml, hown, hts⟩ (mX8_isGrain l dC dI cI cZ cC cO q0 _ _ _ ho10) (cwV 1 hts gX8_apart_X8_isGrain rfl rfl rfl (by decide +kernel) ⟨Nat.le_of_ble_eq_true rfl, Nat.le_of_ble_eq_true rfl⟩) hK hN hP [0, 1, 2, 3, 4, 5, 6, 7, 8] rfl 7 rfl rfl rfl rfl hl.1 rfl (Nat.le_of_ble_eq_true rfl) dX8_apart_10 ⟨Nat.zero_le _, Nat.zero_le _⟩ ?_
    refine lv_if_ne (tgt := 18) hx hb dX8_apart_13 (by decide) (fun hc => ?_) (fun hc => ?_)
    · have hf := oe hc hf
      refine lv_iload_n hx hb dX8_apart_18 rfl (lv_at hl 1 rfl) ?_
      refine lv_istore_n (lv' := [(3, .int a1), (0, .ref (q0 0)), (1, .int a1), (2, .int a2)]) hx hb dX8_apart_19 rfl hl (by decide) rfl (fun ls hl => ?_)
      refine lv_iload_n hx hb dX8_apart_20 rfl (lv_at hl 3 rfl) ?_
      refine lv_istore (lv' := [(4, .int a2), (3, .int a1), (0, .ref (q0 0)), (1, .int a1), (2, .int a2)]) hx hb dX8_apart_21 hl (by decide) rfl (fun ls hl => ?_)
      refine lv_iconst (v := 0) hx hb dX8_apart_23 (by decide) ?_
      refine lv_istore (lv' := [(5, .int 0), (4, .int a2), (3, .int a1), (0, .ref (q0 0)), (1, .int a1), (2, .int a2)]) hx hb dX8_apart_24 hl (by decide) rfl (fun ls hl => ?_)
      have hL26 : ∀ (n : Nat) (s26 : Int32 × Int32 × Int32) (o26 : Int32 × Int32 × Int32), lp (tX8_apart_26 g0) n s26 = some o26 → ∀ (ls : Array Slot), lv_has ls 6 [(0, .ref (q0 0)), (3, .int s26.1), (4, .int s26.2.1), (5, .int s26.2.2)] → (∀ (ls : Array Slot), lv_has ls 6 [(3, .int o26.1), (4, .int o26.2.1), (5, .int o26.2.2)] → W p l e (headSpec wsX8_apart rmX8_apart).room s m args below meth c s.heap [] 0 0 (MQ below (vp_Si (fun r => r = out)) args s 0 0 (fun _ => False)) (F0 m 70 ls [])) → W p l e (headSpec wsX8_apart rmX8_apart).room s m args below meth c s.heap [] 0 0 (MQ below (vp_Si (fun r => r = out)) args s 0 0 (fun _ => False)) (F0 m 26 ls []) := by
        intro n
        induction n with
        | zero => intro s26 o26 hf; exact (lp0 hf).elim
        | succ n ih26 =>
          intro s26 o26 hf ls hl kx
          obtain ⟨r26, hf, hn⟩ := lps hf
          unfold tX8_apart_26 at hf
          refine lv_iload_n hx hb dX8_apart_26 rfl (lv_at hl 1 rfl) ?_
          refine lv_iload hx hb dX8_apart_27 (lv_at hl 2 rfl) ?_
          refine lv_icmp_eq (tgt := 70) hx hb dX8_apart_29 (by decide) (fun hc => ?_) (fun hc => ?_)
          · have hf := ot hc hf
            obtain rfl := Option.some.inj hf
            obtain rfl := Option.some.inj hn
            exact kx ls (lv_sub hl [1, 2, 3] rfl)
          · have hf := oe hc hf
            refine lv_iload_n hx hb dX8_apart_32 rfl (lv_at hl 1 rfl) ?_
            refine lv_if_lt (tgt := 70) hx hb dX8_apart_33 (by decide) (fun hc => ?_) (fun hc => ?_)
            · have hf := ot hc hf
              obtain rfl := Option.some.inj hf
              obtain rfl := Option.some.inj hn
              exact kx ls (lv_sub hl [1, 2, 3] rfl)
            · have hf := oe hc hf
              refine lv_iload hx hb dX8_apart_36 (lv_at hl 2 rfl) ?_
              refine lv_if_lt (tgt := 70) hx hb dX8_apart_38 (by decide) (fun hc => ?_) (fun hc => ?_)
              · have hf := ot hc hf
                obtain rfl := Option.some.inj hf
                obtain rfl := Option.some.inj hn
                exact kx ls (lv_sub hl [1, 2, 3] rfl)
              · have hf := oe hc hf
                refine lv_iinc (v := (s26.2.2 + 1)) (lv' := [(5, .int (s26.2.2 + 1)), (0, .ref (q0 0)), (3, .int s26.1), (4, .int s26.2.1)]) hx hb dX8_apart_41 hl (k := 3) rfl rfl (by decide) rfl (fun ls hl => ?_)
                refine lv_iload_n hx hb dX8_apart_44 rfl (lv_at hl 2 rfl) ?_
                refine lv_iload hx hb dX8_apart_45 (lv_at hl 3 rfl) ?_
                refine lv_icmp_le (tgt := 59) hx hb dX8_apart_47 (by decide) (fun hc => ?_) (fun hc => ?_)
                · have hf := ot hc hf
                  refine lv_aload_n hx hb dX8_apart_59 rfl (lv_at hl 1 rfl) ?_
                  refine lv_iload hx hb dX8_apart_60 (lv_at hl 3 rfl) ?_
                  obtain ⟨o62, ho62, hf⟩ := ob hf
                  refine rV (rest := []) (As := [.int s26.2.1]) ⟨hx, hb, hml, hown, hts⟩ (mX8_holder l dC dI cI cZ cC cO q0 _ _ _ ho62) (cwV 1 hts gX8_apart_X8_holder rfl rfl rfl (by decide +kernel) ⟨Nat.le_of_ble_eq_true rfl, Nat.le_of_ble_eq_true rfl⟩) hK hN hP [0, 1, 2, 3, 4, 5, 6, 7, 8] rfl 7 rfl rfl rfl rfl hl.1 rfl (Nat.le_of_ble_eq_true rfl) dX8_apart_62 ⟨Nat.zero_le _, Nat.zero_le _⟩ ?_
                  refine lv_istore (lv' := [(4, .int o62), (5, .int (s26.2.2 + 1)), (0, .ref (q0 0)), (3, .int s26.1)]) hx hb dX8_apart_65 hl (by decide) rfl (fun ls hl => ?_)
                  refine lv_goto (tgt := 26) hx hb dX8_apart_67 (by decide) ?_
                  obtain rfl := Option.some.inj hf
                  exact ih26 _ _ hn ls (lv_sub hl [2, 3, 0, 1] rfl) kx
                · have hf := oe hc hf
                  refine lv_aload_n hx hb dX8_apart_50 rfl (lv_at hl 1 rfl) ?_
                  refine lv_iload_n hx hb dX8_apart_51 rfl (lv_at hl 2 rfl) ?_
                  obtain ⟨o52, ho52, hf⟩ := ob hf
                  refine rV (rest := []) (As := [.int s26.1]) ⟨hx, hb, hml, hown, hts⟩ (mX8_holder l dC dI cI cZ cC cO q0 _ _ _ ho52) (cwV 1 hts gX8_apart_X8_holder rfl rfl rfl (by decide +kernel) ⟨Nat.le_of_ble_eq_true rfl, Nat.le_of_ble_eq_true rfl⟩) hK hN hP [0, 1, 2, 3, 4, 5, 6, 7, 8] rfl 7 rfl rfl rfl rfl hl.1 rfl (Nat.le_of_ble_eq_true rfl) dX8_apart_52 ⟨Nat.zero_le _, Nat.zero_le _⟩ ?_
                  refine lv_istore_n (lv' := [(3, .int o52), (5, .int (s26.2.2 + 1)), (0, .ref (q0 0)), (4, .int s26.2.1)]) hx hb dX8_apart_55 rfl hl (by decide) rfl (fun ls hl => ?_)
                  refine lv_goto (tgt := 26) hx hb dX8_apart_56 (by decide) ?_
                  obtain rfl := Option.some.inj hf
                  exact ih26 _ _ hn ls (lv_sub hl [2, 0, 3, 1] rfl) kx
      obtain ⟨o26, ho26, hf⟩ := ob hf
      refine hL26 FU _ _ ho26 ls (lv_sub hl [3, 2, 1, 0] rfl) (fun ls hl => ?_)
      refine lv_iload_n hx hb dX8_apart_70 rfl (lv_at hl 0 rfl) ?_
      refine lv_iload hx hb dX8_apart_71 (lv_at hl 1 rfl) ?_
      refine lv_icmp_ne (tgt := 81) hx hb dX8_apart_73 (by decide) (fun hc => ?_) (fun hc => ?_)
      · have hf := oe hc hf
        refine lv_bipush (v := (-4)) hx hb dX8_apart_81 (by decide) ?_
        obtain rfl := Option.some.inj hf
        exact W.iret (v := (-4)) hx hb hr (fun t ht hW => ⟨_, rfl, rfl, ht⟩) (fun _ h => by cases h) dX8_apart_83
      · have hf := ot hc hf
        refine lv_iload hx hb dX8_apart_76 (lv_at hl 2 rfl) ?_
        refine lv_goto (tgt := 83) hx hb dX8_apart_78 (by decide) ?_
        obtain rfl := Option.some.inj hf
        exact W.iret (v := o26.2.2) hx hb hr (fun t ht hW => ⟨_, rfl, rfl, ht⟩) (fun _ h => by cases h) dX8_apart_83
    · have hf := ot hc hf
      refine lv_iconst (v := (-1)) hx hb dX8_apart_16 (by decide) ?_
      obtain rfl := Option.some.inj hf
      exact W.iret (v := (-1)) hx hb hr (fun t ht hW => ⟨_, rfl, rfl, ht⟩) (fun _ h => by cases h) dX8_apart_17
/-- RimGrainsModel.public int longest(int); -/
def tX8_longest_15 (s15 : (Int32 × GX8)) : Option ((Int32 × GX8) ⊕ (GX8)) :=
  (if ((pX8_s s15.2) (0 : Int32).toNatClampNeg) ≤ s15.1 then some (.inr s15.2) else (if s15.1 < 0 ∨ 121 ≤ s15.1.toNatClampNeg then none else some (.inl ((s15.1 + 1), ((pX8_s s15.2), (pX8_aside s15.2), (pX8_past s15.2), (pX8_known s15.2), (pX8_kept s15.2), (pX8_isKept s15.2), (pX8_pad s15.2), (pX8_length s15.2), (pX8_whyError s15.2), (pX8_whyNumber s15.2), (pX8_whySpot s15.2), (pX8_lots s15.2), (pX8_walker s15.2), (pX8_steps s15.2), (pX8_goes s15.2), (pX8_becomes s15.2), (pX8_spot s15.2), (pX8_isForm s15.2), (pX8_letter s15.2), (pX8_told s15.2), (upd (pX8_highest s15.2) s15.1.toNatClampNeg 0))))))
def jX8_longest_2 (s47 : (Int32 × Int32 × GX8)) (y0_1 : Int32) (g0_2 : GX8) : Option ((Int32 × Int32 × GX8) ⊕ (Int32 × GX8)) :=
  some (.inl (y0_1, (s47.2.1 + (-1)), g0_2))
def jX8_longest_1 (s47 : (Int32 × Int32 × GX8)) (o53 : (Int32)) (y0_1 : Int32) : Option ((Int32 × Int32 × GX8) ⊕ (Int32 × GX8)) :=
  (if o53 < 0 then jX8_longest_2 s47 y0_1 s47.2.2 else (if o53 < 0 ∨ 121 ≤ o53.toNatClampNeg then none else (if (((pX8_highest s47.2.2) s47.2.1.toNatClampNeg) + 1) ≤ ((pX8_highest s47.2.2) o53.toNatClampNeg) then jX8_longest_2 s47 y0_1 s47.2.2 else (if o53 < 0 ∨ 121 ≤ o53.toNatClampNeg then none else jX8_longest_2 s47 y0_1 ((pX8_s s47.2.2), (pX8_aside s47.2.2), (pX8_past s47.2.2), (pX8_known s47.2.2), (pX8_kept s47.2.2), (pX8_isKept s47.2.2), (pX8_pad s47.2.2), (pX8_length s47.2.2), (pX8_whyError s47.2.2), (pX8_whyNumber s47.2.2), (pX8_whySpot s47.2.2), (pX8_lots s47.2.2), (pX8_walker s47.2.2), (pX8_steps s47.2.2), (pX8_goes s47.2.2), (pX8_becomes s47.2.2), (pX8_spot s47.2.2), (pX8_isForm s47.2.2), (pX8_letter s47.2.2), (pX8_told s47.2.2), (upd (pX8_highest s47.2.2) o53.toNatClampNeg (((pX8_highest s47.2.2) s47.2.1.toNatClampNeg) + 1)))))))
def jX8_longest_3 (s47 : (Int32 × Int32 × GX8)) (o53 : (Int32)) : Option ((Int32 × Int32 × GX8) ⊕ (Int32 × GX8)) :=
  jX8_longest_1 s47 o53 s47.1
def tX8_longest_47 (s47 : (Int32 × Int32 × GX8)) : Option ((Int32 × Int32 × GX8) ⊕ (Int32 × GX8)) :=
  (if s47.2.1 < 0 then some (.inr (s47.1, s47.2.2)) else ((fX8_holder s47.2.1 s47.2.2).bind fun o53 => (if s47.2.1 < 0 ∨ 121 ≤ s47.2.1.toNatClampNeg then none else (if o53 < 0 then jX8_longest_3 s47 o53 else (if o53 < 0 ∨ 121 ≤ o53.toNatClampNeg then none else (if (((pX8_highest s47.2.2) o53.toNatClampNeg) + (((pX8_highest s47.2.2) s47.2.1.toNatClampNeg) + 1)) ≤ s47.1 then jX8_longest_3 s47 o53 else (if o53 < 0 ∨ 121 ≤ o53.toNatClampNeg then none else jX8_longest_1 s47 o53 (((pX8_highest s47.2.2) o53.toNatClampNeg) + (((pX8_highest s47.2.2) s47.2.1.toNatClampNeg) + 1)))))))))
def fX8_longest (a1 : Int32) (g0 : GX8) : Option (Int32 × GX8) :=
  ((fX8_in a1 0 1).bind fun o3 => (if o3 = 0 then some ((-1), g0) else ((lp tX8_longest_15 FU (0, g0)).bind fun o15 => ((lp tX8_longest_47 FU (0, (((pX8_s o15) (0 : Int32).toNatClampNeg) - 1), o15)).bind fun o47 => some (o47.1, o47.2)))))
abbrev rmX8_longest : Room := { frames := 2, cells := 0, slots := 0, locals := 43 }
set_option maxHeartbeats 4000000 in
set_option maxRecDepth 100000 in
theorem mX8_longest (l : Launch) (dC : Nat → ClassId) (dI : Nat → Nat → Nat) (cI cZ cC cO : ClassId) (q0 : Nat → Nat) (a1 : Int32) (g0 : GX8) (sz : Nat) (out : Int32 × GX8) (hf : fX8_longest a1 g0 = some out) : Met l yX8_longest wsX8_longest rmX8_longest (va_Pc [.ref (q0 0), .int a1] (pcW (dC, dI) (wTys cI cZ cC cO) sz (wX8 cI cZ cC q0 g0))) (va_Qi (fun r (_ : Unit) => r = out.1) (fun _ => poW (dC, dI) (va_A (wX8 cI cZ cC q0 g0) sz) (wX8 cI cZ cC q0 out.2)) (va_A (wX8 cI cZ cC q0 g0) sz)) 0 0 (va_A (wX8 cI cZ cC q0 g0) sz) := by
  refine Met.ofW (cc := cX8_longest) (maxL := 6) (ret := (some .int)) (by decide) rfl ?_
  intro p e s m args below meth c s₁ B hml hv
  obtain ⟨hargs, hsz, hP, hK, hN, hD0⟩ := hv
  have hx := B.exec
  have hb := B.bytes
  have hr := B.returns
  have hts := atoms_spec (ws := wsX8_longest) B.pre
  have hown : s.vm.findClass RX8 = some m.cls := findClass_of_methodNamed B.named
  have hlocks := B.notSynchronized
  have hk0 := hts (.fieldLink RX8 7 "RimGrainsModel" "s" "[I") (by decide +kernel)
  have hk1 := hts (.fieldLink RX8 32 "RimGrainsModel" "highest" "[I") (by decide +kernel)
  have hin8 : ∀ w ∈ wsX80, w ∈ wsX8_longest := by decide +kernel
  subst hsz
  have hD := hD0.self (sz := s.heap.size)
  generalize hAe : va_A (wX8 cI cZ cC q0 g0) s.heap.size = A at hD ⊢
  have hA : ∀ q : Nat, s.heap.size ≤ q → A q := fun q h => by rw [← hAe]; exact Or.inr h
  have hS : va_S A s.heap s.heap [] := va_S.rf
  have hE := lg_entry_eq m [.ref (q0 0), .int a1] 6
  rw [← hargs] at hE
  rw [hE]
  have hl := lv_entry [.ref (q0 0), .int a1] (n := 6) (Nat.le_of_ble_eq_true rfl)
  generalize (lg_sl [.ref (q0 0), .int a1] ++ List.replicate (6 - (lg_sl [.ref (q0 0), .int a1]).length) Slot.unset).toArray = ls at hl ⊢
  have hl : lv_has ls 6 [(0, .ref (q0 0)), (1, .int a1)] := hl
  have hP : va_P (dC, dI) vwCl (wX8 cI cZ cC q0 g0) s.heap := hP
  unfold fX8_longest at hf
  refine lv_iload_n hx hb dX8_longest_0 rfl (lv_at hl 1 rfl) ?_
  refine lv_iconst (v := 0) hx hb dX8_longest_1 (by decide) ?_
  refine lv_iconst (v := 1) hx hb dX8_longest_2 (by decide) ?_
  obtain ⟨o3, ho3, hf⟩ := ob hf
  refine rS (rest := []) (As := [.int a1, .int 0, .int 1]) ⟨hx, hb, hml, hown, hts⟩ (mX8_in l dC dI cI cZ cC cO  _ _ _ _ ho3) (va_cwS 3 hts gX8_longest_X8_in rfl rfl rfl (by decide +kernel) ⟨Nat.le_of_ble_eq_true rfl, Nat.le_of_ble_eq_true rfl⟩) hK hN hP [] rfl rfl hl.1 rfl (Nat.le_of_ble_eq_true rfl) dX8_longest_3 ⟨Nat.zero_le _, Nat.zero_le _⟩ ?_
  refine lv_if_ne (tgt := 11) hx hb dX8_longest_6 (by decide) (fun hc => ?_) (fun hc => ?_)
  · have hf := oe hc hf
    refine lv_iconst (v := 0) hx hb dX8_longest_11 (by decide) ?_
    refine lv_istore_n (lv' := [(2, .int 0), (0, .ref (q0 0)), (1, .int a1)]) hx hb dX8_longest_12 rfl hl (by decide) rfl (fun ls hl => ?_)
    refine lv_iconst (v := 0) hx hb dX8_longest_13 (by decide) ?_
    refine lv_istore_n (lv' := [(3, .int 0), (2, .int 0), (0, .ref (q0 0)), (1, .int a1)]) hx hb dX8_longest_14 rfl hl (by decide) rfl (fun ls hl => ?_)
    have hL15 : ∀ (n : Nat) (s15 : Int32 × GX8) (o15 : GX8), lp tX8_longest_15 n s15 = some o15 → ∀ (H : Heap) (locs : List Loc) (ls : Array Slot), va_P (dC, dI) vwCl (wX8 cI cZ cC q0 s15.2) H → va_D A (wX8 cI cZ cC q0 s15.2) → va_S A s.heap H locs → lv_has ls 6 [(0, .ref (q0 0)), (2, .int 0), (3, .int s15.1)] → (∀ (H : Heap) (locs : List Loc) (ls : Array Slot), va_P (dC, dI) vwCl (wX8 cI cZ cC q0 o15) H → va_D A (wX8 cI cZ cC q0 o15) → va_S A s.heap H locs → lv_has ls 6 [(0, .ref (q0 0)), (2, .int 0)] → W p l e (headSpec wsX8_longest rmX8_longest).room s m args below meth c H locs 0 0 (MQ below (va_Qi (fun r (_ : Unit) => r = out.1) (fun _ => poW (dC, dI) A (wX8 cI cZ cC q0 out.2)) A) args s 0 0 A) (F0 m 38 ls [])) → W p l e (headSpec wsX8_longest rmX8_longest).room s m args below meth c H locs 0 0 (MQ below (va_Qi (fun r (_ : Unit) => r = out.1) (fun _ => poW (dC, dI) A (wX8 cI cZ cC q0 out.2)) A) args s 0 0 A) (F0 m 15 ls []) := by
      intro n
      induction n with
      | zero => intro s15 o15 hf; exact (lp0 hf).elim
      | succ n ih15 =>
        intro s15 o15 hf H locs ls hP hD hS hl kx
        obtain ⟨r15, hf, hn⟩ := lps hf
        unfold tX8_longest_15 at hf
        refine lv_iload_n hx hb dX8_longest_15 rfl (lv_at hl 2 rfl) ?_
        refine lv_aload_n hx hb dX8_longest_16 rfl (lv_at hl 0 rfl) ?_
        refine va_get (D := (dC, dI)) (ci := 7) (v := .ref (q0 1)) (C := RX8) (T := TX8) (N := 21) hx hb hts hin8 hown hK hP 0 rfl rfl 0 (by decide) hk0 (fun _ h9 => h9) rfl dX8_longest_17 ?_
        refine lv_iconst (v := 0) hx hb dX8_longest_20 (by decide) ?_
        have hin : vp_in (0 : Int32) 373 := by unfold vp_in; decide
        refine va_iald hx hb hK hP 1 0 rfl rfl hin dX8_longest_21 ?_
        refine lv_icmp_ge (tgt := 38) hx hb dX8_longest_22 (by decide) (fun hc => ?_) (fun hc => ?_)
        · have hf := ot hc hf
          obtain rfl := Option.some.inj hf
          obtain rfl := Option.some.inj hn
          exact kx _ _ ls hP hD hS (lv_sub hl [0, 1] rfl)
        · have hf := oe hc hf
          refine lv_aload_n hx hb dX8_longest_25 rfl (lv_at hl 0 rfl) ?_
          refine va_get (D := (dC, dI)) (ci := 7) (v := .ref (q0 8)) (C := RX8) (T := TX8) (N := 21) hx hb hts hin8 hown hK hP 0 rfl rfl 20 (by decide) hk1 (fun _ h9 => h9) rfl dX8_longest_26 ?_
          refine lv_iload_n hx hb dX8_longest_29 rfl (lv_at hl 2 rfl) ?_
          refine lv_iconst (v := 0) hx hb dX8_longest_30 (by decide) ?_
          obtain ⟨hin, hf⟩ := og hf
          refine va_iast hx hb hK hP hD hS 8 0 rfl rfl hin dX8_longest_31 (fun H locs hP hD hS => ?_)
          have hP : va_P (dC, dI) vwCl (wX8 cI cZ cC q0 ((pX8_s s15.2), (pX8_aside s15.2), (pX8_past s15.2), (pX8_known s15.2), (pX8_kept s15.2), (pX8_isKept s15.2), (pX8_pad s15.2), (pX8_length s15.2), (pX8_whyError s15.2), (pX8_whyNumber s15.2), (pX8_whySpot s15.2), (pX8_lots s15.2), (pX8_walker s15.2), (pX8_steps s15.2), (pX8_goes s15.2), (pX8_becomes s15.2), (pX8_spot s15.2), (pX8_isForm s15.2), (pX8_letter s15.2), (pX8_told s15.2), (upd (pX8_highest s15.2) s15.1.toNatClampNeg 0))) H := hP
          have hD : va_D A (wX8 cI cZ cC q0 ((pX8_s s15.2), (pX8_aside s15.2), (pX8_past s15.2), (pX8_known s15.2), (pX8_kept s15.2), (pX8_isKept s15.2), (pX8_pad s15.2), (pX8_length s15.2), (pX8_whyError s15.2), (pX8_whyNumber s15.2), (pX8_whySpot s15.2), (pX8_lots s15.2), (pX8_walker s15.2), (pX8_steps s15.2), (pX8_goes s15.2), (pX8_becomes s15.2), (pX8_spot s15.2), (pX8_isForm s15.2), (pX8_letter s15.2), (pX8_told s15.2), (upd (pX8_highest s15.2) s15.1.toNatClampNeg 0))) := hD
          refine lv_iinc (v := (s15.1 + 1)) (lv' := [(3, .int (s15.1 + 1)), (0, .ref (q0 0)), (2, .int 0)]) hx hb dX8_longest_32 hl (k := 2) rfl rfl (by decide) rfl (fun ls hl => ?_)
          refine lv_goto (tgt := 15) hx hb dX8_longest_35 (by decide) ?_
          obtain rfl := Option.some.inj hf
          exact ih15 _ _ hn _ _ ls hP hD hS (lv_sub hl [1, 2, 0] rfl) kx
    obtain ⟨o15, ho15, hf⟩ := ob hf
    refine hL15 FU _ _ ho15 _ _ ls hP hD hS (lv_sub hl [2, 1, 0] rfl) (fun H locs ls hP hD hS hl => ?_)
    refine lv_aload_n hx hb dX8_longest_38 rfl (lv_at hl 0 rfl) ?_
    refine va_get (D := (dC, dI)) (ci := 7) (v := .ref (q0 1)) (C := RX8) (T := TX8) (N := 21) hx hb hts hin8 hown hK hP 0 rfl rfl 0 (by decide) hk0 (fun _ h9 => h9) rfl dX8_longest_39 ?_
    refine lv_iconst (v := 0) hx hb dX8_longest_42 (by decide) ?_
    have hin : vp_in (0 : Int32) 373 := by unfold vp_in; decide
    refine va_iald hx hb hK hP 1 0 rfl rfl hin dX8_longest_43 ?_
    refine lv_iconst (v := 1) hx hb dX8_longest_44 (by decide) ?_
    refine lv_isub hx hb dX8_longest_45 ?_
    refine lv_istore_n (lv' := [(3, .int (((pX8_s o15) (0 : Int32).toNatClampNeg) - 1)), (0, .ref (q0 0)), (2, .int 0)]) hx hb dX8_longest_46 rfl hl (by decide) rfl (fun ls hl => ?_)
    have hL47 : ∀ (n : Nat) (s47 : Int32 × Int32 × GX8) (o47 : Int32 × GX8), lp tX8_longest_47 n s47 = some o47 → ∀ (H : Heap) (locs : List Loc) (ls : Array Slot), va_P (dC, dI) vwCl (wX8 cI cZ cC q0 s47.2.2) H → va_D A (wX8 cI cZ cC q0 s47.2.2) → va_S A s.heap H locs → lv_has ls 6 [(0, .ref (q0 0)), (2, .int s47.1), (3, .int s47.2.1)] → (∀ (H : Heap) (locs : List Loc) (ls : Array Slot), va_P (dC, dI) vwCl (wX8 cI cZ cC q0 o47.2) H → va_D A (wX8 cI cZ cC q0 o47.2) → va_S A s.heap H locs → lv_has ls 6 [(2, .int o47.1)] → W p l e (headSpec wsX8_longest rmX8_longest).room s m args below meth c H locs 0 0 (MQ below (va_Qi (fun r (_ : Unit) => r = out.1) (fun _ => poW (dC, dI) A (wX8 cI cZ cC q0 out.2)) A) args s 0 0 A) (F0 m 134 ls [])) → W p l e (headSpec wsX8_longest rmX8_longest).room s m args below meth c H locs 0 0 (MQ below (va_Qi (fun r (_ : Unit) => r = out.1) (fun _ => poW (dC, dI) A (wX8 cI cZ cC q0 out.2)) A) args s 0 0 A) (F0 m 47 ls []) := by
      intro n
      induction n with
      | zero => intro s47 o47 hf; exact (lp0 hf).elim
      | succ n ih47 =>
        intro s47 o47 hf H locs ls hP hD hS hl kx
        obtain ⟨r47, hf, hn⟩ := lps hf
        unfold tX8_longest_47 at hf
        refine lv_iload_n hx hb dX8_longest_47 rfl (lv_at hl 2 rfl) ?_
        refine lv_if_lt (tgt := 134) hx hb dX8_longest_48 (by decide) (fun hc => ?_) (fun hc => ?_)
        · have hf := ot hc hf
          obtain rfl := Option.some.inj hf
          obtain rfl := Option.some.inj hn
          exact kx _ _ ls hP hD hS (lv_sub hl [1] rfl)
        · have hf := oe hc hf
          refine lv_aload_n hx hb dX8_longest_51 rfl (lv_at hl 0 rfl) ?_
          refine lv_iload_n hx hb dX8_longest_52 rfl (lv_at hl 2 rfl) ?_
          obtain ⟨o53, ho53, hf⟩ := ob hf
          refine rV (rest := []) (As := [.int s47.2.1]) ⟨hx, hb, hml, hown, hts⟩ (mX8_holder l dC dI cI cZ cC cO q0 _ _ _ ho53) (cwV 1 hts gX8_longest_X8_holder rfl rfl rfl (by decide +kernel) ⟨Nat.le_of_ble_eq_true rfl, Nat.le_of_ble_eq_true rfl⟩) hK hN hP [0, 1, 2, 3, 4, 5, 6, 7, 8] rfl 7 rfl rfl rfl rfl hl.1 rfl (Nat.le_of_ble_eq_true rfl) dX8_longest_53 ⟨Nat.zero_le _, Nat.zero_le _⟩ ?_
          refine lv_istore (lv' := [(4, .int o53), (0, .ref (q0 0)), (2, .int s47.1), (3, .int s47.2.1)]) hx hb dX8_longest_56 hl (by decide) rfl (fun ls hl => ?_)
          refine lv_aload_n hx hb dX8_longest_58 rfl (lv_at hl 1 rfl) ?_
          refine va_get (D := (dC, dI)) (ci := 7) (v := .ref (q0 8)) (C := RX8) (T := TX8) (N := 21) hx hb hts hin8 hown hK hP 0 rfl rfl 20 (by decide) hk1 (fun _ h9 => h9) rfl dX8_longest_59 ?_
          refine lv_iload_n hx hb dX8_longest_62 rfl (lv_at hl 3 rfl) ?_
          obtain ⟨hin, hf⟩ := og hf
          refine va_iald hx hb hK hP 8 0 rfl rfl hin dX8_longest_63 ?_
          refine lv_iconst (v := 1) hx hb dX8_longest_64 (by decide) ?_
          refine lv_iadd hx hb dX8_longest_65 ?_
          refine lv_istore (lv' := [(5, .int (((pX8_highest s47.2.2) s47.2.1.toNatClampNeg) + 1)), (4, .int o53), (0, .ref (q0 0)), (2, .int s47.1), (3, .int s47.2.1)]) hx hb dX8_longest_66 hl (by decide) rfl (fun ls hl => ?_)
          refine lv_iload hx hb dX8_longest_68 (lv_at hl 1 rfl) ?_
          have hJ1 : ∀ (y0_1 : Int32), jX8_longest_1 s47 o53 y0_1 = some r47 → ∀ (H : Heap) (locs : List Loc) (ls : Array Slot), va_P (dC, dI) vwCl (wX8 cI cZ cC q0 s47.2.2) H → va_D A (wX8 cI cZ cC q0 s47.2.2) → va_S A s.heap H locs → lv_has ls 6 [(0, .ref (q0 0)), (3, .int s47.2.1), (4, .int o53), (5, .int (((pX8_highest s47.2.2) s47.2.1.toNatClampNeg) + 1))] → W p l e (headSpec wsX8_longest rmX8_longest).room s m args below meth c H locs 0 0 (MQ below (va_Qi (fun r (_ : Unit) => r = out.1) (fun _ => poW (dC, dI) A (wX8 cI cZ cC q0 out.2)) A) args s 0 0 A) (F0 m 101 ls [.int y0_1]) := by
            intro y0_1 hf H locs ls hP hD hS hl
            unfold jX8_longest_1 at hf
            refine lv_istore_n (lv' := [(2, .int y0_1), (0, .ref (q0 0)), (3, .int s47.2.1), (4, .int o53), (5, .int (((pX8_highest s47.2.2) s47.2.1.toNatClampNeg) + 1))]) hx hb dX8_longest_101 rfl hl (by decide) rfl (fun ls hl => ?_)
            refine lv_iload hx hb dX8_longest_102 (lv_at hl 3 rfl) ?_
            have hJ2 : ∀ (g0_2 : GX8), jX8_longest_2 s47 y0_1 g0_2 = some r47 → ∀ (H : Heap) (locs : List Loc) (ls : Array Slot), va_P (dC, dI) vwCl (wX8 cI cZ cC q0 g0_2) H → va_D A (wX8 cI cZ cC q0 g0_2) → va_S A s.heap H locs → lv_has ls 6 [(0, .ref (q0 0)), (2, .int y0_1), (3, .int s47.2.1)] → W p l e (headSpec wsX8_longest rmX8_longest).room s m args below meth c H locs 0 0 (MQ below (va_Qi (fun r (_ : Unit) => r = out.1) (fun _ => poW (dC, dI) A (wX8 cI cZ cC q0 out.2)) A) args s 0 0 A) (F0 m 128 ls []) := by
              intro g0_2 hf H locs ls hP hD hS hl
              unfold jX8_longest_2 at hf
              refine lv_iinc (v := (s47.2.1 + (-1))) (lv' := [(3, .int (s47.2.1 + (-1))), (0, .ref (q0 0)), (2, .int y0_1)]) hx hb dX8_longest_128 hl (k := 2) rfl rfl (by decide) rfl (fun ls hl => ?_)
              refine lv_goto (tgt := 47) hx hb dX8_longest_131 (by decide) ?_
              obtain rfl := Option.some.inj hf
              exact ih47 _ _ hn _ _ ls hP hD hS (lv_sub hl [1, 2, 0] rfl) kx
            refine lv_if_lt (tgt := 128) hx hb dX8_longest_104 (by decide) (fun hc => ?_) (fun hc => ?_)
            · have hf := ot hc hf
              exact hJ2 _ hf _ _ ls hP hD hS (lv_sub hl [1, 0, 2] rfl)
            · have hf := oe hc hf
              refine lv_iload hx hb dX8_longest_107 (lv_at hl 4 rfl) ?_
              refine lv_aload_n hx hb dX8_longest_109 rfl (lv_at hl 1 rfl) ?_
              refine va_get (D := (dC, dI)) (ci := 7) (v := .ref (q0 8)) (C := RX8) (T := TX8) (N := 21) hx hb hts hin8 hown hK hP 0 rfl rfl 20 (by decide) hk1 (fun _ h9 => h9) rfl dX8_longest_110 ?_
              refine lv_iload hx hb dX8_longest_113 (lv_at hl 3 rfl) ?_
              obtain ⟨hin, hf⟩ := og hf
              refine va_iald hx hb hK hP 8 0 rfl rfl hin dX8_longest_115 ?_
              refine lv_icmp_le (tgt := 128) hx hb dX8_longest_116 (by decide) (fun hc => ?_) (fun hc => ?_)
              · have hf := ot hc hf
                exact hJ2 _ hf _ _ ls hP hD hS (lv_sub hl [1, 0, 2] rfl)
              · have hf := oe hc hf
                refine lv_aload_n hx hb dX8_longest_119 rfl (lv_at hl 1 rfl) ?_
                refine va_get (D := (dC, dI)) (ci := 7) (v := .ref (q0 8)) (C := RX8) (T := TX8) (N := 21) hx hb hts hin8 hown hK hP 0 rfl rfl 20 (by decide) hk1 (fun _ h9 => h9) rfl dX8_longest_120 ?_
                refine lv_iload hx hb dX8_longest_123 (lv_at hl 3 rfl) ?_
                refine lv_iload hx hb dX8_longest_125 (lv_at hl 4 rfl) ?_
                obtain ⟨hin, hf⟩ := og hf
                refine va_iast hx hb hK hP hD hS 8 0 rfl rfl hin dX8_longest_127 (fun H locs hP hD hS => ?_)
                have hP : va_P (dC, dI) vwCl (wX8 cI cZ cC q0 ((pX8_s s47.2.2), (pX8_aside s47.2.2), (pX8_past s47.2.2), (pX8_known s47.2.2), (pX8_kept s47.2.2), (pX8_isKept s47.2.2), (pX8_pad s47.2.2), (pX8_length s47.2.2), (pX8_whyError s47.2.2), (pX8_whyNumber s47.2.2), (pX8_whySpot s47.2.2), (pX8_lots s47.2.2), (pX8_walker s47.2.2), (pX8_steps s47.2.2), (pX8_goes s47.2.2), (pX8_becomes s47.2.2), (pX8_spot s47.2.2), (pX8_isForm s47.2.2), (pX8_letter s47.2.2), (pX8_told s47.2.2), (upd (pX8_highest s47.2.2) o53.toNatClampNeg (((pX8_highest s47.2.2) s47.2.1.toNatClampNeg) + 1)))) H := hP
                have hD : va_D A (wX8 cI cZ cC q0 ((pX8_s s47.2.2), (pX8_aside s47.2.2), (pX8_past s47.2.2), (pX8_known s47.2.2), (pX8_kept s47.2.2), (pX8_isKept s47.2.2), (pX8_pad s47.2.2), (pX8_length s47.2.2), (pX8_whyError s47.2.2), (pX8_whyNumber s47.2.2), (pX8_whySpot s47.2.2), (pX8_lots s47.2.2), (pX8_walker s47.2.2), (pX8_steps s47.2.2), (pX8_goes s47.2.2), (pX8_becomes s47.2.2), (pX8_spot s47.2.2), (pX8_isForm s47.2.2), (pX8_letter s47.2.2), (pX8_told s47.2.2), (upd (pX8_highest s47.2.2) o53.toNatClampNeg (((pX8_highest s47.2.2) s47.2.1.toNatClampNeg) + 1)))) := hD
                exact hJ2 _ hf _ _ ls hP hD hS (lv_sub hl [1, 0, 2] rfl)
          have hJ3 : jX8_longest_3 s47 o53 = some r47 → ∀ (H : Heap) (locs : List Loc) (ls : Array Slot), va_P (dC, dI) vwCl (wX8 cI cZ cC q0 s47.2.2) H → va_D A (wX8 cI cZ cC q0 s47.2.2) → va_S A s.heap H locs → lv_has ls 6 [(0, .ref (q0 0)), (2, .int s47.1), (3, .int s47.2.1), (4, .int o53), (5, .int (((pX8_highest s47.2.2) s47.2.1.toNatClampNeg) + 1))] → W p l e (headSpec wsX8_longest rmX8_longest).room s m args below meth c H locs 0 0 (MQ below (va_Qi (fun r (_ : Unit) => r = out.1) (fun _ => poW (dC, dI) A (wX8 cI cZ cC q0 out.2)) A) args s 0 0 A) (F0 m 100 ls []) := by
            intro  hf H locs ls hP hD hS hl
            unfold jX8_longest_3 at hf
            refine lv_iload_n hx hb dX8_longest_100 rfl (lv_at hl 1 rfl) ?_
            exact hJ1 _ hf _ _ ls hP hD hS (lv_sub hl [0, 2, 3, 4] rfl)
          refine lv_if_lt (tgt := 100) hx hb dX8_longest_70 (by decide) (fun hc => ?_) (fun hc => ?_)
          · have hf := ot hc hf
            exact hJ3 hf _ _ ls hP hD hS (lv_sub hl [2, 3, 4, 1, 0] rfl)
          · have hf := oe hc hf
            refine lv_aload_n hx hb dX8_longest_73 rfl (lv_at hl 2 rfl) ?_
            refine va_get (D := (dC, dI)) (ci := 7) (v := .ref (q0 8)) (C := RX8) (T := TX8) (N := 21) hx hb hts hin8 hown hK hP 0 rfl rfl 20 (by decide) hk1 (fun _ h9 => h9) rfl dX8_longest_74 ?_
            refine lv_iload hx hb dX8_longest_77 (lv_at hl 1 rfl) ?_
            obtain ⟨hin, hf⟩ := og hf
            refine va_iald hx hb hK hP 8 0 rfl rfl hin dX8_longest_79 ?_
            refine lv_iload hx hb dX8_longest_80 (lv_at hl 0 rfl) ?_
            refine lv_iadd hx hb dX8_longest_82 ?_
            refine lv_iload_n hx hb dX8_longest_83 rfl (lv_at hl 3 rfl) ?_
            refine lv_icmp_le (tgt := 100) hx hb dX8_longest_84 (by decide) (fun hc => ?_) (fun hc => ?_)
            · have hf := ot hc hf
              exact hJ3 hf _ _ ls hP hD hS (lv_sub hl [2, 3, 4, 1, 0] rfl)
            · have hf := oe hc hf
              refine lv_aload_n hx hb dX8_longest_87 rfl (lv_at hl 2 rfl) ?_
              refine va_get (D := (dC, dI)) (ci := 7) (v := .ref (q0 8)) (C := RX8) (T := TX8) (N := 21) hx hb hts hin8 hown hK hP 0 rfl rfl 20 (by decide) hk1 (fun _ h9 => h9) rfl dX8_longest_88 ?_
              refine lv_iload hx hb dX8_longest_91 (lv_at hl 1 rfl) ?_
              obtain ⟨hin, hf⟩ := og hf
              refine va_iald hx hb hK hP 8 0 rfl rfl hin dX8_longest_93 ?_
              refine lv_iload hx hb dX8_longest_94 (lv_at hl 0 rfl) ?_
              refine lv_iadd hx hb dX8_longest_96 ?_
              refine lv_goto (tgt := 101) hx hb dX8_longest_97 (by decide) ?_
              exact hJ1 _ hf _ _ ls hP hD hS (lv_sub hl [2, 4, 1, 0] rfl)
    obtain ⟨o47, ho47, hf⟩ := ob hf
    refine hL47 FU _ _ ho47 _ _ ls hP hD hS (lv_sub hl [1, 2, 0] rfl) (fun H locs ls hP hD hS hl => ?_)
    refine lv_iload_n hx hb dX8_longest_134 rfl (lv_at hl 0 rfl) ?_
    obtain rfl := Option.some.inj hf
    exact W.iret (v := o47.1) hx hb hr (fun t ht hW => ⟨⟨_, (), rfl, rfl, by rw [ht]; exact hP, hD⟩, hS.F ht⟩) hS.2.2 dX8_longest_135
  · have hf := ot hc hf
    refine lv_iconst (v := (-1)) hx hb dX8_longest_9 (by decide) ?_
    obtain rfl := Option.some.inj hf
    exact W.iret (v := (-1)) hx hb hr (fun t ht hW => ⟨⟨_, (), rfl, rfl, by rw [ht]; exact hP, hD⟩, hS.F ht⟩) hS.2.2 dX8_longest_10
/-- RimGrainsModel.private int reachOf(); -/
def jX8_reachOf_1 (s4 : (Int32 × Int32)) (y0_1 : Int32) : Option ((Int32 × Int32) ⊕ (Int32)) :=
  some (.inl (y0_1, (s4.2 + 1)))
def tX8_reachOf_4 (g0 : GX8) (s4 : (Int32 × Int32)) : Option ((Int32 × Int32) ⊕ (Int32)) :=
  (if ((pX8_s g0) (0 : Int32).toNatClampNeg) ≤ s4.2 then some (.inr s4.1) else ((fX8_of s4.2 0 g0).bind fun o17 => ((fX8_ringOf o17).bind fun o20 => (if o20 ≤ s4.1 then jX8_reachOf_1 s4 s4.1 else ((fX8_of s4.2 0 g0).bind fun o30 => ((fX8_ringOf o30).bind fun o33 => jX8_reachOf_1 s4 o33))))))
def fX8_reachOf (g0 : GX8) : Option (Int32) :=
  ((lp (tX8_reachOf_4 g0) FU (0, 0)).bind fun o4 => some o4)
abbrev rmX8_reachOf : Room := { frames := 2, cells := 0, slots := 0, locals := 42 }
set_option maxHeartbeats 4000000 in
set_option maxRecDepth 100000 in
theorem mX8_reachOf (l : Launch) (dC : Nat → ClassId) (dI : Nat → Nat → Nat) (cI cZ cC cO : ClassId) (q0 : Nat → Nat) (g0 : GX8) (out : Int32) (hf : fX8_reachOf g0 = some out) : Met l yX8_reachOf wsX8_reachOf rmX8_reachOf (va_Pc [.ref (q0 0)] (pcR (dC, dI) (wTys cI cZ cC cO) (wX8 cI cZ cC q0 g0))) (vp_Si (fun r => r = out)) 0 0 (fun _ => False) := by
  refine Met.ofW (cc := cX8_reachOf) (maxL := 3) (ret := (some .int)) (by decide) rfl ?_
  intro p e s m args below meth c s₁ B hml hv
  obtain ⟨hargs, hP, hK, hN⟩ := hv
  have hx := B.exec
  have hb := B.bytes
  have hr := B.returns
  have hts := atoms_spec (ws := wsX8_reachOf) B.pre
  have hown : s.vm.findClass RX8 = some m.cls := findClass_of_methodNamed B.named
  have hlocks := B.notSynchronized
  have hk0 := hts (.fieldLink RX8 7 "RimGrainsModel" "s" "[I") (by decide +kernel)
  have hin8 : ∀ w ∈ wsX80, w ∈ wsX8_reachOf := by decide +kernel
  have hE := lg_entry_eq m [.ref (q0 0)] 3
  rw [← hargs] at hE
  rw [hE]
  have hl := lv_entry [.ref (q0 0)] (n := 3) (Nat.le_of_ble_eq_true rfl)
  generalize (lg_sl [.ref (q0 0)] ++ List.replicate (3 - (lg_sl [.ref (q0 0)]).length) Slot.unset).toArray = ls at hl ⊢
  have hl : lv_has ls 3 [(0, .ref (q0 0))] := hl
  unfold fX8_reachOf at hf
  refine lv_iconst (v := 0) hx hb dX8_reachOf_0 (by decide) ?_
  refine lv_istore_n (lv' := [(1, .int 0), (0, .ref (q0 0))]) hx hb dX8_reachOf_1 rfl hl (by decide) rfl (fun ls hl => ?_)
  refine lv_iconst (v := 0) hx hb dX8_reachOf_2 (by decide) ?_
  refine lv_istore_n (lv' := [(2, .int 0), (1, .int 0), (0, .ref (q0 0))]) hx hb dX8_reachOf_3 rfl hl (by decide) rfl (fun ls hl => ?_)
  have hL4 : ∀ (n : Nat) (s4 : Int32 × Int32) (o4 : Int32), lp (tX8_reachOf_4 g0) n s4 = some o4 → ∀ (ls : Array Slot), lv_has ls 3 [(0, .ref (q0 0)), (1, .int s4.1), (2, .int s4.2)] → (∀ (ls : Array Slot), lv_has ls 3 [(1, .int o4)] → W p l e (headSpec wsX8_reachOf rmX8_reachOf).room s m args below meth c s.heap [] 0 0 (MQ below (vp_Si (fun r => r = out)) args s 0 0 (fun _ => False)) (F0 m 47 ls [])) → W p l e (headSpec wsX8_reachOf rmX8_reachOf).room s m args below meth c s.heap [] 0 0 (MQ below (vp_Si (fun r => r = out)) args s 0 0 (fun _ => False)) (F0 m 4 ls []) := by
    intro n
    induction n with
    | zero => intro s4 o4 hf; exact (lp0 hf).elim
    | succ n ih4 =>
      intro s4 o4 hf ls hl kx
      obtain ⟨r4, hf, hn⟩ := lps hf
      unfold tX8_reachOf_4 at hf
      refine lv_iload_n hx hb dX8_reachOf_4 rfl (lv_at hl 2 rfl) ?_
      refine lv_aload_n hx hb dX8_reachOf_5 rfl (lv_at hl 0 rfl) ?_
      refine va_get (D := (dC, dI)) (ci := 7) (v := .ref (q0 1)) (C := RX8) (T := TX8) (N := 21) hx hb hts hin8 hown hK hP 0 rfl rfl 0 (by decide) hk0 (fun _ h9 => h9) rfl dX8_reachOf_6 ?_
      refine lv_iconst (v := 0) hx hb dX8_reachOf_9 (by decide) ?_
      have hin : vp_in (0 : Int32) 373 := by unfold vp_in; decide
      refine va_iald hx hb hK hP 1 0 rfl rfl hin dX8_reachOf_10 ?_
      refine lv_icmp_ge (tgt := 47) hx hb dX8_reachOf_11 (by decide) (fun hc => ?_) (fun hc => ?_)
      · have hf := ot hc hf
        obtain rfl := Option.some.inj hf
        obtain rfl := Option.some.inj hn
        exact kx ls (lv_sub hl [1] rfl)
      · have hf := oe hc hf
        refine lv_aload_n hx hb dX8_reachOf_14 rfl (lv_at hl 0 rfl) ?_
        refine lv_iload_n hx hb dX8_reachOf_15 rfl (lv_at hl 2 rfl) ?_
        refine lv_iconst (v := 0) hx hb dX8_reachOf_16 (by decide) ?_
        obtain ⟨o17, ho17, hf⟩ := ob hf
        refine rV (rest := []) (As := [.int s4.2, .int 0]) ⟨hx, hb, hml, hown, hts⟩ (mX8_of l dC dI cI cZ cC cO q0 _ _ _ _ ho17) (cwV 2 hts gX8_reachOf_X8_of rfl rfl rfl (by decide +kernel) ⟨Nat.le_of_ble_eq_true rfl, Nat.le_of_ble_eq_true rfl⟩) hK hN hP [0, 1, 2, 3, 4, 5, 6, 7, 8] rfl 7 rfl rfl rfl rfl hl.1 rfl (Nat.le_of_ble_eq_true rfl) dX8_reachOf_17 ⟨Nat.zero_le _, Nat.zero_le _⟩ ?_
        obtain ⟨o20, ho20, hf⟩ := ob hf
        refine rS (rest := []) (As := [.int o17]) ⟨hx, hb, hml, hown, hts⟩ (mX8_ringOf l dC dI cI cZ cC cO  _ _ ho20) (va_cwS 1 hts gX8_reachOf_X8_ringOf rfl rfl rfl (by decide +kernel) ⟨Nat.le_of_ble_eq_true rfl, Nat.le_of_ble_eq_true rfl⟩) hK hN hP [] rfl rfl hl.1 rfl (Nat.le_of_ble_eq_true rfl) dX8_reachOf_20 ⟨Nat.zero_le _, Nat.zero_le _⟩ ?_
        refine lv_iload_n hx hb dX8_reachOf_23 rfl (lv_at hl 1 rfl) ?_
        have hJ1 : ∀ (y0_1 : Int32), jX8_reachOf_1 s4 y0_1 = some r4 → ∀ ls : Array Slot, lv_has ls 3 [(0, .ref (q0 0)), (2, .int s4.2)] → W p l e (headSpec wsX8_reachOf rmX8_reachOf).room s m args below meth c s.heap [] 0 0 (MQ below (vp_Si (fun r => r = out)) args s 0 0 (fun _ => False)) (F0 m 40 ls [.int y0_1]) := by
          intro y0_1 hf ls hl
          unfold jX8_reachOf_1 at hf
          refine lv_istore_n (lv' := [(1, .int y0_1), (0, .ref (q0 0)), (2, .int s4.2)]) hx hb dX8_reachOf_40 rfl hl (by decide) rfl (fun ls hl => ?_)
          refine lv_iinc (v := (s4.2 + 1)) (lv' := [(2, .int (s4.2 + 1)), (1, .int y0_1), (0, .ref (q0 0))]) hx hb dX8_reachOf_41 hl (k := 2) rfl rfl (by decide) rfl (fun ls hl => ?_)
          refine lv_goto (tgt := 4) hx hb dX8_reachOf_44 (by decide) ?_
          obtain rfl := Option.some.inj hf
          exact ih4 _ _ hn ls (lv_sub hl [2, 1, 0] rfl) kx
        refine lv_icmp_le (tgt := 39) hx hb dX8_reachOf_24 (by decide) (fun hc => ?_) (fun hc => ?_)
        · have hf := ot hc hf
          refine lv_iload_n hx hb dX8_reachOf_39 rfl (lv_at hl 1 rfl) ?_
          exact hJ1 _ hf ls (lv_sub hl [0, 2] rfl)
        · have hf := oe hc hf
          refine lv_aload_n hx hb dX8_reachOf_27 rfl (lv_at hl 0 rfl) ?_
          refine lv_iload_n hx hb dX8_reachOf_28 rfl (lv_at hl 2 rfl) ?_
          refine lv_iconst (v := 0) hx hb dX8_reachOf_29 (by decide) ?_
          obtain ⟨o30, ho30, hf⟩ := ob hf
          refine rV (rest := []) (As := [.int s4.2, .int 0]) ⟨hx, hb, hml, hown, hts⟩ (mX8_of l dC dI cI cZ cC cO q0 _ _ _ _ ho30) (cwV 2 hts gX8_reachOf_X8_of rfl rfl rfl (by decide +kernel) ⟨Nat.le_of_ble_eq_true rfl, Nat.le_of_ble_eq_true rfl⟩) hK hN hP [0, 1, 2, 3, 4, 5, 6, 7, 8] rfl 7 rfl rfl rfl rfl hl.1 rfl (Nat.le_of_ble_eq_true rfl) dX8_reachOf_30 ⟨Nat.zero_le _, Nat.zero_le _⟩ ?_
          obtain ⟨o33, ho33, hf⟩ := ob hf
          refine rS (rest := []) (As := [.int o30]) ⟨hx, hb, hml, hown, hts⟩ (mX8_ringOf l dC dI cI cZ cC cO  _ _ ho33) (va_cwS 1 hts gX8_reachOf_X8_ringOf rfl rfl rfl (by decide +kernel) ⟨Nat.le_of_ble_eq_true rfl, Nat.le_of_ble_eq_true rfl⟩) hK hN hP [] rfl rfl hl.1 rfl (Nat.le_of_ble_eq_true rfl) dX8_reachOf_33 ⟨Nat.zero_le _, Nat.zero_le _⟩ ?_
          refine lv_goto (tgt := 40) hx hb dX8_reachOf_36 (by decide) ?_
          exact hJ1 _ hf ls (lv_sub hl [0, 2] rfl)
  obtain ⟨o4, ho4, hf⟩ := ob hf
  refine hL4 FU _ _ ho4 ls (lv_sub hl [2, 1, 0] rfl) (fun ls hl => ?_)
  refine lv_iload_n hx hb dX8_reachOf_47 rfl (lv_at hl 0 rfl) ?_
  obtain rfl := Option.some.inj hf
  exact W.iret (v := o4) hx hb hr (fun t ht hW => ⟨_, rfl, rfl, ht⟩) (fun _ h => by cases h) dX8_reachOf_48
/-- RimGrainsModel.private int deepest(); -/
def jX8_deepest_1 (s4 : (Int32 × Int32)) (y0_1 : Int32) : Option ((Int32 × Int32) ⊕ (Int32)) :=
  some (.inl (y0_1, (s4.2 + 1)))
def tX8_deepest_4 (g0 : GX8) (s4 : (Int32 × Int32)) : Option ((Int32 × Int32) ⊕ (Int32)) :=
  (if ((pX8_s g0) (0 : Int32).toNatClampNeg) ≤ s4.2 then some (.inr s4.1) else ((fX8_depthOf s4.2 g0).bind fun o16 => (if o16 ≤ s4.1 then jX8_deepest_1 s4 s4.1 else ((fX8_depthOf s4.2 g0).bind fun o25 => jX8_deepest_1 s4 o25))))
def fX8_deepest (g0 : GX8) : Option (Int32) :=
  ((lp (tX8_deepest_4 g0) FU (0, 0)).bind fun o4 => some o4)
abbrev rmX8_deepest : Room := { frames := 3, cells := 0, slots := 0, locals := 66 }
set_option maxHeartbeats 4000000 in
set_option maxRecDepth 100000 in
theorem mX8_deepest (l : Launch) (dC : Nat → ClassId) (dI : Nat → Nat → Nat) (cI cZ cC cO : ClassId) (q0 : Nat → Nat) (g0 : GX8) (out : Int32) (hf : fX8_deepest g0 = some out) : Met l yX8_deepest wsX8_deepest rmX8_deepest (va_Pc [.ref (q0 0)] (pcR (dC, dI) (wTys cI cZ cC cO) (wX8 cI cZ cC q0 g0))) (vp_Si (fun r => r = out)) 0 0 (fun _ => False) := by
  refine Met.ofW (cc := cX8_deepest) (maxL := 3) (ret := (some .int)) (by decide) rfl ?_
  intro p e s m args below meth c s₁ B hml hv
  obtain ⟨hargs, hP, hK, hN⟩ := hv
  have hx := B.exec
  have hb := B.bytes
  have hr := B.returns
  have hts := atoms_spec (ws := wsX8_deepest) B.pre
  have hown : s.vm.findClass RX8 = some m.cls := findClass_of_methodNamed B.named
  have hlocks := B.notSynchronized
  have hk0 := hts (.fieldLink RX8 7 "RimGrainsModel" "s" "[I") (by decide +kernel)
  have hin8 : ∀ w ∈ wsX80, w ∈ wsX8_deepest := by decide +kernel
  have hE := lg_entry_eq m [.ref (q0 0)] 3
  rw [← hargs] at hE
  rw [hE]
  have hl := lv_entry [.ref (q0 0)] (n := 3) (Nat.le_of_ble_eq_true rfl)
  generalize (lg_sl [.ref (q0 0)] ++ List.replicate (3 - (lg_sl [.ref (q0 0)]).length) Slot.unset).toArray = ls at hl ⊢
  have hl : lv_has ls 3 [(0, .ref (q0 0))] := hl
  unfold fX8_deepest at hf
  refine lv_iconst (v := 0) hx hb dX8_deepest_0 (by decide) ?_
  refine lv_istore_n (lv' := [(1, .int 0), (0, .ref (q0 0))]) hx hb dX8_deepest_1 rfl hl (by decide) rfl (fun ls hl => ?_)
  refine lv_iconst (v := 0) hx hb dX8_deepest_2 (by decide) ?_
  refine lv_istore_n (lv' := [(2, .int 0), (1, .int 0), (0, .ref (q0 0))]) hx hb dX8_deepest_3 rfl hl (by decide) rfl (fun ls hl => ?_)
  have hL4 : ∀ (n : Nat) (s4 : Int32 × Int32) (o4 : Int32), lp (tX8_deepest_4 g0) n s4 = some o4 → ∀ (ls : Array Slot), lv_has ls 3 [(0, .ref (q0 0)), (1, .int s4.1), (2, .int s4.2)] → (∀ (ls : Array Slot), lv_has ls 3 [(1, .int o4)] → W p l e (headSpec wsX8_deepest rmX8_deepest).room s m args below meth c s.heap [] 0 0 (MQ below (vp_Si (fun r => r = out)) args s 0 0 (fun _ => False)) (F0 m 39 ls [])) → W p l e (headSpec wsX8_deepest rmX8_deepest).room s m args below meth c s.heap [] 0 0 (MQ below (vp_Si (fun r => r = out)) args s 0 0 (fun _ => False)) (F0 m 4 ls []) := by
    intro n
    induction n with
    | zero => intro s4 o4 hf; exact (lp0 hf).elim
    | succ n ih4 =>
      intro s4 o4 hf ls hl kx
      obtain ⟨r4, hf, hn⟩ := lps hf
      unfold tX8_deepest_4 at hf
      refine lv_iload_n hx hb dX8_deepest_4 rfl (lv_at hl 2 rfl) ?_
      refine lv_aload_n hx hb dX8_deepest_5 rfl (lv_at hl 0 rfl) ?_
      refine va_get (D := (dC, dI)) (ci := 7) (v := .ref (q0 1)) (C := RX8) (T := TX8) (N := 21) hx hb hts hin8 hown hK hP 0 rfl rfl 0 (by decide) hk0 (fun _ h9 => h9) rfl dX8_deepest_6 ?_
      refine lv_iconst (v := 0) hx hb dX8_deepest_9 (by decide) ?_
      have hin : vp_in (0 : Int32) 373 := by unfold vp_in; decide
      refine va_iald hx hb hK hP 1 0 rfl rfl hin dX8_deepest_10 ?_
      refine lv_icmp_ge (tgt := 39) hx hb dX8_deepest_11 (by decide) (fun hc => ?_) (fun hc => ?_)
      · have hf := ot hc hf
        obtain rfl := Option.some.inj hf
        obtain rfl := Option.some.inj hn
        exact kx ls (lv_sub hl [1] rfl)
      · have hf := oe hc hf
        refine lv_aload_n hx hb dX8_deepest_14 rfl (lv_at hl 0 rfl) ?_
        refine lv_iload_n hx hb dX8_deepest_15 rfl (lv_at hl 2 rfl) ?_
        obtain ⟨o16, ho16, hf⟩ := ob hf
        refine rV (rest := []) (As := [.int s4.2]) ⟨hx, hb, hml, hown, hts⟩ (mX8_depthOf l dC dI cI cZ cC cO q0 _ _ _ ho16) (cwV 1 hts gX8_deepest_X8_depthOf rfl rfl rfl (by decide +kernel) ⟨Nat.le_of_ble_eq_true rfl, Nat.le_of_ble_eq_true rfl⟩) hK hN hP [0, 1, 2, 3, 4, 5, 6, 7, 8] rfl 7 rfl rfl rfl rfl hl.1 rfl (Nat.le_of_ble_eq_true rfl) dX8_deepest_16 ⟨Nat.zero_le _, Nat.zero_le _⟩ ?_
        refine lv_iload_n hx hb dX8_deepest_19 rfl (lv_at hl 1 rfl) ?_
        have hJ1 : ∀ (y0_1 : Int32), jX8_deepest_1 s4 y0_1 = some r4 → ∀ ls : Array Slot, lv_has ls 3 [(0, .ref (q0 0)), (2, .int s4.2)] → W p l e (headSpec wsX8_deepest rmX8_deepest).room s m args below meth c s.heap [] 0 0 (MQ below (vp_Si (fun r => r = out)) args s 0 0 (fun _ => False)) (F0 m 32 ls [.int y0_1]) := by
          intro y0_1 hf ls hl
          unfold jX8_deepest_1 at hf
          refine lv_istore_n (lv' := [(1, .int y0_1), (0, .ref (q0 0)), (2, .int s4.2)]) hx hb dX8_deepest_32 rfl hl (by decide) rfl (fun ls hl => ?_)
          refine lv_iinc (v := (s4.2 + 1)) (lv' := [(2, .int (s4.2 + 1)), (1, .int y0_1), (0, .ref (q0 0))]) hx hb dX8_deepest_33 hl (k := 2) rfl rfl (by decide) rfl (fun ls hl => ?_)
          refine lv_goto (tgt := 4) hx hb dX8_deepest_36 (by decide) ?_
          obtain rfl := Option.some.inj hf
          exact ih4 _ _ hn ls (lv_sub hl [2, 1, 0] rfl) kx
        refine lv_icmp_le (tgt := 31) hx hb dX8_deepest_20 (by decide) (fun hc => ?_) (fun hc => ?_)
        · have hf := ot hc hf
          refine lv_iload_n hx hb dX8_deepest_31 rfl (lv_at hl 1 rfl) ?_
          exact hJ1 _ hf ls (lv_sub hl [0, 2] rfl)
        · have hf := oe hc hf
          refine lv_aload_n hx hb dX8_deepest_23 rfl (lv_at hl 0 rfl) ?_
          refine lv_iload_n hx hb dX8_deepest_24 rfl (lv_at hl 2 rfl) ?_
          obtain ⟨o25, ho25, hf⟩ := ob hf
          refine rV (rest := []) (As := [.int s4.2]) ⟨hx, hb, hml, hown, hts⟩ (mX8_depthOf l dC dI cI cZ cC cO q0 _ _ _ ho25) (cwV 1 hts gX8_deepest_X8_depthOf rfl rfl rfl (by decide +kernel) ⟨Nat.le_of_ble_eq_true rfl, Nat.le_of_ble_eq_true rfl⟩) hK hN hP [0, 1, 2, 3, 4, 5, 6, 7, 8] rfl 7 rfl rfl rfl rfl hl.1 rfl (Nat.le_of_ble_eq_true rfl) dX8_deepest_25 ⟨Nat.zero_le _, Nat.zero_le _⟩ ?_
          refine lv_goto (tgt := 32) hx hb dX8_deepest_28 (by decide) ?_
          exact hJ1 _ hf ls (lv_sub hl [0, 2] rfl)
  obtain ⟨o4, ho4, hf⟩ := ob hf
  refine hL4 FU _ _ ho4 ls (lv_sub hl [2, 1, 0] rfl) (fun ls hl => ?_)
  refine lv_iload_n hx hb dX8_deepest_39 rfl (lv_at hl 0 rfl) ?_
  obtain rfl := Option.some.inj hf
  exact W.iret (v := o4) hx hb hr (fun t ht hW => ⟨_, rfl, rfl, ht⟩) (fun _ h => by cases h) dX8_deepest_40
/-- RimGrainsModel.private int ofKind(int); -/
def jX8_ofKind_2 (s4 : (Int32 × Int32)) (y0_2 : Int32) : Option ((Int32 × Int32) ⊕ (Int32)) :=
  some (.inl ((s4.1 + y0_2), (s4.2 + 1)))
def jX8_ofKind_1 (s4 : (Int32 × Int32)) (y0_1 : Int32) : Option ((Int32 × Int32) ⊕ (Int32)) :=
  (if y0_1 = 0 then jX8_ofKind_2 s4 0 else jX8_ofKind_2 s4 1)
def tX8_ofKind_4 (a1 : Int32) (g0 : GX8) (s4 : (Int32 × Int32)) : Option ((Int32 × Int32) ⊕ (Int32)) :=
  (if ((pX8_s g0) (0 : Int32).toNatClampNeg) ≤ s4.2 then some (.inr s4.1) else (if a1 = 1 then ((fX8_holder s4.2 g0).bind fun o21 => (if 0 ≤ o21 then jX8_ofKind_1 s4 0 else jX8_ofKind_1 s4 1)) else (if a1 = 2 then ((fX8_children s4.2 g0).bind fun o42 => (if o42 = 0 then jX8_ofKind_1 s4 1 else jX8_ofKind_1 s4 0)) else ((fX8_children s4.2 g0).bind fun o58 => (if o58 ≤ 1 then jX8_ofKind_1 s4 0 else jX8_ofKind_1 s4 1)))))
def fX8_ofKind (a1 : Int32) (g0 : GX8) : Option (Int32) :=
  ((lp (tX8_ofKind_4 a1 g0) FU (0, 0)).bind fun o4 => some o4)
abbrev rmX8_ofKind : Room := { frames := 3, cells := 0, slots := 0, locals := 66 }
set_option maxHeartbeats 4000000 in
set_option maxRecDepth 100000 in
theorem mX8_ofKind (l : Launch) (dC : Nat → ClassId) (dI : Nat → Nat → Nat) (cI cZ cC cO : ClassId) (q0 : Nat → Nat) (a1 : Int32) (g0 : GX8) (out : Int32) (hf : fX8_ofKind a1 g0 = some out) : Met l yX8_ofKind wsX8_ofKind rmX8_ofKind (va_Pc [.ref (q0 0), .int a1] (pcR (dC, dI) (wTys cI cZ cC cO) (wX8 cI cZ cC q0 g0))) (vp_Si (fun r => r = out)) 0 0 (fun _ => False) := by
  refine Met.ofW (cc := cX8_ofKind) (maxL := 5) (ret := (some .int)) (by decide) rfl ?_
  intro p e s m args below meth c s₁ B hml hv
  obtain ⟨hargs, hP, hK, hN⟩ := hv
  have hx := B.exec
  have hb := B.bytes
  have hr := B.returns
  have hts := atoms_spec (ws := wsX8_ofKind) B.pre
  have hown : s.vm.findClass RX8 = some m.cls := findClass_of_methodNamed B.named
  have hlocks := B.notSynchronized
  have hk0 := hts (.fieldLink RX8 7 "RimGrainsModel" "s" "[I") (by decide +kernel)
  have hin8 : ∀ w ∈ wsX80, w ∈ wsX8_ofKind := by decide +kernel
  have hE := lg_entry_eq m [.ref (q0 0), .int a1] 5
  rw [← hargs] at hE
  rw [hE]
  have hl := lv_entry [.ref (q0 0), .int a1] (n := 5) (Nat.le_of_ble_eq_true rfl)
  generalize (lg_sl [.ref (q0 0), .int a1] ++ List.replicate (5 - (lg_sl [.ref (q0 0), .int a1]).length) Slot.unset).toArray = ls at hl ⊢
  have hl : lv_has ls 5 [(0, .ref (q0 0)), (1, .int a1)] := hl
  unfold fX8_ofKind at hf
  refine lv_iconst (v := 0) hx hb dX8_ofKind_0 (by decide) ?_
  refine lv_istore_n (lv' := [(2, .int 0), (0, .ref (q0 0)), (1, .int a1)]) hx hb dX8_ofKind_1 rfl hl (by decide) rfl (fun ls hl => ?_)
  refine lv_iconst (v := 0) hx hb dX8_ofKind_2 (by decide) ?_
  refine lv_istore_n (lv' := [(3, .int 0), (2, .int 0), (0, .ref (q0 0)), (1, .int a1)]) hx hb dX8_ofKind_3 rfl hl (by decide) rfl (fun ls hl => ?_)
  have hL4 : ∀ (n : Nat) (s4 : Int32 × Int32) (o4 : Int32), lp (tX8_ofKind_4 a1 g0) n s4 = some o4 → ∀ (ls : Array Slot), lv_has ls 5 [(0, .ref (q0 0)), (1, .int a1), (2, .int s4.1), (3, .int s4.2)] → (∀ (ls : Array Slot), lv_has ls 5 [(2, .int o4)] → W p l e (headSpec wsX8_ofKind rmX8_ofKind).room s m args below meth c s.heap [] 0 0 (MQ below (vp_Si (fun r => r = out)) args s 0 0 (fun _ => False)) (F0 m 91 ls [])) → W p l e (headSpec wsX8_ofKind rmX8_ofKind).room s m args below meth c s.heap [] 0 0 (MQ below (vp_Si (fun r => r = out)) args s 0 0 (fun _ => False)) (F0 m 4 ls []) := by
    intro n
    induction n with
    | zero => intro s4 o4 hf; exact (lp0 hf).elim
    | succ n ih4 =>
      intro s4 o4 hf ls hl kx
      obtain ⟨r4, hf, hn⟩ := lps hf
      unfold tX8_ofKind_4 at hf
      refine lv_iload_n hx hb dX8_ofKind_4 rfl (lv_at hl 3 rfl) ?_
      refine lv_aload_n hx hb dX8_ofKind_5 rfl (lv_at hl 0 rfl) ?_
      refine va_get (D := (dC, dI)) (ci := 7) (v := .ref (q0 1)) (C := RX8) (T := TX8) (N := 21) hx hb hts hin8 hown hK hP 0 rfl rfl 0 (by decide) hk0 (fun _ h9 => h9) rfl dX8_ofKind_6 ?_
      refine lv_iconst (v := 0) hx hb dX8_ofKind_9 (by decide) ?_
      have hin : vp_in (0 : Int32) 373 := by unfold vp_in; decide
      refine va_iald hx hb hK hP 1 0 rfl rfl hin dX8_ofKind_10 ?_
      refine lv_icmp_ge (tgt := 91) hx hb dX8_ofKind_11 (by decide) (fun hc => ?_) (fun hc => ?_)
      · have hf := ot hc hf
        obtain rfl := Option.some.inj hf
        obtain rfl := Option.some.inj hn
        exact kx ls (lv_sub hl [2] rfl)
      · have hf := oe hc hf
        refine lv_iload_n hx hb dX8_ofKind_14 rfl (lv_at hl 1 rfl) ?_
        refine lv_iconst (v := 1) hx hb dX8_ofKind_15 (by decide) ?_
        have hJ1 : ∀ (y0_1 : Int32), jX8_ofKind_1 s4 y0_1 = some r4 → ∀ ls : Array Slot, lv_has ls 5 [(0, .ref (q0 0)), (1, .int a1), (2, .int s4.1), (3, .int s4.2)] → W p l e (headSpec wsX8_ofKind rmX8_ofKind).room s m args below meth c s.heap [] 0 0 (MQ below (vp_Si (fun r => r = out)) args s 0 0 (fun _ => False)) (F0 m 70 ls [.int y0_1]) := by
          intro y0_1 hf ls hl
          unfold jX8_ofKind_1 at hf
          refine lv_istore (lv' := [(4, .int y0_1), (0, .ref (q0 0)), (1, .int a1), (2, .int s4.1), (3, .int s4.2)]) hx hb dX8_ofKind_70 hl (by decide) rfl (fun ls hl => ?_)
          refine lv_iload_n hx hb dX8_ofKind_72 rfl (lv_at hl 3 rfl) ?_
          refine lv_iload hx hb dX8_ofKind_73 (lv_at hl 0 rfl) ?_
          have hJ2 : ∀ (y0_2 : Int32), jX8_ofKind_2 s4 y0_2 = some r4 → ∀ ls : Array Slot, lv_has ls 5 [(0, .ref (q0 0)), (1, .int a1), (3, .int s4.2)] → W p l e (headSpec wsX8_ofKind rmX8_ofKind).room s m args below meth c s.heap [] 0 0 (MQ below (vp_Si (fun r => r = out)) args s 0 0 (fun _ => False)) (F0 m 83 ls [.int y0_2, .int s4.1]) := by
            intro y0_2 hf ls hl
            unfold jX8_ofKind_2 at hf
            refine lv_iadd hx hb dX8_ofKind_83 ?_
            refine lv_istore_n (lv' := [(2, .int (s4.1 + y0_2)), (0, .ref (q0 0)), (1, .int a1), (3, .int s4.2)]) hx hb dX8_ofKind_84 rfl hl (by decide) rfl (fun ls hl => ?_)
            refine lv_iinc (v := (s4.2 + 1)) (lv' := [(3, .int (s4.2 + 1)), (2, .int (s4.1 + y0_2)), (0, .ref (q0 0)), (1, .int a1)]) hx hb dX8_ofKind_85 hl (k := 3) rfl rfl (by decide) rfl (fun ls hl => ?_)
            refine lv_goto (tgt := 4) hx hb dX8_ofKind_88 (by decide) ?_
            obtain rfl := Option.some.inj hf
            exact ih4 _ _ hn ls (lv_sub hl [2, 3, 1, 0] rfl) kx
          refine lv_if_eq (tgt := 82) hx hb dX8_ofKind_75 (by decide) (fun hc => ?_) (fun hc => ?_)
          · have hf := ot hc hf
            refine lv_iconst (v := 0) hx hb dX8_ofKind_82 (by decide) ?_
            exact hJ2 _ hf ls (lv_sub hl [1, 2, 4] rfl)
          · have hf := oe hc hf
            refine lv_iconst (v := 1) hx hb dX8_ofKind_78 (by decide) ?_
            refine lv_goto (tgt := 83) hx hb dX8_ofKind_79 (by decide) ?_
            exact hJ2 _ hf ls (lv_sub hl [1, 2, 4] rfl)
        refine lv_icmp_ne (tgt := 35) hx hb dX8_ofKind_16 (by decide) (fun hc => ?_) (fun hc => ?_)
        · have hf := oe hc hf
          refine lv_iload_n hx hb dX8_ofKind_35 rfl (lv_at hl 1 rfl) ?_
          refine lv_iconst (v := 2) hx hb dX8_ofKind_36 (by decide) ?_
          refine lv_icmp_ne (tgt := 56) hx hb dX8_ofKind_37 (by decide) (fun hc => ?_) (fun hc => ?_)
          · have hf := oe hc hf
            refine lv_aload_n hx hb dX8_ofKind_56 rfl (lv_at hl 0 rfl) ?_
            refine lv_iload_n hx hb dX8_ofKind_57 rfl (lv_at hl 3 rfl) ?_
            obtain ⟨o58, ho58, hf⟩ := ob hf
            refine rV (rest := []) (As := [.int s4.2]) ⟨hx, hb, hml, hown, hts⟩ (mX8_children l dC dI cI cZ cC cO q0 _ _ _ ho58) (cwV 1 hts gX8_ofKind_X8_children rfl rfl rfl (by decide +kernel) ⟨Nat.le_of_ble_eq_true rfl, Nat.le_of_ble_eq_true rfl⟩) hK hN hP [0, 1, 2, 3, 4, 5, 6, 7, 8] rfl 7 rfl rfl rfl rfl hl.1 rfl (Nat.le_of_ble_eq_true rfl) dX8_ofKind_58 ⟨Nat.zero_le _, Nat.zero_le _⟩ ?_
            refine lv_iconst (v := 1) hx hb dX8_ofKind_61 (by decide) ?_
            refine lv_icmp_le (tgt := 69) hx hb dX8_ofKind_62 (by decide) (fun hc => ?_) (fun hc => ?_)
            · have hf := ot hc hf
              refine lv_iconst (v := 0) hx hb dX8_ofKind_69 (by decide) ?_
              exact hJ1 _ hf ls (lv_sub hl [0, 1, 2, 3] rfl)
            · have hf := oe hc hf
              refine lv_iconst (v := 1) hx hb dX8_ofKind_65 (by decide) ?_
              refine lv_goto (tgt := 70) hx hb dX8_ofKind_66 (by decide) ?_
              exact hJ1 _ hf ls (lv_sub hl [0, 1, 2, 3] rfl)
          · have hf := ot hc hf
            refine lv_aload_n hx hb dX8_ofKind_40 rfl (lv_at hl 0 rfl) ?_
            refine lv_iload_n hx hb dX8_ofKind_41 rfl (lv_at hl 3 rfl) ?_
            obtain ⟨o42, ho42, hf⟩ := ob hf
            refine rV (rest := []) (As := [.int s4.2]) ⟨hx, hb, hml, hown, hts⟩ (mX8_children l dC dI cI cZ cC cO q0 _ _ _ ho42) (cwV 1 hts gX8_ofKind_X8_children rfl rfl rfl (by decide +kernel) ⟨Nat.le_of_ble_eq_true rfl, Nat.le_of_ble_eq_true rfl⟩) hK hN hP [0, 1, 2, 3, 4, 5, 6, 7, 8] rfl 7 rfl rfl rfl rfl hl.1 rfl (Nat.le_of_ble_eq_true rfl) dX8_ofKind_42 ⟨Nat.zero_le _, Nat.zero_le _⟩ ?_
            refine lv_if_ne (tgt := 52) hx hb dX8_ofKind_45 (by decide) (fun hc => ?_) (fun hc => ?_)
            · have hf := oe hc hf
              refine lv_iconst (v := 0) hx hb dX8_ofKind_52 (by decide) ?_
              refine lv_goto (tgt := 70) hx hb dX8_ofKind_53 (by decide) ?_
              exact hJ1 _ hf ls (lv_sub hl [0, 1, 2, 3] rfl)
            · have hf := ot hc hf
              refine lv_iconst (v := 1) hx hb dX8_ofKind_48 (by decide) ?_
              refine lv_goto (tgt := 70) hx hb dX8_ofKind_49 (by decide) ?_
              exact hJ1 _ hf ls (lv_sub hl [0, 1, 2, 3] rfl)
        · have hf := ot hc hf
          refine lv_aload_n hx hb dX8_ofKind_19 rfl (lv_at hl 0 rfl) ?_
          refine lv_iload_n hx hb dX8_ofKind_20 rfl (lv_at hl 3 rfl) ?_
          obtain ⟨o21, ho21, hf⟩ := ob hf
          refine rV (rest := []) (As := [.int s4.2]) ⟨hx, hb, hml, hown, hts⟩ (mX8_holder l dC dI cI cZ cC cO q0 _ _ _ ho21) (cwV 1 hts gX8_ofKind_X8_holder rfl rfl rfl (by decide +kernel) ⟨Nat.le_of_ble_eq_true rfl, Nat.le_of_ble_eq_true rfl⟩) hK hN hP [0, 1, 2, 3, 4, 5, 6, 7, 8] rfl 7 rfl rfl rfl rfl hl.1 rfl (Nat.le_of_ble_eq_true rfl) dX8_ofKind_21 ⟨Nat.zero_le _, Nat.zero_le _⟩ ?_
          refine lv_if_ge (tgt := 31) hx hb dX8_ofKind_24 (by decide) (fun hc => ?_) (fun hc => ?_)
          · have hf := ot hc hf
            refine lv_iconst (v := 0) hx hb dX8_ofKind_31 (by decide) ?_
            refine lv_goto (tgt := 70) hx hb dX8_ofKind_32 (by decide) ?_
            exact hJ1 _ hf ls (lv_sub hl [0, 1, 2, 3] rfl)
          · have hf := oe hc hf
            refine lv_iconst (v := 1) hx hb dX8_ofKind_27 (by decide) ?_
            refine lv_goto (tgt := 70) hx hb dX8_ofKind_28 (by decide) ?_
            exact hJ1 _ hf ls (lv_sub hl [0, 1, 2, 3] rfl)
  obtain ⟨o4, ho4, hf⟩ := ob hf
  refine hL4 FU _ _ ho4 ls (lv_sub hl [2, 3, 1, 0] rfl) (fun ls hl => ?_)
  refine lv_iload_n hx hb dX8_ofKind_91 rfl (lv_at hl 0 rfl) ?_
  obtain rfl := Option.some.inj hf
  exact W.iret (v := o4) hx hb hr (fun t ht hW => ⟨_, rfl, rfl, ht⟩) (fun _ h => by cases h) dX8_ofKind_92
/-- RimGrainsModel.private int shore(); -/
def jX8_shore_1 (s4 : (Int32 × Int32)) (y0_1 : Int32) : Option ((Int32 × Int32) ⊕ (Int32)) :=
  some (.inl ((s4.1 + y0_1), (s4.2 + 1)))
def jX8_shore_2 (s4 : (Int32 × Int32)) : Option ((Int32 × Int32) ⊕ (Int32)) :=
  jX8_shore_1 s4 0
def tX8_shore_4 (g0 : GX8) (s4 : (Int32 × Int32)) : Option ((Int32 × Int32) ⊕ (Int32)) :=
  (if 121 ≤ s4.2 then some (.inr s4.1) else ((fX8_grainAt s4.2 g0).bind fun o13 => (if 0 ≤ o13 then jX8_shore_2 s4 else ((fX8_besides s4.2 g0).bind fun o21 => (if o21 ≤ 0 then jX8_shore_2 s4 else jX8_shore_1 s4 1)))))
def fX8_shore (g0 : GX8) : Option (Int32) :=
  ((lp (tX8_shore_4 g0) FU (0, 0)).bind fun o4 => some o4)
abbrev rmX8_shore : Room := { frames := 3, cells := 0, slots := 0, locals := 69 }
set_option maxHeartbeats 4000000 in
set_option maxRecDepth 100000 in
theorem mX8_shore (l : Launch) (dC : Nat → ClassId) (dI : Nat → Nat → Nat) (cI cZ cC cO : ClassId) (q0 : Nat → Nat) (g0 : GX8) (out : Int32) (hf : fX8_shore g0 = some out) : Met l yX8_shore wsX8_shore rmX8_shore (va_Pc [.ref (q0 0)] (pcR (dC, dI) (wTys cI cZ cC cO) (wX8 cI cZ cC q0 g0))) (vp_Si (fun r => r = out)) 0 0 (fun _ => False) := by
  refine Met.ofW (cc := cX8_shore) (maxL := 3) (ret := (some .int)) (by decide) rfl ?_
  intro p e s m args below meth c s₁ B hml hv
  obtain ⟨hargs, hP, hK, hN⟩ := hv
  have hx := B.exec
  have hb := B.bytes
  have hr := B.returns
  have hts := atoms_spec (ws := wsX8_shore) B.pre
  have hown : s.vm.findClass RX8 = some m.cls := findClass_of_methodNamed B.named
  have hlocks := B.notSynchronized
  have hE := lg_entry_eq m [.ref (q0 0)] 3
  rw [← hargs] at hE
  rw [hE]
  have hl := lv_entry [.ref (q0 0)] (n := 3) (Nat.le_of_ble_eq_true rfl)
  generalize (lg_sl [.ref (q0 0)] ++ List.replicate (3 - (lg_sl [.ref (q0 0)]).length) Slot.unset).toArray = ls at hl ⊢
  have hl : lv_has ls 3 [(0, .ref (q0 0))] := hl
  unfold fX8_shore at hf
  refine lv_iconst (v := 0) hx hb dX8_shore_0 (by decide) ?_
  refine lv_istore_n (lv' := [(1, .int 0), (0, .ref (q0 0))]) hx hb dX8_shore_1 rfl hl (by decide) rfl (fun ls hl => ?_)
  refine lv_iconst (v := 0) hx hb dX8_shore_2 (by decide) ?_
  refine lv_istore_n (lv' := [(2, .int 0), (1, .int 0), (0, .ref (q0 0))]) hx hb dX8_shore_3 rfl hl (by decide) rfl (fun ls hl => ?_)
  have hL4 : ∀ (n : Nat) (s4 : Int32 × Int32) (o4 : Int32), lp (tX8_shore_4 g0) n s4 = some o4 → ∀ (ls : Array Slot), lv_has ls 3 [(0, .ref (q0 0)), (1, .int s4.1), (2, .int s4.2)] → (∀ (ls : Array Slot), lv_has ls 3 [(1, .int o4)] → W p l e (headSpec wsX8_shore rmX8_shore).room s m args below meth c s.heap [] 0 0 (MQ below (vp_Si (fun r => r = out)) args s 0 0 (fun _ => False)) (F0 m 40 ls [])) → W p l e (headSpec wsX8_shore rmX8_shore).room s m args below meth c s.heap [] 0 0 (MQ below (vp_Si (fun r => r = out)) args s 0 0 (fun _ => False)) (F0 m 4 ls []) := by
    intro n
    induction n with
    | zero => intro s4 o4 hf; exact (lp0 hf).elim
    | succ n ih4 =>
      intro s4 o4 hf ls hl kx
      obtain ⟨r4, hf, hn⟩ := lps hf
      unfold tX8_shore_4 at hf
      refine lv_iload_n hx hb dX8_shore_4 rfl (lv_at hl 2 rfl) ?_
      refine lv_bipush (v := 121) hx hb dX8_shore_5 (by decide) ?_
      refine lv_icmp_ge (tgt := 40) hx hb dX8_shore_7 (by decide) (fun hc => ?_) (fun hc => ?_)
      · have hf := ot hc hf
        obtain rfl := Option.some.inj hf
        obtain rfl := Option.some.inj hn
        exact kx ls (lv_sub hl [1] rfl)
      · have hf := oe hc hf
        refine lv_iload_n hx hb dX8_shore_10 rfl (lv_at hl 1 rfl) ?_
        refine lv_aload_n hx hb dX8_shore_11 rfl (lv_at hl 0 rfl) ?_
        refine lv_iload_n hx hb dX8_shore_12 rfl (lv_at hl 2 rfl) ?_
        obtain ⟨o13, ho13, hf⟩ := ob hf
        refine rV (rest := [.int s4.1]) (As := [.int s4.2]) ⟨hx, hb, hml, hown, hts⟩ (mX8_grainAt l dC dI cI cZ cC cO q0 _ _ _ ho13) (cwV 1 hts gX8_shore_X8_grainAt rfl rfl rfl (by decide +kernel) ⟨Nat.le_of_ble_eq_true rfl, Nat.le_of_ble_eq_true rfl⟩) hK hN hP [0, 1, 2, 3, 4, 5, 6, 7, 8] rfl 7 rfl rfl rfl rfl hl.1 rfl (Nat.le_of_ble_eq_true rfl) dX8_shore_13 ⟨Nat.zero_le _, Nat.zero_le _⟩ ?_
        have hJ1 : ∀ (y0_1 : Int32), jX8_shore_1 s4 y0_1 = some r4 → ∀ ls : Array Slot, lv_has ls 3 [(0, .ref (q0 0)), (2, .int s4.2)] → W p l e (headSpec wsX8_shore rmX8_shore).room s m args below meth c s.heap [] 0 0 (MQ below (vp_Si (fun r => r = out)) args s 0 0 (fun _ => False)) (F0 m 32 ls [.int y0_1, .int s4.1]) := by
          intro y0_1 hf ls hl
          unfold jX8_shore_1 at hf
          refine lv_iadd hx hb dX8_shore_32 ?_
          refine lv_istore_n (lv' := [(1, .int (s4.1 + y0_1)), (0, .ref (q0 0)), (2, .int s4.2)]) hx hb dX8_shore_33 rfl hl (by decide) rfl (fun ls hl => ?_)
          refine lv_iinc (v := (s4.2 + 1)) (lv' := [(2, .int (s4.2 + 1)), (1, .int (s4.1 + y0_1)), (0, .ref (q0 0))]) hx hb dX8_shore_34 hl (k := 2) rfl rfl (by decide) rfl (fun ls hl => ?_)
          refine lv_goto (tgt := 4) hx hb dX8_shore_37 (by decide) ?_
          obtain rfl := Option.some.inj hf
          exact ih4 _ _ hn ls (lv_sub hl [2, 1, 0] rfl) kx
        have hJ2 : jX8_shore_2 s4 = some r4 → ∀ ls : Array Slot, lv_has ls 3 [(0, .ref (q0 0)), (2, .int s4.2)] → W p l e (headSpec wsX8_shore rmX8_shore).room s m args below meth c s.heap [] 0 0 (MQ below (vp_Si (fun r => r = out)) args s 0 0 (fun _ => False)) (F0 m 31 ls [.int s4.1]) := by
          intro  hf ls hl
          unfold jX8_shore_2 at hf
          refine lv_iconst (v := 0) hx hb dX8_shore_31 (by decide) ?_
          exact hJ1 _ hf ls (lv_sub hl [0, 1] rfl)
        refine lv_if_ge (tgt := 31) hx hb dX8_shore_16 (by decide) (fun hc => ?_) (fun hc => ?_)
        · have hf := ot hc hf
          exact hJ2 hf ls (lv_sub hl [0, 2] rfl)
        · have hf := oe hc hf
          refine lv_aload_n hx hb dX8_shore_19 rfl (lv_at hl 0 rfl) ?_
          refine lv_iload_n hx hb dX8_shore_20 rfl (lv_at hl 2 rfl) ?_
          obtain ⟨o21, ho21, hf⟩ := ob hf
          refine rV (rest := [.int s4.1]) (As := [.int s4.2]) ⟨hx, hb, hml, hown, hts⟩ (mX8_besides l dC dI cI cZ cC cO q0 _ _ _ ho21) (cwV 1 hts gX8_shore_X8_besides rfl rfl rfl (by decide +kernel) ⟨Nat.le_of_ble_eq_true rfl, Nat.le_of_ble_eq_true rfl⟩) hK hN hP [0, 1, 2, 3, 4, 5, 6, 7, 8] rfl 7 rfl rfl rfl rfl hl.1 rfl (Nat.le_of_ble_eq_true rfl) dX8_shore_21 ⟨Nat.zero_le _, Nat.zero_le _⟩ ?_
          refine lv_if_le (tgt := 31) hx hb dX8_shore_24 (by decide) (fun hc => ?_) (fun hc => ?_)
          · have hf := ot hc hf
            exact hJ2 hf ls (lv_sub hl [0, 2] rfl)
          · have hf := oe hc hf
            refine lv_iconst (v := 1) hx hb dX8_shore_27 (by decide) ?_
            refine lv_goto (tgt := 32) hx hb dX8_shore_28 (by decide) ?_
            exact hJ1 _ hf ls (lv_sub hl [0, 2] rfl)
  obtain ⟨o4, ho4, hf⟩ := ob hf
  refine hL4 FU _ _ ho4 ls (lv_sub hl [2, 1, 0] rfl) (fun ls hl => ?_)
  refine lv_iload_n hx hb dX8_shore_40 rfl (lv_at hl 0 rfl) ?_
  obtain rfl := Option.some.inj hf
  exact W.iret (v := o4) hx hb hr (fun t ht hW => ⟨_, rfl, rfl, ht⟩) (fun _ h => by cases h) dX8_shore_41
/-- RimGrainsModel.private int bestCatch(); -/
def jX8_bestCatch_1 (s4 : (Int32 × Int32)) (y0_1 : Int32) : Option ((Int32 × Int32) ⊕ (Int32)) :=
  some (.inl (y0_1, (s4.2 + 1)))
def tX8_bestCatch_4 (g0 : GX8) (s4 : (Int32 × Int32)) : Option ((Int32 × Int32) ⊕ (Int32)) :=
  (if ((pX8_s g0) (0 : Int32).toNatClampNeg) ≤ s4.2 then some (.inr s4.1) else ((fX8_catchOf s4.2 g0).bind fun o16 => ((fX8_catchOf s4.1 g0).bind fun o21 => (if o16 ≤ o21 then jX8_bestCatch_1 s4 s4.1 else jX8_bestCatch_1 s4 s4.2))))
def fX8_bestCatch (g0 : GX8) : Option (Int32) :=
  ((lp (tX8_bestCatch_4 g0) FU (0, 1)).bind fun o4 => some o4)
abbrev rmX8_bestCatch : Room := { frames := 4, cells := 0, slots := 0, locals := 90 }
set_option maxHeartbeats 4000000 in
set_option maxRecDepth 100000 in
theorem mX8_bestCatch (l : Launch) (dC : Nat → ClassId) (dI : Nat → Nat → Nat) (cI cZ cC cO : ClassId) (q0 : Nat → Nat) (g0 : GX8) (out : Int32) (hf : fX8_bestCatch g0 = some out) : Met l yX8_bestCatch wsX8_bestCatch rmX8_bestCatch (va_Pc [.ref (q0 0)] (pcR (dC, dI) (wTys cI cZ cC cO) (wX8 cI cZ cC q0 g0))) (vp_Si (fun r => r = out)) 0 0 (fun _ => False) := by
  refine Met.ofW (cc := cX8_bestCatch) (maxL := 3) (ret := (some .int)) (by decide) rfl ?_
  intro p e s m args below meth c s₁ B hml hv
  obtain ⟨hargs, hP, hK, hN⟩ := hv
  have hx := B.exec
  have hb := B.bytes
  have hr := B.returns
  have hts := atoms_spec (ws := wsX8_bestCatch) B.pre
  have hown : s.vm.findClass RX8 = some m.cls := findClass_of_methodNamed B.named
  have hlocks := B.notSynchronized
  have hk0 := hts (.fieldLink RX8 7 "RimGrainsModel" "s" "[I") (by decide +kernel)
  have hin8 : ∀ w ∈ wsX80, w ∈ wsX8_bestCatch := by decide +kernel
  have hE := lg_entry_eq m [.ref (q0 0)] 3
  rw [← hargs] at hE
  rw [hE]
  have hl := lv_entry [.ref (q0 0)] (n := 3) (Nat.le_of_ble_eq_true rfl)
  generalize (lg_sl [.ref (q0 0)] ++ List.replicate (3 - (lg_sl [.ref (q0 0)]).length) Slot.unset).toArray = ls at hl ⊢
  have hl : lv_has ls 3 [(0, .ref (q0 0))] := hl
  unfold fX8_bestCatch at hf
  refine lv_iconst (v := 0) hx hb dX8_bestCatch_0 (by decide) ?_
  refine lv_istore_n (lv' := [(1, .int 0), (0, .ref (q0 0))]) hx hb dX8_bestCatch_1 rfl hl (by decide) rfl (fun ls hl => ?_)
  refine lv_iconst (v := 1) hx hb dX8_bestCatch_2 (by decide) ?_
  refine lv_istore_n (lv' := [(2, .int 1), (1, .int 0), (0, .ref (q0 0))]) hx hb dX8_bestCatch_3 rfl hl (by decide) rfl (fun ls hl => ?_)
  have hL4 : ∀ (n : Nat) (s4 : Int32 × Int32) (o4 : Int32), lp (tX8_bestCatch_4 g0) n s4 = some o4 → ∀ (ls : Array Slot), lv_has ls 3 [(0, .ref (q0 0)), (1, .int s4.1), (2, .int s4.2)] → (∀ (ls : Array Slot), lv_has ls 3 [(1, .int o4)] → W p l e (headSpec wsX8_bestCatch rmX8_bestCatch).room s m args below meth c s.heap [] 0 0 (MQ below (vp_Si (fun r => r = out)) args s 0 0 (fun _ => False)) (F0 m 39 ls [])) → W p l e (headSpec wsX8_bestCatch rmX8_bestCatch).room s m args below meth c s.heap [] 0 0 (MQ below (vp_Si (fun r => r = out)) args s 0 0 (fun _ => False)) (F0 m 4 ls []) := by
    intro n
    induction n with
    | zero => intro s4 o4 hf; exact (lp0 hf).elim
    | succ n ih4 =>
      intro s4 o4 hf ls hl kx
      obtain ⟨r4, hf, hn⟩ := lps hf
      unfold tX8_bestCatch_4 at hf
      refine lv_iload_n hx hb dX8_bestCatch_4 rfl (lv_at hl 2 rfl) ?_
      refine lv_aload_n hx hb dX8_bestCatch_5 rfl (lv_at hl 0 rfl) ?_
      refine va_get (D := (dC, dI)) (ci := 7) (v := .ref (q0 1)) (C := RX8) (T := TX8) (N := 21) hx hb hts hin8 hown hK hP 0 rfl rfl 0 (by decide) hk0 (fun _ h9 => h9) rfl dX8_bestCatch_6 ?_
      refine lv_iconst (v := 0) hx hb dX8_bestCatch_9 (by decide) ?_
      have hin : vp_in (0 : Int32) 373 := by unfold vp_in; decide
      refine va_iald hx hb hK hP 1 0 rfl rfl hin dX8_bestCatch_10 ?_
      refine lv_icmp_ge (tgt := 39) hx hb dX8_bestCatch_11 (by decide) (fun hc => ?_) (fun hc => ?_)
      · have hf := ot hc hf
        obtain rfl := Option.some.inj hf
        obtain rfl := Option.some.inj hn
        exact kx ls (lv_sub hl [1] rfl)
      · have hf := oe hc hf
        refine lv_aload_n hx hb dX8_bestCatch_14 rfl (lv_at hl 0 rfl) ?_
        refine lv_iload_n hx hb dX8_bestCatch_15 rfl (lv_at hl 2 rfl) ?_
        obtain ⟨o16, ho16, hf⟩ := ob hf
        refine rV (rest := []) (As := [.int s4.2]) ⟨hx, hb, hml, hown, hts⟩ (mX8_catchOf l dC dI cI cZ cC cO q0 _ _ _ ho16) (cwV 1 hts gX8_bestCatch_X8_catchOf rfl rfl rfl (by decide +kernel) ⟨Nat.le_of_ble_eq_true rfl, Nat.le_of_ble_eq_true rfl⟩) hK hN hP [0, 1, 2, 3, 4, 5, 6, 7, 8] rfl 7 rfl rfl rfl rfl hl.1 rfl (Nat.le_of_ble_eq_true rfl) dX8_bestCatch_16 ⟨Nat.zero_le _, Nat.zero_le _⟩ ?_
        refine lv_aload_n hx hb dX8_bestCatch_19 rfl (lv_at hl 0 rfl) ?_
        refine lv_iload_n hx hb dX8_bestCatch_20 rfl (lv_at hl 1 rfl) ?_
        obtain ⟨o21, ho21, hf⟩ := ob hf
        refine rV (rest := [.int o16]) (As := [.int s4.1]) ⟨hx, hb, hml, hown, hts⟩ (mX8_catchOf l dC dI cI cZ cC cO q0 _ _ _ ho21) (cwV 1 hts gX8_bestCatch_X8_catchOf rfl rfl rfl (by decide +kernel) ⟨Nat.le_of_ble_eq_true rfl, Nat.le_of_ble_eq_true rfl⟩) hK hN hP [0, 1, 2, 3, 4, 5, 6, 7, 8] rfl 7 rfl rfl rfl rfl hl.1 rfl (Nat.le_of_ble_eq_true rfl) dX8_bestCatch_21 ⟨Nat.zero_le _, Nat.zero_le _⟩ ?_
        have hJ1 : ∀ (y0_1 : Int32), jX8_bestCatch_1 s4 y0_1 = some r4 → ∀ ls : Array Slot, lv_has ls 3 [(0, .ref (q0 0)), (2, .int s4.2)] → W p l e (headSpec wsX8_bestCatch rmX8_bestCatch).room s m args below meth c s.heap [] 0 0 (MQ below (vp_Si (fun r => r = out)) args s 0 0 (fun _ => False)) (F0 m 32 ls [.int y0_1]) := by
          intro y0_1 hf ls hl
          unfold jX8_bestCatch_1 at hf
          refine lv_istore_n (lv' := [(1, .int y0_1), (0, .ref (q0 0)), (2, .int s4.2)]) hx hb dX8_bestCatch_32 rfl hl (by decide) rfl (fun ls hl => ?_)
          refine lv_iinc (v := (s4.2 + 1)) (lv' := [(2, .int (s4.2 + 1)), (1, .int y0_1), (0, .ref (q0 0))]) hx hb dX8_bestCatch_33 hl (k := 2) rfl rfl (by decide) rfl (fun ls hl => ?_)
          refine lv_goto (tgt := 4) hx hb dX8_bestCatch_36 (by decide) ?_
          obtain rfl := Option.some.inj hf
          exact ih4 _ _ hn ls (lv_sub hl [2, 1, 0] rfl) kx
        refine lv_icmp_le (tgt := 31) hx hb dX8_bestCatch_24 (by decide) (fun hc => ?_) (fun hc => ?_)
        · have hf := ot hc hf
          refine lv_iload_n hx hb dX8_bestCatch_31 rfl (lv_at hl 1 rfl) ?_
          exact hJ1 _ hf ls (lv_sub hl [0, 2] rfl)
        · have hf := oe hc hf
          refine lv_iload_n hx hb dX8_bestCatch_27 rfl (lv_at hl 2 rfl) ?_
          refine lv_goto (tgt := 32) hx hb dX8_bestCatch_28 (by decide) ?_
          exact hJ1 _ hf ls (lv_sub hl [0, 2] rfl)
  obtain ⟨o4, ho4, hf⟩ := ob hf
  refine hL4 FU _ _ ho4 ls (lv_sub hl [2, 1, 0] rfl) (fun ls hl => ?_)
  refine lv_iload_n hx hb dX8_bestCatch_39 rfl (lv_at hl 0 rfl) ?_
  obtain rfl := Option.some.inj hf
  exact W.iret (v := o4) hx hb hr (fun t ht hW => ⟨_, rfl, rfl, ht⟩) (fun _ h => by cases h) dX8_bestCatch_40
/-- RimGrainsModel.public int count(int); -/
def fX8_count (a1 : Int32) (g0 : GX8) : Option (Int32) :=
  (if a1 = 0 then some ((pX8_s g0) (0 : Int32).toNatClampNeg) else (if a1 = 1 then ((fX8_ofKind a1 g0).bind fun o105 => some o105) else (if a1 = 2 then ((fX8_ofKind a1 g0).bind fun o105 => some o105) else (if a1 = 3 then ((fX8_ofKind a1 g0).bind fun o105 => some o105) else (if a1 = 4 then ((fX8_deepest g0).bind fun o110 => some o110) else (if a1 = 5 then ((fX8_reachOf g0).bind fun o115 => some o115) else (if a1 = 6 then ((fX8_shore g0).bind fun o120 => some o120) else (if a1 = 7 then (if ((6 + a1) - 7) < 0 ∨ 373 ≤ ((6 + a1) - 7).toNatClampNeg then none else some ((pX8_s g0) ((6 + a1) - 7).toNatClampNeg)) else (if a1 = 8 then (if ((6 + a1) - 7) < 0 ∨ 373 ≤ ((6 + a1) - 7).toNatClampNeg then none else some ((pX8_s g0) ((6 + a1) - 7).toNatClampNeg)) else (if a1 = 9 then (if ((6 + a1) - 7) < 0 ∨ 373 ≤ ((6 + a1) - 7).toNatClampNeg then none else some ((pX8_s g0) ((6 + a1) - 7).toNatClampNeg)) else (if a1 = 10 then (if ((6 + a1) - 7) < 0 ∨ 373 ≤ ((6 + a1) - 7).toNatClampNeg then none else some ((pX8_s g0) ((6 + a1) - 7).toNatClampNeg)) else (if a1 = 11 then ((fX8_bestCatch g0).bind fun o139 => ((fX8_catchOf o139 g0).bind fun o142 => some o142)) else (if a1 = 12 then ((fX8_bestCatch g0).bind fun o147 => some o147) else (if a1 = 13 then (if ((2 + a1) - 13) < 0 ∨ 373 ≤ ((2 + a1) - 13).toNatClampNeg then none else some ((pX8_s g0) ((2 + a1) - 13).toNatClampNeg)) else (if a1 = 14 then (if ((2 + a1) - 13) < 0 ∨ 373 ≤ ((2 + a1) - 13).toNatClampNeg then none else some ((pX8_s g0) ((2 + a1) - 13).toNatClampNeg)) else (if a1 = 15 then (if ((2 + a1) - 13) < 0 ∨ 373 ≤ ((2 + a1) - 13).toNatClampNeg then none else some ((pX8_s g0) ((2 + a1) - 13).toNatClampNeg)) else (if a1 = 16 then (if ((2 + a1) - 13) < 0 ∨ 373 ≤ ((2 + a1) - 13).toNatClampNeg then none else some ((pX8_s g0) ((2 + a1) - 13).toNatClampNeg)) else (if a1 = 17 then some ((pX8_s g0) (1 : Int32).toNatClampNeg) else (if a1 = 18 then some (pX8_length g0) else (if a1 = 19 then some (pX8_known g0) else some (-1)))))))))))))))))))))
abbrev rmX8_count : Room := { frames := 5, cells := 0, slots := 0, locals := 112 }
set_option maxHeartbeats 4000000 in
set_option maxRecDepth 100000 in
theorem mX8_count (l : Launch) (dC : Nat → ClassId) (dI : Nat → Nat → Nat) (cI cZ cC cO : ClassId) (q0 : Nat → Nat) (a1 : Int32) (g0 : GX8) (out : Int32) (hf : fX8_count a1 g0 = some out) : Met l yX8_count wsX8_count rmX8_count (va_Pc [.ref (q0 0), .int a1] (pcR (dC, dI) (wTys cI cZ cC cO) (wX8 cI cZ cC q0 g0))) (vp_Si (fun r => r = out)) 0 0 (fun _ => False) := by
  refine Met.ofW (cc := cX8_count) (maxL := 2) (ret := (some .int)) (by decide) rfl ?_
  intro p e s m args below meth c s₁ B hml hv
  obtain ⟨hargs, hP, hK, hN⟩ := hv
  have hx := B.exec
  have hb := B.bytes
  have hr := B.returns
  have hts := atoms_spec (ws := wsX8_count) B.pre
  have hown : s.vm.findClass RX8 = some m.cls := findClass_of_methodNamed B.named
  have hlocks := B.notSynchronized
  have hk0 := hts (.fieldLink RX8 7 "RimGrainsModel" "s" "[I") (by decide +kernel)
  have hk1 := hts (.fieldLink RX8 144 "RimGrainsModel" "length" "I") (by decide +kernel)
  have hk2 := hts (.fieldLink RX8 39 "RimGrainsModel" "known" "I") (by decide +kernel)
  have hin8 : ∀ w ∈ wsX80, w ∈ wsX8_count := by decide +kernel
  have hE := lg_entry_eq m [.ref (q0 0), .int a1] 2
  rw [← hargs] at hE
  rw [hE]
  have hl := lv_entry [.ref (q0 0), .int a1] (n := 2) (Nat.le_of_ble_eq_true rfl)
  generalize (lg_sl [.ref (q0 0), .int a1] ++ List.replicate (2 - (lg_sl [.ref (q0 0), .int a1]).length) Slot.unset).toArray = ls at hl ⊢
  have hl : lv_has ls 2 [(0, .ref (q0 0)), (1, .int a1)] := hl
  unfold fX8_count at hf
  refine lv_iload_n hx hb dX8_count_0 rfl (lv_at hl 1 rfl) ?_
  by_cases hs1_0 : a1 = 0
  · have hf := ot hs1_0 hf
    refine lv_tableIn (off := 95) (tgt := 96) hx hb dX8_count_1 (by rw [hs1_0]; decide) (by rw [hs1_0]; decide) (by rw [hs1_0]; rfl) (by decide) ?_
    refine lv_aload_n hx hb dX8_count_96 rfl (lv_at hl 0 rfl) ?_
    refine va_get (D := (dC, dI)) (ci := 7) (v := .ref (q0 1)) (C := RX8) (T := TX8) (N := 21) hx hb hts hin8 hown hK hP 0 rfl rfl 0 (by decide) hk0 (fun _ h9 => h9) rfl dX8_count_97 ?_
    refine lv_iconst (v := 0) hx hb dX8_count_100 (by decide) ?_
    have hin : vp_in (0 : Int32) 373 := by unfold vp_in; decide
    refine va_iald hx hb hK hP 1 0 rfl rfl hin dX8_count_101 ?_
    obtain rfl := Option.some.inj hf
    exact W.iret (v := ((pX8_s g0) (0 : Int32).toNatClampNeg)) hx hb hr (fun t ht hW => ⟨_, rfl, rfl, ht⟩) (fun _ h => by cases h) dX8_count_102
  have hf := oe hs1_0 hf
  by_cases hs1_1 : a1 = 1
  · have hf := ot hs1_1 hf
    refine lv_tableIn (off := 102) (tgt := 103) hx hb dX8_count_1 (by rw [hs1_1]; decide) (by rw [hs1_1]; decide) (by rw [hs1_1]; rfl) (by decide) ?_
    refine lv_aload_n hx hb dX8_count_103 rfl (lv_at hl 0 rfl) ?_
    refine lv_iload_n hx hb dX8_count_104 rfl (lv_at hl 1 rfl) ?_
    obtain ⟨o105, ho105, hf⟩ := ob hf
    refine rV (rest := []) (As := [.int a1]) ⟨hx, hb, hml, hown, hts⟩ (mX8_ofKind l dC dI cI cZ cC cO q0 _ _ _ ho105) (cwV 1 hts gX8_count_X8_ofKind rfl rfl rfl (by decide +kernel) ⟨Nat.le_of_ble_eq_true rfl, Nat.le_of_ble_eq_true rfl⟩) hK hN hP [0, 1, 2, 3, 4, 5, 6, 7, 8] rfl 7 rfl rfl rfl rfl hl.1 rfl (Nat.le_of_ble_eq_true rfl) dX8_count_105 ⟨Nat.zero_le _, Nat.zero_le _⟩ ?_
    obtain rfl := Option.some.inj hf
    exact W.iret (v := o105) hx hb hr (fun t ht hW => ⟨_, rfl, rfl, ht⟩) (fun _ h => by cases h) dX8_count_108
  have hf := oe hs1_1 hf
  by_cases hs1_2 : a1 = 2
  · have hf := ot hs1_2 hf
    refine lv_tableIn (off := 102) (tgt := 103) hx hb dX8_count_1 (by rw [hs1_2]; decide) (by rw [hs1_2]; decide) (by rw [hs1_2]; rfl) (by decide) ?_
    refine lv_aload_n hx hb dX8_count_103 rfl (lv_at hl 0 rfl) ?_
    refine lv_iload_n hx hb dX8_count_104 rfl (lv_at hl 1 rfl) ?_
    obtain ⟨o105, ho105, hf⟩ := ob hf
    refine rV (rest := []) (As := [.int a1]) ⟨hx, hb, hml, hown, hts⟩ (mX8_ofKind l dC dI cI cZ cC cO q0 _ _ _ ho105) (cwV 1 hts gX8_count_X8_ofKind rfl rfl rfl (by decide +kernel) ⟨Nat.le_of_ble_eq_true rfl, Nat.le_of_ble_eq_true rfl⟩) hK hN hP [0, 1, 2, 3, 4, 5, 6, 7, 8] rfl 7 rfl rfl rfl rfl hl.1 rfl (Nat.le_of_ble_eq_true rfl) dX8_count_105 ⟨Nat.zero_le _, Nat.zero_le _⟩ ?_
    obtain rfl := Option.some.inj hf
    exact W.iret (v := o105) hx hb hr (fun t ht hW => ⟨_, rfl, rfl, ht⟩) (fun _ h => by cases h) dX8_count_108
  have hf := oe hs1_2 hf
  by_cases hs1_3 : a1 = 3
  · have hf := ot hs1_3 hf
    refine lv_tableIn (off := 102) (tgt := 103) hx hb dX8_count_1 (by rw [hs1_3]; decide) (by rw [hs1_3]; decide) (by rw [hs1_3]; rfl) (by decide) ?_
    refine lv_aload_n hx hb dX8_count_103 rfl (lv_at hl 0 rfl) ?_
    refine lv_iload_n hx hb dX8_count_104 rfl (lv_at hl 1 rfl) ?_
    obtain ⟨o105, ho105, hf⟩ := ob hf
    refine rV (rest := []) (As := [.int a1]) ⟨hx, hb, hml, hown, hts⟩ (mX8_ofKind l dC dI cI cZ cC cO q0 _ _ _ ho105) (cwV 1 hts gX8_count_X8_ofKind rfl rfl rfl (by decide +kernel) ⟨Nat.le_of_ble_eq_true rfl, Nat.le_of_ble_eq_true rfl⟩) hK hN hP [0, 1, 2, 3, 4, 5, 6, 7, 8] rfl 7 rfl rfl rfl rfl hl.1 rfl (Nat.le_of_ble_eq_true rfl) dX8_count_105 ⟨Nat.zero_le _, Nat.zero_le _⟩ ?_
    obtain rfl := Option.some.inj hf
    exact W.iret (v := o105) hx hb hr (fun t ht hW => ⟨_, rfl, rfl, ht⟩) (fun _ h => by cases h) dX8_count_108
  have hf := oe hs1_3 hf
  by_cases hs1_4 : a1 = 4
  · have hf := ot hs1_4 hf
    refine lv_tableIn (off := 108) (tgt := 109) hx hb dX8_count_1 (by rw [hs1_4]; decide) (by rw [hs1_4]; decide) (by rw [hs1_4]; rfl) (by decide) ?_
    refine lv_aload_n hx hb dX8_count_109 rfl (lv_at hl 0 rfl) ?_
    obtain ⟨o110, ho110, hf⟩ := ob hf
    refine rV (rest := []) (As := []) ⟨hx, hb, hml, hown, hts⟩ (mX8_deepest l dC dI cI cZ cC cO q0 _ _ ho110) (cwV 0 hts gX8_count_X8_deepest rfl rfl rfl (by decide +kernel) ⟨Nat.le_of_ble_eq_true rfl, Nat.le_of_ble_eq_true rfl⟩) hK hN hP [0, 1, 2, 3, 4, 5, 6, 7, 8] rfl 7 rfl rfl rfl rfl hl.1 rfl (Nat.le_of_ble_eq_true rfl) dX8_count_110 ⟨Nat.zero_le _, Nat.zero_le _⟩ ?_
    obtain rfl := Option.some.inj hf
    exact W.iret (v := o110) hx hb hr (fun t ht hW => ⟨_, rfl, rfl, ht⟩) (fun _ h => by cases h) dX8_count_113
  have hf := oe hs1_4 hf
  by_cases hs1_5 : a1 = 5
  · have hf := ot hs1_5 hf
    refine lv_tableIn (off := 113) (tgt := 114) hx hb dX8_count_1 (by rw [hs1_5]; decide) (by rw [hs1_5]; decide) (by rw [hs1_5]; rfl) (by decide) ?_
    refine lv_aload_n hx hb dX8_count_114 rfl (lv_at hl 0 rfl) ?_
    obtain ⟨o115, ho115, hf⟩ := ob hf
    refine rV (rest := []) (As := []) ⟨hx, hb, hml, hown, hts⟩ (mX8_reachOf l dC dI cI cZ cC cO q0 _ _ ho115) (cwV 0 hts gX8_count_X8_reachOf rfl rfl rfl (by decide +kernel) ⟨Nat.le_of_ble_eq_true rfl, Nat.le_of_ble_eq_true rfl⟩) hK hN hP [0, 1, 2, 3, 4, 5, 6, 7, 8] rfl 7 rfl rfl rfl rfl hl.1 rfl (Nat.le_of_ble_eq_true rfl) dX8_count_115 ⟨Nat.zero_le _, Nat.zero_le _⟩ ?_
    obtain rfl := Option.some.inj hf
    exact W.iret (v := o115) hx hb hr (fun t ht hW => ⟨_, rfl, rfl, ht⟩) (fun _ h => by cases h) dX8_count_118
  have hf := oe hs1_5 hf
  by_cases hs1_6 : a1 = 6
  · have hf := ot hs1_6 hf
    refine lv_tableIn (off := 118) (tgt := 119) hx hb dX8_count_1 (by rw [hs1_6]; decide) (by rw [hs1_6]; decide) (by rw [hs1_6]; rfl) (by decide) ?_
    refine lv_aload_n hx hb dX8_count_119 rfl (lv_at hl 0 rfl) ?_
    obtain ⟨o120, ho120, hf⟩ := ob hf
    refine rV (rest := []) (As := []) ⟨hx, hb, hml, hown, hts⟩ (mX8_shore l dC dI cI cZ cC cO q0 _ _ ho120) (cwV 0 hts gX8_count_X8_shore rfl rfl rfl (by decide +kernel) ⟨Nat.le_of_ble_eq_true rfl, Nat.le_of_ble_eq_true rfl⟩) hK hN hP [0, 1, 2, 3, 4, 5, 6, 7, 8] rfl 7 rfl rfl rfl rfl hl.1 rfl (Nat.le_of_ble_eq_true rfl) dX8_count_120 ⟨Nat.zero_le _, Nat.zero_le _⟩ ?_
    obtain rfl := Option.some.inj hf
    exact W.iret (v := o120) hx hb hr (fun t ht hW => ⟨_, rfl, rfl, ht⟩) (fun _ h => by cases h) dX8_count_123
  have hf := oe hs1_6 hf
  by_cases hs1_7 : a1 = 7
  · have hf := ot hs1_7 hf
    refine lv_tableIn (off := 123) (tgt := 124) hx hb dX8_count_1 (by rw [hs1_7]; decide) (by rw [hs1_7]; decide) (by rw [hs1_7]; rfl) (by decide) ?_
    refine lv_aload_n hx hb dX8_count_124 rfl (lv_at hl 0 rfl) ?_
    refine va_get (D := (dC, dI)) (ci := 7) (v := .ref (q0 1)) (C := RX8) (T := TX8) (N := 21) hx hb hts hin8 hown hK hP 0 rfl rfl 0 (by decide) hk0 (fun _ h9 => h9) rfl dX8_count_125 ?_
    refine lv_bipush (v := 6) hx hb dX8_count_128 (by decide) ?_
    refine lv_iload_n hx hb dX8_count_130 rfl (lv_at hl 1 rfl) ?_
    refine lv_iadd hx hb dX8_count_131 ?_
    refine lv_bipush (v := 7) hx hb dX8_count_132 (by decide) ?_
    refine lv_isub hx hb dX8_count_134 ?_
    obtain ⟨hin, hf⟩ := og hf
    refine va_iald hx hb hK hP 1 0 rfl rfl hin dX8_count_135 ?_
    obtain rfl := Option.some.inj hf
    exact W.iret (v := ((pX8_s g0) ((6 + a1) - 7).toNatClampNeg)) hx hb hr (fun t ht hW => ⟨_, rfl, rfl, ht⟩) (fun _ h => by cases h) dX8_count_136
  have hf := oe hs1_7 hf
  by_cases hs1_8 : a1 = 8
  · have hf := ot hs1_8 hf
    refine lv_tableIn (off := 123) (tgt := 124) hx hb dX8_count_1 (by rw [hs1_8]; decide) (by rw [hs1_8]; decide) (by rw [hs1_8]; rfl) (by decide) ?_
    refine lv_aload_n hx hb dX8_count_124 rfl (lv_at hl 0 rfl) ?_
    refine va_get (D := (dC, dI)) (ci := 7) (v := .ref (q0 1)) (C := RX8) (T := TX8) (N := 21) hx hb hts hin8 hown hK hP 0 rfl rfl 0 (by decide) hk0 (fun _ h9 => h9) rfl dX8_count_125 ?_
    refine lv_bipush (v := 6) hx hb dX8_count_128 (by decide) ?_
    refine lv_iload_n hx hb dX8_count_130 rfl (lv_at hl 1 rfl) ?_
    refine lv_iadd hx hb dX8_count_131 ?_
    refine lv_bipush (v := 7) hx hb dX8_count_132 (by decide) ?_
    refine lv_isub hx hb dX8_count_134 ?_
    obtain ⟨hin, hf⟩ := og hf
    refine va_iald hx hb hK hP 1 0 rfl rfl hin dX8_count_135 ?_
    obtain rfl := Option.some.inj hf
    exact W.iret (v := ((pX8_s g0) ((6 + a1) - 7).toNatClampNeg)) hx hb hr (fun t ht hW => ⟨_, rfl, rfl, ht⟩) (fun _ h => by cases h) dX8_count_136
  have hf := oe hs1_8 hf
  by_cases hs1_9 : a1 = 9
  · have hf := ot hs1_9 hf
    refine lv_tableIn (off := 123) (tgt := 124) hx hb dX8_count_1 (by rw [hs1_9]; decide) (by rw [hs1_9]; decide) (by rw [hs1_9]; rfl) (by decide) ?_
    refine lv_aload_n hx hb dX8_count_124 rfl (lv_at hl 0 rfl) ?_
    refine va_get (D := (dC, dI)) (ci := 7) (v := .ref (q0 1)) (C := RX8) (T := TX8) (N := 21) hx hb hts hin8 hown hK hP 0 rfl rfl 0 (by decide) hk0 (fun _ h9 => h9) rfl dX8_count_125 ?_
    refine lv_bipush (v := 6) hx hb dX8_count_128 (by decide) ?_
    refine lv_iload_n hx hb dX8_count_130 rfl (lv_at hl 1 rfl) ?_
    refine lv_iadd hx hb dX8_count_131 ?_
    refine lv_bipush (v := 7) hx hb dX8_count_132 (by decide) ?_
    refine lv_isub hx hb dX8_count_134 ?_
    obtain ⟨hin, hf⟩ := og hf
    refine va_iald hx hb hK hP 1 0 rfl rfl hin dX8_count_135 ?_
    obtain rfl := Option.some.inj hf
    exact W.iret (v := ((pX8_s g0) ((6 + a1) - 7).toNatClampNeg)) hx hb hr (fun t ht hW => ⟨_, rfl, rfl, ht⟩) (fun _ h => by cases h) dX8_count_136
  have hf := oe hs1_9 hf
  by_cases hs1_10 : a1 = 10
  · have hf := ot hs1_10 hf
    refine lv_tableIn (off := 123) (tgt := 124) hx hb dX8_count_1 (by rw [hs1_10]; decide) (by rw [hs1_10]; decide) (by rw [hs1_10]; rfl) (by decide) ?_
    refine lv_aload_n hx hb dX8_count_124 rfl (lv_at hl 0 rfl) ?_
    refine va_get (D := (dC, dI)) (ci := 7) (v := .ref (q0 1)) (C := RX8) (T := TX8) (N := 21) hx hb hts hin8 hown hK hP 0 rfl rfl 0 (by decide) hk0 (fun _ h9 => h9) rfl dX8_count_125 ?_
    refine lv_bipush (v := 6) hx hb dX8_count_128 (by decide) ?_
    refine lv_iload_n hx hb dX8_count_130 rfl (lv_at hl 1 rfl) ?_
    refine lv_iadd hx hb dX8_count_131 ?_
    refine lv_bipush (v := 7) hx hb dX8_count_132 (by decide) ?_
    refine lv_isub hx hb dX8_count_134 ?_
    obtain ⟨hin, hf⟩ := og hf
    refine va_iald hx hb hK hP 1 0 rfl rfl hin dX8_count_135 ?_
    obtain rfl := Option.some.inj hf
    exact W.iret (v := ((pX8_s g0) ((6 + a1) - 7).toNatClampNeg)) hx hb hr (fun t ht hW => ⟨_, rfl, rfl, ht⟩) (fun _ h => by cases h) dX8_count_136
  have hf := oe hs1_10 hf
  by_cases hs1_11 : a1 = 11
  · have hf := ot hs1_11 hf
    refine lv_tableIn (off := 136) (tgt := 137) hx hb dX8_count_1 (by rw [hs1_11]; decide) (by rw [hs1_11]; decide) (by rw [hs1_11]; rfl) (by decide) ?_
    refine lv_aload_n hx hb dX8_count_137 rfl (lv_at hl 0 rfl) ?_
    refine lv_aload_n hx hb dX8_count_138 rfl (lv_at hl 0 rfl) ?_
    obtain ⟨o139, ho139, hf⟩ := ob hf
    refine rV (rest := [.ref (q0 0)]) (As := []) ⟨hx, hb, hml, hown, hts⟩ (mX8_bestCatch l dC dI cI cZ cC cO q0 _ _ ho139) (cwV 0 hts gX8_count_X8_bestCatch rfl rfl rfl (by decide +kernel) ⟨Nat.le_of_ble_eq_true rfl, Nat.le_of_ble_eq_true rfl⟩) hK hN hP [0, 1, 2, 3, 4, 5, 6, 7, 8] rfl 7 rfl rfl rfl rfl hl.1 rfl (Nat.le_of_ble_eq_true rfl) dX8_count_139 ⟨Nat.zero_le _, Nat.zero_le _⟩ ?_
    obtain ⟨o142, ho142, hf⟩ := ob hf
    refine rV (rest := []) (As := [.int o139]) ⟨hx, hb, hml, hown, hts⟩ (mX8_catchOf l dC dI cI cZ cC cO q0 _ _ _ ho142) (cwV 1 hts gX8_count_X8_catchOf rfl rfl rfl (by decide +kernel) ⟨Nat.le_of_ble_eq_true rfl, Nat.le_of_ble_eq_true rfl⟩) hK hN hP [0, 1, 2, 3, 4, 5, 6, 7, 8] rfl 7 rfl rfl rfl rfl hl.1 rfl (Nat.le_of_ble_eq_true rfl) dX8_count_142 ⟨Nat.zero_le _, Nat.zero_le _⟩ ?_
    obtain rfl := Option.some.inj hf
    exact W.iret (v := o142) hx hb hr (fun t ht hW => ⟨_, rfl, rfl, ht⟩) (fun _ h => by cases h) dX8_count_145
  have hf := oe hs1_11 hf
  by_cases hs1_12 : a1 = 12
  · have hf := ot hs1_12 hf
    refine lv_tableIn (off := 145) (tgt := 146) hx hb dX8_count_1 (by rw [hs1_12]; decide) (by rw [hs1_12]; decide) (by rw [hs1_12]; rfl) (by decide) ?_
    refine lv_aload_n hx hb dX8_count_146 rfl (lv_at hl 0 rfl) ?_
    obtain ⟨o147, ho147, hf⟩ := ob hf
    refine rV (rest := []) (As := []) ⟨hx, hb, hml, hown, hts⟩ (mX8_bestCatch l dC dI cI cZ cC cO q0 _ _ ho147) (cwV 0 hts gX8_count_X8_bestCatch rfl rfl rfl (by decide +kernel) ⟨Nat.le_of_ble_eq_true rfl, Nat.le_of_ble_eq_true rfl⟩) hK hN hP [0, 1, 2, 3, 4, 5, 6, 7, 8] rfl 7 rfl rfl rfl rfl hl.1 rfl (Nat.le_of_ble_eq_true rfl) dX8_count_147 ⟨Nat.zero_le _, Nat.zero_le _⟩ ?_
    obtain rfl := Option.some.inj hf
    exact W.iret (v := o147) hx hb hr (fun t ht hW => ⟨_, rfl, rfl, ht⟩) (fun _ h => by cases h) dX8_count_150
  have hf := oe hs1_12 hf
  by_cases hs1_13 : a1 = 13
  · have hf := ot hs1_13 hf
    refine lv_tableIn (off := 150) (tgt := 151) hx hb dX8_count_1 (by rw [hs1_13]; decide) (by rw [hs1_13]; decide) (by rw [hs1_13]; rfl) (by decide) ?_
    refine lv_aload_n hx hb dX8_count_151 rfl (lv_at hl 0 rfl) ?_
    refine va_get (D := (dC, dI)) (ci := 7) (v := .ref (q0 1)) (C := RX8) (T := TX8) (N := 21) hx hb hts hin8 hown hK hP 0 rfl rfl 0 (by decide) hk0 (fun _ h9 => h9) rfl dX8_count_152 ?_
    refine lv_iconst (v := 2) hx hb dX8_count_155 (by decide) ?_
    refine lv_iload_n hx hb dX8_count_156 rfl (lv_at hl 1 rfl) ?_
    refine lv_iadd hx hb dX8_count_157 ?_
    refine lv_bipush (v := 13) hx hb dX8_count_158 (by decide) ?_
    refine lv_isub hx hb dX8_count_160 ?_
    obtain ⟨hin, hf⟩ := og hf
    refine va_iald hx hb hK hP 1 0 rfl rfl hin dX8_count_161 ?_
    obtain rfl := Option.some.inj hf
    exact W.iret (v := ((pX8_s g0) ((2 + a1) - 13).toNatClampNeg)) hx hb hr (fun t ht hW => ⟨_, rfl, rfl, ht⟩) (fun _ h => by cases h) dX8_count_162
  have hf := oe hs1_13 hf
  by_cases hs1_14 : a1 = 14
  · have hf := ot hs1_14 hf
    refine lv_tableIn (off := 150) (tgt := 151) hx hb dX8_count_1 (by rw [hs1_14]; decide) (by rw [hs1_14]; decide) (by rw [hs1_14]; rfl) (by decide) ?_
    refine lv_aload_n hx hb dX8_count_151 rfl (lv_at hl 0 rfl) ?_
    refine va_get (D := (dC, dI)) (ci := 7) (v := .ref (q0 1)) (C := RX8) (T := TX8) (N := 21) hx hb hts hin8 hown hK hP 0 rfl rfl 0 (by decide) hk0 (fun _ h9 => h9) rfl dX8_count_152 ?_
    refine lv_iconst (v := 2) hx hb dX8_count_155 (by decide) ?_
    refine lv_iload_n hx hb dX8_count_156 rfl (lv_at hl 1 rfl) ?_
    refine lv_iadd hx hb dX8_count_157 ?_
    refine lv_bipush (v := 13) hx hb dX8_count_158 (by decide) ?_
    refine lv_isub hx hb dX8_count_160 ?_
    obtain ⟨hin, hf⟩ := og hf
    refine va_iald hx hb hK hP 1 0 rfl rfl hin dX8_count_161 ?_
    obtain rfl := Option.some.inj hf
    exact W.iret (v := ((pX8_s g0) ((2 + a1) - 13).toNatClampNeg)) hx hb hr (fun t ht hW => ⟨_, rfl, rfl, ht⟩) (fun _ h => by cases h) dX8_count_162
  have hf := oe hs1_14 hf
  by_cases hs1_15 : a1 = 15
  · have hf := ot hs1_15 hf
    refine lv_tableIn (off := 150) (tgt := 151) hx hb dX8_count_1 (by rw [hs1_15]; decide) (by rw [hs1_15]; decide) (by rw [hs1_15]; rfl) (by decide) ?_
    refine lv_aload_n hx hb dX8_count_151 rfl (lv_at hl 0 rfl) ?_
    refine va_get (D := (dC, dI)) (ci := 7) (v := .ref (q0 1)) (C := RX8) (T := TX8) (N := 21) hx hb hts hin8 hown hK hP 0 rfl rfl 0 (by decide) hk0 (fun _ h9 => h9) rfl dX8_count_152 ?_
    refine lv_iconst (v := 2) hx hb dX8_count_155 (by decide) ?_
    refine lv_iload_n hx hb dX8_count_156 rfl (lv_at hl 1 rfl) ?_
    refine lv_iadd hx hb dX8_count_157 ?_
    refine lv_bipush (v := 13) hx hb dX8_count_158 (by decide) ?_
    refine lv_isub hx hb dX8_count_160 ?_
    obtain ⟨hin, hf⟩ := og hf
    refine va_iald hx hb hK hP 1 0 rfl rfl hin dX8_count_161 ?_
    obtain rfl := Option.some.inj hf
    exact W.iret (v := ((pX8_s g0) ((2 + a1) - 13).toNatClampNeg)) hx hb hr (fun t ht hW => ⟨_, rfl, rfl, ht⟩) (fun _ h => by cases h) dX8_count_162
  have hf := oe hs1_15 hf
  by_cases hs1_16 : a1 = 16
  · have hf := ot hs1_16 hf
    refine lv_tableIn (off := 150) (tgt := 151) hx hb dX8_count_1 (by rw [hs1_16]; decide) (by rw [hs1_16]; decide) (by rw [hs1_16]; rfl) (by decide) ?_
    refine lv_aload_n hx hb dX8_count_151 rfl (lv_at hl 0 rfl) ?_
    refine va_get (D := (dC, dI)) (ci := 7) (v := .ref (q0 1)) (C := RX8) (T := TX8) (N := 21) hx hb hts hin8 hown hK hP 0 rfl rfl 0 (by decide) hk0 (fun _ h9 => h9) rfl dX8_count_152 ?_
    refine lv_iconst (v := 2) hx hb dX8_count_155 (by decide) ?_
    refine lv_iload_n hx hb dX8_count_156 rfl (lv_at hl 1 rfl) ?_
    refine lv_iadd hx hb dX8_count_157 ?_
    refine lv_bipush (v := 13) hx hb dX8_count_158 (by decide) ?_
    refine lv_isub hx hb dX8_count_160 ?_
    obtain ⟨hin, hf⟩ := og hf
    refine va_iald hx hb hK hP 1 0 rfl rfl hin dX8_count_161 ?_
    obtain rfl := Option.some.inj hf
    exact W.iret (v := ((pX8_s g0) ((2 + a1) - 13).toNatClampNeg)) hx hb hr (fun t ht hW => ⟨_, rfl, rfl, ht⟩) (fun _ h => by cases h) dX8_count_162
  have hf := oe hs1_16 hf
  by_cases hs1_17 : a1 = 17
  · have hf := ot hs1_17 hf
    refine lv_tableIn (off := 162) (tgt := 163) hx hb dX8_count_1 (by rw [hs1_17]; decide) (by rw [hs1_17]; decide) (by rw [hs1_17]; rfl) (by decide) ?_
    refine lv_aload_n hx hb dX8_count_163 rfl (lv_at hl 0 rfl) ?_
    refine va_get (D := (dC, dI)) (ci := 7) (v := .ref (q0 1)) (C := RX8) (T := TX8) (N := 21) hx hb hts hin8 hown hK hP 0 rfl rfl 0 (by decide) hk0 (fun _ h9 => h9) rfl dX8_count_164 ?_
    refine lv_iconst (v := 1) hx hb dX8_count_167 (by decide) ?_
    have hin : vp_in (1 : Int32) 373 := by unfold vp_in; decide
    refine va_iald hx hb hK hP 1 0 rfl rfl hin dX8_count_168 ?_
    obtain rfl := Option.some.inj hf
    exact W.iret (v := ((pX8_s g0) (1 : Int32).toNatClampNeg)) hx hb hr (fun t ht hW => ⟨_, rfl, rfl, ht⟩) (fun _ h => by cases h) dX8_count_169
  have hf := oe hs1_17 hf
  by_cases hs1_18 : a1 = 18
  · have hf := ot hs1_18 hf
    refine lv_tableIn (off := 169) (tgt := 170) hx hb dX8_count_1 (by rw [hs1_18]; decide) (by rw [hs1_18]; decide) (by rw [hs1_18]; rfl) (by decide) ?_
    refine lv_aload_n hx hb dX8_count_170 rfl (lv_at hl 0 rfl) ?_
    refine va_get (D := (dC, dI)) (ci := 7) (v := .int (pX8_length g0)) (C := RX8) (T := TX8) (N := 21) hx hb hts hin8 hown hK hP 0 rfl rfl 7 (by decide) hk1 (fun _ h9 => h9) rfl dX8_count_171 ?_
    obtain rfl := Option.some.inj hf
    exact W.iret (v := (pX8_length g0)) hx hb hr (fun t ht hW => ⟨_, rfl, rfl, ht⟩) (fun _ h => by cases h) dX8_count_174
  have hf := oe hs1_18 hf
  by_cases hs1_19 : a1 = 19
  · have hf := ot hs1_19 hf
    refine lv_tableIn (off := 174) (tgt := 175) hx hb dX8_count_1 (by rw [hs1_19]; decide) (by rw [hs1_19]; decide) (by rw [hs1_19]; rfl) (by decide) ?_
    refine lv_aload_n hx hb dX8_count_175 rfl (lv_at hl 0 rfl) ?_
    refine va_get (D := (dC, dI)) (ci := 7) (v := .int (pX8_known g0)) (C := RX8) (T := TX8) (N := 21) hx hb hts hin8 hown hK hP 0 rfl rfl 3 (by decide) hk2 (fun _ h9 => h9) rfl dX8_count_176 ?_
    obtain rfl := Option.some.inj hf
    exact W.iret (v := (pX8_known g0)) hx hb hr (fun t ht hW => ⟨_, rfl, rfl, ht⟩) (fun _ h => by cases h) dX8_count_179
  have hf := oe hs1_19 hf
  have hs1_0T := lv_neT (a := 0) hs1_0 rfl
  have hs1_1T := lv_neT (a := 1) hs1_1 rfl
  have hs1_2T := lv_neT (a := 2) hs1_2 rfl
  have hs1_3T := lv_neT (a := 3) hs1_3 rfl
  have hs1_4T := lv_neT (a := 4) hs1_4 rfl
  have hs1_5T := lv_neT (a := 5) hs1_5 rfl
  have hs1_6T := lv_neT (a := 6) hs1_6 rfl
  have hs1_7T := lv_neT (a := 7) hs1_7 rfl
  have hs1_8T := lv_neT (a := 8) hs1_8 rfl
  have hs1_9T := lv_neT (a := 9) hs1_9 rfl
  have hs1_10T := lv_neT (a := 10) hs1_10 rfl
  have hs1_11T := lv_neT (a := 11) hs1_11 rfl
  have hs1_12T := lv_neT (a := 12) hs1_12 rfl
  have hs1_13T := lv_neT (a := 13) hs1_13 rfl
  have hs1_14T := lv_neT (a := 14) hs1_14 rfl
  have hs1_15T := lv_neT (a := 15) hs1_15 rfl
  have hs1_16T := lv_neT (a := 16) hs1_16 rfl
  have hs1_17T := lv_neT (a := 17) hs1_17 rfl
  have hs1_18T := lv_neT (a := 18) hs1_18 rfl
  have hs1_19T := lv_neT (a := 19) hs1_19 rfl
  refine lv_tableOut (tgt := 180) hx hb dX8_count_1 (by omega) (by decide) ?_
  refine lv_iconst (v := (-1)) hx hb dX8_count_180 (by decide) ?_
  obtain rfl := Option.some.inj hf
  exact W.iret (v := (-1)) hx hb hr (fun t ht hW => ⟨_, rfl, rfl, ht⟩) (fun _ h => by cases h) dX8_count_181
/-- RimGrainsModel.public int ifGone(int, int); -/
def fX8_ifGone (a1 : Int32) (a2 : Int32) (g0 : GX8) : Option (Int32 × GX8) :=
  ((fX8_isRim a1).bind fun o1 => (if o1 = 0 then some ((-1), g0) else ((fX8_in a2 0 2).bind fun o10 => (if o10 = 0 then some ((-1), g0) else ((fX8_isBlocked a1 g0).bind fun o20 => (if o20 = 0 then ((fX8_rimCell a1).bind fun o38 => ((fX8_walks o38 g0).bind fun o41 => (if a2 = 1 then some ((pX8_walker o41.2), ((upd (pX8_s o41.2) (1 : Int32).toNatClampNeg ((pX8_s g0) (1 : Int32).toNatClampNeg)), (pX8_aside o41.2), (pX8_past o41.2), (pX8_known o41.2), (pX8_kept o41.2), (pX8_isKept o41.2), (pX8_pad o41.2), (pX8_length o41.2), (pX8_whyError o41.2), (pX8_whyNumber o41.2), (pX8_whySpot o41.2), (pX8_lots o41.2), (pX8_walker o41.2), (pX8_steps o41.2), (pX8_goes o41.2), (pX8_becomes o41.2), (pX8_spot o41.2), (pX8_isForm o41.2), (pX8_letter o41.2), (pX8_told o41.2), (pX8_highest o41.2))) else (if a2 = 2 then some ((pX8_lots o41.2), ((upd (pX8_s o41.2) (1 : Int32).toNatClampNeg ((pX8_s g0) (1 : Int32).toNatClampNeg)), (pX8_aside o41.2), (pX8_past o41.2), (pX8_known o41.2), (pX8_kept o41.2), (pX8_isKept o41.2), (pX8_pad o41.2), (pX8_length o41.2), (pX8_whyError o41.2), (pX8_whyNumber o41.2), (pX8_whySpot o41.2), (pX8_lots o41.2), (pX8_walker o41.2), (pX8_steps o41.2), (pX8_goes o41.2), (pX8_becomes o41.2), (pX8_spot o41.2), (pX8_isForm o41.2), (pX8_letter o41.2), (pX8_told o41.2), (pX8_highest o41.2))) else (if o41.1 = 0 then some ((pX8_steps o41.2), ((upd (pX8_s o41.2) (1 : Int32).toNatClampNeg ((pX8_s g0) (1 : Int32).toNatClampNeg)), (pX8_aside o41.2), (pX8_past o41.2), (pX8_known o41.2), (pX8_kept o41.2), (pX8_isKept o41.2), (pX8_pad o41.2), (pX8_length o41.2), (pX8_whyError o41.2), (pX8_whyNumber o41.2), (pX8_whySpot o41.2), (pX8_lots o41.2), (pX8_walker o41.2), (pX8_steps o41.2), (pX8_goes o41.2), (pX8_becomes o41.2), (pX8_spot o41.2), (pX8_isForm o41.2), (pX8_letter o41.2), (pX8_told o41.2), (pX8_highest o41.2))) else some ((1000 + (pX8_walker o41.2)), ((upd (pX8_s o41.2) (1 : Int32).toNatClampNeg ((pX8_s g0) (1 : Int32).toNatClampNeg)), (pX8_aside o41.2), (pX8_past o41.2), (pX8_known o41.2), (pX8_kept o41.2), (pX8_isKept o41.2), (pX8_pad o41.2), (pX8_length o41.2), (pX8_whyError o41.2), (pX8_whyNumber o41.2), (pX8_whySpot o41.2), (pX8_lots o41.2), (pX8_walker o41.2), (pX8_steps o41.2), (pX8_goes o41.2), (pX8_becomes o41.2), (pX8_spot o41.2), (pX8_isForm o41.2), (pX8_letter o41.2), (pX8_told o41.2), (pX8_highest o41.2)))))))) else some ((-2), g0)))))))
abbrev rmX8_ifGone : Room := { frames := 4, cells := 0, slots := 0, locals := 93 }
set_option maxHeartbeats 4000000 in
set_option maxRecDepth 100000 in
theorem mX8_ifGone (l : Launch) (dC : Nat → ClassId) (dI : Nat → Nat → Nat) (cI cZ cC cO : ClassId) (q0 : Nat → Nat) (a1 : Int32) (a2 : Int32) (g0 : GX8) (sz : Nat) (out : Int32 × GX8) (hf : fX8_ifGone a1 a2 g0 = some out) : Met l yX8_ifGone wsX8_ifGone rmX8_ifGone (va_Pc [.ref (q0 0), .int a1, .int a2] (pcW (dC, dI) (wTys cI cZ cC cO) sz (wX8 cI cZ cC q0 g0))) (va_Qi (fun r (_ : Unit) => r = out.1) (fun _ => poW (dC, dI) (va_A (wX8 cI cZ cC q0 g0) sz) (wX8 cI cZ cC q0 out.2)) (va_A (wX8 cI cZ cC q0 g0) sz)) 0 0 (va_A (wX8 cI cZ cC q0 g0) sz) := by
  refine Met.ofW (cc := cX8_ifGone) (maxL := 5) (ret := (some .int)) (by decide) rfl ?_
  intro p e s m args below meth c s₁ B hml hv
  obtain ⟨hargs, hsz, hP, hK, hN, hD0⟩ := hv
  have hx := B.exec
  have hb := B.bytes
  have hr := B.returns
  have hts := atoms_spec (ws := wsX8_ifGone) B.pre
  have hown : s.vm.findClass RX8 = some m.cls := findClass_of_methodNamed B.named
  have hlocks := B.notSynchronized
  have hk0 := hts (.fieldLink RX8 7 "RimGrainsModel" "s" "[I") (by decide +kernel)
  have hk1 := hts (.fieldLink RX8 81 "RimGrainsModel" "steps" "I") (by decide +kernel)
  have hk2 := hts (.fieldLink RX8 78 "RimGrainsModel" "walker" "I") (by decide +kernel)
  have hk3 := hts (.fieldLink RX8 75 "RimGrainsModel" "lots" "I") (by decide +kernel)
  have hin8 : ∀ w ∈ wsX80, w ∈ wsX8_ifGone := by decide +kernel
  subst hsz
  have hD := hD0.self (sz := s.heap.size)
  generalize hAe : va_A (wX8 cI cZ cC q0 g0) s.heap.size = A at hD ⊢
  have hA : ∀ q : Nat, s.heap.size ≤ q → A q := fun q h => by rw [← hAe]; exact Or.inr h
  have hS : va_S A s.heap s.heap [] := va_S.rf
  have hE := lg_entry_eq m [.ref (q0 0), .int a1, .int a2] 5
  rw [← hargs] at hE
  rw [hE]
  have hl := lv_entry [.ref (q0 0), .int a1, .int a2] (n := 5) (Nat.le_of_ble_eq_true rfl)
  generalize (lg_sl [.ref (q0 0), .int a1, .int a2] ++ List.replicate (5 - (lg_sl [.ref (q0 0), .int a1, .int a2]).length) Slot.unset).toArray = ls at hl ⊢
  have hl : lv_has ls 5 [(0, .ref (q0 0)), (1, .int a1), (2, .int a2)] := hl
  have hP : va_P (dC, dI) vwCl (wX8 cI cZ cC q0 g0) s.heap := hP
  unfold fX8_ifGone at hf
  refine lv_iload_n hx hb dX8_ifGone_0 rfl (lv_at hl 1 rfl) ?_
  obtain ⟨o1, ho1, hf⟩ := ob hf
  refine rS (rest := []) (As := [.int a1]) ⟨hx, hb, hml, hown, hts⟩ (mX8_isRim l dC dI cI cZ cC cO  _ _ ho1) (va_cwS 1 hts gX8_ifGone_X8_isRim rfl rfl rfl (by decide +kernel) ⟨Nat.le_of_ble_eq_true rfl, Nat.le_of_ble_eq_true rfl⟩) hK hN hP [] rfl rfl hl.1 rfl (Nat.le_of_ble_eq_true rfl) dX8_ifGone_1 ⟨Nat.zero_le _, Nat.zero_le _⟩ ?_
  refine lv_if_eq (tgt := 16) hx hb dX8_ifGone_4 (by decide) (fun hc => ?_) (fun hc => ?_)
  · have hf := ot hc hf
    refine lv_iconst (v := (-1)) hx hb dX8_ifGone_16 (by decide) ?_
    obtain rfl := Option.some.inj hf
    exact W.iret (v := (-1)) hx hb hr (fun t ht hW => ⟨⟨_, (), rfl, rfl, by rw [ht]; exact hP, hD⟩, hS.F ht⟩) hS.2.2 dX8_ifGone_17
  · have hf := oe hc hf
    refine lv_iload_n hx hb dX8_ifGone_7 rfl (lv_at hl 2 rfl) ?_
    refine lv_iconst (v := 0) hx hb dX8_ifGone_8 (by decide) ?_
    refine lv_iconst (v := 2) hx hb dX8_ifGone_9 (by decide) ?_
    obtain ⟨o10, ho10, hf⟩ := ob hf
    refine rS (rest := []) (As := [.int a2, .int 0, .int 2]) ⟨hx, hb, hml, hown, hts⟩ (mX8_in l dC dI cI cZ cC cO  _ _ _ _ ho10) (va_cwS 3 hts gX8_ifGone_X8_in rfl rfl rfl (by decide +kernel) ⟨Nat.le_of_ble_eq_true rfl, Nat.le_of_ble_eq_true rfl⟩) hK hN hP [] rfl rfl hl.1 rfl (Nat.le_of_ble_eq_true rfl) dX8_ifGone_10 ⟨Nat.zero_le _, Nat.zero_le _⟩ ?_
    refine lv_if_ne (tgt := 18) hx hb dX8_ifGone_13 (by decide) (fun hc => ?_) (fun hc => ?_)
    · have hf := oe hc hf
      refine lv_aload_n hx hb dX8_ifGone_18 rfl (lv_at hl 0 rfl) ?_
      refine lv_iload_n hx hb dX8_ifGone_19 rfl (lv_at hl 1 rfl) ?_
      obtain ⟨o20, ho20, hf⟩ := ob hf
      refine rV (rest := []) (As := [.int a1]) ⟨hx, hb, hml, hown, hts⟩ (mX8_isBlocked l dC dI cI cZ cC cO q0 _ _ _ ho20) (cwV 1 hts gX8_ifGone_X8_isBlocked rfl rfl rfl (by decide +kernel) ⟨Nat.le_of_ble_eq_true rfl, Nat.le_of_ble_eq_true rfl⟩) hK hN hP [0, 1, 2, 3, 4, 5, 6, 7, 8] rfl 7 rfl rfl rfl rfl hl.1 rfl (Nat.le_of_ble_eq_true rfl) dX8_ifGone_20 ⟨Nat.zero_le _, Nat.zero_le _⟩ ?_
      refine lv_if_eq (tgt := 29) hx hb dX8_ifGone_23 (by decide) (fun hc => ?_) (fun hc => ?_)
      · have hf := ot hc hf
        refine lv_aload_n hx hb dX8_ifGone_29 rfl (lv_at hl 0 rfl) ?_
        refine va_get (D := (dC, dI)) (ci := 7) (v := .ref (q0 1)) (C := RX8) (T := TX8) (N := 21) hx hb hts hin8 hown hK hP 0 rfl rfl 0 (by decide) hk0 (fun _ h9 => h9) rfl dX8_ifGone_30 ?_
        refine lv_iconst (v := 1) hx hb dX8_ifGone_33 (by decide) ?_
        have hin : vp_in (1 : Int32) 373 := by unfold vp_in; decide
        refine va_iald hx hb hK hP 1 0 rfl rfl hin dX8_ifGone_34 ?_
        refine lv_istore_n (lv' := [(3, .int ((pX8_s g0) (1 : Int32).toNatClampNeg)), (0, .ref (q0 0)), (1, .int a1), (2, .int a2)]) hx hb dX8_ifGone_35 rfl hl (by decide) rfl (fun ls hl => ?_)
        refine lv_aload_n hx hb dX8_ifGone_36 rfl (lv_at hl 1 rfl) ?_
        refine lv_iload_n hx hb dX8_ifGone_37 rfl (lv_at hl 2 rfl) ?_
        obtain ⟨o38, ho38, hf⟩ := ob hf
        refine rS (rest := [.ref (q0 0)]) (As := [.int a1]) ⟨hx, hb, hml, hown, hts⟩ (mX8_rimCell l dC dI cI cZ cC cO  _ _ ho38) (va_cwS 1 hts gX8_ifGone_X8_rimCell rfl rfl rfl (by decide +kernel) ⟨Nat.le_of_ble_eq_true rfl, Nat.le_of_ble_eq_true rfl⟩) hK hN hP [] rfl rfl hl.1 rfl (Nat.le_of_ble_eq_true rfl) dX8_ifGone_38 ⟨Nat.zero_le _, Nat.zero_le _⟩ ?_
        obtain ⟨o41, ho41, hf⟩ := ob hf
        refine wVi (W1 := (fun _ : Unit => (wX8 cI cZ cC q0 o41.2))) (rest := []) (As := [.int o38]) ⟨hx, hb, hml, hown, hts⟩ (mX8_walks l dC dI cI cZ cC cO q0 _ _ _ _ ho41) (cwV 1 hts gX8_ifGone_X8_walks rfl rfl rfl (by decide +kernel) ⟨Nat.le_of_ble_eq_true rfl, Nat.le_of_ble_eq_true rfl⟩) hK hN hP hD hS hA [0, 1, 2, 3, 4, 5, 6, 7, 8] [] [0, 1, 2, 3, 4, 5, 6, 7, 8] rfl rfl (by decide) (by decide) (fun _ => rfl) 7 rfl rfl rfl rfl hl.1 rfl (Nat.le_of_ble_eq_true rfl) dX8_ifGone_41 ⟨Nat.zero_le _, Nat.zero_le _⟩ (fun _ H locs hP hD hS => ?_)
        have hP : va_P (dC, dI) vwCl (wX8 cI cZ cC q0 o41.2) H := hP
        have hD : va_D A (wX8 cI cZ cC q0 o41.2) := hD
        refine lv_istore (lv' := [(4, .int o41.1), (3, .int ((pX8_s g0) (1 : Int32).toNatClampNeg)), (0, .ref (q0 0)), (1, .int a1), (2, .int a2)]) hx hb dX8_ifGone_44 hl (by decide) rfl (fun ls hl => ?_)
        refine lv_aload_n hx hb dX8_ifGone_46 rfl (lv_at hl 2 rfl) ?_
        refine va_get (D := (dC, dI)) (ci := 7) (v := .ref (q0 1)) (C := RX8) (T := TX8) (N := 21) hx hb hts hin8 hown hK hP 0 rfl rfl 0 (by decide) hk0 (fun _ h9 => h9) rfl dX8_ifGone_47 ?_
        refine lv_iconst (v := 1) hx hb dX8_ifGone_50 (by decide) ?_
        refine lv_iload_n hx hb dX8_ifGone_51 rfl (lv_at hl 1 rfl) ?_
        have hin : vp_in (1 : Int32) 373 := by unfold vp_in; decide
        refine va_iast hx hb hK hP hD hS 1 0 rfl rfl hin dX8_ifGone_52 (fun H locs hP hD hS => ?_)
        have hP : va_P (dC, dI) vwCl (wX8 cI cZ cC q0 ((upd (pX8_s o41.2) (1 : Int32).toNatClampNeg ((pX8_s g0) (1 : Int32).toNatClampNeg)), (pX8_aside o41.2), (pX8_past o41.2), (pX8_known o41.2), (pX8_kept o41.2), (pX8_isKept o41.2), (pX8_pad o41.2), (pX8_length o41.2), (pX8_whyError o41.2), (pX8_whyNumber o41.2), (pX8_whySpot o41.2), (pX8_lots o41.2), (pX8_walker o41.2), (pX8_steps o41.2), (pX8_goes o41.2), (pX8_becomes o41.2), (pX8_spot o41.2), (pX8_isForm o41.2), (pX8_letter o41.2), (pX8_told o41.2), (pX8_highest o41.2))) H := hP
        have hD : va_D A (wX8 cI cZ cC q0 ((upd (pX8_s o41.2) (1 : Int32).toNatClampNeg ((pX8_s g0) (1 : Int32).toNatClampNeg)), (pX8_aside o41.2), (pX8_past o41.2), (pX8_known o41.2), (pX8_kept o41.2), (pX8_isKept o41.2), (pX8_pad o41.2), (pX8_length o41.2), (pX8_whyError o41.2), (pX8_whyNumber o41.2), (pX8_whySpot o41.2), (pX8_lots o41.2), (pX8_walker o41.2), (pX8_steps o41.2), (pX8_goes o41.2), (pX8_becomes o41.2), (pX8_spot o41.2), (pX8_isForm o41.2), (pX8_letter o41.2), (pX8_told o41.2), (pX8_highest o41.2))) := hD
        refine lv_iload_n hx hb dX8_ifGone_53 rfl (lv_at hl 4 rfl) ?_
        refine lv_iconst (v := 1) hx hb dX8_ifGone_54 (by decide) ?_
        refine lv_icmp_ne (tgt := 65) hx hb dX8_ifGone_55 (by decide) (fun hc => ?_) (fun hc => ?_)
        · have hf := oe hc hf
          refine lv_iload_n hx hb dX8_ifGone_65 rfl (lv_at hl 4 rfl) ?_
          refine lv_iconst (v := 2) hx hb dX8_ifGone_66 (by decide) ?_
          refine lv_icmp_ne (tgt := 77) hx hb dX8_ifGone_67 (by decide) (fun hc => ?_) (fun hc => ?_)
          · have hf := oe hc hf
            refine lv_iload hx hb dX8_ifGone_77 (lv_at hl 0 rfl) ?_
            refine lv_if_eq (tgt := 93) hx hb dX8_ifGone_79 (by decide) (fun hc => ?_) (fun hc => ?_)
            · have hf := ot hc hf
              refine lv_aload_n hx hb dX8_ifGone_93 rfl (lv_at hl 2 rfl) ?_
              refine va_get (D := (dC, dI)) (ci := 7) (v := .int (pX8_steps o41.2)) (C := RX8) (T := TX8) (N := 21) hx hb hts hin8 hown hK hP 0 rfl rfl 13 (by decide) hk1 (fun _ h9 => h9) rfl dX8_ifGone_94 ?_
              obtain rfl := Option.some.inj hf
              exact W.iret (v := (pX8_steps o41.2)) hx hb hr (fun t ht hW => ⟨⟨_, (), rfl, rfl, by rw [ht]; exact hP, hD⟩, hS.F ht⟩) hS.2.2 dX8_ifGone_97
            · have hf := oe hc hf
              refine lv_sipush (v := 1000) hx hb dX8_ifGone_82 (by decide) ?_
              refine lv_aload_n hx hb dX8_ifGone_85 rfl (lv_at hl 2 rfl) ?_
              refine va_get (D := (dC, dI)) (ci := 7) (v := .int (pX8_walker o41.2)) (C := RX8) (T := TX8) (N := 21) hx hb hts hin8 hown hK hP 0 rfl rfl 12 (by decide) hk2 (fun _ h9 => h9) rfl dX8_ifGone_86 ?_
              refine lv_iadd hx hb dX8_ifGone_89 ?_
              refine lv_goto (tgt := 97) hx hb dX8_ifGone_90 (by decide) ?_
              obtain rfl := Option.some.inj hf
              exact W.iret (v := (1000 + (pX8_walker o41.2))) hx hb hr (fun t ht hW => ⟨⟨_, (), rfl, rfl, by rw [ht]; exact hP, hD⟩, hS.F ht⟩) hS.2.2 dX8_ifGone_97
          · have hf := ot hc hf
            refine lv_aload_n hx hb dX8_ifGone_70 rfl (lv_at hl 2 rfl) ?_
            refine va_get (D := (dC, dI)) (ci := 7) (v := .int (pX8_lots o41.2)) (C := RX8) (T := TX8) (N := 21) hx hb hts hin8 hown hK hP 0 rfl rfl 11 (by decide) hk3 (fun _ h9 => h9) rfl dX8_ifGone_71 ?_
            refine lv_goto (tgt := 97) hx hb dX8_ifGone_74 (by decide) ?_
            obtain rfl := Option.some.inj hf
            exact W.iret (v := (pX8_lots o41.2)) hx hb hr (fun t ht hW => ⟨⟨_, (), rfl, rfl, by rw [ht]; exact hP, hD⟩, hS.F ht⟩) hS.2.2 dX8_ifGone_97
        · have hf := ot hc hf
          refine lv_aload_n hx hb dX8_ifGone_58 rfl (lv_at hl 2 rfl) ?_
          refine va_get (D := (dC, dI)) (ci := 7) (v := .int (pX8_walker o41.2)) (C := RX8) (T := TX8) (N := 21) hx hb hts hin8 hown hK hP 0 rfl rfl 12 (by decide) hk2 (fun _ h9 => h9) rfl dX8_ifGone_59 ?_
          refine lv_goto (tgt := 97) hx hb dX8_ifGone_62 (by decide) ?_
          obtain rfl := Option.some.inj hf
          exact W.iret (v := (pX8_walker o41.2)) hx hb hr (fun t ht hW => ⟨⟨_, (), rfl, rfl, by rw [ht]; exact hP, hD⟩, hS.F ht⟩) hS.2.2 dX8_ifGone_97
      · have hf := oe hc hf
        refine lv_bipush (v := (-2)) hx hb dX8_ifGone_26 (by decide) ?_
        obtain rfl := Option.some.inj hf
        exact W.iret (v := (-2)) hx hb hr (fun t ht hW => ⟨⟨_, (), rfl, rfl, by rw [ht]; exact hP, hD⟩, hS.F ht⟩) hS.2.2 dX8_ifGone_28
    · have hf := ot hc hf
      refine lv_iconst (v := (-1)) hx hb dX8_ifGone_16 (by decide) ?_
      obtain rfl := Option.some.inj hf
      exact W.iret (v := (-1)) hx hb hr (fun t ht hW => ⟨⟨_, (), rfl, rfl, by rw [ht]; exact hP, hD⟩, hS.F ht⟩) hS.2.2 dX8_ifGone_17
/-- RimGrainsModel.private int unscreened(); -/
def jX8_unscreened_1 (s4 : (Int32 × Int32)) (y0_1 : Int32) : Option ((Int32 × Int32) ⊕ (Int32)) :=
  some (.inl ((s4.1 + y0_1), (s4.2 + 1)))
def tX8_unscreened_4 (g0 : GX8) (s4 : (Int32 × Int32)) : Option ((Int32 × Int32) ⊕ (Int32)) :=
  (if 40 ≤ s4.2 then some (.inr s4.1) else ((fX8_screening s4.2 g0).bind fun o13 => (if 0 ≤ o13 then jX8_unscreened_1 s4 0 else jX8_unscreened_1 s4 1)))
def fX8_unscreened (g0 : GX8) : Option (Int32) :=
  ((lp (tX8_unscreened_4 g0) FU (0, 0)).bind fun o4 => some o4)
abbrev rmX8_unscreened : Room := { frames := 3, cells := 0, slots := 0, locals := 67 }
set_option maxHeartbeats 4000000 in
set_option maxRecDepth 100000 in
theorem mX8_unscreened (l : Launch) (dC : Nat → ClassId) (dI : Nat → Nat → Nat) (cI cZ cC cO : ClassId) (q0 : Nat → Nat) (g0 : GX8) (out : Int32) (hf : fX8_unscreened g0 = some out) : Met l yX8_unscreened wsX8_unscreened rmX8_unscreened (va_Pc [.ref (q0 0)] (pcR (dC, dI) (wTys cI cZ cC cO) (wX8 cI cZ cC q0 g0))) (vp_Si (fun r => r = out)) 0 0 (fun _ => False) := by
  refine Met.ofW (cc := cX8_unscreened) (maxL := 3) (ret := (some .int)) (by decide) rfl ?_
  intro p e s m args below meth c s₁ B hml hv
  obtain ⟨hargs, hP, hK, hN⟩ := hv
  have hx := B.exec
  have hb := B.bytes
  have hr := B.returns
  have hts := atoms_spec (ws := wsX8_unscreened) B.pre
  have hown : s.vm.findClass RX8 = some m.cls := findClass_of_methodNamed B.named
  have hlocks := B.notSynchronized
  have hE := lg_entry_eq m [.ref (q0 0)] 3
  rw [← hargs] at hE
  rw [hE]
  have hl := lv_entry [.ref (q0 0)] (n := 3) (Nat.le_of_ble_eq_true rfl)
  generalize (lg_sl [.ref (q0 0)] ++ List.replicate (3 - (lg_sl [.ref (q0 0)]).length) Slot.unset).toArray = ls at hl ⊢
  have hl : lv_has ls 3 [(0, .ref (q0 0))] := hl
  unfold fX8_unscreened at hf
  refine lv_iconst (v := 0) hx hb dX8_unscreened_0 (by decide) ?_
  refine lv_istore_n (lv' := [(1, .int 0), (0, .ref (q0 0))]) hx hb dX8_unscreened_1 rfl hl (by decide) rfl (fun ls hl => ?_)
  refine lv_iconst (v := 0) hx hb dX8_unscreened_2 (by decide) ?_
  refine lv_istore_n (lv' := [(2, .int 0), (1, .int 0), (0, .ref (q0 0))]) hx hb dX8_unscreened_3 rfl hl (by decide) rfl (fun ls hl => ?_)
  have hL4 : ∀ (n : Nat) (s4 : Int32 × Int32) (o4 : Int32), lp (tX8_unscreened_4 g0) n s4 = some o4 → ∀ (ls : Array Slot), lv_has ls 3 [(0, .ref (q0 0)), (1, .int s4.1), (2, .int s4.2)] → (∀ (ls : Array Slot), lv_has ls 3 [(1, .int o4)] → W p l e (headSpec wsX8_unscreened rmX8_unscreened).room s m args below meth c s.heap [] 0 0 (MQ below (vp_Si (fun r => r = out)) args s 0 0 (fun _ => False)) (F0 m 32 ls [])) → W p l e (headSpec wsX8_unscreened rmX8_unscreened).room s m args below meth c s.heap [] 0 0 (MQ below (vp_Si (fun r => r = out)) args s 0 0 (fun _ => False)) (F0 m 4 ls []) := by
    intro n
    induction n with
    | zero => intro s4 o4 hf; exact (lp0 hf).elim
    | succ n ih4 =>
      intro s4 o4 hf ls hl kx
      obtain ⟨r4, hf, hn⟩ := lps hf
      unfold tX8_unscreened_4 at hf
      refine lv_iload_n hx hb dX8_unscreened_4 rfl (lv_at hl 2 rfl) ?_
      refine lv_bipush (v := 40) hx hb dX8_unscreened_5 (by decide) ?_
      refine lv_icmp_ge (tgt := 32) hx hb dX8_unscreened_7 (by decide) (fun hc => ?_) (fun hc => ?_)
      · have hf := ot hc hf
        obtain rfl := Option.some.inj hf
        obtain rfl := Option.some.inj hn
        exact kx ls (lv_sub hl [1] rfl)
      · have hf := oe hc hf
        refine lv_iload_n hx hb dX8_unscreened_10 rfl (lv_at hl 1 rfl) ?_
        refine lv_aload_n hx hb dX8_unscreened_11 rfl (lv_at hl 0 rfl) ?_
        refine lv_iload_n hx hb dX8_unscreened_12 rfl (lv_at hl 2 rfl) ?_
        obtain ⟨o13, ho13, hf⟩ := ob hf
        refine rV (rest := [.int s4.1]) (As := [.int s4.2]) ⟨hx, hb, hml, hown, hts⟩ (mX8_screening l dC dI cI cZ cC cO q0 _ _ _ ho13) (cwV 1 hts gX8_unscreened_X8_screening rfl rfl rfl (by decide +kernel) ⟨Nat.le_of_ble_eq_true rfl, Nat.le_of_ble_eq_true rfl⟩) hK hN hP [0, 1, 2, 3, 4, 5, 6, 7, 8] rfl 7 rfl rfl rfl rfl hl.1 rfl (Nat.le_of_ble_eq_true rfl) dX8_unscreened_13 ⟨Nat.zero_le _, Nat.zero_le _⟩ ?_
        have hJ1 : ∀ (y0_1 : Int32), jX8_unscreened_1 s4 y0_1 = some r4 → ∀ ls : Array Slot, lv_has ls 3 [(0, .ref (q0 0)), (2, .int s4.2)] → W p l e (headSpec wsX8_unscreened rmX8_unscreened).room s m args below meth c s.heap [] 0 0 (MQ below (vp_Si (fun r => r = out)) args s 0 0 (fun _ => False)) (F0 m 24 ls [.int y0_1, .int s4.1]) := by
          intro y0_1 hf ls hl
          unfold jX8_unscreened_1 at hf
          refine lv_iadd hx hb dX8_unscreened_24 ?_
          refine lv_istore_n (lv' := [(1, .int (s4.1 + y0_1)), (0, .ref (q0 0)), (2, .int s4.2)]) hx hb dX8_unscreened_25 rfl hl (by decide) rfl (fun ls hl => ?_)
          refine lv_iinc (v := (s4.2 + 1)) (lv' := [(2, .int (s4.2 + 1)), (1, .int (s4.1 + y0_1)), (0, .ref (q0 0))]) hx hb dX8_unscreened_26 hl (k := 2) rfl rfl (by decide) rfl (fun ls hl => ?_)
          refine lv_goto (tgt := 4) hx hb dX8_unscreened_29 (by decide) ?_
          obtain rfl := Option.some.inj hf
          exact ih4 _ _ hn ls (lv_sub hl [2, 1, 0] rfl) kx
        refine lv_if_ge (tgt := 23) hx hb dX8_unscreened_16 (by decide) (fun hc => ?_) (fun hc => ?_)
        · have hf := ot hc hf
          refine lv_iconst (v := 0) hx hb dX8_unscreened_23 (by decide) ?_
          exact hJ1 _ hf ls (lv_sub hl [0, 2] rfl)
        · have hf := oe hc hf
          refine lv_iconst (v := 1) hx hb dX8_unscreened_19 (by decide) ?_
          refine lv_goto (tgt := 24) hx hb dX8_unscreened_20 (by decide) ?_
          exact hJ1 _ hf ls (lv_sub hl [0, 2] rfl)
  obtain ⟨o4, ho4, hf⟩ := ob hf
  refine hL4 FU _ _ ho4 ls (lv_sub hl [2, 1, 0] rfl) (fun ls hl => ?_)
  refine lv_iload_n hx hb dX8_unscreened_32 rfl (lv_at hl 0 rfl) ?_
  obtain rfl := Option.some.inj hf
  exact W.iret (v := o4) hx hb hr (fun t ht hW => ⟨_, rfl, rfl, ht⟩) (fun _ h => by cases h) dX8_unscreened_33
/-- RimGrainsModel.public int ifBroken(int, int); -/
def jX8_ifBroken_1 (o45 : (Int32 × GX8)) (y0_1 : Int32) : Option (Int32 × GX8) :=
  ((fX8_copies 0 0 373 (pX8_aside o45.2) 373 (pX8_s o45.2)).bind fun o102 => some (y0_1, (o102, (pX8_aside o45.2), (pX8_past o45.2), (pX8_known o45.2), (pX8_kept o45.2), (pX8_isKept o45.2), (pX8_pad o45.2), (pX8_length o45.2), (pX8_whyError o45.2), (pX8_whyNumber o45.2), (pX8_whySpot o45.2), (pX8_lots o45.2), (pX8_walker o45.2), (pX8_steps o45.2), (pX8_goes o45.2), (pX8_becomes o45.2), (pX8_spot o45.2), (pX8_isForm o45.2), (pX8_letter o45.2), (pX8_told o45.2), (pX8_highest o45.2))))
def fX8_ifBroken (a1 : Int32) (a2 : Int32) (g0 : GX8) : Option (Int32 × GX8) :=
  ((fX8_isGrain a1 g0).bind fun o2 => (if o2 = 0 then some ((-1), g0) else ((fX8_in a2 0 3).bind fun o11 => (if o11 = 0 then some ((-1), g0) else ((fX8_holder a1 g0).bind fun o21 => (if 0 ≤ o21 then ((fX8_copies 0 0 373 (pX8_s g0) 373 (pX8_aside g0)).bind fun o40 => ((fX8_goBreak a1 ((pX8_s g0), o40, (pX8_past g0), (pX8_known g0), (pX8_kept g0), (pX8_isKept g0), (pX8_pad g0), (pX8_length g0), (pX8_whyError g0), (pX8_whyNumber g0), (pX8_whySpot g0), (pX8_lots g0), (pX8_walker g0), (pX8_steps g0), (pX8_goes g0), (pX8_becomes g0), (pX8_spot g0), (pX8_isForm g0), (pX8_letter g0), (pX8_told g0), (pX8_highest g0))).bind fun o45 => (if a2 = 0 then jX8_ifBroken_1 o45 ((pX8_s o45.2) (0 : Int32).toNatClampNeg) else (if a2 = 1 then ((fX8_reachOf o45.2).bind fun o68 => jX8_ifBroken_1 o45 o68) else (if a2 = 2 then ((fX8_deepest o45.2).bind fun o80 => jX8_ifBroken_1 o45 o80) else ((fX8_unscreened o45.2).bind fun o87 => jX8_ifBroken_1 o45 o87)))))) else some ((-2), g0)))))))
abbrev rmX8_ifBroken : Room := { frames := 4, cells := 0, slots := 0, locals := 91 }
set_option maxHeartbeats 4000000 in
set_option maxRecDepth 100000 in
theorem mX8_ifBroken (l : Launch) (dC : Nat → ClassId) (dI : Nat → Nat → Nat) (cI cZ cC cO : ClassId) (q0 : Nat → Nat) (a1 : Int32) (a2 : Int32) (g0 : GX8) (sz : Nat) (out : Int32 × GX8) (hf : fX8_ifBroken a1 a2 g0 = some out) : Met l yX8_ifBroken wsX8_ifBroken rmX8_ifBroken (va_Pc [.ref (q0 0), .int a1, .int a2] (pcW (dC, dI) (wTys cI cZ cC cO) sz (wX8 cI cZ cC q0 g0))) (va_Qi (fun r (_ : Unit) => r = out.1) (fun _ => poW (dC, dI) (va_A (wX8 cI cZ cC q0 g0) sz) (wX8 cI cZ cC q0 out.2)) (va_A (wX8 cI cZ cC q0 g0) sz)) 0 0 (va_A (wX8 cI cZ cC q0 g0) sz) := by
  refine Met.ofW (cc := cX8_ifBroken) (maxL := 5) (ret := (some .int)) (by decide) rfl ?_
  intro p e s m args below meth c s₁ B hml hv
  obtain ⟨hargs, hsz, hP, hK, hN, hD0⟩ := hv
  have hx := B.exec
  have hb := B.bytes
  have hr := B.returns
  have hts := atoms_spec (ws := wsX8_ifBroken) B.pre
  have hown : s.vm.findClass RX8 = some m.cls := findClass_of_methodNamed B.named
  have hlocks := B.notSynchronized
  have hk0 := hts (.fieldLink RX8 7 "RimGrainsModel" "s" "[I") (by decide +kernel)
  have hk1 := hts (.fieldLink RX8 13 "RimGrainsModel" "aside" "[I") (by decide +kernel)
  have hin8 : ∀ w ∈ wsX80, w ∈ wsX8_ifBroken := by decide +kernel
  subst hsz
  have hD := hD0.self (sz := s.heap.size)
  generalize hAe : va_A (wX8 cI cZ cC q0 g0) s.heap.size = A at hD ⊢
  have hA : ∀ q : Nat, s.heap.size ≤ q → A q := fun q h => by rw [← hAe]; exact Or.inr h
  have hS : va_S A s.heap s.heap [] := va_S.rf
  have hE := lg_entry_eq m [.ref (q0 0), .int a1, .int a2] 5
  rw [← hargs] at hE
  rw [hE]
  have hl := lv_entry [.ref (q0 0), .int a1, .int a2] (n := 5) (Nat.le_of_ble_eq_true rfl)
  generalize (lg_sl [.ref (q0 0), .int a1, .int a2] ++ List.replicate (5 - (lg_sl [.ref (q0 0), .int a1, .int a2]).length) Slot.unset).toArray = ls at hl ⊢
  have hl : lv_has ls 5 [(0, .ref (q0 0)), (1, .int a1), (2, .int a2)] := hl
  have hP : va_P (dC, dI) vwCl (wX8 cI cZ cC q0 g0) s.heap := hP
  unfold fX8_ifBroken at hf
  refine lv_aload_n hx hb dX8_ifBroken_0 rfl (lv_at hl 0 rfl) ?_
  refine lv_iload_n hx hb dX8_ifBroken_1 rfl (lv_at hl 1 rfl) ?_
  obtain ⟨o2, ho2, hf⟩ := ob hf
  refine rV (rest := []) (As := [.int a1]) ⟨hx, hb, hml, hown, hts⟩ (mX8_isGrain l dC dI cI cZ cC cO q0 _ _ _ ho2) (cwV 1 hts gX8_ifBroken_X8_isGrain rfl rfl rfl (by decide +kernel) ⟨Nat.le_of_ble_eq_true rfl, Nat.le_of_ble_eq_true rfl⟩) hK hN hP [0, 1, 2, 3, 4, 5, 6, 7, 8] rfl 7 rfl rfl rfl rfl hl.1 rfl (Nat.le_of_ble_eq_true rfl) dX8_ifBroken_2 ⟨Nat.zero_le _, Nat.zero_le _⟩ ?_
  refine lv_if_eq (tgt := 17) hx hb dX8_ifBroken_5 (by decide) (fun hc => ?_) (fun hc => ?_)
  · have hf := ot hc hf
    refine lv_iconst (v := (-1)) hx hb dX8_ifBroken_17 (by decide) ?_
    obtain rfl := Option.some.inj hf
    exact W.iret (v := (-1)) hx hb hr (fun t ht hW => ⟨⟨_, (), rfl, rfl, by rw [ht]; exact hP, hD⟩, hS.F ht⟩) hS.2.2 dX8_ifBroken_18
  · have hf := oe hc hf
    refine lv_iload_n hx hb dX8_ifBroken_8 rfl (lv_at hl 2 rfl) ?_
    refine lv_iconst (v := 0) hx hb dX8_ifBroken_9 (by decide) ?_
    refine lv_iconst (v := 3) hx hb dX8_ifBroken_10 (by decide) ?_
    obtain ⟨o11, ho11, hf⟩ := ob hf
    refine rS (rest := []) (As := [.int a2, .int 0, .int 3]) ⟨hx, hb, hml, hown, hts⟩ (mX8_in l dC dI cI cZ cC cO  _ _ _ _ ho11) (va_cwS 3 hts gX8_ifBroken_X8_in rfl rfl rfl (by decide +kernel) ⟨Nat.le_of_ble_eq_true rfl, Nat.le_of_ble_eq_true rfl⟩) hK hN hP [] rfl rfl hl.1 rfl (Nat.le_of_ble_eq_true rfl) dX8_ifBroken_11 ⟨Nat.zero_le _, Nat.zero_le _⟩ ?_
    refine lv_if_ne (tgt := 19) hx hb dX8_ifBroken_14 (by decide) (fun hc => ?_) (fun hc => ?_)
    · have hf := oe hc hf
      refine lv_aload_n hx hb dX8_ifBroken_19 rfl (lv_at hl 0 rfl) ?_
      refine lv_iload_n hx hb dX8_ifBroken_20 rfl (lv_at hl 1 rfl) ?_
      obtain ⟨o21, ho21, hf⟩ := ob hf
      refine rV (rest := []) (As := [.int a1]) ⟨hx, hb, hml, hown, hts⟩ (mX8_holder l dC dI cI cZ cC cO q0 _ _ _ ho21) (cwV 1 hts gX8_ifBroken_X8_holder rfl rfl rfl (by decide +kernel) ⟨Nat.le_of_ble_eq_true rfl, Nat.le_of_ble_eq_true rfl⟩) hK hN hP [0, 1, 2, 3, 4, 5, 6, 7, 8] rfl 7 rfl rfl rfl rfl hl.1 rfl (Nat.le_of_ble_eq_true rfl) dX8_ifBroken_21 ⟨Nat.zero_le _, Nat.zero_le _⟩ ?_
      refine lv_if_ge (tgt := 30) hx hb dX8_ifBroken_24 (by decide) (fun hc => ?_) (fun hc => ?_)
      · have hf := ot hc hf
        refine lv_aload_n hx hb dX8_ifBroken_30 rfl (lv_at hl 0 rfl) ?_
        refine va_get (D := (dC, dI)) (ci := 7) (v := .ref (q0 1)) (C := RX8) (T := TX8) (N := 21) hx hb hts hin8 hown hK hP 0 rfl rfl 0 (by decide) hk0 (fun _ h9 => h9) rfl dX8_ifBroken_31 ?_
        refine lv_iconst (v := 0) hx hb dX8_ifBroken_34 (by decide) ?_
        refine lv_aload_n hx hb dX8_ifBroken_35 rfl (lv_at hl 0 rfl) ?_
        refine va_get (D := (dC, dI)) (ci := 7) (v := .ref (q0 2)) (C := RX8) (T := TX8) (N := 21) hx hb hts hin8 hown hK hP 0 rfl rfl 1 (by decide) hk1 (fun _ h9 => h9) rfl dX8_ifBroken_36 ?_
        refine lv_iconst (v := 0) hx hb dX8_ifBroken_39 (by decide) ?_
        obtain ⟨o40, ho40, hf⟩ := ob hf
        refine wSv (W1 := (fun _ : Unit => (wX8 cI cZ cC q0 ((pX8_s g0), o40, (pX8_past g0), (pX8_known g0), (pX8_kept g0), (pX8_isKept g0), (pX8_pad g0), (pX8_length g0), (pX8_whyError g0), (pX8_whyNumber g0), (pX8_whySpot g0), (pX8_lots g0), (pX8_walker g0), (pX8_steps g0), (pX8_goes g0), (pX8_becomes g0), (pX8_spot g0), (pX8_isForm g0), (pX8_letter g0), (pX8_told g0), (pX8_highest g0))))) (rest := []) (As := [.ref (q0 1), .int 0, .ref (q0 2), .int 0]) ⟨hx, hb, hml, hown, hts⟩ (mX8_copies l dC dI cI cZ cC cO (q0 1) (q0 2) _ _ _ _ _ _ _ _ ho40) (va_cwS 4 hts gX8_ifBroken_X8_copies rfl rfl rfl (by decide +kernel) ⟨Nat.le_of_ble_eq_true rfl, Nat.le_of_ble_eq_true rfl⟩) hK hN hP hD hS hA [1, 2] [0, 3, 4, 5, 6, 7, 8] [0, 7, 8, 1, 2, 3, 4, 5, 6] rfl rfl (by decide) (by decide) (fun _ => rfl) rfl hl.1 rfl (Nat.le_of_ble_eq_true rfl) dX8_ifBroken_40 ⟨Nat.zero_le _, Nat.zero_le _⟩ (fun _ H locs hP hD hS => ?_)
        have hP : va_P (dC, dI) vwCl (wX8 cI cZ cC q0 ((pX8_s g0), o40, (pX8_past g0), (pX8_known g0), (pX8_kept g0), (pX8_isKept g0), (pX8_pad g0), (pX8_length g0), (pX8_whyError g0), (pX8_whyNumber g0), (pX8_whySpot g0), (pX8_lots g0), (pX8_walker g0), (pX8_steps g0), (pX8_goes g0), (pX8_becomes g0), (pX8_spot g0), (pX8_isForm g0), (pX8_letter g0), (pX8_told g0), (pX8_highest g0))) H := hP
        have hD : va_D A (wX8 cI cZ cC q0 ((pX8_s g0), o40, (pX8_past g0), (pX8_known g0), (pX8_kept g0), (pX8_isKept g0), (pX8_pad g0), (pX8_length g0), (pX8_whyError g0), (pX8_whyNumber g0), (pX8_whySpot g0), (pX8_lots g0), (pX8_walker g0), (pX8_steps g0), (pX8_goes g0), (pX8_becomes g0), (pX8_spot g0), (pX8_isForm g0), (pX8_letter g0), (pX8_told g0), (pX8_highest g0))) := hD
        refine lv_aload_n hx hb dX8_ifBroken_43 rfl (lv_at hl 0 rfl) ?_
        refine lv_iload_n hx hb dX8_ifBroken_44 rfl (lv_at hl 1 rfl) ?_
        obtain ⟨o45, ho45, hf⟩ := ob hf
        refine wVi (W1 := (fun _ : Unit => (wX8 cI cZ cC q0 o45.2))) (rest := []) (As := [.int a1]) ⟨hx, hb, hml, hown, hts⟩ (mX8_goBreak l dC dI cI cZ cC cO q0 _ _ _ _ ho45) (cwV 1 hts gX8_ifBroken_X8_goBreak rfl rfl rfl (by decide +kernel) ⟨Nat.le_of_ble_eq_true rfl, Nat.le_of_ble_eq_true rfl⟩) hK hN hP hD hS hA [0, 1, 2, 3, 4, 5, 6, 7, 8] [] [0, 1, 2, 3, 4, 5, 6, 7, 8] rfl rfl (by decide) (by decide) (fun _ => rfl) 7 rfl rfl rfl rfl hl.1 rfl (Nat.le_of_ble_eq_true rfl) dX8_ifBroken_45 ⟨Nat.zero_le _, Nat.zero_le _⟩ (fun _ H locs hP hD hS => ?_)
        have hP : va_P (dC, dI) vwCl (wX8 cI cZ cC q0 o45.2) H := hP
        have hD : va_D A (wX8 cI cZ cC q0 o45.2) := hD
        refine lv_istore_n (lv' := [(3, .int o45.1), (0, .ref (q0 0)), (1, .int a1), (2, .int a2)]) hx hb dX8_ifBroken_48 rfl hl (by decide) rfl (fun ls hl => ?_)
        refine lv_iload_n hx hb dX8_ifBroken_49 rfl (lv_at hl 3 rfl) ?_
        have hJ1 : ∀ (y0_1 : Int32), jX8_ifBroken_1 o45 y0_1 = some out → ∀ (H : Heap) (locs : List Loc) (ls : Array Slot), va_P (dC, dI) vwCl (wX8 cI cZ cC q0 o45.2) H → va_D A (wX8 cI cZ cC q0 o45.2) → va_S A s.heap H locs → lv_has ls 5 [(0, .ref (q0 0))] → W p l e (headSpec wsX8_ifBroken rmX8_ifBroken).room s m args below meth c H locs 0 0 (MQ below (va_Qi (fun r (_ : Unit) => r = out.1) (fun _ => poW (dC, dI) A (wX8 cI cZ cC q0 out.2)) A) args s 0 0 A) (F0 m 90 ls [.int y0_1]) := by
          intro y0_1 hf H locs ls hP hD hS hl
          unfold jX8_ifBroken_1 at hf
          refine lv_istore (lv' := [(4, .int y0_1), (0, .ref (q0 0))]) hx hb dX8_ifBroken_90 hl (by decide) rfl (fun ls hl => ?_)
          refine lv_aload_n hx hb dX8_ifBroken_92 rfl (lv_at hl 1 rfl) ?_
          refine va_get (D := (dC, dI)) (ci := 7) (v := .ref (q0 2)) (C := RX8) (T := TX8) (N := 21) hx hb hts hin8 hown hK hP 0 rfl rfl 1 (by decide) hk1 (fun _ h9 => h9) rfl dX8_ifBroken_93 ?_
          refine lv_iconst (v := 0) hx hb dX8_ifBroken_96 (by decide) ?_
          refine lv_aload_n hx hb dX8_ifBroken_97 rfl (lv_at hl 1 rfl) ?_
          refine va_get (D := (dC, dI)) (ci := 7) (v := .ref (q0 1)) (C := RX8) (T := TX8) (N := 21) hx hb hts hin8 hown hK hP 0 rfl rfl 0 (by decide) hk0 (fun _ h9 => h9) rfl dX8_ifBroken_98 ?_
          refine lv_iconst (v := 0) hx hb dX8_ifBroken_101 (by decide) ?_
          obtain ⟨o102, ho102, hf⟩ := ob hf
          refine wSv (W1 := (fun _ : Unit => (wX8 cI cZ cC q0 (o102, (pX8_aside o45.2), (pX8_past o45.2), (pX8_known o45.2), (pX8_kept o45.2), (pX8_isKept o45.2), (pX8_pad o45.2), (pX8_length o45.2), (pX8_whyError o45.2), (pX8_whyNumber o45.2), (pX8_whySpot o45.2), (pX8_lots o45.2), (pX8_walker o45.2), (pX8_steps o45.2), (pX8_goes o45.2), (pX8_becomes o45.2), (pX8_spot o45.2), (pX8_isForm o45.2), (pX8_letter o45.2), (pX8_told o45.2), (pX8_highest o45.2))))) (rest := []) (As := [.ref (q0 2), .int 0, .ref (q0 1), .int 0]) ⟨hx, hb, hml, hown, hts⟩ (mX8_copies l dC dI cI cZ cC cO (q0 2) (q0 1) _ _ _ _ _ _ _ _ ho102) (va_cwS 4 hts gX8_ifBroken_X8_copies rfl rfl rfl (by decide +kernel) ⟨Nat.le_of_ble_eq_true rfl, Nat.le_of_ble_eq_true rfl⟩) hK hN hP hD hS hA [2, 1] [0, 3, 4, 5, 6, 7, 8] [0, 8, 7, 1, 2, 3, 4, 5, 6] rfl rfl (by decide) (by decide) (fun _ => rfl) rfl hl.1 rfl (Nat.le_of_ble_eq_true rfl) dX8_ifBroken_102 ⟨Nat.zero_le _, Nat.zero_le _⟩ (fun _ H locs hP hD hS => ?_)
          have hP : va_P (dC, dI) vwCl (wX8 cI cZ cC q0 (o102, (pX8_aside o45.2), (pX8_past o45.2), (pX8_known o45.2), (pX8_kept o45.2), (pX8_isKept o45.2), (pX8_pad o45.2), (pX8_length o45.2), (pX8_whyError o45.2), (pX8_whyNumber o45.2), (pX8_whySpot o45.2), (pX8_lots o45.2), (pX8_walker o45.2), (pX8_steps o45.2), (pX8_goes o45.2), (pX8_becomes o45.2), (pX8_spot o45.2), (pX8_isForm o45.2), (pX8_letter o45.2), (pX8_told o45.2), (pX8_highest o45.2))) H := hP
          have hD : va_D A (wX8 cI cZ cC q0 (o102, (pX8_aside o45.2), (pX8_past o45.2), (pX8_known o45.2), (pX8_kept o45.2), (pX8_isKept o45.2), (pX8_pad o45.2), (pX8_length o45.2), (pX8_whyError o45.2), (pX8_whyNumber o45.2), (pX8_whySpot o45.2), (pX8_lots o45.2), (pX8_walker o45.2), (pX8_steps o45.2), (pX8_goes o45.2), (pX8_becomes o45.2), (pX8_spot o45.2), (pX8_isForm o45.2), (pX8_letter o45.2), (pX8_told o45.2), (pX8_highest o45.2))) := hD
          refine lv_iload hx hb dX8_ifBroken_105 (lv_at hl 0 rfl) ?_
          obtain rfl := Option.some.inj hf
          exact W.iret (v := y0_1) hx hb hr (fun t ht hW => ⟨⟨_, (), rfl, rfl, by rw [ht]; exact hP, hD⟩, hS.F ht⟩) hS.2.2 dX8_ifBroken_107
        refine lv_if_ne (tgt := 62) hx hb dX8_ifBroken_50 (by decide) (fun hc => ?_) (fun hc => ?_)
        · have hf := oe hc hf
          refine lv_iload_n hx hb dX8_ifBroken_62 rfl (lv_at hl 3 rfl) ?_
          refine lv_iconst (v := 1) hx hb dX8_ifBroken_63 (by decide) ?_
          refine lv_icmp_ne (tgt := 74) hx hb dX8_ifBroken_64 (by decide) (fun hc => ?_) (fun hc => ?_)
          · have hf := oe hc hf
            refine lv_iload_n hx hb dX8_ifBroken_74 rfl (lv_at hl 3 rfl) ?_
            refine lv_iconst (v := 2) hx hb dX8_ifBroken_75 (by decide) ?_
            refine lv_icmp_ne (tgt := 86) hx hb dX8_ifBroken_76 (by decide) (fun hc => ?_) (fun hc => ?_)
            · have hf := oe hc hf
              refine lv_aload_n hx hb dX8_ifBroken_86 rfl (lv_at hl 1 rfl) ?_
              obtain ⟨o87, ho87, hf⟩ := ob hf
              refine rV (rest := []) (As := []) ⟨hx, hb, hml, hown, hts⟩ (mX8_unscreened l dC dI cI cZ cC cO q0 _ _ ho87) (cwV 0 hts gX8_ifBroken_X8_unscreened rfl rfl rfl (by decide +kernel) ⟨Nat.le_of_ble_eq_true rfl, Nat.le_of_ble_eq_true rfl⟩) hK hN hP [0, 1, 2, 3, 4, 5, 6, 7, 8] rfl 7 rfl rfl rfl rfl hl.1 rfl (Nat.le_of_ble_eq_true rfl) dX8_ifBroken_87 ⟨Nat.zero_le _, Nat.zero_le _⟩ ?_
              exact hJ1 _ hf _ _ ls hP hD hS (lv_sub hl [1] rfl)
            · have hf := ot hc hf
              refine lv_aload_n hx hb dX8_ifBroken_79 rfl (lv_at hl 1 rfl) ?_
              obtain ⟨o80, ho80, hf⟩ := ob hf
              refine rV (rest := []) (As := []) ⟨hx, hb, hml, hown, hts⟩ (mX8_deepest l dC dI cI cZ cC cO q0 _ _ ho80) (cwV 0 hts gX8_ifBroken_X8_deepest rfl rfl rfl (by decide +kernel) ⟨Nat.le_of_ble_eq_true rfl, Nat.le_of_ble_eq_true rfl⟩) hK hN hP [0, 1, 2, 3, 4, 5, 6, 7, 8] rfl 7 rfl rfl rfl rfl hl.1 rfl (Nat.le_of_ble_eq_true rfl) dX8_ifBroken_80 ⟨Nat.zero_le _, Nat.zero_le _⟩ ?_
              refine lv_goto (tgt := 90) hx hb dX8_ifBroken_83 (by decide) ?_
              exact hJ1 _ hf _ _ ls hP hD hS (lv_sub hl [1] rfl)
          · have hf := ot hc hf
            refine lv_aload_n hx hb dX8_ifBroken_67 rfl (lv_at hl 1 rfl) ?_
            obtain ⟨o68, ho68, hf⟩ := ob hf
            refine rV (rest := []) (As := []) ⟨hx, hb, hml, hown, hts⟩ (mX8_reachOf l dC dI cI cZ cC cO q0 _ _ ho68) (cwV 0 hts gX8_ifBroken_X8_reachOf rfl rfl rfl (by decide +kernel) ⟨Nat.le_of_ble_eq_true rfl, Nat.le_of_ble_eq_true rfl⟩) hK hN hP [0, 1, 2, 3, 4, 5, 6, 7, 8] rfl 7 rfl rfl rfl rfl hl.1 rfl (Nat.le_of_ble_eq_true rfl) dX8_ifBroken_68 ⟨Nat.zero_le _, Nat.zero_le _⟩ ?_
            refine lv_goto (tgt := 90) hx hb dX8_ifBroken_71 (by decide) ?_
            exact hJ1 _ hf _ _ ls hP hD hS (lv_sub hl [1] rfl)
        · have hf := ot hc hf
          refine lv_aload_n hx hb dX8_ifBroken_53 rfl (lv_at hl 1 rfl) ?_
          refine va_get (D := (dC, dI)) (ci := 7) (v := .ref (q0 1)) (C := RX8) (T := TX8) (N := 21) hx hb hts hin8 hown hK hP 0 rfl rfl 0 (by decide) hk0 (fun _ h9 => h9) rfl dX8_ifBroken_54 ?_
          refine lv_iconst (v := 0) hx hb dX8_ifBroken_57 (by decide) ?_
          have hin : vp_in (0 : Int32) 373 := by unfold vp_in; decide
          refine va_iald hx hb hK hP 1 0 rfl rfl hin dX8_ifBroken_58 ?_
          refine lv_goto (tgt := 90) hx hb dX8_ifBroken_59 (by decide) ?_
          exact hJ1 _ hf _ _ ls hP hD hS (lv_sub hl [1] rfl)
      · have hf := oe hc hf
        refine lv_bipush (v := (-2)) hx hb dX8_ifBroken_27 (by decide) ?_
        obtain rfl := Option.some.inj hf
        exact W.iret (v := (-2)) hx hb hr (fun t ht hW => ⟨⟨_, (), rfl, rfl, by rw [ht]; exact hP, hD⟩, hS.F ht⟩) hS.2.2 dX8_ifBroken_29
    · have hf := ot hc hf
      refine lv_iconst (v := (-1)) hx hb dX8_ifBroken_17 (by decide) ?_
      obtain rfl := Option.some.inj hf
      exact W.iret (v := (-1)) hx hb hr (fun t ht hW => ⟨⟨_, (), rfl, rfl, by rw [ht]; exact hP, hD⟩, hS.F ht⟩) hS.2.2 dX8_ifBroken_18
/-- RimGrainsModel.public int undo(); -/
def fX8_undo (g0 : GX8) : Option (Int32 × GX8) :=
  (if (pX8_known g0) = 0 then some ((-2), g0) else ((fX8_copies (373 * ((pX8_known g0) - 1)) 0 1492 (pX8_past g0) 373 (pX8_s g0)).bind fun o37 => some (((pX8_known g0) - 1), (o37, (pX8_aside g0), (pX8_past g0), ((pX8_known g0) - 1), (pX8_kept g0), (pX8_isKept g0), (pX8_pad g0), (pX8_length g0), (pX8_whyError g0), (pX8_whyNumber g0), (pX8_whySpot g0), (pX8_lots g0), (pX8_walker g0), (pX8_steps g0), (pX8_goes g0), (pX8_becomes g0), (pX8_spot g0), (pX8_isForm g0), (pX8_letter g0), (pX8_told g0), (pX8_highest g0)))))
abbrev rmX8_undo : Room := { frames := 1, cells := 0, slots := 0, locals := 24 }
set_option maxHeartbeats 4000000 in
set_option maxRecDepth 100000 in
theorem mX8_undo (l : Launch) (dC : Nat → ClassId) (dI : Nat → Nat → Nat) (cI cZ cC cO : ClassId) (q0 : Nat → Nat) (g0 : GX8) (sz : Nat) (out : Int32 × GX8) (hf : fX8_undo g0 = some out) : Met l yX8_undo wsX8_undo rmX8_undo (va_Pc [.ref (q0 0)] (pcW (dC, dI) (wTys cI cZ cC cO) sz (wX8 cI cZ cC q0 g0))) (va_Qi (fun r (_ : Unit) => r = out.1) (fun _ => poW (dC, dI) (va_A (wX8 cI cZ cC q0 g0) sz) (wX8 cI cZ cC q0 out.2)) (va_A (wX8 cI cZ cC q0 g0) sz)) 0 0 (va_A (wX8 cI cZ cC q0 g0) sz) := by
  refine Met.ofW (cc := cX8_undo) (maxL := 1) (ret := (some .int)) (by decide) rfl ?_
  intro p e s m args below meth c s₁ B hml hv
  obtain ⟨hargs, hsz, hP, hK, hN, hD0⟩ := hv
  have hx := B.exec
  have hb := B.bytes
  have hr := B.returns
  have hts := atoms_spec (ws := wsX8_undo) B.pre
  have hown : s.vm.findClass RX8 = some m.cls := findClass_of_methodNamed B.named
  have hlocks := B.notSynchronized
  have hk0 := hts (.fieldLink RX8 39 "RimGrainsModel" "known" "I") (by decide +kernel)
  have hk1 := hts (.fieldLink RX8 16 "RimGrainsModel" "past" "[I") (by decide +kernel)
  have hk2 := hts (.fieldLink RX8 7 "RimGrainsModel" "s" "[I") (by decide +kernel)
  have hin8 : ∀ w ∈ wsX80, w ∈ wsX8_undo := by decide +kernel
  subst hsz
  have hD := hD0.self (sz := s.heap.size)
  generalize hAe : va_A (wX8 cI cZ cC q0 g0) s.heap.size = A at hD ⊢
  have hA : ∀ q : Nat, s.heap.size ≤ q → A q := fun q h => by rw [← hAe]; exact Or.inr h
  have hS : va_S A s.heap s.heap [] := va_S.rf
  have hE := lg_entry_eq m [.ref (q0 0)] 1
  rw [← hargs] at hE
  rw [hE]
  have hl := lv_entry [.ref (q0 0)] (n := 1) (Nat.le_of_ble_eq_true rfl)
  generalize (lg_sl [.ref (q0 0)] ++ List.replicate (1 - (lg_sl [.ref (q0 0)]).length) Slot.unset).toArray = ls at hl ⊢
  have hl : lv_has ls 1 [(0, .ref (q0 0))] := hl
  have hP : va_P (dC, dI) vwCl (wX8 cI cZ cC q0 g0) s.heap := hP
  unfold fX8_undo at hf
  refine lv_aload_n hx hb dX8_undo_0 rfl (lv_at hl 0 rfl) ?_
  refine va_get (D := (dC, dI)) (ci := 7) (v := .int (pX8_known g0)) (C := RX8) (T := TX8) (N := 21) hx hb hts hin8 hown hK hP 0 rfl rfl 3 (by decide) hk0 (fun _ h9 => h9) rfl dX8_undo_1 ?_
  refine lv_if_ne (tgt := 10) hx hb dX8_undo_4 (by decide) (fun hc => ?_) (fun hc => ?_)
  · have hf := oe hc hf
    refine lv_aload_n hx hb dX8_undo_10 rfl (lv_at hl 0 rfl) ?_
    refine lv_dup hx hb dX8_undo_11 rfl ?_
    refine va_get (D := (dC, dI)) (ci := 7) (v := .int (pX8_known g0)) (C := RX8) (T := TX8) (N := 21) hx hb hts hin8 hown hK hP 0 rfl rfl 3 (by decide) hk0 (fun _ h9 => h9) rfl dX8_undo_12 ?_
    refine lv_iconst (v := 1) hx hb dX8_undo_15 (by decide) ?_
    refine lv_isub hx hb dX8_undo_16 ?_
    refine va_put (D := (dC, dI)) (ci := 7) (v := .int ((pX8_known g0) - 1)) (ty := .int) (C := RX8) (T := TX8) (N := 21) hx hb hts hin8 tyX8 tyX8_ok nmX8 hown hK hP hD hS 0 rfl rfl 3 (by decide) hk0 (fun _ h9 => h9) rfl (by decide +kernel) rfl rfl (Nat.le_of_ble_eq_true rfl) dX8_undo_17 (fun H locs hP hD hS => ?_)
    have hP : va_P (dC, dI) vwCl (wX8 cI cZ cC q0 ((pX8_s g0), (pX8_aside g0), (pX8_past g0), ((pX8_known g0) - 1), (pX8_kept g0), (pX8_isKept g0), (pX8_pad g0), (pX8_length g0), (pX8_whyError g0), (pX8_whyNumber g0), (pX8_whySpot g0), (pX8_lots g0), (pX8_walker g0), (pX8_steps g0), (pX8_goes g0), (pX8_becomes g0), (pX8_spot g0), (pX8_isForm g0), (pX8_letter g0), (pX8_told g0), (pX8_highest g0))) H := hP
    have hD : va_D A (wX8 cI cZ cC q0 ((pX8_s g0), (pX8_aside g0), (pX8_past g0), ((pX8_known g0) - 1), (pX8_kept g0), (pX8_isKept g0), (pX8_pad g0), (pX8_length g0), (pX8_whyError g0), (pX8_whyNumber g0), (pX8_whySpot g0), (pX8_lots g0), (pX8_walker g0), (pX8_steps g0), (pX8_goes g0), (pX8_becomes g0), (pX8_spot g0), (pX8_isForm g0), (pX8_letter g0), (pX8_told g0), (pX8_highest g0))) := hD
    refine lv_aload_n hx hb dX8_undo_20 rfl (lv_at hl 0 rfl) ?_
    refine va_get (D := (dC, dI)) (ci := 7) (v := .ref (q0 3)) (C := RX8) (T := TX8) (N := 21) hx hb hts hin8 hown hK hP 0 rfl rfl 2 (by decide) hk1 (fun _ h9 => h9) rfl dX8_undo_21 ?_
    refine lv_sipush (v := 373) hx hb dX8_undo_24 (by decide) ?_
    refine lv_aload_n hx hb dX8_undo_27 rfl (lv_at hl 0 rfl) ?_
    refine va_get (D := (dC, dI)) (ci := 7) (v := .int ((pX8_known g0) - 1)) (C := RX8) (T := TX8) (N := 21) hx hb hts hin8 hown hK hP 0 rfl rfl 3 (by decide) hk0 (fun _ h9 => h9) rfl dX8_undo_28 ?_
    refine lv_imul hx hb dX8_undo_31 ?_
    refine lv_aload_n hx hb dX8_undo_32 rfl (lv_at hl 0 rfl) ?_
    refine va_get (D := (dC, dI)) (ci := 7) (v := .ref (q0 1)) (C := RX8) (T := TX8) (N := 21) hx hb hts hin8 hown hK hP 0 rfl rfl 0 (by decide) hk2 (fun _ h9 => h9) rfl dX8_undo_33 ?_
    refine lv_iconst (v := 0) hx hb dX8_undo_36 (by decide) ?_
    obtain ⟨o37, ho37, hf⟩ := ob hf
    refine wSv (W1 := (fun _ : Unit => (wX8 cI cZ cC q0 (o37, (pX8_aside g0), (pX8_past g0), ((pX8_known g0) - 1), (pX8_kept g0), (pX8_isKept g0), (pX8_pad g0), (pX8_length g0), (pX8_whyError g0), (pX8_whyNumber g0), (pX8_whySpot g0), (pX8_lots g0), (pX8_walker g0), (pX8_steps g0), (pX8_goes g0), (pX8_becomes g0), (pX8_spot g0), (pX8_isForm g0), (pX8_letter g0), (pX8_told g0), (pX8_highest g0))))) (rest := []) (As := [.ref (q0 3), .int (373 * ((pX8_known g0) - 1)), .ref (q0 1), .int 0]) ⟨hx, hb, hml, hown, hts⟩ (mX8_copies l dC dI cI cZ cC cO (q0 3) (q0 1) _ _ _ _ _ _ _ _ ho37) (va_cwS 4 hts gX8_undo_X8_copies rfl rfl rfl (by decide +kernel) ⟨Nat.le_of_ble_eq_true rfl, Nat.le_of_ble_eq_true rfl⟩) hK hN hP hD hS hA [3, 1] [0, 2, 4, 5, 6, 7, 8] [0, 8, 1, 7, 2, 3, 4, 5, 6] rfl rfl (by decide) (by decide) (fun _ => rfl) rfl hl.1 rfl (Nat.le_of_ble_eq_true rfl) dX8_undo_37 ⟨Nat.zero_le _, Nat.zero_le _⟩ (fun _ H locs hP hD hS => ?_)
    have hP : va_P (dC, dI) vwCl (wX8 cI cZ cC q0 (o37, (pX8_aside g0), (pX8_past g0), ((pX8_known g0) - 1), (pX8_kept g0), (pX8_isKept g0), (pX8_pad g0), (pX8_length g0), (pX8_whyError g0), (pX8_whyNumber g0), (pX8_whySpot g0), (pX8_lots g0), (pX8_walker g0), (pX8_steps g0), (pX8_goes g0), (pX8_becomes g0), (pX8_spot g0), (pX8_isForm g0), (pX8_letter g0), (pX8_told g0), (pX8_highest g0))) H := hP
    have hD : va_D A (wX8 cI cZ cC q0 (o37, (pX8_aside g0), (pX8_past g0), ((pX8_known g0) - 1), (pX8_kept g0), (pX8_isKept g0), (pX8_pad g0), (pX8_length g0), (pX8_whyError g0), (pX8_whyNumber g0), (pX8_whySpot g0), (pX8_lots g0), (pX8_walker g0), (pX8_steps g0), (pX8_goes g0), (pX8_becomes g0), (pX8_spot g0), (pX8_isForm g0), (pX8_letter g0), (pX8_told g0), (pX8_highest g0))) := hD
    refine lv_aload_n hx hb dX8_undo_40 rfl (lv_at hl 0 rfl) ?_
    refine va_get (D := (dC, dI)) (ci := 7) (v := .int ((pX8_known g0) - 1)) (C := RX8) (T := TX8) (N := 21) hx hb hts hin8 hown hK hP 0 rfl rfl 3 (by decide) hk0 (fun _ h9 => h9) rfl dX8_undo_41 ?_
    obtain rfl := Option.some.inj hf
    exact W.iret (v := ((pX8_known g0) - 1)) hx hb hr (fun t ht hW => ⟨⟨_, (), rfl, rfl, by rw [ht]; exact hP, hD⟩, hS.F ht⟩) hS.2.2 dX8_undo_44
  · have hf := ot hc hf
    refine lv_bipush (v := (-2)) hx hb dX8_undo_7 (by decide) ?_
    obtain rfl := Option.some.inj hf
    exact W.iret (v := (-2)) hx hb hr (fun t ht hW => ⟨⟨_, (), rfl, rfl, by rw [ht]; exact hP, hD⟩, hS.F ht⟩) hS.2.2 dX8_undo_9
/-- RimGrainsModel.public int save(); -/
def fX8_save (g0 : GX8) : Option (Int32 × GX8) :=
  ((fX8_copies 0 0 373 (pX8_s g0) 373 (pX8_kept g0)).bind fun o10 => some (((pX8_s g0) (0 : Int32).toNatClampNeg), ((pX8_s g0), (pX8_aside g0), (pX8_past g0), (pX8_known g0), o10, 1, (pX8_pad g0), (pX8_length g0), (pX8_whyError g0), (pX8_whyNumber g0), (pX8_whySpot g0), (pX8_lots g0), (pX8_walker g0), (pX8_steps g0), (pX8_goes g0), (pX8_becomes g0), (pX8_spot g0), (pX8_isForm g0), (pX8_letter g0), (pX8_told g0), (pX8_highest g0))))
abbrev rmX8_save : Room := { frames := 1, cells := 0, slots := 0, locals := 24 }
set_option maxHeartbeats 4000000 in
set_option maxRecDepth 100000 in
theorem mX8_save (l : Launch) (dC : Nat → ClassId) (dI : Nat → Nat → Nat) (cI cZ cC cO : ClassId) (q0 : Nat → Nat) (g0 : GX8) (sz : Nat) (out : Int32 × GX8) (hf : fX8_save g0 = some out) : Met l yX8_save wsX8_save rmX8_save (va_Pc [.ref (q0 0)] (pcW (dC, dI) (wTys cI cZ cC cO) sz (wX8 cI cZ cC q0 g0))) (va_Qi (fun r (_ : Unit) => r = out.1) (fun _ => poW (dC, dI) (va_A (wX8 cI cZ cC q0 g0) sz) (wX8 cI cZ cC q0 out.2)) (va_A (wX8 cI cZ cC q0 g0) sz)) 0 0 (va_A (wX8 cI cZ cC q0 g0) sz) := by
  refine Met.ofW (cc := cX8_save) (maxL := 1) (ret := (some .int)) (by decide) rfl ?_
  intro p e s m args below meth c s₁ B hml hv
  obtain ⟨hargs, hsz, hP, hK, hN, hD0⟩ := hv
  have hx := B.exec
  have hb := B.bytes
  have hr := B.returns
  have hts := atoms_spec (ws := wsX8_save) B.pre
  have hown : s.vm.findClass RX8 = some m.cls := findClass_of_methodNamed B.named
  have hlocks := B.notSynchronized
  have hk0 := hts (.fieldLink RX8 7 "RimGrainsModel" "s" "[I") (by decide +kernel)
  have hk1 := hts (.fieldLink RX8 19 "RimGrainsModel" "kept" "[I") (by decide +kernel)
  have hk2 := hts (.fieldLink RX8 240 "RimGrainsModel" "isKept" "Z") (by decide +kernel)
  have hin8 : ∀ w ∈ wsX80, w ∈ wsX8_save := by decide +kernel
  subst hsz
  have hD := hD0.self (sz := s.heap.size)
  generalize hAe : va_A (wX8 cI cZ cC q0 g0) s.heap.size = A at hD ⊢
  have hA : ∀ q : Nat, s.heap.size ≤ q → A q := fun q h => by rw [← hAe]; exact Or.inr h
  have hS : va_S A s.heap s.heap [] := va_S.rf
  have hE := lg_entry_eq m [.ref (q0 0)] 1
  rw [← hargs] at hE
  rw [hE]
  have hl := lv_entry [.ref (q0 0)] (n := 1) (Nat.le_of_ble_eq_true rfl)
  generalize (lg_sl [.ref (q0 0)] ++ List.replicate (1 - (lg_sl [.ref (q0 0)]).length) Slot.unset).toArray = ls at hl ⊢
  have hl : lv_has ls 1 [(0, .ref (q0 0))] := hl
  have hP : va_P (dC, dI) vwCl (wX8 cI cZ cC q0 g0) s.heap := hP
  unfold fX8_save at hf
  refine lv_aload_n hx hb dX8_save_0 rfl (lv_at hl 0 rfl) ?_
  refine va_get (D := (dC, dI)) (ci := 7) (v := .ref (q0 1)) (C := RX8) (T := TX8) (N := 21) hx hb hts hin8 hown hK hP 0 rfl rfl 0 (by decide) hk0 (fun _ h9 => h9) rfl dX8_save_1 ?_
  refine lv_iconst (v := 0) hx hb dX8_save_4 (by decide) ?_
  refine lv_aload_n hx hb dX8_save_5 rfl (lv_at hl 0 rfl) ?_
  refine va_get (D := (dC, dI)) (ci := 7) (v := .ref (q0 4)) (C := RX8) (T := TX8) (N := 21) hx hb hts hin8 hown hK hP 0 rfl rfl 4 (by decide) hk1 (fun _ h9 => h9) rfl dX8_save_6 ?_
  refine lv_iconst (v := 0) hx hb dX8_save_9 (by decide) ?_
  obtain ⟨o10, ho10, hf⟩ := ob hf
  refine wSv (W1 := (fun _ : Unit => (wX8 cI cZ cC q0 ((pX8_s g0), (pX8_aside g0), (pX8_past g0), (pX8_known g0), o10, (pX8_isKept g0), (pX8_pad g0), (pX8_length g0), (pX8_whyError g0), (pX8_whyNumber g0), (pX8_whySpot g0), (pX8_lots g0), (pX8_walker g0), (pX8_steps g0), (pX8_goes g0), (pX8_becomes g0), (pX8_spot g0), (pX8_isForm g0), (pX8_letter g0), (pX8_told g0), (pX8_highest g0))))) (rest := []) (As := [.ref (q0 1), .int 0, .ref (q0 4), .int 0]) ⟨hx, hb, hml, hown, hts⟩ (mX8_copies l dC dI cI cZ cC cO (q0 1) (q0 4) _ _ _ _ _ _ _ _ ho10) (va_cwS 4 hts gX8_save_X8_copies rfl rfl rfl (by decide +kernel) ⟨Nat.le_of_ble_eq_true rfl, Nat.le_of_ble_eq_true rfl⟩) hK hN hP hD hS hA [1, 4] [0, 2, 3, 5, 6, 7, 8] [0, 7, 1, 2, 8, 3, 4, 5, 6] rfl rfl (by decide) (by decide) (fun _ => rfl) rfl hl.1 rfl (Nat.le_of_ble_eq_true rfl) dX8_save_10 ⟨Nat.zero_le _, Nat.zero_le _⟩ (fun _ H locs hP hD hS => ?_)
  have hP : va_P (dC, dI) vwCl (wX8 cI cZ cC q0 ((pX8_s g0), (pX8_aside g0), (pX8_past g0), (pX8_known g0), o10, (pX8_isKept g0), (pX8_pad g0), (pX8_length g0), (pX8_whyError g0), (pX8_whyNumber g0), (pX8_whySpot g0), (pX8_lots g0), (pX8_walker g0), (pX8_steps g0), (pX8_goes g0), (pX8_becomes g0), (pX8_spot g0), (pX8_isForm g0), (pX8_letter g0), (pX8_told g0), (pX8_highest g0))) H := hP
  have hD : va_D A (wX8 cI cZ cC q0 ((pX8_s g0), (pX8_aside g0), (pX8_past g0), (pX8_known g0), o10, (pX8_isKept g0), (pX8_pad g0), (pX8_length g0), (pX8_whyError g0), (pX8_whyNumber g0), (pX8_whySpot g0), (pX8_lots g0), (pX8_walker g0), (pX8_steps g0), (pX8_goes g0), (pX8_becomes g0), (pX8_spot g0), (pX8_isForm g0), (pX8_letter g0), (pX8_told g0), (pX8_highest g0))) := hD
  refine lv_aload_n hx hb dX8_save_13 rfl (lv_at hl 0 rfl) ?_
  refine lv_iconst (v := 1) hx hb dX8_save_14 (by decide) ?_
  refine va_put (D := (dC, dI)) (ci := 7) (v := .int 1) (ty := .boolean) (C := RX8) (T := TX8) (N := 21) hx hb hts hin8 tyX8 tyX8_ok nmX8 hown hK hP hD hS 0 rfl rfl 5 (by decide) hk2 (fun _ h9 => h9) rfl (by decide +kernel) rfl rfl (Nat.le_of_ble_eq_true rfl) dX8_save_15 (fun H locs hP hD hS => ?_)
  have hP : va_P (dC, dI) vwCl (wX8 cI cZ cC q0 ((pX8_s g0), (pX8_aside g0), (pX8_past g0), (pX8_known g0), o10, 1, (pX8_pad g0), (pX8_length g0), (pX8_whyError g0), (pX8_whyNumber g0), (pX8_whySpot g0), (pX8_lots g0), (pX8_walker g0), (pX8_steps g0), (pX8_goes g0), (pX8_becomes g0), (pX8_spot g0), (pX8_isForm g0), (pX8_letter g0), (pX8_told g0), (pX8_highest g0))) H := hP
  have hD : va_D A (wX8 cI cZ cC q0 ((pX8_s g0), (pX8_aside g0), (pX8_past g0), (pX8_known g0), o10, 1, (pX8_pad g0), (pX8_length g0), (pX8_whyError g0), (pX8_whyNumber g0), (pX8_whySpot g0), (pX8_lots g0), (pX8_walker g0), (pX8_steps g0), (pX8_goes g0), (pX8_becomes g0), (pX8_spot g0), (pX8_isForm g0), (pX8_letter g0), (pX8_told g0), (pX8_highest g0))) := hD
  refine lv_aload_n hx hb dX8_save_18 rfl (lv_at hl 0 rfl) ?_
  refine va_get (D := (dC, dI)) (ci := 7) (v := .ref (q0 1)) (C := RX8) (T := TX8) (N := 21) hx hb hts hin8 hown hK hP 0 rfl rfl 0 (by decide) hk0 (fun _ h9 => h9) rfl dX8_save_19 ?_
  refine lv_iconst (v := 0) hx hb dX8_save_22 (by decide) ?_
  have hin : vp_in (0 : Int32) 373 := by unfold vp_in; decide
  refine va_iald hx hb hK hP 1 0 rfl rfl hin dX8_save_23 ?_
  obtain rfl := Option.some.inj hf
  exact W.iret (v := ((pX8_s g0) (0 : Int32).toNatClampNeg)) hx hb hr (fun t ht hW => ⟨⟨_, (), rfl, rfl, by rw [ht]; exact hP, hD⟩, hS.F ht⟩) hS.2.2 dX8_save_24
/-- RimGrainsModel.public int restore(); -/
def fX8_restore (g0 : GX8) : Option (Int32 × GX8) :=
  (if (pX8_isKept g0) = 0 then some ((-2), g0) else ((fX8_records g0).bind fun o11 => ((fX8_copies 0 0 373 (pX8_kept o11) 373 (pX8_s o11)).bind fun o24 => some ((o24 (0 : Int32).toNatClampNeg), (o24, (pX8_aside o11), (pX8_past o11), (pX8_known o11), (pX8_kept o11), (pX8_isKept o11), (pX8_pad o11), (pX8_length o11), (pX8_whyError o11), (pX8_whyNumber o11), (pX8_whySpot o11), (pX8_lots o11), (pX8_walker o11), (pX8_steps o11), (pX8_goes o11), (pX8_becomes o11), (pX8_spot o11), (pX8_isForm o11), (pX8_letter o11), (pX8_told o11), (pX8_highest o11))))))
abbrev rmX8_restore : Room := { frames := 2, cells := 0, slots := 0, locals := 45 }
set_option maxHeartbeats 4000000 in
set_option maxRecDepth 100000 in
theorem mX8_restore (l : Launch) (dC : Nat → ClassId) (dI : Nat → Nat → Nat) (cI cZ cC cO : ClassId) (q0 : Nat → Nat) (g0 : GX8) (sz : Nat) (out : Int32 × GX8) (hf : fX8_restore g0 = some out) : Met l yX8_restore wsX8_restore rmX8_restore (va_Pc [.ref (q0 0)] (pcW (dC, dI) (wTys cI cZ cC cO) sz (wX8 cI cZ cC q0 g0))) (va_Qi (fun r (_ : Unit) => r = out.1) (fun _ => poW (dC, dI) (va_A (wX8 cI cZ cC q0 g0) sz) (wX8 cI cZ cC q0 out.2)) (va_A (wX8 cI cZ cC q0 g0) sz)) 0 0 (va_A (wX8 cI cZ cC q0 g0) sz) := by
  refine Met.ofW (cc := cX8_restore) (maxL := 1) (ret := (some .int)) (by decide) rfl ?_
  intro p e s m args below meth c s₁ B hml hv
  obtain ⟨hargs, hsz, hP, hK, hN, hD0⟩ := hv
  have hx := B.exec
  have hb := B.bytes
  have hr := B.returns
  have hts := atoms_spec (ws := wsX8_restore) B.pre
  have hown : s.vm.findClass RX8 = some m.cls := findClass_of_methodNamed B.named
  have hlocks := B.notSynchronized
  have hk0 := hts (.fieldLink RX8 240 "RimGrainsModel" "isKept" "Z") (by decide +kernel)
  have hk1 := hts (.fieldLink RX8 19 "RimGrainsModel" "kept" "[I") (by decide +kernel)
  have hk2 := hts (.fieldLink RX8 7 "RimGrainsModel" "s" "[I") (by decide +kernel)
  have hin8 : ∀ w ∈ wsX80, w ∈ wsX8_restore := by decide +kernel
  subst hsz
  have hD := hD0.self (sz := s.heap.size)
  generalize hAe : va_A (wX8 cI cZ cC q0 g0) s.heap.size = A at hD ⊢
  have hA : ∀ q : Nat, s.heap.size ≤ q → A q := fun q h => by rw [← hAe]; exact Or.inr h
  have hS : va_S A s.heap s.heap [] := va_S.rf
  have hE := lg_entry_eq m [.ref (q0 0)] 1
  rw [← hargs] at hE
  rw [hE]
  have hl := lv_entry [.ref (q0 0)] (n := 1) (Nat.le_of_ble_eq_true rfl)
  generalize (lg_sl [.ref (q0 0)] ++ List.replicate (1 - (lg_sl [.ref (q0 0)]).length) Slot.unset).toArray = ls at hl ⊢
  have hl : lv_has ls 1 [(0, .ref (q0 0))] := hl
  have hP : va_P (dC, dI) vwCl (wX8 cI cZ cC q0 g0) s.heap := hP
  unfold fX8_restore at hf
  refine lv_aload_n hx hb dX8_restore_0 rfl (lv_at hl 0 rfl) ?_
  refine va_get (D := (dC, dI)) (ci := 7) (v := .int (pX8_isKept g0)) (C := RX8) (T := TX8) (N := 21) hx hb hts hin8 hown hK hP 0 rfl rfl 5 (by decide) hk0 (fun _ h9 => h9) rfl dX8_restore_1 ?_
  refine lv_if_ne (tgt := 10) hx hb dX8_restore_4 (by decide) (fun hc => ?_) (fun hc => ?_)
  · have hf := oe hc hf
    refine lv_aload_n hx hb dX8_restore_10 rfl (lv_at hl 0 rfl) ?_
    obtain ⟨o11, ho11, hf⟩ := ob hf
    refine wVv (W1 := (fun _ : Unit => (wX8 cI cZ cC q0 o11))) (rest := []) (As := []) ⟨hx, hb, hml, hown, hts⟩ (mX8_records l dC dI cI cZ cC cO q0 _ _ _ ho11) (cwV 0 hts gX8_restore_X8_records rfl rfl rfl (by decide +kernel) ⟨Nat.le_of_ble_eq_true rfl, Nat.le_of_ble_eq_true rfl⟩) hK hN hP hD hS hA [0, 1, 2, 3, 4, 5, 6, 7, 8] [] [0, 1, 2, 3, 4, 5, 6, 7, 8] rfl rfl (by decide) (by decide) (fun _ => rfl) 7 rfl rfl rfl rfl hl.1 rfl (Nat.le_of_ble_eq_true rfl) dX8_restore_11 ⟨Nat.zero_le _, Nat.zero_le _⟩ (fun _ H locs hP hD hS => ?_)
    have hP : va_P (dC, dI) vwCl (wX8 cI cZ cC q0 o11) H := hP
    have hD : va_D A (wX8 cI cZ cC q0 o11) := hD
    refine lv_aload_n hx hb dX8_restore_14 rfl (lv_at hl 0 rfl) ?_
    refine va_get (D := (dC, dI)) (ci := 7) (v := .ref (q0 4)) (C := RX8) (T := TX8) (N := 21) hx hb hts hin8 hown hK hP 0 rfl rfl 4 (by decide) hk1 (fun _ h9 => h9) rfl dX8_restore_15 ?_
    refine lv_iconst (v := 0) hx hb dX8_restore_18 (by decide) ?_
    refine lv_aload_n hx hb dX8_restore_19 rfl (lv_at hl 0 rfl) ?_
    refine va_get (D := (dC, dI)) (ci := 7) (v := .ref (q0 1)) (C := RX8) (T := TX8) (N := 21) hx hb hts hin8 hown hK hP 0 rfl rfl 0 (by decide) hk2 (fun _ h9 => h9) rfl dX8_restore_20 ?_
    refine lv_iconst (v := 0) hx hb dX8_restore_23 (by decide) ?_
    obtain ⟨o24, ho24, hf⟩ := ob hf
    refine wSv (W1 := (fun _ : Unit => (wX8 cI cZ cC q0 (o24, (pX8_aside o11), (pX8_past o11), (pX8_known o11), (pX8_kept o11), (pX8_isKept o11), (pX8_pad o11), (pX8_length o11), (pX8_whyError o11), (pX8_whyNumber o11), (pX8_whySpot o11), (pX8_lots o11), (pX8_walker o11), (pX8_steps o11), (pX8_goes o11), (pX8_becomes o11), (pX8_spot o11), (pX8_isForm o11), (pX8_letter o11), (pX8_told o11), (pX8_highest o11))))) (rest := []) (As := [.ref (q0 4), .int 0, .ref (q0 1), .int 0]) ⟨hx, hb, hml, hown, hts⟩ (mX8_copies l dC dI cI cZ cC cO (q0 4) (q0 1) _ _ _ _ _ _ _ _ ho24) (va_cwS 4 hts gX8_restore_X8_copies rfl rfl rfl (by decide +kernel) ⟨Nat.le_of_ble_eq_true rfl, Nat.le_of_ble_eq_true rfl⟩) hK hN hP hD hS hA [4, 1] [0, 2, 3, 5, 6, 7, 8] [0, 8, 1, 2, 7, 3, 4, 5, 6] rfl rfl (by decide) (by decide) (fun _ => rfl) rfl hl.1 rfl (Nat.le_of_ble_eq_true rfl) dX8_restore_24 ⟨Nat.zero_le _, Nat.zero_le _⟩ (fun _ H locs hP hD hS => ?_)
    have hP : va_P (dC, dI) vwCl (wX8 cI cZ cC q0 (o24, (pX8_aside o11), (pX8_past o11), (pX8_known o11), (pX8_kept o11), (pX8_isKept o11), (pX8_pad o11), (pX8_length o11), (pX8_whyError o11), (pX8_whyNumber o11), (pX8_whySpot o11), (pX8_lots o11), (pX8_walker o11), (pX8_steps o11), (pX8_goes o11), (pX8_becomes o11), (pX8_spot o11), (pX8_isForm o11), (pX8_letter o11), (pX8_told o11), (pX8_highest o11))) H := hP
    have hD : va_D A (wX8 cI cZ cC q0 (o24, (pX8_aside o11), (pX8_past o11), (pX8_known o11), (pX8_kept o11), (pX8_isKept o11), (pX8_pad o11), (pX8_length o11), (pX8_whyError o11), (pX8_whyNumber o11), (pX8_whySpot o11), (pX8_lots o11), (pX8_walker o11), (pX8_steps o11), (pX8_goes o11), (pX8_becomes o11), (pX8_spot o11), (pX8_isForm o11), (pX8_letter o11), (pX8_told o11), (pX8_highest o11))) := hD
    refine lv_aload_n hx hb dX8_restore_27 rfl (lv_at hl 0 rfl) ?_
    refine va_get (D := (dC, dI)) (ci := 7) (v := .ref (q0 1)) (C := RX8) (T := TX8) (N := 21) hx hb hts hin8 hown hK hP 0 rfl rfl 0 (by decide) hk2 (fun _ h9 => h9) rfl dX8_restore_28 ?_
    refine lv_iconst (v := 0) hx hb dX8_restore_31 (by decide) ?_
    have hin : vp_in (0 : Int32) 373 := by unfold vp_in; decide
    refine va_iald hx hb hK hP 1 0 rfl rfl hin dX8_restore_32 ?_
    obtain rfl := Option.some.inj hf
    exact W.iret (v := (o24 (0 : Int32).toNatClampNeg)) hx hb hr (fun t ht hW => ⟨⟨_, (), rfl, rfl, by rw [ht]; exact hP, hD⟩, hS.F ht⟩) hS.2.2 dX8_restore_33
  · have hf := ot hc hf
    refine lv_bipush (v := (-2)) hx hb dX8_restore_7 (by decide) ?_
    obtain rfl := Option.some.inj hf
    exact W.iret (v := (-2)) hx hb hr (fun t ht hW => ⟨⟨_, (), rfl, rfl, by rw [ht]; exact hP, hD⟩, hS.F ht⟩) hS.2.2 dX8_restore_9
