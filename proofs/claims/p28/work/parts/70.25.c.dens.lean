abbrev rmX7_density : Room := { frames := 3, cells := 0, slots := 0, locals := 63 }
set_option maxHeartbeats 4000000 in
set_option maxRecDepth 100000 in
theorem mX7_density (l : Launch) (dC : Nat → ClassId) (dI : Nat → Nat → Nat) (cI cZ cC cO : ClassId) (q0 qn qs qt qh qw qf qr qc qp : Nat → Nat) (g0 : GX7) (gn : GX4) (out : Int32 × Int32) (hf : fX7_density g0 gn = some out) : MetD lw_cs l yX7_density wsX7_density rmX7_density (va_Pc [.ref (q0 0)] (pcR (dC, dI) (wTys cI cZ cC cO) (wX7 cI cZ cC q0 qn qs qt qh qw qf qr qc qp g0 ++ wX4 cI cZ cC qn gn))) (va_Qd (fun (r : UInt64) (_ : Unit) => alike64 r (FP.ddiv (FP.i2d out.1) (FP.i2d out.2)) = true) (fun _ _ => True) (fun _ => False)) 0 0 (fun _ => False) := by
  refine MetD.ofW (cc := cX7_density) (maxL := 2) (ret := (some .double)) (by decide) rfl ?_
  intro p e s m args below meth c s₁ B hml hv hd0
  obtain ⟨hargs, hP, hK, hN⟩ := hv
  have hx := B.exec
  have hb := B.bytes
  have hr := B.returns
  have hts0 := atoms_spec (ws := wsX7_density) B.pre
  have hts := dr_words hts0 s.drawn
  have hown : s.vm.findClass RX7 = some m.cls := findClass_of_methodNamed B.named
  have hlocks := B.notSynchronized
  have hN : NN (s.setDrawn s.drawn) := hN
  have hK : va_K (dC, dI) vwCl (wTys cI cZ cC cO) (s.setDrawn s.drawn) := hK
  have hE := lg_entry_eq m [.ref (q0 0)] 2
  rw [← hargs] at hE
  rw [hE]
  have hl := lv_entry [.ref (q0 0)] (n := 2) (Nat.le_of_ble_eq_true rfl)
  generalize (lg_sl [.ref (q0 0)] ++ List.replicate (2 - (lg_sl [.ref (q0 0)]).length) Slot.unset).toArray = ls at hl ⊢
  have hl : lv_has ls 2 [(0, .ref (q0 0))] := hl
  unfold fX7_density at hf
  refine lv_iconst (v := 2) hx hb dX7_density_0 (by decide) ?_
  refine lv_aload_n hx hb dX7_density_1 rfl (lv_at hl 0 rfl) ?_
  refine va_get (D := (dC, dI)) (ci := 6) (v := .ref (qn 0)) (C := RX7) (T := TX7) (N := 14) hx hb hts (by decide +kernel) hown hK hP 0 rfl rfl 0 (by decide) (hts (.fieldLink RX7 12 "RimGrains" "now" "LRimGrains$State;") (by decide +kernel)) (fun _ h9 => h9) rfl dX7_density_2 ?_
  obtain ⟨o5, ho5, hf⟩ := ob hf
  refine rV (rest := [.int 2]) (As := []) ⟨hx, hb, hml, hown, hts⟩ (mX4_reach l dC dI cI cZ cC cO qn _ _ ho5) (cwV 0 hts gX7_density_X4_reach rfl rfl rfl (by decide +kernel) ⟨Nat.le_of_ble_eq_true rfl, Nat.le_of_ble_eq_true rfl⟩) hK hN hP [1, 2, 3, 4, 5, 6] rfl 3 rfl rfl rfl rfl hl.1 rfl (Nat.le_of_ble_eq_true rfl) dX7_density_5 ⟨Nat.zero_le _, Nat.zero_le _⟩ ?_
  refine lv_imul hx hb dX7_density_8 ?_
  refine lv_iconst (v := 1) hx hb dX7_density_9 (by decide) ?_
  refine lv_iadd hx hb dX7_density_10 ?_
  refine lv_istore_n (lv' := [(1, .int ((2 * o5) + 1)), (0, .ref (q0 0))]) hx hb dX7_density_11 rfl hl (by decide) rfl (fun ls hl => ?_)
  refine lv_aload_n hx hb dX7_density_12 rfl (lv_at hl 1 rfl) ?_
  refine va_get (D := (dC, dI)) (ci := 6) (v := .ref (qn 0)) (C := RX7) (T := TX7) (N := 14) hx hb hts (by decide +kernel) hown hK hP 0 rfl rfl 0 (by decide) (hts (.fieldLink RX7 12 "RimGrains" "now" "LRimGrains$State;") (by decide +kernel)) (fun _ h9 => h9) rfl dX7_density_13 ?_
  refine va_getN (D := (dC, dI)) (ci := 3) (v := .int (pX4_grains gn)) (C := RX4) (T := TX4) (N := 11) hx hb hts (by decide +kernel) hown hK hP 1 rfl rfl 5 (by decide) (hN.f (args := args) 3 rfl) (fun _ h9 => h9) rfl dX7_density_16 ?_
  refine lv_i2d hx hb dX7_density_19 ?_
  refine lv_iload_n hx hb dX7_density_20 rfl (lv_at hl 0 rfl) ?_
  refine lv_iload_n hx hb dX7_density_21 rfl (lv_at hl 0 rfl) ?_
  refine lv_imul hx hb dX7_density_22 ?_
  refine lv_i2d hx hb dX7_density_23 ?_
  refine lv_ddiv_any hd0 lw_bits hx hb dX7_density_24 (fun r d1 hal hd1 => ?_)
  obtain rfl := Option.some.inj hf
  refine W.endD hd1 ?_
  exact W.dret hx hb hr (fun t ht hW => ⟨⟨r, (), rfl, hal, trivial⟩, (va_S.rf (A := fun _ => False) (H0 := s.heap)).F ht⟩) (fun q hq => absurd hq List.not_mem_nil) dX7_density_25
