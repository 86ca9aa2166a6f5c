theorem sct_in {L : Nat} {k : Int32} (hL : L ≤ 260) (hk : ¬ k < 0) (hc : ¬ Int32.ofNat L ≤ k) : vp_in k L := by
  rcases i_any k (n := L) (by omega) with q | q | ⟨j, hj, rfl⟩
  · exact absurd q hk
  · exact absurd q hc
  · exact vp_in_nI hj (by omega)
abbrev rmL_low : Room := { frames := 0, cells := 0, slots := 0, locals := 0 }
abbrev rmL_lot : Room := { frames := 0, cells := 0, slots := 0, locals := 0 }
set_option maxHeartbeats 2000000 in
theorem mL_low (l : Launch) (dC : Nat → ClassId) (dI : Nat → Nat → Nat) (cI cZ cC cO : ClassId) (i0 i1 : Int32) (hne : ¬ i1 = 0) : Met l yL_low wsL_low rmL_low (va_Pc [.int i0, .int i1] (pcR (dC, dI) (wTys cI cZ cC cO) [])) (vp_Si (fun r => r = lwA28 i0 i1)) 0 0 (fun _ => False) := by
  refine Met.ofW (cc := cL_low) (maxL := 2) (ret := (some .int)) (by decide) rfl ?_
  intro p e s m args below meth c s₁ B hml hv
  obtain ⟨hargs, hP, hK, hN⟩ := hv
  have hx := B.exec
  have hb := B.bytes
  have hr := B.returns
  have hts := atoms_spec (ws := wsL_low) B.pre
  have hown : s.vm.findClass RL = some m.cls := findClass_of_methodNamed B.named
  have hlocks := B.notSynchronized
  have hE := lg_entry_eq m [.int i0, .int i1] 2
  rw [← hargs] at hE
  rw [hE]
  have hl := lv_entry [.int i0, .int i1] (n := 2) (Nat.le_of_ble_eq_true rfl)
  generalize (lg_sl [.int i0, .int i1] ++ List.replicate (2 - (lg_sl [.int i0, .int i1]).length) Slot.unset).toArray = ls at hl ⊢
  have hl : lv_has ls 2 [(0, .int i0), (1, .int i1)] := hl
  refine lv_iload_n hx hb dL_low_0 rfl (lv_at hl 0 rfl) ?_
  refine lv_ldc hx hb hown (hts (.constant RL 8 (2147483647)) (by decide +kernel)) dL_low_1 ?_
  refine lv_iand hx hb dL_low_3 ?_
  refine lv_iload_n hx hb dL_low_4 rfl (lv_at hl 1 rfl) ?_
  refine jirem hx hb dL_low_5 hne ?_
  exact W.iret (v := lwA28 i0 i1) hx hb hr (fun t ht hW => ⟨_, rfl, rfl, ht⟩) (fun _ h => by cases h) dL_low_6
theorem sct_blind {b L : Nat} {xs : Nat → Int32} {av : List Value} : FrameBlind (va_Pc av (fun U => va_X b L xs U U.heap ∧ b < U.heap.size)) := fun a U g mk q => ⟨q.1, va_X.moved (u := U) (U := U.calling g mk a) (Vm.Alike.refl U.vm) q.2.1, q.2.2⟩
set_option maxHeartbeats 2000000 in
theorem mL_lot (l : Launch) (b L : Nat) (xs : Nat → Int32) (k : Int32) (hk : ¬ k < 0) (hL : L ≤ 260) : Met l yL_lot wsL_lot rmL_lot (va_Pc [.ref b, .int k] (fun U => va_X b L xs U U.heap ∧ b < U.heap.size)) (vp_Si (fun r => r = sctA L xs k)) 0 0 (fun _ => False) := by
  refine Met.ofW (cc := cL_lot) (maxL := 2) (ret := (some .int)) (by decide) rfl ?_
  intro p e s m args below meth c s₁ B hml hv
  obtain ⟨hargs, hX, hbl⟩ := hv
  have hx := B.exec
  have hb := B.bytes
  have hr := B.returns
  have hts := atoms_spec (ws := wsL_lot) B.pre
  have hown : s.vm.findClass RL = some m.cls := findClass_of_methodNamed B.named
  have hlocks := B.notSynchronized
  have hE := lg_entry_eq m [.ref b, .int k] 2
  rw [← hargs] at hE
  rw [hE]
  have hl := lv_entry [.ref b, .int k] (n := 2) (Nat.le_of_ble_eq_true rfl)
  generalize (lg_sl [.ref b, .int k] ++ List.replicate (2 - (lg_sl [.ref b, .int k]).length) Slot.unset).toArray = ls at hl ⊢
  have hl : lv_has ls 2 [(0, .ref b), (1, .int k)] := hl
  have hS : va_S (fun _ => False) s.heap s.heap [] := va_S.rf
  refine lv_iload_n hx hb dL_lot_0 rfl (lv_at hl 1 rfl) ?_
  refine lv_aload_n hx hb dL_lot_1 rfl (lv_at hl 0 rfl) ?_
  refine va_slen hx hb hX hbl (fun h => h) hS dL_lot_2 ?_
  refine lv_icmp_ge (tgt := 12) hx hb dL_lot_3 (by decide) (fun hc => ?_) (fun hc => ?_)
  · refine lv_ldc hx hb hown (hts (.constant RL 7 (-1310661267)) (by decide +kernel)) dL_lot_12 ?_
    refine lv_iload_n hx hb dL_lot_14 rfl (lv_at hl 1 rfl) ?_
    refine lv_sipush (v := 4373) hx hb dL_lot_15 (by decide) ?_
    refine lv_iadd hx hb dL_lot_18 ?_
    refine lv_imul hx hb dL_lot_19 ?_
    refine lv_sipush (v := 4133) hx hb dL_lot_20 (by decide) ?_
    refine lv_iadd hx hb dL_lot_23 ?_
    have he : (-1310661267) * (k + 4373) + 4133 = sctA L xs k := by unfold sctA; rw [if_pos hc]
    rw [he]
    exact W.iret (v := sctA L xs k) hx hb hr (fun t ht hW => ⟨_, rfl, rfl, ht⟩) (fun _ h => by cases h) dL_lot_24
  · refine lv_aload_n hx hb dL_lot_6 rfl (lv_at hl 0 rfl) ?_
    refine lv_iload_n hx hb dL_lot_7 rfl (lv_at hl 1 rfl) ?_
    refine va_sld hx hb hX hbl (fun h => h) hS (sct_in hL hk hc) dL_lot_8 ?_
    refine lv_goto (tgt := 24) hx hb dL_lot_9 (by decide) ?_
    have he : xs k.toNatClampNeg = sctA L xs k := by unfold sctA; rw [if_neg hc]
    rw [he]
    exact W.iret (v := sctA L xs k) hx hb hr (fun t ht hW => ⟨_, rfl, rfl, ht⟩) (fun _ h => by cases h) dL_lot_24
section MYQ
variable {p : Program} {l : Launch} {e : Env} {R : Room} {s : State} {m : MethodId} {args : Array Value} {below : List Frame} {meth : Method} {c : Code} {H : Heap} {locs : List Loc} {cells slots : Nat} {Qp : State → Prop}
variable {cc bytes : ByteArray} {maxL nL n index pc : Nat} {own : String} {ret : Option FieldType} {Ts : List Cond} {rest st0 : List Value} {ls : Array Slot} {A : Nat → Prop} {H0 : Heap} {dC : Nat → ClassId} {dI : Nat → Nat → Nat} {cI cZ cC cO : ClassId} {Q : Nat → Nat → Nat} {u : QH} {V : GV} {a : AS}
variable {y : MethodName} {ws : List Cond} {rm : Room} {As : List Value} {D : va_G} {tys : List (ClassId × FieldType)} {w : va_W}
theorem rsI {σ : Type} {post : Int32 → σ → Prop} {w1 : σ → va_W} (S : CallFix p m c cc nL s args Ts own) (hM : Met l y ws rm (va_Pc As (pcW D tys H.size w)) (va_Qi post (fun u => poW D (va_A w H.size) (w1 u)) (va_A w H.size)) 0 0 (va_A w H.size)) (cw : CallB R s args own index y bytes maxL ret ws rm 0 0 n ∧ (Cond.static y).before args s = true) (hK : va_K D vwCl tys s) (hN : NN s) (hP : va_P D vwCl w H) (hD : va_D A w) (hS : va_S A H0 H locs) (hA : ∀ q, H0.size ≤ q → A q) (hn : As.length = n) (hsz : ls.size = nL) (hst : st0 = As.reverse ++ rest) (hW : (rest.map fun v => v.category).sum ≤ 8) (hdg : decode cc pc = .ok (.invokestatic index, 3)) (hf : cells ≤ R.cells ∧ slots ≤ R.slots)
    (kk : ∀ (r : Int32) (u : σ), post r u → ∀ (H1 : Heap) (locs1 : List Loc), va_P D vwCl (w1 u) H1 → va_D A (w1 u) → va_S A H0 H1 locs1 → W p l e R s m args below meth c H1 locs1 cells slots Qp (F0 m (pc + 3) ls (.int r :: rest))) : W p l e R s m args below meth c H locs cells slots Qp (F0 m pc ls st0) := by
  subst hst
  have hFc : ∀ q, va_A w H.size q → A q := fun q h => by
    rcases h with ⟨k, e, h⟩ | h
    · exact dM hD (List.mem_of_getElem? h)
    · exact hA q (Nat.le_trans hS.1 h)
  refine va_calli (rest := rest) (a := As.toArray) (va_runS (As := As) (rest := rest) S hM cw ⟨pcW_blind, fun U hU hW2 => ⟨rfl, by rw [hU], by rw [hU]; exact hP, va_K.moved hW2.alike hK, hN.warm hW2, hD.weaken (fun _ _ _ _ => trivial)⟩⟩ rfl hn hsz rfl (lv_room hW) hdg hf) hS (fun q _ h => hFc q h) hFc (fun r u t H1 locs1 ht hvm hw hB hz1 hk1 hS1 => ?_)
  obtain ⟨hP1, hD1⟩ := hB
  rw [ht] at hP1
  exact kk r u hw H1 locs1 hP1 (hD1.weaken (fun _ q _ h => hFc q.1 h)) hS1
theorem rsL {σ : Type} {post : Int64 → σ → Prop} {w1 : σ → va_W} (S : CallFix p m c cc nL s args Ts own) (hM : Met l y ws rm (va_Pc As (pcW D tys H.size w)) (va_Ql post (fun u => poW D (va_A w H.size) (w1 u)) (va_A w H.size)) 0 0 (va_A w H.size)) (cw : CallB R s args own index y bytes maxL ret ws rm 0 0 n ∧ (Cond.static y).before args s = true) (hK : va_K D vwCl tys s) (hN : NN s) (hP : va_P D vwCl w H) (hD : va_D A w) (hS : va_S A H0 H locs) (hA : ∀ q, H0.size ≤ q → A q) (hn : As.length = n) (hsz : ls.size = nL) (hst : st0 = As.reverse ++ rest) (hW : (rest.map fun v => v.category).sum ≤ 8) (hdg : decode cc pc = .ok (.invokestatic index, 3)) (hf : cells ≤ R.cells ∧ slots ≤ R.slots)
    (kk : ∀ (r : Int64) (u : σ), post r u → ∀ (H1 : Heap) (locs1 : List Loc), va_P D vwCl (w1 u) H1 → va_D A (w1 u) → va_S A H0 H1 locs1 → W p l e R s m args below meth c H1 locs1 cells slots Qp (F0 m (pc + 3) ls (.long r :: rest))) : W p l e R s m args below meth c H locs cells slots Qp (F0 m pc ls st0) := by
  subst hst
  have hFc : ∀ q, va_A w H.size q → A q := fun q h => by
    rcases h with ⟨k, e, h⟩ | h
    · exact dM hD (List.mem_of_getElem? h)
    · exact hA q (Nat.le_trans hS.1 h)
  refine va_calll (rest := rest) (a := As.toArray) (va_runS (As := As) (rest := rest) S hM cw ⟨pcW_blind, fun U hU hW2 => ⟨rfl, by rw [hU], by rw [hU]; exact hP, va_K.moved hW2.alike hK, hN.warm hW2, hD.weaken (fun _ _ _ _ => trivial)⟩⟩ rfl hn hsz rfl (lv_room hW) hdg hf) hS (fun q _ h => hFc q h) hFc (fun r u t H1 locs1 ht hvm hw hB hz1 hk1 hS1 => ?_)
  obtain ⟨hP1, hD1⟩ := hB
  rw [ht] at hP1
  exact kk r u hw H1 locs1 hP1 (hD1.weaken (fun _ q _ h => hFc q.1 h)) hS1
theorem rsID {d0 : Drawn} (hd0 : s.drawn.sameBut d0 lw_cs) {σ : Type} {post : Int32 → σ → Prop} {w1 : σ → va_W} (S : CallFix p m c cc nL (s.setDrawn d0) args Ts own) (hM : MetD lw_cs l y ws rm (va_Pc As (pcW D tys H.size w)) (va_Qi post (fun u => poW D (va_A w H.size) (w1 u)) (va_A w H.size)) 0 0 (va_A w H.size)) (cw : CallB R (s.setDrawn d0) args own index y bytes maxL ret ws rm 0 0 n ∧ (Cond.static y).before args (s.setDrawn d0) = true) (hK : va_K D vwCl tys (s.setDrawn d0)) (hN : NN (s.setDrawn d0)) (hP : va_P D vwCl w H) (hD : va_D A w) (hS : va_S A H0 H locs) (hA : ∀ q, H0.size ≤ q → A q) (hn : As.length = n) (hsz : ls.size = nL) (hst : st0 = As.reverse ++ rest) (hW : (rest.map fun v => v.category).sum ≤ 8) (hdg : decode cc pc = .ok (.invokestatic index, 3)) (hf : cells ≤ R.cells ∧ slots ≤ R.slots)
    (kk : ∀ (r : Int32) (u : σ), post r u → ∀ (H1 : Heap) (locs1 : List Loc) (d1 : Drawn), s.drawn.sameBut d1 lw_cs → va_P D vwCl (w1 u) H1 → va_D A (w1 u) → va_S A H0 H1 locs1 → W p l e R (s.setDrawn d1) m args below meth c H1 locs1 cells slots Qp (F0 m (pc + 3) ls (.int r :: rest))) : W p l e R (s.setDrawn d0) m args below meth c H locs cells slots Qp (F0 m pc ls st0) := by
  subst hst
  have hFc : ∀ q, va_A w H.size q → A q := fun q h => by
    rcases h with ⟨k, e, h⟩ | h
    · exact dM hD (List.mem_of_getElem? h)
    · exact hA q (Nat.le_trans hS.1 h)
  refine va_calliD hd0 (rest := rest) (a := As.toArray) (va_runS_D (As := As) (rest := rest) S hM cw ⟨pcW_blind, fun U hU hW2 => ⟨rfl, by rw [hU], by rw [hU]; exact hP, va_K.moved hW2.alike hK, hN.warm hW2, hD.weaken (fun _ _ _ _ => trivial)⟩⟩ rfl hn hsz rfl (lv_room hW) hdg hf) hS (fun q _ h => hFc q h) hFc (fun r u t H1 locs1 ht hvm hw hB hz1 hk1 hS1 d1 hd1 => ?_)
  obtain ⟨hP1, hD1⟩ := hB
  rw [ht] at hP1
  exact kk r u hw H1 locs1 d1 hd1 hP1 (hD1.weaken (fun _ q _ h => hFc q.1 h)) hS1
theorem rLot {b L : Nat} {xs : Nat → Int32} {k : Int32} (S : CallFix p m c cc nL s args Ts own) (cw : CallB R s args own index yL_lot bytes maxL ret wsL_lot rmL_lot 0 0 2 ∧ (Cond.static yL_lot).before args s = true) (hk : ¬ k < 0) (hL : L ≤ 260) (hX : va_X b L xs s H0) (hbl : b < H0.size) (hbA : ¬ A b) (hS : va_S A H0 H locs) (hsz : ls.size = nL) (hst : st0 = .int k :: .ref b :: rest) (hW : (rest.map fun v => v.category).sum ≤ 8) (hdg : decode cc pc = .ok (.invokestatic index, 3)) (hf : cells ≤ R.cells ∧ slots ≤ R.slots)
    (kk : W p l e R s m args below meth c H locs cells slots Qp (F0 m (pc + 3) ls (.int (sctA L xs k) :: rest))) : W p l e R s m args below meth c H locs cells slots Qp (F0 m pc ls st0) := by
  subst hst
  have hq : H[b]? = H0[b]? := hS.2.1 b hbl hbA
  refine vp_callSi (rest := rest) (a := ([Value.ref b, .int k] : List Value).toArray) (W.runS (As := [.ref b, .int k]) (rest := rest) S (mL_lot l b L xs k hk hL) cw ⟨sct_blind, fun U hU hW2 => ⟨rfl, va_X.moved hW2.alike (hX.kept (by rw [hU]; exact hq)), by rw [hU]; exact Nat.lt_of_lt_of_le hbl hS.1⟩⟩ rfl rfl hsz rfl (lv_room hW) hdg hf) (fun r hr => ?_)
  rw [hr]; exact kk
theorem rb_density {d0 : Drawn} (hd0 : s.drawn.sameBut d0 lw_cs) (S : CallFix p m c cc nL (s.setDrawn d0) args Ts own) (cw : CallW R (s.setDrawn d0) args own RX7 index yX7_density bytes maxL ret wsX7_density rmX7_density 0 0 0) (hK : va_K (dC, dI) vwCl (wTys cI cZ cC cO) (s.setDrawn d0)) (hN : NN (s.setDrawn d0)) (hP : va_P (dC, dI) vwCl (WB cI cZ cC cO Q u V).flatten H) (hD : va_D A (WB cI cZ cC cO Q u V).flatten) (hS : va_S A H0 H locs) (hR : RepA V a) (hsz : ls.size = nL) (hst : st0 = .ref (Q 0 0) :: rest) (hW : (rest.map fun v => v.category).sum ≤ 8) (hdg : decode cc pc = .ok (.invokevirtual index, 3)) (hf : cells ≤ R.cells ∧ slots ≤ R.slots)
    (kk : ∀ (r : UInt64), alike64 r (dnsA a) = true → ∀ (H1 : Heap) (locs1 : List Loc) (d1 : Drawn), s.drawn.sameBut d1 lw_cs → va_P (dC, dI) vwCl (WB cI cZ cC cO Q u V).flatten H1 → va_D A (WB cI cZ cC cO Q u V).flatten → va_S A H0 H1 locs1 → W p l e R (s.setDrawn d1) m args below meth c H1 locs1 cells slots Qp (F0 m (pc + 3) ls (.double r :: rest))) : W p l e R (s.setDrawn d0) m args below meth c H locs cells slots Qp (F0 m pc ls st0) := by
  subst hst
  have hPc : va_P (dC, dI) vwCl (wX7 cI cZ cC (Q 0) (Q 1) (Q 2) (Q 3) (Q 4) (Q 5) (Q 6) (Q 7) (Q 8) (Q 9) V.1 ++ wX4 cI cZ cC (Q 1) V.2.1) H := va_P.app (psel1 (Bs := WB cI cZ cC cO Q u V) hP 0 rfl) (psel1 (Bs := WB cI cZ cC cO Q u V) hP 1 rfl)
  refine va_calldD hd0 (va_runV_D (As := []) (rest := rest) S (mX7_density l dC dI cI cZ cC cO (Q 0) (Q 1) (Q 2) (Q 3) (Q 4) (Q 5) (Q 6) (Q 7) (Q 8) (Q 9) _ _ _ (k_density hR)) cw ⟨pcR_blind, va_recv hK hPc (ci := 6) (q0 := 0) rfl rfl, fun U hU hW2 => ⟨rfl, by rw [hU]; exact hPc, va_K.moved hW2.alike hK, hN.warm hW2⟩⟩ rfl rfl hsz rfl (lv_room hW) hdg hf) hS (fun q _ h => h.elim) (fun q h => h.elim) (fun r _ t H1 locs1 ht hvm hw hB hz1 hk1 hS1 d1 hd1 => ?_)
  exact kk r hw H1 locs1 d1 hd1 (hP.kept (fun k q hkq => hk1 q.1 ((hP k q hkq).lt) (fun h => h))) hD hS1
end MYQ
