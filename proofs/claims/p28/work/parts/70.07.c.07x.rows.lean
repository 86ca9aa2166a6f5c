/-! calls in a large world: what stays is named -/
section MYR
variable {p : Program} {l : Launch} {e : Env} {R : Room} {s : State} {m : MethodId} {args : Array Value} {below : List Frame} {meth : Method} {c : Code} {H : Heap} {locs : List Loc} {cells slots : Nat} {Q : State → Prop}
variable {cc bytes : ByteArray} {maxL nL n index pc : Nat} {own C : String} {y : MethodName} {ret : Option FieldType} {ws : List Cond} {rm : Room} {Ts : List Cond} {b : Addr} {As rest st0 : List Value} {ls : Array Slot} {D : va_G} {tys : List (ClassId × FieldType)} {w W0 : va_W} {A : Nat → Prop} {H0 : Heap}
theorem wViR {σ : Type} {w1 W1 : σ → va_W} {wr : va_W} {o : Int32} {q : vw_C} {fs : List Value} (S : CallFix p m c cc nL s args Ts own) (hM : Met l y ws rm (va_Pc (.ref b :: As) (pcW D tys H.size w)) (va_Qi (fun r (_ : σ) => r = o) (fun u => poW D (va_A w H.size) (w1 u)) (va_A w H.size)) 0 0 (va_A w H.size)) (cw : CallW R s args own C index y bytes maxL ret ws rm 0 0 n) (hK : va_K D vwCl tys s) (hN : NN s) (hP : va_P D vwCl W0 H) (hD : va_D A W0) (hS : va_S A H0 H locs) (hA : ∀ q, H0.size ≤ q → A q) (isC isR perm : List Nat) (hC : isC.map (fun i => W0[i]?) = w.map some) (hR : isR.map (fun i => W0[i]?) = wr.map some) (hnd : (va_nd isC && va_nd isR && va_nd perm) = true) (hdis : ∀ i ∈ isR, i ∉ isC) (hp : ∀ u, perm.map (fun i => (wr ++ w1 u)[i]?) = (W1 u).map some) (ci : Nat) (hc : vwCl[ci]? = some q) (hq : q.1 = C) (he : w[0]? = some (b, .inr (ci, fs))) (hn : As.length = n) (hsz : ls.size = nL) (hst : st0 = As.reverse ++ .ref b :: rest) (hW : (rest.map fun v => v.category).sum ≤ 8) (hdg : decode cc pc = .ok (.invokevirtual index, 3)) (hf : cells ≤ R.cells ∧ slots ≤ R.slots)
    (kk : ∀ (u : σ) (H1 : Heap) (locs1 : List Loc), va_P D vwCl (W1 u) H1 → va_D A (W1 u) → va_S A H0 H1 locs1 → W p l e R s m args below meth c H1 locs1 cells slots Q (F0 m (pc + 3) ls (.int o :: rest))) : W p l e R s m args below meth c H locs cells slots Q (F0 m pc ls st0) := by
  subst hst
  simp only [Bool.and_eq_true] at hnd
  have hPc := hP.sub isC (fm_of hC)
  have hDc := hD.sub isC hnd.1.1 hC
  have hFc := va_free hD hS hA isC hC
  refine va_calli (rest := rest) (a := (Value.ref b :: As).toArray) (va_runV (As := As) (rest := rest) S hM cw ⟨pcW_blind, ?_, fun U hU hW2 => ⟨rfl, by rw [hU], by rw [hU]; exact hPc, va_K.moved hW2.alike hK, hN.warm hW2, hDc.weaken (fun _ _ _ _ => trivial)⟩⟩ rfl hn hsz rfl (lv_room hW) hdg hf) hS (fun q _ h => hFc q h) hFc (fun r u t H1 locs1 ht hvm hw hB hz1 hk1 hS1 => ?_)
  · subst hq
    exact va_recv hK hPc hc he
  · obtain ⟨hP1, hD1⟩ := hB
    rw [ht] at hP1
    obtain ⟨a1, a2⟩ := wsort hP hD isC isR hC hR hnd.1.2 hdis hk1 hFc hP1 hD1 perm hnd.2 (hp u)
    rw [hw]
    exact kk u H1 locs1 a1 a2 hS1
theorem wVvR {σ : Type} {w1 W1 : σ → va_W} {wr : va_W} {q : vw_C} {fs : List Value} (S : CallFix p m c cc nL s args Ts own) (hM : Met l y ws rm (va_Pc (.ref b :: As) (pcW D tys H.size w)) (va_Qv (fun (_ : σ) => True) (fun u => poW D (va_A w H.size) (w1 u)) (va_A w H.size)) 0 0 (va_A w H.size)) (cw : CallW R s args own C index y bytes maxL ret ws rm 0 0 n) (hK : va_K D vwCl tys s) (hN : NN s) (hP : va_P D vwCl W0 H) (hD : va_D A W0) (hS : va_S A H0 H locs) (hA : ∀ q, H0.size ≤ q → A q) (isC isR perm : List Nat) (hC : isC.map (fun i => W0[i]?) = w.map some) (hR : isR.map (fun i => W0[i]?) = wr.map some) (hnd : (va_nd isC && va_nd isR && va_nd perm) = true) (hdis : ∀ i ∈ isR, i ∉ isC) (hp : ∀ u, perm.map (fun i => (wr ++ w1 u)[i]?) = (W1 u).map some) (ci : Nat) (hc : vwCl[ci]? = some q) (hq : q.1 = C) (he : w[0]? = some (b, .inr (ci, fs))) (hn : As.length = n) (hsz : ls.size = nL) (hst : st0 = As.reverse ++ .ref b :: rest) (hW : (rest.map fun v => v.category).sum ≤ 8) (hdg : decode cc pc = .ok (.invokevirtual index, 3)) (hf : cells ≤ R.cells ∧ slots ≤ R.slots)
    (kk : ∀ (u : σ) (H1 : Heap) (locs1 : List Loc), va_P D vwCl (W1 u) H1 → va_D A (W1 u) → va_S A H0 H1 locs1 → W p l e R s m args below meth c H1 locs1 cells slots Q (F0 m (pc + 3) ls rest)) : W p l e R s m args below meth c H locs cells slots Q (F0 m pc ls st0) := by
  subst hst
  simp only [Bool.and_eq_true] at hnd
  have hPc := hP.sub isC (fm_of hC)
  have hDc := hD.sub isC hnd.1.1 hC
  have hFc := va_free hD hS hA isC hC
  refine va_callv (rest := rest) (a := (Value.ref b :: As).toArray) (va_runV (As := As) (rest := rest) S hM cw ⟨pcW_blind, ?_, fun U hU hW2 => ⟨rfl, by rw [hU], by rw [hU]; exact hPc, va_K.moved hW2.alike hK, hN.warm hW2, hDc.weaken (fun _ _ _ _ => trivial)⟩⟩ rfl hn hsz rfl (lv_room hW) hdg hf) hS (fun q _ h => hFc q h) hFc (fun u t H1 locs1 ht hvm hw hB hz1 hk1 hS1 => ?_)
  · subst hq
    exact va_recv hK hPc hc he
  · obtain ⟨hP1, hD1⟩ := hB
    rw [ht] at hP1
    obtain ⟨a1, a2⟩ := wsort hP hD isC isR hC hR hnd.1.2 hdis hk1 hFc hP1 hD1 perm hnd.2 (hp u)
    exact kk u H1 locs1 a1 a2 hS1
end MYR
