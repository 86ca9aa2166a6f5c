/-! ===== worlds by blocks ===== -/
theorem fl1 (a : va_W) : a = [a].flatten := by simp
theorem fl2 (a b : va_W) : a ++ b = [a, b].flatten := by simp
theorem fl3 (a b c : va_W) : a ++ b ++ c = [a, b, c].flatten := by simp
theorem fl4 (a b c d : va_W) : a ++ b ++ c ++ d = [a, b, c, d].flatten := by simp
theorem fl5 (a b c d e : va_W) : a ++ b ++ c ++ d ++ e = [a, b, c, d, e].flatten := by simp
theorem fl6 (a b c d e f : va_W) : a ++ b ++ c ++ d ++ e ++ f = [a, b, c, d, e, f].flatten := by simp
theorem fl7 (a b c d e f g : va_W) : a ++ b ++ c ++ d ++ e ++ f ++ g = [a, b, c, d, e, f, g].flatten := by simp
theorem fl11 (a b c d e f g h i j k : va_W) : a ++ b ++ c ++ d ++ e ++ f ++ g ++ h ++ i ++ j ++ k = [a, b, c, d, e, f, g, h, i, j, k].flatten := by simp
def crs (X Y : va_W) : Prop := ∀ p, p ∈ X → ∀ q, q ∈ Y → p.1 ≠ q.1
theorem pM {D : va_G} {cl : List vw_C} {ws : va_W} {H : Heap} (h : va_P D cl ws H) {q : Nat × va_E} (hq : q ∈ ws) : va_at D cl q H := by
  obtain ⟨i, hi⟩ := List.getElem?_of_mem hq
  exact h i q hi
theorem pOf {D : va_G} {cl : List vw_C} {ws : va_W} {H : Heap} (h : ∀ q, q ∈ ws → va_at D cl q H) : va_P D cl ws H := fun _ q hk => h q (List.mem_of_getElem? hk)
theorem dM {A : Nat → Prop} {ws : va_W} (h : va_D A ws) {q : Nat × va_E} (hq : q ∈ ws) : A q.1 := by
  obtain ⟨i, hi⟩ := List.getElem?_of_mem hq
  exact h.2 i q hi
theorem dsplit {A : Nat → Prop} {X Y : va_W} (h : va_D A (X ++ Y)) : va_D A X ∧ va_D A Y ∧ crs X Y := by
  have hx : ∀ (i : Nat) (p : Nat × va_E), X[i]? = some p → (X ++ Y)[i]? = some p := fun i p hi => by
    rw [List.getElem?_append_left (List.getElem?_eq_some_iff.mp hi).1]
    exact hi
  have hy : ∀ (j : Nat) (q : Nat × va_E), Y[j]? = some q → (X ++ Y)[X.length + j]? = some q := fun j q hj => by
    rw [List.getElem?_append_right (Nat.le_add_right _ _), Nat.add_sub_cancel_left]
    exact hj
  refine ⟨⟨fun i j p q h1 h2 e => h.1 i j p q (hx i p h1) (hx j q h2) e, fun k q hk => h.2 k q (hx k q hk)⟩, ⟨fun i j p q h1 h2 e => ?_, fun k q hk => h.2 _ q (hy k q hk)⟩, fun p hp q hq e => ?_⟩
  · have := h.1 _ _ p q (hy i p h1) (hy j q h2) e
    omega
  · obtain ⟨i, hi⟩ := List.getElem?_of_mem hp
    obtain ⟨j, hj⟩ := List.getElem?_of_mem hq
    have h1 := h.1 _ _ p q (hx i p hi) (hy j q hj) e
    have h2 := (List.getElem?_eq_some_iff.mp hi).1
    omega
theorem dapp {A : Nat → Prop} {X Y : va_W} (h1 : va_D A X) (h2 : va_D A Y) (hx : crs X Y) : va_D A (X ++ Y) := va_D.app h1 h2 (fun _ _ p q hi hj => hx p (List.mem_of_getElem? hi) q (List.mem_of_getElem? hj))
def bD (A : Nat → Prop) (Bs : List va_W) : Prop := (∀ (i : Nat) (X : va_W), Bs[i]? = some X → va_D A X) ∧ ∀ (i j : Nat) (X Y : va_W), Bs[i]? = some X → Bs[j]? = some Y → i ≠ j → crs X Y
theorem bD_of {A : Nat → Prop} : ∀ {Bs : List va_W}, va_D A Bs.flatten → bD A Bs
  | [], _ => ⟨fun i X h => by simp at h, fun i j X Y h => by simp at h⟩
  | B :: r, h => by
    rw [List.flatten_cons] at h
    obtain ⟨h1, h2, h3⟩ := dsplit h
    obtain ⟨g1, g2⟩ := bD_of h2
    have cr : ∀ (j : Nat) (Y : va_W), r[j]? = some Y → crs B Y := fun j Y hj p hp q hq => h3 p hp q (List.mem_flatten.mpr ⟨Y, List.mem_of_getElem? hj, hq⟩)
    refine ⟨fun i X hi => ?_, fun i j X Y hi hj hne => ?_⟩
    · cases i with
      | zero =>
        have e : some B = some X := hi
        cases e
        exact h1
      | succ i => exact g1 i X hi
    · cases i with
      | zero =>
        have e : some B = some X := hi
        cases e
        cases j with
        | zero => exact absurd rfl hne
        | succ j => exact cr j Y hj
      | succ i =>
        cases j with
        | zero =>
          have e : some B = some Y := hj
          cases e
          exact fun p hp q hq e => cr i X hi q hq p hp e.symm
        | succ j => exact g2 i j X Y hi hj (by omega)
theorem bD_to {A : Nat → Prop} : ∀ {Cs : List va_W}, bD A Cs → va_D A Cs.flatten
  | [], _ => by
    rw [List.flatten_nil]
    exact ⟨fun i j p q h => by simp at h, fun k q h => by simp at h⟩
  | C :: r, h => by
    rw [List.flatten_cons]
    refine dapp (h.1 0 C rfl) (bD_to ⟨fun i X hi => h.1 (i + 1) X hi, fun i j X Y hi hj hne => h.2 (i + 1) (j + 1) X Y hi hj (by omega)⟩) (fun p hp q hq => ?_)
    obtain ⟨Y, hY, hq2⟩ := List.mem_flatten.mp hq
    obtain ⟨j, hj⟩ := List.getElem?_of_mem hY
    exact h.2 0 (j + 1) C Y rfl hj (by omega) p hp q hq2
theorem bkey {Bs Cs : List va_W} {is : List Nat} (hs : is.map (fun i => Bs[i]?) = Cs.map some) {k : Nat} {X : va_W} (hk : Cs[k]? = some X) : ∃ i, is[k]? = some i ∧ Bs[i]? = some X := by
  have h1 : (is.map (fun i => Bs[i]?))[k]? = some (some X) := by rw [hs, List.getElem?_map, hk]; rfl
  rw [List.getElem?_map] at h1
  cases hi : is[k]? with
  | none => rw [hi] at h1; simp at h1
  | some i =>
    rw [hi] at h1
    have h2 : some (Bs[i]?) = some (some X) := h1
    exact ⟨i, rfl, Option.some.inj h2⟩
theorem bsel {A : Nat → Prop} {Bs Cs : List va_W} (h : bD A Bs) (is : List Nat) (hn : va_nd is = true) (hs : is.map (fun i => Bs[i]?) = Cs.map some) : bD A Cs := by
  refine ⟨fun k X hk => ?_, fun i j X Y hi hj hne => ?_⟩
  · obtain ⟨i, _, h2⟩ := bkey hs hk
    exact h.1 i X h2
  · obtain ⟨a, a1, a2⟩ := bkey hs hi
    obtain ⟨b, b1, b2⟩ := bkey hs hj
    exact h.2 a b X Y a2 b2 (fun e => hne (va_nd_inj is hn i j a a1 (by rw [e]; exact b1)))
theorem psel {D : va_G} {cl : List vw_C} {Bs Cs : List va_W} {H : Heap} (h : va_P D cl Bs.flatten H) (is : List Nat) (hs : is.map (fun i => Bs[i]?) = Cs.map some) : va_P D cl Cs.flatten H := pOf (fun q hq => by
  obtain ⟨X, hX, hq2⟩ := List.mem_flatten.mp hq
  obtain ⟨k, hk⟩ := List.getElem?_of_mem hX
  obtain ⟨i, _, hi⟩ := bkey hs hk
  exact pM h (List.mem_flatten.mpr ⟨X, List.mem_of_getElem? hi, hq2⟩))
theorem bcross {A : Nat → Prop} {Bs Cs Rs : List va_W} (h : bD A Bs) (isC isR : List Nat) (hC : isC.map (fun i => Bs[i]?) = Cs.map some) (hR : isR.map (fun i => Bs[i]?) = Rs.map some) (hdis : ∀ i ∈ isR, i ∉ isC) : crs Rs.flatten Cs.flatten := fun p hp q hq => by
  obtain ⟨X, hX, hp2⟩ := List.mem_flatten.mp hp
  obtain ⟨k, hk⟩ := List.getElem?_of_mem hX
  obtain ⟨i, i1, i2⟩ := bkey hR hk
  obtain ⟨Y, hY, hq2⟩ := List.mem_flatten.mp hq
  obtain ⟨t, ht⟩ := List.getElem?_of_mem hY
  obtain ⟨j, j1, j2⟩ := bkey hC ht
  exact h.2 i j X Y i2 j2 (fun e => hdis i (List.mem_of_getElem? i1) (by rw [e]; exact List.mem_of_getElem? j1)) p hp2 q hq2
theorem bjoin {A : Nat → Prop} {D : va_G} {cl : List vw_C} {Bs Cs Rs N1 : List va_W} {H H1 : Heap} (hP : va_P D cl Bs.flatten H) (hD : va_D A Bs.flatten) (isC isR : List Nat) (hC : isC.map (fun i => Bs[i]?) = Cs.map some) (hR : isR.map (fun i => Bs[i]?) = Rs.map some) (hnR : va_nd isR = true) (hdis : ∀ i ∈ isR, i ∉ isC) (hk : ∀ q : Nat, q < H.size → ¬ va_A Cs.flatten H.size q → H1[q]? = H[q]?) (hF : ∀ q, va_A Cs.flatten H.size q → A q) (hP1 : va_P D cl N1.flatten H1) (hD1 : va_D (va_A Cs.flatten H.size) N1.flatten) : va_P D cl (Rs ++ N1).flatten H1 ∧ va_D A (Rs ++ N1).flatten := by
  have bD0 := bD_of hD
  have hPR := psel hP isR hR
  have hDR := bD_to (bsel bD0 isR hnR hR)
  have cr := bcross bD0 isC isR hC hR hdis
  have apart : ∀ q, q ∈ Rs.flatten → q.1 < H.size ∧ ¬ va_A Cs.flatten H.size q.1 := fun q hq => by
    have hl := (pM hPR hq).lt
    refine ⟨hl, fun h => ?_⟩
    rcases h with ⟨k, e, h⟩ | h
    · exact cr q hq _ (List.mem_of_getElem? h) rfl
    · exact absurd hl (Nat.not_lt.mpr h)
  have hPR1 : va_P D cl Rs.flatten H1 := hPR.kept (fun k q hkq => hk q.1 (apart q (List.mem_of_getElem? hkq)).1 (apart q (List.mem_of_getElem? hkq)).2)
  rw [List.flatten_append]
  exact ⟨va_P.app hPR1 hP1, dapp hDR (hD1.weaken (fun _ q _ h => hF q.1 h)) (fun p hp q hq e => (apart p hp).2 (by rw [e]; exact dM hD1 hq))⟩
theorem psel1 {D : va_G} {cl : List vw_C} {Bs : List va_W} {X : va_W} {H : Heap} (h : va_P D cl Bs.flatten H) (i : Nat) (hs : Bs[i]? = some X) : va_P D cl X H := pOf (fun _ hq => pM h (List.mem_flatten.mpr ⟨X, List.mem_of_getElem? hs, hq⟩))
section MYB
variable {p : Program} {l : Launch} {e : Env} {R : Room} {s : State} {m : MethodId} {args : Array Value} {below : List Frame} {meth : Method} {c : Code} {H : Heap} {locs : List Loc} {cells slots : Nat} {Q : State → Prop}
variable {cc bytes : ByteArray} {maxL nL n index pc : Nat} {own C : String} {y : MethodName} {ret : Option FieldType} {ws : List Cond} {rm : Room} {Ts : List Cond} {b : Addr} {As rest st0 : List Value} {ls : Array Slot} {D : va_G} {tys : List (ClassId × FieldType)} {w W0 : va_W} {A : Nat → Prop} {H0 : Heap}
theorem wViB {σ : Type} {w1 : σ → va_W} {o : Int32} {q : vw_C} {fs : List Value} {Bs Cs Rs : List va_W} {N1 B1 : σ → List va_W} (S : CallFix p m c cc nL s args Ts own) (hM : Met l y ws rm (va_Pc (.ref b :: As) (pcW D tys H.size w)) (va_Qi (fun r (_ : σ) => r = o) (fun u => poW D (va_A w H.size) (w1 u)) (va_A w H.size)) 0 0 (va_A w H.size)) (cw : CallW R s args own C index y bytes maxL ret ws rm 0 0 n) (hK : va_K D vwCl tys s) (hN : NN s) (hP : va_P D vwCl Bs.flatten H) (hD : va_D A Bs.flatten) (hS : va_S A H0 H locs) (hA : ∀ q, H0.size ≤ q → A q) (isC isR perm : List Nat) (hC : isC.map (fun i => Bs[i]?) = Cs.map some) (hR : isR.map (fun i => Bs[i]?) = Rs.map some) (hwC : w = Cs.flatten) (hw1 : ∀ u, w1 u = (N1 u).flatten) (hnd : (va_nd isC && va_nd isR && va_nd perm) = true) (hdis : ∀ i ∈ isR, i ∉ isC) (hp : ∀ u, perm.map (fun i => (Rs ++ N1 u)[i]?) = (B1 u).map some) (ci : Nat) (hc : vwCl[ci]? = some q) (hq : q.1 = C) (he : w[0]? = some (b, .inr (ci, fs))) (hn : As.length = n) (hsz : ls.size = nL) (hst : st0 = As.reverse ++ .ref b :: rest) (hW : (rest.map fun v => v.category).sum ≤ 8) (hdg : decode cc pc = .ok (.invokevirtual index, 3)) (hf : cells ≤ R.cells ∧ slots ≤ R.slots)
    (kk : ∀ (u : σ) (H1 : Heap) (locs1 : List Loc), va_P D vwCl (B1 u).flatten H1 → va_D A (B1 u).flatten → va_S A H0 H1 locs1 → W p l e R s m args below meth c H1 locs1 cells slots Q (F0 m (pc + 3) ls (.int o :: rest))) : W p l e R s m args below meth c H locs cells slots Q (F0 m pc ls st0) := by
  subst hst
  simp only [Bool.and_eq_true] at hnd
  have hPc : va_P D vwCl w H := by rw [hwC]; exact psel hP isC hC
  have hDc : va_D A w := by rw [hwC]; exact bD_to (bsel (bD_of hD) isC hnd.1.1 hC)
  have hFc : ∀ q, va_A w H.size q → A q := fun q h => by
    rcases h with ⟨k, e, h⟩ | h
    · exact dM hDc (List.mem_of_getElem? h)
    · exact hA q (Nat.le_trans hS.1 h)
  refine va_calli (rest := rest) (a := (Value.ref b :: As).toArray) (va_runV (As := As) (rest := rest) S hM cw ⟨pcW_blind, ?_, fun U hU hW2 => ⟨rfl, by rw [hU], by rw [hU]; exact hPc, va_K.moved hW2.alike hK, hN.warm hW2, hDc.weaken (fun _ _ _ _ => trivial)⟩⟩ rfl hn hsz rfl (lv_room hW) hdg hf) hS (fun q _ h => hFc q h) hFc (fun r u t H1 locs1 ht hvm hw hB hz1 hk1 hS1 => ?_)
  · subst hq
    exact va_recv hK hPc hc he
  · obtain ⟨hP1, hD1⟩ := hB
    rw [ht] at hP1
    rw [hw1 u] at hP1 hD1
    rw [hwC] at hD1 hk1 hFc
    obtain ⟨a1, a2⟩ := bjoin hP hD isC isR hC hR hnd.1.2 hdis hk1 hFc hP1 hD1
    rw [hw]
    exact kk u H1 locs1 (psel a1 perm (hp u)) (bD_to (bsel (bD_of a2) perm hnd.2 (hp u))) hS1
theorem rVB {o : Int32} {q : vw_C} {fs : List Value} {Bs Cs : List va_W} (S : CallFix p m c cc nL s args Ts own) (hM : Met l y ws rm (va_Pc (.ref b :: As) (pcR D tys w)) (vp_Si (fun r => r = o)) 0 0 (fun _ => False)) (cw : CallW R s args own C index y bytes maxL ret ws rm 0 0 n) (hK : va_K D vwCl tys s) (hN : NN s) (hP : va_P D vwCl Bs.flatten H) (isC : List Nat) (hC : isC.map (fun i => Bs[i]?) = Cs.map some) (hwC : w = Cs.flatten) (ci : Nat) (hc : vwCl[ci]? = some q) (hq : q.1 = C) (he : w[0]? = some (b, .inr (ci, fs))) (hn : As.length = n) (hsz : ls.size = nL) (hst : st0 = As.reverse ++ .ref b :: rest) (hW : (rest.map fun v => v.category).sum ≤ 8) (hdg : decode cc pc = .ok (.invokevirtual index, 3)) (hf : cells ≤ R.cells ∧ slots ≤ R.slots)
    (kk : W p l e R s m args below meth c H locs cells slots Q (F0 m (pc + 3) ls (.int o :: rest))) : W p l e R s m args below meth c H locs cells slots Q (F0 m pc ls st0) := by
  subst hst
  have hPc : va_P D vwCl w H := by rw [hwC]; exact psel hP isC hC
  refine vp_callSi (rest := rest) (a := (Value.ref b :: As).toArray) (W.runV (As := As) (rest := rest) S hM cw ⟨pcR_blind, ?_, fun U hU hW2 => ⟨rfl, by rw [hU]; exact hPc, va_K.moved hW2.alike hK, hN.warm hW2⟩⟩ rfl hn hsz rfl (lv_room hW) hdg hf) (fun r hr => ?_)
  · subst hq
    exact va_recv hK hPc hc he
  · rw [hr]; exact kk
theorem iPv {σ : Type} {post : σ → Prop} {Pp : va_W → State → Prop} {w1 : σ → va_W} {wr : va_W} {mc ms : Nat} (S : CallFix p m c cc nL s args Ts own) (hM : Met l y ws rm (va_Pc [.ref b] (Pp w)) (va_Qv post (fun u => poW D (va_A w H.size) (w1 u)) (va_A w H.size)) mc ms (va_A w H.size)) (cw : CallB R s args own index y bytes maxL none ws rm mc ms 0 ∧ y.name = "<init>" ∧ (Cond.instanceMethod y).before args s = true) (hbl : FrameBlind (va_Pc [.ref b] (Pp w))) (hpp : ∀ U : State, U.heap = H → s.WarmedH U.vm → va_P D vwCl w H → va_D A w → Pp w U) (hP : va_P D vwCl W0 H) (hD : va_D A W0) (hS : va_S A H0 H locs) (hA : ∀ q, H0.size ≤ q → A q) (isC isR : List Nat) (hC : isC.map (fun i => W0[i]?) = w.map some) (hR : isR.map (fun i => W0[i]?) = wr.map some) (hnd : (va_nd isC && va_nd isR) = true) (hdis : ∀ i ∈ isR, i ∉ isC) (hsz : ls.size = nL) (hst : st0 = .ref b :: rest) (hW : (rest.map fun v => v.category).sum ≤ 8) (hdg : decode cc pc = .ok (.invokespecial index, 3)) (hf : cells + mc ≤ R.cells ∧ slots + ms ≤ R.slots)
    (kk : ∀ (u : σ), post u → ∀ (H1 : Heap) (locs1 : List Loc), va_P D vwCl (wr ++ w1 u) H1 → va_D A (wr ++ w1 u) → va_S A H0 H1 locs1 → W p l e R s m args below meth c H1 locs1 (cells + mc) (slots + ms) Q (F0 m (pc + 3) ls rest)) : W p l e R s m args below meth c H locs cells slots Q (F0 m pc ls st0) := by
  subst hst
  simp only [Bool.and_eq_true] at hnd
  have hPc := hP.sub isC (fm_of hC)
  have hDc := hD.sub isC hnd.1 hC
  have hFc := va_free hD hS hA isC hC
  refine va_callv (rest := rest) (a := (Value.ref b :: []).toArray) (va_runI (As := []) (rest := rest) S hM cw ⟨hbl, fun U hU hW2 => ⟨rfl, hpp U hU hW2 hPc hDc⟩⟩ rfl rfl hsz rfl (lv_room hW) hdg hf) hS (fun q _ h => hFc q h) hFc (fun u t H1 locs1 ht hvm hw hB hz1 hk1 hS1 => ?_)
  obtain ⟨hP1, hD1⟩ := hB
  rw [ht] at hP1
  obtain ⟨a1, a2⟩ := va_join hP hD isC isR hC hR hnd.2 hdis hk1 hFc hP1 hD1
  exact kk u hw H1 locs1 a1 a2 hS1
end MYB
theorem pcA_blind {D : va_G} {tys : List (ClassId × FieldType)} {w : va_W} {sz : Nat} {av : List Value} : FrameBlind (va_Pc av (pcA D tys sz w)) := fun a U g mk q => ⟨q.1, va_AO.moved (u := U) (U := U.calling g mk a) (Vm.Alike.refl U.vm) q.2.1, (pcW_blind (av := av) a U g mk ⟨q.1, q.2.2⟩).2⟩
theorem arr_known {s : State} {args : Array Value} {ty : FieldType} (hpr : ty = .int ∨ ty = .boolean ∨ ty = .char) (h : (Cond.arrayClass ty).before args s = true) : ∃ cA, ArrOfT s cA ty ∧ va_RA s cA ty := by
  obtain ⟨cA, k, comp, h1, h2, h3⟩ := Cond.arrayClass_spec h
  refine ⟨cA, fun n z => ⟨fun k h => (by cases h), k, h2, comp, h3⟩, ?_⟩
  rcases hpr with rfl | rfl | rfl <;> exact h1
theorem arrq_known {s : State} {args : Array Value} {C : String} (h : (Cond.arrayOver (.object C)).before args s = true) : ∃ cA, ArrOfT s cA (.object C) ∧ va_RA s cA (.object C) := by
  obtain ⟨comp, cA, k, h1, h2, h3, h4, h5⟩ := Cond.arrayOver_spec h
  exact ⟨cA, fun n z => ⟨fun k h => (by cases h), k, h3, comp, h4⟩, k, comp, h3, h4, h1, h5⟩
theorem law_le {L k : Nat} (hL : L ≤ 1536) (hk : k ≤ L + 2) (h : ¬ Int32.ofNat L - 3 < nI k) : k + 3 ≤ L := by
  have h1 : (Int32.ofNat L - 3).toInt = (L : Int) - 3 := pk_sub_toInt (a := L) (b := 3) (by omega) (by omega)
  have h2 : (nI k).toInt = (k : Int) := nI_toInt (by omega)
  rw [Int32.lt_iff_toInt_lt, h1, h2] at h
  omega
theorem nan_dec {p : UInt64} (h : isNaN64 p = true) : FP.Core.decode FP.Core.b64 p.toNat = .nan := by
  rw [isNaN64_iff] at h
  have e : p.toNat &&& 0x7fffffffffffffff = p.toNat % 2 ^ 63 := Nat.and_two_pow_sub_one_eq_mod p.toNat 63
  rw [e] at h
  have hE : FP.Core.fieldE FP.Core.b64 p.toNat = 2047 := by
    show p.toNat / 2 ^ 52 % 2 ^ 11 = 2047
    omega
  have hT : ¬ FP.Core.fieldT FP.Core.b64 p.toNat = 0 := by
    show ¬ p.toNat % 2 ^ 52 = 0
    omega
  unfold FP.Core.decode
  rw [if_pos (by rw [hE]; rfl), if_neg hT]
theorem law_dd {x p q : UInt64} (hp : alike64 p x = true) (hq : alike64 q x = true) (h : ¬ Op.cmpValue (FP.dcmp p q) CmpOp.l = 0) : Op.cmpValue (FP.dcmp p p) CmpOp.l ≠ 0 ∧ Op.cmpValue (FP.dcmp q q) CmpOp.l ≠ 0 := by
  have key : ∀ r, isNaN64 r = true → Op.cmpValue (FP.dcmp r r) CmpOp.l ≠ 0 := fun r hr => by
    have e : FP.dcmp r r = none := by
      unfold FP.dcmp FP.Core.dcmp FP.Core.cmp
      rw [nan_dec hr]
      rfl
    rw [e]
    decide
  simp only [alike64, Bool.or_eq_true, decide_eq_true_eq, Bool.and_eq_true] at hp hq
  rcases hp with rfl | ⟨hp1, hp2⟩
  · rcases hq with rfl | ⟨hq1, hq2⟩
    · exact ⟨h, h⟩
    · exact ⟨key _ hq2, key _ hq1⟩
  · rcases hq with rfl | ⟨hq1, hq2⟩
    · exact ⟨key _ hp1, key _ hp2⟩
    · exact ⟨key _ hp1, key _ hq1⟩
