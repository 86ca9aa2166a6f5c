/-! the words of my own: values, partial functions, loops, calls -/
def jrem (x y : Int32) : Int32 := x - x / y * y
def jmax (x y : Int32) : Int32 := if x < y then y else x
def jmin (x y : Int32) : Int32 := if y < x then y else x
def jabs (x : Int32) : Int32 := if 0 ≤ x then x else 0 - x
def jchr (x : Int32) : Int32 := (x.toUInt32 % 65536).toInt32
theorem ob {α β : Type} {x : Option α} {f : α → Option β} {b : β} (h : x.bind f = some b) : ∃ a, x = some a ∧ f a = some b := by
  cases x with
  | none => cases h
  | some a => exact ⟨a, rfl, h⟩
theorem ot {α : Type} {c : Prop} [Decidable c] {x y : Option α} {b : α} (hc : c) (h : (if c then x else y) = some b) : x = some b := by rw [if_pos hc] at h; exact h
theorem oe {α : Type} {c : Prop} [Decidable c] {x y : Option α} {b : α} (hc : ¬ c) (h : (if c then x else y) = some b) : y = some b := by rw [if_neg hc] at h; exact h
theorem og {α : Type} {c : Prop} [Decidable c] {x : Option α} {b : α} (h : (if c then none else x) = some b) : ¬ c ∧ x = some b := by
  by_cases hc : c
  · rw [if_pos hc] at h; cases h
  · rw [if_neg hc] at h; exact ⟨hc, h⟩
theorem ok {α : Type} {c : Prop} [Decidable c] {x : Option α} {b : α} (h : (if c then x else none) = some b) : c ∧ x = some b := by
  by_cases hc : c
  · rw [if_pos hc] at h; exact ⟨hc, h⟩
  · rw [if_neg hc] at h; cases h
def lp {σ ω : Type} (step : σ → Option (σ ⊕ ω)) : Nat → σ → Option ω
  | 0, _ => none
  | n + 1, s => (step s).bind (fun r => match r with
    | .inl s' => lp step n s'
    | .inr o => some o)
def FU : Nat := 5000
theorem lp0 {σ ω : Type} {step : σ → Option (σ ⊕ ω)} {s : σ} {o : ω} (h : lp step 0 s = some o) : False := by cases h
theorem lps {σ ω : Type} {step : σ → Option (σ ⊕ ω)} {n : Nat} {s : σ} {o : ω} (h : lp step (n + 1) s = some o) : ∃ r, step s = some r ∧ (match r with
    | .inl s' => lp step n s'
    | .inr o' => some o') = some o := ob h
/-- a cell that holds 0 or 1, and one that holds a character -/
theorem jz_n {v : Int32} (h : v = 0 ∨ v = 1) : narrow .boolean (.int v) = .int v := by rcases h with rfl | rfl <;> rfl
theorem jz_f {v : Int32} (h : v = 0 ∨ v = 1) : fits .boolean (.int v) = true := by rcases h with rfl | rfl <;> rfl
def jcz (v : Int32) : Prop := v.toUInt32.toUInt16.toUInt32.toInt32 = v ∧ 0 ≤ v ∧ v ≤ 65535
theorem jc_n {v : Int32} (h : v.toUInt32.toUInt16.toUInt32.toInt32 = v ∧ 0 ≤ v ∧ v ≤ 65535) : narrow .char (.int v) = .int v := by
  show Value.int _ = Value.int v
  rw [h.1]
theorem jc_f {v : Int32} (h : v.toUInt32.toUInt16.toUInt32.toInt32 = v ∧ 0 ≤ v ∧ v ≤ 65535) : fits .char (.int v) = true := by
  show (decide (0 ≤ v) && decide (v ≤ 65535)) = true
  rw [decide_eq_true h.2.1, decide_eq_true h.2.2]; rfl
def jgz {α : Type} (v : Int32) (x : Option α) : Option α := if v = 0 ∨ v = 1 then x else none
def jgc {α : Type} (v : Int32) (x : Option α) : Option α := if v.toUInt32.toUInt16.toUInt32.toInt32 = v ∧ 0 ≤ v ∧ v ≤ 65535 then x else none
theorem ogz {α : Type} {v : Int32} {x : Option α} {b : α} (h : jgz v x = some b) : (v = 0 ∨ v = 1) ∧ x = some b := ok h
theorem ogc {α : Type} {v : Int32} {x : Option α} {b : α} (h : jgc v x = some b) : (v.toUInt32.toUInt16.toUInt32.toInt32 = v ∧ 0 ≤ v ∧ v ≤ 65535) ∧ x = some b := ok h
/-- the array classes that the worlds speak of -/
abbrev wTys (cI cZ cC cO : ClassId) : List (ClassId × FieldType) := [(cI, .int), (cZ, .boolean), (cC, .char), (cO, .object RX4)]
/-- the words of private members of nest mates -/
def NN (U : State) : Prop := (∀ q ∈ nestF, va_Nw (.fieldLinkNest q.1 q.2.1 q.2.2.1 q.2.2.2.1 q.2.2.2.2 "RimGrains") U) ∧ ∀ q ∈ nestM, va_Nw (.methodLinkNest q.1 q.2.1 q.2.2 "RimGrains") U
theorem NN.warm {s U : State} (hW : s.WarmedH U.vm) (h : NN s) : NN U := ⟨fun q hq => va_Nw.warmF hW (h.1 q hq), fun q hq => va_Nw.warmM hW (h.2 q hq)⟩
theorem NN.same {u U : State} (e : u.vm = U.vm) (h : NN u) : NN U := ⟨fun q hq => va_Nw.same rfl e (h.1 q hq), fun q hq => va_Nw.same rfl e (h.2 q hq)⟩
theorem NN.f {U : State} {args : Array Value} (h : NN U) (i : Nat) {q : String × Nat × String × String × String} (hq : nestF[i]? = some q) : (Cond.fieldLinkNest q.1 q.2.1 q.2.2.1 q.2.2.2.1 q.2.2.2.2 "RimGrains").before args U = true := va_Nw.use rfl (h.1 q (List.mem_of_getElem? hq))
theorem NN.m {U : State} (h : NN U) (i : Nat) {q : String × Nat × MethodName} (hq : nestM[i]? = some q) : va_Nw (.methodLinkNest q.1 q.2.1 q.2.2 "RimGrains") U := h.2 q (List.mem_of_getElem? hq)
def pcR (D : va_G) (tys : List (ClassId × FieldType)) (w : va_W) (U : State) : Prop := va_P D vwCl w U.heap ∧ va_K D vwCl tys U ∧ NN U
def pcW (D : va_G) (tys : List (ClassId × FieldType)) (sz : Nat) (w : va_W) (U : State) : Prop := U.heap.size = sz ∧ va_P D vwCl w U.heap ∧ va_K D vwCl tys U ∧ NN U ∧ va_D (fun _ => True) w
def poW (D : va_G) (A : Nat → Prop) (w : va_W) (t : State) : Prop := va_P D vwCl w t.heap ∧ va_D A w
theorem pcR_blind {D : va_G} {tys : List (ClassId × FieldType)} {w : va_W} {av : List Value} : FrameBlind (va_Pc av (pcR D tys w)) := fun a U g mk q => ⟨q.1, q.2.1, va_K.moved (u := U) (U := U.calling g mk a) (Vm.Alike.refl U.vm) q.2.2.1, NN.same (u := U) (U := U.calling g mk a) rfl q.2.2.2⟩
theorem pcW_blind {D : va_G} {tys : List (ClassId × FieldType)} {w : va_W} {sz : Nat} {av : List Value} : FrameBlind (va_Pc av (pcW D tys sz w)) := fun a U g mk q => ⟨q.1, q.2.1, q.2.2.1, va_K.moved (u := U) (U := U.calling g mk a) (Vm.Alike.refl U.vm) q.2.2.2.1, NN.same (u := U) (U := U.calling g mk a) rfl q.2.2.2.2.1, q.2.2.2.2.2⟩
theorem fm_of {α : Type} {f : Nat → Option α} {is : List Nat} {w : List α} (h : is.map f = w.map some) : is.filterMap f = w := by
  have h2 : is.filterMap f = (is.map f).filterMap id := by rw [List.filterMap_map]; rfl
  rw [h2, h, List.filterMap_map]
  show List.filterMap some w = w
  exact List.filterMap_some
section MYC
variable {p : Program} {l : Launch} {e : Env} {R : Room} {s : State} {m : MethodId} {args : Array Value} {below : List Frame} {meth : Method} {c : Code} {H : Heap} {locs : List Loc} {cells slots : Nat} {Q : State → Prop}
variable {cc bytes : ByteArray} {maxL nL n index pc : Nat} {own C : String} {y : MethodName} {ret : Option FieldType} {ws : List Cond} {rm : Room} {Ts : List Cond} {b : Addr} {As rest st0 : List Value} {ls : Array Slot} {D : va_G} {tys : List (ClassId × FieldType)} {w W0 : va_W} {A : Nat → Prop} {H0 : Heap}
/-- calls of methods that only read -/
theorem rV {o : Int32} {q : vw_C} {fs : List Value} (S : CallFix p m c cc nL s args Ts own) (hM : Met l y ws rm (va_Pc (.ref b :: As) (pcR D tys w)) (vp_Si (fun r => r = o)) 0 0 (fun _ => False)) (cw : CallW R s args own C index y bytes maxL ret ws rm 0 0 n) (hK : va_K D vwCl tys s) (hN : NN s) (hP : va_P D vwCl W0 H) (is : List Nat) (his : is.filterMap (fun i => W0[i]?) = w) (ci : Nat) (hc : vwCl[ci]? = some q) (hq : q.1 = C) (he : w[0]? = some (b, .inr (ci, fs))) (hn : As.length = n) (hsz : ls.size = nL) (hst : st0 = As.reverse ++ .ref b :: rest) (hW : (rest.map fun v => v.category).sum ≤ 8) (hdg : decode cc pc = .ok (.invokevirtual index, 3)) (hf : cells ≤ R.cells ∧ slots ≤ R.slots)
    (kk : W p l e R s m args below meth c H locs cells slots Q (F0 m (pc + 3) ls (.int o :: rest))) : W p l e R s m args below meth c H locs cells slots Q (F0 m pc ls st0) := by
  subst hst
  have hPc := hP.sub is his
  refine vp_callSi (rest := rest) (a := (Value.ref b :: As).toArray) (W.runV (As := As) (rest := rest) S hM cw ⟨pcR_blind, ?_, fun U hU hW2 => ⟨rfl, by rw [hU]; exact hPc, va_K.moved hW2.alike hK, hN.warm hW2⟩⟩ rfl hn hsz rfl (lv_room hW) hdg hf) (fun r hr => ?_)
  · subst hq
    exact va_recv hK hPc hc he
  · rw [hr]; exact kk
theorem rS {o : Int32} (S : CallFix p m c cc nL s args Ts own) (hM : Met l y ws rm (va_Pc As (pcR D tys w)) (vp_Si (fun r => r = o)) 0 0 (fun _ => False)) (cw : CallB R s args own index y bytes maxL ret ws rm 0 0 n ∧ (Cond.static y).before args s = true) (hK : va_K D vwCl tys s) (hN : NN s) (hP : va_P D vwCl W0 H) (is : List Nat) (his : is.filterMap (fun i => W0[i]?) = w) (hn : As.length = n) (hsz : ls.size = nL) (hst : st0 = As.reverse ++ rest) (hW : (rest.map fun v => v.category).sum ≤ 8) (hdg : decode cc pc = .ok (.invokestatic index, 3)) (hf : cells ≤ R.cells ∧ slots ≤ R.slots)
    (kk : W p l e R s m args below meth c H locs cells slots Q (F0 m (pc + 3) ls (.int o :: rest))) : W p l e R s m args below meth c H locs cells slots Q (F0 m pc ls st0) := by
  subst hst
  have hPc := hP.sub is his
  refine vp_callSi (rest := rest) (a := As.toArray) (W.runS (As := As) (rest := rest) S hM cw ⟨pcR_blind, fun U hU hW2 => ⟨rfl, by rw [hU]; exact hPc, va_K.moved hW2.alike hK, hN.warm hW2⟩⟩ rfl hn hsz rfl (lv_room hW) hdg hf) (fun r hr => ?_)
  rw [hr]; exact kk
theorem rSN {o : Int32} {host : String} (S : CallFix p m c cc nL s args Ts own) (hM : Met l y ws rm (va_Pc As (pcR D tys w)) (vp_Si (fun r => r = o)) 0 0 (fun _ => False)) (cw : va_CN R s args own index y host bytes maxL ret ws rm 0 0 n ∧ (Cond.static y).before args s = true ∧ True) (hK : va_K D vwCl tys s) (hN : NN s) (hP : va_P D vwCl W0 H) (is : List Nat) (his : is.filterMap (fun i => W0[i]?) = w) (hn : As.length = n) (hsz : ls.size = nL) (hst : st0 = As.reverse ++ rest) (hW : (rest.map fun v => v.category).sum ≤ 8) (hdg : decode cc pc = .ok (.invokestatic index, 3)) (hf : cells ≤ R.cells ∧ slots ≤ R.slots)
    (kk : W p l e R s m args below meth c H locs cells slots Q (F0 m (pc + 3) ls (.int o :: rest))) : W p l e R s m args below meth c H locs cells slots Q (F0 m pc ls st0) := by
  subst hst
  have hPc := hP.sub is his
  refine vp_callSi (rest := rest) (a := As.toArray) (va_Run.run (va_runSN (As := As) (rest := rest) S hM cw ⟨pcR_blind, fun U hU hW2 => ⟨rfl, by rw [hU]; exact hPc, va_K.moved hW2.alike hK, hN.warm hW2⟩⟩ rfl hn hsz rfl (lv_room hW) hdg hf)) (fun r hr => ?_)
  rw [hr]; exact kk
/-- calls of methods that write: isC the callee's places, isR the others, perm the order behind -/
theorem wsort {wr wc : va_W} {w1 W1 : va_W} {H1 : Heap} (hP : va_P D vwCl W0 H) (hD : va_D A W0) (isC isR : List Nat) (hC : isC.map (fun i => W0[i]?) = wc.map some) (hR : isR.map (fun i => W0[i]?) = wr.map some) (hnd : va_nd isR = true) (hdis : ∀ i ∈ isR, i ∉ isC) (hk : ∀ q : Nat, q < H.size → ¬ va_A wc H.size q → H1[q]? = H[q]?) (hF : ∀ q, va_A wc H.size q → A q) (hP1 : va_P D vwCl w1 H1) (hD1 : va_D (va_A wc H.size) w1) (perm : List Nat) (hpn : va_nd perm = true) (hp : perm.map (fun i => (wr ++ w1)[i]?) = W1.map some) : va_P D vwCl W1 H1 ∧ va_D A W1 := by
  obtain ⟨a1, a2⟩ := va_join hP hD isC isR hC hR hnd hdis hk hF hP1 hD1
  exact ⟨a1.sub perm (fm_of hp), a2.sub perm hpn hp⟩
theorem wVi {σ : Type} {w1 W1 : σ → va_W} {o : Int32} {q : vw_C} {fs : List Value} (S : CallFix p m c cc nL s args Ts own) (hM : Met l y ws rm (va_Pc (.ref b :: As) (pcW D tys H.size w)) (va_Qi (fun r (_ : σ) => r = o) (fun u => poW D (va_A w H.size) (w1 u)) (va_A w H.size)) 0 0 (va_A w H.size)) (cw : CallW R s args own C index y bytes maxL ret ws rm 0 0 n) (hK : va_K D vwCl tys s) (hN : NN s) (hP : va_P D vwCl W0 H) (hD : va_D A W0) (hS : va_S A H0 H locs) (hA : ∀ q, H0.size ≤ q → A q) (isC isR perm : List Nat) (hC : isC.map (fun i => W0[i]?) = w.map some) (hR : isR.map (fun i => W0[i]?) = (isR.filterMap (fun i => W0[i]?)).map some) (hnd : (va_nd isC && va_nd isR && va_nd perm) = true) (hdis : ∀ i ∈ isR, i ∉ isC) (hp : ∀ u, perm.map (fun i => (isR.filterMap (fun i => W0[i]?) ++ w1 u)[i]?) = (W1 u).map some) (ci : Nat) (hc : vwCl[ci]? = some q) (hq : q.1 = C) (he : w[0]? = some (b, .inr (ci, fs))) (hn : As.length = n) (hsz : ls.size = nL) (hst : st0 = As.reverse ++ .ref b :: rest) (hW : (rest.map fun v => v.category).sum ≤ 8) (hdg : decode cc pc = .ok (.invokevirtual index, 3)) (hf : cells ≤ R.cells ∧ slots ≤ R.slots)
    (kk : ∀ (u : σ) (H1 : Heap) (locs1 : List Loc), va_P D vwCl (W1 u) H1 → va_D A (W1 u) → va_S A H0 H1 locs1 → W p l e R s m args below meth c H1 locs1 cells slots Q (F0 m (pc + 3) ls (.int o :: rest))) : W p l e R s m args below meth c H locs cells slots Q (F0 m pc ls st0) := by
  subst hst
  simp only [Bool.and_eq_true] at hnd
  have hPc := hP.sub isC (fm_of hC)
  have hDc := hD.sub isC hnd.1.1 hC
  have hFc := va_free hD hS hA isC hC
  refine va_calli (rest := rest) (a := (Value.ref b :: As).toArray) (va_runV (As := As) (rest := rest) S hM cw ⟨pcW_blind, ?_, fun U hU hW2 => ⟨rfl, by rw [hU], by rw [hU]; exact hPc, va_K.moved hW2.alike hK, hN.warm hW2, hDc.weaken (fun _ _ _ _ => trivial)⟩⟩ rfl hn hsz rfl (lv_room hW) hdg hf) hS (fun q _ h => hFc q h) hFc (fun r u t H1 locs1 ht hvm hw hB hz1 hk1 hS1 => ?_)
  · subst hq
    exact va_recv hK hPc hc he
  · obtain ⟨hP1, hD1⟩ := hB
    rw [ht] at hP1
    obtain ⟨a1, a2⟩ := wsort hP hD isC isR hC hR hnd.1.2 hdis hk1 hFc hP1 hD1 perm hnd.2 (hp u)
    rw [hw]
    exact kk u H1 locs1 a1 a2 hS1
theorem wVv {σ : Type} {w1 W1 : σ → va_W} {q : vw_C} {fs : List Value} (S : CallFix p m c cc nL s args Ts own) (hM : Met l y ws rm (va_Pc (.ref b :: As) (pcW D tys H.size w)) (va_Qv (fun (_ : σ) => True) (fun u => poW D (va_A w H.size) (w1 u)) (va_A w H.size)) 0 0 (va_A w H.size)) (cw : CallW R s args own C index y bytes maxL ret ws rm 0 0 n) (hK : va_K D vwCl tys s) (hN : NN s) (hP : va_P D vwCl W0 H) (hD : va_D A W0) (hS : va_S A H0 H locs) (hA : ∀ q, H0.size ≤ q → A q) (isC isR perm : List Nat) (hC : isC.map (fun i => W0[i]?) = w.map some) (hR : isR.map (fun i => W0[i]?) = (isR.filterMap (fun i => W0[i]?)).map some) (hnd : (va_nd isC && va_nd isR && va_nd perm) = true) (hdis : ∀ i ∈ isR, i ∉ isC) (hp : ∀ u, perm.map (fun i => (isR.filterMap (fun i => W0[i]?) ++ w1 u)[i]?) = (W1 u).map some) (ci : Nat) (hc : vwCl[ci]? = some q) (hq : q.1 = C) (he : w[0]? = some (b, .inr (ci, fs))) (hn : As.length = n) (hsz : ls.size = nL) (hst : st0 = As.reverse ++ .ref b :: rest) (hW : (rest.map fun v => v.category).sum ≤ 8) (hdg : decode cc pc = .ok (.invokevirtual index, 3)) (hf : cells ≤ R.cells ∧ slots ≤ R.slots)
    (kk : ∀ (u : σ) (H1 : Heap) (locs1 : List Loc), va_P D vwCl (W1 u) H1 → va_D A (W1 u) → va_S A H0 H1 locs1 → W p l e R s m args below meth c H1 locs1 cells slots Q (F0 m (pc + 3) ls rest)) : W p l e R s m args below meth c H locs cells slots Q (F0 m pc ls st0) := by
  subst hst
  simp only [Bool.and_eq_true] at hnd
  have hPc := hP.sub isC (fm_of hC)
  have hDc := hD.sub isC hnd.1.1 hC
  have hFc := va_free hD hS hA isC hC
  refine va_callv (rest := rest) (a := (Value.ref b :: As).toArray) (va_runV (As := As) (rest := rest) S hM cw ⟨pcW_blind, ?_, fun U hU hW2 => ⟨rfl, by rw [hU], by rw [hU]; exact hPc, va_K.moved hW2.alike hK, hN.warm hW2, hDc.weaken (fun _ _ _ _ => trivial)⟩⟩ rfl hn hsz rfl (lv_room hW) hdg hf) hS (fun q _ h => hFc q h) hFc (fun u t H1 locs1 ht hvm hw hB hz1 hk1 hS1 => ?_)
  · subst hq
    exact va_recv hK hPc hc he
  · obtain ⟨hP1, hD1⟩ := hB
    rw [ht] at hP1
    obtain ⟨a1, a2⟩ := wsort hP hD isC isR hC hR hnd.1.2 hdis hk1 hFc hP1 hD1 perm hnd.2 (hp u)
    exact kk u H1 locs1 a1 a2 hS1
theorem wSv {σ : Type} {w1 W1 : σ → va_W} (S : CallFix p m c cc nL s args Ts own) (hM : Met l y ws rm (va_Pc As (pcW D tys H.size w)) (va_Qv (fun (_ : σ) => True) (fun u => poW D (va_A w H.size) (w1 u)) (va_A w H.size)) 0 0 (va_A w H.size)) (cw : CallB R s args own index y bytes maxL ret ws rm 0 0 n ∧ (Cond.static y).before args s = true) (hK : va_K D vwCl tys s) (hN : NN s) (hP : va_P D vwCl W0 H) (hD : va_D A W0) (hS : va_S A H0 H locs) (hA : ∀ q, H0.size ≤ q → A q) (isC isR perm : List Nat) (hC : isC.map (fun i => W0[i]?) = w.map some) (hR : isR.map (fun i => W0[i]?) = (isR.filterMap (fun i => W0[i]?)).map some) (hnd : (va_nd isC && va_nd isR && va_nd perm) = true) (hdis : ∀ i ∈ isR, i ∉ isC) (hp : ∀ u, perm.map (fun i => (isR.filterMap (fun i => W0[i]?) ++ w1 u)[i]?) = (W1 u).map some) (hn : As.length = n) (hsz : ls.size = nL) (hst : st0 = As.reverse ++ rest) (hW : (rest.map fun v => v.category).sum ≤ 8) (hdg : decode cc pc = .ok (.invokestatic index, 3)) (hf : cells ≤ R.cells ∧ slots ≤ R.slots)
    (kk : ∀ (u : σ) (H1 : Heap) (locs1 : List Loc), va_P D vwCl (W1 u) H1 → va_D A (W1 u) → va_S A H0 H1 locs1 → W p l e R s m args below meth c H1 locs1 cells slots Q (F0 m (pc + 3) ls rest)) : W p l e R s m args below meth c H locs cells slots Q (F0 m pc ls st0) := by
  subst hst
  simp only [Bool.and_eq_true] at hnd
  have hPc := hP.sub isC (fm_of hC)
  have hDc := hD.sub isC hnd.1.1 hC
  have hFc := va_free hD hS hA isC hC
  refine va_callv (rest := rest) (a := As.toArray) (va_runS (As := As) (rest := rest) S hM cw ⟨pcW_blind, fun U hU hW2 => ⟨rfl, by rw [hU], by rw [hU]; exact hPc, va_K.moved hW2.alike hK, hN.warm hW2, hDc.weaken (fun _ _ _ _ => trivial)⟩⟩ rfl hn hsz rfl (lv_room hW) hdg hf) hS (fun q _ h => hFc q h) hFc (fun u t H1 locs1 ht hvm hw hB hz1 hk1 hS1 => ?_)
  obtain ⟨hP1, hD1⟩ := hB
  rw [ht] at hP1
  obtain ⟨a1, a2⟩ := wsort hP hD isC isR hC hR hnd.1.2 hdis hk1 hFc hP1 hD1 perm hnd.2 (hp u)
  exact kk u H1 locs1 a1 a2 hS1
theorem jirem (hexec : p.tables.exec = Jvm.exec) (hb : c.code = cc) {x y : Int32} (hdg : decode cc pc = .ok (.irem, 1)) (hne : ¬ y = 0)
    (k : W p l e R s m args below meth c H locs cells slots Q (F0 m (pc + 1) ls (.int (jrem x y) :: rest))) : W p l e R s m args below meth c H locs cells slots Q (F0 m pc ls (.int y :: .int x :: rest)) := lv_irem hexec hb hdg hne k
theorem mmax {ix : Nat} (hexec : p.tables.exec = Jvm.exec) (hb : c.code = cc) (hml : c.maxLocals = nL) (hls : ls.size = nL) (hown : s.vm.findClass own = some m.cls) (hlink : (Cond.methodLink own ix Lib.Math.max.name).before args s = true) (hstat : (Cond.static Lib.Math.max.name).before args s = true) (hini : (Cond.initialized "java/lang/Math").before args s = true) (hcode : (Cond.code Lib.Math.max.name Lib.Math.max.code 2 (some .int)).before args s = true) (hframes : 1 ≤ R.frames) (hlocals : (rest.map fun v => v.category).sum + 13 ≤ R.locals) (hf : cells ≤ R.cells ∧ slots ≤ R.slots) {x y : Int32} (hdg : decode cc pc = .ok (.invokestatic ix, 3))
    (k : W p l e R s m args below meth c H locs cells slots Q (F0 m (pc + 3) ls (.int (jmax x y) :: rest))) : W p l e R s m args below meth c H locs cells slots Q (F0 m pc ls (.int y :: .int x :: rest)) := va_mmax hexec hb (hml.trans hls.symm) hown hlink hstat hini hcode hframes hlocals hf.1 hf.2 hdg k
theorem mmin {ix : Nat} (hexec : p.tables.exec = Jvm.exec) (hb : c.code = cc) (hml : c.maxLocals = nL) (hls : ls.size = nL) (hown : s.vm.findClass own = some m.cls) (hlink : (Cond.methodLink own ix Lib.Math.min.name).before args s = true) (hstat : (Cond.static Lib.Math.min.name).before args s = true) (hini : (Cond.initialized "java/lang/Math").before args s = true) (hcode : (Cond.code Lib.Math.min.name Lib.Math.min.code 2 (some .int)).before args s = true) (hframes : 1 ≤ R.frames) (hlocals : (rest.map fun v => v.category).sum + 13 ≤ R.locals) (hf : cells ≤ R.cells ∧ slots ≤ R.slots) {x y : Int32} (hdg : decode cc pc = .ok (.invokestatic ix, 3))
    (k : W p l e R s m args below meth c H locs cells slots Q (F0 m (pc + 3) ls (.int (jmin x y) :: rest))) : W p l e R s m args below meth c H locs cells slots Q (F0 m pc ls (.int y :: .int x :: rest)) := va_mmin hexec hb (hml.trans hls.symm) hown hlink hstat hini hcode hframes hlocals hf.1 hf.2 hdg k
theorem mabs {ix : Nat} (hexec : p.tables.exec = Jvm.exec) (hb : c.code = cc) (hml : c.maxLocals = nL) (hls : ls.size = nL) (hown : s.vm.findClass own = some m.cls) (hlink : (Cond.methodLink own ix Lib.Math.abs.name).before args s = true) (hstat : (Cond.static Lib.Math.abs.name).before args s = true) (hini : (Cond.initialized "java/lang/Math").before args s = true) (hcode : (Cond.code Lib.Math.abs.name Lib.Math.abs.code 1 (some .int)).before args s = true) (hframes : 1 ≤ R.frames) (hlocals : (rest.map fun v => v.category).sum + 13 ≤ R.locals) (hf : cells ≤ R.cells ∧ slots ≤ R.slots) {x : Int32} (hdg : decode cc pc = .ok (.invokestatic ix, 3))
    (k : W p l e R s m args below meth c H locs cells slots Q (F0 m (pc + 3) ls (.int (jabs x) :: rest))) : W p l e R s m args below meth c H locs cells slots Q (F0 m pc ls (.int x :: rest)) := va_mabs hexec hb (hml.trans hls.symm) hown hlink hstat hini hcode hframes hlocals hf.1 hf.2 hdg k
/-- a row of ints copied whole onto another of its length -/
theorem wcpy {cl : List vw_C} {p0 : Nat} {ws : va_W} {a : Nat} {cA : ClassId} {n : Nat} {f g : Nat → Int32} (h : va_P D cl (ws.set p0 (a, .inl (cA, n, .inl f))) H) (hfg : ∀ j, j < n → f j = g j) : va_P D cl (ws.set p0 (a, .inl (cA, n, .inl g))) H := by
  have e : vp_cell cA (n, .inl f) = vp_cell cA (n, .inl g) := by
    rw [vp_cell_i, vp_cell_i]
    unfold arrV
    have e2 : (fun j : Fin n => Value.int (f j.val)) = fun j : Fin n => Value.int (g j.val) := funext fun j => by rw [hfg j.val j.isLt]
    rw [e2]
  intro k q hk
  by_cases hkp : p0 = k
  · subst hkp
    have hl : p0 < ws.length := by
      have := (List.getElem?_eq_some_iff.mp hk).1
      simpa using this
    rw [List.getElem?_set_self hl] at hk
    cases hk
    have h2 : va_at D cl (a, .inl (cA, n, .inl f)) H := h p0 _ (List.getElem?_set_self hl)
    show H[a]? = some (vp_cell cA (n, .inl g))
    rw [← e]
    exact h2
  · rw [List.getElem?_set_ne hkp] at hk
    exact h k q (by rw [List.getElem?_set_ne hkp]; exact hk)
theorem mcopy {cl : List vw_C} {ix : Nat} {ws : va_W} {a : Nat} (hexec : p.tables.exec = Jvm.exec) (hb : c.code = cc) (hml : c.maxLocals = nL) (hls : ls.size = nL) (hown : s.vm.findClass own = some m.cls) (hlink : (Cond.methodLink own ix arraycopyName).before args s = true) (hnat : (Cond.native arraycopyName).before args s = true) (hstat : (Cond.static arraycopyName).before args s = true) (hini : (Cond.initialized "java/lang/System").before args s = true)
    (hK : va_K D cl tys s) (hP : va_P D cl ws H) (hD : va_D A ws) (hS : va_S A H0 H locs) (q0 q1 t0 : Nat) {a0 : Nat} {c0 : ClassId} {N : Nat} {f g : Nat → Int32} (ha0 : ws[q0]? = some (a0, .inl (c0, N, .inl f))) (ha1 : ws[q1]? = some (a, .inl (c0, N, .inl g))) (ht0 : tys[t0]? = some (c0, .int)) {v : Int32} (hv : ¬ v < 0) (hN : v.toNatClampNeg = N)
    (hframes : 1 ≤ R.frames) (hlocals : (rest.map fun v => v.category).sum + 18 ≤ R.locals) (hdg : decode cc pc = .ok (.invokestatic ix, 3))
    (kk : ∀ (H1 : Heap) (locs1 : List Loc), va_P D cl (ws.set q1 (a, .inl (c0, N, .inl f))) H1 → va_D A (ws.set q1 (a, .inl (c0, N, .inl f))) → va_S A H0 H1 locs1 → W p l e R s m args below meth c H1 locs1 cells slots Q (F0 m (pc + 3) ls rest)) : W p l e R s m args below meth c H locs cells slots Q (F0 m pc ls (.int v :: .int 0 :: .ref a :: .int 0 :: .ref a0 :: rest)) := by
  refine va_copyi (ty := .int) hexec hb (hml.trans hls.symm) hown hlink hnat hstat hini hK hP hD hS q0 q1 t0 t0 ha0 ha1 ht0 ht0 rfl (by decide) (by decide) hv (by rw [hN]; show 0 + N ≤ N; omega) (by rw [hN]; show 0 + N ≤ N; omega) (fun i _ => rfl) hframes hlocals hdg (fun H1 locs1 hP1 hD1 hS1 => ?_)
  refine kk H1 locs1 (wcpy hP1 (fun j hj => ?_)) (hD.set ha1) hS1
  rw [hN]
  show va_cpy f g 0 0 N j = f j
  rw [pk_cpy_in (Nat.zero_le _) (by omega)]
  congr 1
  omega
end MYC
