/-! ===== the constructor's rows, by blocks ===== -/
theorem flA (Bs : List va_W) (Y : va_W) : Bs.flatten ++ Y = (Bs ++ [Y]).flatten := by simp
theorem flW (b0 b1 b2 b3 : va_W) (x : Nat × va_E) (a b c d e f g h i : va_W) : [b0, b1, b2, b3, [x], a, b, c, d, e, f, g, h, i].flatten = b0 ++ b1 ++ b2 ++ b3 ++ (x :: (a ++ b ++ c ++ d)) ++ e ++ f ++ g ++ h ++ i := by simp
section MYI
variable {p : Program} {l : Launch} {e : Env} {R : Room} {s : State} {m : MethodId} {args : Array Value} {below : List Frame} {meth : Method} {c : Code} {H : Heap} {locs : List Loc} {cells slots : Nat} {Q : State → Prop}
variable {cc bytes : ByteArray} {maxL nL n index pc : Nat} {own C : String} {y : MethodName} {ret : Option FieldType} {ws : List Cond} {rm : Room} {Ts : List Cond} {b : Addr} {As rest st0 : List Value} {ls : Array Slot} {D : va_G} {tys : List (ClassId × FieldType)} {w W0 : va_W} {A : Nat → Prop} {H0 : Heap}
theorem iNvB {σ : Type} {post : σ → Prop} {w1 : σ → va_W} {Bs Cs Rs : List va_W} {N1 : σ → List va_W} {host : String} {mc ms : Nat} (S : CallFix p m c cc nL s args Ts own) (hM : Met l y ws rm (va_Pc [.ref b] (pcW D tys H.size w)) (va_Qv post (fun u => poW D (va_A w H.size) (w1 u)) (va_A w H.size)) mc ms (va_A w H.size)) (cw : va_CN R s args own index y host bytes maxL none ws rm mc ms 0 ∧ y.name = "<init>" ∧ (Cond.instanceMethod y).before args s = true) (hK : va_K D vwCl tys s) (hN : NN s) (hP : va_P D vwCl Bs.flatten H) (hD : va_D A Bs.flatten) (hS : va_S A H0 H locs) (hA : ∀ q, H0.size ≤ q → A q) (isC isR : List Nat) (hC : isC.map (fun i => Bs[i]?) = Cs.map some) (hR : isR.map (fun i => Bs[i]?) = Rs.map some) (hwC : w = Cs.flatten) (hw1 : ∀ u, w1 u = (N1 u).flatten) (hnd : (va_nd isC && va_nd isR) = true) (hdis : ∀ i ∈ isR, i ∉ isC) (hsz : ls.size = nL) (hst : st0 = .ref b :: rest) (hW : (rest.map fun v => v.category).sum ≤ 8) (hdg : decode cc pc = .ok (.invokespecial index, 3)) (hf : cells + mc ≤ R.cells ∧ slots + ms ≤ R.slots)
    (kk : ∀ (u : σ), post u → ∀ (H1 : Heap) (locs1 : List Loc), va_P D vwCl (Rs ++ N1 u).flatten H1 → va_D A (Rs ++ N1 u).flatten → va_S A H0 H1 locs1 → W p l e R s m args below meth c H1 locs1 (cells + mc) (slots + ms) Q (F0 m (pc + 3) ls rest)) : W p l e R s m args below meth c H locs cells slots Q (F0 m pc ls st0) := by
  subst hst
  simp only [Bool.and_eq_true] at hnd
  have hPc : va_P D vwCl w H := by rw [hwC]; exact psel hP isC hC
  have hDc : va_D A w := by rw [hwC]; exact bD_to (bsel (bD_of hD) isC hnd.1 hC)
  have hFc : ∀ q, va_A w H.size q → A q := fun q h => by
    rcases h with ⟨k, e, h⟩ | h
    · exact dM hDc (List.mem_of_getElem? h)
    · exact hA q (Nat.le_trans hS.1 h)
  refine va_callv (rest := rest) (a := (Value.ref b :: []).toArray) (va_runIN (As := []) (rest := rest) S hM cw ⟨pcW_blind, fun U hU hW2 => ⟨rfl, by rw [hU], by rw [hU]; exact hPc, va_K.moved hW2.alike hK, hN.warm hW2, hDc.weaken (fun _ _ _ _ => trivial)⟩⟩ rfl rfl hsz rfl (lv_room hW) hdg hf) hS (fun q _ h => hFc q h) hFc (fun u t H1 locs1 ht hvm hw hB hz1 hk1 hS1 => ?_)
  obtain ⟨hP1, hD1⟩ := hB
  rw [ht] at hP1
  rw [hw1 u] at hP1 hD1
  rw [hwC] at hD1 hk1 hFc
  obtain ⟨a1, a2⟩ := bjoin hP hD isC isR hC hR hnd.2 hdis hk1 hFc hP1 hD1
  exact kk u hw H1 locs1 a1 a2 hS1
end MYI
