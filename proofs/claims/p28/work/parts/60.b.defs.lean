/-- p28: predicates that say what a run does: step by step, with what is to hold at the end -/
def bd {α : Type} (x : α) (f : α → Prop) : Prop := f x
theorem bdE {α : Type} {x : α} {f : α → Prop} (h : bd x f) : ∃ o, o = x ∧ f o := ⟨x, rfl, h⟩
def lpP {σ ω : Type} (step : σ → (σ → Prop) → (ω → Prop) → Prop) : Nat → σ → (ω → Prop) → Prop
  | 0, _, _ => False
  | n + 1, s, K => step s (fun s' => lpP step n s' K) K
theorem pt {c : Prop} [Decidable c] {x y : Prop} (hc : c) (h : if c then x else y) : x := by rw [if_pos hc] at h; exact h
theorem pe {c : Prop} [Decidable c] {x y : Prop} (hc : ¬ c) (h : if c then x else y) : y := by rw [if_neg hc] at h; exact h
def lwA28 (v n : Int32) : Int32 := jrem (v &&& 2147483647) n
def sctA (L : Nat) (xs : Nat → Int32) (k : Int32) : Int32 := if Int32.ofNat L ≤ k then (-1310661267) * (k + 4373) + 4133 else xs k.toNatClampNeg
def dnsA (a : AS) : UInt64 := FP.ddiv (FP.i2d (nI (mN a.1))) (FP.i2d (nI ((2 * reachM a.1 + 1) * (2 * reachM a.1 + 1))))
/-- the object's world, by blocks -/
def WB (cI cZ cC cO : ClassId) (Q : Nat → Nat → Nat) (u : QH) (V : GV) : List va_W := [wX7 cI cZ cC (Q 0) (Q 1) (Q 2) (Q 3) (Q 4) (Q 5) (Q 6) (Q 7) (Q 8) (Q 9) V.1, wX4 cI cZ cC (Q 1) V.2.1, wX4 cI cZ cC (Q 2) V.2.2.1, wX4 cI cZ cC (Q 3) V.2.2.2.1, wH cI cZ cC cO (Q 4) u V.2.2.2.2.1, wX6 cI cZ cC (Q 5) V.2.2.2.2.2.1, wX0 cI cZ cC (Q 6) V.2.2.2.2.2.2.1, wX5 cI cZ cC (Q 7) V.2.2.2.2.2.2.2.1, wX3 cI cZ cC (Q 8) V.2.2.2.2.2.2.2.2.1, wX1 cI cZ cC (Q 9) V.2.2.2.2.2.2.2.2.2]
