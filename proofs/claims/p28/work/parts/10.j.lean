theorem nb_31 {c d : Nat} (hc : c < 121) (hd : d < 4) : ∀ k, nb c d = some k → k < 2147483648 := fun k e => by have := nb_lt c hc d hd k e; omega
theorem at_31 {M : GM} (w : WF M) {c : Nat} : ∀ k, at_ M c = some k → k < 2147483648 := fun k e => by
  have := at_lt e
  have := w.n1
  omega
theorem fgb_31 {M : GM} (w : WF M) {c : Nat} : ∀ k, fgb M c = some k → k < 2147483648 := fun k e => by
  have := fgb_lt e
  have := w.n1
  omega
def fin4 : (Nat × Nat × Nat × Nat) ⊕ (Nat × Nat × Nat × Nat × Option Nat) → Nat × Nat × Nat × Nat
  | .inl y => y
  | .inr z => (z.1, z.2.1, z.2.2.1, z.2.2.2.1)
def goS : (Nat × Nat × Nat × Nat) ⊕ (Nat × Nat × Nat × Nat × Option Nat) → Int32
  | .inl _ => 1
  | .inr _ => 0
def stS : (Nat × Nat × Nat × Nat) ⊕ (Nat × Nat × Nat × Nat × Option Nat) → Int32
  | .inl _ => 0
  | .inr z => if z.2.2.2.2.isSome then 1 else 0
