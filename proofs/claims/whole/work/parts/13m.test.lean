theorem tst1 (S : DS) (g : Nat → Nat) (O a : Nat) (x : Int32) (m : Nat → Int32) (hinj : ∀ i j, i < O → j < O → g i = g j → i = j) (h : ∀ o, o < O → dI S 603 (g o) = m o) (o0 : Nat) (ho : o0 < O) : ∀ o, o < O → dI (sI S 603 (g o0) x) 603 (g o) = upd m o0 x o := by
  intro o h1
  simp only [sI, fset, upd, dI]
  grind
theorem tst2 (S : DS) (g : Nat → Nat) (O a : Nat) (x : Int32) (m : Nat → Int32) (h : ∀ o, o < O → dI S 603 (g o) = m o) : ∀ o, o < O → dI (sI (sI S 701 a x) 604 a x) 603 (g o) = m o := by
  intro o h1
  simp only [sI, fset, upd, dI, Nat.reduceEqDiff, reduceIte]
  exact h o h1
