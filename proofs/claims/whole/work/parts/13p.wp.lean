/-! runs forward -/
def RD {α : Type} (q : Option (α × DS × Nat × Nat)) (P : α → DS → Nat → Nat → Prop) : Prop := ∃ r S C Z, q = some (r, S, C, Z) ∧ P r S C Z
def RM {α : Type} (q : Option (α × MS)) (P : α → MS → Prop) : Prop := ∃ r M, q = some (r, M) ∧ P r M
def RV (q : Option MS) (P : MS → Prop) : Prop := ∃ M, q = some M ∧ P M
theorem w_chk {α : Type} {P : α → DS → Nat → Nat → Prop} {c : Prop} [Decidable c] {x : Option (α × DS × Nat × Nat)} (h : c) (k : RD x P) : RD (chk c x) P := by
  rw [chk_i h]; exact k
theorem w_lt {α β : Type} {P : α → DS → Nat → Nat → Prop} {a : β} {f : β → Option (α × DS × Nat × Nat)} (k : RD (f a) P) : RD (lt9 a f) P := k
theorem w_bnd {α β : Type} {P : α → DS → Nat → Nat → Prop} {a : Option β} {b : β} {f : β → Option (α × DS × Nat × Nat)} (h : a = some b) (k : RD (f b) P) : RD (bnd a f) P := by
  rw [h]; exact k
theorem w_some {α : Type} {P : α → DS → Nat → Nat → Prop} {r : α} {S : DS} {C Z : Nat} (k : P r S C Z) : RD (some (r, S, C, Z)) P := ⟨r, S, C, Z, rfl, k⟩
theorem w_tick {α : Type} {P : α → DS → Nat → Nat → Prop} {c z : Nat} {x : Option (α × DS × Nat × Nat)} (k : RD x (fun r S C Z => P r S (c + C) (z + Z))) : RD (tick c z x) P := by
  obtain ⟨r, S, C, Z, e, h⟩ := k
  rw [e]; exact ⟨r, S, _, _, rfl, h⟩
theorem w_bndc {α β : Type} {P : α → DS → Nat → Nat → Prop} {x : Option (β × DS × Nat × Nat)} {f : β → DS → Option (α × DS × Nat × Nat)} (k : RD x (fun r S C Z => RD (f r S) (fun r' S' C' Z' => P r' S' (C + C') (Z + Z')))) : RD (bndc x f) P := by
  obtain ⟨r, S, C, Z, e, h⟩ := k
  rw [e]; exact w_tick h
theorem w_bk {α β : Type} {P : α → DS → Nat → Nat → Prop} {x : Option (β × DS × Nat × Nat)} {f : β → DS → Option (α × DS × Nat × Nat)} {r : β} {S : DS} {C Z : Nat} (e : x = some (r, S, C, Z)) (k : RD (f r S) (fun r' S' C' Z' => P r' S' (C + C') (Z + Z'))) : RD (bndc x f) P := by
  rw [e]; exact w_tick k
theorem w_bx {α β : Type} {P : (Nat × α) → DS → Nat → Nat → Prop} {d : α} {x : Option ((Nat × β) × DS × Nat × Nat)} {f : β → DS → Option ((Nat × α) × DS × Nat × Nat)} {r : β} {S : DS} {C Z : Nat} (e : x = some ((0, r), S, C, Z)) (k : RD (f r S) (fun r' S' C' Z' => P r' S' (C + C') (Z + Z'))) : RD (bndx d x f) P := by
  rw [e]; exact w_tick k
theorem w_bt {α β : Type} {P : (Nat × α) → DS → Nat → Nat → Prop} {d : α} {x : Option ((Nat × β) × DS × Nat × Nat)} {f : β → DS → Option ((Nat × α) × DS × Nat × Nat)} {r : β} {S : DS} {C Z k : Nat} (e : x = some ((k, r), S, C, Z)) (hk : k ≠ 0) (h : P (k, d) S C Z) : RD (bndx d x f) P := by
  rw [e]; exact ⟨(k, d), S, C, Z, if_neg hk, h⟩
theorem w_ip {α : Type} {P : α → DS → Nat → Nat → Prop} {c : Prop} [Decidable c] {x y : Option (α × DS × Nat × Nat)} (h : c) (k : RD x P) : RD (if c then x else y) P := by
  rw [if_pos h]; exact k
theorem w_in {α : Type} {P : α → DS → Nat → Nat → Prop} {c : Prop} [Decidable c] {x y : Option (α × DS × Nat × Nat)} (h : ¬ c) (k : RD y P) : RD (if c then x else y) P := by
  rw [if_neg h]; exact k
theorem w_mono {α : Type} {P Q : α → DS → Nat → Nat → Prop} {x : Option (α × DS × Nat × Nat)} (k : RD x P) (h : ∀ r S C Z, P r S C Z → Q r S C Z) : RD x Q := by
  obtain ⟨r, S, C, Z, e, p⟩ := k
  exact ⟨r, S, C, Z, e, h _ _ _ _ p⟩
theorem m_chk {α : Type} {P : α → MS → Prop} {c : Prop} [Decidable c] {x : Option (α × MS)} (h : c) (k : RM x P) : RM (chk c x) P := by
  rw [chk_i h]; exact k
theorem m_lt {α β : Type} {P : α → MS → Prop} {a : β} {f : β → Option (α × MS)} (k : RM (f a) P) : RM (lt9 a f) P := k
theorem m_some {α : Type} {P : α → MS → Prop} {r : α} {M : MS} (k : P r M) : RM (some (r, M)) P := ⟨r, M, rfl, k⟩
theorem m_b2 {α β : Type} {P : α → MS → Prop} {x : Option (β × MS)} {f : β → MS → Option (α × MS)} {r : β} {M : MS} (e : x = some (r, M)) (k : RM (f r M) P) : RM (bnd2 x f) P := by
  rw [e]; exact k
theorem m_b1 {α : Type} {P : α → MS → Prop} {x : Option MS} {f : MS → Option (α × MS)} {M : MS} (e : x = some M) (k : RM (f M) P) : RM (bnd x f) P := by
  rw [e]; exact k
theorem m_ip {α : Type} {P : α → MS → Prop} {c : Prop} [Decidable c] {x y : Option (α × MS)} (h : c) (k : RM x P) : RM (if c then x else y) P := by
  rw [if_pos h]; exact k
theorem m_in {α : Type} {P : α → MS → Prop} {c : Prop} [Decidable c] {x y : Option (α × MS)} (h : ¬ c) (k : RM y P) : RM (if c then x else y) P := by
  rw [if_neg h]; exact k
theorem v_chk {P : MS → Prop} {c : Prop} [Decidable c] {x : Option MS} (h : c) (k : RV x P) : RV (chk c x) P := by
  rw [chk_i h]; exact k
theorem v_lt {β : Type} {P : MS → Prop} {a : β} {f : β → Option MS} (k : RV (f a) P) : RV (lt9 a f) P := k
theorem v_some {P : MS → Prop} {M : MS} (k : P M) : RV (some M) P := ⟨M, rfl, k⟩
theorem v_b2 {β : Type} {P : MS → Prop} {x : Option (β × MS)} {f : β → MS → Option MS} {r : β} {M : MS} (e : x = some (r, M)) (k : RV (f r M) P) : RV (bnd2 x f) P := by
  rw [e]; exact k
theorem v_b1 {P : MS → Prop} {x : Option MS} {f : MS → Option MS} {M : MS} (e : x = some M) (k : RV (f M) P) : RV (bnd x f) P := by
  rw [e]; exact k
theorem v_ip {P : MS → Prop} {c : Prop} [Decidable c] {x y : Option MS} (h : c) (k : RV x P) : RV (if c then x else y) P := by
  rw [if_pos h]; exact k
theorem v_in {P : MS → Prop} {c : Prop} [Decidable c] {x y : Option MS} (h : ¬ c) (k : RV y P) : RV (if c then x else y) P := by
  rw [if_neg h]; exact k
theorem bnd2_s {α β γ : Type} {r : α} {y : β} {f : α → β → Option γ} : bnd2 (some (r, y)) f = f r y := rfl
theorem bnd_s {α β : Type} {y : α} {f : α → Option β} : bnd (some y) f = f y := rfl
theorem lt9_s {α β : Type} {y : α} {f : α → β} : lt9 y f = f y := rfl
