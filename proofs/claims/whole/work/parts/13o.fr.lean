/-- the fields that settling and waiting write -/
def fx (f : Nat) : Bool := decide (f ≤ 2) || decide (603 ≤ f ∧ f ≤ 605) || decide (607 ≤ f ∧ f ≤ 608) || decide (f = 701) || decide (405 ≤ f ∧ f ≤ 407) || decide (1106 ≤ f ∧ f ≤ 1108)
def FD (S S' : DS) : Prop := dn S ≤ dn S' ∧ ∀ a, dK S a ≠ 0 → dK S' a = dK S a ∧ dL S' a = dL S a ∧ dX S' a = dX S a ∧ ∀ f, fx f = false → dI S' f a = dI S f a ∧ dP S' f a = dP S f a
def GE (g g' : GH) : Prop := g 9 1 ≤ g' 9 1 ∧ g 9 15 ≤ g' 9 15 ∧ g 9 22 ≤ g' 9 22 ∧ g 9 30 ≤ g' 9 30 ∧ g' 9 29 = g 9 29 ∧ g' 9 33 = g 9 33 ∧ g' 9 36 = g 9 36 ∧ g' 9 38 = g 9 38 ∧ g' 9 42 = g 9 42 ∧ g' 9 50 = g 9 50 ∧ (∀ o, o < g 9 1 → g' 0 o = g 0 o) ∧ (∀ r, r < g 9 15 → g' 1 r = g 1 r) ∧ g' 2 = g 2 ∧ (∀ k, k < g 9 22 → g' 3 k = g 3 k) ∧ g' 4 = g 4 ∧ g' 5 = g 5 ∧ g' 8 = g 8 ∧ g' 10 = g 10 ∧ g' 11 = g 11 ∧ g' 15 = g 15 ∧ g' 16 = g 16 ∧ ∀ i, i ≠ 4 → g' 14 i = g 14 i
def FM (g : GH) (M M' : MS) : Prop := (∀ k, 31 ≤ k → M' k = M k) ∧ (∀ o, o < g 9 1 → M' 2 o = M 2 o ∧ M' 6 o = M 6 o ∧ M' 8 o = M 8 o ∧ M' 9 o = M 9 o ∧ M' 10 o = M 10 o ∧ M' 11 o = M 11 o ∧ M' 12 o = M 12 o) ∧ (∀ r, r < g 9 15 → M' 13 r = M 13 r) ∧ (∀ k, k < g 9 22 → M' 17 k = M 17 k ∧ M' 18 k = M 18 k ∧ M' 19 k = M 19 k ∧ M' 20 k = M 20 k ∧ M' 21 k = M 21 k) ∧ (∀ j, j < g 9 30 → M' 25 j = M 25 j) ∧ M' 0 = M 0
def CF (g : GH) (S : DS) (M : MS) (g' : GH) (S' : DS) (M' : MS) : Prop := FD S S' ∧ GE g g' ∧ FM g M M' ∧ ∀ a, dK S a ≠ 0 → dK S a ≠ 8 → g' 12 a = g 12 a
theorem CF_refl (g : GH) (S : DS) (M : MS) : CF g S M g S M := by
  unfold CF FD GE FM; simp
theorem CF_trans {g g1 g2 : GH} {S S1 S2 : DS} {M M1 M2 : MS} (h1 : CF g S M g1 S1 M1) (h2 : CF g1 S1 M1 g2 S2 M2) : CF g S M g2 S2 M2 := by
  unfold CF FD GE FM at *
  obtain ⟨⟨a1, a2⟩, b, c, e⟩ := h1
  obtain ⟨⟨p1, p2⟩, q, r, s⟩ := h2
  refine ⟨⟨by omega, ?_⟩, ?_, ?_, ?_⟩
  · intro a ha
    have h3 := a2 a ha
    have h4 := p2 a (by rw [h3.1]; exact ha)
    grind
  · clear a2 p2 e s c r; grind
  · have o1 := b.1
    have o2 := b.2.1
    have o3 := b.2.2.1
    have o4 := b.2.2.2.1
    clear a2 p2 e s b q
    refine ⟨fun k hk => (r.1 k hk).trans (c.1 k hk), fun o ho => ?_, fun k hk => ?_, fun k hk => ?_, fun j hj => (r.2.2.2.2.1 j (by omega)).trans (c.2.2.2.2.1 j hj), r.2.2.2.2.2.trans c.2.2.2.2.2⟩
    · have x1 := c.2.1 o ho
      have x2 := r.2.1 o (by omega)
      grind
    · exact (r.2.2.1 k (by omega)).trans (c.2.2.1 k hk)
    · have x1 := c.2.2.2.1 k hk
      have x2 := r.2.2.2.1 k (by omega)
      grind
  · intro a ha h8
    have h3 := a2 a ha
    have h4 := s a (by rw [h3.1]; exact ha) (by rw [h3.1]; exact h8)
    rw [h4, e a ha h8]
section CFS
variable {g g' : GH} {S S' : DS} {M M' : MS} {d : Nat}
theorem log_cf (h : A_log d g S M) (hd : dK S d ≠ 0) (c : CF g S M g' S' M') : A_log d g' S' M' := by
  unfold A_log at *
  obtain ⟨⟨-, hF⟩, hG, hM, h12⟩ := c
  obtain ⟨h1, h2, h3, h4, h5, h6, h7, h8⟩ := h
  unfold GE at hG
  have e7 : g' 14 7 = g 14 7 := by grind
  have e36 : g' 9 36 = g 9 36 := by grind
  have hp := hF _ hd
  have hq := hF (g 14 7) (by rw [h2]; decide)
  rw [e7, e36, (hp.2.2.2 1104 rfl).2, (hp.2.2.2 1105 rfl).1, hq.1, hq.2.1, hq.2.2.1, h12 _ (by rw [h2]; decide) (by rw [h2]; decide), hM.1 34 (by omega), hM.1 35 (by omega)]
  exact ⟨h1, h2, h3, h4, h5, h6, h7, h8⟩
theorem itm_cf (h : A_itm d g S M) (hd : dK S d ≠ 0) (c : CF g S M g' S' M') : A_itm d g' S' M' := by
  unfold A_itm at *
  obtain ⟨⟨-, hF⟩, hG, hM, h12⟩ := c
  obtain ⟨h1, h2, h3, h4, h5, h6⟩ := h
  unfold GE at hG
  have e7 : g' 14 6 = g 14 6 := by grind
  have e38 : g' 9 38 = g 9 38 := by grind
  have hp := hF _ hd
  have hq := hF (g 14 6) (by rw [h2]; decide)
  rw [e7, e38, (hp.2.2.2 1102 rfl).2, (hp.2.2.2 1103 rfl).1, hq.1, hq.2.1, hq.2.2.1, h12 _ (by rw [h2]; decide) (by rw [h2]; decide), hM.1 37 (by omega)]
  exact ⟨h1, h2, h3, h4, h5, fun i hi => ⟨(h6 i hi).1, fun o h1 h2 => (h6 i hi).2 o (by omega) h2⟩⟩
theorem kp_cf {x : Option Nat} {m : Int32} (h : kp g x m) (c : GE g g') : kp g' x m := by
  unfold kp GE at *; grind
theorem H_cf (h : A_H g S M) (c : CF g S M g' S' M') : A_H g' S' M' := by
  unfold A_H at *
  obtain ⟨⟨-, hF⟩, hG, hM, h12⟩ := c
  intro i hi
  have e2 : g' 2 = g 2 := hG.2.2.2.2.2.2.2.2.2.2.2.2.1
  have h33 : g' 9 33 = g 9 33 := hG.2.2.2.2.2.1
  rw [h33] at hi
  obtain ⟨k1, k2, k3, k4, k5⟩ := h i hi
  have hp := hF _ (by rw [k1]; decide : dK S (g 2 i) ≠ 0)
  rw [e2, hp.1, (hp.2.2.2 800 rfl).1, (hp.2.2.2 801 rfl).1, (hp.2.2.2 802 rfl).1, (hp.2.2.2 803 rfl).2, hM.1 31 (by omega), hM.1 32 (by omega)]
  refine ⟨k1, k2, k3, k4, ?_⟩
  rcases k5 with k5 | k5 | k5 | k5 | ⟨k5, p, r, q1, q2, q3, q4, q5, q6⟩
  · exact Or.inl k5
  · exact Or.inr (Or.inl k5)
  · exact Or.inr (Or.inr (Or.inl k5))
  · exact Or.inr (Or.inr (Or.inr (Or.inl k5)))
  · refine Or.inr (Or.inr (Or.inr (Or.inr ⟨k5, p, r, q1, ?_, ?_, ?_, ?_, ?_⟩)))
    · have := hG.1; omega
    · rw [(hM.2.1 p q2).1]; exact q3
    · rw [(hM.2.1 p q2).2.1]; exact q4
    · have := hG.2.1; omega
    · rw [hG.2.2.2.2.2.2.2.2.2.2.2.1 r q5]; exact q6
theorem fn_cf {x : Option Nat} {kd f : Int32} (h : fn g S M x kd f) (c : CF g S M g' S' M') : fn g' S' M' x kd f := by
  unfold fn at *
  obtain ⟨⟨-, hF⟩, hG, hM, h12⟩ := c
  have e2 : g' 2 = g 2 := hG.2.2.2.2.2.2.2.2.2.2.2.2.1
  have h33 : g' 9 33 = g 9 33 := hG.2.2.2.2.2.1
  rcases h with h | h | ⟨h0, r, a, h1, h2, h3, h4, h5, h6, h7⟩ | ⟨h0, e, a, q, i, h1, h2, h3⟩ | ⟨h0, k, a, h1, h2, h3, h4, h5, h6⟩ | ⟨h0, n, a, h1, h2, h3, h4, h5, h6, h7, h8⟩
  · exact Or.inl h
  · rw [e2, h33]; exact Or.inr (Or.inl h)
  · have hp := hF a (by rw [h4]; decide)
    refine Or.inr (Or.inr (Or.inl ⟨h0, r, a, h1, ?_, h3, ?_, ?_, ?_, ?_⟩))
    · have := hG.2.1; omega
    · rw [hp.1]; exact h4
    · rw [(hp.2.2.2 800 rfl).1]; exact h5
    · rw [(hp.2.2.2 801 rfl).1]; exact h6
    · rw [(hp.2.2.2 803 rfl).2, hG.2.2.2.2.2.2.2.2.2.2.2.1 r h2]; exact h7
  · refine Or.inr (Or.inr (Or.inr (Or.inl ⟨h0, e, a, q, i, h1, h2, ?_⟩)))
    unfold el at *
    obtain ⟨k1, k2, k3, k4, k5, k6, k7, k8, k9⟩ := h3
    have hp := hF a (by rw [k4]; decide)
    have hq := hF (g 4 q) (by rw [k6]; decide)
    unfold GE at hG
    have e4 : g' 4 = g 4 := by grind
    have e15 : g' 15 = g 15 := by grind
    have e16 : g' 16 = g 16 := by grind
    have e50 : g' 9 50 = g 9 50 := by grind
    rw [e4, e15, e16, e50, hp.1, hq.1, (hp.2.2.2 300 rfl).2, (hp.2.2.2 301 rfl).1, (hp.2.2.2 302 rfl).1, (hq.2.2.2 200 rfl).1]
    exact ⟨k1, k2, k3, k4, k5, k6, k7, k8, k9⟩
  · have hp := hF a (by rw [h4]; decide)
    refine Or.inr (Or.inr (Or.inr (Or.inr (Or.inl ⟨h0, k, a, h1, ?_, h3, ?_, ?_, ?_⟩))))
    · rw [h33]; exact h2
    · rw [hp.1]; exact h4
    · rw [(hp.2.2.2 500 rfl).2, e2]; exact h5
    · rw [(hp.2.2.2 501 rfl).1]; exact h6
  · have hp := hF a (by rw [h5]; decide)
    have e42 : g' 9 42 = g 9 42 := hG.2.2.2.2.2.2.2.2.1
    have e10 : g' 10 = g 10 := by unfold GE at hG; grind
    refine Or.inr (Or.inr (Or.inr (Or.inr (Or.inr ⟨h0, n, a, h1, ?_, ?_, h4, ?_, ?_, ?_, ?_⟩))))
    · rw [e42]; exact h2
    · rw [e10]; exact h3
    · rw [hp.1]; exact h5
    · rw [(hp.2.2.2 800 rfl).1]; exact h6
    · rw [(hp.2.2.2 801 rfl).1]; exact h7
    · rw [(hp.2.2.2 802 rfl).1, hM.1 39 (by omega)]; exact h8
theorem jb_cf {k a : Nat} (h : jb g S M k a) (hk : k < g 9 22) (ha : dK S a ≠ 0) (c : CF g S M g' S' M') : jb g' S' M' k a := by
  have c0 := c
  unfold jb at *
  obtain ⟨⟨-, hF⟩, hG, hM, h12⟩ := c
  have hp := hF a ha
  have hk := hM.2.2.2.1 k hk
  rw [(hp.2.2.2 402 rfl).2, (hp.2.2.2 403 rfl).2, (hp.2.2.2 404 rfl).2, (hp.2.2.2 400 rfl).2, (hp.2.2.2 401 rfl).2, hk.1, hk.2.1, hk.2.2.1, hk.2.2.2.1, hk.2.2.2.2]
  rcases h with ⟨h1, h2, h3, h4, h5, q, h6, h7, h8, h9, h10⟩ | ⟨h1, h2, ⟨r, h3, h4, h5⟩, h6, h7⟩
  · unfold GE at hG
    have e4 : g' 4 = g 4 := by grind
    have e50 : g' 9 50 = g 9 50 := by grind
    refine Or.inl ⟨h1, h2, h3, h4, h5, q, ?_, h7, h8, ?_, ?_⟩
    · rw [e50]; exact h6
    · rw [e4, (hF _ (by rw [h9]; decide)).1]; exact h9
    · rw [e4]; exact h10
  · refine Or.inr ⟨h1, h2, ⟨r, ?_, h4, ?_⟩, fn_cf h6 c0, fn_cf h7 c0⟩
    · have := hG.2.1; omega
    · rw [hG.2.2.2.2.2.2.2.2.2.2.2.1 r h3]; exact h5
theorem wt_cf {k : Nat} {kd f : Int32} (h : wt g M k kd f) (c : CF g S M g' S' M') : wt g' M' k kd f := by
  unfold wt at *
  obtain ⟨-, hG, hM, h12⟩ := c
  have e8 : g' 8 = g 8 := by unfold GE at hG; grind
  rw [e8, hM.1 41 (by omega)]
  exact h
theorem G_cf (h : A_G g S M) (c : CF g S M g' S' M') : A_G g' S' M' := by
  unfold A_G at *
  obtain ⟨⟨-, hF⟩, hG, hM, h12⟩ := c
  unfold GE at hG
  have e2 : g' 2 = g 2 := by grind
  have e4 : g' 4 = g 4 := by grind
  have e5 : g' 5 = g 5 := by grind
  have e10 : g' 10 = g 10 := by grind
  have e11 : g' 11 = g 11 := by grind
  have e15 : g' 15 = g 15 := by grind
  have e16 : g' 16 = g 16 := by grind
  have e33 : g' 9 33 = g 9 33 := by grind
  have e42 : g' 9 42 = g 9 42 := by grind
  have e50 : g' 9 50 = g 9 50 := by grind
  have e141 : g' 14 1 = g 14 1 := by grind
  have m39 := hM.1 39 (by omega)
  have m40 := hM.1 40 (by omega)
  have m41 := hM.1 41 (by omega)
  have u41 : un41 M' = un41 M := by funext f i; unfold un41; rw [m41]
  intro q hq
  rw [e50] at hq
  obtain ⟨h1, h2, h3, h4, h5, h6, h7, h8, r, h9, h10, h11⟩ := h q hq
  have hv := hF (g 5 q) (by rw [h6]; decide)
  have hg : dK S (g 4 q) ≠ 0 := by
    rcases h11 with h11 | h11 <;> rw [h11.1] <;> decide
  have hg8 : dK S (g 4 q) ≠ 8 := by
    rcases h11 with h11 | h11 <;> rw [h11.1] <;> decide
  have hg1 := hF (g 4 q) hg
  rw [e4, e5, e10, e15, e16, e42, m40, m41, hM.1 43 (by omega), hM.1 44 (by omega), hM.1 46 (by omega), hv.1, hv.2.1, h12 _ hg hg8, h12 (g 5 q) (by rw [h6]; decide) (by rw [h6]; decide)]
  refine ⟨h1, h2, h3, h4, h5, h6, h7, h8, r, ?_, h10, ?_⟩
  · have := hG.2.1; omega
  · unfold gr at *
    have er := hG.2.2.2.2.2.2.2.2.2.2.2.1 r h9
    rw [e2, e4, e5, e15, e16, e11, e33, e141, er, u41, m39, m41, hM.1 45 (by omega), hM.1 47 (by omega), hM.1 48 (by omega), hM.1 49 (by omega), hg1.1, hv.2.2.1, (hg1.2.2.2 201 rfl).2, (hg1.2.2.2 202 rfl).2, (hg1.2.2.2 200 rfl).1, (hg1.2.2.2 203 rfl).1, (hg1.2.2.2 100 rfl).2, (hg1.2.2.2 101 rfl).2, (hg1.2.2.2 102 rfl).1, (hg1.2.2.2 103 rfl).2, (hg1.2.2.2 104 rfl).1]
    exact h11
theorem tk_cf {o a : Nat} (h : tk g S M o a) (ho : o < g 9 1) (ha : dK S a ≠ 0) (c : CF g S M g' S' M') (hc : M 2 o = 0 → dI S' 603 a = M' 3 o ∧ dI S' 604 a = M' 4 o ∧ dI S' 605 a = M' 7 o ∧ isB (M' 7 o) ∧ (M' 3 o = 0 ∨ M' 3 o = 1 ∨ M' 3 o = 2)) : tk g' S' M' o a := by
  obtain ⟨⟨-, hF⟩, hG, hM, h12⟩ := c
  have hp := hF a ha
  obtain ⟨m2, m6, m8, m9, m10, m11, m12⟩ := hM.2.1 o ho
  unfold tk at *
  rw [hp.1, (hp.2.2.2 1002 rfl).2, (hp.2.2.2 606 rfl).2, (hp.2.2.2 908 rfl).2, (hp.2.2.2 903 rfl).1, (hp.2.2.2 904 rfl).1, (hp.2.2.2 905 rfl).1, (hp.2.2.2 906 rfl).1, (hp.2.2.2 907 rfl).1, m2, m6, m8, m9, m10, m11, m12]
  rcases h with ⟨h1, h2, h3, h4, h5, h6, h7, h8, h9⟩ | ⟨h1, h2, h3, h4, h5, h6, h7, h8, h9⟩ | h | ⟨h1, h2, q, h3, h4, h5, h6, h7, h8⟩ | ⟨h1, h2, b, h3, h4, h5, h6, h7, h8⟩
  · obtain ⟨c1, c2, c3, c4, c5⟩ := hc h1
    exact Or.inl ⟨h1, h2, h3, c1, c2, c3, c4, kp_cf h8 hG, c5⟩
  · exact Or.inr (Or.inl ⟨h1, h2, h3, h4, h5, h6, h7, h8, kp_cf h9 hG⟩)
  · exact Or.inr (Or.inr (Or.inl h))
  · unfold GE at hG
    have e4 : g' 4 = g 4 := by grind
    have e5 : g' 5 = g 5 := by grind
    have e15 : g' 15 = g 15 := by grind
    have e16 : g' 16 = g 16 := by grind
    have e50 : g' 9 50 = g 9 50 := by grind
    refine Or.inr (Or.inr (Or.inr (Or.inl ⟨h1, h2, q, ?_, ?_, ?_, ?_, ?_, ?_⟩)))
    · rw [e50]; exact h3
    · rw [e5]; exact h4
    · rw [e4, (hF _ (by rw [h5]; decide)).1]; exact h5
    · rw [e15]; exact h6
    · rw [e16]; exact h7
    · rw [e15, e16, hM.1 41 (by omega)]; exact h8
  · have hb : dK S b ≠ 0 := by rw [h4]; decide
    have hq := hF b hb
    refine Or.inr (Or.inr (Or.inr (Or.inr ⟨h1, h2, b, h3, ?_, ?_, ?_, ?_, ?_⟩)))
    · rw [hq.1]; exact h4
    · rw [hq.2.1]; exact h5
    · rw [h12 b hb (by rw [h4]; decide)]; exact h6
    · rw [hq.2.2.1]; exact h7
    · rw [hq.2.2.1]; exact h8
theorem tk_K {o a : Nat} (h : tk g S M o a) : dK S a = 7 ∨ dK S a = 10 ∨ dK S a = 11 := by
  unfold tk at h; grind
theorem T_pt (h : A_T g S M) {o : Nat} (ho : o < g 9 1) (c : CF g S M g' S' M') (hc : M 2 o = 0 → dI S' 603 (g 0 o) = M' 3 o ∧ dI S' 604 (g 0 o) = M' 4 o ∧ dI S' 605 (g 0 o) = M' 7 o ∧ isB (M' 7 o) ∧ (M' 3 o = 0 ∨ M' 3 o = 1 ∨ M' 3 o = 2)) : dI S' 1000 (g' 0 o) = -2 - nI o ∧ dI S' 1001 (g' 0 o) = M' 2 o ∧ g' 12 (g' 0 o) = o ∧ tk g' S' M' o (g' 0 o) := by
  obtain ⟨h1, h2, h3, h4⟩ := h.1 o ho
  have ha : dK S (g 0 o) ≠ 0 := by have := tk_K h4; omega
  have hp := c.1.2 _ ha
  rw [c.2.1.2.2.2.2.2.2.2.2.2.2.1 o ho, c.2.2.2 _ ha (by have := tk_K h4; omega), (hp.2.2.2 1000 rfl).1, (hp.2.2.2 1001 rfl).1, (c.2.2.1.2.1 o ho).1]
  exact ⟨h1, h2, h3, tk_cf h4 ho ha c hc⟩
theorem R_pt (h : A_R g S M) {r : Nat} (hr : r < g 9 15) (c : CF g S M g' S' M') (hc : dI S' 701 (g 1 r) = M' 14 r ∧ isB (M' 14 r)) (h12 : g' 12 (g 1 r) = r) : dK S' (g' 1 r) = 8 ∧ g' 12 (g' 1 r) = r ∧ dI S' 701 (g' 1 r) = M' 14 r ∧ isB (M' 14 r) ∧ ∃ p, M' 13 r = nI p ∧ p < g' 9 1 ∧ M' 2 p = 0 ∧ dP S' 700 (g' 1 r) = some (g' 0 p) := by
  obtain ⟨h1, h2, h3, h4, p, h5, h6, h7, h8⟩ := h r hr
  have ha : dK S (g 1 r) ≠ 0 := by rw [h1]; decide
  have hp := c.1.2 _ ha
  rw [c.2.1.2.2.2.2.2.2.2.2.2.2.2.1 r hr, hp.1, (hp.2.2.2 700 rfl).2, c.2.2.1.2.2.1 r hr]
  refine ⟨h1, h12, hc.1, hc.2, p, h5, ?_, ?_, ?_⟩
  · have := c.2.1.1; omega
  · rw [(c.2.2.1.2.1 p h6).1]; exact h7
  · rw [c.2.1.2.2.2.2.2.2.2.2.2.2.1 p h6]; exact h8
theorem K_pt (h : A_K g S M) {k : Nat} (hk : k < g 9 22) (c : CF g S M g' S' M') (hc : g' 7 (g 3 k) ≠ 0 → g 7 (g 3 k) ≠ 0) : dK S' (g' 3 k) = 5 ∧ g' 12 (g' 3 k) = k ∧ jb g' S' M' k (g' 3 k) ∧ (g' 7 (g' 3 k) ≠ 0 → wt g' M' k (M' 18 k) (M' 19 k) ∧ wt g' M' k (M' 20 k) (M' 21 k)) := by
  obtain ⟨h1, h2, h3, h4⟩ := h k hk
  have ha : dK S (g 3 k) ≠ 0 := by rw [h1]; decide
  have hp := c.1.2 _ ha
  have hm := c.2.2.1.2.2.2.1 k hk
  rw [c.2.1.2.2.2.2.2.2.2.2.2.2.2.2.2.1 k hk, c.2.2.2 _ ha (by rw [h1]; decide), hp.1, hm.2.1, hm.2.2.1, hm.2.2.2.1, hm.2.2.2.2]
  refine ⟨h1, h2, jb_cf h3 hk ha c, fun hne => ?_⟩
  have := h4 (hc hne)
  exact ⟨wt_cf this.1 c, wt_cf this.2 c⟩
theorem W_pt {w : Nat → List Nat} (h : A_W g w S M) (hK : A_K g S M) {o : Nat} (ho : o < g 9 1) (c : CF g S M g' S' M') (h3 : M' 3 o = M 3 o) (h5 : M 2 o = 0 → M' 5 o = M 5 o ∧ dP S' 607 (g 0 o) = dP S 607 (g 0 o) ∧ dP S' 608 (g 0 o) = dP S 608 (g 0 o) ∧ ∀ k, k ∈ w o → k < g 9 22 → g 7 (g 3 k) = 2 * o + 2 → M' 16 k = M 16 k ∧ dP S' 407 (g 3 k) = dP S 407 (g 3 k) ∧ g' 7 (g 3 k) = g 7 (g 3 k)) : (M' 2 o ≠ 0 ∨ M' 3 o ≠ 0 → w o = []) ∧ (M' 2 o = 0 → lk (M' 16) (M' 5 o) (w o) ∧ dlk (dP S' 407) (dP S' 607 (g' 0 o)) ((w o).map (g' 3)) ∧ dP S' 608 (g' 0 o) = ((w o).map (g' 3)).getLast? ∧ (w o).Nodup ∧ ∀ k, k ∈ w o → k < g' 9 22 ∧ g' 7 (g' 3 k) = 2 * o + 2) := by
  obtain ⟨q1, q2⟩ := h.1 o ho
  rw [h3, (c.2.2.1.2.1 o ho).1]
  refine ⟨q1, fun h2 => ?_⟩
  obtain ⟨a1, a2, a3, a4, a5⟩ := q2 h2
  obtain ⟨b1, b2, b3, b4⟩ := h5 h2
  have hmap : (w o).map (g' 3) = (w o).map (g 3) := by
    apply List.map_congr_left
    intro k hk
    exact c.2.1.2.2.2.2.2.2.2.2.2.2.2.2.2.1 k (a5 k hk).1
  rw [hmap, c.2.1.2.2.2.2.2.2.2.2.2.2.1 o ho, b1, b2, b3]
  refine ⟨lk_congr (fun k hk => (b4 k hk (a5 k hk).1 (a5 k hk).2).1) a1, dlk_congr ?_ a2, a3, a4, fun k hk => ?_⟩
  · intro a ha
    obtain ⟨k, hk, rfl⟩ := List.mem_map.mp ha
    exact (b4 k hk (a5 k hk).1 (a5 k hk).2).2.1
  · rw [c.2.1.2.2.2.2.2.2.2.2.2.2.2.2.2.1 k (a5 k hk).1, (b4 k hk (a5 k hk).1 (a5 k hk).2).2.2]
    exact ⟨Nat.lt_of_lt_of_le (a5 k hk).1 c.2.1.2.2.1, (a5 k hk).2⟩
theorem jq_pt {j a : Nat} (h : jq g S M j a) (ha : dK S a = 5) (c : CF g S M g' S' M') (hm : M' 23 j = M 23 j ∧ M' 24 j = M 24 j ∧ M' 25 j = M 25 j ∧ M' 26 j = M 26 j ∧ M' 27 j = M 27 j ∧ M' 28 j = M 28 j) (hi : dI S' 405 a = dI S 405 a ∧ dI S' 406 a = dI S 406 a) (hb : ∀ b, dP S 402 a = some b → dK S b = 8 → g 12 b = 100000 + j → dI S' 701 b = dI S 701 b ∧ g' 12 b = g 12 b) : jq g' S' M' j a := by
  obtain ⟨⟨-, hF⟩, hG, hM, h12⟩ := c
  have hp := hF a (by rw [ha]; decide)
  unfold jq at *
  rw [hm.1, hm.2.1, hm.2.2.1, hm.2.2.2.1, hm.2.2.2.2.1, hm.2.2.2.2.2, hi.1, hi.2, (hp.2.2.2 402 rfl).2, (hp.2.2.2 403 rfl).2, (hp.2.2.2 404 rfl).2]
  rcases h with ⟨h1, k, h2, h3, h4, h5, h6, h7, h8, h9⟩ | ⟨h1, h2, o, p, b, h3, h4, h5, h6, h7, h8, h9, h10, h11, h12', h13, h14⟩
  · have hk := hM.2.2.2.1 k h2
    refine Or.inl ⟨h1, k, ?_, ?_, h4, h5, h6, ?_, ?_, ?_⟩
    · have := hG.2.2.1; omega
    · rw [hG.2.2.2.2.2.2.2.2.2.2.2.2.2.1 k h2]; exact h3
    · rw [hk.1]; exact h7
    · rw [hk.2.1, hk.2.2.2.1]; exact h8
    · rw [hk.2.2.1, hk.2.2.2.2]; exact h9
  · have hb0 : dK S b ≠ 0 := by rw [h11]; decide
    have hq := hF b hb0
    refine Or.inr ⟨h1, h2, o, p, b, h3, ?_, ?_, h6, ?_, ?_, ?_, h10, ?_, ?_, ?_, ?_⟩
    · have := hG.1; omega
    · rw [(hM.2.1 o h4).1]; exact h5
    · have := hG.1; omega
    · rw [(hM.2.1 p h7).1]; exact h8
    · rw [hG.2.2.2.2.2.2.2.2.2.2.1 o h4]; exact h9
    · rw [hq.1]; exact h11
    · rw [(hq.2.2.2 700 rfl).2, hG.2.2.2.2.2.2.2.2.2.2.1 p h7]; exact h12'
    · rw [(hb b h10 h11 h14).1]; exact h13
    · rw [(hb b h10 h11 h14).2]; exact h14
end CFS
