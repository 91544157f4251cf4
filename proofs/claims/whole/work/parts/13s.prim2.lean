section PR2
variable {e0 d t x : Nat} {g g' : GH} {w w' : Nat → List Nat} {S S' S1 S2 : DS} {M M' M1 : MS}
theorem T_same {o : Nat} (i6 : A_T g S M) (ho : o < g 9 1) (hI : dI S' 603 (g 0 o) = dI S 603 (g 0 o) ∧ dI S' 604 (g 0 o) = dI S 604 (g 0 o) ∧ dI S' 605 (g 0 o) = dI S 605 (g 0 o)) (hM : M' 3 o = M 3 o ∧ M' 4 o = M 4 o ∧ M' 7 o = M 7 o) : M 2 o = 0 → dI S' 603 (g 0 o) = M' 3 o ∧ dI S' 604 (g 0 o) = M' 4 o ∧ dI S' 605 (g 0 o) = M' 7 o ∧ isB (M' 7 o) ∧ (M' 3 o = 0 ∨ M' 3 o = 1 ∨ M' 3 o = 2) := by
  intro h2
  obtain ⟨-, -, -, ht⟩ := i6.1 o ho
  rw [hI.1, hI.2.1, hI.2.2, hM.1, hM.2.1, hM.2.2]
  unfold tk at ht; grind
/-- a new thing: S1 has its cell q, S2 has it in the list -/
theorem P_thing {q ed' : Nat} (hI : Inv e0 d t x g w S M) (hS : Same S S1) (hq0 : dK S q = 0) (hq1 : dK S1 q ≠ 0) (hF : FA S1 S2 (g 14 2) (g 14 4)) (hfr : dFr S2) (hA : AL S2 e0 (g 14 2) ed' (g 9 1 + 1) (fun i => if i = g 9 1 then q else g 0 i)) (hed : ed' = g 14 4 ∨ (dK S1 ed' = 0 ∧ dn S1 ≤ ed')) (hO : g 9 1 + 1 ≤ 3000)
    (m1 : M' 1 0 = nI (g 9 1 + 1)) (hM : ∀ k i, ¬ (k = 1 ∧ i = 0) → ¬ (2 ≤ k ∧ k ≤ 12 ∧ k ≠ 7 ∧ i = g 9 1) → M' k i = M k i) (m5 : M' 5 (g 9 1) = -1) (m3 : M' 3 (g 9 1) = 0)
    (hg : g' = gput (gput (gput (gput g 0 (g 9 1) q) 12 q (g 9 1)) 14 4 ed') 9 1 (g 9 1 + 1))
    (hw : dP S2 607 q = none ∧ dP S2 608 q = none) (hnew : dI S2 1000 q = -2 - nI (g 9 1) ∧ dI S2 1001 q = M' 2 (g 9 1) ∧ tk g' S2 M' (g 9 1) q) : Inv e0 d t x g' w S2 M' ∧ CF g S M g' S2 M' := by
  have hqn : ∀ a, dK S a ≠ 0 → a ≠ q := fun a ha e => ha (e ▸ hq0)
  have hFD : FD S S2 := FD_trans (FD_same hS) (FD_FA hF)
  have hG : GE g g' := by
    rw [hg]
    refine GE_trans (GE_trans (GE_trans (GE_put (g := g) ?_ ?_ ?_ ?_ ?_ ?_) (GE_put ?_ ?_ ?_ ?_ ?_ ?_)) (GE_put ?_ ?_ ?_ ?_ ?_ ?_)) (GE_put ?_ ?_ ?_ ?_ ?_ ?_) <;> simp [r_g]
  have hFM : FM g M M' := by
    unfold FM
    refine ⟨fun k hk => funext fun i => hM k i (by omega) (by omega), fun o ho => ?_, fun o ho => ?_, fun o ho => ?_, fun o ho => hM 25 o (by omega) (by omega), funext fun i => hM 0 i (by omega) (by omega)⟩
    · exact ⟨hM 2 o (by omega) (by omega), hM 6 o (by omega) (by omega), hM 8 o (by omega) (by omega), hM 9 o (by omega) (by omega), hM 10 o (by omega) (by omega), hM 11 o (by omega) (by omega), hM 12 o (by omega) (by omega)⟩
    · exact hM 13 o (by omega) (by omega)
    · exact ⟨hM 17 o (by omega) (by omega), hM 18 o (by omega) (by omega), hM 19 o (by omega) (by omega), hM 20 o (by omega) (by omega), hM 21 o (by omega) (by omega)⟩
  have e12 : ∀ a, dK S a ≠ 0 → g' 12 a = g 12 a := fun a ha => by rw [hg]; simp [r_g, hqn a ha]
  have c : CF g S M g' S2 M' := ⟨hFD, hG, hFM, fun a ha _ => e12 a ha⟩
  refine ⟨?_, c⟩
  have hI0 := hI
  obtain ⟨i1, i2, i3, i4, i5, i6, i7, i8, i9, i10, i11, i12⟩ := hI
  have hd : dK S d ≠ 0 := by rw [i3.2.1]; decide
  have e1 : g' 9 1 = g 9 1 + 1 := by rw [hg]; simp [r_g]
  have e15 : g' 9 15 = g 9 15 := by rw [hg]; simp [r_g]
  have e22 : g' 9 22 = g 9 22 := by rw [hg]; simp [r_g]
  have e30 : g' 9 30 = g 9 30 := by rw [hg]; simp [r_g]
  have e6 : g' 6 = g 6 := by rw [hg]; funext i; simp [r_g]
  have e7 : g' 7 = g 7 := by rw [hg]; funext i; simp [r_g]
  have e11 : g' 11 = g 11 := by rw [hg]; funext i; simp [r_g]
  have e0q : g' 0 (g 9 1) = q := by rw [hg]; simp [r_g]
  have e12q : g' 12 q = g 9 1 := by rw [hg]; simp [r_g]
  -- a cell of S that is no list is in S2 as it was
  have hcell : ∀ a, dK S a ≠ 0 → dK S a ≠ 1 → ∀ f, dI S2 f a = dI S f a ∧ dP S2 f a = dP S f a := by
    intro a ha h1 f
    have p := hS.2.2 a ha
    have hl : dK S (g 14 2) = 1 := i3.2.2.2.2.2.2.2.1.1
    have hne : a ≠ g 14 2 := fun e => h1 (e ▸ hl)
    have p2 := (hF.2 a (by rw [p.1]; exact ha)).2.2.2.1 hne f
    rw [p2.1, p2.2]
    exact p.2.2.2.2 f
  refine Inv_mk hI0 c ?_ ?_ ?_ ⟨fun o ho => ?_, fun o ho => ?_⟩ (fun r hr => ?_) (fun k hk => ?_) ⟨fun o ho => ?_, fun o ho => i10.2 o (by omega)⟩ ?_
  · unfold A_cnt at *
    rw [hM 15 0, hM 22 0, hM 29 0, hM 30 0, hM 33 0, hM 36 0, hM 38 0, hM 42 0, hM 50 0, m1, hg] <;> simp [r_g]
    simpa using i1.2
  · unfold A_bd at *
    have hu : sumN (un14 M') (g 9 15) = sumN (un14 M) (g 9 15) := sumN_congr (fun i _ => by unfold un14; rw [hM 14 i (by omega) (by omega)])
    have hv : sumN (fun o => (w o).length) (g 9 1 + 1) = sumN (fun o => (w o).length) (g 9 1) := by
      rw [sumN]; rw [i10.2 (g 9 1) (Nat.le_refl _)]; rfl
    have f36 : g' 9 36 = g 9 36 := by rw [hg]; simp [r_g]
    have f33 : g' 9 33 = g 9 33 := by rw [hg]; simp [r_g]
    have f38 : g' 9 38 = g 9 38 := by rw [hg]; simp [r_g]
    have f42 : g' 9 42 = g 9 42 := by rw [hg]; simp [r_g]
    have f50 : g' 9 50 = g 9 50 := by rw [hg]; simp [r_g]
    have f29 : g' 9 29 = g 9 29 := by rw [hg]; simp [r_g]
    rw [e1, e15, e22, e30, e11, f36, f33, f38, f42, f50, f29, hu, hv]
    omega
  · unfold A_desk at *
    obtain ⟨a1, a2, a3, a4, a5, a6, a7, a8, a9, a10⟩ := i3
    have hp := hFD.2 d (by rw [a2]; decide)
    have hq := hFD.2 e0 (by rw [a3]; decide)
    have f2 : g' 14 2 = g 14 2 := by rw [hg]; simp [r_g]
    have f3 : g' 14 3 = g 14 3 := by rw [hg]; simp [r_g]
    have f4 : g' 14 4 = ed' := by rw [hg]; simp [r_g]
    have f5 : g' 14 5 = g 14 5 := by rw [hg]; simp [r_g]
    have f33 : g' 9 33 = g 9 33 := by rw [hg]; simp [r_g]
    have f22 : g' 2 = g 2 := by rw [hg]; funext i; simp [r_g]
    rw [f2, f3, f4, f5, f33, f22, e1, hp.1, hq.1, hq.2.1, (hp.2.2.2 1100 rfl).2, (hp.2.2.2 1101 rfl).2]
    have hf : AL S2 e0 (g 14 2) ed' (g 9 1 + 1) (g' 0) := by
      unfold AL at *
      obtain ⟨b1, b2, b3, b4, b5, b6, b7, b8⟩ := hA
      refine ⟨b1, b2, b3, b4, b5, b6, b7, fun i hi => ?_⟩
      rw [b8 i hi, hg]; simp [r_g]
    have hh : AL S2 e0 (g 14 3) (g 14 5) (g 9 33) (g 2) := by
      unfold AL at a9 ⊢
      obtain ⟨b1, b2, b3, b4, b5, b6, b7, b8⟩ := a9
      have z3 : dK S (g 14 3) ≠ 0 := by rw [b1]; decide
      have z5 : dK S (g 14 5) ≠ 0 := by rw [b3]; decide
      have p3 := hS.2.2 _ z3
      have p5 := hS.2.2 _ z5
      have q3 := hF.2 (g 14 3) (by rw [p3.1]; exact z3)
      have q5 := hF.2 (g 14 5) (by rw [p5.1]; exact z5)
      have r3 := q3.2.2.2.1 (Ne.symm a7)
      rw [q3.1, p3.1, (r3 1).2, (p3.2.2.2.2 1).2, (r3 2).1, (p3.2.2.2.2 2).1, q5.1, p5.1, q5.2.1, p5.2.1]
      refine ⟨b1, b2, b3, b4, b5, b6, b7, fun i hi => ?_⟩
      by_cases e : g 14 5 = g 14 4
      · have : g 14 4 = e0 := a10 e.symm
        have : dL S (g 14 5) = 0 := by rw [e, this]; exact a4
        omega
      · rw [q5.2.2.2.2.2.2 e, p5.2.2.2.1]; exact b8 i hi
    refine ⟨hfr, a2, a3, a4, a5, a6, a7, hf, hh, fun e => ?_⟩
    have z5 : dK S (g 14 5) ≠ 0 := by rw [a9.2.2.1]; decide
    rcases hed with h | h
    · rw [h] at e ⊢; exact a10 e
    · have : dK S1 (g 14 5) ≠ 0 := by rw [(hS.2.2 _ z5).1]; exact z5
      rw [← e] at this; exact absurd h.1 this
  · by_cases e : o = g 9 1
    · subst e
      rw [e0q, e12q]
      exact ⟨hnew.1, hnew.2.1, rfl, hnew.2.2⟩
    · have ho : o < g 9 1 := by omega
      have hk := tk_K (i6.1 o ho).2.2.2
      have hz := hcell (g 0 o) (by omega) (by omega)
      exact T_pt i6 ho c (T_same i6 ho ⟨(hz 603).1, (hz 604).1, (hz 605).1⟩ ⟨hM 3 o (by omega) (by omega), hM 4 o (by omega) (by omega), hM 7 o (by omega) (by omega)⟩)
  · rw [hM 7 o (by omega) (by omega)]; exact i6.2 o (by omega)
  · rw [e15] at hr
    obtain ⟨k1, k2, k3, k4, -⟩ := i7 r hr
    refine R_pt i7 hr c ?_ (by rw [e12 _ (by omega)]; exact k2)
    rw [hM 14 r (by omega) (by omega), (hcell _ (by omega) (by omega) 701).1]; exact ⟨k3, k4⟩
  · rw [e22] at hk
    exact K_pt i9 hk c (by rw [e7]; exact fun h => h)
  · by_cases e : o = g 9 1
    · subst e
      rw [i10.2 _ (Nat.le_refl _), e0q, m5]
      refine ⟨fun _ => rfl, fun _ => ⟨rfl, ?_, ?_, List.nodup_nil, fun k hk => by cases hk⟩⟩
      · exact hw.1
      · exact hw.2
    · have ho : o < g 9 1 := by omega
      have hk := tk_K (i6.1 o ho).2.2.2
      have hz := hcell (g 0 o) (by omega) (by omega)
      refine W_pt i10 i9 ho c (hM 3 o (by omega) (by omega)) (fun h2 => ⟨hM 5 o (by omega) (by omega), (hz 607).2, (hz 608).2, fun k hk hk2 _ => ⟨hM 16 k (by omega) (by omega), ?_, by rw [e7]⟩⟩)
      have := (i9 k hk2).1
      exact (hcell _ (by omega) (by omega) 407).2
  · have hz := hcell d hd (by rw [i3.2.1]; decide)
    refine Q_fr i11 c e30 e6 ⟨(hz 1108).1, (hz 1106).2, (hz 1107).2⟩ (fun j h1 h2 h3 h4 => ?_) (fun j b _ _ _ h1 _ => ⟨(hcell b (by omega) (by omega) 701).1, e12 b (by omega)⟩)
    have hz := hcell (g 6 j) (by omega) (by omega)
    exact ⟨by rw [e7]; exact h4, (hz 407).2, ⟨(hz 405).1, (hz 406).1⟩, hM 23 j (by omega) (by omega), hM 24 j (by omega) (by omega), hM 25 j (by omega) (by omega), hM 26 j (by omega) (by omega), hM 27 j (by omega) (by omega), hM 28 j (by omega) (by omega)⟩
end PR2
