section PR3
variable {e0 d t x : Nat} {g g' : GH} {w w' : Nat → List Nat} {S S' S1 S2 S0 : DS} {M M' M1 : MS}
theorem K_pt2 (h : A_K g S M) {k : Nat} (hk : k < g 9 22) (c : CF g S M g' S' M') (hc : g' 7 (g 3 k) ≠ 0 → wt g M k (M 18 k) (M 19 k) ∧ wt g M k (M 20 k) (M 21 k)) : dK S' (g' 3 k) = 5 ∧ g' 12 (g' 3 k) = k ∧ jb g' S' M' k (g' 3 k) ∧ (g' 7 (g' 3 k) ≠ 0 → wt g' M' k (M' 18 k) (M' 19 k) ∧ wt g' M' k (M' 20 k) (M' 21 k)) := by
  obtain ⟨h1, h2, h3, h4⟩ := h k hk
  have ha : dK S (g 3 k) ≠ 0 := by rw [h1]; decide
  have hp := c.1.2 _ ha
  have hm := c.2.2.1.2.2.2.1 k hk
  rw [c.2.1.2.2.2.2.2.2.2.2.2.2.2.2.2.1 k hk, c.2.2.2 _ ha (by rw [h1]; decide), hp.1, hm.2.1, hm.2.2.1, hm.2.2.2.1, hm.2.2.2.2]
  refine ⟨h1, h2, jb_cf h3 hk ha c, fun hne => ?_⟩
  have := hc hne
  exact ⟨wt_cf this.1 c, wt_cf this.2 c⟩
theorem FD_eq (h1 : dn S' = dn S) (hK : dK S' = dK S) (hL : dL S' = dL S) (hX : dX S' = dX S) (hi : ∀ f a, fx f = false → dI S' f a = dI S f a) (hp : ∀ f a, fx f = false → dP S' f a = dP S f a) : FD S S' := by
  unfold FD
  rw [hK, hL, hX, h1]
  exact ⟨Nat.le_refl _, fun a _ => ⟨rfl, rfl, rfl, fun f hf => ⟨hi f a hf, hp f a hf⟩⟩⟩
/-- a new record -/
theorem P_rec {b p : Nat} (hI : Inv e0 d t x g w S M) (hb : dK S b = 8) (h700 : dP S 700 b = some (g 0 p)) (h701 : dI S 701 b = 0) (hp : p < g 9 1) (hp2 : M 2 p = 0) (hrr : ∀ r, r < g 9 15 → g 1 r ≠ b) (hj : ∀ j, g 9 29 ≤ j → j < g 9 30 → dP S 402 (g 6 j) ≠ some b) (hR : g 9 15 + 1 ≤ 2 * g 9 1 + g 9 36 + t)
    (m15 : M' 15 0 = nI (g 9 15 + 1)) (m13 : M' 13 (g 9 15) = nI p) (m14 : M' 14 (g 9 15) = 0) (hM : ∀ k i, ¬ (k = 15 ∧ i = 0) → ¬ ((k = 13 ∨ k = 14) ∧ i = g 9 15) → M' k i = M k i)
    (hg : g' = gput (gput (gput g 1 (g 9 15) b) 12 b (g 9 15)) 9 15 (g 9 15 + 1)) : Inv e0 d t x g' w S M' ∧ CF g S M g' S M' := by
  have hG : GE g g' := by
    rw [hg]
    refine GE_trans (GE_trans (GE_put (g := g) ?_ ?_ ?_ ?_ ?_ ?_) (GE_put ?_ ?_ ?_ ?_ ?_ ?_)) (GE_put ?_ ?_ ?_ ?_ ?_ ?_) <;> simp [r_g]
  have hFM : FM g M M' := by
    unfold FM
    refine ⟨fun k hk => funext fun i => hM k i (by omega) (by omega), fun o ho => ?_, fun o ho => ?_, fun o ho => ?_, fun o ho => hM 25 o (by omega) (by omega), funext fun i => hM 0 i (by omega) (by omega)⟩
    · exact ⟨hM 2 o (by omega) (by omega), hM 6 o (by omega) (by omega), hM 8 o (by omega) (by omega), hM 9 o (by omega) (by omega), hM 10 o (by omega) (by omega), hM 11 o (by omega) (by omega), hM 12 o (by omega) (by omega)⟩
    · exact hM 13 o (by omega) (by omega)
    · exact ⟨hM 17 o (by omega) (by omega), hM 18 o (by omega) (by omega), hM 19 o (by omega) (by omega), hM 20 o (by omega) (by omega), hM 21 o (by omega) (by omega)⟩
  have e12 : ∀ a, a ≠ b → g' 12 a = g 12 a := fun a ha => by rw [hg]; simp [r_g, ha]
  have c : CF g S M g' S M' := ⟨FD_refl, hG, hFM, fun a ha h8 => e12 a (fun e => h8 (e ▸ hb))⟩
  refine ⟨?_, c⟩
  have hI0 := hI
  obtain ⟨i1, i2, i3, i4, i5, i6, i7, i8, i9, i10, i11, i12⟩ := hI
  have e1 : g' 9 1 = g 9 1 := by rw [hg]; simp [r_g]
  have e15 : g' 9 15 = g 9 15 + 1 := by rw [hg]; simp [r_g]
  have e22 : g' 9 22 = g 9 22 := by rw [hg]; simp [r_g]
  have e30 : g' 9 30 = g 9 30 := by rw [hg]; simp [r_g]
  have e6 : g' 6 = g 6 := by rw [hg]; funext i; simp [r_g]
  have e7 : g' 7 = g 7 := by rw [hg]; funext i; simp [r_g]
  have e11 : g' 11 = g 11 := by rw [hg]; funext i; simp [r_g]
  have e0' : g' 0 = g 0 := by rw [hg]; funext i; simp [r_g]
  have e14 : g' 14 = g 14 := by rw [hg]; funext i; simp [r_g]
  have e2 : g' 2 = g 2 := by rw [hg]; funext i; simp [r_g]
  have f36 : g' 9 36 = g 9 36 := by rw [hg]; simp [r_g]
  have f33 : g' 9 33 = g 9 33 := by rw [hg]; simp [r_g]
  refine Inv_mk hI0 c ?_ ?_ ?_ ⟨fun o ho => ?_, fun o ho => ?_⟩ (fun r hr => ?_) (fun k hk => ?_) ⟨fun o ho => ?_, fun o ho => i10.2 o (by omega)⟩ ?_
  · unfold A_cnt at *
    rw [hM 1 0, hM 22 0, hM 29 0, hM 30 0, hM 33 0, hM 36 0, hM 38 0, hM 42 0, hM 50 0, m15, hg] <;> simp [r_g]
    exact ⟨i1.1, i1.2.2⟩
  · unfold A_bd at *
    have hu : sumN (un14 M') (g 9 15 + 1) = sumN (un14 M) (g 9 15) + 1 := by
      rw [sumN, sumN_congr (h := un14 M) (fun i hi => by unfold un14; rw [hM 14 i (by omega) (by omega)])]
      congr 1
      unfold un14; rw [if_pos m14]
    have f38 : g' 9 38 = g 9 38 := by rw [hg]; simp [r_g]
    have f42 : g' 9 42 = g 9 42 := by rw [hg]; simp [r_g]
    have f50 : g' 9 50 = g 9 50 := by rw [hg]; simp [r_g]
    have f29 : g' 9 29 = g 9 29 := by rw [hg]; simp [r_g]
    rw [e1, e15, e22, e30, e11, f36, f33, f38, f42, f50, f29, hu]
    omega
  · exact desk_fr i3 i3.1 c.1 e1 f33 (fun _ _ => by rw [e0']) e2 (fun _ => by rw [e14]) (fun a ha => ⟨rfl, rfl, rfl⟩)
  · have ho : o < g 9 1 := by omega
    exact T_pt i6 ho c (T_same i6 ho ⟨rfl, rfl, rfl⟩ ⟨hM 3 o (by omega) (by omega), hM 4 o (by omega) (by omega), hM 7 o (by omega) (by omega)⟩)
  · rw [hM 7 o (by omega) (by omega)]; exact i6.2 o (by omega)
  · by_cases e : r = g 9 15
    · subst e
      have f1 : g' 1 (g 9 15) = b := by rw [hg]; simp [r_g]
      have f12 : g' 12 b = g 9 15 := by rw [hg]; simp [r_g]
      rw [f1, f12, m14, m13]
      refine ⟨hb, rfl, h701, Or.inl rfl, p, rfl, by omega, ?_, ?_⟩
      · rw [hM 2 p (by omega) (by omega)]; exact hp2
      · rw [e0']; exact h700
    · have hr1 : r < g 9 15 := by omega
      obtain ⟨k1, k2, k3, k4, -⟩ := i7 r hr1
      refine R_pt i7 hr1 c ?_ (by rw [e12 _ (hrr r hr1)]; exact k2)
      rw [hM 14 r (by omega) (by omega)]; exact ⟨k3, k4⟩
  · rw [e22] at hk
    exact K_pt i9 hk c (by rw [e7]; exact fun h => h)
  · have ho : o < g 9 1 := by omega
    exact W_pt i10 i9 ho c (hM 3 o (by omega) (by omega)) (fun h2 => ⟨hM 5 o (by omega) (by omega), rfl, rfl, fun k hk hk2 _ => ⟨hM 16 k (by omega) (by omega), rfl, by rw [e7]⟩⟩)
  · refine Q_fr i11 c e30 e6 ⟨rfl, rfl, rfl⟩ (fun j h1 h2 h3 h4 => ?_) (fun j b' h1 h2 h3 _ _ => ⟨rfl, e12 b' (fun e => hj j h1 h2 (e ▸ h3))⟩)
    exact ⟨by rw [e7]; exact h4, rfl, ⟨rfl, rfl⟩, hM 23 j (by omega) (by omega), hM 24 j (by omega) (by omega), hM 25 j (by omega) (by omega), hM 26 j (by omega) (by omega), hM 27 j (by omega) (by omega), hM 28 j (by omega) (by omega)⟩
/-- handled -/
theorem P_hand {p : Nat} (hI : Inv e0 d t x g w S M) (hp : p < g 9 1) (hp2 : M 2 p = 0) : Inv e0 d t x g w (sI S 605 (g 0 p) 1) (mput M 7 p 1) ∧ CF g S M g (sI S 605 (g 0 p) 1) (mput M 7 p 1) := by
  have c : CF g S M g (sI S 605 (g 0 p) 1) (mput M 7 p 1) := ⟨FD_sI rfl, GE_refl, FM_put (by omega) (by omega) (by omega) (by omega), fun _ _ _ => rfl⟩
  refine ⟨?_, c⟩
  have hI0 := hI
  obtain ⟨i1, i2, i3, i4, i5, i6, i7, i8, i9, i10, i11, i12⟩ := hI
  obtain ⟨-, -, tp, -⟩ := i6.1 p hp
  refine Inv_mk hI0 c ?_ ?_ ?_ ⟨fun o ho => ?_, fun o ho => ?_⟩ (fun k hk => ?_) (fun k hk => ?_) ⟨fun o ho => ?_, i10.2⟩ ?_
  · unfold A_cnt at *; simp only [r_m]; simpa using i1
  · unfold A_bd at *
    have e : un14 (mput M 7 p 1) = un14 M := by funext r; unfold un14; simp [r_m]
    rw [e]; exact i2
  · exact desk_fr i3 i3.1 c.1 rfl rfl (fun _ _ => rfl) rfl (fun _ => rfl) (fun a ha => by simp only [r_KI, r_LI, r_PI, r_XI, r_YI, r_nI, r_II, r_KP, r_LP, r_IP, r_XP, r_YP, r_nP, r_PP, r_KX, r_LX, r_IX, r_PX, r_YX, r_nX, r_XX, r_KY, r_LY, r_IY, r_PY, r_XY, r_nY, r_YY, r_KO, r_LO, r_IO, r_PO, r_XO, r_YO, r_nO, r_KA, r_LA, r_IA, r_PA, r_XA, r_YA, r_nA, r_KB, r_LB, r_IB, r_PB, r_XB, r_YB, r_nB]; simp)
  · by_cases e : o = p
    · subst e
      refine T_pt i6 ho c (fun h2 => ?_)
      obtain ⟨-, -, -, ht⟩ := i6.1 o ho
      simp only [r_KI, r_LI, r_PI, r_XI, r_YI, r_nI, r_II, r_KP, r_LP, r_IP, r_XP, r_YP, r_nP, r_PP, r_KX, r_LX, r_IX, r_PX, r_YX, r_nX, r_XX, r_KY, r_LY, r_IY, r_PY, r_XY, r_nY, r_YY, r_KO, r_LO, r_IO, r_PO, r_XO, r_YO, r_nO, r_KA, r_LA, r_IA, r_PA, r_XA, r_YA, r_nA, r_KB, r_LB, r_IB, r_PB, r_XB, r_YB, r_nB, r_m]; simp
      unfold tk at ht
      refine ⟨by grind, by grind, Or.inr rfl, by grind⟩
    · obtain ⟨-, -, to, -⟩ := i6.1 o ho
      have e2 : g 0 o ≠ g 0 p := fun h => e (by rw [← to, ← tp, h])
      exact T_pt i6 ho c (T_same i6 ho (by simp [r_KI, r_LI, r_PI, r_XI, r_YI, r_nI, r_II, r_KP, r_LP, r_IP, r_XP, r_YP, r_nP, r_PP, r_KX, r_LX, r_IX, r_PX, r_YX, r_nX, r_XX, r_KY, r_LY, r_IY, r_PY, r_XY, r_nY, r_YY, r_KO, r_LO, r_IO, r_PO, r_XO, r_YO, r_nO, r_KA, r_LA, r_IA, r_PA, r_XA, r_YA, r_nA, r_KB, r_LB, r_IB, r_PB, r_XB, r_YB, r_nB, e2]) (by simp [r_m, e]))
  · have e : o ≠ p := by omega
    simp only [r_m]; simp [e]; exact i6.2 o ho
  · obtain ⟨k1, k2, k3, k4, -⟩ := i7 k hk
    refine R_pt i7 hk c ?_ k2
    simp only [r_KI, r_LI, r_PI, r_XI, r_YI, r_nI, r_II, r_KP, r_LP, r_IP, r_XP, r_YP, r_nP, r_PP, r_KX, r_LX, r_IX, r_PX, r_YX, r_nX, r_XX, r_KY, r_LY, r_IY, r_PY, r_XY, r_nY, r_YY, r_KO, r_LO, r_IO, r_PO, r_XO, r_YO, r_nO, r_KA, r_LA, r_IA, r_PA, r_XA, r_YA, r_nA, r_KB, r_LB, r_IB, r_PB, r_XB, r_YB, r_nB, r_m]; simp; exact ⟨k3, k4⟩
  · exact K_pt i9 hk c (fun h => h)
  · refine W_pt i10 i9 ho c (by simp [r_m]) (fun h2 => ?_)
    simp [r_m, r_KI, r_LI, r_PI, r_XI, r_YI, r_nI, r_II, r_KP, r_LP, r_IP, r_XP, r_YP, r_nP, r_PP, r_KX, r_LX, r_IX, r_PX, r_YX, r_nX, r_XX, r_KY, r_LY, r_IY, r_PY, r_XY, r_nY, r_YY, r_KO, r_LO, r_IO, r_PO, r_XO, r_YO, r_nO, r_KA, r_LA, r_IA, r_PA, r_XA, r_YA, r_nA, r_KB, r_LB, r_IB, r_PB, r_XB, r_YB, r_nB]
  · refine Q_fr i11 c rfl rfl (by simp [r_KI, r_LI, r_PI, r_XI, r_YI, r_nI, r_II, r_KP, r_LP, r_IP, r_XP, r_YP, r_nP, r_PP, r_KX, r_LX, r_IX, r_PX, r_YX, r_nX, r_XX, r_KY, r_LY, r_IY, r_PY, r_XY, r_nY, r_YY, r_KO, r_LO, r_IO, r_PO, r_XO, r_YO, r_nO, r_KA, r_LA, r_IA, r_PA, r_XA, r_YA, r_nA, r_KB, r_LB, r_IB, r_PB, r_XB, r_YB, r_nB]) (fun j h1 h2 h3 h4 => ?_) (fun j b _ _ _ h1 h2 => ?_)
    · simp [r_KI, r_LI, r_PI, r_XI, r_YI, r_nI, r_II, r_KP, r_LP, r_IP, r_XP, r_YP, r_nP, r_PP, r_KX, r_LX, r_IX, r_PX, r_YX, r_nX, r_XX, r_KY, r_LY, r_IY, r_PY, r_XY, r_nY, r_YY, r_KO, r_LO, r_IO, r_PO, r_XO, r_YO, r_nO, r_KA, r_LA, r_IA, r_PA, r_XA, r_YA, r_nA, r_KB, r_LB, r_IB, r_PB, r_XB, r_YB, r_nB, r_m, h4]
    · simp [r_KI, r_LI, r_PI, r_XI, r_YI, r_nI, r_II, r_KP, r_LP, r_IP, r_XP, r_YP, r_nP, r_PP, r_KX, r_LX, r_IX, r_PX, r_YX, r_nX, r_XX, r_KY, r_LY, r_IY, r_PY, r_XY, r_nY, r_YY, r_KO, r_LO, r_IO, r_PO, r_XO, r_YO, r_nO, r_KA, r_LA, r_IA, r_PA, r_XA, r_YA, r_nA, r_KB, r_LB, r_IB, r_PB, r_XB, r_YB, r_nB]
/-- state and result are set, the chain is taken -/
theorem P_set {p : Nat} {st v : Int32} (hI : Inv e0 d t x g w S M) (hp : p < g 9 1) (hp2 : M 2 p = 0) (hst : st = 1 ∨ st = 2) (hS : S' = sP (sP (sI (sI S 603 (g 0 p) st) 604 (g 0 p) v) 607 (g 0 p) none) 608 (g 0 p) none) (hM' : M' = mput (mput (mput M 3 p st) 4 p v) 5 p (-1)) : Inv e0 d t (x + (w p).length) g (fun o => if o = p then [] else w o) S' M' ∧ CF g S M g S' M' := by
  have c : CF g S M g S' M' := by
    subst hS hM'
    exact ⟨FD_trans (FD_trans (FD_trans (FD_sI rfl) (FD_sI rfl)) (FD_sP rfl)) (FD_sP rfl), GE_refl, FM_trans (FM_trans (FM_put (by omega) (by omega) (by omega) (by omega)) (FM_put (by omega) (by omega) (by omega) (by omega))) (FM_put (by omega) (by omega) (by omega) (by omega)), fun _ _ _ => rfl⟩
  refine ⟨?_, c⟩
  have hI0 := hI
  obtain ⟨i1, i2, i3, i4, i5, i6, i7, i8, i9, i10, i11, i12⟩ := hI
  obtain ⟨-, -, tp, -⟩ := i6.1 p hp
  refine Inv_mk hI0 c ?_ ?_ ?_ ⟨fun o ho => ?_, fun o ho => ?_⟩ (fun k hk => ?_) (fun k hk => ?_) ⟨fun o ho => ?_, fun o ho => ?_⟩ ?_
  · subst hM'; unfold A_cnt at *; simp only [r_m]; simpa using i1
  · unfold A_bd at *
    have e : un14 M' = un14 M := by subst hM'; funext r; unfold un14; simp [r_m]
    have hs := sumN_upd (f := fun o => (w o).length) (h := fun o => (if o = p then [] else w o).length) (j := p) hp (fun i _ hne => by simp [hne])
    simp only [if_true, List.length_nil] at hs
    rw [e]; dsimp only at hs ⊢; omega
  · refine desk_fr i3 (by subst hS; exact i3.1) c.1 rfl rfl (fun _ _ => rfl) rfl (fun _ => rfl) (fun a ha => by subst hS; simp [r_KI, r_LI, r_PI, r_XI, r_YI, r_nI, r_II, r_KP, r_LP, r_IP, r_XP, r_YP, r_nP, r_PP, r_KX, r_LX, r_IX, r_PX, r_YX, r_nX, r_XX, r_KY, r_LY, r_IY, r_PY, r_XY, r_nY, r_YY, r_KO, r_LO, r_IO, r_PO, r_XO, r_YO, r_nO, r_KA, r_LA, r_IA, r_PA, r_XA, r_YA, r_nA, r_KB, r_LB, r_IB, r_PB, r_XB, r_YB, r_nB])
  · by_cases e : o = p
    · subst e
      refine T_pt i6 ho c (fun h2 => ?_)
      obtain ⟨-, -, -, ht⟩ := i6.1 o ho
      subst hS hM'
      simp only [r_KI, r_LI, r_PI, r_XI, r_YI, r_nI, r_II, r_KP, r_LP, r_IP, r_XP, r_YP, r_nP, r_PP, r_KX, r_LX, r_IX, r_PX, r_YX, r_nX, r_XX, r_KY, r_LY, r_IY, r_PY, r_XY, r_nY, r_YY, r_KO, r_LO, r_IO, r_PO, r_XO, r_YO, r_nO, r_KA, r_LA, r_IA, r_PA, r_XA, r_YA, r_nA, r_KB, r_LB, r_IB, r_PB, r_XB, r_YB, r_nB, r_m]; simp
      unfold tk at ht
      refine ⟨by grind, by grind, by grind⟩
    · obtain ⟨-, -, to, -⟩ := i6.1 o ho
      have e2 : g 0 o ≠ g 0 p := fun h => e (by rw [← to, ← tp, h])
      subst hS hM'
      exact T_pt i6 ho c (T_same i6 ho (by simp [r_KI, r_LI, r_PI, r_XI, r_YI, r_nI, r_II, r_KP, r_LP, r_IP, r_XP, r_YP, r_nP, r_PP, r_KX, r_LX, r_IX, r_PX, r_YX, r_nX, r_XX, r_KY, r_LY, r_IY, r_PY, r_XY, r_nY, r_YY, r_KO, r_LO, r_IO, r_PO, r_XO, r_YO, r_nO, r_KA, r_LA, r_IA, r_PA, r_XA, r_YA, r_nA, r_KB, r_LB, r_IB, r_PB, r_XB, r_YB, r_nB, e2]) (by simp [r_m, e]))
  · subst hM'
    simp only [r_m]; simp; exact i6.2 o ho
  · obtain ⟨k1, k2, k3, k4, -⟩ := i7 k hk
    refine R_pt i7 hk c ?_ k2
    subst hS hM'
    simp only [r_KI, r_LI, r_PI, r_XI, r_YI, r_nI, r_II, r_KP, r_LP, r_IP, r_XP, r_YP, r_nP, r_PP, r_KX, r_LX, r_IX, r_PX, r_YX, r_nX, r_XX, r_KY, r_LY, r_IY, r_PY, r_XY, r_nY, r_YY, r_KO, r_LO, r_IO, r_PO, r_XO, r_YO, r_nO, r_KA, r_LA, r_IA, r_PA, r_XA, r_YA, r_nA, r_KB, r_LB, r_IB, r_PB, r_XB, r_YB, r_nB, r_m]; simp; exact ⟨k3, k4⟩
  · exact K_pt i9 hk c (fun h => h)
  · by_cases e : o = p
    · subst e
      subst hS hM'
      simp only [r_KI, r_LI, r_PI, r_XI, r_YI, r_nI, r_II, r_KP, r_LP, r_IP, r_XP, r_YP, r_nP, r_PP, r_KX, r_LX, r_IX, r_PX, r_YX, r_nX, r_XX, r_KY, r_LY, r_IY, r_PY, r_XY, r_nY, r_YY, r_KO, r_LO, r_IO, r_PO, r_XO, r_YO, r_nO, r_KA, r_LA, r_IA, r_PA, r_XA, r_YA, r_nA, r_KB, r_LB, r_IB, r_PB, r_XB, r_YB, r_nB, r_m]; simp
      exact fun _ => ⟨rfl, rfl⟩
    · obtain ⟨-, -, to, -⟩ := i6.1 o ho
      have e2 : g 0 o ≠ g 0 p := fun h => e (by rw [← to, ← tp, h])
      simp only [if_neg e]
      refine W_pt i10 i9 ho c (by subst hM'; simp [r_m, e]) (fun h2 => ?_)
      subst hS hM'
      simp [r_m, r_KI, r_LI, r_PI, r_XI, r_YI, r_nI, r_II, r_KP, r_LP, r_IP, r_XP, r_YP, r_nP, r_PP, r_KX, r_LX, r_IX, r_PX, r_YX, r_nX, r_XX, r_KY, r_LY, r_IY, r_PY, r_XY, r_nY, r_YY, r_KO, r_LO, r_IO, r_PO, r_XO, r_YO, r_nO, r_KA, r_LA, r_IA, r_PA, r_XA, r_YA, r_nA, r_KB, r_LB, r_IB, r_PB, r_XB, r_YB, r_nB, e, e2]
  · have e : o ≠ p := by omega
    simp only [if_neg e]; exact i10.2 o ho
  · subst hS hM'
    refine Q_fr i11 c rfl rfl (by simp [r_KI, r_LI, r_PI, r_XI, r_YI, r_nI, r_II, r_KP, r_LP, r_IP, r_XP, r_YP, r_nP, r_PP, r_KX, r_LX, r_IX, r_PX, r_YX, r_nX, r_XX, r_KY, r_LY, r_IY, r_PY, r_XY, r_nY, r_YY, r_KO, r_LO, r_IO, r_PO, r_XO, r_YO, r_nO, r_KA, r_LA, r_IA, r_PA, r_XA, r_YA, r_nA, r_KB, r_LB, r_IB, r_PB, r_XB, r_YB, r_nB]) (fun j h1 h2 h3 h4 => ?_) (fun j b _ _ _ h1 h2 => ?_)
    · simp [r_KI, r_LI, r_PI, r_XI, r_YI, r_nI, r_II, r_KP, r_LP, r_IP, r_XP, r_YP, r_nP, r_PP, r_KX, r_LX, r_IX, r_PX, r_YX, r_nX, r_XX, r_KY, r_LY, r_IY, r_PY, r_XY, r_nY, r_YY, r_KO, r_LO, r_IO, r_PO, r_XO, r_YO, r_nO, r_KA, r_LA, r_IA, r_PA, r_XA, r_YA, r_nA, r_KB, r_LB, r_IB, r_PB, r_XB, r_YB, r_nB, r_m, h4]
    · simp [r_KI, r_LI, r_PI, r_XI, r_YI, r_nI, r_II, r_KP, r_LP, r_IP, r_XP, r_YP, r_nP, r_PP, r_KX, r_LX, r_IX, r_PX, r_YX, r_nX, r_XX, r_KY, r_LY, r_IY, r_PY, r_XY, r_nY, r_YY, r_KO, r_LO, r_IO, r_PO, r_XO, r_YO, r_nO, r_KA, r_LA, r_IA, r_PA, r_XA, r_YA, r_nA, r_KB, r_LB, r_IB, r_PB, r_XB, r_YB, r_nB]
/-- what enqueue does to the class's world -/
def EnqD (d a : Nat) (g : GH) (S S' : DS) : Prop := dn S' = dn S ∧ dK S' = dK S ∧ dL S' = dL S ∧ dX S' = dX S ∧ dY S' = dY S ∧ (∀ f y, y ≠ a → y ≠ d → dI S' f y = dI S f y) ∧ (∀ f y, y ≠ a → y ≠ d → ¬ (f = 407 ∧ g 9 29 < g 9 30 ∧ y = g 6 (g 9 30 - 1)) → dP S' f y = dP S f y) ∧ (∀ f, f ≠ 1108 → dI S' f d = dI S f d) ∧ (∀ f, f ≠ 1106 → f ≠ 1107 → dP S' f d = dP S f d) ∧ dI S' 1108 d = dI S 1108 d + 1 ∧ dP S' 1106 d = (if g 9 29 < g 9 30 then dP S 1106 d else some a) ∧ dP S' 1107 d = some a ∧ (∀ f, f ≠ 405 → f ≠ 406 → dI S' f a = dI S f a) ∧ (∀ f, f ≠ 407 → dP S' f a = dP S f a) ∧ dP S' 407 a = none ∧ (g 9 29 < g 9 30 → dP S' 407 (g 6 (g 9 30 - 1)) = some a)
/-- a job goes into the queue -/
theorem P_enq {a : Nat} (hI : Inv e0 d t (x + 1) g w S M) (hE : EnqD d a g S S') (ha : dK S a = 5) (hpos : g 7 a % 2 = 0) (hch : ∀ o, o < g 9 1 → ∀ k, k ∈ w o → g 3 k ≠ a) (hM : ∀ k i, ¬ (k = 30 ∧ i = 0) → ¬ (23 ≤ k ∧ k ≤ 28 ∧ i = g 9 30) → M' k i = M k i) (m30 : M' 30 0 = nI (g 9 30 + 1)) (hg : g' = gput (gput (gput g 6 (g 9 30) a) 7 a (2 * g 9 30 + 1)) 9 30 (g 9 30 + 1)) (hjq : jq g' S' M' (g 9 30) a) (hwt : ∀ k, k < g 9 22 → g 3 k = a → wt g M k (M 18 k) (M 19 k) ∧ wt g M k (M 20 k) (M 21 k)) : Inv e0 d t x g' w S' M' ∧ CF g S M g' S' M' := by
  have hI0 := hI
  obtain ⟨i1, i2, i3, i4, i5, i6, i7, i8, i9, i10, i11, i12⟩ := hI
  obtain ⟨q1, q2, q3, q4, q5, q6, q7, q8, q9, q10, q11, q12, q13, q14, q15, q16⟩ := hE
  have hd : dK S d = 12 := i3.2.1
  have had : a ≠ d := by rintro rfl; rw [hd] at ha; cases ha
  have hjK := i11.2.2.2.2
  -- fields that no queue or chain uses
  have hid : ∀ f a', fx f = false → dI S' f a' = dI S f a' := by
    intro f a' hf
    have n1 : f ≠ 1108 := by rintro rfl; cases hf
    have n2 : f ≠ 405 := by rintro rfl; cases hf
    have n3 : f ≠ 406 := by rintro rfl; cases hf
    by_cases e1 : a' = a
    · rw [e1]; exact q13 f n2 n3
    · by_cases e2 : a' = d
      · rw [e2]; exact q8 f n1
      · exact q6 f a' e1 e2
  have hpd : ∀ f a', fx f = false → dP S' f a' = dP S f a' := by
    intro f a' hf
    have n1 : f ≠ 1106 := by rintro rfl; cases hf
    have n2 : f ≠ 1107 := by rintro rfl; cases hf
    have n3 : f ≠ 407 := by rintro rfl; cases hf
    by_cases e1 : a' = a
    · rw [e1]; exact q14 f n3
    · by_cases e2 : a' = d
      · rw [e2]; exact q9 f n1 n2
      · exact q7 f a' e1 e2 (fun h => n3 h.1)
  have hG : GE g g' := by
    rw [hg]
    refine GE_trans (GE_trans (GE_put (g := g) ?_ ?_ ?_ ?_ ?_ ?_) (GE_put ?_ ?_ ?_ ?_ ?_ ?_)) (GE_put ?_ ?_ ?_ ?_ ?_ ?_) <;> simp [r_g]
  have hFM : FM g M M' := by
    unfold FM
    refine ⟨fun k hk => funext fun i => hM k i (by omega) (by omega), fun o ho => ?_, fun o ho => ?_, fun o ho => ?_, fun o ho => hM 25 o (by omega) (by omega), funext fun i => hM 0 i (by omega) (by omega)⟩
    · exact ⟨hM 2 o (by omega) (by omega), hM 6 o (by omega) (by omega), hM 8 o (by omega) (by omega), hM 9 o (by omega) (by omega), hM 10 o (by omega) (by omega), hM 11 o (by omega) (by omega), hM 12 o (by omega) (by omega)⟩
    · exact hM 13 o (by omega) (by omega)
    · exact ⟨hM 17 o (by omega) (by omega), hM 18 o (by omega) (by omega), hM 19 o (by omega) (by omega), hM 20 o (by omega) (by omega), hM 21 o (by omega) (by omega)⟩
  have e12 : g' 12 = g 12 := by rw [hg]; funext i; simp [r_g]
  have c : CF g S M g' S' M' := ⟨FD_eq q1 q2 q3 q4 hid hpd, hG, hFM, fun a _ _ => by rw [e12]⟩
  refine ⟨?_, c⟩
  have e1 : g' 9 1 = g 9 1 := by rw [hg]; simp [r_g]
  have e15 : g' 9 15 = g 9 15 := by rw [hg]; simp [r_g]
  have e22 : g' 9 22 = g 9 22 := by rw [hg]; simp [r_g]
  have e29 : g' 9 29 = g 9 29 := by rw [hg]; simp [r_g]
  have e30 : g' 9 30 = g 9 30 + 1 := by rw [hg]; simp [r_g]
  have e6 : ∀ j, j ≠ g 9 30 → g' 6 j = g 6 j := by intro j h; rw [hg]; simp [r_g, h]
  have e6a : g' 6 (g 9 30) = a := by rw [hg]; simp [r_g]
  have e7 : ∀ y, y ≠ a → g' 7 y = g 7 y := by intro y h; rw [hg]; simp [r_g, h]
  have e7a : g' 7 a = 2 * g 9 30 + 1 := by rw [hg]; simp [r_g]
  have e11 : g' 11 = g 11 := by rw [hg]; funext i; simp [r_g]
  have e0' : g' 0 = g 0 := by rw [hg]; funext i; simp [r_g]
  have e14 : g' 14 = g 14 := by rw [hg]; funext i; simp [r_g]
  have e2 : g' 2 = g 2 := by rw [hg]; funext i; simp [r_g]
  have f33 : g' 9 33 = g 9 33 := by rw [hg]; simp [r_g]
  have hlast : g 9 29 < g 9 30 → dK S (g 6 (g 9 30 - 1)) = 5 := fun h => (hjK _ (by omega) (by omega)).1
  -- a cell that is no job and not the desk
  have hoth : ∀ y, dK S y ≠ 5 → dK S y ≠ 12 → ∀ f, dI S' f y = dI S f y ∧ dP S' f y = dP S f y := by
    intro y h5 h12 f
    have n1 : y ≠ a := by rintro rfl; exact h5 ha
    have n2 : y ≠ d := by rintro rfl; exact h12 hd
    exact ⟨q6 f y n1 n2, q7 f y n1 n2 (fun h => h5 (h.2.2 ▸ hlast h.2.1))⟩
  refine Inv_mk hI0 c ?_ ?_ ?_ ⟨fun o ho => ?_, fun o ho => ?_⟩ (fun r hr => ?_) (fun k hk => ?_) ⟨fun o ho => ?_, fun o ho => i10.2 o (by omega)⟩ ?_
  · unfold A_cnt at *
    rw [hM 1 0, hM 15 0, hM 22 0, hM 29 0, hM 33 0, hM 36 0, hM 38 0, hM 42 0, hM 50 0, m30, hg] <;> simp [r_g]
    obtain ⟨a1, a2, a3, a4, a5, a6⟩ := i1
    exact ⟨a1, a2, a3, a4, a6⟩
  · unfold A_bd at *
    have hu : un14 M' = un14 M := by funext i; unfold un14; rw [hM 14 i (by omega) (by omega)]
    have f36 : g' 9 36 = g 9 36 := by rw [hg]; simp [r_g]
    have f38 : g' 9 38 = g 9 38 := by rw [hg]; simp [r_g]
    have f42 : g' 9 42 = g 9 42 := by rw [hg]; simp [r_g]
    have f50 : g' 9 50 = g 9 50 := by rw [hg]; simp [r_g]
    rw [e1, e15, e22, e30, e11, f36, f33, f38, f42, f50, e29, hu]
    omega
  · refine desk_fr i3 ?_ c.1 e1 f33 (fun _ _ => by rw [e0']) e2 (fun _ => by rw [e14]) (fun y hy => ⟨?_, ?_, by rw [q5]⟩)
    · unfold dFr; rw [q1, q2]; exact i3.1
    · by_cases n1 : y = a
      · rw [n1]; exact q13 2 (by omega) (by omega)
      · by_cases n2 : y = d
        · rw [n2]; exact q8 2 (by omega)
        · exact q6 2 y n1 n2
    · by_cases n1 : y = a
      · rw [n1]; exact q14 1 (by omega)
      · by_cases n2 : y = d
        · rw [n2]; exact q9 1 (by omega) (by omega)
        · exact q7 1 y n1 n2 (by omega)
  · have ho : o < g 9 1 := by omega
    have hk := tk_K (i6.1 o ho).2.2.2
    have hz := hoth (g 0 o) (by omega) (by omega)
    exact T_pt i6 ho c (T_same i6 ho ⟨(hz 603).1, (hz 604).1, (hz 605).1⟩ ⟨hM 3 o (by omega) (by omega), hM 4 o (by omega) (by omega), hM 7 o (by omega) (by omega)⟩)
  · rw [hM 7 o (by omega) (by omega)]; exact i6.2 o (by omega)
  · have hr1 : r < g 9 15 := by omega
    obtain ⟨k1, k2, k3, k4, -⟩ := i7 r hr1
    refine R_pt i7 hr1 c ?_ (by rw [e12]; exact k2)
    rw [hM 14 r (by omega) (by omega), (hoth _ (by omega) (by omega) 701).1]; exact ⟨k3, k4⟩
  · rw [e22] at hk
    refine K_pt2 i9 hk c (fun h => ?_)
    by_cases e : g 3 k = a
    · exact hwt k hk e
    · rw [e7 _ e] at h; exact (i9 k hk).2.2.2 h
  · have ho : o < g 9 1 := by omega
    have hk := tk_K (i6.1 o ho).2.2.2
    have hz := hoth (g 0 o) (by omega) (by omega)
    refine W_pt i10 i9 ho c (hM 3 o (by omega) (by omega)) (fun h2 => ⟨hM 5 o (by omega) (by omega), (hz 607).2, (hz 608).2, fun k hk hk2 h7 => ?_⟩)
    have n1 := hch o ho k hk
    have n2 : g 3 k ≠ d := by intro e; have := (i9 k hk2).1; rw [e, hd] at this; cases this
    refine ⟨hM 16 k (by omega) (by omega), q7 407 _ n1 n2 (fun h => ?_), e7 _ n1⟩
    have := (hjK (g 9 30 - 1) (by omega) (by omega)).2.1
    rw [← h.2.2, h7] at this
    omega
  · obtain ⟨b1, b2, b3, b4, b5⟩ := i11
    have hF30 : g 9 29 ≤ g 9 30 := by unfold A_bd at i2; omega
    have hne : ∀ j, g 9 29 ≤ j → j < g 9 30 → g 6 j ≠ a ∧ g 6 j ≠ d := by
      intro j h1 h2
      obtain ⟨p1, p2, -⟩ := b5 j h1 h2
      refine ⟨fun e => ?_, fun e => ?_⟩
      · rw [e] at p2; omega
      · rw [e, hd] at p1; cases p1
    unfold A_Q
    rw [e29, e30]
    refine ⟨?_, fun h => by omega, fun h => ?_, fun j h1 h2 => ?_, fun j h1 h2 => ?_⟩
    · rw [q10, b1, nI_1]; congr 1; omega
    · rw [show g 9 30 + 1 - 1 = g 9 30 by omega, e6a]
      refine ⟨?_, q12, q15⟩
      rw [q11]
      by_cases h : g 9 29 < g 9 30
      · rw [if_pos h, (b3 h).1, e6 _ (by omega)]
      · rw [if_neg h, show g 9 29 = g 9 30 by omega, e6a]
    · rw [e6 j (by omega)]
      by_cases e : j + 1 = g 9 30
      · rw [e, e6a]
        have := q16 (by omega)
        rw [show g 9 30 - 1 = j by omega] at this
        exact this
      · rw [e6 (j + 1) e]
        have n := hne j h1 (by omega)
        rw [q7 407 _ n.1 n.2]
        · exact b4 j h1 (by omega)
        · rintro ⟨-, -, e3⟩
          have := (b5 j h1 (by omega)).2.1
          rw [e3, (b5 (g 9 30 - 1) (by omega) (by omega)).2.1] at this
          omega
    · by_cases e : j = g 9 30
      · subst e
        rw [e6a, q2]
        exact ⟨ha, e7a, hjq⟩
      · have h3 : j < g 9 30 := by omega
        obtain ⟨p1, p2, p3⟩ := b5 j h1 h3
        have n := hne j h1 h3
        rw [e6 j e, q2, e7 _ n.1]
        refine ⟨p1, p2, jq_pt p3 p1 c ⟨hM 23 j (by omega) (by omega), hM 24 j (by omega) (by omega), hM 25 j (by omega) (by omega), hM 26 j (by omega) (by omega), hM 27 j (by omega) (by omega), hM 28 j (by omega) (by omega)⟩ ⟨q6 405 _ n.1 n.2, q6 406 _ n.1 n.2⟩ (fun b _ h8 _ => ⟨(hoth b (by omega) (by omega) 701).1, by rw [e12]⟩)⟩
end PR3
