section FA3
variable {e0 d t x n c z : Nat} {g g' : GH} {w w' : Nat → List Nat} {S S' S1 S2 S0 : DS} {M M' M1 : MS}
theorem P_item {v : Int32} (hI : Inv e0 d t x g w S M) (hn : g 9 38 < 200) (hb1 : g 9 22 + sumN (g 11) (g 9 50) + (g 9 38 + 1) ≤ g 9 1 + t) (hb2 : g 9 42 + (g 9 38 + 1) ≤ g 9 1 + t) (hv : ∀ o, g 9 1 ≤ o → o < 2 ^ 30 → v ≠ -2 - nI o) (hS : S' = sI (sX S (g 14 6) (upd (dX S (g 14 6)) (g 9 38) v)) 1103 d (nI (g 9 38 + 1))) (hM : M' = mput (mput M 37 (g 9 38) v) 38 0 (nI (g 9 38 + 1))) (hg : g' = gput g 9 38 (g 9 38 + 1)) : Inv e0 d t x g' w S' M' := by
  obtain ⟨i1, i2, i3, i4, i5, i6, i7, i8, i9, i10, i11, i12⟩ := hI
  have en : dn S' = dn S := by rw [hS]; rfl
  have eK : dK S' = dK S := by rw [hS]; rfl
  have eL : dL S' = dL S := by rw [hS]; rfl
  have eP : dP S' = dP S := by rw [hS]; rfl
  have eY : dY S' = dY S := by rw [hS]; rfl
  have eX : ∀ y, y ≠ g 14 6 → dX S' y = dX S y := fun y hy => by rw [hS]; simp [r_KI, r_LI, r_PI, r_XI, r_YI, r_nI, r_II, r_KP, r_LP, r_IP, r_XP, r_YP, r_nP, r_PP, r_KX, r_LX, r_IX, r_PX, r_YX, r_nX, r_XX, r_KY, r_LY, r_IY, r_PY, r_XY, r_nY, r_YY, r_KO, r_LO, r_IO, r_PO, r_XO, r_YO, r_nO, r_KA, r_LA, r_IA, r_PA, r_XA, r_YA, r_nA, r_KB, r_LB, r_IB, r_PB, r_XB, r_YB, r_nB, hy]
  have eXc : dX S' (g 14 6) = upd (dX S (g 14 6)) (g 9 38) v := by rw [hS]; simp [r_KI, r_LI, r_PI, r_XI, r_YI, r_nI, r_II, r_KP, r_LP, r_IP, r_XP, r_YP, r_nP, r_PP, r_KX, r_LX, r_IX, r_PX, r_YX, r_nX, r_XX, r_KY, r_LY, r_IY, r_PY, r_XY, r_nY, r_YY, r_KO, r_LO, r_IO, r_PO, r_XO, r_YO, r_nO, r_KA, r_LA, r_IA, r_PA, r_XA, r_YA, r_nA, r_KB, r_LB, r_IB, r_PB, r_XB, r_YB, r_nB]
  have eI : ∀ f, f ≠ 1103 → dI S' f = dI S f := fun f hf => funext fun y => by rw [hS]; simp [r_KI, r_LI, r_PI, r_XI, r_YI, r_nI, r_II, r_KP, r_LP, r_IP, r_XP, r_YP, r_nP, r_PP, r_KX, r_LX, r_IX, r_PX, r_YX, r_nX, r_XX, r_KY, r_LY, r_IY, r_PY, r_XY, r_nY, r_YY, r_KO, r_LO, r_IO, r_PO, r_XO, r_YO, r_nO, r_KA, r_LA, r_IA, r_PA, r_XA, r_YA, r_nA, r_KB, r_LB, r_IB, r_PB, r_XB, r_YB, r_nB, hf]
  have eI1 : dI S' 1103 d = nI (g 9 38 + 1) := by rw [hS]; simp [r_KI, r_LI, r_PI, r_XI, r_YI, r_nI, r_II, r_KP, r_LP, r_IP, r_XP, r_YP, r_nP, r_PP, r_KX, r_LX, r_IX, r_PX, r_YX, r_nX, r_XX, r_KY, r_LY, r_IY, r_PY, r_XY, r_nY, r_YY, r_KO, r_LO, r_IO, r_PO, r_XO, r_YO, r_nO, r_KA, r_LA, r_IA, r_PA, r_XA, r_YA, r_nA, r_KB, r_LB, r_IB, r_PB, r_XB, r_YB, r_nB]
  have eM : ∀ k, (k ≠ 37 ∧ k ≠ 38) → M' k = M k := fun k hk => by rw [hM, r_mf hk.2, r_mf hk.1]
  have m38 : M' 38 0 = nI (g 9 38 + 1) := by rw [hM]; simp [r_m]
  have eg : ∀ k, k ≠ 9 → g' k = g k := fun k hk => by rw [hg, r_gf hk]
  have eg9 : ∀ i, i ≠ 38 → g' 9 i = g 9 i := fun i hi => by rw [hg]; simp [r_g, hi]
  have eg14 : g' 14 = g 14 := eg 14 (by decide)
  have e38 : g' 9 38 = g 9 38 + 1 := by rw [hg]; simp [r_g]
  obtain ⟨c1, c2, c3, c4, c5, c6⟩ := i5
  refine ⟨?_, ?_, (by have h := i3; unfold A_desk AL dFr at h ⊢; simp only [en, eK, eL, eY, eP, eI 2 (by decide), eI 102 (by decide), eI 104 (by decide), eI 200 (by decide), eI 203 (by decide), eI 301 (by decide), eI 302 (by decide), eI 405 (by decide), eI 406 (by decide), eI 501 (by decide), eI 603 (by decide), eI 604 (by decide), eI 605 (by decide), eI 701 (by decide), eI 800 (by decide), eI 801 (by decide), eI 802 (by decide), eI 903 (by decide), eI 904 (by decide), eI 905 (by decide), eI 906 (by decide), eI 907 (by decide), eI 1000 (by decide), eI 1001 (by decide), eI 1105 (by decide), eI 1108 (by decide), eM 1 (by decide), eM 2 (by decide), eM 3 (by decide), eM 4 (by decide), eM 5 (by decide), eM 6 (by decide), eM 7 (by decide), eM 8 (by decide), eM 9 (by decide), eM 10 (by decide), eM 11 (by decide), eM 12 (by decide), eM 13 (by decide), eM 14 (by decide), eM 15 (by decide), eM 16 (by decide), eM 17 (by decide), eM 18 (by decide), eM 19 (by decide), eM 20 (by decide), eM 21 (by decide), eM 22 (by decide), eM 23 (by decide), eM 24 (by decide), eM 25 (by decide), eM 26 (by decide), eM 27 (by decide), eM 28 (by decide), eM 29 (by decide), eM 30 (by decide), eM 31 (by decide), eM 32 (by decide), eM 33 (by decide), eM 34 (by decide), eM 35 (by decide), eM 36 (by decide), eM 39 (by decide), eM 40 (by decide), eM 41 (by decide), eM 42 (by decide), eM 43 (by decide), eM 44 (by decide), eM 45 (by decide), eM 46 (by decide), eM 47 (by decide), eM 48 (by decide), eM 49 (by decide), eM 50 (by decide), eg 0 (by decide), eg 1 (by decide), eg 2 (by decide), eg 3 (by decide), eg 4 (by decide), eg 5 (by decide), eg 6 (by decide), eg 7 (by decide), eg 8 (by decide), eg 10 (by decide), eg 11 (by decide), eg 12 (by decide), eg 15 (by decide), eg 16 (by decide), eg9 1 (by decide), eg9 15 (by decide), eg9 22 (by decide), eg9 29 (by decide), eg9 30 (by decide), eg9 33 (by decide), eg9 36 (by decide), eg9 42 (by decide), eg9 50 (by decide), eg14]; exact h), ?_, ?_, ⟨fun o ho => ?_, fun o ho => ?_⟩, (by have h := i7; unfold A_R at h ⊢; simp only [en, eK, eL, eY, eP, eI 2 (by decide), eI 102 (by decide), eI 104 (by decide), eI 200 (by decide), eI 203 (by decide), eI 301 (by decide), eI 302 (by decide), eI 405 (by decide), eI 406 (by decide), eI 501 (by decide), eI 603 (by decide), eI 604 (by decide), eI 605 (by decide), eI 701 (by decide), eI 800 (by decide), eI 801 (by decide), eI 802 (by decide), eI 903 (by decide), eI 904 (by decide), eI 905 (by decide), eI 906 (by decide), eI 907 (by decide), eI 1000 (by decide), eI 1001 (by decide), eI 1105 (by decide), eI 1108 (by decide), eM 1 (by decide), eM 2 (by decide), eM 3 (by decide), eM 4 (by decide), eM 5 (by decide), eM 6 (by decide), eM 7 (by decide), eM 8 (by decide), eM 9 (by decide), eM 10 (by decide), eM 11 (by decide), eM 12 (by decide), eM 13 (by decide), eM 14 (by decide), eM 15 (by decide), eM 16 (by decide), eM 17 (by decide), eM 18 (by decide), eM 19 (by decide), eM 20 (by decide), eM 21 (by decide), eM 22 (by decide), eM 23 (by decide), eM 24 (by decide), eM 25 (by decide), eM 26 (by decide), eM 27 (by decide), eM 28 (by decide), eM 29 (by decide), eM 30 (by decide), eM 31 (by decide), eM 32 (by decide), eM 33 (by decide), eM 34 (by decide), eM 35 (by decide), eM 36 (by decide), eM 39 (by decide), eM 40 (by decide), eM 41 (by decide), eM 42 (by decide), eM 43 (by decide), eM 44 (by decide), eM 45 (by decide), eM 46 (by decide), eM 47 (by decide), eM 48 (by decide), eM 49 (by decide), eM 50 (by decide), eg 0 (by decide), eg 1 (by decide), eg 2 (by decide), eg 3 (by decide), eg 4 (by decide), eg 5 (by decide), eg 6 (by decide), eg 7 (by decide), eg 8 (by decide), eg 10 (by decide), eg 11 (by decide), eg 12 (by decide), eg 15 (by decide), eg 16 (by decide), eg9 1 (by decide), eg9 15 (by decide), eg9 22 (by decide), eg9 29 (by decide), eg9 30 (by decide), eg9 33 (by decide), eg9 36 (by decide), eg9 42 (by decide), eg9 50 (by decide), eg14]; exact h), (by have h := i8; unfold A_H at h ⊢; simp only [en, eK, eL, eY, eP, eI 2 (by decide), eI 102 (by decide), eI 104 (by decide), eI 200 (by decide), eI 203 (by decide), eI 301 (by decide), eI 302 (by decide), eI 405 (by decide), eI 406 (by decide), eI 501 (by decide), eI 603 (by decide), eI 604 (by decide), eI 605 (by decide), eI 701 (by decide), eI 800 (by decide), eI 801 (by decide), eI 802 (by decide), eI 903 (by decide), eI 904 (by decide), eI 905 (by decide), eI 906 (by decide), eI 907 (by decide), eI 1000 (by decide), eI 1001 (by decide), eI 1105 (by decide), eI 1108 (by decide), eM 1 (by decide), eM 2 (by decide), eM 3 (by decide), eM 4 (by decide), eM 5 (by decide), eM 6 (by decide), eM 7 (by decide), eM 8 (by decide), eM 9 (by decide), eM 10 (by decide), eM 11 (by decide), eM 12 (by decide), eM 13 (by decide), eM 14 (by decide), eM 15 (by decide), eM 16 (by decide), eM 17 (by decide), eM 18 (by decide), eM 19 (by decide), eM 20 (by decide), eM 21 (by decide), eM 22 (by decide), eM 23 (by decide), eM 24 (by decide), eM 25 (by decide), eM 26 (by decide), eM 27 (by decide), eM 28 (by decide), eM 29 (by decide), eM 30 (by decide), eM 31 (by decide), eM 32 (by decide), eM 33 (by decide), eM 34 (by decide), eM 35 (by decide), eM 36 (by decide), eM 39 (by decide), eM 40 (by decide), eM 41 (by decide), eM 42 (by decide), eM 43 (by decide), eM 44 (by decide), eM 45 (by decide), eM 46 (by decide), eM 47 (by decide), eM 48 (by decide), eM 49 (by decide), eM 50 (by decide), eg 0 (by decide), eg 1 (by decide), eg 2 (by decide), eg 3 (by decide), eg 4 (by decide), eg 5 (by decide), eg 6 (by decide), eg 7 (by decide), eg 8 (by decide), eg 10 (by decide), eg 11 (by decide), eg 12 (by decide), eg 15 (by decide), eg 16 (by decide), eg9 1 (by decide), eg9 15 (by decide), eg9 22 (by decide), eg9 29 (by decide), eg9 30 (by decide), eg9 33 (by decide), eg9 36 (by decide), eg9 42 (by decide), eg9 50 (by decide), eg14]; exact h), (by have h := i9; unfold A_K jb fn el wt at h ⊢; simp only [en, eK, eL, eY, eP, eI 2 (by decide), eI 102 (by decide), eI 104 (by decide), eI 200 (by decide), eI 203 (by decide), eI 301 (by decide), eI 302 (by decide), eI 405 (by decide), eI 406 (by decide), eI 501 (by decide), eI 603 (by decide), eI 604 (by decide), eI 605 (by decide), eI 701 (by decide), eI 800 (by decide), eI 801 (by decide), eI 802 (by decide), eI 903 (by decide), eI 904 (by decide), eI 905 (by decide), eI 906 (by decide), eI 907 (by decide), eI 1000 (by decide), eI 1001 (by decide), eI 1105 (by decide), eI 1108 (by decide), eM 1 (by decide), eM 2 (by decide), eM 3 (by decide), eM 4 (by decide), eM 5 (by decide), eM 6 (by decide), eM 7 (by decide), eM 8 (by decide), eM 9 (by decide), eM 10 (by decide), eM 11 (by decide), eM 12 (by decide), eM 13 (by decide), eM 14 (by decide), eM 15 (by decide), eM 16 (by decide), eM 17 (by decide), eM 18 (by decide), eM 19 (by decide), eM 20 (by decide), eM 21 (by decide), eM 22 (by decide), eM 23 (by decide), eM 24 (by decide), eM 25 (by decide), eM 26 (by decide), eM 27 (by decide), eM 28 (by decide), eM 29 (by decide), eM 30 (by decide), eM 31 (by decide), eM 32 (by decide), eM 33 (by decide), eM 34 (by decide), eM 35 (by decide), eM 36 (by decide), eM 39 (by decide), eM 40 (by decide), eM 41 (by decide), eM 42 (by decide), eM 43 (by decide), eM 44 (by decide), eM 45 (by decide), eM 46 (by decide), eM 47 (by decide), eM 48 (by decide), eM 49 (by decide), eM 50 (by decide), eg 0 (by decide), eg 1 (by decide), eg 2 (by decide), eg 3 (by decide), eg 4 (by decide), eg 5 (by decide), eg 6 (by decide), eg 7 (by decide), eg 8 (by decide), eg 10 (by decide), eg 11 (by decide), eg 12 (by decide), eg 15 (by decide), eg 16 (by decide), eg9 1 (by decide), eg9 15 (by decide), eg9 22 (by decide), eg9 29 (by decide), eg9 30 (by decide), eg9 33 (by decide), eg9 36 (by decide), eg9 42 (by decide), eg9 50 (by decide), eg14]; exact h), (by have h := i10; unfold A_W at h ⊢; simp only [en, eK, eL, eY, eP, eI 2 (by decide), eI 102 (by decide), eI 104 (by decide), eI 200 (by decide), eI 203 (by decide), eI 301 (by decide), eI 302 (by decide), eI 405 (by decide), eI 406 (by decide), eI 501 (by decide), eI 603 (by decide), eI 604 (by decide), eI 605 (by decide), eI 701 (by decide), eI 800 (by decide), eI 801 (by decide), eI 802 (by decide), eI 903 (by decide), eI 904 (by decide), eI 905 (by decide), eI 906 (by decide), eI 907 (by decide), eI 1000 (by decide), eI 1001 (by decide), eI 1105 (by decide), eI 1108 (by decide), eM 1 (by decide), eM 2 (by decide), eM 3 (by decide), eM 4 (by decide), eM 5 (by decide), eM 6 (by decide), eM 7 (by decide), eM 8 (by decide), eM 9 (by decide), eM 10 (by decide), eM 11 (by decide), eM 12 (by decide), eM 13 (by decide), eM 14 (by decide), eM 15 (by decide), eM 16 (by decide), eM 17 (by decide), eM 18 (by decide), eM 19 (by decide), eM 20 (by decide), eM 21 (by decide), eM 22 (by decide), eM 23 (by decide), eM 24 (by decide), eM 25 (by decide), eM 26 (by decide), eM 27 (by decide), eM 28 (by decide), eM 29 (by decide), eM 30 (by decide), eM 31 (by decide), eM 32 (by decide), eM 33 (by decide), eM 34 (by decide), eM 35 (by decide), eM 36 (by decide), eM 39 (by decide), eM 40 (by decide), eM 41 (by decide), eM 42 (by decide), eM 43 (by decide), eM 44 (by decide), eM 45 (by decide), eM 46 (by decide), eM 47 (by decide), eM 48 (by decide), eM 49 (by decide), eM 50 (by decide), eg 0 (by decide), eg 1 (by decide), eg 2 (by decide), eg 3 (by decide), eg 4 (by decide), eg 5 (by decide), eg 6 (by decide), eg 7 (by decide), eg 8 (by decide), eg 10 (by decide), eg 11 (by decide), eg 12 (by decide), eg 15 (by decide), eg 16 (by decide), eg9 1 (by decide), eg9 15 (by decide), eg9 22 (by decide), eg9 29 (by decide), eg9 30 (by decide), eg9 33 (by decide), eg9 36 (by decide), eg9 42 (by decide), eg9 50 (by decide), eg14]; exact h), (by have h := i11; unfold A_Q jq at h ⊢; simp only [en, eK, eL, eY, eP, eI 2 (by decide), eI 102 (by decide), eI 104 (by decide), eI 200 (by decide), eI 203 (by decide), eI 301 (by decide), eI 302 (by decide), eI 405 (by decide), eI 406 (by decide), eI 501 (by decide), eI 603 (by decide), eI 604 (by decide), eI 605 (by decide), eI 701 (by decide), eI 800 (by decide), eI 801 (by decide), eI 802 (by decide), eI 903 (by decide), eI 904 (by decide), eI 905 (by decide), eI 906 (by decide), eI 907 (by decide), eI 1000 (by decide), eI 1001 (by decide), eI 1105 (by decide), eI 1108 (by decide), eM 1 (by decide), eM 2 (by decide), eM 3 (by decide), eM 4 (by decide), eM 5 (by decide), eM 6 (by decide), eM 7 (by decide), eM 8 (by decide), eM 9 (by decide), eM 10 (by decide), eM 11 (by decide), eM 12 (by decide), eM 13 (by decide), eM 14 (by decide), eM 15 (by decide), eM 16 (by decide), eM 17 (by decide), eM 18 (by decide), eM 19 (by decide), eM 20 (by decide), eM 21 (by decide), eM 22 (by decide), eM 23 (by decide), eM 24 (by decide), eM 25 (by decide), eM 26 (by decide), eM 27 (by decide), eM 28 (by decide), eM 29 (by decide), eM 30 (by decide), eM 31 (by decide), eM 32 (by decide), eM 33 (by decide), eM 34 (by decide), eM 35 (by decide), eM 36 (by decide), eM 39 (by decide), eM 40 (by decide), eM 41 (by decide), eM 42 (by decide), eM 43 (by decide), eM 44 (by decide), eM 45 (by decide), eM 46 (by decide), eM 47 (by decide), eM 48 (by decide), eM 49 (by decide), eM 50 (by decide), eg 0 (by decide), eg 1 (by decide), eg 2 (by decide), eg 3 (by decide), eg 4 (by decide), eg 5 (by decide), eg 6 (by decide), eg 7 (by decide), eg 8 (by decide), eg 10 (by decide), eg 11 (by decide), eg 12 (by decide), eg 15 (by decide), eg 16 (by decide), eg9 1 (by decide), eg9 15 (by decide), eg9 22 (by decide), eg9 29 (by decide), eg9 30 (by decide), eg9 33 (by decide), eg9 36 (by decide), eg9 42 (by decide), eg9 50 (by decide), eg14]; exact h), fun q hq => ?_⟩
  · unfold A_cnt at i1 ⊢
    simp only [en, eK, eL, eY, eP, eI 2 (by decide), eI 102 (by decide), eI 104 (by decide), eI 200 (by decide), eI 203 (by decide), eI 301 (by decide), eI 302 (by decide), eI 405 (by decide), eI 406 (by decide), eI 501 (by decide), eI 603 (by decide), eI 604 (by decide), eI 605 (by decide), eI 701 (by decide), eI 800 (by decide), eI 801 (by decide), eI 802 (by decide), eI 903 (by decide), eI 904 (by decide), eI 905 (by decide), eI 906 (by decide), eI 907 (by decide), eI 1000 (by decide), eI 1001 (by decide), eI 1105 (by decide), eI 1108 (by decide), eM 1 (by decide), eM 2 (by decide), eM 3 (by decide), eM 4 (by decide), eM 5 (by decide), eM 6 (by decide), eM 7 (by decide), eM 8 (by decide), eM 9 (by decide), eM 10 (by decide), eM 11 (by decide), eM 12 (by decide), eM 13 (by decide), eM 14 (by decide), eM 15 (by decide), eM 16 (by decide), eM 17 (by decide), eM 18 (by decide), eM 19 (by decide), eM 20 (by decide), eM 21 (by decide), eM 22 (by decide), eM 23 (by decide), eM 24 (by decide), eM 25 (by decide), eM 26 (by decide), eM 27 (by decide), eM 28 (by decide), eM 29 (by decide), eM 30 (by decide), eM 31 (by decide), eM 32 (by decide), eM 33 (by decide), eM 34 (by decide), eM 35 (by decide), eM 36 (by decide), eM 39 (by decide), eM 40 (by decide), eM 41 (by decide), eM 42 (by decide), eM 43 (by decide), eM 44 (by decide), eM 45 (by decide), eM 46 (by decide), eM 47 (by decide), eM 48 (by decide), eM 49 (by decide), eM 50 (by decide), eg 0 (by decide), eg 1 (by decide), eg 2 (by decide), eg 3 (by decide), eg 4 (by decide), eg 5 (by decide), eg 6 (by decide), eg 7 (by decide), eg 8 (by decide), eg 10 (by decide), eg 11 (by decide), eg 12 (by decide), eg 15 (by decide), eg 16 (by decide), eg9 1 (by decide), eg9 15 (by decide), eg9 22 (by decide), eg9 29 (by decide), eg9 30 (by decide), eg9 33 (by decide), eg9 36 (by decide), eg9 42 (by decide), eg9 50 (by decide), eg14, e38, m38]
    obtain ⟨j1, j2, j3, j4, j5, j6, j7, -, j9, j10⟩ := i1
    exact ⟨j1, j2, j3, j4, j5, j6, j7, trivial, j9, j10⟩
  · unfold A_bd un14 at i2 ⊢
    simp only [en, eK, eL, eY, eP, eI 2 (by decide), eI 102 (by decide), eI 104 (by decide), eI 200 (by decide), eI 203 (by decide), eI 301 (by decide), eI 302 (by decide), eI 405 (by decide), eI 406 (by decide), eI 501 (by decide), eI 603 (by decide), eI 604 (by decide), eI 605 (by decide), eI 701 (by decide), eI 800 (by decide), eI 801 (by decide), eI 802 (by decide), eI 903 (by decide), eI 904 (by decide), eI 905 (by decide), eI 906 (by decide), eI 907 (by decide), eI 1000 (by decide), eI 1001 (by decide), eI 1105 (by decide), eI 1108 (by decide), eM 1 (by decide), eM 2 (by decide), eM 3 (by decide), eM 4 (by decide), eM 5 (by decide), eM 6 (by decide), eM 7 (by decide), eM 8 (by decide), eM 9 (by decide), eM 10 (by decide), eM 11 (by decide), eM 12 (by decide), eM 13 (by decide), eM 14 (by decide), eM 15 (by decide), eM 16 (by decide), eM 17 (by decide), eM 18 (by decide), eM 19 (by decide), eM 20 (by decide), eM 21 (by decide), eM 22 (by decide), eM 23 (by decide), eM 24 (by decide), eM 25 (by decide), eM 26 (by decide), eM 27 (by decide), eM 28 (by decide), eM 29 (by decide), eM 30 (by decide), eM 31 (by decide), eM 32 (by decide), eM 33 (by decide), eM 34 (by decide), eM 35 (by decide), eM 36 (by decide), eM 39 (by decide), eM 40 (by decide), eM 41 (by decide), eM 42 (by decide), eM 43 (by decide), eM 44 (by decide), eM 45 (by decide), eM 46 (by decide), eM 47 (by decide), eM 48 (by decide), eM 49 (by decide), eM 50 (by decide), eg 0 (by decide), eg 1 (by decide), eg 2 (by decide), eg 3 (by decide), eg 4 (by decide), eg 5 (by decide), eg 6 (by decide), eg 7 (by decide), eg 8 (by decide), eg 10 (by decide), eg 11 (by decide), eg 12 (by decide), eg 15 (by decide), eg 16 (by decide), eg9 1 (by decide), eg9 15 (by decide), eg9 22 (by decide), eg9 29 (by decide), eg9 30 (by decide), eg9 33 (by decide), eg9 36 (by decide), eg9 42 (by decide), eg9 50 (by decide), eg14, e38]
    omega
  · unfold A_log at i4 ⊢
    simp only [en, eK, eL, eY, eP, eI 2 (by decide), eI 102 (by decide), eI 104 (by decide), eI 200 (by decide), eI 203 (by decide), eI 301 (by decide), eI 302 (by decide), eI 405 (by decide), eI 406 (by decide), eI 501 (by decide), eI 603 (by decide), eI 604 (by decide), eI 605 (by decide), eI 701 (by decide), eI 800 (by decide), eI 801 (by decide), eI 802 (by decide), eI 903 (by decide), eI 904 (by decide), eI 905 (by decide), eI 906 (by decide), eI 907 (by decide), eI 1000 (by decide), eI 1001 (by decide), eI 1105 (by decide), eI 1108 (by decide), eM 1 (by decide), eM 2 (by decide), eM 3 (by decide), eM 4 (by decide), eM 5 (by decide), eM 6 (by decide), eM 7 (by decide), eM 8 (by decide), eM 9 (by decide), eM 10 (by decide), eM 11 (by decide), eM 12 (by decide), eM 13 (by decide), eM 14 (by decide), eM 15 (by decide), eM 16 (by decide), eM 17 (by decide), eM 18 (by decide), eM 19 (by decide), eM 20 (by decide), eM 21 (by decide), eM 22 (by decide), eM 23 (by decide), eM 24 (by decide), eM 25 (by decide), eM 26 (by decide), eM 27 (by decide), eM 28 (by decide), eM 29 (by decide), eM 30 (by decide), eM 31 (by decide), eM 32 (by decide), eM 33 (by decide), eM 34 (by decide), eM 35 (by decide), eM 36 (by decide), eM 39 (by decide), eM 40 (by decide), eM 41 (by decide), eM 42 (by decide), eM 43 (by decide), eM 44 (by decide), eM 45 (by decide), eM 46 (by decide), eM 47 (by decide), eM 48 (by decide), eM 49 (by decide), eM 50 (by decide), eg 0 (by decide), eg 1 (by decide), eg 2 (by decide), eg 3 (by decide), eg 4 (by decide), eg 5 (by decide), eg 6 (by decide), eg 7 (by decide), eg 8 (by decide), eg 10 (by decide), eg 11 (by decide), eg 12 (by decide), eg 15 (by decide), eg 16 (by decide), eg9 1 (by decide), eg9 15 (by decide), eg9 22 (by decide), eg9 29 (by decide), eg9 30 (by decide), eg9 33 (by decide), eg9 36 (by decide), eg9 42 (by decide), eg9 50 (by decide), eg14]
    rw [eX (g 14 7) (by intro e; have := i4.2.2.1; rw [e] at this; omega)]
    exact i4
  · unfold A_itm
    simp only [en, eK, eL, eY, eP, eI 2 (by decide), eI 102 (by decide), eI 104 (by decide), eI 200 (by decide), eI 203 (by decide), eI 301 (by decide), eI 302 (by decide), eI 405 (by decide), eI 406 (by decide), eI 501 (by decide), eI 603 (by decide), eI 604 (by decide), eI 605 (by decide), eI 701 (by decide), eI 800 (by decide), eI 801 (by decide), eI 802 (by decide), eI 903 (by decide), eI 904 (by decide), eI 905 (by decide), eI 906 (by decide), eI 907 (by decide), eI 1000 (by decide), eI 1001 (by decide), eI 1105 (by decide), eI 1108 (by decide), eM 1 (by decide), eM 2 (by decide), eM 3 (by decide), eM 4 (by decide), eM 5 (by decide), eM 6 (by decide), eM 7 (by decide), eM 8 (by decide), eM 9 (by decide), eM 10 (by decide), eM 11 (by decide), eM 12 (by decide), eM 13 (by decide), eM 14 (by decide), eM 15 (by decide), eM 16 (by decide), eM 17 (by decide), eM 18 (by decide), eM 19 (by decide), eM 20 (by decide), eM 21 (by decide), eM 22 (by decide), eM 23 (by decide), eM 24 (by decide), eM 25 (by decide), eM 26 (by decide), eM 27 (by decide), eM 28 (by decide), eM 29 (by decide), eM 30 (by decide), eM 31 (by decide), eM 32 (by decide), eM 33 (by decide), eM 34 (by decide), eM 35 (by decide), eM 36 (by decide), eM 39 (by decide), eM 40 (by decide), eM 41 (by decide), eM 42 (by decide), eM 43 (by decide), eM 44 (by decide), eM 45 (by decide), eM 46 (by decide), eM 47 (by decide), eM 48 (by decide), eM 49 (by decide), eM 50 (by decide), eg 0 (by decide), eg 1 (by decide), eg 2 (by decide), eg 3 (by decide), eg 4 (by decide), eg 5 (by decide), eg 6 (by decide), eg 7 (by decide), eg 8 (by decide), eg 10 (by decide), eg 11 (by decide), eg 12 (by decide), eg 15 (by decide), eg 16 (by decide), eg9 1 (by decide), eg9 15 (by decide), eg9 22 (by decide), eg9 29 (by decide), eg9 30 (by decide), eg9 33 (by decide), eg9 36 (by decide), eg9 42 (by decide), eg9 50 (by decide), eg14, e38]
    refine ⟨c1, c2, c3, c4, eI1, fun i hi => ?_⟩
    rw [eXc, hM]
    unfold upd
    by_cases h : i = g 9 38
    · subst h; simp only [r_m]; simp; exact hv
    · rw [if_neg h]; simp only [r_m]; simp [h]; exact c6 i (by omega)
  · rw [eg9 1 (by decide)] at ho
    obtain ⟨h1, h2, h3, h4⟩ := i6.1 o ho
    unfold tk kp at h4 ⊢
    simp only [en, eK, eL, eY, eP, eI 2 (by decide), eI 102 (by decide), eI 104 (by decide), eI 200 (by decide), eI 203 (by decide), eI 301 (by decide), eI 302 (by decide), eI 405 (by decide), eI 406 (by decide), eI 501 (by decide), eI 603 (by decide), eI 604 (by decide), eI 605 (by decide), eI 701 (by decide), eI 800 (by decide), eI 801 (by decide), eI 802 (by decide), eI 903 (by decide), eI 904 (by decide), eI 905 (by decide), eI 906 (by decide), eI 907 (by decide), eI 1000 (by decide), eI 1001 (by decide), eI 1105 (by decide), eI 1108 (by decide), eM 1 (by decide), eM 2 (by decide), eM 3 (by decide), eM 4 (by decide), eM 5 (by decide), eM 6 (by decide), eM 7 (by decide), eM 8 (by decide), eM 9 (by decide), eM 10 (by decide), eM 11 (by decide), eM 12 (by decide), eM 13 (by decide), eM 14 (by decide), eM 15 (by decide), eM 16 (by decide), eM 17 (by decide), eM 18 (by decide), eM 19 (by decide), eM 20 (by decide), eM 21 (by decide), eM 22 (by decide), eM 23 (by decide), eM 24 (by decide), eM 25 (by decide), eM 26 (by decide), eM 27 (by decide), eM 28 (by decide), eM 29 (by decide), eM 30 (by decide), eM 31 (by decide), eM 32 (by decide), eM 33 (by decide), eM 34 (by decide), eM 35 (by decide), eM 36 (by decide), eM 39 (by decide), eM 40 (by decide), eM 41 (by decide), eM 42 (by decide), eM 43 (by decide), eM 44 (by decide), eM 45 (by decide), eM 46 (by decide), eM 47 (by decide), eM 48 (by decide), eM 49 (by decide), eM 50 (by decide), eg 0 (by decide), eg 1 (by decide), eg 2 (by decide), eg 3 (by decide), eg 4 (by decide), eg 5 (by decide), eg 6 (by decide), eg 7 (by decide), eg 8 (by decide), eg 10 (by decide), eg 11 (by decide), eg 12 (by decide), eg 15 (by decide), eg 16 (by decide), eg9 1 (by decide), eg9 15 (by decide), eg9 22 (by decide), eg9 29 (by decide), eg9 30 (by decide), eg9 33 (by decide), eg9 36 (by decide), eg9 42 (by decide), eg9 50 (by decide), eg14]
    refine ⟨h1, h2, h3, ?_⟩
    rcases h4 with h | h | h | h | ⟨h1, h2, b, h3, h4, h5, h6, h7, h8⟩
    · exact Or.inl h
    · exact Or.inr (Or.inl h)
    · exact Or.inr (Or.inr (Or.inl h))
    · exact Or.inr (Or.inr (Or.inr (Or.inl h)))
    · refine Or.inr (Or.inr (Or.inr (Or.inr ⟨h1, h2, b, h3, h4, h5, h6, ?_, ?_⟩)))
      · rw [eX b (by rintro rfl; omega)]; exact h7
      · rw [eX b (by rintro rfl; omega)]; exact h8
  · rw [eg9 1 (by decide)] at ho
    rw [eM 7 (by decide)]; exact i6.2 o ho
  · rw [eg9 50 (by decide)] at hq
    obtain ⟨h1, h2, h3, h4, h5, h6, h7, h8, r, h9, h10, h11⟩ := i12 q hq
    have hX : dX S' (g 5 q) = dX S (g 5 q) := eX _ (by intro e; rw [e] at h8; omega)
    unfold gr un41 at h11 ⊢
    simp only [en, eK, eL, eY, eP, eI 2 (by decide), eI 102 (by decide), eI 104 (by decide), eI 200 (by decide), eI 203 (by decide), eI 301 (by decide), eI 302 (by decide), eI 405 (by decide), eI 406 (by decide), eI 501 (by decide), eI 603 (by decide), eI 604 (by decide), eI 605 (by decide), eI 701 (by decide), eI 800 (by decide), eI 801 (by decide), eI 802 (by decide), eI 903 (by decide), eI 904 (by decide), eI 905 (by decide), eI 906 (by decide), eI 907 (by decide), eI 1000 (by decide), eI 1001 (by decide), eI 1105 (by decide), eI 1108 (by decide), eM 1 (by decide), eM 2 (by decide), eM 3 (by decide), eM 4 (by decide), eM 5 (by decide), eM 6 (by decide), eM 7 (by decide), eM 8 (by decide), eM 9 (by decide), eM 10 (by decide), eM 11 (by decide), eM 12 (by decide), eM 13 (by decide), eM 14 (by decide), eM 15 (by decide), eM 16 (by decide), eM 17 (by decide), eM 18 (by decide), eM 19 (by decide), eM 20 (by decide), eM 21 (by decide), eM 22 (by decide), eM 23 (by decide), eM 24 (by decide), eM 25 (by decide), eM 26 (by decide), eM 27 (by decide), eM 28 (by decide), eM 29 (by decide), eM 30 (by decide), eM 31 (by decide), eM 32 (by decide), eM 33 (by decide), eM 34 (by decide), eM 35 (by decide), eM 36 (by decide), eM 39 (by decide), eM 40 (by decide), eM 41 (by decide), eM 42 (by decide), eM 43 (by decide), eM 44 (by decide), eM 45 (by decide), eM 46 (by decide), eM 47 (by decide), eM 48 (by decide), eM 49 (by decide), eM 50 (by decide), eg 0 (by decide), eg 1 (by decide), eg 2 (by decide), eg 3 (by decide), eg 4 (by decide), eg 5 (by decide), eg 6 (by decide), eg 7 (by decide), eg 8 (by decide), eg 10 (by decide), eg 11 (by decide), eg 12 (by decide), eg 15 (by decide), eg 16 (by decide), eg9 1 (by decide), eg9 15 (by decide), eg9 22 (by decide), eg9 29 (by decide), eg9 30 (by decide), eg9 33 (by decide), eg9 36 (by decide), eg9 42 (by decide), eg9 50 (by decide), eg14]
    rw [hX]
    exact ⟨h1, h2, h3, h4, h5, h6, h7, h8, r, h9, h10, h11⟩
/-- a value names no object that is still to come -/
theorem val_ok {v : Int32} (hI : Inv e0 d t x g w S M) (h : q_isValue M v = some (1, M)) : ∀ o, g 9 1 ≤ o → o < 2 ^ 30 → v ≠ -2 - nI o := by
  have hN := Inv_nums hI
  intro o h1 h2 e
  have hle : v ≤ -2 := by rw [e]; exact v_le (by omega)
  have hlt : v < -1 := Int32.lt_of_le_of_lt hle (by decide)
  have c1 : M 1 0 = nI (g 9 1) := hI.1.1
  have e2 : (-2 : Int32) - v = nI o := by rw [e, i22]
  unfold q_isValue q_isValue_12 q_isObject at h
  rw [if_pos hlt, if_neg (Int32.not_lt.mpr hle), e2, c1, if_pos (nI_le h1 (by omega)), chk_i (Or.inl rfl), bnd2_s, if_pos rfl, chk_i (Or.inl rfl)] at h
  exact absurd (congrArg (fun y => y.1) (Option.some.inj h)) (by show ¬ (0 : Int32) = 1; decide)
theorem st_item : St_item (Rel e0 d) d e0 := by
  intro t S M c z p1 hfr ht hR
  obtain ⟨g, w, hE⟩ := ent_of hfr ht hR
  have hI1 := E1 hE
  have hN := Inv_nums hI1
  have hd := hI1.2.2.1.2.1
  have bd := hE.2.1.2.1
  unfold A_bd at bd
  have m38 : mput M 0 0 0 38 0 = nI (g 9 38) := hI1.1.2.2.2.2.2.2.2.1
  obtain ⟨a1, a2, a3, a4, a5, a6⟩ := hI1.2.2.2.2.1
  refine step_of ?_
  unfold q_X11_item q_item
  rcases val_run p1 hI1 with ⟨vD, vM⟩ | ⟨vD, vM⟩
  · refine w_chk hd <| w_bx vD <| w_chk hd ?_
    rw [a5]
    have e200 : (200 : Int32) = nI 200 := rfl
    by_cases h : g 9 38 < 200
    · have hin : inb (nI (g 9 38)) 200 := inb_nI h (by omega)
      refine w_ip (by rw [e200]; exact nI_lt h (by omega)) <| w_bnd a1 <| w_chk a2 <| w_chk (by rw [a4]; exact hin) <| w_lt ?_
      rw [nI_clamp (by omega)]
      refine w_lt <| w_some ?_
      rw [show dI (sX S (g 14 6) (upd (dX S (g 14 6)) (g 9 38) p1)) 1103 d = nI (g 9 38) from a5, nI_1]
      have hP := P_item (v := p1) hI1 h (by omega) (by omega) (val_ok hI1 vM) rfl rfl rfl
      refine m_lt <| m_b2 vM <| m_in i32_10 ?_
      rw [m38]
      refine m_in (by rw [e200]; intro e; have := nI_inj (by omega) (by omega) e; omega) <| m_chk hin <| m_lt ?_
      rw [nI_clamp (by omega)]
      have k38 : mput (mput M 0 0 0) 37 (g 9 38) p1 38 0 = nI (g 9 38) := by rw [r_m, if_neg (by omega)]; exact m38
      rw [k38, nI_1]
      refine m_lt <| m_some (ok_ok hE (Or.inl rfl) rfl ?_ ?_ ⟨_, w, 0, 0, hP, ?_, ?_, by omega, by omega⟩)
      · rw [r_m, if_neg (by omega), r_m, if_neg (by omega)]; exact m00
      · simp [r_KI, r_LI, r_PI, r_XI, r_YI, r_nI, r_II, r_KP, r_LP, r_IP, r_XP, r_YP, r_nP, r_PP, r_KX, r_LX, r_IX, r_PX, r_YX, r_nX, r_XX, r_KY, r_LY, r_IY, r_PY, r_XY, r_nY, r_YY, r_KO, r_LO, r_IO, r_PO, r_XO, r_YO, r_nO, r_KA, r_LA, r_IA, r_PA, r_XA, r_YA, r_nA, r_KB, r_LB, r_IB, r_PB, r_XB, r_YB, r_nB, r_m]
      · rw [r_gf (by omega)]; exact hE.2.2.2.1
      · unfold Cs pc pz
        simp only [r_LI, r_LX]
        simp [r_g]
    · refine w_in (by rw [e200]; exact nI_nlt (by omega) (by omega)) <| w_some <| m_lt <| m_b2 vM <| m_in i32_10 ?_
      rw [m38]
      exact m_ip (by rw [e200]; congr 1; omega) <| m_b2 fails_eq <| m_some (th_ok hE (by decide) (Or.inr (Or.inr rfl)) rfl (by omega) (by omega))
  · exact w_chk hd <| w_bt vD (by decide) <| m_lt <| m_b2 vM <| m_ip rfl <| m_b2 fails_eq <| m_some (th_ok hE (by decide) (Or.inr (Or.inl rfl)) rfl (by omega) (by omega))
/-- a class's number between 0 and n -/
theorem rr_run {v : Int32} {k : Nat} (hk : k < 100) : (∃ j, j ≤ k ∧ v = nI j ∧ ¬ v < 0 ∧ ¬ nI k < v ∧ q_X11_requireRange e0 S d v 0 (nI k) = some ((0, 0), S, 0, 0)) ∨ (q_X11_requireRange e0 S d v 0 (nI k) = some ((1, 0), S, 1, 6) ∧ (v < 0 ∨ (¬ v < 0 ∧ nI k < v))) := by
  unfold q_X11_requireRange
  rcases pk_ix v (n := k + 1) (by omega) with h | h | ⟨j, hj, rfl⟩
  · exact Or.inr ⟨by rw [if_pos h], Or.inl h⟩
  · by_cases h0 : v < 0
    · exact Or.inr ⟨by rw [if_pos h0], Or.inl h0⟩
    · have hlt : nI k < v := Int32.lt_of_lt_of_le (nI_lt (by omega) (by omega)) h
      exact Or.inr ⟨by rw [if_neg h0, if_neg (Int32.not_le.mpr hlt)], Or.inr ⟨h0, hlt⟩⟩
  · exact Or.inl ⟨j, by omega, rfl, nI_pos (by omega), nI_nlt (by omega) (by omega), by rw [if_neg (nI_pos (by omega)), if_pos (nI_le (by omega) (by omega))]⟩
theorem st_thenable : St_thenable (Rel e0 d) d e0 := by
  intro t S M c z p1 p2 p3 p4 p5 hfr ht hR
  obtain ⟨g, w, hE⟩ := ent_of hfr ht hR
  have hI1 := E1 hE
  have hN := Inv_nums hI1
  have hd := hI1.2.2.1.2.1
  have hth : RM (some ((0 : Int32), mput (mput M 0 0 0) 0 0 1)) (fun r' M' => ok2 ((1, 0) : Nat × Int32).1 ∧ M' 0 0 = cd2 ((1, 0) : Nat × Int32).1 ∧ (((1, 0) : Nat × Int32).1 = 0 → ((1, 0) : Nat × Int32).2 = r') ∧ Rel e0 d (t + 1) S.2 M' (c + 1) (z + 6)) := m_some (th_ok hE (by decide) (Or.inr (Or.inl rfl)) rfl (by omega) (by omega))
  have e2 : (2 : Int32) = nI 2 := rfl
  have e4 : (4 : Int32) = nI 4 := rfl
  refine step_of ?_
  unfold q_X11_thenable q_thenable
  rcases rr_run (e0 := e0) (d := d) (S := S) (v := p1) (k := 2) (by omega) with ⟨j1, hj1, ej1, n1, n1', rD⟩ | ⟨rD, hbad⟩
  · rcases rr_run (e0 := e0) (d := d) (S := S) (v := p2) (k := 4) (by omega) with ⟨j2, hj2, ej2, n2, n2', rD2⟩ | ⟨rD2, hbad⟩
    · rcases rr_run (e0 := e0) (d := d) (S := S) (v := p4) (k := 4) (by omega) with ⟨j4, hj4, ej4, n4, n4', rD4⟩ | ⟨rD4, hbad⟩
      · have hMh : ∀ Q, RM (bnd2 (q_isValue (mput M 0 0 0) p3) (fun r15 M14 => if r15 = 0 then bnd2 (q_fails M14 1) (fun r17 M16 => some (r17, M16)) else bnd2 (q_isValue M14 p5) (fun r19 M18 => if r19 = 0 then bnd2 (q_fails M18 1) (fun r32 M31 => some (r32, M31)) else bnd2 (q_isFull M18 8) (fun r21 M20 => if r21 = 0 then bnd2 (q_newObject M20 1) (fun r23 M22 => chk (inb r23 3000) (lt9 (mput M22 8 r23.toNatClampNeg p1) (fun M24 => chk (inb r23 3000) (lt9 (mput M24 9 r23.toNatClampNeg p2) (fun M25 => chk (inb r23 3000) (lt9 (mput M25 10 r23.toNatClampNeg p3) (fun M26 => chk (inb r23 3000) (lt9 (mput M26 11 r23.toNatClampNeg p4) (fun M27 => chk (inb r23 3000) (lt9 (mput M27 12 r23.toNatClampNeg p5) (fun M28 => some (-2 - r23, M28)))))))))))) else bnd2 (q_fails M20 2) (fun r30 M29 => some (r30, M29)))))) Q → RM (lt9 (mput M 0 0 0) (fun M1 => if p1 < 0 then bnd2 (q_fails M1 1) (fun r3 M2 => some (r3, M2)) else if 2 < p1 then bnd2 (q_fails M1 1) (fun r5 M4 => some (r5, M4)) else if p2 < 0 then bnd2 (q_fails M1 1) (fun r7 M6 => some (r7, M6)) else if 4 < p2 then bnd2 (q_fails M1 1) (fun r9 M8 => some (r9, M8)) else if p4 < 0 then bnd2 (q_fails M1 1) (fun r11 M10 => some (r11, M10)) else if 4 < p4 then bnd2 (q_fails M1 1) (fun r13 M12 => some (r13, M12)) else bnd2 (q_isValue M1 p3) (fun r15 M14 => if r15 = 0 then bnd2 (q_fails M14 1) (fun r17 M16 => some (r17, M16)) else bnd2 (q_isValue M14 p5) (fun r19 M18 => if r19 = 0 then bnd2 (q_fails M18 1) (fun r32 M31 => some (r32, M31)) else bnd2 (q_isFull M18 8) (fun r21 M20 => if r21 = 0 then bnd2 (q_newObject M20 1) (fun r23 M22 => chk (inb r23 3000) (lt9 (mput M22 8 r23.toNatClampNeg p1) (fun M24 => chk (inb r23 3000) (lt9 (mput M24 9 r23.toNatClampNeg p2) (fun M25 => chk (inb r23 3000) (lt9 (mput M25 10 r23.toNatClampNeg p3) (fun M26 => chk (inb r23 3000) (lt9 (mput M26 11 r23.toNatClampNeg p4) (fun M27 => chk (inb r23 3000) (lt9 (mput M27 12 r23.toNatClampNeg p5) (fun M28 => some (-2 - r23, M28)))))))))))) else bnd2 (q_fails M20 2) (fun r30 M29 => some (r30, M29))))))) Q := fun Q hQ => m_lt <| m_in n1 <| m_in n1' <| m_in n2 <| m_in n2' <| m_in n4 <| m_in n4' hQ
        refine w_chk hd <| w_bx rD <| w_chk hd <| w_bx rD2 <| w_chk hd <| w_bx rD4 <| w_chk hd ?_
        rcases val_run p3 hI1 with ⟨vD, vM⟩ | ⟨vD, vM⟩
        · rcases val_run p5 hI1 with ⟨uD, uM⟩ | ⟨uD, uM⟩
          · rcases room_run 8 hI1 with ⟨hD, hM, h8⟩ | ⟨hD, hM⟩
            · have h8 := room_8 hN.2.1 h8
              have hfr1 := hI1.2.2.1.1
              have hk0 := K_dn hfr1
              have hS0 : Same S (sO S 10) := Same_sO hfr1 (by decide)
              obtain ⟨hIa, -⟩ := Inv_same hI1 hS0
              have hkq : dK (sO S 10) (dn S) = 10 := by simp [r_KI, r_LI, r_PI, r_XI, r_YI, r_nI, r_II, r_KP, r_LP, r_IP, r_XP, r_YP, r_nP, r_PP, r_KX, r_LX, r_IX, r_PX, r_YX, r_nX, r_XX, r_KY, r_LY, r_IY, r_PY, r_XY, r_nY, r_YY, r_KO, r_LO, r_IO, r_PO, r_XO, r_YO, r_nO, r_KA, r_LA, r_IA, r_PA, r_XA, r_YA, r_nA, r_KB, r_LB, r_IB, r_PB, r_XB, r_YB, r_nB]
              have hS1 : Same S (sI (sI (sI (sI (sI (sP (sI (sI (sO S 10) 1000 (dn S) (-2 - nI (g 9 1))) 1001 (dn S) 1) 1002 (dn S) none) 903 (dn S) p1) 904 (dn S) p2) 905 (dn S) p3) 906 (dn S) p4) 907 (dn S) p5) := Same_sI (Same_sI (Same_sI (Same_sI (Same_sI (Same_sP (Same_sI (Same_sI hS0 hk0) hk0) hk0) hk0) hk0) hk0) hk0) hk0
              obtain ⟨hI2, -⟩ := Inv_same hI1 hS1
              unfold q_X9_init q_X10_init
              refine w_bx vD <| w_chk hd <| w_bx uD <| w_chk hd <| w_bx hD <| w_tick <| w_lt <| w_lt <| w_chk hIa.2.2.1.2.1 <| w_bk (nextV hIa) <| w_bndc <| w_bndc <| w_chk (Or.inr (Or.inl hkq)) <| w_lt <| w_lt <| w_lt <| w_some <| w_chk hkq <| w_lt <| w_some <| w_chk hkq <| w_lt <| w_lt <| w_lt <| w_lt <| w_chk hI2.2.2.1.2.1 <| w_bnd hI2.2.2.1.2.2.2.2.1 <| w_chk hI2.2.2.1.2.2.2.2.2.2.2.1.1 <| w_bndc ?_
              refine w_mono (add_thing hI1 hS1 hk0 (Or.inr (Or.inl hkq))) ?_
              rintro r S2 C Z ⟨ed', f1, f2, f3, f4, f5, f6⟩
              have p := f4.2 (dn S) (by show dK (sO S 10) (dn S) ≠ 0; rw [hkq]; decide)
              have hne : dn S ≠ g 14 2 := by
                have := hI1.2.2.1.2.2.2.2.2.2.2.1.1
                have := hfr1 _ (by rw [this]; decide : dK S (g 14 2) ≠ 0)
                omega
              have hkq2 : dK S2 (dn S) = 10 := by rw [p.1]; exact hkq
              have pI : ∀ f, dI S2 f (dn S) = _ := fun f => (p.2.2.2.1 hne f).1
              have pP : ∀ f, dP S2 f (dn S) = _ := fun f => (p.2.2.2.1 hne f).2
              have k1000 : dI S2 1000 (dn S) = -2 - nI (g 9 1) := by rw [pI]; simp [r_KI, r_LI, r_PI, r_XI, r_YI, r_nI, r_II, r_KP, r_LP, r_IP, r_XP, r_YP, r_nP, r_PP, r_KX, r_LX, r_IX, r_PX, r_YX, r_nX, r_XX, r_KY, r_LY, r_IY, r_PY, r_XY, r_nY, r_YY, r_KO, r_LO, r_IO, r_PO, r_XO, r_YO, r_nO, r_KA, r_LA, r_IA, r_PA, r_XA, r_YA, r_nA, r_KB, r_LB, r_IB, r_PB, r_XB, r_YB, r_nB]
              have hiO : inb (nI (g 9 1)) 3000 := inb_nI (by omega) (by omega)
              have cO : (nI (g 9 1)).toNatClampNeg = g 9 1 := nI_clamp (by omega)
              obtain ⟨hI3, c3⟩ := P_thing hI1 hS1 hk0 (by show dK (sO S 10) (dn S) ≠ 0; rw [hkq]; decide) f4 f1 f2 f3 (by omega) (M' := mput (mput (mput (mput (mput (nO (mput M 0 0 0) (g 9 1) 1) 8 (g 9 1) p1) 9 (g 9 1) p2) 10 (g 9 1) p3) 11 (g 9 1) p4) 12 (g 9 1) p5) (by unfold nO; simp [r_m, nI_1]) (fun k i h1 h2 => by
                unfold nO
                rw [r_m, if_neg (by omega), r_m, if_neg (by omega), r_m, if_neg (by omega), r_m, if_neg (by omega), r_m, if_neg (by omega), r_m, if_neg (by omega), r_m, if_neg (by omega), r_m, if_neg (by omega), r_m, if_neg (by omega), r_m, if_neg (by omega), r_m, if_neg (by omega)]) (by unfold nO; simp [r_m]) (by unfold nO; simp [r_m]) rfl ⟨by rw [pP]; simp [r_KI, r_LI, r_PI, r_XI, r_YI, r_nI, r_II, r_KP, r_LP, r_IP, r_XP, r_YP, r_nP, r_PP, r_KX, r_LX, r_IX, r_PX, r_YX, r_nX, r_XX, r_KY, r_LY, r_IY, r_PY, r_XY, r_nY, r_YY, r_KO, r_LO, r_IO, r_PO, r_XO, r_YO, r_nO, r_KA, r_LA, r_IA, r_PA, r_XA, r_YA, r_nA, r_KB, r_LB, r_IB, r_PB, r_XB, r_YB, r_nB], by rw [pP]; simp [r_KI, r_LI, r_PI, r_XI, r_YI, r_nI, r_II, r_KP, r_LP, r_IP, r_XP, r_YP, r_nP, r_PP, r_KX, r_LX, r_IX, r_PX, r_YX, r_nX, r_XX, r_KY, r_LY, r_IY, r_PY, r_XY, r_nY, r_YY, r_KO, r_LO, r_IO, r_PO, r_XO, r_YO, r_nO, r_KA, r_LA, r_IA, r_PA, r_XA, r_YA, r_nA, r_KB, r_LB, r_IB, r_PB, r_XB, r_YB, r_nB]⟩ ⟨k1000, by rw [pI]; unfold nO; simp [r_KI, r_LI, r_PI, r_XI, r_YI, r_nI, r_II, r_KP, r_LP, r_IP, r_XP, r_YP, r_nP, r_PP, r_KX, r_LX, r_IX, r_PX, r_YX, r_nX, r_XX, r_KY, r_LY, r_IY, r_PY, r_XY, r_nY, r_YY, r_KO, r_LO, r_IO, r_PO, r_XO, r_YO, r_nO, r_KA, r_LA, r_IA, r_PA, r_XA, r_YA, r_nA, r_KB, r_LB, r_IB, r_PB, r_XB, r_YB, r_nB, r_m], Or.inr (Or.inl ⟨by unfold nO; simp [r_m], hkq2, by rw [pP]; simp [r_KI, r_LI, r_PI, r_XI, r_YI, r_nI, r_II, r_KP, r_LP, r_IP, r_XP, r_YP, r_nP, r_PP, r_KX, r_LX, r_IX, r_PX, r_YX, r_nX, r_XX, r_KY, r_LY, r_IY, r_PY, r_XY, r_nY, r_YY, r_KO, r_LO, r_IO, r_PO, r_XO, r_YO, r_nO, r_KA, r_LA, r_IA, r_PA, r_XA, r_YA, r_nA, r_KB, r_LB, r_IB, r_PB, r_XB, r_YB, r_nB], by rw [pI]; unfold nO; simp [r_KI, r_LI, r_PI, r_XI, r_YI, r_nI, r_II, r_KP, r_LP, r_IP, r_XP, r_YP, r_nP, r_PP, r_KX, r_LX, r_IX, r_PX, r_YX, r_nX, r_XX, r_KY, r_LY, r_IY, r_PY, r_XY, r_nY, r_YY, r_KO, r_LO, r_IO, r_PO, r_XO, r_YO, r_nO, r_KA, r_LA, r_IA, r_PA, r_XA, r_YA, r_nA, r_KB, r_LB, r_IB, r_PB, r_XB, r_YB, r_nB, r_m], by rw [pI]; unfold nO; simp [r_KI, r_LI, r_PI, r_XI, r_YI, r_nI, r_II, r_KP, r_LP, r_IP, r_XP, r_YP, r_nP, r_PP, r_KX, r_LX, r_IX, r_PX, r_YX, r_nX, r_XX, r_KY, r_LY, r_IY, r_PY, r_XY, r_nY, r_YY, r_KO, r_LO, r_IO, r_PO, r_XO, r_YO, r_nO, r_KA, r_LA, r_IA, r_PA, r_XA, r_YA, r_nA, r_KB, r_LB, r_IB, r_PB, r_XB, r_YB, r_nB, r_m], by rw [pI]; unfold nO; simp [r_KI, r_LI, r_PI, r_XI, r_YI, r_nI, r_II, r_KP, r_LP, r_IP, r_XP, r_YP, r_nP, r_PP, r_KX, r_LX, r_IX, r_PX, r_YX, r_nX, r_XX, r_KY, r_LY, r_IY, r_PY, r_XY, r_nY, r_YY, r_KO, r_LO, r_IO, r_PO, r_XO, r_YO, r_nO, r_KA, r_LA, r_IA, r_PA, r_XA, r_YA, r_nA, r_KB, r_LB, r_IB, r_PB, r_XB, r_YB, r_nB, r_m], by rw [pI]; unfold nO; simp [r_KI, r_LI, r_PI, r_XI, r_YI, r_nI, r_II, r_KP, r_LP, r_IP, r_XP, r_YP, r_nP, r_PP, r_KX, r_LX, r_IX, r_PX, r_YX, r_nX, r_XX, r_KY, r_LY, r_IY, r_PY, r_XY, r_nY, r_YY, r_KO, r_LO, r_IO, r_PO, r_XO, r_YO, r_nO, r_KA, r_LA, r_IA, r_PA, r_XA, r_YA, r_nA, r_KB, r_LB, r_IB, r_PB, r_XB, r_YB, r_nB, r_m], by rw [pI]; unfold nO; simp [r_KI, r_LI, r_PI, r_XI, r_YI, r_nI, r_II, r_KP, r_LP, r_IP, r_XP, r_YP, r_nP, r_PP, r_KX, r_LX, r_IX, r_PX, r_YX, r_nX, r_XX, r_KY, r_LY, r_IY, r_PY, r_XY, r_nY, r_YY, r_KO, r_LO, r_IO, r_PO, r_XO, r_YO, r_nO, r_KA, r_LA, r_IA, r_PA, r_XA, r_YA, r_nA, r_KB, r_LB, r_IB, r_PB, r_XB, r_YB, r_nB, r_m], Or.inl ⟨by unfold nO; simp [r_m], by rw [pP]; simp [r_KI, r_LI, r_PI, r_XI, r_YI, r_nI, r_II, r_KP, r_LP, r_IP, r_XP, r_YP, r_nP, r_PP, r_KX, r_LX, r_IX, r_PX, r_YX, r_nX, r_XX, r_KY, r_LY, r_IY, r_PY, r_XY, r_nY, r_YY, r_KO, r_LO, r_IO, r_PO, r_XO, r_YO, r_nO, r_KA, r_LA, r_IA, r_PA, r_XA, r_YA, r_nA, r_KB, r_LB, r_IB, r_PB, r_XB, r_YB, r_nB]⟩⟩)⟩
              refine w_chk hkq2 <| w_some <| hMh _ ?_
              refine m_b2 vM <| m_in i32_10 <| m_b2 uM <| m_in i32_10 <| m_b2 hM <| m_ip rfl <| m_b2 (nO_eq hI1.1.1 (by omega)) ?_
              rw [cO]
              refine m_chk hiO <| m_lt <| m_chk hiO <| m_lt <| m_chk hiO <| m_lt <| m_chk hiO <| m_lt <| m_chk hiO <| m_lt <| m_some (ok_ok hE (Or.inl rfl) rfl ?_ k1000 ⟨_, w, C + 1, Z + 9, hI3, ?_, ?_, by omega, by omega⟩)
              · rw [cf_M0 c3]; exact m00
              · rw [cf_14 c3 (by decide)]; exact hE.2.2.2.1
              · refine Cs_mk hI1 c3 ?_ ?_
                · simp [r_g]; omega
                · simp [r_g]; omega
            · exact w_bx vD <| w_chk hd <| w_bx uD <| w_chk hd <| w_bt hD (by decide) <| hMh _ <| m_b2 vM <| m_in i32_10 <| m_b2 uM <| m_in i32_10 <| m_b2 hM <| m_in i32_10 <| m_b2 fails_eq <| m_some (th_ok hE (by decide) (Or.inr (Or.inr rfl)) rfl (by omega) (by omega))
          · exact w_bx vD <| w_chk hd <| w_bt uD (by decide) <| hMh _ <| m_b2 vM <| m_in i32_10 <| m_b2 uM <| m_ip rfl <| m_b2 fails_eq hth
        · exact w_bt vD (by decide) <| hMh _ <| m_b2 vM <| m_ip rfl <| m_b2 fails_eq hth
      · refine w_chk hd <| w_bx rD <| w_chk hd <| w_bx rD2 <| w_chk hd <| w_bt rD4 (by decide) <| m_lt <| m_in n1 <| m_in n1' <| m_in n2 <| m_in n2' ?_
        rcases hbad with h | ⟨h, h'⟩
        · exact m_ip h <| m_b2 fails_eq hth
        · exact m_in h <| m_ip h' <| m_b2 fails_eq hth
    · refine w_chk hd <| w_bx rD <| w_chk hd <| w_bt rD2 (by decide) <| m_lt <| m_in n1 <| m_in n1' ?_
      rcases hbad with h | ⟨h, h'⟩
      · exact m_ip h <| m_b2 fails_eq hth
      · exact m_in h <| m_ip h' <| m_b2 fails_eq hth
  · refine w_chk hd <| w_bt rD (by decide) <| m_lt ?_
    rcases hbad with h | ⟨h, h'⟩
    · exact m_ip h <| m_b2 fails_eq hth
    · exact m_in h <| m_ip h' <| m_b2 fails_eq hth
/-- a handler is written down -/
theorem P_hnd {q ed' : Nat} {ac v : Int32} (hI : Inv e0 d t x g w S M) (hS : Same S S1) (hq0 : dK S q = 0) (hF : FA S1 S2 (g 14 3) (g 14 5)) (hfr : dFr S2) (hA : AL S2 e0 (g 14 3) ed' (g 9 33 + 1) (fun i => if i = g 9 33 then q else g 2 i)) (hed : ed' = g 14 5 ∨ (dK S1 ed' = 0 ∧ dn S1 ≤ ed')) (hH : g 9 33 + 1 ≤ 1000) (hq1 : dK S2 q = 9) (hq2 : dI S2 800 q = nI (g 9 33)) (hq3 : dI S2 801 q = ac) (hq4 : dI S2 802 q = v) (hq5 : ac = 0 ∨ ac = 1 ∨ ac = 2 ∨ ac = 3 ∨ ((ac = 4 ∨ ac = 5) ∧ ∃ p r, v = -2 - nI p ∧ p < g 9 1 ∧ M 2 p = 0 ∧ M 6 p = nI r ∧ r < g 9 15 ∧ dP S2 803 q = some (g 1 r))) (hM : M' = mput (mput (mput M 31 (g 9 33) ac) 32 (g 9 33) v) 33 0 (nI (g 9 33 + 1))) (hg : g' = gput (gput (gput g 2 (g 9 33) q) 14 5 ed') 9 33 (g 9 33 + 1)) : Inv e0 d t x g' w S2 M' := by
  obtain ⟨i1, i2, i3, i4, i5, i6, i7, i8, i9, i10, i11, i12⟩ := hI
  have hd : dK S d ≠ 0 := by rw [i3.2.1]; decide
  have rd : ∀ a, dK S a ≠ 0 → dK S2 a = dK S a ∧ dL S2 a = dL S a ∧ dX S2 a = dX S a ∧ (∀ f, f ≠ 0 → f ≠ 2 → dI S2 f a = dI S f a) ∧ (∀ f, f ≠ 1 → dP S2 f a = dP S f a) := by
    intro a ha
    have p := hS.2.2 a ha
    have q := hF.2 a (by rw [p.1]; exact ha)
    exact ⟨q.1.trans p.1, q.2.1.trans p.2.1, q.2.2.1.trans p.2.2.1, fun f h1 h2 => (q.2.2.2.2.1 f h1 h2).trans (p.2.2.2.2 f).1, fun f h1 => (q.2.2.2.2.2.1 f h1).trans (p.2.2.2.2 f).2⟩
  have c : CF g S M g S2 M := ⟨FD_trans (FD_same hS) (FD_FA hF), GE_refl, FM_refl, fun _ _ _ => rfl⟩
  have l4 := log_cf i4 hd c
  have l5 := itm_cf i5 hd c
  have l8 := H_cf i8 c
  have l12 := G_cf i12 c
  have kT : ∀ o, o < g 9 1 → dK S (g 0 o) ≠ 0 := fun o ho => by have := tk_K (i6.1 o ho).2.2.2; omega
  have l6 : A_T g S2 M := ⟨fun o ho => T_pt i6 ho c (T_same i6 ho ⟨(rd _ (kT o ho)).2.2.2.1 603 (by decide) (by decide), (rd _ (kT o ho)).2.2.2.1 604 (by decide) (by decide), (rd _ (kT o ho)).2.2.2.1 605 (by decide) (by decide)⟩ ⟨rfl, rfl, rfl⟩), i6.2⟩
  have l7 : A_R g S2 M := fun r hr => by
    obtain ⟨k1, k2, k3, k4, -⟩ := i7 r hr
    exact R_pt i7 hr c ⟨((rd _ (by rw [k1]; decide)).2.2.2.1 701 (by decide) (by decide)).trans k3, k4⟩ k2
  have l9 : A_K g S2 M := fun k hk => K_pt i9 hk c (fun h => h)
  have l10 : A_W g w S2 M := ⟨fun o ho => W_pt i10 i9 ho c rfl (fun h2 => ⟨rfl, (rd _ (kT o ho)).2.2.2.2 607 (by decide), (rd _ (kT o ho)).2.2.2.2 608 (by decide), fun k hk hk2 _ => ⟨rfl, (rd _ (by rw [(i9 k hk2).1]; decide)).2.2.2.2 407 (by decide), rfl⟩⟩), i10.2⟩
  have l11 : A_Q d g S2 M := Q_fr i11 c rfl rfl ⟨(rd _ hd).2.2.2.1 1108 (by decide) (by decide), (rd _ hd).2.2.2.2 1106 (by decide), (rd _ hd).2.2.2.2 1107 (by decide)⟩ (fun j h1 h2 h3 h4 => ⟨h4, (rd _ (by rw [h3]; decide)).2.2.2.2 407 (by decide), ⟨(rd _ (by rw [h3]; decide)).2.2.2.1 405 (by decide) (by decide), (rd _ (by rw [h3]; decide)).2.2.2.1 406 (by decide) (by decide)⟩, rfl, rfl, rfl, rfl, rfl, rfl⟩) (fun j b _ _ _ h1 _ => ⟨(rd _ (by rw [h1]; decide)).2.2.2.1 701 (by decide) (by decide), rfl⟩)
  have eM : ∀ k, (k ≠ 31 ∧ k ≠ 32 ∧ k ≠ 33) → M' k = M k := fun k hk => by rw [hM, r_mf hk.2.2, r_mf hk.2.1, r_mf hk.1]
  have eg : ∀ k, (k ≠ 2 ∧ k ≠ 9 ∧ k ≠ 14) → g' k = g k := fun k hk => by rw [hg, r_gf hk.2.1, r_gf hk.2.2, r_gf hk.1]
  have eg9 : ∀ i, i ≠ 33 → g' 9 i = g 9 i := fun i hi => by rw [hg]; simp [r_g, hi]
  have eg14 : ∀ i, i ≠ 5 → g' 14 i = g 14 i := fun i hi => by rw [hg]; simp [r_g, hi]
  have e33 : g' 9 33 = g 9 33 + 1 := by rw [hg]; simp [r_g]
  have e145 : g' 14 5 = ed' := by rw [hg]; simp [r_g]
  have e2 : ∀ h, h < g 9 33 → g' 2 h = g 2 h := fun h hh => by rw [hg]; simp [r_g]; omega
  have e2H : g' 2 (g 9 33) = q := by rw [hg]; simp [r_g]
  have m33 : M' 33 0 = nI (g 9 33 + 1) := by rw [hM]; simp [r_m]
  have m31 : ∀ h, h < g 9 33 → M' 31 h = M 31 h := fun h hh => by rw [hM, r_m, if_neg (by omega), r_m, if_neg (by omega), r_m, if_neg (by omega)]
  have m32 : ∀ h, h < g 9 33 → M' 32 h = M 32 h := fun h hh => by rw [hM, r_m, if_neg (by omega), r_m, if_neg (by omega), r_m, if_neg (by omega)]
  have hfn : ∀ y kd f, fn g S2 M y kd f → fn g' S2 M' y kd f := by
    intro y kd f h
    unfold fn el at h ⊢
    simp only [eM 1 (by decide), eM 2 (by decide), eM 3 (by decide), eM 4 (by decide), eM 5 (by decide), eM 6 (by decide), eM 7 (by decide), eM 8 (by decide), eM 9 (by decide), eM 10 (by decide), eM 11 (by decide), eM 12 (by decide), eM 13 (by decide), eM 14 (by decide), eM 15 (by decide), eM 16 (by decide), eM 17 (by decide), eM 18 (by decide), eM 19 (by decide), eM 20 (by decide), eM 21 (by decide), eM 22 (by decide), eM 23 (by decide), eM 24 (by decide), eM 25 (by decide), eM 26 (by decide), eM 27 (by decide), eM 28 (by decide), eM 29 (by decide), eM 30 (by decide), eM 34 (by decide), eM 35 (by decide), eM 36 (by decide), eM 37 (by decide), eM 38 (by decide), eM 39 (by decide), eM 40 (by decide), eM 41 (by decide), eM 42 (by decide), eM 43 (by decide), eM 44 (by decide), eM 45 (by decide), eM 46 (by decide), eM 47 (by decide), eM 48 (by decide), eM 49 (by decide), eM 50 (by decide), eg 0 (by decide), eg 1 (by decide), eg 3 (by decide), eg 4 (by decide), eg 5 (by decide), eg 6 (by decide), eg 7 (by decide), eg 8 (by decide), eg 10 (by decide), eg 11 (by decide), eg 12 (by decide), eg 15 (by decide), eg 16 (by decide), eg9 1 (by decide), eg9 15 (by decide), eg9 22 (by decide), eg9 29 (by decide), eg9 30 (by decide), eg9 36 (by decide), eg9 38 (by decide), eg9 42 (by decide), eg9 50 (by decide), eg14 1 (by decide), eg14 2 (by decide), eg14 3 (by decide), eg14 4 (by decide), eg14 6 (by decide), eg14 7 (by decide), e33]
    rcases h with h | ⟨h0, h, h1, h2, h3⟩ | h | h | ⟨h0, h, a, h1, h2, h3, h4, h5, h6⟩ | h
    · exact Or.inl h
    · exact Or.inr (Or.inl ⟨h0, h, h1, by omega, by rw [e2 h h2]; exact h3⟩)
    · exact Or.inr (Or.inr (Or.inl h))
    · exact Or.inr (Or.inr (Or.inr (Or.inl h)))
    · exact Or.inr (Or.inr (Or.inr (Or.inr (Or.inl ⟨h0, h, a, h1, by omega, h3, h4, by rw [e2 h h2]; exact h5, h6⟩))))
    · exact Or.inr (Or.inr (Or.inr (Or.inr (Or.inr h))))
  obtain ⟨a1, a2, a3, a4, a5, a6, a7, a8, a9, a10⟩ := i3
  have he0 : dK S e0 ≠ 0 := by rw [a3]; decide
  have k144 : dK S (g 14 4) ≠ 0 := by rw [a8.2.2.1]; decide
  have k142 : dK S (g 14 2) ≠ 0 := by rw [a8.1]; decide
  refine ⟨?_, ?_, ?_, (by have h := l4; unfold A_log at h ⊢; simp only [eM 1 (by decide), eM 2 (by decide), eM 3 (by decide), eM 4 (by decide), eM 5 (by decide), eM 6 (by decide), eM 7 (by decide), eM 8 (by decide), eM 9 (by decide), eM 10 (by decide), eM 11 (by decide), eM 12 (by decide), eM 13 (by decide), eM 14 (by decide), eM 15 (by decide), eM 16 (by decide), eM 17 (by decide), eM 18 (by decide), eM 19 (by decide), eM 20 (by decide), eM 21 (by decide), eM 22 (by decide), eM 23 (by decide), eM 24 (by decide), eM 25 (by decide), eM 26 (by decide), eM 27 (by decide), eM 28 (by decide), eM 29 (by decide), eM 30 (by decide), eM 34 (by decide), eM 35 (by decide), eM 36 (by decide), eM 37 (by decide), eM 38 (by decide), eM 39 (by decide), eM 40 (by decide), eM 41 (by decide), eM 42 (by decide), eM 43 (by decide), eM 44 (by decide), eM 45 (by decide), eM 46 (by decide), eM 47 (by decide), eM 48 (by decide), eM 49 (by decide), eM 50 (by decide), eg 0 (by decide), eg 1 (by decide), eg 3 (by decide), eg 4 (by decide), eg 5 (by decide), eg 6 (by decide), eg 7 (by decide), eg 8 (by decide), eg 10 (by decide), eg 11 (by decide), eg 12 (by decide), eg 15 (by decide), eg 16 (by decide), eg9 1 (by decide), eg9 15 (by decide), eg9 22 (by decide), eg9 29 (by decide), eg9 30 (by decide), eg9 36 (by decide), eg9 38 (by decide), eg9 42 (by decide), eg9 50 (by decide), eg14 1 (by decide), eg14 2 (by decide), eg14 3 (by decide), eg14 4 (by decide), eg14 6 (by decide), eg14 7 (by decide)]; exact h), (by have h := l5; unfold A_itm at h ⊢; simp only [eM 1 (by decide), eM 2 (by decide), eM 3 (by decide), eM 4 (by decide), eM 5 (by decide), eM 6 (by decide), eM 7 (by decide), eM 8 (by decide), eM 9 (by decide), eM 10 (by decide), eM 11 (by decide), eM 12 (by decide), eM 13 (by decide), eM 14 (by decide), eM 15 (by decide), eM 16 (by decide), eM 17 (by decide), eM 18 (by decide), eM 19 (by decide), eM 20 (by decide), eM 21 (by decide), eM 22 (by decide), eM 23 (by decide), eM 24 (by decide), eM 25 (by decide), eM 26 (by decide), eM 27 (by decide), eM 28 (by decide), eM 29 (by decide), eM 30 (by decide), eM 34 (by decide), eM 35 (by decide), eM 36 (by decide), eM 37 (by decide), eM 38 (by decide), eM 39 (by decide), eM 40 (by decide), eM 41 (by decide), eM 42 (by decide), eM 43 (by decide), eM 44 (by decide), eM 45 (by decide), eM 46 (by decide), eM 47 (by decide), eM 48 (by decide), eM 49 (by decide), eM 50 (by decide), eg 0 (by decide), eg 1 (by decide), eg 3 (by decide), eg 4 (by decide), eg 5 (by decide), eg 6 (by decide), eg 7 (by decide), eg 8 (by decide), eg 10 (by decide), eg 11 (by decide), eg 12 (by decide), eg 15 (by decide), eg 16 (by decide), eg9 1 (by decide), eg9 15 (by decide), eg9 22 (by decide), eg9 29 (by decide), eg9 30 (by decide), eg9 36 (by decide), eg9 38 (by decide), eg9 42 (by decide), eg9 50 (by decide), eg14 1 (by decide), eg14 2 (by decide), eg14 3 (by decide), eg14 4 (by decide), eg14 6 (by decide), eg14 7 (by decide)]; exact h), (by have h := l6; unfold A_T tk kp at h ⊢; simp only [eM 1 (by decide), eM 2 (by decide), eM 3 (by decide), eM 4 (by decide), eM 5 (by decide), eM 6 (by decide), eM 7 (by decide), eM 8 (by decide), eM 9 (by decide), eM 10 (by decide), eM 11 (by decide), eM 12 (by decide), eM 13 (by decide), eM 14 (by decide), eM 15 (by decide), eM 16 (by decide), eM 17 (by decide), eM 18 (by decide), eM 19 (by decide), eM 20 (by decide), eM 21 (by decide), eM 22 (by decide), eM 23 (by decide), eM 24 (by decide), eM 25 (by decide), eM 26 (by decide), eM 27 (by decide), eM 28 (by decide), eM 29 (by decide), eM 30 (by decide), eM 34 (by decide), eM 35 (by decide), eM 36 (by decide), eM 37 (by decide), eM 38 (by decide), eM 39 (by decide), eM 40 (by decide), eM 41 (by decide), eM 42 (by decide), eM 43 (by decide), eM 44 (by decide), eM 45 (by decide), eM 46 (by decide), eM 47 (by decide), eM 48 (by decide), eM 49 (by decide), eM 50 (by decide), eg 0 (by decide), eg 1 (by decide), eg 3 (by decide), eg 4 (by decide), eg 5 (by decide), eg 6 (by decide), eg 7 (by decide), eg 8 (by decide), eg 10 (by decide), eg 11 (by decide), eg 12 (by decide), eg 15 (by decide), eg 16 (by decide), eg9 1 (by decide), eg9 15 (by decide), eg9 22 (by decide), eg9 29 (by decide), eg9 30 (by decide), eg9 36 (by decide), eg9 38 (by decide), eg9 42 (by decide), eg9 50 (by decide), eg14 1 (by decide), eg14 2 (by decide), eg14 3 (by decide), eg14 4 (by decide), eg14 6 (by decide), eg14 7 (by decide)]; exact h), (by have h := l7; unfold A_R at h ⊢; simp only [eM 1 (by decide), eM 2 (by decide), eM 3 (by decide), eM 4 (by decide), eM 5 (by decide), eM 6 (by decide), eM 7 (by decide), eM 8 (by decide), eM 9 (by decide), eM 10 (by decide), eM 11 (by decide), eM 12 (by decide), eM 13 (by decide), eM 14 (by decide), eM 15 (by decide), eM 16 (by decide), eM 17 (by decide), eM 18 (by decide), eM 19 (by decide), eM 20 (by decide), eM 21 (by decide), eM 22 (by decide), eM 23 (by decide), eM 24 (by decide), eM 25 (by decide), eM 26 (by decide), eM 27 (by decide), eM 28 (by decide), eM 29 (by decide), eM 30 (by decide), eM 34 (by decide), eM 35 (by decide), eM 36 (by decide), eM 37 (by decide), eM 38 (by decide), eM 39 (by decide), eM 40 (by decide), eM 41 (by decide), eM 42 (by decide), eM 43 (by decide), eM 44 (by decide), eM 45 (by decide), eM 46 (by decide), eM 47 (by decide), eM 48 (by decide), eM 49 (by decide), eM 50 (by decide), eg 0 (by decide), eg 1 (by decide), eg 3 (by decide), eg 4 (by decide), eg 5 (by decide), eg 6 (by decide), eg 7 (by decide), eg 8 (by decide), eg 10 (by decide), eg 11 (by decide), eg 12 (by decide), eg 15 (by decide), eg 16 (by decide), eg9 1 (by decide), eg9 15 (by decide), eg9 22 (by decide), eg9 29 (by decide), eg9 30 (by decide), eg9 36 (by decide), eg9 38 (by decide), eg9 42 (by decide), eg9 50 (by decide), eg14 1 (by decide), eg14 2 (by decide), eg14 3 (by decide), eg14 4 (by decide), eg14 6 (by decide), eg14 7 (by decide)]; exact h), fun h hh => ?_, fun k hk => ?_, (by have h := l10; unfold A_W at h ⊢; simp only [eM 1 (by decide), eM 2 (by decide), eM 3 (by decide), eM 4 (by decide), eM 5 (by decide), eM 6 (by decide), eM 7 (by decide), eM 8 (by decide), eM 9 (by decide), eM 10 (by decide), eM 11 (by decide), eM 12 (by decide), eM 13 (by decide), eM 14 (by decide), eM 15 (by decide), eM 16 (by decide), eM 17 (by decide), eM 18 (by decide), eM 19 (by decide), eM 20 (by decide), eM 21 (by decide), eM 22 (by decide), eM 23 (by decide), eM 24 (by decide), eM 25 (by decide), eM 26 (by decide), eM 27 (by decide), eM 28 (by decide), eM 29 (by decide), eM 30 (by decide), eM 34 (by decide), eM 35 (by decide), eM 36 (by decide), eM 37 (by decide), eM 38 (by decide), eM 39 (by decide), eM 40 (by decide), eM 41 (by decide), eM 42 (by decide), eM 43 (by decide), eM 44 (by decide), eM 45 (by decide), eM 46 (by decide), eM 47 (by decide), eM 48 (by decide), eM 49 (by decide), eM 50 (by decide), eg 0 (by decide), eg 1 (by decide), eg 3 (by decide), eg 4 (by decide), eg 5 (by decide), eg 6 (by decide), eg 7 (by decide), eg 8 (by decide), eg 10 (by decide), eg 11 (by decide), eg 12 (by decide), eg 15 (by decide), eg 16 (by decide), eg9 1 (by decide), eg9 15 (by decide), eg9 22 (by decide), eg9 29 (by decide), eg9 30 (by decide), eg9 36 (by decide), eg9 38 (by decide), eg9 42 (by decide), eg9 50 (by decide), eg14 1 (by decide), eg14 2 (by decide), eg14 3 (by decide), eg14 4 (by decide), eg14 6 (by decide), eg14 7 (by decide)]; exact h), (by have h := l11; unfold A_Q jq at h ⊢; simp only [eM 1 (by decide), eM 2 (by decide), eM 3 (by decide), eM 4 (by decide), eM 5 (by decide), eM 6 (by decide), eM 7 (by decide), eM 8 (by decide), eM 9 (by decide), eM 10 (by decide), eM 11 (by decide), eM 12 (by decide), eM 13 (by decide), eM 14 (by decide), eM 15 (by decide), eM 16 (by decide), eM 17 (by decide), eM 18 (by decide), eM 19 (by decide), eM 20 (by decide), eM 21 (by decide), eM 22 (by decide), eM 23 (by decide), eM 24 (by decide), eM 25 (by decide), eM 26 (by decide), eM 27 (by decide), eM 28 (by decide), eM 29 (by decide), eM 30 (by decide), eM 34 (by decide), eM 35 (by decide), eM 36 (by decide), eM 37 (by decide), eM 38 (by decide), eM 39 (by decide), eM 40 (by decide), eM 41 (by decide), eM 42 (by decide), eM 43 (by decide), eM 44 (by decide), eM 45 (by decide), eM 46 (by decide), eM 47 (by decide), eM 48 (by decide), eM 49 (by decide), eM 50 (by decide), eg 0 (by decide), eg 1 (by decide), eg 3 (by decide), eg 4 (by decide), eg 5 (by decide), eg 6 (by decide), eg 7 (by decide), eg 8 (by decide), eg 10 (by decide), eg 11 (by decide), eg 12 (by decide), eg 15 (by decide), eg 16 (by decide), eg9 1 (by decide), eg9 15 (by decide), eg9 22 (by decide), eg9 29 (by decide), eg9 30 (by decide), eg9 36 (by decide), eg9 38 (by decide), eg9 42 (by decide), eg9 50 (by decide), eg14 1 (by decide), eg14 2 (by decide), eg14 3 (by decide), eg14 4 (by decide), eg14 6 (by decide), eg14 7 (by decide)]; exact h), fun q' hq' => ?_⟩
  · unfold A_cnt at i1 ⊢
    simp only [eM 1 (by decide), eM 2 (by decide), eM 3 (by decide), eM 4 (by decide), eM 5 (by decide), eM 6 (by decide), eM 7 (by decide), eM 8 (by decide), eM 9 (by decide), eM 10 (by decide), eM 11 (by decide), eM 12 (by decide), eM 13 (by decide), eM 14 (by decide), eM 15 (by decide), eM 16 (by decide), eM 17 (by decide), eM 18 (by decide), eM 19 (by decide), eM 20 (by decide), eM 21 (by decide), eM 22 (by decide), eM 23 (by decide), eM 24 (by decide), eM 25 (by decide), eM 26 (by decide), eM 27 (by decide), eM 28 (by decide), eM 29 (by decide), eM 30 (by decide), eM 34 (by decide), eM 35 (by decide), eM 36 (by decide), eM 37 (by decide), eM 38 (by decide), eM 39 (by decide), eM 40 (by decide), eM 41 (by decide), eM 42 (by decide), eM 43 (by decide), eM 44 (by decide), eM 45 (by decide), eM 46 (by decide), eM 47 (by decide), eM 48 (by decide), eM 49 (by decide), eM 50 (by decide), eg 0 (by decide), eg 1 (by decide), eg 3 (by decide), eg 4 (by decide), eg 5 (by decide), eg 6 (by decide), eg 7 (by decide), eg 8 (by decide), eg 10 (by decide), eg 11 (by decide), eg 12 (by decide), eg 15 (by decide), eg 16 (by decide), eg9 1 (by decide), eg9 15 (by decide), eg9 22 (by decide), eg9 29 (by decide), eg9 30 (by decide), eg9 36 (by decide), eg9 38 (by decide), eg9 42 (by decide), eg9 50 (by decide), eg14 1 (by decide), eg14 2 (by decide), eg14 3 (by decide), eg14 4 (by decide), eg14 6 (by decide), eg14 7 (by decide), e33, m33]
    obtain ⟨j1, j2, j3, j4, j5, -, j7, j8, j9, j10⟩ := i1
    exact ⟨j1, j2, j3, j4, j5, trivial, j7, j8, j9, j10⟩
  · unfold A_bd un14 at i2 ⊢
    simp only [eM 1 (by decide), eM 2 (by decide), eM 3 (by decide), eM 4 (by decide), eM 5 (by decide), eM 6 (by decide), eM 7 (by decide), eM 8 (by decide), eM 9 (by decide), eM 10 (by decide), eM 11 (by decide), eM 12 (by decide), eM 13 (by decide), eM 14 (by decide), eM 15 (by decide), eM 16 (by decide), eM 17 (by decide), eM 18 (by decide), eM 19 (by decide), eM 20 (by decide), eM 21 (by decide), eM 22 (by decide), eM 23 (by decide), eM 24 (by decide), eM 25 (by decide), eM 26 (by decide), eM 27 (by decide), eM 28 (by decide), eM 29 (by decide), eM 30 (by decide), eM 34 (by decide), eM 35 (by decide), eM 36 (by decide), eM 37 (by decide), eM 38 (by decide), eM 39 (by decide), eM 40 (by decide), eM 41 (by decide), eM 42 (by decide), eM 43 (by decide), eM 44 (by decide), eM 45 (by decide), eM 46 (by decide), eM 47 (by decide), eM 48 (by decide), eM 49 (by decide), eM 50 (by decide), eg 0 (by decide), eg 1 (by decide), eg 3 (by decide), eg 4 (by decide), eg 5 (by decide), eg 6 (by decide), eg 7 (by decide), eg 8 (by decide), eg 10 (by decide), eg 11 (by decide), eg 12 (by decide), eg 15 (by decide), eg 16 (by decide), eg9 1 (by decide), eg9 15 (by decide), eg9 22 (by decide), eg9 29 (by decide), eg9 30 (by decide), eg9 36 (by decide), eg9 38 (by decide), eg9 42 (by decide), eg9 50 (by decide), eg14 1 (by decide), eg14 2 (by decide), eg14 3 (by decide), eg14 4 (by decide), eg14 6 (by decide), eg14 7 (by decide), e33]
    omega
  · unfold A_desk
    rw [eg14 2 (by decide), eg14 3 (by decide), eg14 4 (by decide), e145, eg9 1 (by decide), e33, eg 0 (by decide)]
    refine ⟨hfr, (rd d hd).1.trans a2, (rd e0 he0).1.trans a3, (rd e0 he0).2.1.trans a4, ((rd d hd).2.2.2.2 1100 (by decide)).trans a5, ((rd d hd).2.2.2.2 1101 (by decide)).trans a6, a7, ?_, ?_, ?_⟩
    · obtain ⟨b1, b2, b3, b4, b5, b6, b7, b8⟩ := a8
      have p := hS.2.2 _ k142
      have q := hF.2 _ (by rw [p.1]; exact k142)
      have p4 := hS.2.2 _ k144
      have q4 := hF.2 _ (by rw [p4.1]; exact k144)
      have y2 := q.2.2.2.1 a7
      unfold AL
      rw [(rd _ k142).1, (y2 1).2, (p.2.2.2.2 1).2, (rd _ k144).1, (rd _ k144).2.1, (y2 2).1, (p.2.2.2.2 2).1]
      refine ⟨b1, b2, b3, b4, b5, b6, b7, fun i hi => ?_⟩
      by_cases e : g 14 4 = g 14 5
      · have e40 := a10 e
        have hl : dL S (g 14 4) = 0 := by rw [e40]; exact a4
        omega
      · rw [q4.2.2.2.2.2.2 e, p4.2.2.2.1]; exact b8 i hi
    · obtain ⟨b1, b2, b3, b4, b5, b6, b7, b8⟩ := hA
      refine ⟨b1, b2, b3, b4, b5, b6, b7, fun i hi => ?_⟩
      rw [b8 i hi]
      by_cases h : i = g 9 33
      · subst h; simp [e2H]
      · simp [h, e2 i (by omega)]
    · intro e
      rcases hed with h | ⟨h, -⟩
      · rw [h] at e; exact a10 e
      · have p4 := hS.2.2 _ k144
        rw [← e, p4.1] at h
        exact absurd h k144
  · rw [e33] at hh
    by_cases hhe : h = g 9 33
    · subst hhe
      have m31H : M' 31 (g 9 33) = ac := by rw [hM]; simp [r_m]
      have m32H : M' 32 (g 9 33) = v := by rw [hM]; simp [r_m]
      rw [e2H, m31H, m32H, eg9 1 (by decide), eg9 15 (by decide), eM 2 (by decide), eM 6 (by decide), eg 1 (by decide)]
      exact ⟨hq1, hq2, hq3, hq4, hq5⟩
    · have hlt : h < g 9 33 := by omega
      rw [e2 h hlt, m31 h hlt, m32 h hlt, eg9 1 (by decide), eg9 15 (by decide), eM 2 (by decide), eM 6 (by decide), eg 1 (by decide)]
      exact l8 h hlt
  · rw [eg9 22 (by decide)] at hk
    obtain ⟨h1, h2, h3, h4⟩ := l9 k hk
    unfold jb wt at *
    simp only [eM 1 (by decide), eM 2 (by decide), eM 3 (by decide), eM 4 (by decide), eM 5 (by decide), eM 6 (by decide), eM 7 (by decide), eM 8 (by decide), eM 9 (by decide), eM 10 (by decide), eM 11 (by decide), eM 12 (by decide), eM 13 (by decide), eM 14 (by decide), eM 15 (by decide), eM 16 (by decide), eM 17 (by decide), eM 18 (by decide), eM 19 (by decide), eM 20 (by decide), eM 21 (by decide), eM 22 (by decide), eM 23 (by decide), eM 24 (by decide), eM 25 (by decide), eM 26 (by decide), eM 27 (by decide), eM 28 (by decide), eM 29 (by decide), eM 30 (by decide), eM 34 (by decide), eM 35 (by decide), eM 36 (by decide), eM 37 (by decide), eM 38 (by decide), eM 39 (by decide), eM 40 (by decide), eM 41 (by decide), eM 42 (by decide), eM 43 (by decide), eM 44 (by decide), eM 45 (by decide), eM 46 (by decide), eM 47 (by decide), eM 48 (by decide), eM 49 (by decide), eM 50 (by decide), eg 0 (by decide), eg 1 (by decide), eg 3 (by decide), eg 4 (by decide), eg 5 (by decide), eg 6 (by decide), eg 7 (by decide), eg 8 (by decide), eg 10 (by decide), eg 11 (by decide), eg 12 (by decide), eg 15 (by decide), eg 16 (by decide), eg9 1 (by decide), eg9 15 (by decide), eg9 22 (by decide), eg9 29 (by decide), eg9 30 (by decide), eg9 36 (by decide), eg9 38 (by decide), eg9 42 (by decide), eg9 50 (by decide), eg14 1 (by decide), eg14 2 (by decide), eg14 3 (by decide), eg14 4 (by decide), eg14 6 (by decide), eg14 7 (by decide)]
    refine ⟨h1, h2, ?_, h4⟩
    rcases h3 with h3 | ⟨h5, h6, h7, h8, h9⟩
    · exact Or.inl h3
    · exact Or.inr ⟨h5, h6, h7, hfn _ _ _ h8, hfn _ _ _ h9⟩
  · rw [eg9 50 (by decide)] at hq'
    obtain ⟨h1, h2, h3, h4, h5, h6, h7, h8, r, h9, h10, h11⟩ := l12 q' hq'
    unfold gr un41 at h11 ⊢
    simp only [eM 1 (by decide), eM 2 (by decide), eM 3 (by decide), eM 4 (by decide), eM 5 (by decide), eM 6 (by decide), eM 7 (by decide), eM 8 (by decide), eM 9 (by decide), eM 10 (by decide), eM 11 (by decide), eM 12 (by decide), eM 13 (by decide), eM 14 (by decide), eM 15 (by decide), eM 16 (by decide), eM 17 (by decide), eM 18 (by decide), eM 19 (by decide), eM 20 (by decide), eM 21 (by decide), eM 22 (by decide), eM 23 (by decide), eM 24 (by decide), eM 25 (by decide), eM 26 (by decide), eM 27 (by decide), eM 28 (by decide), eM 29 (by decide), eM 30 (by decide), eM 34 (by decide), eM 35 (by decide), eM 36 (by decide), eM 37 (by decide), eM 38 (by decide), eM 39 (by decide), eM 40 (by decide), eM 41 (by decide), eM 42 (by decide), eM 43 (by decide), eM 44 (by decide), eM 45 (by decide), eM 46 (by decide), eM 47 (by decide), eM 48 (by decide), eM 49 (by decide), eM 50 (by decide), eg 0 (by decide), eg 1 (by decide), eg 3 (by decide), eg 4 (by decide), eg 5 (by decide), eg 6 (by decide), eg 7 (by decide), eg 8 (by decide), eg 10 (by decide), eg 11 (by decide), eg 12 (by decide), eg 15 (by decide), eg 16 (by decide), eg9 1 (by decide), eg9 15 (by decide), eg9 22 (by decide), eg9 29 (by decide), eg9 30 (by decide), eg9 36 (by decide), eg9 38 (by decide), eg9 42 (by decide), eg9 50 (by decide), eg14 1 (by decide), eg14 2 (by decide), eg14 3 (by decide), eg14 4 (by decide), eg14 6 (by decide), eg14 7 (by decide), e33]
    refine ⟨h1, h2, h3, h4, h5, h6, h7, h8, r, h9, h10, ?_⟩
    rcases h11 with h11 | ⟨b1, b2, b3, b4, b5, b6⟩
    · exact Or.inl h11
    · refine Or.inr ⟨b1, b2, b3, b4, ?_, b6⟩
      rcases b5 with b5 | ⟨h, u1, u2, u3⟩
      · exact Or.inl b5
      · exact Or.inr ⟨h, by omega, u2, by rw [e2 h u1]; exact u3⟩
end FA3
section FA4
variable {e0 d t x n c z : Nat} {g g' : GH} {w w' : Nat → List Nat} {S S' S1 S2 S0 : DS} {M M' M1 : MS}
theorem h31_run {ac v : Int32} {y : Option Nat} (hI : Inv e0 d t 0 g w S M) (hac : ac = 0 ∨ ac = 1 ∨ ac = 2 ∨ ac = 3 ∨ ((ac = 4 ∨ ac = 5) ∧ ∃ p r, v = -2 - nI p ∧ p < g 9 1 ∧ M 2 p = 0 ∧ M 6 p = nI r ∧ r < g 9 15 ∧ y = some (g 1 r))) : RD (q_X11_handler_31 e0 S d ac v y) (fun kr S' C Z => RM (q_handler_41 M ac v) (fun r' M' => (kr.1 = 0 ∧ kr.2 = r' ∧ M' 0 = M 0 ∧ ∃ g', Inv e0 d t 0 g' w S' M' ∧ g' 14 1 = g 14 1 ∧ Cs 0 g S g' S' C Z) ∨ (kr = (2, 0) ∧ S' = S ∧ C = 1 ∧ Z = 6 ∧ r' = 0 ∧ M' = mput M 0 0 2))) := by
  have hN := Inv_nums hI
  have hfr := hI.2.2.1.1
  have hk0 := K_dn hfr
  have c33 : M 33 0 = nI (g 9 33) := hI.1.2.2.2.2.2.1
  obtain ⟨a1, a2, a3, a4, a5, a6, a7, a8, a9, a10⟩ := hI.2.2.1
  have e1000 : (1000 : Int32) = nI 1000 := rfl
  unfold q_X11_handler_31 q_handler_41
  refine w_chk a2 <| w_bnd a6 <| w_chk a9.1 <| w_bk (size_run a9) ?_
  rw [c33]
  by_cases h : g 9 33 < 1000
  · have hS0 : Same S (sO S 9) := Same_sO hfr (by decide)
    obtain ⟨hIa, -⟩ := Inv_same hI hS0
    obtain ⟨-, b2, -, -, -, b6, -, -, b9, -⟩ := hIa.2.2.1
    have hS1 : Same S (sP (sI (sI (sI (sO S 9) 800 (dn S) (nI (g 9 33))) 801 (dn S) ac) 802 (dn S) v) 803 (dn S) y) := Same_sP (Same_sI (Same_sI (Same_sI hS0 hk0) hk0) hk0) hk0
    have q1 : dK (sP (sI (sI (sI (sO S 9) 800 (dn S) (nI (g 9 33))) 801 (dn S) ac) 802 (dn S) v) 803 (dn S) y) (dn S) = 9 := by simp [r_KI, r_LI, r_PI, r_XI, r_YI, r_nI, r_II, r_KP, r_LP, r_IP, r_XP, r_YP, r_nP, r_PP, r_KX, r_LX, r_IX, r_PX, r_YX, r_nX, r_XX, r_KY, r_LY, r_IY, r_PY, r_XY, r_nY, r_YY, r_KO, r_LO, r_IO, r_PO, r_XO, r_YO, r_nO, r_KA, r_LA, r_IA, r_PA, r_XA, r_YA, r_nA, r_KB, r_LB, r_IB, r_PB, r_XB, r_YB, r_nB]
    have q2 : dI (sP (sI (sI (sI (sO S 9) 800 (dn S) (nI (g 9 33))) 801 (dn S) ac) 802 (dn S) v) 803 (dn S) y) 800 (dn S) = nI (g 9 33) := by simp [r_KI, r_LI, r_PI, r_XI, r_YI, r_nI, r_II, r_KP, r_LP, r_IP, r_XP, r_YP, r_nP, r_PP, r_KX, r_LX, r_IX, r_PX, r_YX, r_nX, r_XX, r_KY, r_LY, r_IY, r_PY, r_XY, r_nY, r_YY, r_KO, r_LO, r_IO, r_PO, r_XO, r_YO, r_nO, r_KA, r_LA, r_IA, r_PA, r_XA, r_YA, r_nA, r_KB, r_LB, r_IB, r_PB, r_XB, r_YB, r_nB]
    have q3 : dI (sP (sI (sI (sI (sO S 9) 800 (dn S) (nI (g 9 33))) 801 (dn S) ac) 802 (dn S) v) 803 (dn S) y) 801 (dn S) = ac := by simp [r_KI, r_LI, r_PI, r_XI, r_YI, r_nI, r_II, r_KP, r_LP, r_IP, r_XP, r_YP, r_nP, r_PP, r_KX, r_LX, r_IX, r_PX, r_YX, r_nX, r_XX, r_KY, r_LY, r_IY, r_PY, r_XY, r_nY, r_YY, r_KO, r_LO, r_IO, r_PO, r_XO, r_YO, r_nO, r_KA, r_LA, r_IA, r_PA, r_XA, r_YA, r_nA, r_KB, r_LB, r_IB, r_PB, r_XB, r_YB, r_nB]
    have q4 : dI (sP (sI (sI (sI (sO S 9) 800 (dn S) (nI (g 9 33))) 801 (dn S) ac) 802 (dn S) v) 803 (dn S) y) 802 (dn S) = v := by simp [r_KI, r_LI, r_PI, r_XI, r_YI, r_nI, r_II, r_KP, r_LP, r_IP, r_XP, r_YP, r_nP, r_PP, r_KX, r_LX, r_IX, r_PX, r_YX, r_nX, r_XX, r_KY, r_LY, r_IY, r_PY, r_XY, r_nY, r_YY, r_KO, r_LO, r_IO, r_PO, r_XO, r_YO, r_nO, r_KA, r_LA, r_IA, r_PA, r_XA, r_YA, r_nA, r_KB, r_LB, r_IB, r_PB, r_XB, r_YB, r_nB]
    have q5 : dP (sP (sI (sI (sI (sO S 9) 800 (dn S) (nI (g 9 33))) 801 (dn S) ac) 802 (dn S) v) 803 (dn S) y) 803 (dn S) = y := by simp [r_KI, r_LI, r_PI, r_XI, r_YI, r_nI, r_II, r_KP, r_LP, r_IP, r_XP, r_YP, r_nP, r_PP, r_KX, r_LX, r_IX, r_PX, r_YX, r_nX, r_XX, r_KY, r_LY, r_IY, r_PY, r_XY, r_nY, r_YY, r_KO, r_LO, r_IO, r_PO, r_XO, r_YO, r_nO, r_KA, r_LA, r_IA, r_PA, r_XA, r_YA, r_nA, r_KB, r_LB, r_IB, r_PB, r_XB, r_YB, r_nB]
    obtain ⟨hIb, -⟩ := Inv_same hI hS1
    obtain ⟨f1, f2, f3, f4, f5, f6, f7, f8, f9, f10⟩ := hIb.2.2.1
    have eL1 : dL (sP (sI (sI (sI (sO S 9) 800 (dn S) (nI (g 9 33))) 801 (dn S) ac) 802 (dn S) v) 803 (dn S) y) = dL S := rfl
    unfold q_X8_init q_X3_init
    refine w_ip (by rw [e1000]; exact nI_lt h (by omega)) <| w_chk a2 <| w_tick <| w_lt <| w_lt <| w_chk b2 <| w_bnd b6 <| w_chk b9.1 <| w_bk (size_run b9) <| w_bndc <| w_bndc <| w_some <| w_chk (by simp [r_KI, r_LI, r_PI, r_XI, r_YI, r_nI, r_II, r_KP, r_LP, r_IP, r_XP, r_YP, r_nP, r_PP, r_KX, r_LX, r_IX, r_PX, r_YX, r_nX, r_XX, r_KY, r_LY, r_IY, r_PY, r_XY, r_nY, r_YY, r_KO, r_LO, r_IO, r_PO, r_XO, r_YO, r_nO, r_KA, r_LA, r_IA, r_PA, r_XA, r_YA, r_nA, r_KB, r_LB, r_IB, r_PB, r_XB, r_YB, r_nB]) <| w_lt <| w_lt <| w_lt <| w_lt <| w_some <| w_bnd a6 <| w_chk f9.1 <| w_bndc ?_
    generalize sP (sI (sI (sI (sO S 9) 800 (dn S) (nI (g 9 33))) 801 (dn S) ac) 802 (dn S) v) 803 (dn S) y = S1 at *
    refine w_mono (add_ok f1 f9 ⟨f3, f4⟩ (by omega) (by unfold okE; omega) (fun i hi => by have := (hIb.2.2.2.2.2.2.2.1 i hi).1; unfold okE; omega)) ?_
    rintro r S2 C Z ⟨ed', u1, u2, u3, u4, u5, u6⟩
    have p := u4.2 (dn S) (by rw [q1]; decide)
    have hne : dn S ≠ g 14 3 := by
      have := hfr _ (by rw [a9.1]; decide : dK S (g 14 3) ≠ 0)
      omega
    have pI : ∀ f, dI S2 f (dn S) = dI S1 f (dn S) := fun f => (p.2.2.2.1 hne f).1
    have pP : ∀ f, dP S2 f (dn S) = dP S1 f (dn S) := fun f => (p.2.2.2.1 hne f).2
    have hd0 : dK S d ≠ 0 := by rw [a2]; decide
    have hI3 := P_hnd (ac := ac) (v := v) hI hS1 hk0 u4 u1 u2 u3 (by omega) (by rw [p.1]; exact q1) (by rw [pI]; exact q2) (by rw [pI]; exact q3) (by rw [pI]; exact q4) (by rw [pP, q5]; exact hac) rfl rfl
    have d2 : dK S2 d = 12 := hI3.2.2.1.2.1
    have d6 : dP S2 1101 d = some (g 14 3) := by
      rw [((u4.2 d (by rw [f2]; decide)).2.2.2.2.2.1 1101 (by decide))]; exact f6
    refine w_chk d2 <| w_bnd d6 <| w_chk u2.1 <| w_bk (size_run u2) <| w_some ?_
    have hi33 : inb (nI (g 9 33)) 1000 := inb_nI h (by omega)
    refine m_in (by rw [e1000]; intro e; have := nI_inj (by omega) (by omega) e; omega) <| m_chk hi33 <| m_lt ?_
    rw [nI_clamp (by omega)]
    have k1 : mput M 31 (g 9 33) ac 33 0 = nI (g 9 33) := by rw [r_m, if_neg (by omega)]; exact c33
    rw [k1, nI_clamp (by omega)]
    refine m_chk hi33 <| m_lt ?_
    have k2 : mput (mput M 31 (g 9 33) ac) 32 (g 9 33) v 33 0 = nI (g 9 33) := by rw [r_m, if_neg (by omega)]; exact k1
    rw [k2, nI_1]
    refine m_lt <| m_some (Or.inl ⟨rfl, ?_, ?_, _, hI3, ?_, ?_⟩)
    · show nI (g 9 33 + 1) - 1 = _
      simp [r_m]
    · rw [r_mf (by omega), r_mf (by omega), r_mf (by omega)]
    · simp [r_g]
    · have l4 : dL S2 (g 14 4) = dL S (g 14 4) := (fa_K hS1 u4 (ed_L hI)).2.1
      have l7 : dL S2 (g 14 7) = dL S (g 14 7) := (fa_K hS1 u4 (by rw [hI.2.2.2.1.2.1]; decide)).2.1
      rw [eL1] at u6
      unfold Cs pc pz
      simp [r_g, l4, l7]
      omega
  · refine w_in (by rw [e1000]; exact nI_nlt (by omega) (by omega)) <| w_some <| m_ip (by rw [e1000]; congr 1; omega) <| m_b2 fails_eq <| m_some (Or.inr ⟨rfl, rfl, rfl, rfl, rfl, rfl⟩)
theorem st_handler : St_handler (Rel e0 d) d e0 := by
  intro t S M c z p1 p2 hfr ht hR
  obtain ⟨g, w, hE⟩ := ent_of hfr ht hR
  have hI1 := E1 hE
  have hN := Inv_nums hI1
  have hd := hI1.2.2.1.2.1
  have hth : RM (some ((0 : Int32), mput (mput M 0 0 0) 0 0 1)) (fun r' M' => ok2 ((1, 0) : Nat × Int32).1 ∧ M' 0 0 = cd2 ((1, 0) : Nat × Int32).1 ∧ (((1, 0) : Nat × Int32).1 = 0 → ((1, 0) : Nat × Int32).2 = r') ∧ Rel e0 d (t + 1) S.2 M' (c + 1) (z + 6)) := m_some (th_ok hE (by decide) (Or.inr (Or.inl rfl)) rfl (by omega) (by omega))
  have hok : ∀ (y : Option Nat) , (p1 = 0 ∨ p1 = 1 ∨ p1 = 2 ∨ p1 = 3 ∨ ((p1 = 4 ∨ p1 = 5) ∧ ∃ p r, p2 = -2 - nI p ∧ p < g 9 1 ∧ mput M 0 0 0 2 p = 0 ∧ mput M 0 0 0 6 p = nI r ∧ r < g 9 15 ∧ y = some (g 1 r))) → (∀ Q, RM (q_handler_41 (mput M 0 0 0) p1 p2) Q → RM (q_handler M p1 p2) Q) → RD (q_X11_handler_31 e0 S d p1 p2 y) (fun kr S' C Z => RM (q_handler M p1 p2) (fun r' M' => ok2 kr.1 ∧ M' 0 0 = cd2 kr.1 ∧ (kr.1 = 0 → kr.2 = r') ∧ Rel e0 d (t + 1) S'.2 M' (c + C) (z + Z))) := by
    intro y hy hq
    refine w_mono (h31_run hI1 hy) ?_
    rintro ⟨k, r⟩ S' C Z ⟨r', M', eM, h⟩
    refine hq _ ⟨r', M', eM, ?_⟩
    rcases h with ⟨h1, h2, h3, g', h4, h5, h6⟩ | ⟨h1, rfl, rfl, rfl, rfl, rfl⟩
    · have h1 : k = 0 := h1
      subst h1
      exact ok_ok hE (Or.inl rfl) rfl (by rw [h3]; exact m00) h2 ⟨g', w, C, Z, h4, by rw [h5]; exact hE.2.2.2.1, h6, by omega, by omega⟩
    · have h1 : k = 2 ∧ r = 0 := by cases h1; exact ⟨rfl, rfl⟩
      obtain ⟨rfl, rfl⟩ := h1
      exact th_ok hE (by decide) (Or.inr (Or.inr rfl)) rfl (by omega) (by omega)
  refine step_of ?_
  unfold q_X11_handler
  have e5 : (5 : Int32) = nI 5 := rfl
  rcases rr_run (e0 := e0) (d := d) (S := S) (v := p1) (k := 5) (by omega) with ⟨j1, hj1, ej1, n1, n1', rD⟩ | ⟨rD, hbad⟩
  · refine w_chk hd <| w_bx rD <| w_chk hd ?_
    rcases val_run p2 hI1 with ⟨vD, vM⟩ | ⟨vD, vM⟩
    · refine w_bx vD ?_
      simp only [Nat.zero_add]
      have hsix : p1 = 0 ∨ p1 = 1 ∨ p1 = 2 ∨ p1 = 3 ∨ p1 = 4 ∨ p1 = 5 := by
        have : j1 = 0 ∨ j1 = 1 ∨ j1 = 2 ∨ j1 = 3 ∨ j1 = 4 ∨ j1 = 5 := by omega
        rcases this with rfl | rfl | rfl | rfl | rfl | rfl
        · exact Or.inl ej1
        · exact Or.inr (Or.inl ej1)
        · exact Or.inr (Or.inr (Or.inl ej1))
        · exact Or.inr (Or.inr (Or.inr (Or.inl ej1)))
        · exact Or.inr (Or.inr (Or.inr (Or.inr (Or.inl ej1))))
        · exact Or.inr (Or.inr (Or.inr (Or.inr (Or.inr ej1))))
      by_cases h45 : p1 = 4 ∨ p1 = 5
      · have h3 : ¬ p1 ≤ 3 := by rcases h45 with rfl | rfl <;> decide
        have h22 : RD (q_X11_handler_22 e0 S d p1 p2) (fun kr S' C Z => RM (q_handler M p1 p2) (fun r' M' => ok2 kr.1 ∧ M' 0 0 = cd2 kr.1 ∧ (kr.1 = 0 → kr.2 = r') ∧ Rel e0 d (t + 1) S'.2 M' (c + C) (z + Z))) := by
          unfold q_X11_handler_22
          rcases rk_run p2 hI1 with ⟨p, r, hp, u1, u2, hp2, h6, hr, kD, kM⟩ | ⟨kD, kM⟩
          · refine w_chk hd <| w_bx kD ?_
            simp only [Nat.zero_add]
            refine hok (some (g 1 r)) (Or.inr (Or.inr (Or.inr (Or.inr ⟨h45, p, r, u1, hp, hp2, h6, hr, rfl⟩)))) (fun Q hQ => ?_)
            unfold q_handler
            exact m_lt <| m_in n1 <| m_in n1' <| m_b2 vM <| m_in i32_10 <| m_in h3 <| m_b2 kM <| m_in i32_10 hQ
          · refine w_chk hd <| w_bt kD (by decide) ?_
            unfold q_handler
            exact m_lt <| m_in n1 <| m_in n1' <| m_b2 vM <| m_in i32_10 <| m_in h3 <| m_b2 kM <| m_ip rfl <| m_b2 fails_eq hth
        rcases h45 with h | h
        · exact w_ip h h22
        · exact w_in (by rw [h]; decide) <| w_ip h h22
      · have h3 : p1 ≤ 3 := by
          rcases hsix with h | h | h | h | h | h
          · rw [h]; decide
          · rw [h]; decide
          · rw [h]; decide
          · rw [h]; decide
          · exact absurd (Or.inl h) h45
          · exact absurd (Or.inr h) h45
        refine w_in (fun h => h45 (Or.inl h)) <| w_in (fun h => h45 (Or.inr h)) ?_
        refine hok none ?_ (fun Q hQ => ?_)
        · rcases hsix with h | h | h | h | h | h
          · exact Or.inl h
          · exact Or.inr (Or.inl h)
          · exact Or.inr (Or.inr (Or.inl h))
          · exact Or.inr (Or.inr (Or.inr (Or.inl h)))
          · exact absurd (Or.inl h) h45
          · exact absurd (Or.inr h) h45
        · unfold q_handler
          exact m_lt <| m_in n1 <| m_in n1' <| m_b2 vM <| m_in i32_10 <| m_ip h3 hQ
    · refine w_bt vD (by decide) ?_
      unfold q_handler
      exact m_lt <| m_in n1 <| m_in n1' <| m_b2 vM <| m_ip rfl <| m_b2 fails_eq hth
  · refine w_chk hd <| w_bt rD (by decide) ?_
    unfold q_handler
    rcases hbad with h | ⟨h, h'⟩
    · exact m_lt <| m_ip h <| m_b2 fails_eq hth
    · exact m_lt <| m_in h <| m_ip h' <| m_b2 fails_eq hth
end FA4
