section MAK
variable {e0 d t x n : Nat} {g g' : GH} {w w' : Nat → List Nat} {S S' S1 S2 S0 : DS} {M M' M1 : MS}
theorem v_neg {v : Int32} (h : v ≤ -2) : ¬ ((-2 : Int32) - v < 0) := by
  rw [Int32.lt_iff_toInt_lt, Int32.toInt_sub]
  rw [Int32.le_iff_toInt_le] at h
  have h2 : (-2 : Int32).toInt = -2 := by decide
  have h0 : (0 : Int32).toInt = 0 := by decide
  have hl := v.le_toInt
  rw [h2] at h ⊢
  rw [h0]
  have hl' : -2147483648 ≤ v.toInt := by simpa using hl
  have : ((-2 : Int) - v.toInt).bmod (2 ^ 32) = -2 - v.toInt := by
    apply Int.bmod_eq_of_le <;> omega
  rw [this]
  omega
theorem RD_eq {α : Type} {q : Option (α × DS × Nat × Nat)} {r : α} {S : DS} {C Z : Nat} (h : RD q (fun r' S' C' Z' => r' = r ∧ S' = S ∧ C' = C ∧ Z' = Z)) : q = some (r, S, C, Z) := by
  obtain ⟨r', S', C', Z', e, rfl, rfl, rfl, rfl⟩ := h
  exact e
theorem size_run {tl ed m : Nat} {f : Nat → Nat} (h : AL S e0 tl ed m f) : q_Jx4a65c_size_8abf5 e0 S tl = some (nI m, S, 0, 0) := by
  unfold q_Jx4a65c_size_8abf5
  rw [chk_i h.1, h.2.2.2.1]
theorem get_run {tl ed m o : Nat} {f : Nat → Nat} (h : AL S e0 tl ed m f) (ho : o < m) (hm : m < 5000) : q_Jx4a65c_get_915e3 e0 S tl (nI o) = some (some (f o), S, 0, 0) := by
  obtain ⟨b1, b2, b3, b4, b5, b6, b7, b8⟩ := h
  refine RD_eq ?_
  unfold q_Jx4a65c_get_915e3 q_J15_checkIndex_7cf53 q_J3_checkIndex_8e157 q_Jx4a65c_elementData_915e3
  have hin : inb (nI o) (dL S ed) := inb_nI (by omega) (by omega)
  have hc : (nI o).toNatClampNeg = o := nI_clamp (by omega)
  rw [b4]
  refine w_chk b1 <| w_bndc <| w_bndc <| w_in (nI_pos (by omega)) <| w_ip (nI_lt ho (by omega)) <| w_some <| w_some <| w_chk b1 <| w_bndc <| w_chk b1 <| w_bnd b2 <| w_chk b3 <| w_chk hin <| w_some <| w_some ⟨?_, rfl, rfl, rfl⟩
  rw [hc, b8 o ho]
theorem v_cases (v : Int32) {n : Nat} (hn : n < 2 ^ 30) : (∃ o, o < n ∧ v = -2 - nI o ∧ v ≤ -2 ∧ -2 - v = nI o) ∨ ((∀ o, o < n → v ≠ -2 - nI o) ∧ (v ≤ -2 → nI n ≤ -2 - v)) := by
  rcases v_split v (n := n) hn with h | h
  · exact Or.inl h
  · refine Or.inr ⟨fun o ho e => ?_, fun e2 => ?_⟩
    · have e3 : (-2 : Int32) - v = nI o := by rw [e, i22]
      rcases h (by rw [e]; exact v_le (by omega)) with h | h
      · rw [e3] at h; exact nI_ge ho (by omega) h
      · rw [e3] at h; exact nI_pos (by omega) h
    · rcases h e2 with h | h
      · exact h
      · exact absurd h (v_neg e2)
/-- the object that v names, on both sides -/
theorem thing_run (v : Int32) (hI : Inv e0 d t x g w S M) : (∃ o, o < g 9 1 ∧ v = -2 - nI o ∧ -2 - v = nI o ∧ v ≤ -2 ∧ q_X11_thingOf e0 S d v = some (some (g 0 o), S, 0, 0) ∧ q_isObject M v = some (1, M)) ∨ ((∀ o, o < g 9 1 → v ≠ -2 - nI o) ∧ q_X11_thingOf e0 S d v = some (none, S, 0, 0) ∧ q_isObject M v = some (0, M)) := by
  have hN := Inv_nums hI
  obtain ⟨c0, i2', ⟨a1, a2, a3, a4, a5, a6, a7, a8, a9, a10⟩, i4, i5, i6, -⟩ := hI
  have c1 : M 1 0 = nI (g 9 1) := c0.1
  rcases v_cases v (n := g 9 1) (by omega) with ⟨o, ho, e1, e2, e3⟩ | ⟨h1, h2⟩
  · refine Or.inl ⟨o, ho, e1, e3, e2, RD_eq ?_, ?_⟩
    · have hk := tk_K (i6.1 o ho).2.2.2
      unfold q_X11_thingOf
      rw [e3]
      refine w_ip e2 <| w_chk a2 <| w_bnd a5 <| w_chk a8.1 <| w_bk (size_run a8) <| w_in (nI_ge ho (by omega)) <| w_chk a2 <| w_bnd a5 <| w_chk a8.1 <| w_bk (get_run a8 ho (by omega)) <| w_bnd rfl <| w_chk hk <| w_some ⟨rfl, rfl, rfl, rfl⟩
    · unfold q_isObject
      rw [e3, c1, if_neg (Int32.not_lt.mpr e2), if_neg (nI_ge ho (by omega)), if_neg (nI_pos (by omega))]
      exact chk_i (Or.inr rfl)
  · refine Or.inr ⟨h1, RD_eq ?_, ?_⟩
    · unfold q_X11_thingOf
      by_cases e2 : v ≤ -2
      · exact w_ip e2 <| w_chk a2 <| w_bnd a5 <| w_chk a8.1 <| w_bk (size_run a8) <| w_ip (h2 e2) <| w_some ⟨rfl, rfl, rfl, rfl⟩
      · exact w_in e2 <| w_some ⟨rfl, rfl, rfl, rfl⟩
    · unfold q_isObject
      rw [c1]
      by_cases e2 : v ≤ -2
      · rw [if_neg (Int32.not_lt.mpr e2), if_pos (h2 e2)]; exact chk_i (Or.inl rfl)
      · rw [if_pos (Int32.not_le.mp e2)]; exact chk_i (Or.inl rfl)
theorem newObject_run {kd : Int32} (hI : Inv e0 d t x g w S M) (hO : g 9 1 + 1 ≤ 3000) : RM (q_newObject M kd) (fun r M' => r = nI (g 9 1) ∧ M' 1 0 = nI (g 9 1 + 1) ∧ M' 2 (g 9 1) = kd ∧ M' 3 (g 9 1) = 0 ∧ M' 4 (g 9 1) = -1 ∧ M' 5 (g 9 1) = -1 ∧ M' 6 (g 9 1) = -1 ∧ ∀ k i, ¬ (k = 1 ∧ i = 0) → ¬ (2 ≤ k ∧ k ≤ 6 ∧ i = g 9 1) → M' k i = M k i) := by
  have c1 : M 1 0 = nI (g 9 1) := hI.1.1
  have hi : inb (nI (g 9 1)) 3000 := inb_nI (by omega) (by omega)
  have hc : (nI (g 9 1)).toNatClampNeg = g 9 1 := nI_clamp (by omega)
  unfold q_newObject
  rw [c1, hc]
  refine m_lt <| m_chk hi <| m_lt <| m_chk hi <| m_lt <| m_chk hi <| m_lt <| m_chk hi <| m_lt <| m_chk hi <| m_lt <| m_some ?_
  simp only [r_m, nI_1]
  simp
  intro k i h1 h2
  grind
/-- the class's side of a new object of kind kn (7, 10 or 11) whose cell is written in S1 -/
theorem add_thing {q : Nat} (hI : Inv e0 d t x g w S M) (hS : Same S S1) (hq0 : dK S q = 0) (hq1 : dK S1 q = 7 ∨ dK S1 q = 10 ∨ dK S1 q = 11) : RD (q_Jx4a65c_add_9ea2d e0 S1 (g 14 2) (some q)) (fun _ S2 C Z => ∃ ed', dFr S2 ∧ AL S2 e0 (g 14 2) ed' (g 9 1 + 1) (fun i => if i = g 9 1 then q else g 0 i) ∧ (ed' = g 14 4 ∨ (dK S1 ed' = 0 ∧ dn S1 ≤ ed')) ∧ FA S1 S2 (g 14 2) (g 14 4) ∧ C ≤ 1 ∧ Z + 4 * dL S (g 14 4) ≤ 4 * dL S2 ed') := by
  have hN := Inv_nums hI
  obtain ⟨hI1, c⟩ := Inv_same hI hS
  obtain ⟨i1, i2, ⟨a1, a2, a3, a4, a5, a6, a7, a8, a9, a10⟩, i4, i5, i6, -⟩ := hI1
  have hL : dL S1 (g 14 4) = dL S (g 14 4) := by
    have : dK S (g 14 4) ≠ 0 := by
      have := hI.2.2.1.2.2.2.2.2.2.2.1.2.2.1
      rw [this]; decide
    exact (hS.2.2 _ this).2.1
  rw [← hL]
  exact add_ok a1 a8 ⟨a3, a4⟩ (by omega) (by unfold okE; omega) (fun i hi => by have := tk_K (i6.1 i hi).2.2.2; unfold okE; omega)
theorem nextV (hI : Inv e0 d t x g w S M) : q_X11_nextValue e0 S d = some (-2 - nI (g 9 1), S, 0, 0) := by
  obtain ⟨i1, i2, ⟨a1, a2, a3, a4, a5, a6, a7, a8, a9, a10⟩, -⟩ := hI
  refine RD_eq ?_
  unfold q_X11_nextValue
  exact w_chk a2 <| w_bnd a5 <| w_chk a8.1 <| w_bk (size_run a8) <| w_some ⟨rfl, rfl, rfl, rfl⟩
theorem thingD_run {kd : Int32} {p2 : Option Nat} (hI : Inv e0 d t x g w S M) : RD (q_X11_newThing e0 S d kd p2) (fun r S2 C Z => r = -2 - nI (g 9 1) ∧ ∃ q ed' S1, Same S S1 ∧ dK S q = 0 ∧ dK S1 q = 11 ∧ FA S1 S2 (g 14 2) (g 14 4) ∧ dFr S2 ∧ AL S2 e0 (g 14 2) ed' (g 9 1 + 1) (fun i => if i = g 9 1 then q else g 0 i) ∧ (ed' = g 14 4 ∨ (dK S1 ed' = 0 ∧ dn S1 ≤ ed')) ∧ dP S2 607 q = none ∧ dP S2 608 q = none ∧ dI S2 1000 q = -2 - nI (g 9 1) ∧ dI S2 1001 q = kd ∧ dP S2 1002 q = p2 ∧ dK S2 q = 11 ∧ C ≤ 2 ∧ Z + 4 * dL S (g 14 4) ≤ 3 + 4 * dL S2 ed') := by
  have hfr := hI.2.2.1.1
  have hd := hI.2.2.1.2.1
  have hdn : d < dn S := hfr d (by rw [hd]; decide)
  have hk0 := K_dn hfr
  have hS0 : Same S (sO S 11) := Same_sO hfr (by decide)
  obtain ⟨hI1, -⟩ := Inv_same hI hS0
  unfold q_X11_newThing
  refine w_tick <| w_lt <| w_lt <| w_chk hI1.2.2.1.2.1 <| w_bk (nextV hI1) ?_
  have hkq : dK (sO S 11) (dn S) = 11 := by simp [r_KI, r_LI, r_PI, r_XI, r_YI, r_nI, r_II, r_KP, r_LP, r_IP, r_XP, r_YP, r_nP, r_PP, r_KX, r_LX, r_IX, r_PX, r_YX, r_nX, r_XX, r_KY, r_LY, r_IY, r_PY, r_XY, r_nY, r_YY, r_KO, r_LO, r_IO, r_PO, r_XO, r_YO, r_nO, r_KA, r_LA, r_IA, r_PA, r_XA, r_YA, r_nA, r_KB, r_LB, r_IB, r_PB, r_XB, r_YB, r_nB]
  unfold q_X10_init
  refine w_bndc <| w_chk (Or.inr (Or.inr hkq)) <| w_lt <| w_lt <| w_lt <| w_some ?_
  have hS1 : Same S (sP (sI (sI (sO S 11) 1000 (dn S) (-2 - nI (g 9 1))) 1001 (dn S) kd) 1002 (dn S) p2) := Same_sP (Same_sI (Same_sI hS0 hk0) hk0) hk0
  obtain ⟨hI2, -⟩ := Inv_same hI hS1
  refine w_chk hI2.2.2.1.2.1 <| w_bnd hI2.2.2.1.2.2.2.2.1 <| w_chk hI2.2.2.1.2.2.2.2.2.2.2.1.1 <| w_bndc ?_
  refine w_mono (add_thing hI hS1 hk0 (Or.inr (Or.inr hkq))) ?_
  rintro r S2 C Z ⟨ed', f1, f2, f3, f4, f5, f6⟩
  have p := f4.2 (dn S) (by show dK (sO S 11) (dn S) ≠ 0; rw [hkq]; decide)
  have hne : dn S ≠ g 14 2 := by
    have := hI.2.2.1.2.2.2.2.2.2.2.1.1
    have := hfr _ (by rw [this]; decide : dK S (g 14 2) ≠ 0)
    omega
  have hkq2 : dK S2 (dn S) = 11 := by rw [p.1]; exact hkq
  have k1000 : dI S2 1000 (dn S) = -2 - nI (g 9 1) := by rw [(p.2.2.2.1 hne 1000).1]; simp [r_KI, r_LI, r_PI, r_XI, r_YI, r_nI, r_II, r_KP, r_LP, r_IP, r_XP, r_YP, r_nP, r_PP, r_KX, r_LX, r_IX, r_PX, r_YX, r_nX, r_XX, r_KY, r_LY, r_IY, r_PY, r_XY, r_nY, r_YY, r_KO, r_LO, r_IO, r_PO, r_XO, r_YO, r_nO, r_KA, r_LA, r_IA, r_PA, r_XA, r_YA, r_nA, r_KB, r_LB, r_IB, r_PB, r_XB, r_YB, r_nB]
  refine w_chk (Or.inr (Or.inr hkq2)) <| w_some ⟨k1000, dn S, ed', _, hS1, hk0, hkq, f4, f1, f2, f3, ?_, ?_, k1000, ?_, ?_, hkq2, by omega, by omega⟩
  · rw [(p.2.2.2.1 hne 607).2]; simp [r_KI, r_LI, r_PI, r_XI, r_YI, r_nI, r_II, r_KP, r_LP, r_IP, r_XP, r_YP, r_nP, r_PP, r_KX, r_LX, r_IX, r_PX, r_YX, r_nX, r_XX, r_KY, r_LY, r_IY, r_PY, r_XY, r_nY, r_YY, r_KO, r_LO, r_IO, r_PO, r_XO, r_YO, r_nO, r_KA, r_LA, r_IA, r_PA, r_XA, r_YA, r_nA, r_KB, r_LB, r_IB, r_PB, r_XB, r_YB, r_nB]
  · rw [(p.2.2.2.1 hne 608).2]; simp [r_KI, r_LI, r_PI, r_XI, r_YI, r_nI, r_II, r_KP, r_LP, r_IP, r_XP, r_YP, r_nP, r_PP, r_KX, r_LX, r_IX, r_PX, r_YX, r_nX, r_XX, r_KY, r_LY, r_IY, r_PY, r_XY, r_nY, r_YY, r_KO, r_LO, r_IO, r_PO, r_XO, r_YO, r_nO, r_KA, r_LA, r_IA, r_PA, r_XA, r_YA, r_nA, r_KB, r_LB, r_IB, r_PB, r_XB, r_YB, r_nB]
  · rw [(p.2.2.2.1 hne 1001).1]; simp [r_KI, r_LI, r_PI, r_XI, r_YI, r_nI, r_II, r_KP, r_LP, r_IP, r_XP, r_YP, r_nP, r_PP, r_KX, r_LX, r_IX, r_PX, r_YX, r_nX, r_XX, r_KY, r_LY, r_IY, r_PY, r_XY, r_nY, r_YY, r_KO, r_LO, r_IO, r_PO, r_XO, r_YO, r_nO, r_KA, r_LA, r_IA, r_PA, r_XA, r_YA, r_nA, r_KB, r_LB, r_IB, r_PB, r_XB, r_YB, r_nB]
  · rw [(p.2.2.2.1 hne 1002).2]; simp [r_KI, r_LI, r_PI, r_XI, r_YI, r_nI, r_II, r_KP, r_LP, r_IP, r_XP, r_YP, r_nP, r_PP, r_KX, r_LX, r_IX, r_PX, r_YX, r_nX, r_XX, r_KY, r_LY, r_IY, r_PY, r_XY, r_nY, r_YY, r_KO, r_LO, r_IO, r_PO, r_XO, r_YO, r_nO, r_KA, r_LA, r_IA, r_PA, r_XA, r_YA, r_nA, r_KB, r_LB, r_IB, r_PB, r_XB, r_YB, r_nB]
theorem dL_cf {i : Nat} (c : CF g S M g' S' M') (hi : i ≠ 4) (h : dK S (g 14 i) ≠ 0) : dL S' (g' 14 i) = dL S (g 14 i) := by
  rw [c.2.1.2.2.2.2.2.2.2.2.2.2.2.2.2.2.2.2.2.2.2.2.2 i hi, (c.1.2 _ h).2.1]
/-- what a step costs, out of the counts -/
theorem Cs_mk {k C Z : Nat} (hI : Inv e0 d t x g w S M) (c : CF g S M g' S' M') (h4 : Z + 5 * k + 60 * (g 9 1 + g 9 15 + g 9 22 + g 9 30) + 4 * dL S (g 14 4) ≤ 60 * (g' 9 1 + g' 9 15 + g' 9 22 + g' 9 30) + 4 * dL S' (g' 14 4)) (h5 : C + k + 10 * (g 9 1 + g 9 15 + g 9 22 + g 9 30) ≤ 10 * (g' 9 1 + g' 9 15 + g' 9 22 + g' 9 30)) : Cs k g S g' S' C Z := by
  have l5 := dL_cf (i := 5) c (by omega) (by rw [hI.2.2.1.2.2.2.2.2.2.2.2.1.2.2.1]; decide)
  have l7 := dL_cf (i := 7) c (by omega) (by rw [hI.2.2.2.1.2.1]; decide)
  have e33 : g' 9 33 = g 9 33 := c.2.1.2.2.2.2.2.1
  have e36 : g' 9 36 = g 9 36 := c.2.1.2.2.2.2.2.2.1
  unfold Cs pc pz
  rw [l5, l7, e33, e36]
  omega
theorem Cs_0 (hI : Inv e0 d t x g w S M) (c : CF g S M g' S' M') (h4 : g' 14 4 = g 14 4) : Cs 0 g S g' S' 0 0 := by
  have hk : dK S (g 14 4) ≠ 0 := by rw [hI.2.2.1.2.2.2.2.2.2.2.1.2.2.1]; decide
  have l4 : dL S' (g' 14 4) = dL S (g 14 4) := by rw [h4, (c.1.2 _ hk).2.1]
  have := c.2.1
  unfold GE at this
  refine Cs_mk hI c ?_ ?_
  · rw [l4]; omega
  · omega
theorem Cs_trans {k1 k2 C1 Z1 C2 Z2 : Nat} {g1 : GH} (h1 : Cs k1 g S g1 S1 C1 Z1) (h2 : Cs k2 g1 S1 g' S' C2 Z2) : Cs (k1 + k2) g S g' S' (C1 + C2) (Z1 + Z2) := by
  unfold Cs at *; omega
theorem Cs_le {k1 k2 C1 Z1 C2 Z2 : Nat} (h1 : Cs k1 g S g' S' C1 Z1) (h : C2 + k2 ≤ C1 + k1) (h2 : Z2 + 5 * k2 ≤ Z1 + 5 * k1) : Cs k2 g S g' S' C2 Z2 := by
  unfold Cs at *; omega
end MAK
