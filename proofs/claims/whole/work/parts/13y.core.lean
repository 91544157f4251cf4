section COR
variable {e0 d t x n : Nat} {g g' : GH} {w w' : Nat → List Nat} {S S' S1 S2 S0 : DS} {M M' M1 : MS}
theorem T_7 {o : Nat} (hI : Inv e0 d t x g w S M) (ho : o < g 9 1) (h2 : M 2 o = 0) : dK S (g 0 o) = 7 := by
  have := (hI.2.2.2.2.2.1.1 o ho).2.2.2
  unfold tk at this; grind
theorem ed_L (hI : Inv e0 d t x g w S M) : dK S (g 14 4) ≠ 0 := by
  rw [hI.2.2.1.2.2.2.2.2.2.2.1.2.2.1]; decide
/-- a new object that has no data (kind 2) -/
theorem s_err (hI : Inv e0 d t x g w S M) (hO : g 9 1 + 1 ≤ 3000) : RD (q_X11_newThing e0 S d 2 none) (fun r S' C Z => r = -2 - nI (g 9 1) ∧ RM (q_newObject M 2) (fun r' M' => r' = nI (g 9 1) ∧ ∃ g', Inv e0 d t x g' w S' M' ∧ CF g S M g' S' M' ∧ Cs 5 g S g' S' C Z ∧ g' 9 1 = g 9 1 + 1 ∧ g' 9 15 = g 9 15 ∧ g' 9 22 = g 9 22)) := by
  refine w_mono (thingD_run (kd := 2) (p2 := none) hI) ?_
  rintro r S2 C Z ⟨rfl, q, ed', S1, f1, f2, f3, f4, f5, f6, f7, f8, f9, f10, f11, f12, f13, f14, f15⟩
  obtain ⟨r', M', eM, rfl, m1, m2, m3, m4, m5, m6, mo⟩ := newObject_run (kd := 2) hI hO
  refine ⟨rfl, nI (g 9 1), M', eM, rfl, ?_⟩
  obtain ⟨hI', c⟩ := P_thing hI f1 f2 (by omega) f4 f5 f6 f7 hO m1 (fun k i h1 h2 => mo k i h1 (by omega)) m5 m3 rfl ⟨f8, f9⟩ ⟨f10, by rw [f11, m2], Or.inr (Or.inr (Or.inl ⟨m2, f13, f12⟩))⟩
  refine ⟨_, hI', c, Cs_mk hI c ?_ ?_, by simp [r_g], by simp [r_g], by simp [r_g]⟩
  · simp [r_g]; omega
  · simp [r_g]; omega
/-- a promise with its pair of functions -/
theorem s_cap (hI : Inv e0 d t x g w S M) (hO : g 9 1 + 1 ≤ 3000) : RD (q_X11_newPromise e0 S d) (fun r S' C Z => RM (q_capability M) (fun r' M' => r' = nI (g 9 15) ∧ ∃ g', r = some (g' 1 (g 9 15)) ∧ Inv e0 d t x g' w S' M' ∧ CF g S M g' S' M' ∧ Cs 15 g S g' S' C Z ∧ g' 9 1 = g 9 1 + 1 ∧ g' 9 15 = g 9 15 + 1 ∧ g' 9 22 = g 9 22 ∧ M' 13 (g 9 15) = nI (g 9 1) ∧ M' 14 (g 9 15) = 0 ∧ M' 2 (g 9 1) = 0 ∧ M' 3 (g 9 1) = 0 ∧ M' 6 (g 9 1) = -1)) := by
  have hN := Inv_nums hI
  have hfr := hI.2.2.1.1
  have hk0 := K_dn hfr
  have hS0 : Same S (sO S 7) := Same_sO hfr (by decide)
  obtain ⟨hI1, -⟩ := Inv_same hI hS0
  unfold q_X11_newPromise
  refine w_tick <| w_lt <| w_lt <| w_chk hI1.2.2.1.2.1 <| w_bk (nextV hI1) ?_
  have hkq : dK (sO S 7) (dn S) = 7 := by simp [r_KI, r_LI, r_PI, r_XI, r_YI, r_nI, r_II, r_KP, r_LP, r_IP, r_XP, r_YP, r_nP, r_PP, r_KX, r_LX, r_IX, r_PX, r_YX, r_nX, r_XX, r_KY, r_LY, r_IY, r_PY, r_XY, r_nY, r_YY, r_KO, r_LO, r_IO, r_PO, r_XO, r_YO, r_nO, r_KA, r_LA, r_IA, r_PA, r_XA, r_YA, r_nA, r_KB, r_LB, r_IB, r_PB, r_XB, r_YB, r_nB]
  unfold q_X6_init q_X10_init
  refine w_bndc <| w_bndc <| w_chk (Or.inl hkq) <| w_lt <| w_lt <| w_lt <| w_some <| w_chk hkq <| w_lt <| w_lt <| w_some ?_
  have hS1 : Same S (sI (sI (sP (sI (sI (sO S 7) 1000 (dn S) (-2 - nI (g 9 1))) 1001 (dn S) 0) 1002 (dn S) none) 603 (dn S) 0) 604 (dn S) (-1)) := Same_sI (Same_sI (Same_sP (Same_sI (Same_sI hS0 hk0) hk0) hk0) hk0) hk0
  obtain ⟨hI2, -⟩ := Inv_same hI hS1
  refine w_chk hI2.2.2.1.2.1 <| w_bnd hI2.2.2.1.2.2.2.2.1 <| w_chk hI2.2.2.1.2.2.2.2.2.2.2.1.1 <| w_bndc ?_
  refine w_mono (add_thing hI hS1 hk0 (Or.inl hkq)) ?_
  rintro r S2 C Z ⟨ed', f1, f2, f3, f4, f5, f6⟩
  have p := f4.2 (dn S) (by show dK (sO S 7) (dn S) ≠ 0; rw [hkq]; decide)
  have hne : dn S ≠ g 14 2 := by
    have := hI.2.2.1.2.2.2.2.2.2.2.1.1
    have := hfr _ (by rw [this]; decide : dK S (g 14 2) ≠ 0)
    omega
  have hkq2 : dK S2 (dn S) = 7 := by rw [p.1]; exact hkq
  have pI : ∀ f, dI S2 f (dn S) = _ := fun f => (p.2.2.2.1 hne f).1
  have pP : ∀ f, dP S2 f (dn S) = _ := fun f => (p.2.2.2.1 hne f).2
  obtain ⟨r', M1, eM1, rfl, m1, m2, m3, m4, m5, m6, mo⟩ := newObject_run (kd := 0) hI hO
  have m7 : M1 7 (g 9 1) = 0 := by rw [mo 7 _ (by omega) (by omega)]; exact hI.2.2.2.2.2.1.2 _ (Nat.le_refl _)
  obtain ⟨hI3, c3⟩ := P_thing hI hS1 hk0 (by show dK (sO S 7) (dn S) ≠ 0; rw [hkq]; decide) f4 f1 f2 f3 hO m1 (fun k i h1 h2 => mo k i h1 (by omega)) m5 m3 rfl ⟨by rw [pP]; simp [r_KI, r_LI, r_PI, r_XI, r_YI, r_nI, r_II, r_KP, r_LP, r_IP, r_XP, r_YP, r_nP, r_PP, r_KX, r_LX, r_IX, r_PX, r_YX, r_nX, r_XX, r_KY, r_LY, r_IY, r_PY, r_XY, r_nY, r_YY, r_KO, r_LO, r_IO, r_PO, r_XO, r_YO, r_nO, r_KA, r_LA, r_IA, r_PA, r_XA, r_YA, r_nA, r_KB, r_LB, r_IB, r_PB, r_XB, r_YB, r_nB], by rw [pP]; simp [r_KI, r_LI, r_PI, r_XI, r_YI, r_nI, r_II, r_KP, r_LP, r_IP, r_XP, r_YP, r_nP, r_PP, r_KX, r_LX, r_IX, r_PX, r_YX, r_nX, r_XX, r_KY, r_LY, r_IY, r_PY, r_XY, r_nY, r_YY, r_KO, r_LO, r_IO, r_PO, r_XO, r_YO, r_nO, r_KA, r_LA, r_IA, r_PA, r_XA, r_YA, r_nA, r_KB, r_LB, r_IB, r_PB, r_XB, r_YB, r_nB]⟩ ⟨by rw [pI]; simp [r_KI, r_LI, r_PI, r_XI, r_YI, r_nI, r_II, r_KP, r_LP, r_IP, r_XP, r_YP, r_nP, r_PP, r_KX, r_LX, r_IX, r_PX, r_YX, r_nX, r_XX, r_KY, r_LY, r_IY, r_PY, r_XY, r_nY, r_YY, r_KO, r_LO, r_IO, r_PO, r_XO, r_YO, r_nO, r_KA, r_LA, r_IA, r_PA, r_XA, r_YA, r_nA, r_KB, r_LB, r_IB, r_PB, r_XB, r_YB, r_nB], by rw [pI, m2]; simp [r_KI, r_LI, r_PI, r_XI, r_YI, r_nI, r_II, r_KP, r_LP, r_IP, r_XP, r_YP, r_nP, r_PP, r_KX, r_LX, r_IX, r_PX, r_YX, r_nX, r_XX, r_KY, r_LY, r_IY, r_PY, r_XY, r_nY, r_YY, r_KO, r_LO, r_IO, r_PO, r_XO, r_YO, r_nO, r_KA, r_LA, r_IA, r_PA, r_XA, r_YA, r_nA, r_KB, r_LB, r_IB, r_PB, r_XB, r_YB, r_nB], Or.inl ⟨m2, hkq2, by rw [pP]; simp [r_KI, r_LI, r_PI, r_XI, r_YI, r_nI, r_II, r_KP, r_LP, r_IP, r_XP, r_YP, r_nP, r_PP, r_KX, r_LX, r_IX, r_PX, r_YX, r_nX, r_XX, r_KY, r_LY, r_IY, r_PY, r_XY, r_nY, r_YY, r_KO, r_LO, r_IO, r_PO, r_XO, r_YO, r_nO, r_KA, r_LA, r_IA, r_PA, r_XA, r_YA, r_nA, r_KB, r_LB, r_IB, r_PB, r_XB, r_YB, r_nB], by rw [pI, m3]; simp [r_KI, r_LI, r_PI, r_XI, r_YI, r_nI, r_II, r_KP, r_LP, r_IP, r_XP, r_YP, r_nP, r_PP, r_KX, r_LX, r_IX, r_PX, r_YX, r_nX, r_XX, r_KY, r_LY, r_IY, r_PY, r_XY, r_nY, r_YY, r_KO, r_LO, r_IO, r_PO, r_XO, r_YO, r_nO, r_KA, r_LA, r_IA, r_PA, r_XA, r_YA, r_nA, r_KB, r_LB, r_IB, r_PB, r_XB, r_YB, r_nB], by rw [pI, m4]; simp [r_KI, r_LI, r_PI, r_XI, r_YI, r_nI, r_II, r_KP, r_LP, r_IP, r_XP, r_YP, r_nP, r_PP, r_KX, r_LX, r_IX, r_PX, r_YX, r_nX, r_XX, r_KY, r_LY, r_IY, r_PY, r_XY, r_nY, r_YY, r_KO, r_LO, r_IO, r_PO, r_XO, r_YO, r_nO, r_KA, r_LA, r_IA, r_PA, r_XA, r_YA, r_nA, r_KB, r_LB, r_IB, r_PB, r_XB, r_YB, r_nB], by rw [pI, m7]; simp [r_KI, r_LI, r_PI, r_XI, r_YI, r_nI, r_II, r_KP, r_LP, r_IP, r_XP, r_YP, r_nP, r_PP, r_KX, r_LX, r_IX, r_PX, r_YX, r_nX, r_XX, r_KY, r_LY, r_IY, r_PY, r_XY, r_nY, r_YY, r_KO, r_LO, r_IO, r_PO, r_XO, r_YO, r_nO, r_KA, r_LA, r_IA, r_PA, r_XA, r_YA, r_nA, r_KB, r_LB, r_IB, r_PB, r_XB, r_YB, r_nB], by rw [m7]; exact Or.inl rfl, Or.inl ⟨m6, by rw [pP]; simp [r_KI, r_LI, r_PI, r_XI, r_YI, r_nI, r_II, r_KP, r_LP, r_IP, r_XP, r_YP, r_nP, r_PP, r_KX, r_LX, r_IX, r_PX, r_YX, r_nX, r_XX, r_KY, r_LY, r_IY, r_PY, r_XY, r_nY, r_YY, r_KO, r_LO, r_IO, r_PO, r_XO, r_YO, r_nO, r_KA, r_LA, r_IA, r_PA, r_XA, r_YA, r_nA, r_KB, r_LB, r_IB, r_PB, r_XB, r_YB, r_nB]⟩, Or.inl m3⟩⟩
  -- the pair
  have hk2 := K_dn f1
  have hS4 : Same S2 (sP (sO S2 8) 700 (dn S2) (some (dn S))) := Same_sP (Same_sO f1 (by decide)) hk2
  obtain ⟨hI4, c4⟩ := Inv_same hI3 hS4
  generalize hgg : gput (gput (gput (gput g 0 (g 9 1) (dn S)) 12 (dn S) (g 9 1)) 14 4 ed') 9 1 (g 9 1 + 1) = g3 at hI3 c3 hI4 c4
  have e1 : g3 9 1 = g 9 1 + 1 := by rw [← hgg]; simp [r_g]
  have e15 : g3 9 15 = g 9 15 := by rw [← hgg]; simp [r_g]
  have e22 : g3 9 22 = g 9 22 := by rw [← hgg]; simp [r_g]
  have e30 : g3 9 30 = g 9 30 := by rw [← hgg]; simp [r_g]
  have e36 : g3 9 36 = g 9 36 := by rw [← hgg]; simp [r_g]
  have e0q : g3 0 (g 9 1) = dn S := by rw [← hgg]; simp [r_g]
  have e144 : g3 14 4 = ed' := by rw [← hgg]; simp [r_g]
  unfold q_X7_init
  refine w_tick <| w_lt <| w_lt <| w_bndc <| w_chk (by simp [r_KI, r_LI, r_PI, r_XI, r_YI, r_nI, r_II, r_KP, r_LP, r_IP, r_XP, r_YP, r_nP, r_PP, r_KX, r_LX, r_IX, r_PX, r_YX, r_nX, r_XX, r_KY, r_LY, r_IY, r_PY, r_XY, r_nY, r_YY, r_KO, r_LO, r_IO, r_PO, r_XO, r_YO, r_nO, r_KA, r_LA, r_IA, r_PA, r_XA, r_YA, r_nA, r_KB, r_LB, r_IB, r_PB, r_XB, r_YB, r_nB]) <| w_lt <| w_some <| w_some ?_
  have hi15 : inb (nI (g 9 15)) 12000 := inb_nI (by omega) (by omega)
  have c15 : (nI (g 9 15)).toNatClampNeg = g 9 15 := nI_clamp (by omega)
  have k15 : M1 15 0 = nI (g 9 15) := by rw [mo 15 0 (by omega) (by omega)]; exact hI.1.2.1
  have erec : q_record M1 (nI (g 9 1)) = some (nI (g 9 15), mput (mput (mput M1 15 0 (nI (g 9 15) + 1)) 13 (g 9 15) (nI (g 9 1))) 14 (g 9 15) 0) := by
    unfold q_record
    rw [k15, c15]
    show chk _ _ = _
    rw [chk_i hi15]
    show chk _ _ = _
    rw [chk_i hi15, chk_i (Or.inl rfl)]
    rfl
  have hrec := P_rec (b := dn S2) (p := g 9 1) hI4 (by simp [r_KI, r_LI, r_PI, r_XI, r_YI, r_nI, r_II, r_KP, r_LP, r_IP, r_XP, r_YP, r_nP, r_PP, r_KX, r_LX, r_IX, r_PX, r_YX, r_nX, r_XX, r_KY, r_LY, r_IY, r_PY, r_XY, r_nY, r_YY, r_KO, r_LO, r_IO, r_PO, r_XO, r_YO, r_nO, r_KA, r_LA, r_IA, r_PA, r_XA, r_YA, r_nA, r_KB, r_LB, r_IB, r_PB, r_XB, r_YB, r_nB]) (by simp [r_KI, r_LI, r_PI, r_XI, r_YI, r_nI, r_II, r_KP, r_LP, r_IP, r_XP, r_YP, r_nP, r_PP, r_KX, r_LX, r_IX, r_PX, r_YX, r_nX, r_XX, r_KY, r_LY, r_IY, r_PY, r_XY, r_nY, r_YY, r_KO, r_LO, r_IO, r_PO, r_XO, r_YO, r_nO, r_KA, r_LA, r_IA, r_PA, r_XA, r_YA, r_nA, r_KB, r_LB, r_IB, r_PB, r_XB, r_YB, r_nB, e0q]) (by simp [r_KI, r_LI, r_PI, r_XI, r_YI, r_nI, r_II, r_KP, r_LP, r_IP, r_XP, r_YP, r_nP, r_PP, r_KX, r_LX, r_IX, r_PX, r_YX, r_nX, r_XX, r_KY, r_LY, r_IY, r_PY, r_XY, r_nY, r_YY, r_KO, r_LO, r_IO, r_PO, r_XO, r_YO, r_nO, r_KA, r_LA, r_IA, r_PA, r_XA, r_YA, r_nA, r_KB, r_LB, r_IB, r_PB, r_XB, r_YB, r_nB]) (by omega) m2 (fun r hr e => ?_) (fun j h1 h2 e => ?_) ?_ (M' := mput (mput (mput M1 15 0 (nI (g 9 15) + 1)) 13 (g 9 15) (nI (g 9 1))) 14 (g 9 15) 0) ?_ ?_ ?_ ?_ rfl
  · obtain ⟨hI5, c5⟩ := hrec
    rw [e15] at hI5 c5
    have ecap : q_capability M = some (nI (g 9 15), mput (mput (mput M1 15 0 (nI (g 9 15) + 1)) 13 (g 9 15) (nI (g 9 1))) 14 (g 9 15) 0) := by
      unfold q_capability
      rw [eM1, bnd2_s, erec]
      rfl
    have c := CF_trans (CF_trans c3 c4) c5
    refine ⟨_, _, ecap, rfl, _, ?_, hI5, c, Cs_mk hI c ?_ ?_, ?_, ?_, ?_, ?_, ?_, ?_, ?_, ?_⟩
    · simp [r_g]
    · have : dL (sP (sO S2 8) 700 (dn S2) (some (dn S))) ed' = dL S2 ed' := rfl
      simp [r_g, e1, e15, e22, e30, e144, this]; omega
    · simp [r_g, e1, e15, e22, e30]; omega
    · simp [r_g, e1]
    · simp [r_g]
    · simp [r_g, e22]
    · simp [r_m]
    · simp [r_m]
    · simp [r_m, m2]
    · simp [r_m, m3]
    · simp [r_m, m6]
  · have h8 := (hI3.2.2.2.2.2.2.1 r hr).1
    rw [e, hk2] at h8; cases h8
  · have hj := hI3.2.2.2.2.2.2.2.2.2.2.1.2.2.2.2 j h1 h2
    have hj1 := hj.1
    have : dP (sP (sO S2 8) 700 (dn S2) (some (dn S))) 402 (g3 6 j) = dP S2 402 (g3 6 j) := by
      exact ((hS4.2.2 _ (by rw [hj1]; decide)).2.2.2.2 402).2
    rw [this] at e
    rcases hj.2.2 with ⟨-, k, h3, h4, -⟩ | ⟨-, -, o, p, b, -, -, -, -, -, -, -, h5, h6, -⟩
    · have hK := (hI3.2.2.2.2.2.2.2.2.1 k h3).2.2.1
      rw [h4] at e
      rcases hK with ⟨-, h, -⟩ | ⟨-, -, ⟨r, hr, -, h⟩, -⟩
      · rw [h] at e; cases e
      · rw [h] at e
        have h8 := (hI3.2.2.2.2.2.2.1 r hr).1
        rw [Option.some.inj e, hk2] at h8; cases h8
    · rw [h5] at e
      rw [Option.some.inj e, hk2] at h6; cases h6
  · have := hI.2.1
    unfold A_bd at this
    omega
  · rw [e15]; simp [r_m, nI_1]
  · rw [e15]; simp [r_m]
  · rw [e15]; simp [r_m]
  · intro k i h1 h2
    rw [e15] at h2
    rw [r_m, if_neg (by omega), r_m, if_neg (by omega), r_m, if_neg (by omega)]
theorem s_reject {r : Nat} {v : Int32} (hI : Inv e0 d t 0 g w S M) (hr : r < g 9 15) (hn : 4000 < n) : RD (q_X11_reject e0 n S d (some (g 1 r)) v) (fun _ S' C Z => RV (q_reject n M (nI r) v) (fun M' => ∃ g' w', Inv e0 d t 0 g' w' S' M' ∧ CF g S M g' S' M' ∧ Cs 0 g S g' S' C Z ∧ g' 9 1 = g 9 1 ∧ g' 9 15 = g 9 15 ∧ g' 9 22 = g 9 22)) := by
  have hN := Inv_nums hI
  obtain ⟨r1, r2, r3, r4, p, r5, r6, r7, r8⟩ := hI.2.2.2.2.2.2.1 r hr
  have hi : inb (nI r) 12000 := inb_nI (by omega) (by omega)
  have cr : (nI r).toNatClampNeg = r := nI_clamp (by omega)
  unfold q_X11_reject
  refine w_in (by simp) <| w_bnd rfl <| w_chk r1 ?_
  rw [r3]
  by_cases h0 : M 14 r = 0
  · obtain ⟨hI1, c1⟩ := P_done hI hr h0
    obtain ⟨r', S2, C, Z, eD, M2, eM, g2, w2, hI2, c2, rfl, rfl, e1, e2, e3, e4⟩ := s_settle (n := n) (p := p) (st := 2) (v := v) (Or.inr rfl) hI1 r6 (by rw [r_m, if_neg (by omega)]; exact r7) hn
    refine w_ip h0 <| w_chk (Or.inr rfl) <| w_lt <| w_chk hI.2.2.1.2.1 ?_
    have e7 : dP (sI S 701 (g 1 r) 1) 700 (g 1 r) = some (g 0 p) := r8
    rw [e7]
    refine w_bk eD <| w_some ?_
    refine ⟨M2, ?_, g2, w2, Inv_x hI2 (by omega), CF_trans c1 c2, Cs_0 hI (CF_trans c1 c2) e4, e1, e2, e3⟩
    unfold q_reject
    rw [chk_i hi, cr, if_pos h0, chk_i hi, chk_i (Or.inr rfl)]
    show chk _ _ = _
    rw [chk_i hi]
    have e5 : mput M 14 r 1 13 r = nI p := by rw [r_m, if_neg (by omega)]; exact r5
    rw [e5, eM]; rfl
  · refine w_in h0 <| w_some ?_
    refine ⟨M, ?_, g, w, hI, CF_refl _ _ _, Cs_0 hI (CF_refl _ _ _) rfl, rfl, rfl, rfl⟩
    unfold q_reject
    rw [chk_i hi, cr, if_neg h0]
end COR
