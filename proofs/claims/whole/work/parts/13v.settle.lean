def pc (g : GH) : Nat := 10 * (g 9 1 + g 9 15 + g 9 22 + g 9 30 + g 9 33 + g 9 36)
def pz (g : GH) (S : DS) : Nat := 60 * (g 9 1 + g 9 15 + g 9 22 + g 9 30 + g 9 33 + g 9 36) + 4 * (dL S (g 14 4) + dL S (g 14 5) + dL S (g 14 7))
def Cs (k : Nat) (g : GH) (S : DS) (g' : GH) (S' : DS) (C Z : Nat) : Prop := C + k + pc g ≤ pc g' ∧ Z + 5 * k + pz g S ≤ pz g' S'
section STL
variable {e0 d t x n : Nat} {g g' : GH} {w w' : Nat → List Nat} {S S' S1 S2 S0 : DS} {M M' M1 : MS}
theorem Inv_x {y : Nat} (h : Inv e0 d t x g w S M) (hy : y ≤ x) : Inv e0 d t y g w S M := by
  unfold Inv A_bd at *
  obtain ⟨i1, i2, i3⟩ := h
  refine ⟨i1, ?_, i3⟩
  omega
theorem Inv_nums (h : Inv e0 d t x g w S M) : t ≤ 512 ∧ g 9 1 ≤ 3000 ∧ g 9 15 ≤ 10513 ∧ g 9 22 ≤ 3512 ∧ g 9 30 + x ≤ 14025 ∧ g 9 29 ≤ g 9 30 ∧ g 9 33 ≤ 1000 ∧ g 9 36 ≤ 4001 ∧ g 9 38 ≤ 200 ∧ g 9 42 ≤ 3512 ∧ g 9 50 ≤ 3000 := by
  unfold Inv A_bd at h
  omega
theorem react_run {k J : Nat} {st v : Int32} (h30 : M 30 0 = nI J) (hJ : J < 24000) (hk : k < 12000) : RV (q_react M (nI k) st v) (fun M' => M' 30 0 = nI (J + 1) ∧ (∀ a i, ¬ (a = 30 ∧ i = 0) → ¬ (23 ≤ a ∧ a ≤ 28 ∧ i = J) → M' a i = M a i) ∧ M' 28 J = 0 ∧ M' 27 J = (if st = 2 then 1 else 0) ∧ M' 23 J = (if st = 2 then M 20 k else M 18 k) ∧ M' 24 J = (if st = 2 then M 21 k else M 19 k) ∧ M' 25 J = M 17 k ∧ M' 26 J = v) := by
  have hi : inb (nI J) 24000 := inb_nI hJ (by omega)
  have hk' : inb (nI k) 12000 := inb_nI hk (by omega)
  have cJ : (nI J).toNatClampNeg = J := nI_clamp (by omega)
  have ck : (nI k).toNatClampNeg = k := nI_clamp (by omega)
  unfold q_react q_react_28 q_react_57 q_react_86
  by_cases e : st = 2
  · simp only [r_m, h30, cJ, ck]
    refine v_chk hi <| v_chk (Or.inl rfl) <| v_lt <| v_ip e ?_
    simp [r_m, h30, cJ, ck]
    refine v_chk hi <| v_chk (Or.inr rfl) <| v_lt <| v_ip e <| v_chk hk' ?_
    simp [r_m, h30, cJ, ck]
    refine v_chk hi <| v_lt <| v_ip e <| v_chk hk' ?_
    simp [r_m, h30, cJ, ck]
    refine v_chk hi <| v_lt <| v_chk hk' ?_
    simp [r_m, h30, cJ, ck]
    refine v_chk hi <| v_lt ?_
    simp [r_m, h30, cJ, ck]
    refine v_chk hi <| v_lt <| v_lt <| v_some ?_
    simp [r_m, h30, cJ, ck, e, nI_1]
    grind
  · simp only [r_m, h30, cJ, ck]
    refine v_chk hi <| v_chk (Or.inl rfl) <| v_lt <| v_in e ?_
    simp [r_m, h30, cJ, ck]
    refine v_chk hi <| v_chk (Or.inl rfl) <| v_lt <| v_in e <| v_chk hk' ?_
    simp [r_m, h30, cJ, ck]
    refine v_chk hi <| v_lt <| v_in e <| v_chk hk' ?_
    simp [r_m, h30, cJ, ck]
    refine v_chk hi <| v_lt <| v_chk hk' ?_
    simp [r_m, h30, cJ, ck]
    refine v_chk hi <| v_lt ?_
    simp [r_m, h30, cJ, ck]
    refine v_chk hi <| v_lt <| v_lt <| v_some ?_
    simp [r_m, h30, cJ, ck, e, nI_1]
    grind
/-- the world right before enqueue -/
def PreD (a : Nat) (S S1 : DS) : Prop := dn S1 = dn S ∧ dK S1 = dK S ∧ dL S1 = dL S ∧ dX S1 = dX S ∧ dY S1 = dY S ∧ (∀ f y, ¬ ((f = 405 ∨ f = 406) ∧ y = a) → dI S1 f y = dI S f y) ∧ (∀ f y, ¬ (f = 407 ∧ y = a) → dP S1 f y = dP S f y) ∧ dP S1 407 a = none
theorem enq_run {a : Nat} (hI : Inv e0 d t x g w S M) (hp : PreD a S S1) (ha : dK S a = 5) (hpos : g 7 a % 2 = 0) : RD (q_X11_enqueue e0 S1 d (some a)) (fun _ S' C Z => C = 0 ∧ Z = 0 ∧ EnqD d a g S S' ∧ dI S' 405 a = dI S1 405 a ∧ dI S' 406 a = dI S1 406 a) := by
  have hb := (Inv_nums hI).2.2.2.2.2.1
  obtain ⟨i1, i2, i3, i4, i5, i6, i7, i8, i9, i10, ⟨b1, b2, b3, b4, b5⟩, i12⟩ := hI
  obtain ⟨p1, p2, p3, p4, p5, p6, p7, p8⟩ := hp
  have hd : dK S d = 12 := i3.2.1
  have had : a ≠ d := by rintro rfl; rw [hd] at ha; cases ha
  unfold q_X11_enqueue
  refine w_chk (by rw [p2]; exact hd) ?_
  rw [p7 1107 d (by omega)]
  by_cases h : g 9 29 < g 9 30
  · obtain ⟨c1, c2, c3⟩ := b3 h
    obtain ⟨l1, l2, -⟩ := b5 (g 9 30 - 1) (by omega) (by omega)
    have hla : g 6 (g 9 30 - 1) ≠ a := by intro e; rw [e] at l2; omega
    have hld : g 6 (g 9 30 - 1) ≠ d := by intro e; rw [e, hd] at l1; cases l1
    refine w_in (by rw [c2]; simp) <| w_bnd c2 <| w_chk (by rw [p2]; exact l1) <| w_lt ?_
    unfold q_X11_enqueue_23
    refine w_chk (by simp only [r_KI, r_LI, r_PI, r_XI, r_YI, r_nI, r_II, r_KP, r_LP, r_IP, r_XP, r_YP, r_nP, r_PP, r_KX, r_LX, r_IX, r_PX, r_YX, r_nX, r_XX, r_KY, r_LY, r_IY, r_PY, r_XY, r_nY, r_YY, r_KO, r_LO, r_IO, r_PO, r_XO, r_YO, r_nO, r_KA, r_LA, r_IA, r_PA, r_XA, r_YA, r_nA, r_KB, r_LB, r_IB, r_PB, r_XB, r_YB, r_nB]; rw [p2]; exact hd) <| w_lt <| w_lt <| w_some ?_
    refine ⟨rfl, rfl, ?_, by simp [r_KI, r_LI, r_PI, r_XI, r_YI, r_nI, r_II, r_KP, r_LP, r_IP, r_XP, r_YP, r_nP, r_PP, r_KX, r_LX, r_IX, r_PX, r_YX, r_nX, r_XX, r_KY, r_LY, r_IY, r_PY, r_XY, r_nY, r_YY, r_KO, r_LO, r_IO, r_PO, r_XO, r_YO, r_nO, r_KA, r_LA, r_IA, r_PA, r_XA, r_YA, r_nA, r_KB, r_LB, r_IB, r_PB, r_XB, r_YB, r_nB], by simp [r_KI, r_LI, r_PI, r_XI, r_YI, r_nI, r_II, r_KP, r_LP, r_IP, r_XP, r_YP, r_nP, r_PP, r_KX, r_LX, r_IX, r_PX, r_YX, r_nX, r_XX, r_KY, r_LY, r_IY, r_PY, r_XY, r_nY, r_YY, r_KO, r_LO, r_IO, r_PO, r_XO, r_YO, r_nO, r_KA, r_LA, r_IA, r_PA, r_XA, r_YA, r_nA, r_KB, r_LB, r_IB, r_PB, r_XB, r_YB, r_nB]⟩
    unfold EnqD
    simp only [r_KI, r_LI, r_PI, r_XI, r_YI, r_nI, r_II, r_KP, r_LP, r_IP, r_XP, r_YP, r_nP, r_PP, r_KX, r_LX, r_IX, r_PX, r_YX, r_nX, r_XX, r_KY, r_LY, r_IY, r_PY, r_XY, r_nY, r_YY, r_KO, r_LO, r_IO, r_PO, r_XO, r_YO, r_nO, r_KA, r_LA, r_IA, r_PA, r_XA, r_YA, r_nA, r_KB, r_LB, r_IB, r_PB, r_XB, r_YB, r_nB, p1, p2, p3, p4, p5, if_pos h]
    refine ⟨trivial, trivial, trivial, trivial, trivial, fun f y h1 h2 => ?_, fun f y h1 h2 h3 => ?_, fun f hf => ?_, fun f hf h2 => ?_, ?_, ?_, ?_, fun f hf h2 => ?_, fun f hf => ?_, ?_, fun _ => ?_⟩
    · rw [if_neg (by omega), p6 f y (by omega)]
    · rw [if_neg (by omega), if_neg (by omega), p7 f y (by omega)]
    · rw [if_neg (by omega), p6 f d (by omega)]
    · rw [if_neg (by omega), if_neg (by omega), p7 f d (by omega)]
    · simp; rw [p6 1108 d (by omega)]
    · simp; rw [p7 1106 d (by omega)]
    · simp
    · rw [if_neg (by omega), p6 f a (by omega)]
    · rw [if_neg (by omega), if_neg (by omega), p7 f a (by omega)]
    · rw [if_neg (by omega), if_neg (by omega), p8]
    · simp
  · have hn := b2 (by omega)
    refine w_ip hn.2 <| w_lt ?_
    unfold q_X11_enqueue_23
    refine w_chk (by simp only [r_KI, r_LI, r_PI, r_XI, r_YI, r_nI, r_II, r_KP, r_LP, r_IP, r_XP, r_YP, r_nP, r_PP, r_KX, r_LX, r_IX, r_PX, r_YX, r_nX, r_XX, r_KY, r_LY, r_IY, r_PY, r_XY, r_nY, r_YY, r_KO, r_LO, r_IO, r_PO, r_XO, r_YO, r_nO, r_KA, r_LA, r_IA, r_PA, r_XA, r_YA, r_nA, r_KB, r_LB, r_IB, r_PB, r_XB, r_YB, r_nB]; rw [p2]; exact hd) <| w_lt <| w_lt <| w_some ?_
    refine ⟨rfl, rfl, ?_, by simp [r_KI, r_LI, r_PI, r_XI, r_YI, r_nI, r_II, r_KP, r_LP, r_IP, r_XP, r_YP, r_nP, r_PP, r_KX, r_LX, r_IX, r_PX, r_YX, r_nX, r_XX, r_KY, r_LY, r_IY, r_PY, r_XY, r_nY, r_YY, r_KO, r_LO, r_IO, r_PO, r_XO, r_YO, r_nO, r_KA, r_LA, r_IA, r_PA, r_XA, r_YA, r_nA, r_KB, r_LB, r_IB, r_PB, r_XB, r_YB, r_nB], by simp [r_KI, r_LI, r_PI, r_XI, r_YI, r_nI, r_II, r_KP, r_LP, r_IP, r_XP, r_YP, r_nP, r_PP, r_KX, r_LX, r_IX, r_PX, r_YX, r_nX, r_XX, r_KY, r_LY, r_IY, r_PY, r_XY, r_nY, r_YY, r_KO, r_LO, r_IO, r_PO, r_XO, r_YO, r_nO, r_KA, r_LA, r_IA, r_PA, r_XA, r_YA, r_nA, r_KB, r_LB, r_IB, r_PB, r_XB, r_YB, r_nB]⟩
    unfold EnqD
    simp only [r_KI, r_LI, r_PI, r_XI, r_YI, r_nI, r_II, r_KP, r_LP, r_IP, r_XP, r_YP, r_nP, r_PP, r_KX, r_LX, r_IX, r_PX, r_YX, r_nX, r_XX, r_KY, r_LY, r_IY, r_PY, r_XY, r_nY, r_YY, r_KO, r_LO, r_IO, r_PO, r_XO, r_YO, r_nO, r_KA, r_LA, r_IA, r_PA, r_XA, r_YA, r_nA, r_KB, r_LB, r_IB, r_PB, r_XB, r_YB, r_nB, p1, p2, p3, p4, p5, if_neg h]
    refine ⟨trivial, trivial, trivial, trivial, trivial, fun f y h1 h2 => ?_, fun f y h1 h2 h3 => ?_, fun f hf => ?_, fun f hf h2 => ?_, ?_, ?_, ?_, fun f hf h2 => ?_, fun f hf => ?_, ?_, fun hh => absurd hh h⟩
    · rw [if_neg (by omega), p6 f y (by omega)]
    · rw [if_neg (by omega), if_neg (by omega), p7 f y (by omega)]
    · rw [if_neg (by omega), p6 f d (by omega)]
    · rw [if_neg (by omega), if_neg (by omega), p7 f d (by omega)]
    · simp; rw [p6 1108 d (by omega)]
    · simp
    · simp
    · rw [if_neg (by omega), p6 f a (by omega)]
    · rw [if_neg (by omega), if_neg (by omega), p7 f a (by omega)]
    · rw [if_neg (by omega), if_neg (by omega), p8]
end STL
