section LST
variable {e0 tl ed n q : Nat} {S : DS} {f : Nat → Nat}
/-- what an add leaves as it was -/
def FA (S S' : DS) (tl ed : Nat) : Prop := dn S ≤ dn S' ∧ ∀ a, dK S a ≠ 0 → dK S' a = dK S a ∧ dL S' a = dL S a ∧ dX S' a = dX S a ∧ (a ≠ tl → ∀ f, dI S' f a = dI S f a ∧ dP S' f a = dP S f a) ∧ (∀ f, f ≠ 0 → f ≠ 2 → dI S' f a = dI S f a) ∧ (∀ f, f ≠ 1 → dP S' f a = dP S f a) ∧ (a ≠ ed → dY S' a = dY S a)
theorem add_11 (hA : AL S e0 tl ed n f) (hL : n < dL S ed) (hn : n < 5000) (hq : okE S q) : RD (q_Jx4a65c_add_72be8_11 e0 S tl (some q) (some ed) (nI n)) (fun _ S' C Z => C = 0 ∧ Z = 0 ∧ dn S' = dn S ∧ AL S' e0 tl ed (n + 1) (fun i => if i = n then q else f i) ∧ FA S S' tl ed ∧ dK S' = dK S ∧ dL S' = dL S) := by
  obtain ⟨h1, h2, h3, h4, h5, h6, h7, h8⟩ := hA
  have hle : tl ≠ ed := by intro e; rw [e, h3] at h1; cases h1
  have hi : inb (nI n) (dL S ed) := inb_nI hL (by omega)
  unfold q_Jx4a65c_add_72be8_11
  refine w_bnd rfl (w_bnd rfl (w_chk h3 (w_chk hq (w_chk hi (w_lt (w_chk h1 (w_lt (w_some ⟨rfl, rfl, rfl, ?_, ?_, rfl, rfl⟩))))))))
  · unfold AL
    rw [nI_clamp (by omega)]
    simp only [r_KI, r_LI, r_PI, r_XI, r_YI, r_nI, r_II, r_KP, r_LP, r_IP, r_XP, r_YP, r_nP, r_PP, r_KX, r_LX, r_IX, r_PX, r_YX, r_nX, r_XX, r_KY, r_LY, r_IY, r_PY, r_XY, r_nY, r_YY, r_KO, r_LO, r_IO, r_PO, r_XO, r_YO, r_nO, r_KA, r_LA, r_IA, r_PA, r_XA, r_YA, r_nA, r_KB, r_LB, r_IB, r_PB, r_XB, r_YB, r_nB]
    refine ⟨h1, by simpa using h2, h3, ?_, ?_, ?_, h7, ?_⟩
    · simp [nI_1]
    · omega
    · omega
    · intro i hi
      by_cases e : i = n
      · simp [e, va_up]
      · simp [e, va_up]; exact h8 i (by omega)
  · unfold FA
    simp only [r_KI, r_LI, r_PI, r_XI, r_YI, r_nI, r_II, r_KP, r_LP, r_IP, r_XP, r_YP, r_nP, r_PP, r_KX, r_LX, r_IX, r_PX, r_YX, r_nX, r_XX, r_KY, r_LY, r_IY, r_PY, r_XY, r_nY, r_YY, r_KO, r_LO, r_IO, r_PO, r_XO, r_YO, r_nO, r_KA, r_LA, r_IA, r_PA, r_XA, r_YA, r_nA, r_KB, r_LB, r_IB, r_PB, r_XB, r_YB, r_nB]
    grind
/-- the row after a growth -/
def nL (n : Nat) : Nat := if n = 0 then 10 else n + (if n / 2 < 1 then 1 else n / 2)
theorem grow_ok (hfr : dFr S) (hA : AL S e0 tl ed n f) (he : dK S e0 = 21 ∧ dL S e0 = 0) (hn : n < 5000) (hL : dL S ed = n) (hok : ∀ i, i < n → okE S (f i)) : RD (q_Jx4a65c_grow_d5877 e0 S tl) (fun r S' C Z => r = some (dn S) ∧ C = 1 ∧ Z = nL n ∧ dn S' = dn S + 1 ∧ AL S' e0 tl (dn S) n f ∧ dL S' (dn S) = nL n ∧ FA S S' tl ed ∧ (∀ a, a ≠ dn S → dK S' a = dK S a) ∧ dK S' (dn S) = 21) := by
  obtain ⟨h1, h2, h3, h4, h5, h6, h7, h8⟩ := hA
  have hle : tl ≠ ed := by intro e; rw [e, h3] at h1; cases h1
  have htn : tl < dn S := hfr _ (by rw [h1]; decide)
  have hen : ed < dn S := hfr _ (by rw [h3]; decide)
  have he0 : e0 < dn S := hfr _ (by rw [he.1]; decide)
  unfold q_Jx4a65c_grow_d5877 q_Jx4a65c_grow_92f84
  rw [h4]
  refine w_chk h1 (w_bndc (w_chk h1 (w_bnd h2 (w_chk (Or.inr h3) ?_))))
  rw [hL]
  by_cases h0 : n = 0
  · subst h0
    have hee : ed = e0 := h7 hL
    refine w_in (by decide) (w_ip (by rw [h2, hee]) ?_)
    have e10 : (if (10 : Int32) < nI 0 + 1 then nI 0 + 1 else 10) = 10 := by decide
    rw [e10]
    refine w_chk (by decide) (w_tick (w_lt (w_lt (w_chk ?_ (w_lt (w_some ?_))))))
    · simp only [r_KI, r_LI, r_PI, r_XI, r_YI, r_nI, r_II, r_KP, r_LP, r_IP, r_XP, r_YP, r_nP, r_PP, r_KX, r_LX, r_IX, r_PX, r_YX, r_nX, r_XX, r_KY, r_LY, r_IY, r_PY, r_XY, r_nY, r_YY, r_KO, r_LO, r_IO, r_PO, r_XO, r_YO, r_nO, r_KA, r_LA, r_IA, r_PA, r_XA, r_YA, r_nA, r_KB, r_LB, r_IB, r_PB, r_XB, r_YB, r_nB]; rw [if_neg (by omega)]; exact h1
    · refine w_some ⟨rfl, rfl, by decide, rfl, ?_, ?_, ?_, ?_, ?_⟩
      · unfold AL
        simp only [r_KI, r_LI, r_PI, r_XI, r_YI, r_nI, r_II, r_KP, r_LP, r_IP, r_XP, r_YP, r_nP, r_PP, r_KX, r_LX, r_IX, r_PX, r_YX, r_nX, r_XX, r_KY, r_LY, r_IY, r_PY, r_XY, r_nY, r_YY, r_KO, r_LO, r_IO, r_PO, r_XO, r_YO, r_nO, r_KA, r_LA, r_IA, r_PA, r_XA, r_YA, r_nA, r_KB, r_LB, r_IB, r_PB, r_XB, r_YB, r_nB]
        refine ⟨?_, by simp, by simp, h4, by omega, ?_, ?_, fun i hi => by omega⟩
        · rw [if_neg (by omega)]; exact h1
        · simp
        · simp
      · simp only [r_KI, r_LI, r_PI, r_XI, r_YI, r_nI, r_II, r_KP, r_LP, r_IP, r_XP, r_YP, r_nP, r_PP, r_KX, r_LX, r_IX, r_PX, r_YX, r_nX, r_XX, r_KY, r_LY, r_IY, r_PY, r_XY, r_nY, r_YY, r_KO, r_LO, r_IO, r_PO, r_XO, r_YO, r_nO, r_KA, r_LA, r_IA, r_PA, r_XA, r_YA, r_nA, r_KB, r_LB, r_IB, r_PB, r_XB, r_YB, r_nB]; simp; decide
      · unfold FA; simp only [r_KI, r_LI, r_PI, r_XI, r_YI, r_nI, r_II, r_KP, r_LP, r_IP, r_XP, r_YP, r_nP, r_PP, r_KX, r_LX, r_IX, r_PX, r_YX, r_nX, r_XX, r_KY, r_LY, r_IY, r_PY, r_XY, r_nY, r_YY, r_KO, r_LO, r_IO, r_PO, r_XO, r_YO, r_nO, r_KA, r_LA, r_IA, r_PA, r_XA, r_YA, r_nA, r_KB, r_LB, r_IB, r_PB, r_XB, r_YB, r_nB]; grind
      · simp only [r_KI, r_LI, r_PI, r_XI, r_YI, r_nI, r_II, r_KP, r_LP, r_IP, r_XP, r_YP, r_nP, r_PP, r_KX, r_LX, r_IX, r_PX, r_YX, r_nX, r_XX, r_KY, r_LY, r_IY, r_PY, r_XY, r_nY, r_YY, r_KO, r_LO, r_IO, r_PO, r_XO, r_YO, r_nO, r_KA, r_LA, r_IA, r_PA, r_XA, r_YA, r_nA, r_KB, r_LB, r_IB, r_PB, r_XB, r_YB, r_nB]; grind
      · simp only [r_KI, r_LI, r_PI, r_XI, r_YI, r_nI, r_II, r_KP, r_LP, r_IP, r_XP, r_YP, r_nP, r_PP, r_KX, r_LX, r_IX, r_PX, r_YX, r_nX, r_XX, r_KY, r_LY, r_IY, r_PY, r_XY, r_nY, r_YY, r_KO, r_LO, r_IO, r_PO, r_XO, r_YO, r_nO, r_KA, r_LA, r_IA, r_PA, r_XA, r_YA, r_nA, r_KB, r_LB, r_IB, r_PB, r_XB, r_YB, r_nB]; simp
  · refine w_ip (by rw [← nI_0]; exact nI_lt (by omega) (by omega)) ?_
    unfold q_Jx4a65c_grow_92f84_20 q_J8_newLength_cabcc
    have e1 : nI n + 1 - nI n = nI 1 := by rw [nI_1, pk_sub (by omega), Nat.add_sub_cancel_left]
    have e2 : nI n >>> ((1 : Int32) &&& 31) = nI (n / 2) := by
      rw [pk_shrN (by omega) _ 1 (by decide)]
    rw [e1, e2]
    have e3 : nI n + (if nI 1 < nI (n / 2) then nI (n / 2) else nI 1) = nI (nL n) := by
      unfold nL
      rw [if_neg h0]
      by_cases h : 1 < n / 2
      · rw [if_pos (nI_lt h (by omega)), if_neg (by omega), nI_add]
      · rw [if_neg (nI_nlt (by omega) (by omega)), nI_add]
        congr 1
        split <;> omega
    have hN : n + 1 ≤ nL n ∧ nL n ≤ 2 * n := by
      unfold nL; rw [if_neg h0]; split <;> omega
    rw [e3]
    refine w_bndc (w_in (nI_nle (by omega) (by omega)) (w_in ?_ (w_some ?_)))
    · have : (2147483639 : Int32) = nI 2147483639 := by decide
      rw [this]; exact nI_nlt (by omega) (by omega)
    refine w_chk h1 (w_bndc ?_)
    unfold q_J7_copyOf_1904c
    have e5 : (nI (nL n)).toNatClampNeg = nL n := nI_clamp (by omega)
    rw [e5]
    have eD : dL (sAO S (nL n) fun _ => none) ed = n := by simp only [r_KI, r_LI, r_PI, r_XI, r_YI, r_nI, r_II, r_KP, r_LP, r_IP, r_XP, r_YP, r_nP, r_PP, r_KX, r_LX, r_IX, r_PX, r_YX, r_nX, r_XX, r_KY, r_LY, r_IY, r_PY, r_XY, r_nY, r_YY, r_KO, r_LO, r_IO, r_PO, r_XO, r_YO, r_nO, r_KA, r_LA, r_IA, r_PA, r_XA, r_YA, r_nA, r_KB, r_LB, r_IB, r_PB, r_XB, r_YB, r_nB]; rw [if_neg (by omega)]; exact hL
    have eQ : dL (sAO S (nL n) fun _ => none) (dn S) = nL n := by simp only [r_KI, r_LI, r_PI, r_XI, r_YI, r_nI, r_II, r_KP, r_LP, r_IP, r_XP, r_YP, r_nP, r_PP, r_KX, r_LX, r_IX, r_PX, r_YX, r_nX, r_XX, r_KY, r_LY, r_IY, r_PY, r_XY, r_nY, r_YY, r_KO, r_LO, r_IO, r_PO, r_XO, r_YO, r_nO, r_KA, r_LA, r_IA, r_PA, r_XA, r_YA, r_nA, r_KB, r_LB, r_IB, r_PB, r_XB, r_YB, r_nB]; simp
    refine w_bnd h2 <| w_chk h3 <| w_chk (by omega) <| w_chk ?_ <| w_tick <| w_lt <| w_lt <| w_chk ?_ <| w_chk ?_ <| w_lt <| w_chk ?_ <| w_chk ?_ <| w_chk ?_ <| w_lt <| w_some ?_
    · rw [nI_toInt (by omega)]; omega
    · simp only [r_KI, r_LI, r_PI, r_XI, r_YI, r_nI, r_II, r_KP, r_LP, r_IP, r_XP, r_YP, r_nP, r_PP, r_KX, r_LX, r_IX, r_PX, r_YX, r_nX, r_XX, r_KY, r_LY, r_IY, r_PY, r_XY, r_nY, r_YY, r_KO, r_LO, r_IO, r_PO, r_XO, r_YO, r_nO, r_KA, r_LA, r_IA, r_PA, r_XA, r_YA, r_nA, r_KB, r_LB, r_IB, r_PB, r_XB, r_YB, r_nB]; rw [if_neg (by omega)]; exact h3
    · simp only [r_KI, r_LI, r_PI, r_XI, r_YI, r_nI, r_II, r_KP, r_LP, r_IP, r_XP, r_YP, r_nP, r_PP, r_KX, r_LX, r_IX, r_PX, r_YX, r_nX, r_XX, r_KY, r_LY, r_IY, r_PY, r_XY, r_nY, r_YY, r_KO, r_LO, r_IO, r_PO, r_XO, r_YO, r_nO, r_KA, r_LA, r_IA, r_PA, r_XA, r_YA, r_nA, r_KB, r_LB, r_IB, r_PB, r_XB, r_YB, r_nB]; rw [if_neg (by omega)]; omega
    · rw [eD, eQ, if_neg (nI_nlt (by omega) (by omega)), nI_toInt (by omega)]; omega
    · simp only [r_KI, r_LI, r_PI, r_XI, r_YI, r_nI, r_II, r_KP, r_LP, r_IP, r_XP, r_YP, r_nP, r_PP, r_KX, r_LX, r_IX, r_PX, r_YX, r_nX, r_XX, r_KY, r_LY, r_IY, r_PY, r_XY, r_nY, r_YY, r_KO, r_LO, r_IO, r_PO, r_XO, r_YO, r_nO, r_KA, r_LA, r_IA, r_PA, r_XA, r_YA, r_nA, r_KB, r_LB, r_IB, r_PB, r_XB, r_YB, r_nB]; simp; omega
    · rw [eD, if_neg (nI_nlt (by omega) (by omega)), nI_clamp (by omega)]
      unfold okRb
      rw [List.all_eq_true]
      intro i hi
      have hi := List.mem_range.mp hi
      simp only [r_KI, r_LI, r_PI, r_XI, r_YI, r_nI, r_II, r_KP, r_LP, r_IP, r_XP, r_YP, r_nP, r_PP, r_KX, r_LX, r_IX, r_PX, r_YX, r_nX, r_XX, r_KY, r_LY, r_IY, r_PY, r_XY, r_nY, r_YY, r_KO, r_LO, r_IO, r_PO, r_XO, r_YO, r_nO, r_KA, r_LA, r_IA, r_PA, r_XA, r_YA, r_nA, r_KB, r_LB, r_IB, r_PB, r_XB, r_YB, r_nB]
      rw [if_neg (by omega), h8 i hi]
      refine decide_eq_true ?_
      have := hok i hi
      have hne : f i ≠ dn S := fun e => by
        have := hfr (f i) (by unfold okE at this; omega)
        omega
      unfold okE at *
      simp only [r_KI, r_LI, r_PI, r_XI, r_YI, r_nI, r_II, r_KP, r_LP, r_IP, r_XP, r_YP, r_nP, r_PP, r_KX, r_LX, r_IX, r_PX, r_YX, r_nX, r_XX, r_KY, r_LY, r_IY, r_PY, r_XY, r_nY, r_YY, r_KO, r_LO, r_IO, r_PO, r_XO, r_YO, r_nO, r_KA, r_LA, r_IA, r_PA, r_XA, r_YA, r_nA, r_KB, r_LB, r_IB, r_PB, r_XB, r_YB, r_nB]
      rw [if_neg hne]; exact this
    rw [eD, if_neg (nI_nlt (by omega) (by omega)), nI_clamp (by omega)]
    refine w_chk ?_ (w_lt (w_some (w_some ⟨rfl, by omega, by omega, rfl, ?_, ?_, ?_, ?_, ?_⟩)))
    · simp only [r_KI, r_LI, r_PI, r_XI, r_YI, r_nI, r_II, r_KP, r_LP, r_IP, r_XP, r_YP, r_nP, r_PP, r_KX, r_LX, r_IX, r_PX, r_YX, r_nX, r_XX, r_KY, r_LY, r_IY, r_PY, r_XY, r_nY, r_YY, r_KO, r_LO, r_IO, r_PO, r_XO, r_YO, r_nO, r_KA, r_LA, r_IA, r_PA, r_XA, r_YA, r_nA, r_KB, r_LB, r_IB, r_PB, r_XB, r_YB, r_nB]; rw [if_neg (by omega)]; exact h1
    · unfold AL
      simp only [r_KI, r_LI, r_PI, r_XI, r_YI, r_nI, r_II, r_KP, r_LP, r_IP, r_XP, r_YP, r_nP, r_PP, r_KX, r_LX, r_IX, r_PX, r_YX, r_nX, r_XX, r_KY, r_LY, r_IY, r_PY, r_XY, r_nY, r_YY, r_KO, r_LO, r_IO, r_PO, r_XO, r_YO, r_nO, r_KA, r_LA, r_IA, r_PA, r_XA, r_YA, r_nA, r_KB, r_LB, r_IB, r_PB, r_XB, r_YB, r_nB]
      refine ⟨?_, by simp, by simp, h4, ?_, ?_, ?_, ?_⟩
      · rw [if_neg (by omega)]; exact h1
      · simp; omega
      · simp; omega
      · simp; omega
      · intro i hi
        simp only [if_true, va_cpy]
        rw [if_pos (by omega)]
        rw [if_neg (show ed ≠ dn S by omega)]
        simp
        exact h8 i hi
    · simp only [r_KI, r_LI, r_PI, r_XI, r_YI, r_nI, r_II, r_KP, r_LP, r_IP, r_XP, r_YP, r_nP, r_PP, r_KX, r_LX, r_IX, r_PX, r_YX, r_nX, r_XX, r_KY, r_LY, r_IY, r_PY, r_XY, r_nY, r_YY, r_KO, r_LO, r_IO, r_PO, r_XO, r_YO, r_nO, r_KA, r_LA, r_IA, r_PA, r_XA, r_YA, r_nA, r_KB, r_LB, r_IB, r_PB, r_XB, r_YB, r_nB]; simp
    · unfold FA; simp only [r_KI, r_LI, r_PI, r_XI, r_YI, r_nI, r_II, r_KP, r_LP, r_IP, r_XP, r_YP, r_nP, r_PP, r_KX, r_LX, r_IX, r_PX, r_YX, r_nX, r_XX, r_KY, r_LY, r_IY, r_PY, r_XY, r_nY, r_YY, r_KO, r_LO, r_IO, r_PO, r_XO, r_YO, r_nO, r_KA, r_LA, r_IA, r_PA, r_XA, r_YA, r_nA, r_KB, r_LB, r_IB, r_PB, r_XB, r_YB, r_nB]; grind
    · simp only [r_KI, r_LI, r_PI, r_XI, r_YI, r_nI, r_II, r_KP, r_LP, r_IP, r_XP, r_YP, r_nP, r_PP, r_KX, r_LX, r_IX, r_PX, r_YX, r_nX, r_XX, r_KY, r_LY, r_IY, r_PY, r_XY, r_nY, r_YY, r_KO, r_LO, r_IO, r_PO, r_XO, r_YO, r_nO, r_KA, r_LA, r_IA, r_PA, r_XA, r_YA, r_nA, r_KB, r_LB, r_IB, r_PB, r_XB, r_YB, r_nB]; grind
    · simp only [r_KI, r_LI, r_PI, r_XI, r_YI, r_nI, r_II, r_KP, r_LP, r_IP, r_XP, r_YP, r_nP, r_PP, r_KX, r_LX, r_IX, r_PX, r_YX, r_nX, r_XX, r_KY, r_LY, r_IY, r_PY, r_XY, r_nY, r_YY, r_KO, r_LO, r_IO, r_PO, r_XO, r_YO, r_nO, r_KA, r_LA, r_IA, r_PA, r_XA, r_YA, r_nA, r_KB, r_LB, r_IB, r_PB, r_XB, r_YB, r_nB]; simp
theorem FA_trans {S1 S2 : DS} {ed1 : Nat} (h1 : FA S S1 tl ed) (h2 : FA S1 S2 tl ed1) (h : ed1 = ed ∨ dK S ed1 = 0) : FA S S2 tl ed := by
  unfold FA at *
  obtain ⟨a1, a2⟩ := h1
  obtain ⟨b1, b2⟩ := h2
  refine ⟨by omega, fun a ha => ?_⟩
  have p := a2 a ha
  have q := b2 a (by rw [p.1]; exact ha)
  have hae : a ≠ ed → a ≠ ed1 := by
    intro h3 h4
    rcases h with h | h
    · exact h3 (h4.trans h)
    · exact ha (by rw [h4]; exact h)
  grind
theorem add_ok (hfr : dFr S) (hA : AL S e0 tl ed n f) (he : dK S e0 = 21 ∧ dL S e0 = 0) (hn : n < 5000) (hq : okE S q) (hok : ∀ i, i < n → okE S (f i)) : RD (q_Jx4a65c_add_9ea2d e0 S tl (some q)) (fun _ S' C Z => ∃ ed', dFr S' ∧ AL S' e0 tl ed' (n + 1) (fun i => if i = n then q else f i) ∧ (ed' = ed ∨ (dK S ed' = 0 ∧ dn S ≤ ed')) ∧ FA S S' tl ed ∧ C ≤ 1 ∧ Z + 4 * dL S ed ≤ 4 * dL S' ed') := by
  have hA0 := hA
  obtain ⟨h1, h2, h3, h4, h5, h6, h7, h8⟩ := hA
  have hA2 : AL (sI S 0 tl (dI S 0 tl + 1)) e0 tl ed n f := by
    unfold AL; simp only [r_KI, r_LI, r_PI, r_XI, r_YI, r_nI, r_II, r_KP, r_LP, r_IP, r_XP, r_YP, r_nP, r_PP, r_KX, r_LX, r_IX, r_PX, r_YX, r_nX, r_XX, r_KY, r_LY, r_IY, r_PY, r_XY, r_nY, r_YY, r_KO, r_LO, r_IO, r_PO, r_XO, r_YO, r_nO, r_KA, r_LA, r_IA, r_PA, r_XA, r_YA, r_nA, r_KB, r_LB, r_IB, r_PB, r_XB, r_YB, r_nB]; exact ⟨h1, h2, h3, by simpa using h4, h5, h6, h7, h8⟩
  have hF2 : FA S (sI S 0 tl (dI S 0 tl + 1)) tl ed := by unfold FA; simp only [r_KI, r_LI, r_PI, r_XI, r_YI, r_nI, r_II, r_KP, r_LP, r_IP, r_XP, r_YP, r_nP, r_PP, r_KX, r_LX, r_IX, r_PX, r_YX, r_nX, r_XX, r_KY, r_LY, r_IY, r_PY, r_XY, r_nY, r_YY, r_KO, r_LO, r_IO, r_PO, r_XO, r_YO, r_nO, r_KA, r_LA, r_IA, r_PA, r_XA, r_YA, r_nA, r_KB, r_LB, r_IB, r_PB, r_XB, r_YB, r_nB]; grind
  have e6 : dI (sI S 0 tl (dI S 0 tl + 1)) 2 tl = nI n := by simp only [r_KI, r_LI, r_PI, r_XI, r_YI, r_nI, r_II, r_KP, r_LP, r_IP, r_XP, r_YP, r_nP, r_PP, r_KX, r_LX, r_IX, r_PX, r_YX, r_nX, r_XX, r_KY, r_LY, r_IY, r_PY, r_XY, r_nY, r_YY, r_KO, r_LO, r_IO, r_PO, r_XO, r_YO, r_nO, r_KA, r_LA, r_IA, r_PA, r_XA, r_YA, r_nA, r_KB, r_LB, r_IB, r_PB, r_XB, r_YB, r_nB]; simpa using h4
  have e7 : dP (sI S 0 tl (dI S 0 tl + 1)) 1 tl = some ed := h2
  unfold q_Jx4a65c_add_9ea2d q_Jx4a65c_add_72be8
  refine w_chk h1 (w_lt (w_bndc ?_))
  rw [e6, e7]
  refine w_bnd rfl (w_chk (Or.inr h3) ?_)
  by_cases hL : n < dL S ed
  · refine w_in (fun e => by have := nI_inj (by omega) (by show dL S ed < _; omega) e; have : n = dL S ed := this; omega) ?_
    refine w_mono (add_11 (S := sI S 0 tl (dI S 0 tl + 1)) hA2 hL hn hq) ?_
    rintro r S' C Z ⟨rfl, rfl, e2, e3, e4, e5, e8⟩
    refine w_chk (Or.inr rfl) (w_some ⟨ed, ?_, e3, Or.inl rfl, FA_trans hF2 e4 (Or.inl rfl), by omega, ?_⟩)
    · unfold dFr; rw [e5, e2]; exact hfr
    · rw [e8]; show _ ≤ 4 * dL S ed; omega
  · have hLn : dL S ed = n := by omega
    refine w_ip (by show nI n = nI (dL S ed); rw [hLn]) (w_chk h1 (w_bndc ?_))
    refine w_mono (grow_ok (S := sI S 0 tl (dI S 0 tl + 1)) hfr hA2 he hn hLn hok) ?_
    rintro r S1 C1 Z1 ⟨rfl, rfl, rfl, e2, e3, e4, e5, e8, e9⟩
    have hN : n < nL n := by unfold nL; split <;> (try split) <;> omega
    have hq0 : q < dn S := hfr q (by unfold okE at hq; omega)
    have hq1 : okE S1 q := by
      unfold okE
      rw [e8 q (by show q ≠ dn S; omega)]
      exact hq
    refine w_mono (add_11 (S := S1) e3 (by rw [e4]; exact hN) hn hq1) ?_
    rintro r S' C Z ⟨rfl, rfl, g2, g3, g4, g5, g8⟩
    have hdn0 : dK S (dn S) = 0 := by
      by_cases h : dK S (dn S) = 0
      · exact h
      · have := hfr _ h; omega
    refine w_chk (Or.inr rfl) (w_some ⟨dn S, ?_, g3, Or.inr ⟨hdn0, Nat.le_refl _⟩, FA_trans (FA_trans hF2 e5 (Or.inl rfl)) g4 (Or.inr hdn0), by omega, ?_⟩)
    · unfold dFr
      rw [g5, g2, e2]
      intro a ha
      by_cases h : a = dn S
      · rw [h]; show dn S < dn S + 1; omega
      · rw [e8 a h] at ha
        have := hfr a ha
        show a < dn S + 1
        omega
    · have e4 : dL S1 (dn S) = nL n := e4
      rw [g8, e4, hLn]
      unfold nL; split <;> (try split) <;> omega
end LST
