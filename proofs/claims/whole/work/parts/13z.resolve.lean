section RES
variable {e0 d t x n : Nat} {g g' : GH} {w w' : Nat → List Nat} {S S' S1 S2 S0 : DS} {M M' M1 : MS}
/-- the ghost of an address that is not in use -/
theorem Inv_gf {a v k : Nat} (hI : Inv e0 d t x g w S M) (ha : dK S a = 0) (hk : k = 7 ∨ k = 12) : Inv e0 d t x (gput g k a v) w S M ∧ CF g S M (gput g k a v) S M := by
  have hne : ∀ y, dK S y ≠ 0 → y ≠ a := fun y hy e => hy (e ▸ ha)
  have h7 : ∀ y, dK S y ≠ 0 → gput g k a v 7 y = g 7 y := fun y hy => by rw [r_g, if_neg (fun h => hne y hy h.2)]
  have h12 : ∀ y, dK S y ≠ 0 → gput g k a v 12 y = g 12 y := fun y hy => by rw [r_g, if_neg (fun h => hne y hy h.2)]
  have hG : GE g (gput g k a v) := by
    refine GE_put ?_ ?_ ?_ ?_ ?_ ?_ <;> omega
  have c : CF g S M (gput g k a v) S M := ⟨FD_refl, hG, FM_refl, fun y hy _ => h12 y hy⟩
  refine ⟨?_, c⟩
  have hI0 := hI
  obtain ⟨i1, i2, i3, i4, i5, i6, i7, i8, i9, i10, i11, i12⟩ := hI
  have e9 : gput g k a v 9 = g 9 := r_gf (by omega)
  have e11 : gput g k a v 11 = g 11 := r_gf (by omega)
  have e0' : gput g k a v 0 = g 0 := r_gf (by omega)
  have e2 : gput g k a v 2 = g 2 := r_gf (by omega)
  have e6 : gput g k a v 6 = g 6 := r_gf (by omega)
  have e14 : gput g k a v 14 = g 14 := r_gf (by omega)
  refine Inv_mk hI0 c ?_ ?_ ?_ ⟨fun o ho => ?_, fun o ho => ?_⟩ (fun r hr => ?_) (fun j hj => ?_) ⟨fun o ho => ?_, fun o ho => ?_⟩ ?_
  · unfold A_cnt at *; rw [e9]; exact i1
  · unfold A_bd at *; rw [e9, e11]; exact i2
  · exact desk_fr i3 i3.1 c.1 (by rw [e9]) (by rw [e9]) (fun _ _ => by rw [e0']) e2 (fun _ => by rw [e14]) (fun y hy => ⟨rfl, rfl, rfl⟩)
  · rw [e9] at ho
    exact T_pt i6 ho c (T_same i6 ho ⟨rfl, rfl, rfl⟩ ⟨rfl, rfl, rfl⟩)
  · rw [e9] at ho; exact i6.2 o ho
  · rw [e9] at hr
    obtain ⟨k1, k2, k3, k4, -⟩ := i7 r hr
    exact R_pt i7 hr c ⟨k3, k4⟩ (by rw [h12 _ (by omega)]; exact k2)
  · rw [e9] at hj
    exact K_pt i9 hj c (by rw [h7 _ (by rw [(i9 j hj).1]; decide)]; exact fun h => h)
  · rw [e9] at ho
    exact W_pt i10 i9 ho c rfl (fun h2 => ⟨rfl, rfl, rfl, fun k hk hk2 _ => ⟨rfl, rfl, h7 _ (by rw [(i9 k hk2).1]; decide)⟩⟩)
  · rw [e9] at ho; exact i10.2 o ho
  · exact Q_fr i11 c (by rw [e9]) e6 ⟨rfl, rfl, rfl⟩ (fun j h1 h2 h3 h4 => ⟨by rw [h7 _ (by omega)]; exact h4, rfl, ⟨rfl, rfl⟩, rfl, rfl, rfl, rfl, rfl, rfl⟩) (fun j b _ _ _ h1 _ => ⟨rfl, h12 b (by omega)⟩)
theorem s_follow {o p : Nat} (hI : Inv e0 d t (x + 1) g w S M) (ho : o < g 9 1) (ho2 : M 2 o = 0 ∨ M 2 o = 1) (hp : p < g 9 1) (hp2 : M 2 p = 0) : RD (bndc (q_X4_follow e0 S (some (g 0 o)) (some (g 0 p))) (fun r16 S17 => chk (dK S17 d = 12) (bndc (q_X11_enqueue e0 S17 d r16) (fun r19 S20 => some ((0 : Int32), S20, 0, 0))))) (fun _ S' C Z => RV (q_resolve_138 n M (nI p) (nI o)) (fun M' => ∃ g', Inv e0 d t x g' w S' M' ∧ CF g S M g' S' M' ∧ Cs 0 g S g' S' C Z ∧ g' 9 1 = g 9 1 ∧ g' 9 15 = g 9 15 ∧ g' 9 22 = g 9 22)) := by
  have hN := Inv_nums hI
  have hfr := hI.2.2.1.1
  have hk0 := K_dn hfr
  have hk1 : dK S (dn S + 1) = 0 := by
    by_cases e : dK S (dn S + 1) = 0
    · exact e
    · have := hfr _ e; omega
  obtain ⟨hIa, ca⟩ := Inv_gf (a := dn S) (v := 0) (k := 7) hI hk0 (Or.inl rfl)
  obtain ⟨hIb, cb⟩ := Inv_gf (a := dn S + 1) (v := 100000 + g 9 30) (k := 12) hIa hk1 (Or.inr rfl)
  have hfr5 : dFr (sO S 5) := (Same_sO hfr (by decide)).2.1
  have hS : Same S (sP (sP (sP (sP (sP (sP (sO (sO S 5) 8) 700 (dn S + 1) (some (g 0 p))) 400 (dn S) none) 401 (dn S) none) 402 (dn S) (some (dn S + 1))) 403 (dn S) none) 404 (dn S) (some (g 0 o))) :=
    Same_sP (Same_sP (Same_sP (Same_sP (Same_sP (Same_sP (Same_trans (Same_sO hfr (by decide)) (Same_sO hfr5 (by decide))) hk1) hk0) hk0) hk0) hk0) hk0
  obtain ⟨hIc, cc⟩ := Inv_same hIb hS
  generalize hgg : gput (gput g 7 (dn S) 0) 12 (dn S + 1) (100000 + g 9 30) = g2 at hIb cb hIc cc
  have e9 : g2 9 = g 9 := by rw [← hgg]; funext i; simp [r_g]
  have e0' : g2 0 = g 0 := by rw [← hgg]; funext i; simp [r_g]
  have e3' : g2 3 = g 3 := by rw [← hgg]; funext i; simp [r_g]
  have e14 : g2 14 = g 14 := by rw [← hgg]; funext i; simp [r_g]
  have e7q : g2 7 (dn S) = 0 := by rw [← hgg]; simp [r_g]
  have e12q : g2 12 (dn S + 1) = 100000 + g 9 30 := by rw [← hgg]; simp [r_g]
  have hdn1 : dn S ≠ dn S + 1 := by omega
  unfold q_X4_follow q_X7_init q_X4_init
  refine w_bndc <| w_tick <| w_lt <| w_lt <| w_tick <| w_lt <| w_lt <| w_bndc <| w_chk (by simp [r_KI, r_LI, r_PI, r_XI, r_YI, r_nI, r_II, r_KP, r_LP, r_IP, r_XP, r_YP, r_nP, r_PP, r_KX, r_LX, r_IX, r_PX, r_YX, r_nX, r_XX, r_KY, r_LY, r_IY, r_PY, r_XY, r_nY, r_YY, r_KO, r_LO, r_IO, r_PO, r_XO, r_YO, r_nO, r_KA, r_LA, r_IA, r_PA, r_XA, r_YA, r_nA, r_KB, r_LB, r_IB, r_PB, r_XB, r_YB, r_nB]) <| w_lt <| w_some <| w_bndc <| w_chk (by simp [r_KI, r_LI, r_PI, r_XI, r_YI, r_nI, r_II, r_KP, r_LP, r_IP, r_XP, r_YP, r_nP, r_PP, r_KX, r_LX, r_IX, r_PX, r_YX, r_nX, r_XX, r_KY, r_LY, r_IY, r_PY, r_XY, r_nY, r_YY, r_KO, r_LO, r_IO, r_PO, r_XO, r_YO, r_nO, r_KA, r_LA, r_IA, r_PA, r_XA, r_YA, r_nA, r_KB, r_LB, r_IB, r_PB, r_XB, r_YB, r_nB]) <| w_lt <| w_lt <| w_lt <| w_lt <| w_lt <| w_some <| w_some <| w_chk hIc.2.2.1.2.1 ?_
  have hpre : PreD (dn S) (sP (sP (sP (sP (sP (sP (sO (sO S 5) 8) 700 (dn S + 1) (some (g 0 p))) 400 (dn S) none) 401 (dn S) none) 402 (dn S) (some (dn S + 1))) 403 (dn S) none) 404 (dn S) (some (g 0 o))) (sP (sP (sP (sP (sP (sP (sO (sO S 5) 8) 700 (dn S + 1) (some (g 0 p))) 400 (dn S) none) 401 (dn S) none) 402 (dn S) (some (dn S + 1))) 403 (dn S) none) 404 (dn S) (some (g 0 o))) := by
    refine ⟨rfl, rfl, rfl, rfl, rfl, fun _ _ _ => rfl, fun _ _ _ => rfl, ?_⟩
    simp [r_KI, r_LI, r_PI, r_XI, r_YI, r_nI, r_II, r_KP, r_LP, r_IP, r_XP, r_YP, r_nP, r_PP, r_KX, r_LX, r_IX, r_PX, r_YX, r_nX, r_XX, r_KY, r_LY, r_IY, r_PY, r_XY, r_nY, r_YY, r_KO, r_LO, r_IO, r_PO, r_XO, r_YO, r_nO, r_KA, r_LA, r_IA, r_PA, r_XA, r_YA, r_nA, r_KB, r_LB, r_IB, r_PB, r_XB, r_YB, r_nB]
  have hK5 : dK (sP (sP (sP (sP (sP (sP (sO (sO S 5) 8) 700 (dn S + 1) (some (g 0 p))) 400 (dn S) none) 401 (dn S) none) 402 (dn S) (some (dn S + 1))) 403 (dn S) none) 404 (dn S) (some (g 0 o))) (dn S) = 5 := by simp [r_KI, r_LI, r_PI, r_XI, r_YI, r_nI, r_II, r_KP, r_LP, r_IP, r_XP, r_YP, r_nP, r_PP, r_KX, r_LX, r_IX, r_PX, r_YX, r_nX, r_XX, r_KY, r_LY, r_IY, r_PY, r_XY, r_nY, r_YY, r_KO, r_LO, r_IO, r_PO, r_XO, r_YO, r_nO, r_KA, r_LA, r_IA, r_PA, r_XA, r_YA, r_nA, r_KB, r_LB, r_IB, r_PB, r_XB, r_YB, r_nB]
  obtain ⟨r', S', C', Z', eD, rfl, rfl, hE, -, -⟩ := enq_run hIc hpre hK5 (by rw [e7q])
  refine w_bk eD <| w_some ?_
  -- the reference
  have k30 : M 30 0 = nI (g 9 30) := hI.1.2.2.2.2.1
  have hi : inb (nI (g 9 30)) 24000 := inb_nI (by omega) (by omega)
  have cJ : (nI (g 9 30)).toNatClampNeg = g 9 30 := nI_clamp (by omega)
  have eM : q_resolve_138 n M (nI p) (nI o) = some (mput (mput (mput (mput M 28 (g 9 30) 1) 24 (g 9 30) (nI o)) 25 (g 9 30) (nI p)) 30 0 (nI (g 9 30) + 1)) := by
    unfold q_resolve_138
    rw [k30, cJ, chk_i hi, chk_i (Or.inr rfl), lt9_s]
    have k1 : mput M 28 (g 9 30) 1 30 0 = nI (g 9 30) := by rw [r_m, if_neg (by omega)]; exact k30
    rw [k1, cJ, chk_i hi, lt9_s]
    have k2 : mput (mput M 28 (g 9 30) 1) 24 (g 9 30) (nI o) 30 0 = nI (g 9 30) := by rw [r_m, if_neg (by omega)]; exact k1
    rw [k2, cJ, chk_i hi, lt9_s]
    have k3 : mput (mput (mput M 28 (g 9 30) 1) 24 (g 9 30) (nI o)) 25 (g 9 30) (nI p) 30 0 = nI (g 9 30) := by rw [r_m, if_neg (by omega)]; exact k2
    rw [k3]; rfl
  have hne : ∀ y, dK S y ≠ 0 → y ≠ dn S ∧ y ≠ dn S + 1 := fun y hy => ⟨fun e => hy (e ▸ hk0), fun e => hy (e ▸ hk1)⟩
  have hEE := hE
  obtain ⟨q1, q2, q3, q4, q5, q6, q7, q8, q9, q10, q11, q12, q13, q14, q15, q16⟩ := hE
  have hb : dn S + 1 ≠ dn S ∧ dn S + 1 ≠ d := by
    refine ⟨by omega, fun e => ?_⟩
    have := hI.2.2.1.2.1
    rw [← e, hk1] at this; cases this
  have hP := P_enq (x := x) (M' := mput (mput (mput (mput M 28 (g 9 30) 1) 24 (g 9 30) (nI o)) 25 (g 9 30) (nI p)) 30 0 (nI (g 9 30) + 1)) hIc hEE hK5 (by rw [e7q]) (fun o' ho' k hk e => ?_) (fun k i h1 h2 => ?_) ?_ rfl ?_ (fun k hk e => ?_)
  · obtain ⟨hI9, c9⟩ := hP
    have c := CF_trans ca (CF_trans cb (CF_trans cc c9))
    refine ⟨_, eM, _, hI9, c, Cs_mk hI c ?_ ?_, ?_, ?_, ?_⟩
    · have hl : dL S' (g 14 4) = dL S (g 14 4) := by rw [q3]; rfl
      simp [r_g, e9, e14, hl]; omega
    · simp [r_g, e9]; omega
    · simp [r_g, e9]
    · simp [r_g, e9]
    · simp [r_g, e9]
  · rw [e9] at ho'
    have h3 : k < g 9 22 ∧ dK S (g 3 k) = 5 := by
      have h2 : M 2 o' = 0 := by
        by_cases h : M 2 o' = 0
        · exact h
        · have := (hI.2.2.2.2.2.2.2.2.2.1.1 o' ho').1 (Or.inl h)
          rw [this] at hk; cases hk
      have := (((hI.2.2.2.2.2.2.2.2.2.1.1 o' ho').2 h2).2.2.2.2 k hk).1
      exact ⟨this, (hI.2.2.2.2.2.2.2.2.1 k this).1⟩
    rw [e3'] at e
    exact (hne _ (by rw [h3.2]; decide)).1 e
  · rw [e9] at h2
    rw [r_m, if_neg (by omega), r_m, if_neg (by omega), r_m, if_neg (by omega), r_m, if_neg (by omega)]
  · rw [e9]; simp [r_m, nI_1]
  · rw [e9]
    refine Or.inr ⟨by simp [r_m], ?_, o, p, dn S + 1, by simp [r_m], ?_, ?_, by simp [r_m], ?_, ?_, ?_, ?_, ?_, ?_, ?_, ?_⟩
    · rw [q14 403 (by omega)]; simp [r_KI, r_LI, r_PI, r_XI, r_YI, r_nI, r_II, r_KP, r_LP, r_IP, r_XP, r_YP, r_nP, r_PP, r_KX, r_LX, r_IX, r_PX, r_YX, r_nX, r_XX, r_KY, r_LY, r_IY, r_PY, r_XY, r_nY, r_YY, r_KO, r_LO, r_IO, r_PO, r_XO, r_YO, r_nO, r_KA, r_LA, r_IA, r_PA, r_XA, r_YA, r_nA, r_KB, r_LB, r_IB, r_PB, r_XB, r_YB, r_nB]
    · simp [r_g, e9]; exact ho
    · simp [r_m]; exact ho2
    · simp [r_g, e9]; exact hp
    · simp [r_m]; exact hp2
    · rw [q14 404 (by omega)]; simp [r_KI, r_LI, r_PI, r_XI, r_YI, r_nI, r_II, r_KP, r_LP, r_IP, r_XP, r_YP, r_nP, r_PP, r_KX, r_LX, r_IX, r_PX, r_YX, r_nX, r_XX, r_KY, r_LY, r_IY, r_PY, r_XY, r_nY, r_YY, r_KO, r_LO, r_IO, r_PO, r_XO, r_YO, r_nO, r_KA, r_LA, r_IA, r_PA, r_XA, r_YA, r_nA, r_KB, r_LB, r_IB, r_PB, r_XB, r_YB, r_nB, r_g, e0']
    · rw [q14 402 (by omega)]; simp [r_KI, r_LI, r_PI, r_XI, r_YI, r_nI, r_II, r_KP, r_LP, r_IP, r_XP, r_YP, r_nP, r_PP, r_KX, r_LX, r_IX, r_PX, r_YX, r_nX, r_XX, r_KY, r_LY, r_IY, r_PY, r_XY, r_nY, r_YY, r_KO, r_LO, r_IO, r_PO, r_XO, r_YO, r_nO, r_KA, r_LA, r_IA, r_PA, r_XA, r_YA, r_nA, r_KB, r_LB, r_IB, r_PB, r_XB, r_YB, r_nB]
    · rw [q2]; simp [r_KI, r_LI, r_PI, r_XI, r_YI, r_nI, r_II, r_KP, r_LP, r_IP, r_XP, r_YP, r_nP, r_PP, r_KX, r_LX, r_IX, r_PX, r_YX, r_nX, r_XX, r_KY, r_LY, r_IY, r_PY, r_XY, r_nY, r_YY, r_KO, r_LO, r_IO, r_PO, r_XO, r_YO, r_nO, r_KA, r_LA, r_IA, r_PA, r_XA, r_YA, r_nA, r_KB, r_LB, r_IB, r_PB, r_XB, r_YB, r_nB]
    · rw [q7 700 _ hb.1 hb.2 (by omega)]; simp [r_KI, r_LI, r_PI, r_XI, r_YI, r_nI, r_II, r_KP, r_LP, r_IP, r_XP, r_YP, r_nP, r_PP, r_KX, r_LX, r_IX, r_PX, r_YX, r_nX, r_XX, r_KY, r_LY, r_IY, r_PY, r_XY, r_nY, r_YY, r_KO, r_LO, r_IO, r_PO, r_XO, r_YO, r_nO, r_KA, r_LA, r_IA, r_PA, r_XA, r_YA, r_nA, r_KB, r_LB, r_IB, r_PB, r_XB, r_YB, r_nB, r_g, e0']
    · rw [q6 701 _ hb.1 hb.2]; simp [r_KI, r_LI, r_PI, r_XI, r_YI, r_nI, r_II, r_KP, r_LP, r_IP, r_XP, r_YP, r_nP, r_PP, r_KX, r_LX, r_IX, r_PX, r_YX, r_nX, r_XX, r_KY, r_LY, r_IY, r_PY, r_XY, r_nY, r_YY, r_KO, r_LO, r_IO, r_PO, r_XO, r_YO, r_nO, r_KA, r_LA, r_IA, r_PA, r_XA, r_YA, r_nA, r_KB, r_LB, r_IB, r_PB, r_XB, r_YB, r_nB]
    · simp [r_g, e12q]
  · rw [e9] at hk
    rw [e3'] at e
    have := (hI.2.2.2.2.2.2.2.2.1 k hk).1
    exact absurd e (hne _ (by rw [this]; decide)).1
theorem dinst_1 {k b : Nat} (h : dK S b = k) : dinst S k (some b) = 1 := if_pos h
theorem dinst_0 {k b : Nat} (h : dK S b ≠ k) : dinst S k (some b) = 0 := if_neg h
theorem i32_10 : ¬ (1 : Int32) = 0 := by decide
theorem s_resolve_ {r : Nat} {v : Int32} (hI : Inv e0 d t 0 g w S M) (hr : r < g 9 15) (hO : g 9 1 + 1 ≤ 3000) (hn : 4000 < n) : RD (q_X11_resolve e0 n S d (some (g 1 r)) v) (fun _ S' C Z => RV (q_resolve n M (nI r) v) (fun M' => ∃ g' w', Inv e0 d t 0 g' w' S' M' ∧ CF g S M g' S' M' ∧ Cs 0 g S g' S' C Z ∧ g' 9 1 ≤ g 9 1 + 1 ∧ g' 9 15 = g 9 15 ∧ g' 9 22 = g 9 22 ∧ (g' 9 1 = g 9 1 ∨ ∃ p, M 13 r = nI p ∧ v = -2 - nI p))) := by
  have hN := Inv_nums hI
  obtain ⟨r1, r2, r3, r4, p, r5, r6, r7, r8⟩ := hI.2.2.2.2.2.2.1 r hr
  have hi : inb (nI r) 12000 := inb_nI (by omega) (by omega)
  have cr : (nI r).toNatClampNeg = r := nI_clamp (by omega)
  unfold q_X11_resolve
  refine w_in (by simp) <| w_bnd rfl <| w_chk r1 ?_
  rw [r3]
  by_cases h0 : M 14 r = 0
  · obtain ⟨hI1, c1⟩ := P_done hI hr h0
    have hp7 : M (2) p = 0 := r7
    have r7' : (mput M 14 r 1) 2 p = 0 := by rw [r_m, if_neg (by omega)]; exact r7
    have e13 : (mput M 14 r 1) 13 r = nI p := by rw [r_m, if_neg (by omega)]; exact r5
    have e7 : dP (sI S 701 (g 1 r) 1) 700 (g 1 r) = some (g 0 p) := r8
    -- the reference's head
    have hMq : ∀ Q, RV (if v = (-2 - nI p) then bnd2 (q_newObject (mput M 14 r 1) 2) (fun r13 M12 => bnd (q_settle n M12 (nI p) 2 (-2 - r13)) (fun M14 => some M14)) else bnd2 (q_isObject (mput M 14 r 1) v) (fun r3 M2 => if r3 = 0 then bnd (q_settle n M2 (nI p) 1 v) (fun M11 => some M11) else chk (inb ((-2) - v) 3000) (if (M2 2 ((-2) - v).toNatClampNeg) = 1 then chk (inb ((-2) - v) 3000) (if (M2 8 ((-2) - v).toNatClampNeg) = 1 then chk (inb ((-2) - v) 3000) (bnd (q_settle n M2 (nI p) 2 (M2 10 ((-2) - v).toNatClampNeg)) (fun M10 => some M10)) else q_resolve_107 n M2 v (nI p) ((-2) - v)) else q_resolve_107 n M2 v (nI p) ((-2) - v)))) Q → RV (q_resolve n M (nI r) v) Q := by
      intro Q hQ
      unfold q_resolve
      rw [cr]
      refine v_chk hi <| v_ip h0 <| v_chk hi <| v_chk (Or.inr rfl) <| v_lt <| v_chk hi ?_
      rw [e13]; exact hQ
    obtain ⟨k1, k2, k3, k4⟩ := hI1.2.2.2.2.2.1.1 p r6
    have hK7 := T_7 hI1 r6 r7'
    refine w_ip h0 <| w_chk (Or.inr rfl) <| w_lt <| w_chk hI1.2.2.1.2.1 ?_
    -- settle, whatever the outcome
    have hset : ∀ (st u : Int32), st = 1 ∨ st = 2 → RD (bndc (q_X11_close e0 n (sI S 701 (g 1 r) 1) d (some (g 0 p)) st u) (fun r14 S15 => some ((0 : Int32), S15, 0, 0))) (fun _ S' C Z => RV (bnd (q_settle n (mput M 14 r 1) (nI p) st u) (fun M11 => some M11)) (fun M' => ∃ g' w', Inv e0 d t 0 g' w' S' M' ∧ CF g S M g' S' M' ∧ Cs 0 g S g' S' C Z ∧ g' 9 1 ≤ g 9 1 + 1 ∧ g' 9 15 = g 9 15 ∧ g' 9 22 = g 9 22 ∧ (g' 9 1 = g 9 1 ∨ ∃ p, M 13 r = nI p ∧ v = -2 - nI p))) := by
      intro st u hst
      obtain ⟨r', S2, C, Z, eD, M2, eM, g2, w2, hI2, c2, rfl, rfl, e1, e2, e3, e4⟩ := s_settle (n := n) (p := p) (st := st) (v := u) hst hI1 r6 r7' hn
      refine w_bk eD <| w_some ?_
      rw [eM]
      exact v_some ⟨g2, w2, Inv_x hI2 (by omega), CF_trans c1 c2, Cs_0 hI (CF_trans c1 c2) e4, by omega, e2, e3, Or.inl e1⟩
    by_cases hself : v = -2 - nI p
    · -- its own promise
      have hD : ∃ r6, q_X11_thingOf e0 (sI S 701 (g 1 r) 1) d v = some (r6, sI S 701 (g 1 r) 1, 0, 0) := by
        rcases thing_run v hI1 with ⟨o, -, -, -, -, h, -⟩ | ⟨-, h, -⟩
        · exact ⟨_, h⟩
        · exact ⟨_, h⟩
      obtain ⟨r6', hD⟩ := hD
      refine w_bk hD <| w_bnd e7 <| w_chk hK7 <| w_ip (by rw [k1]; exact hself) <| w_chk hI1.2.2.1.2.1 ?_
      obtain ⟨r', S2, C2, Z2, eD2, rfl, r'', M2, eM2, rfl, g2, hI2, c2, cs2, f1, f2, f3⟩ := s_err hI1 hO
      have g20 : g2 0 p = g 0 p := c2.2.1.2.2.2.2.2.2.2.2.2.2.1 p r6
      have r7'' : M2 2 p = 0 := by rw [(c2.2.2.1.2.1 p r6).1]; exact r7'
      obtain ⟨r3', S3, C3, Z3, eD3, M3, eM3, g3, w3, hI3, c3, rfl, rfl, e1, e2, e3, e4⟩ := s_settle (n := n) (p := p) (st := 2) (v := -2 - nI (g 9 1)) (Or.inr rfl) hI2 (by omega) r7'' hn
      refine w_bk eD2 <| w_chk hI2.2.2.1.2.1 ?_
      rw [e7, ← g20]
      refine w_bk eD3 <| w_some ?_
      refine hMq _ (v_ip hself ?_)
      rw [eM2, bnd2_s, eM3]
      have c := CF_trans c1 (CF_trans c2 c3)
      refine v_some ⟨g3, w3, Inv_x hI3 (by omega), c, ?_, by omega, by omega, by omega, Or.inr ⟨p, r5, hself⟩⟩
      have cs1 := Cs_0 hI c1 rfl
      have cs3 := Cs_0 hI2 c3 e4
      exact Cs_le (Cs_trans cs1 (Cs_trans cs2 cs3)) (by omega) (by omega)
    · have hne : ¬ v = dI (sI S 701 (g 1 r) 1) 1000 (g 0 p) := by rw [k1]; exact hself
      rcases thing_run v hI1 with ⟨o, ho, e1, e2, e3, hD, hM⟩ | ⟨hno, hD, hM⟩
      · -- an object
        have co : (nI o).toNatClampNeg = o := nI_clamp (by omega)
        have hio : inb (nI o) 3000 := inb_nI (by omega) (by omega)
        refine w_bk hD <| w_bnd e7 <| w_chk hK7 <| w_in hne ?_
        have hMq2 : ∀ Q, RV (if (mput M 14 r 1) 2 o = 1 then (if (mput M 14 r 1) 8 o = 1 then (bnd (q_settle n (mput M 14 r 1) (nI p) 2 ((mput M 14 r 1) 10 o)) (fun M10 => some M10)) else q_resolve_107 n (mput M 14 r 1) v (nI p) (nI o)) else q_resolve_107 n (mput M 14 r 1) v (nI p) (nI o)) Q → RV (q_resolve n M (nI r) v) Q := by
          intro Q hQ
          refine hMq Q (v_in hself ?_)
          rw [hM, bnd2_s, e2, co]
          refine v_in i32_10 <| v_chk hio ?_
          by_cases h1 : (mput M 14 r 1) 2 o = 1
          · rw [if_pos h1] at hQ
            refine v_ip h1 <| v_chk hio ?_
            by_cases h2 : (mput M 14 r 1) 8 o = 1
            · rw [if_pos h2] at hQ
              exact v_ip h2 <| v_chk hio hQ
            · rw [if_neg h2] at hQ
              exact v_in h2 hQ
          · rw [if_neg h1] at hQ
            exact v_in h1 hQ
        obtain ⟨-, -, -, tk0⟩ := hI1.2.2.2.2.2.1.1 o ho
        have hKo := tk_K tk0
        have hok : okT (sI S 701 (g 1 r) 1) (some (g 0 o)) := decide_eq_true hKo
        refine w_chk hok ?_
        have h90 : ∀ (b : Int32), q_X11_hasThenFunction e0 (sI S 701 (g 1 r) 1) d (some (g 0 o)) = some (b, sI S 701 (g 1 r) 1, 0, 0) → ∀ Q, (b = 0 → RD (bndc (q_X11_close e0 n (sI S 701 (g 1 r) 1) d (some (g 0 p)) 1 v) (fun r14 S15 => some ((0 : Int32), S15, 0, 0))) Q) → (b ≠ 0 → RD (bndc (q_X4_follow e0 (sI S 701 (g 1 r) 1) (some (g 0 o)) (some (g 0 p))) (fun r16 S17 => chk (dK S17 d = 12) (bndc (q_X11_enqueue e0 S17 d r16) (fun r19 S20 => some ((0 : Int32), S20, 0, 0))))) Q) → RD (q_X11_resolve_90 e0 n (sI S 701 (g 1 r) 1) d v (some (g 0 p)) (some (g 0 o))) Q := by
          intro b hb Q hQ1 hQ2
          unfold q_X11_resolve_90
          refine w_chk hI1.2.2.1.2.1 <| w_bk hb ?_
          by_cases h : b = 0
          · refine w_ip h <| w_chk hI1.2.2.1.2.1 ?_
            refine w_mono (hQ1 h) ?_
            intro r S C Z hh; rw [Nat.zero_add, Nat.zero_add]; exact hh
          · refine w_in h ?_
            refine w_mono (hQ2 h) ?_
            intro r S C Z hh; rw [Nat.zero_add, Nat.zero_add]; exact hh
        have hfol : (mput M 14 r 1) 2 o = 0 ∨ (mput M 14 r 1) 2 o = 1 → RD (bndc (q_X4_follow e0 (sI S 701 (g 1 r) 1) (some (g 0 o)) (some (g 0 p))) (fun r16 S17 => chk (dK S17 d = 12) (bndc (q_X11_enqueue e0 S17 d r16) (fun r19 S20 => some ((0 : Int32), S20, 0, 0))))) (fun _ S' C Z => RV (q_resolve_138 n (mput M 14 r 1) (nI p) (nI o)) (fun M' => ∃ g' w', Inv e0 d t 0 g' w' S' M' ∧ CF g S M g' S' M' ∧ Cs 0 g S g' S' C Z ∧ g' 9 1 ≤ g 9 1 + 1 ∧ g' 9 15 = g 9 15 ∧ g' 9 22 = g 9 22 ∧ (g' 9 1 = g 9 1 ∨ ∃ p, M 13 r = nI p ∧ v = -2 - nI p))) := by
          intro h2
          refine w_mono (s_follow (n := n) (x := 0) hI1 ho h2 r6 r7') ?_
          rintro r' S2 C Z ⟨M2, eM2, g2, hI2, c2, cs2, f1, f2, f3⟩
          have cs1 := Cs_0 hI c1 rfl
          exact ⟨M2, eM2, g2, w, hI2, CF_trans c1 c2, Cs_le (Cs_trans cs1 cs2) (by omega) (by omega), by omega, f2, f3, Or.inl f1⟩
        have e10 : ¬ (10 : Nat) = 7 := by decide
        have hcost : ∀ {Q : Int32 → DS → Nat → Nat → Prop} {q : Option (Int32 × DS × Nat × Nat)}, RD q Q → RD q (fun r' S' C' Z' => Q r' S' (0 + C') (0 + Z')) := by
          intro Q q h
          refine w_mono h ?_
          intro r S C Z hh; rw [Nat.zero_add, Nat.zero_add]; exact hh
        rcases tk0 with ⟨t1, t2, -⟩ | ⟨t1, t2, t3, t4, t5, t6, -⟩ | ⟨t1, t2, -⟩ | ⟨t1, t2, -⟩ | ⟨t1, t2, -⟩
        · -- a promise
          refine w_ip (dinst_0 (by omega)) ?_
          rw [e7]
          simp only [Nat.zero_add]
          refine h90 1 ?_ _ (fun h => absurd h i32_10) (fun _ => ?_)
          · unfold q_X11_hasThenFunction
            rw [chk_i hok, if_pos (dinst_0 (by omega)), chk_i hok, dinst_1 t2, chk_i (Or.inr rfl)]
          · refine w_mono (hfol (Or.inl t1)) ?_
            intro r' S2 C Z hh
            refine hMq2 _ (v_in (by rw [t1]; decide) ?_)
            unfold q_resolve_107
            rw [co]
            exact v_chk hio <| v_ip t1 hh
        · -- a thenable
          refine w_in (by rw [dinst_1 t2]; exact i32_10) <| w_bnd rfl <| w_chk t2 ?_
          by_cases h8 : (mput M 14 r 1) 8 o = 1
          · refine w_ip (by rw [t4]; exact h8) <| w_chk hI1.2.2.1.2.1 ?_
            rw [e7, t6]
            simp only [Nat.zero_add]
            refine w_mono (hset 2 _ (Or.inr rfl)) ?_
            intro r' S2 C Z hh
            exact hMq2 _ (v_ip t1 <| v_ip h8 hh)
          · refine w_in (by rw [t4]; exact h8) ?_
            rw [e7]
            have hhas : ∀ b, b = (if (mput M 14 r 1) 8 o = 0 then 1 else 0 : Int32) → q_X11_hasThenFunction e0 (sI S 701 (g 1 r) 1) d (some (g 0 o)) = some (b, sI S 701 (g 1 r) 1, 0, 0) := by
              intro b hb
              refine RD_eq ?_
              unfold q_X11_hasThenFunction
              refine w_chk hok <| w_in (by rw [dinst_1 t2]; exact i32_10) <| w_bnd rfl <| w_chk t2 ?_
              rw [t4]
              by_cases h : (mput M 14 r 1) 8 o = 0
              · rw [if_pos h] at hb
                exact w_ip h <| w_chk (Or.inr rfl) <| w_some ⟨hb.symm, rfl, rfl, rfl⟩
              · rw [if_neg h] at hb
                exact w_in h <| w_chk (Or.inl rfl) <| w_some ⟨hb.symm, rfl, rfl, rfl⟩
            simp only [Nat.zero_add]
            refine h90 _ (hhas _ rfl) _ (fun h => ?_) (fun h => ?_)
            · have h80 : ¬ (mput M 14 r 1) 8 o = 0 := fun e => by rw [if_pos e] at h; exact i32_10 h
              refine w_mono (hset 1 v (Or.inl rfl)) ?_
              intro r' S2 C Z hh
              refine hMq2 _ (v_ip t1 <| v_in h8 ?_)
              unfold q_resolve_107
              rw [co]
              exact v_chk hio <| v_in (by rw [t1]; decide) <| v_chk hio <| v_ip t1 <| v_chk hio <| v_in h80 hh
            · have h80 : (mput M 14 r 1) 8 o = 0 := by
                by_cases e : (mput M 14 r 1) 8 o = 0
                · exact e
                · rw [if_neg e] at h; exact absurd rfl h
              refine w_mono (hfol (Or.inr t1)) ?_
              intro r' S2 C Z hh
              refine hMq2 _ (v_ip t1 <| v_in h8 ?_)
              unfold q_resolve_107
              rw [co]
              exact v_chk hio <| v_in (by rw [t1]; decide) <| v_chk hio <| v_ip t1 <| v_chk hio <| v_ip h80 hh
        all_goals
          have hk0 : ¬ (mput M 14 r 1) 2 o = 0 := by
            first | (rw [t1]; decide) | (rcases t1 with t1 | t1 <;> rw [t1] <;> decide)
          have hk1 : ¬ (mput M 14 r 1) 2 o = 1 := by
            first | (rw [t1]; decide) | (rcases t1 with t1 | t1 <;> rw [t1] <;> decide)
          refine w_ip (dinst_0 (by omega)) ?_
          rw [e7]
          simp only [Nat.zero_add]
          refine h90 0 ?_ _ (fun _ => ?_) (fun h => absurd rfl h)
          · unfold q_X11_hasThenFunction
            rw [chk_i hok, if_pos (dinst_0 (by omega)), chk_i hok, dinst_0 (by omega), chk_i (Or.inl rfl)]
          · refine w_mono (hset 1 v (Or.inl rfl)) ?_
            intro r' S2 C Z hh
            refine hMq2 _ (v_in hk1 ?_)
            unfold q_resolve_107
            rw [co]
            exact v_chk hio <| v_in hk0 <| v_chk hio <| v_in hk1 hh
      · -- no object
        refine w_bk hD <| w_bnd e7 <| w_chk hK7 <| w_in hne <| w_chk rfl <| w_ip rfl ?_
        unfold q_X11_resolve_90
        refine w_chk hI1.2.2.1.2.1 <| w_bk (r := 0) (S := sI S 701 (g 1 r) 1) (C := 0) (Z := 0) rfl <| w_ip rfl <| w_chk hI1.2.2.1.2.1 ?_
        rw [e7]
        refine w_mono (hset 1 v (Or.inl rfl)) ?_
        intro r' S2 C Z hh
        simp only [Nat.zero_add]
        refine hMq _ (v_in hself ?_)
        rw [hM, bnd2_s]
        exact v_ip rfl hh
  · refine w_in h0 <| w_some ?_
    refine ⟨M, ?_, g, w, hI, CF_refl _ _ _, Cs_0 hI (CF_refl _ _ _) rfl, by omega, rfl, rfl, Or.inl rfl⟩
    unfold q_resolve
    rw [chk_i hi, cr, if_neg h0]
theorem s_resolve {r : Nat} {v : Int32} (hI : Inv e0 d t 0 g w S M) (hr : r < g 9 15) (hO : g 9 1 + 1 ≤ 3000) (hn : 4000 < n) : RD (q_X11_resolve e0 n S d (some (g 1 r)) v) (fun _ S' C Z => RV (q_resolve n M (nI r) v) (fun M' => ∃ g' w', Inv e0 d t 0 g' w' S' M' ∧ CF g S M g' S' M' ∧ Cs 0 g S g' S' C Z ∧ g' 9 1 ≤ g 9 1 + 1 ∧ g' 9 15 = g 9 15 ∧ g' 9 22 = g 9 22)) := by
  refine w_mono (s_resolve_ hI hr hO hn) ?_
  rintro r' S' C Z ⟨M', e, g', w', h1, h2, h3, h4, h5, h6, -⟩
  exact ⟨M', e, g', w', h1, h2, h3, h4, h5, h6⟩
end RES
