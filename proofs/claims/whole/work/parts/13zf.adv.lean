section ADV
variable {e0 d t x n : Nat} {g g' : GH} {w w' : Nat → List Nat} {S S' S1 S2 S0 : DS} {M M' M1 : MS}
theorem WF_mk (h1 : ∀ a, dK S a ≠ 0 → dK S' a = dK S a ∧ (dK S a ≠ 12 → ∀ f, fx f = false → f ≠ 104 → f ≠ 203 → f ≠ 606 → f ≠ 908 → dI S' f a = dI S f a ∧ dP S' f a = dP S f a)) (h9 : ∀ i, i ≠ 36 → i ≠ 38 → i ≠ 42 → g' 9 i = g 9 i) (h42 : g 9 42 ≤ g' 9 42) (hg : ∀ k, k ≤ 4 → g' k = g k) (hM : ∀ k, k ≠ 1 → k ≤ 25 → k ≠ 6 → M' k = M k) : WF g S M g' S' M' := by
  unfold WF
  rw [hg 0 (by omega), hg 1 (by omega), hg 2 (by omega), hg 3 (by omega), hg 4 (by omega), h9 1 (by omega) (by omega) (by omega), h9 15 (by omega) (by omega) (by omega), h9 22 (by omega) (by omega) (by omega), h9 30 (by omega) (by omega) (by omega), h9 29 (by omega) (by omega) (by omega), h9 33 (by omega) (by omega) (by omega), h9 50 (by omega) (by omega) (by omega), hM 2 (by omega) (by omega) (by omega), hM 8 (by omega) (by omega) (by omega), hM 9 (by omega) (by omega) (by omega), hM 10 (by omega) (by omega) (by omega), hM 11 (by omega) (by omega) (by omega), hM 12 (by omega) (by omega) (by omega), hM 17 (by omega) (by omega) (by omega), hM 18 (by omega) (by omega) (by omega), hM 19 (by omega) (by omega) (by omega), hM 20 (by omega) (by omega) (by omega), hM 21 (by omega) (by omega) (by omega), hM 25 (by omega) (by omega) (by omega), hM 0 (by omega) (by omega) (by omega)]
  exact ⟨h1, ⟨Nat.le_refl _, Nat.le_refl _, Nat.le_refl _, Nat.le_refl _, rfl, Nat.le_refl _, h42, Nat.le_refl _⟩, fun _ _ => ⟨rfl, rfl, rfl, rfl, rfl, rfl, rfl⟩, fun _ _ => rfl, fun _ _ => rfl, fun _ _ => ⟨rfl, rfl, rfl, rfl, rfl, rfl⟩, fun _ _ => rfl, fun _ _ => rfl, rfl⟩
theorem wt_no {k : Nat} {kd f : Int32} (h : ¬ (kd = 4 ∨ kd = 5 ∨ kd = 6 ∨ kd = 7)) : wt g M k kd f := fun h' => absurd h' h
theorem call_last {kd p v : Int32} (hkd : kd = 8 ∨ kd = 9) : q_call n M kd p v = q_last n (mput M 51 0 0) kd p v := by
  have e : ∀ y : Option (Int32 × MS), bnd2 y (fun r M => some (r, M)) = y := by intro y; cases y <;> rfl
  unfold q_call
  rw [chk_i (Or.inl rfl), lt9_s]
  rcases hkd with rfl | rfl
  · rw [if_neg (by decide), if_neg (by decide), if_neg (by decide), if_neg (by decide), if_neg (by decide), if_neg (by decide), if_neg (by decide), if_pos rfl, e]
  · rw [if_neg (by decide), if_neg (by decide), if_neg (by decide), if_neg (by decide), if_neg (by decide), if_neg (by decide), if_neg (by decide), if_neg (by decide), if_pos rfl, e]
/-- lastly's functions -/
theorem s_last {a h : Nat} {kd v : Int32} (hI : Inv e0 d t 0 g w S M) (ht : t < 512) (hkd : kd = 8 ∨ kd = 9) (hh : h < g 9 33) (ha : dK S a = 6) (h500 : dP S 500 a = some (g 2 h)) (h501 : dI S 501 a = if kd = 8 then 0 else 2) (hL : g 9 36 ≤ 4000) (hO : g 9 1 + 4 ≤ 3000) (hn : 4000 < n) : RD (q_X5_callIn e0 n S a (some d) v) (fun r S' C Z => RM (q_call n M kd (nI h) v) (fun r' M' => PC e0 d t g S M r S' C Z r' M')) := by
  have hN := Inv_nums hI
  have hd := hI.2.2.1.2.1
  rw [call_last hkd]
  have hI0 : Inv e0 d t 0 g w S (mput M 51 0 0) := Inv_m (Or.inr rfl) hI
  have f0 : WF g S M g S (mput M 51 0 0) := WF_m (Or.inr rfl)
  obtain ⟨r1, S1, C1, Z1, eD1, r1', M1, eM1, rfl, g1, w1, hI1, f1, cs1, t1, t1b, o1, o2, o3, o4⟩ := s_hcall (n := n) (v := -1) hI0 hh hL (by omega) hn
  have hd1 := hI1.2.2.1.2.1
  have f01 := WF_trans f0 f1
  have hKh : dK S (g 2 h) = 9 := (hI.2.2.2.2.2.2.2.1 h hh).1
  unfold q_X5_callIn q_last
  rw [eM1, bnd2_s]
  refine w_chk ha <| w_bnd h500 <| w_chk hKh <| w_bk eD1 <| w_bnd rfl <| w_chk hd1 ?_
  rw [t1]
  by_cases hth : M1 51 0 = 0
  · obtain ⟨r2, S2, C2, Z2, eD2, r2', M2, eM2, g2, w2, p, rfl, rfl, hp, hp2, hI2, c2, cs2, p1, p2⟩ := s_pfor (n := n) (v := r1') hI1 (by omega) hn
    have ha0 : dK S a ≠ 0 := by rw [ha]; decide
    have ha1 : dK S1 a = 6 := by rw [(f1.1 a ha0).1]; exact ha
    have h501a : dI S1 501 a = if kd = 8 then 0 else 2 := by
      rw [((f1.1 a ha0).2 (by rw [ha]; decide) 501 rfl (by decide) (by decide) (by decide) (by decide)).1]; exact h501
    have ha2 : dK S2 a = 6 := by rw [cf_K c2 (by rw [ha1]; decide)]; exact ha1
    have h501b : dI S2 501 a = if kd = 8 then 0 else 2 := by rw [cf_I c2 (by rw [ha1]; decide) rfl]; exact h501a
    have hfr := hI2.2.2.1.1
    have hk0 := K_dn hfr
    have han : a ≠ dn S2 := by rintro rfl; rw [hk0] at ha2; cases ha2
    have hN2 := Inv_nums hI2
    rw [eM2, bnd2_s]
    refine w_ip hth <| w_bk eD2 <| w_tick <| w_lt <| w_lt <| w_chk (by rw [r_KO, if_neg han]; exact ha2) ?_
    rw [r_IO, if_neg han, h501b]
    unfold q_X8_init q_X3_init
    refine w_bndc <| w_bndc <| w_some <| w_chk (by rw [r_KO, if_pos rfl]) <| w_lt <| w_lt <| w_lt <| w_lt <| w_some ?_
    have hS : Same S2 (sP (sI (sI (sI (sO S2 9) 800 (dn S2) (-1)) 801 (dn S2) (if kd = 8 then 0 else 2)) 802 (dn S2) v) 803 (dn S2) none) := Same_sP (Same_sI (Same_sI (Same_sI (Same_sO hfr (by decide)) hk0) hk0) hk0) hk0
    obtain ⟨hI4, c4⟩ := Inv_same hI2 hS
    have q1 : dK (sP (sI (sI (sI (sO S2 9) 800 (dn S2) (-1)) 801 (dn S2) (if kd = 8 then 0 else 2)) 802 (dn S2) v) 803 (dn S2) none) (dn S2) = 9 := by simp [r_KI, r_LI, r_PI, r_XI, r_YI, r_nI, r_II, r_KP, r_LP, r_IP, r_XP, r_YP, r_nP, r_PP, r_KX, r_LX, r_IX, r_PX, r_YX, r_nX, r_XX, r_KY, r_LY, r_IY, r_PY, r_XY, r_nY, r_YY, r_KO, r_LO, r_IO, r_PO, r_XO, r_YO, r_nO, r_KA, r_LA, r_IA, r_PA, r_XA, r_YA, r_nA, r_KB, r_LB, r_IB, r_PB, r_XB, r_YB, r_nB]
    have q2 : dI (sP (sI (sI (sI (sO S2 9) 800 (dn S2) (-1)) 801 (dn S2) (if kd = 8 then 0 else 2)) 802 (dn S2) v) 803 (dn S2) none) 800 (dn S2) = -1 := by simp [r_KI, r_LI, r_PI, r_XI, r_YI, r_nI, r_II, r_KP, r_LP, r_IP, r_XP, r_YP, r_nP, r_PP, r_KX, r_LX, r_IX, r_PX, r_YX, r_nX, r_XX, r_KY, r_LY, r_IY, r_PY, r_XY, r_nY, r_YY, r_KO, r_LO, r_IO, r_PO, r_XO, r_YO, r_nO, r_KA, r_LA, r_IA, r_PA, r_XA, r_YA, r_nA, r_KB, r_LB, r_IB, r_PB, r_XB, r_YB, r_nB]
    have q3 : dI (sP (sI (sI (sI (sO S2 9) 800 (dn S2) (-1)) 801 (dn S2) (if kd = 8 then 0 else 2)) 802 (dn S2) v) 803 (dn S2) none) 801 (dn S2) = if kd = 8 then 0 else 2 := by simp [r_KI, r_LI, r_PI, r_XI, r_YI, r_nI, r_II, r_KP, r_LP, r_IP, r_XP, r_YP, r_nP, r_PP, r_KX, r_LX, r_IX, r_PX, r_YX, r_nX, r_XX, r_KY, r_LY, r_IY, r_PY, r_XY, r_nY, r_YY, r_KO, r_LO, r_IO, r_PO, r_XO, r_YO, r_nO, r_KA, r_LA, r_IA, r_PA, r_XA, r_YA, r_nA, r_KB, r_LB, r_IB, r_PB, r_XB, r_YB, r_nB]
    have q4 : dI (sP (sI (sI (sI (sO S2 9) 800 (dn S2) (-1)) 801 (dn S2) (if kd = 8 then 0 else 2)) 802 (dn S2) v) 803 (dn S2) none) 802 (dn S2) = v := by simp [r_KI, r_LI, r_PI, r_XI, r_YI, r_nI, r_II, r_KP, r_LP, r_IP, r_XP, r_YP, r_nP, r_PP, r_KX, r_LX, r_IX, r_PX, r_YX, r_nX, r_XX, r_KY, r_LY, r_IY, r_PY, r_XY, r_nY, r_YY, r_KO, r_LO, r_IO, r_PO, r_XO, r_YO, r_nO, r_KA, r_LA, r_IA, r_PA, r_XA, r_YA, r_nA, r_KB, r_LB, r_IB, r_PB, r_XB, r_YB, r_nB]
    have eL4 : dL (sP (sI (sI (sI (sO S2 9) 800 (dn S2) (-1)) 801 (dn S2) (if kd = 8 then 0 else 2)) 802 (dn S2) v) 803 (dn S2) none) = dL S2 := rfl
    generalize sP (sI (sI (sI (sO S2 9) 800 (dn S2) (-1)) 801 (dn S2) (if kd = 8 then 0 else 2)) 802 (dn S2) v) 803 (dn S2) none = S4 at *
    have bd2 := hI2.2.1
    unfold A_bd at bd2
    have hI5 := P_val (v := v) (Inv_t (t' := t + 1) hI4 (by omega) (by omega) (by omega) (by omega)) (by omega) rfl rfl
    generalize hM6 : mput (mput M2 42 0 (nI (g2 9 42 + 1))) 39 (g2 9 42) v = M6 at *
    generalize hg6 : gput (gput g2 9 42 (g2 9 42 + 1)) 10 (g2 9 42) 0 = g6 at *
    have e6 : ∀ k, k ≠ 9 → k ≠ 10 → g6 k = g2 k := fun k h1 h2 => by rw [← hg6, r_gf h2, r_gf h1]
    have e69 : ∀ i, i ≠ 42 → g6 9 i = g2 9 i := fun i hi => by rw [← hg6]; simp [r_g, hi]
    have e642 : g6 9 42 = g2 9 42 + 1 := by rw [← hg6]; simp [r_g]
    have m6 : ∀ k, k ≠ 39 → k ≠ 42 → M6 k = M2 k := fun k h1 h2 => by rw [← hM6, r_mf h1, r_mf h2]
    have m42 : M2 42 0 = nI (g2 9 42) := hI2.1.2.2.2.2.2.2.2.2.1
    have f6 : WF g2 S4 M2 g6 S4 M6 := WF_mk (fun a _ => ⟨rfl, fun _ f _ _ _ _ _ => ⟨rfl, rfl⟩⟩) (fun i _ _ h => e69 i h) (by omega) (fun k hk => e6 k (by omega) (by omega)) (fun k h1 h2 h3 => m6 k (by omega) (by omega))
    have hfn1 : fn g6 S4 M6 (some (dn S2)) (if kd = 8 then 10 else 11) (nI (g2 9 42)) := by
      refine Or.inr (Or.inr (Or.inr (Or.inr (Or.inr ⟨?_, g2 9 42, dn S2, rfl, by omega, ?_, rfl, q1, q2, ?_, ?_⟩))))
      · split
        · exact Or.inl rfl
        · exact Or.inr rfl
      · rw [← hg6]; simp [r_g]
      · rw [q3]; rcases hkd with rfl | rfl <;> decide
      · rw [q4, ← hM6]; simp [r_m]
    obtain ⟨r7, S7, C7, Z7, eD7, rfl, r7', M7, eM7, rfl, g7, w7, hI7, c7, cs7, x1, x2, x3⟩ := s_then (n := n) (p := p) (x1 := some (dn S2)) (x2 := none) (k1 := if kd = 8 then 10 else 11) (f1 := nI (g2 9 42)) (k2 := 0) (f2 := 0) hI5 (by rw [e69 1 (by omega)]; exact hp) (by rw [m6 2 (by omega) (by omega)]; exact hp2) (by rw [e69 1 (by omega)]; omega) hfn1 (Or.inl ⟨rfl, rfl⟩) ⟨wt_no (by rcases hkd with rfl | rfl <;> decide), wt_no (by decide)⟩ hn
    rw [e6 0 (by omega) (by omega)] at eD7
    rw [e69 1 (by omega)] at eD7 eM7 x1
    rw [e69 22 (by omega)] at x3
    have hd4 : dK S4 d = 12 := hI4.2.2.1.2.1
    refine w_chk hd4 <| w_bk eD7 <| w_some ?_
    have hlast : ∀ z0 : Int32, z0 = (if kd = 8 then 10 else 11) → q_last_66 n M6 (nI (g2 9 42)) z0 (nI p) = some (-2 - nI (g2 9 1), mput M7 51 0 0) := by
      intro z0 hz0
      unfold q_last_66
      rw [hz0, eM7, bnd2_s, chk_i (Or.inl rfl), lt9_s]
    have hMq : ∀ Q, RM (some (-2 - nI (g2 9 1), mput M7 51 0 0)) Q → RM (lt9 (mput M2 42 0 ((M2 42 0) + 1)) (fun M5 => chk (inb (M2 42 0) 20000) (lt9 (mput M5 39 (M2 42 0).toNatClampNeg v) (fun M6 => if kd = 8 then q_last_66 n M6 (M2 42 0) 10 (nI p) else q_last_66 n M6 (M2 42 0) 11 (nI p))))) Q := by
      intro Q hQ
      rw [m42, nI_1, nI_clamp (by omega), lt9_s, chk_i (inb_nI (by omega) (by omega)), lt9_s, hM6]
      by_cases e8 : kd = 8
      · rw [if_pos e8, hlast 10 (by rw [if_pos e8])]; exact hQ
      · rw [if_neg e8, hlast 11 (by rw [if_neg e8])]; exact hQ
    refine m_ip hth (hMq _ (m_some ?_))
    have hGE := c7.2.1
    unfold GE at hGE
    have y11 : g7 11 = g6 11 := by clear hI7 c7 cs7; grind
    have y50 : g7 9 50 = g6 9 50 := by clear hI7 c7 cs7; grind
    have y38 : g7 9 38 = g6 9 38 := by clear hI7 c7 cs7; grind
    have y42 : g7 9 42 = g6 9 42 := by clear hI7 c7 cs7; grind
    rw [e6 11 (by omega) (by omega)] at y11
    rw [e69 50 (by omega)] at y50
    rw [e69 38 (by omega)] at y38
    refine ⟨rfl, g7, w7, Inv_m (Or.inr rfl) (Inv_t hI7 (by omega) (by rw [y11, y50, y38, x3, x1]; omega) (by rw [y42, y38, x1, e642]; omega) (by rw [x2, x1, cf_36 c7, e69 36 (by omega), e69 15 (by omega)]; omega)), WF_trans f01 (WF_trans (WF_cf (CF_trans c2 c4)) (WF_trans f6 (WF_trans (WF_cf c7) (WF_m (Or.inr rfl))))), ?_, ?_, by simp [r_m]; exact Or.inl rfl, by omega, ?_, ?_⟩
    · have csA : Cs 0 g2 S2 g6 S4 0 0 := by
        have z1 := e69 1 (by omega)
        have z2 := e69 15 (by omega)
        have z3 := e69 22 (by omega)
        have z4 := e69 30 (by omega)
        have z5 := e69 33 (by omega)
        have z6 := e69 36 (by omega)
        unfold Cs pc pz
        rw [z1, z2, z3, z4, z5, z6, e6 14 (by omega) (by omega), eL4]
        omega
      exact Cs_le (Cs_trans cs1 (Cs_trans cs2 (Cs_trans csA cs7))) (by omega) (by omega)
    · rw [cf_1109 c7 hd4, cf_1109 c4 hI2.2.2.1.2.1, cf_1109 c2 hd1, t1, hth]; simp [r_m]
    · rw [cf_36 c7, e69 36 (by omega), cf_36 c2]; omega
    · rw [cf_14 c7 (by decide), e6 14 (by omega) (by omega), cf_14 c2 (by decide)]; exact o4
  · refine w_in hth <| w_some <| m_in hth <| m_some ⟨rfl, g1, w1, hI1, f01, ?_, t1, t1b, by omega, by omega, o4⟩
    exact Cs_le cs1 (by omega) (by omega)
theorem P_open {q : Nat} (hI : Inv e0 d t x g w S M) (hop : g 14 1 = 0) (hM : M' = mput M 49 q (M 49 q + 1)) (hg : g' = gput g 14 1 (q + 1)) (hk : dK S (g 4 q) = 2) : Inv e0 d t x g' w S M' := by
  obtain ⟨i1, i2, i3, i4, i5, i6, i7, i8, i9, i10, i11, i12⟩ := hI
  have eM : ∀ k, k ≠ 49 → M' k = M k := fun k hk => by rw [hM, r_mf hk]
  have eg : ∀ k, k ≠ 14 → g' k = g k := fun k hk => by rw [hg, r_gf hk]
  have eg14 : ∀ i, i ≠ 1 → g' 14 i = g 14 i := fun i hi => by rw [hg]; simp [r_g, hi]
  have e141 : g' 14 1 = q + 1 := by rw [hg]; simp [r_g]
  have m49 : ∀ y, M' 49 y = if y = q then M 49 q + 1 else M 49 y := fun y => by rw [hM]; simp [r_m]
  refine ⟨(by have h := i1; unfold A_cnt at h ⊢; simp only [eM 1 (by decide), eM 2 (by decide), eM 3 (by decide), eM 4 (by decide), eM 5 (by decide), eM 6 (by decide), eM 7 (by decide), eM 8 (by decide), eM 9 (by decide), eM 10 (by decide), eM 11 (by decide), eM 12 (by decide), eM 13 (by decide), eM 14 (by decide), eM 15 (by decide), eM 16 (by decide), eM 17 (by decide), eM 18 (by decide), eM 19 (by decide), eM 20 (by decide), eM 21 (by decide), eM 22 (by decide), eM 23 (by decide), eM 24 (by decide), eM 25 (by decide), eM 26 (by decide), eM 27 (by decide), eM 28 (by decide), eM 29 (by decide), eM 30 (by decide), eM 31 (by decide), eM 32 (by decide), eM 33 (by decide), eM 34 (by decide), eM 35 (by decide), eM 36 (by decide), eM 37 (by decide), eM 38 (by decide), eM 39 (by decide), eM 40 (by decide), eM 41 (by decide), eM 42 (by decide), eM 43 (by decide), eM 44 (by decide), eM 45 (by decide), eM 46 (by decide), eM 47 (by decide), eM 48 (by decide), eM 50 (by decide), eg 0 (by decide), eg 1 (by decide), eg 2 (by decide), eg 3 (by decide), eg 4 (by decide), eg 5 (by decide), eg 6 (by decide), eg 7 (by decide), eg 8 (by decide), eg 10 (by decide), eg 11 (by decide), eg 12 (by decide), eg 15 (by decide), eg 16 (by decide), eg 9 (by decide), eg14 2 (by decide), eg14 3 (by decide), eg14 4 (by decide), eg14 5 (by decide), eg14 6 (by decide), eg14 7 (by decide)]; exact h), (by have h := i2; unfold A_bd un14 at h ⊢; simp only [eM 1 (by decide), eM 2 (by decide), eM 3 (by decide), eM 4 (by decide), eM 5 (by decide), eM 6 (by decide), eM 7 (by decide), eM 8 (by decide), eM 9 (by decide), eM 10 (by decide), eM 11 (by decide), eM 12 (by decide), eM 13 (by decide), eM 14 (by decide), eM 15 (by decide), eM 16 (by decide), eM 17 (by decide), eM 18 (by decide), eM 19 (by decide), eM 20 (by decide), eM 21 (by decide), eM 22 (by decide), eM 23 (by decide), eM 24 (by decide), eM 25 (by decide), eM 26 (by decide), eM 27 (by decide), eM 28 (by decide), eM 29 (by decide), eM 30 (by decide), eM 31 (by decide), eM 32 (by decide), eM 33 (by decide), eM 34 (by decide), eM 35 (by decide), eM 36 (by decide), eM 37 (by decide), eM 38 (by decide), eM 39 (by decide), eM 40 (by decide), eM 41 (by decide), eM 42 (by decide), eM 43 (by decide), eM 44 (by decide), eM 45 (by decide), eM 46 (by decide), eM 47 (by decide), eM 48 (by decide), eM 50 (by decide), eg 0 (by decide), eg 1 (by decide), eg 2 (by decide), eg 3 (by decide), eg 4 (by decide), eg 5 (by decide), eg 6 (by decide), eg 7 (by decide), eg 8 (by decide), eg 10 (by decide), eg 11 (by decide), eg 12 (by decide), eg 15 (by decide), eg 16 (by decide), eg 9 (by decide), eg14 2 (by decide), eg14 3 (by decide), eg14 4 (by decide), eg14 5 (by decide), eg14 6 (by decide), eg14 7 (by decide)]; exact h), (by have h := i3; unfold A_desk AL dFr at h ⊢; simp only [eM 1 (by decide), eM 2 (by decide), eM 3 (by decide), eM 4 (by decide), eM 5 (by decide), eM 6 (by decide), eM 7 (by decide), eM 8 (by decide), eM 9 (by decide), eM 10 (by decide), eM 11 (by decide), eM 12 (by decide), eM 13 (by decide), eM 14 (by decide), eM 15 (by decide), eM 16 (by decide), eM 17 (by decide), eM 18 (by decide), eM 19 (by decide), eM 20 (by decide), eM 21 (by decide), eM 22 (by decide), eM 23 (by decide), eM 24 (by decide), eM 25 (by decide), eM 26 (by decide), eM 27 (by decide), eM 28 (by decide), eM 29 (by decide), eM 30 (by decide), eM 31 (by decide), eM 32 (by decide), eM 33 (by decide), eM 34 (by decide), eM 35 (by decide), eM 36 (by decide), eM 37 (by decide), eM 38 (by decide), eM 39 (by decide), eM 40 (by decide), eM 41 (by decide), eM 42 (by decide), eM 43 (by decide), eM 44 (by decide), eM 45 (by decide), eM 46 (by decide), eM 47 (by decide), eM 48 (by decide), eM 50 (by decide), eg 0 (by decide), eg 1 (by decide), eg 2 (by decide), eg 3 (by decide), eg 4 (by decide), eg 5 (by decide), eg 6 (by decide), eg 7 (by decide), eg 8 (by decide), eg 10 (by decide), eg 11 (by decide), eg 12 (by decide), eg 15 (by decide), eg 16 (by decide), eg 9 (by decide), eg14 2 (by decide), eg14 3 (by decide), eg14 4 (by decide), eg14 5 (by decide), eg14 6 (by decide), eg14 7 (by decide)]; exact h), (by have h := i4; unfold A_log at h ⊢; simp only [eM 1 (by decide), eM 2 (by decide), eM 3 (by decide), eM 4 (by decide), eM 5 (by decide), eM 6 (by decide), eM 7 (by decide), eM 8 (by decide), eM 9 (by decide), eM 10 (by decide), eM 11 (by decide), eM 12 (by decide), eM 13 (by decide), eM 14 (by decide), eM 15 (by decide), eM 16 (by decide), eM 17 (by decide), eM 18 (by decide), eM 19 (by decide), eM 20 (by decide), eM 21 (by decide), eM 22 (by decide), eM 23 (by decide), eM 24 (by decide), eM 25 (by decide), eM 26 (by decide), eM 27 (by decide), eM 28 (by decide), eM 29 (by decide), eM 30 (by decide), eM 31 (by decide), eM 32 (by decide), eM 33 (by decide), eM 34 (by decide), eM 35 (by decide), eM 36 (by decide), eM 37 (by decide), eM 38 (by decide), eM 39 (by decide), eM 40 (by decide), eM 41 (by decide), eM 42 (by decide), eM 43 (by decide), eM 44 (by decide), eM 45 (by decide), eM 46 (by decide), eM 47 (by decide), eM 48 (by decide), eM 50 (by decide), eg 0 (by decide), eg 1 (by decide), eg 2 (by decide), eg 3 (by decide), eg 4 (by decide), eg 5 (by decide), eg 6 (by decide), eg 7 (by decide), eg 8 (by decide), eg 10 (by decide), eg 11 (by decide), eg 12 (by decide), eg 15 (by decide), eg 16 (by decide), eg 9 (by decide), eg14 2 (by decide), eg14 3 (by decide), eg14 4 (by decide), eg14 5 (by decide), eg14 6 (by decide), eg14 7 (by decide)]; exact h), (by have h := i5; unfold A_itm at h ⊢; simp only [eM 1 (by decide), eM 2 (by decide), eM 3 (by decide), eM 4 (by decide), eM 5 (by decide), eM 6 (by decide), eM 7 (by decide), eM 8 (by decide), eM 9 (by decide), eM 10 (by decide), eM 11 (by decide), eM 12 (by decide), eM 13 (by decide), eM 14 (by decide), eM 15 (by decide), eM 16 (by decide), eM 17 (by decide), eM 18 (by decide), eM 19 (by decide), eM 20 (by decide), eM 21 (by decide), eM 22 (by decide), eM 23 (by decide), eM 24 (by decide), eM 25 (by decide), eM 26 (by decide), eM 27 (by decide), eM 28 (by decide), eM 29 (by decide), eM 30 (by decide), eM 31 (by decide), eM 32 (by decide), eM 33 (by decide), eM 34 (by decide), eM 35 (by decide), eM 36 (by decide), eM 37 (by decide), eM 38 (by decide), eM 39 (by decide), eM 40 (by decide), eM 41 (by decide), eM 42 (by decide), eM 43 (by decide), eM 44 (by decide), eM 45 (by decide), eM 46 (by decide), eM 47 (by decide), eM 48 (by decide), eM 50 (by decide), eg 0 (by decide), eg 1 (by decide), eg 2 (by decide), eg 3 (by decide), eg 4 (by decide), eg 5 (by decide), eg 6 (by decide), eg 7 (by decide), eg 8 (by decide), eg 10 (by decide), eg 11 (by decide), eg 12 (by decide), eg 15 (by decide), eg 16 (by decide), eg 9 (by decide), eg14 2 (by decide), eg14 3 (by decide), eg14 4 (by decide), eg14 5 (by decide), eg14 6 (by decide), eg14 7 (by decide)]; exact h), (by have h := i6; unfold A_T tk kp at h ⊢; simp only [eM 1 (by decide), eM 2 (by decide), eM 3 (by decide), eM 4 (by decide), eM 5 (by decide), eM 6 (by decide), eM 7 (by decide), eM 8 (by decide), eM 9 (by decide), eM 10 (by decide), eM 11 (by decide), eM 12 (by decide), eM 13 (by decide), eM 14 (by decide), eM 15 (by decide), eM 16 (by decide), eM 17 (by decide), eM 18 (by decide), eM 19 (by decide), eM 20 (by decide), eM 21 (by decide), eM 22 (by decide), eM 23 (by decide), eM 24 (by decide), eM 25 (by decide), eM 26 (by decide), eM 27 (by decide), eM 28 (by decide), eM 29 (by decide), eM 30 (by decide), eM 31 (by decide), eM 32 (by decide), eM 33 (by decide), eM 34 (by decide), eM 35 (by decide), eM 36 (by decide), eM 37 (by decide), eM 38 (by decide), eM 39 (by decide), eM 40 (by decide), eM 41 (by decide), eM 42 (by decide), eM 43 (by decide), eM 44 (by decide), eM 45 (by decide), eM 46 (by decide), eM 47 (by decide), eM 48 (by decide), eM 50 (by decide), eg 0 (by decide), eg 1 (by decide), eg 2 (by decide), eg 3 (by decide), eg 4 (by decide), eg 5 (by decide), eg 6 (by decide), eg 7 (by decide), eg 8 (by decide), eg 10 (by decide), eg 11 (by decide), eg 12 (by decide), eg 15 (by decide), eg 16 (by decide), eg 9 (by decide), eg14 2 (by decide), eg14 3 (by decide), eg14 4 (by decide), eg14 5 (by decide), eg14 6 (by decide), eg14 7 (by decide)]; exact h), (by have h := i7; unfold A_R at h ⊢; simp only [eM 1 (by decide), eM 2 (by decide), eM 3 (by decide), eM 4 (by decide), eM 5 (by decide), eM 6 (by decide), eM 7 (by decide), eM 8 (by decide), eM 9 (by decide), eM 10 (by decide), eM 11 (by decide), eM 12 (by decide), eM 13 (by decide), eM 14 (by decide), eM 15 (by decide), eM 16 (by decide), eM 17 (by decide), eM 18 (by decide), eM 19 (by decide), eM 20 (by decide), eM 21 (by decide), eM 22 (by decide), eM 23 (by decide), eM 24 (by decide), eM 25 (by decide), eM 26 (by decide), eM 27 (by decide), eM 28 (by decide), eM 29 (by decide), eM 30 (by decide), eM 31 (by decide), eM 32 (by decide), eM 33 (by decide), eM 34 (by decide), eM 35 (by decide), eM 36 (by decide), eM 37 (by decide), eM 38 (by decide), eM 39 (by decide), eM 40 (by decide), eM 41 (by decide), eM 42 (by decide), eM 43 (by decide), eM 44 (by decide), eM 45 (by decide), eM 46 (by decide), eM 47 (by decide), eM 48 (by decide), eM 50 (by decide), eg 0 (by decide), eg 1 (by decide), eg 2 (by decide), eg 3 (by decide), eg 4 (by decide), eg 5 (by decide), eg 6 (by decide), eg 7 (by decide), eg 8 (by decide), eg 10 (by decide), eg 11 (by decide), eg 12 (by decide), eg 15 (by decide), eg 16 (by decide), eg 9 (by decide), eg14 2 (by decide), eg14 3 (by decide), eg14 4 (by decide), eg14 5 (by decide), eg14 6 (by decide), eg14 7 (by decide)]; exact h), (by have h := i8; unfold A_H at h ⊢; simp only [eM 1 (by decide), eM 2 (by decide), eM 3 (by decide), eM 4 (by decide), eM 5 (by decide), eM 6 (by decide), eM 7 (by decide), eM 8 (by decide), eM 9 (by decide), eM 10 (by decide), eM 11 (by decide), eM 12 (by decide), eM 13 (by decide), eM 14 (by decide), eM 15 (by decide), eM 16 (by decide), eM 17 (by decide), eM 18 (by decide), eM 19 (by decide), eM 20 (by decide), eM 21 (by decide), eM 22 (by decide), eM 23 (by decide), eM 24 (by decide), eM 25 (by decide), eM 26 (by decide), eM 27 (by decide), eM 28 (by decide), eM 29 (by decide), eM 30 (by decide), eM 31 (by decide), eM 32 (by decide), eM 33 (by decide), eM 34 (by decide), eM 35 (by decide), eM 36 (by decide), eM 37 (by decide), eM 38 (by decide), eM 39 (by decide), eM 40 (by decide), eM 41 (by decide), eM 42 (by decide), eM 43 (by decide), eM 44 (by decide), eM 45 (by decide), eM 46 (by decide), eM 47 (by decide), eM 48 (by decide), eM 50 (by decide), eg 0 (by decide), eg 1 (by decide), eg 2 (by decide), eg 3 (by decide), eg 4 (by decide), eg 5 (by decide), eg 6 (by decide), eg 7 (by decide), eg 8 (by decide), eg 10 (by decide), eg 11 (by decide), eg 12 (by decide), eg 15 (by decide), eg 16 (by decide), eg 9 (by decide), eg14 2 (by decide), eg14 3 (by decide), eg14 4 (by decide), eg14 5 (by decide), eg14 6 (by decide), eg14 7 (by decide)]; exact h), (by have h := i9; unfold A_K jb fn el wt at h ⊢; simp only [eM 1 (by decide), eM 2 (by decide), eM 3 (by decide), eM 4 (by decide), eM 5 (by decide), eM 6 (by decide), eM 7 (by decide), eM 8 (by decide), eM 9 (by decide), eM 10 (by decide), eM 11 (by decide), eM 12 (by decide), eM 13 (by decide), eM 14 (by decide), eM 15 (by decide), eM 16 (by decide), eM 17 (by decide), eM 18 (by decide), eM 19 (by decide), eM 20 (by decide), eM 21 (by decide), eM 22 (by decide), eM 23 (by decide), eM 24 (by decide), eM 25 (by decide), eM 26 (by decide), eM 27 (by decide), eM 28 (by decide), eM 29 (by decide), eM 30 (by decide), eM 31 (by decide), eM 32 (by decide), eM 33 (by decide), eM 34 (by decide), eM 35 (by decide), eM 36 (by decide), eM 37 (by decide), eM 38 (by decide), eM 39 (by decide), eM 40 (by decide), eM 41 (by decide), eM 42 (by decide), eM 43 (by decide), eM 44 (by decide), eM 45 (by decide), eM 46 (by decide), eM 47 (by decide), eM 48 (by decide), eM 50 (by decide), eg 0 (by decide), eg 1 (by decide), eg 2 (by decide), eg 3 (by decide), eg 4 (by decide), eg 5 (by decide), eg 6 (by decide), eg 7 (by decide), eg 8 (by decide), eg 10 (by decide), eg 11 (by decide), eg 12 (by decide), eg 15 (by decide), eg 16 (by decide), eg 9 (by decide), eg14 2 (by decide), eg14 3 (by decide), eg14 4 (by decide), eg14 5 (by decide), eg14 6 (by decide), eg14 7 (by decide)]; exact h), (by have h := i10; unfold A_W at h ⊢; simp only [eM 1 (by decide), eM 2 (by decide), eM 3 (by decide), eM 4 (by decide), eM 5 (by decide), eM 6 (by decide), eM 7 (by decide), eM 8 (by decide), eM 9 (by decide), eM 10 (by decide), eM 11 (by decide), eM 12 (by decide), eM 13 (by decide), eM 14 (by decide), eM 15 (by decide), eM 16 (by decide), eM 17 (by decide), eM 18 (by decide), eM 19 (by decide), eM 20 (by decide), eM 21 (by decide), eM 22 (by decide), eM 23 (by decide), eM 24 (by decide), eM 25 (by decide), eM 26 (by decide), eM 27 (by decide), eM 28 (by decide), eM 29 (by decide), eM 30 (by decide), eM 31 (by decide), eM 32 (by decide), eM 33 (by decide), eM 34 (by decide), eM 35 (by decide), eM 36 (by decide), eM 37 (by decide), eM 38 (by decide), eM 39 (by decide), eM 40 (by decide), eM 41 (by decide), eM 42 (by decide), eM 43 (by decide), eM 44 (by decide), eM 45 (by decide), eM 46 (by decide), eM 47 (by decide), eM 48 (by decide), eM 50 (by decide), eg 0 (by decide), eg 1 (by decide), eg 2 (by decide), eg 3 (by decide), eg 4 (by decide), eg 5 (by decide), eg 6 (by decide), eg 7 (by decide), eg 8 (by decide), eg 10 (by decide), eg 11 (by decide), eg 12 (by decide), eg 15 (by decide), eg 16 (by decide), eg 9 (by decide), eg14 2 (by decide), eg14 3 (by decide), eg14 4 (by decide), eg14 5 (by decide), eg14 6 (by decide), eg14 7 (by decide)]; exact h), (by have h := i11; unfold A_Q jq at h ⊢; simp only [eM 1 (by decide), eM 2 (by decide), eM 3 (by decide), eM 4 (by decide), eM 5 (by decide), eM 6 (by decide), eM 7 (by decide), eM 8 (by decide), eM 9 (by decide), eM 10 (by decide), eM 11 (by decide), eM 12 (by decide), eM 13 (by decide), eM 14 (by decide), eM 15 (by decide), eM 16 (by decide), eM 17 (by decide), eM 18 (by decide), eM 19 (by decide), eM 20 (by decide), eM 21 (by decide), eM 22 (by decide), eM 23 (by decide), eM 24 (by decide), eM 25 (by decide), eM 26 (by decide), eM 27 (by decide), eM 28 (by decide), eM 29 (by decide), eM 30 (by decide), eM 31 (by decide), eM 32 (by decide), eM 33 (by decide), eM 34 (by decide), eM 35 (by decide), eM 36 (by decide), eM 37 (by decide), eM 38 (by decide), eM 39 (by decide), eM 40 (by decide), eM 41 (by decide), eM 42 (by decide), eM 43 (by decide), eM 44 (by decide), eM 45 (by decide), eM 46 (by decide), eM 47 (by decide), eM 48 (by decide), eM 50 (by decide), eg 0 (by decide), eg 1 (by decide), eg 2 (by decide), eg 3 (by decide), eg 4 (by decide), eg 5 (by decide), eg 6 (by decide), eg 7 (by decide), eg 8 (by decide), eg 10 (by decide), eg 11 (by decide), eg 12 (by decide), eg 15 (by decide), eg 16 (by decide), eg 9 (by decide), eg14 2 (by decide), eg14 3 (by decide), eg14 4 (by decide), eg14 5 (by decide), eg14 6 (by decide), eg14 7 (by decide)]; exact h), fun q' hq' => ?_⟩
  rw [eg 9 (by decide)] at hq'
  obtain ⟨h1, h2, h3, h4, h5, h6, h7, h8, r', h9, h10, h11⟩ := i12 q' hq'
  unfold gr un41 at h11 ⊢
  simp only [eM 1 (by decide), eM 2 (by decide), eM 3 (by decide), eM 4 (by decide), eM 5 (by decide), eM 6 (by decide), eM 7 (by decide), eM 8 (by decide), eM 9 (by decide), eM 10 (by decide), eM 11 (by decide), eM 12 (by decide), eM 13 (by decide), eM 14 (by decide), eM 15 (by decide), eM 16 (by decide), eM 17 (by decide), eM 18 (by decide), eM 19 (by decide), eM 20 (by decide), eM 21 (by decide), eM 22 (by decide), eM 23 (by decide), eM 24 (by decide), eM 25 (by decide), eM 26 (by decide), eM 27 (by decide), eM 28 (by decide), eM 29 (by decide), eM 30 (by decide), eM 31 (by decide), eM 32 (by decide), eM 33 (by decide), eM 34 (by decide), eM 35 (by decide), eM 36 (by decide), eM 37 (by decide), eM 38 (by decide), eM 39 (by decide), eM 40 (by decide), eM 41 (by decide), eM 42 (by decide), eM 43 (by decide), eM 44 (by decide), eM 45 (by decide), eM 46 (by decide), eM 47 (by decide), eM 48 (by decide), eM 50 (by decide), eg 0 (by decide), eg 1 (by decide), eg 2 (by decide), eg 3 (by decide), eg 4 (by decide), eg 5 (by decide), eg 6 (by decide), eg 7 (by decide), eg 8 (by decide), eg 10 (by decide), eg 11 (by decide), eg 12 (by decide), eg 15 (by decide), eg 16 (by decide), eg 9 (by decide), eg14 2 (by decide), eg14 3 (by decide), eg14 4 (by decide), eg14 5 (by decide), eg14 6 (by decide), eg14 7 (by decide), e141]
  refine ⟨h1, h2, h3, h4, h5, h6, h7, h8, r', h9, h10, ?_⟩
  rcases h11 with ⟨a1, a2, a3, a4, a5, a6⟩ | ⟨a1, a2, a3, a4, a5, a6, a7, a8, a9⟩
  · exact Or.inl ⟨a1, a2, a3, a4, a5, fun h => ⟨(a6 h).1, fun _ => (a6 h).2 (by omega)⟩⟩
  · refine Or.inr ⟨a1, a2, a3, a4, a5, a6, ?_, a8, a9⟩
    rw [if_neg (by omega)] at a7
    rw [m49]
    by_cases e : q' = q
    · subst e
      rw [if_pos rfl, if_pos rfl, a7, nI_1]
    · rw [if_neg e, if_neg (by omega)]; exact a7
theorem P_shut {q : Nat} (hI : Inv e0 d t x g w S M) (hq : q < g 9 50) (hop : g 14 1 = q + 1) (hk : dK S (g 4 q) = 2) (h11 : 0 < g 11 q) (hS : S' = sI S 104 (g 4 q) (dI S 104 (g 4 q) + 1)) (hg : g' = gput (gput g 14 1 0) 11 q (g 11 q - 1)) : Inv e0 d t x g' w S' M ∧ sumN (g' 11) (g' 9 50) + 1 = sumN (g 11) (g 9 50) := by
  obtain ⟨i1, i2, i3, i4, i5, i6, i7, i8, i9, i10, i11, i12⟩ := hI
  have en : dn S' = dn S := by rw [hS]; rfl
  have eK : dK S' = dK S := by rw [hS]; rfl
  have eL : dL S' = dL S := by rw [hS]; rfl
  have eP : dP S' = dP S := by rw [hS]; rfl
  have eY : dY S' = dY S := by rw [hS]; rfl
  have eX : dX S' = dX S := by rw [hS]; rfl
  have eI : ∀ f, f ≠ 104 → dI S' f = dI S f := fun f hf => funext fun y => by rw [hS]; simp [r_KI, r_LI, r_PI, r_XI, r_YI, r_nI, r_II, r_KP, r_LP, r_IP, r_XP, r_YP, r_nP, r_PP, r_KX, r_LX, r_IX, r_PX, r_YX, r_nX, r_XX, r_KY, r_LY, r_IY, r_PY, r_XY, r_nY, r_YY, r_KO, r_LO, r_IO, r_PO, r_XO, r_YO, r_nO, r_KA, r_LA, r_IA, r_PA, r_XA, r_YA, r_nA, r_KB, r_LB, r_IB, r_PB, r_XB, r_YB, r_nB, hf]
  have e104 : ∀ y, dI S' 104 y = if y = g 4 q then dI S 104 (g 4 q) + 1 else dI S 104 y := fun y => by rw [hS]; simp [r_KI, r_LI, r_PI, r_XI, r_YI, r_nI, r_II, r_KP, r_LP, r_IP, r_XP, r_YP, r_nP, r_PP, r_KX, r_LX, r_IX, r_PX, r_YX, r_nX, r_XX, r_KY, r_LY, r_IY, r_PY, r_XY, r_nY, r_YY, r_KO, r_LO, r_IO, r_PO, r_XO, r_YO, r_nO, r_KA, r_LA, r_IA, r_PA, r_XA, r_YA, r_nA, r_KB, r_LB, r_IB, r_PB, r_XB, r_YB, r_nB]
  have eg : ∀ k, (k ≠ 14 ∧ k ≠ 11) → g' k = g k := fun k hk => by rw [hg, r_gf hk.2, r_gf hk.1]
  have eg14 : ∀ i, i ≠ 1 → g' 14 i = g 14 i := fun i hi => by rw [hg]; simp [r_g, hi]
  have e141 : g' 14 1 = 0 := by rw [hg]; simp [r_g]
  have g11 : ∀ y, g' 11 y = if y = q then g 11 q - 1 else g 11 y := fun y => by rw [hg]; simp [r_g]
  have hsum : sumN (g' 11) (g' 9 50) + 1 = sumN (g 11) (g 9 50) := by
    rw [eg 9 (by decide)]
    have := sumN_upd (f := g 11) (h := g' 11) (j := q) (n := g 9 50) hq (fun y _ hy => by rw [g11, if_neg hy])
    rw [g11 q, if_pos rfl] at this
    omega
  refine ⟨⟨(by have h := i1; unfold A_cnt at h ⊢; simp only [en, eK, eL, eP, eY, eX, eI 2 (by decide), eI 102 (by decide), eI 200 (by decide), eI 203 (by decide), eI 301 (by decide), eI 302 (by decide), eI 405 (by decide), eI 406 (by decide), eI 501 (by decide), eI 603 (by decide), eI 604 (by decide), eI 605 (by decide), eI 701 (by decide), eI 800 (by decide), eI 801 (by decide), eI 802 (by decide), eI 903 (by decide), eI 904 (by decide), eI 905 (by decide), eI 906 (by decide), eI 907 (by decide), eI 1000 (by decide), eI 1001 (by decide), eI 1103 (by decide), eI 1105 (by decide), eI 1108 (by decide), eg 0 (by decide), eg 1 (by decide), eg 2 (by decide), eg 3 (by decide), eg 4 (by decide), eg 5 (by decide), eg 6 (by decide), eg 7 (by decide), eg 8 (by decide), eg 10 (by decide), eg 12 (by decide), eg 15 (by decide), eg 16 (by decide), eg 9 (by decide), eg14 2 (by decide), eg14 3 (by decide), eg14 4 (by decide), eg14 5 (by decide), eg14 6 (by decide), eg14 7 (by decide)]; exact h), ?_, (by have h := i3; unfold A_desk AL dFr at h ⊢; simp only [en, eK, eL, eP, eY, eX, eI 2 (by decide), eI 102 (by decide), eI 200 (by decide), eI 203 (by decide), eI 301 (by decide), eI 302 (by decide), eI 405 (by decide), eI 406 (by decide), eI 501 (by decide), eI 603 (by decide), eI 604 (by decide), eI 605 (by decide), eI 701 (by decide), eI 800 (by decide), eI 801 (by decide), eI 802 (by decide), eI 903 (by decide), eI 904 (by decide), eI 905 (by decide), eI 906 (by decide), eI 907 (by decide), eI 1000 (by decide), eI 1001 (by decide), eI 1103 (by decide), eI 1105 (by decide), eI 1108 (by decide), eg 0 (by decide), eg 1 (by decide), eg 2 (by decide), eg 3 (by decide), eg 4 (by decide), eg 5 (by decide), eg 6 (by decide), eg 7 (by decide), eg 8 (by decide), eg 10 (by decide), eg 12 (by decide), eg 15 (by decide), eg 16 (by decide), eg 9 (by decide), eg14 2 (by decide), eg14 3 (by decide), eg14 4 (by decide), eg14 5 (by decide), eg14 6 (by decide), eg14 7 (by decide)]; exact h), (by have h := i4; unfold A_log at h ⊢; simp only [en, eK, eL, eP, eY, eX, eI 2 (by decide), eI 102 (by decide), eI 200 (by decide), eI 203 (by decide), eI 301 (by decide), eI 302 (by decide), eI 405 (by decide), eI 406 (by decide), eI 501 (by decide), eI 603 (by decide), eI 604 (by decide), eI 605 (by decide), eI 701 (by decide), eI 800 (by decide), eI 801 (by decide), eI 802 (by decide), eI 903 (by decide), eI 904 (by decide), eI 905 (by decide), eI 906 (by decide), eI 907 (by decide), eI 1000 (by decide), eI 1001 (by decide), eI 1103 (by decide), eI 1105 (by decide), eI 1108 (by decide), eg 0 (by decide), eg 1 (by decide), eg 2 (by decide), eg 3 (by decide), eg 4 (by decide), eg 5 (by decide), eg 6 (by decide), eg 7 (by decide), eg 8 (by decide), eg 10 (by decide), eg 12 (by decide), eg 15 (by decide), eg 16 (by decide), eg 9 (by decide), eg14 2 (by decide), eg14 3 (by decide), eg14 4 (by decide), eg14 5 (by decide), eg14 6 (by decide), eg14 7 (by decide)]; exact h), (by have h := i5; unfold A_itm at h ⊢; simp only [en, eK, eL, eP, eY, eX, eI 2 (by decide), eI 102 (by decide), eI 200 (by decide), eI 203 (by decide), eI 301 (by decide), eI 302 (by decide), eI 405 (by decide), eI 406 (by decide), eI 501 (by decide), eI 603 (by decide), eI 604 (by decide), eI 605 (by decide), eI 701 (by decide), eI 800 (by decide), eI 801 (by decide), eI 802 (by decide), eI 903 (by decide), eI 904 (by decide), eI 905 (by decide), eI 906 (by decide), eI 907 (by decide), eI 1000 (by decide), eI 1001 (by decide), eI 1103 (by decide), eI 1105 (by decide), eI 1108 (by decide), eg 0 (by decide), eg 1 (by decide), eg 2 (by decide), eg 3 (by decide), eg 4 (by decide), eg 5 (by decide), eg 6 (by decide), eg 7 (by decide), eg 8 (by decide), eg 10 (by decide), eg 12 (by decide), eg 15 (by decide), eg 16 (by decide), eg 9 (by decide), eg14 2 (by decide), eg14 3 (by decide), eg14 4 (by decide), eg14 5 (by decide), eg14 6 (by decide), eg14 7 (by decide)]; exact h), (by have h := i6; unfold A_T tk kp at h ⊢; simp only [en, eK, eL, eP, eY, eX, eI 2 (by decide), eI 102 (by decide), eI 200 (by decide), eI 203 (by decide), eI 301 (by decide), eI 302 (by decide), eI 405 (by decide), eI 406 (by decide), eI 501 (by decide), eI 603 (by decide), eI 604 (by decide), eI 605 (by decide), eI 701 (by decide), eI 800 (by decide), eI 801 (by decide), eI 802 (by decide), eI 903 (by decide), eI 904 (by decide), eI 905 (by decide), eI 906 (by decide), eI 907 (by decide), eI 1000 (by decide), eI 1001 (by decide), eI 1103 (by decide), eI 1105 (by decide), eI 1108 (by decide), eg 0 (by decide), eg 1 (by decide), eg 2 (by decide), eg 3 (by decide), eg 4 (by decide), eg 5 (by decide), eg 6 (by decide), eg 7 (by decide), eg 8 (by decide), eg 10 (by decide), eg 12 (by decide), eg 15 (by decide), eg 16 (by decide), eg 9 (by decide), eg14 2 (by decide), eg14 3 (by decide), eg14 4 (by decide), eg14 5 (by decide), eg14 6 (by decide), eg14 7 (by decide)]; exact h), (by have h := i7; unfold A_R at h ⊢; simp only [en, eK, eL, eP, eY, eX, eI 2 (by decide), eI 102 (by decide), eI 200 (by decide), eI 203 (by decide), eI 301 (by decide), eI 302 (by decide), eI 405 (by decide), eI 406 (by decide), eI 501 (by decide), eI 603 (by decide), eI 604 (by decide), eI 605 (by decide), eI 701 (by decide), eI 800 (by decide), eI 801 (by decide), eI 802 (by decide), eI 903 (by decide), eI 904 (by decide), eI 905 (by decide), eI 906 (by decide), eI 907 (by decide), eI 1000 (by decide), eI 1001 (by decide), eI 1103 (by decide), eI 1105 (by decide), eI 1108 (by decide), eg 0 (by decide), eg 1 (by decide), eg 2 (by decide), eg 3 (by decide), eg 4 (by decide), eg 5 (by decide), eg 6 (by decide), eg 7 (by decide), eg 8 (by decide), eg 10 (by decide), eg 12 (by decide), eg 15 (by decide), eg 16 (by decide), eg 9 (by decide), eg14 2 (by decide), eg14 3 (by decide), eg14 4 (by decide), eg14 5 (by decide), eg14 6 (by decide), eg14 7 (by decide)]; exact h), (by have h := i8; unfold A_H at h ⊢; simp only [en, eK, eL, eP, eY, eX, eI 2 (by decide), eI 102 (by decide), eI 200 (by decide), eI 203 (by decide), eI 301 (by decide), eI 302 (by decide), eI 405 (by decide), eI 406 (by decide), eI 501 (by decide), eI 603 (by decide), eI 604 (by decide), eI 605 (by decide), eI 701 (by decide), eI 800 (by decide), eI 801 (by decide), eI 802 (by decide), eI 903 (by decide), eI 904 (by decide), eI 905 (by decide), eI 906 (by decide), eI 907 (by decide), eI 1000 (by decide), eI 1001 (by decide), eI 1103 (by decide), eI 1105 (by decide), eI 1108 (by decide), eg 0 (by decide), eg 1 (by decide), eg 2 (by decide), eg 3 (by decide), eg 4 (by decide), eg 5 (by decide), eg 6 (by decide), eg 7 (by decide), eg 8 (by decide), eg 10 (by decide), eg 12 (by decide), eg 15 (by decide), eg 16 (by decide), eg 9 (by decide), eg14 2 (by decide), eg14 3 (by decide), eg14 4 (by decide), eg14 5 (by decide), eg14 6 (by decide), eg14 7 (by decide)]; exact h), (by have h := i9; unfold A_K jb fn el wt at h ⊢; simp only [en, eK, eL, eP, eY, eX, eI 2 (by decide), eI 102 (by decide), eI 200 (by decide), eI 203 (by decide), eI 301 (by decide), eI 302 (by decide), eI 405 (by decide), eI 406 (by decide), eI 501 (by decide), eI 603 (by decide), eI 604 (by decide), eI 605 (by decide), eI 701 (by decide), eI 800 (by decide), eI 801 (by decide), eI 802 (by decide), eI 903 (by decide), eI 904 (by decide), eI 905 (by decide), eI 906 (by decide), eI 907 (by decide), eI 1000 (by decide), eI 1001 (by decide), eI 1103 (by decide), eI 1105 (by decide), eI 1108 (by decide), eg 0 (by decide), eg 1 (by decide), eg 2 (by decide), eg 3 (by decide), eg 4 (by decide), eg 5 (by decide), eg 6 (by decide), eg 7 (by decide), eg 8 (by decide), eg 10 (by decide), eg 12 (by decide), eg 15 (by decide), eg 16 (by decide), eg 9 (by decide), eg14 2 (by decide), eg14 3 (by decide), eg14 4 (by decide), eg14 5 (by decide), eg14 6 (by decide), eg14 7 (by decide)]; exact h), (by have h := i10; unfold A_W at h ⊢; simp only [en, eK, eL, eP, eY, eX, eI 2 (by decide), eI 102 (by decide), eI 200 (by decide), eI 203 (by decide), eI 301 (by decide), eI 302 (by decide), eI 405 (by decide), eI 406 (by decide), eI 501 (by decide), eI 603 (by decide), eI 604 (by decide), eI 605 (by decide), eI 701 (by decide), eI 800 (by decide), eI 801 (by decide), eI 802 (by decide), eI 903 (by decide), eI 904 (by decide), eI 905 (by decide), eI 906 (by decide), eI 907 (by decide), eI 1000 (by decide), eI 1001 (by decide), eI 1103 (by decide), eI 1105 (by decide), eI 1108 (by decide), eg 0 (by decide), eg 1 (by decide), eg 2 (by decide), eg 3 (by decide), eg 4 (by decide), eg 5 (by decide), eg 6 (by decide), eg 7 (by decide), eg 8 (by decide), eg 10 (by decide), eg 12 (by decide), eg 15 (by decide), eg 16 (by decide), eg 9 (by decide), eg14 2 (by decide), eg14 3 (by decide), eg14 4 (by decide), eg14 5 (by decide), eg14 6 (by decide), eg14 7 (by decide)]; exact h), (by have h := i11; unfold A_Q jq at h ⊢; simp only [en, eK, eL, eP, eY, eX, eI 2 (by decide), eI 102 (by decide), eI 200 (by decide), eI 203 (by decide), eI 301 (by decide), eI 302 (by decide), eI 405 (by decide), eI 406 (by decide), eI 501 (by decide), eI 603 (by decide), eI 604 (by decide), eI 605 (by decide), eI 701 (by decide), eI 800 (by decide), eI 801 (by decide), eI 802 (by decide), eI 903 (by decide), eI 904 (by decide), eI 905 (by decide), eI 906 (by decide), eI 907 (by decide), eI 1000 (by decide), eI 1001 (by decide), eI 1103 (by decide), eI 1105 (by decide), eI 1108 (by decide), eg 0 (by decide), eg 1 (by decide), eg 2 (by decide), eg 3 (by decide), eg 4 (by decide), eg 5 (by decide), eg 6 (by decide), eg 7 (by decide), eg 8 (by decide), eg 10 (by decide), eg 12 (by decide), eg 15 (by decide), eg 16 (by decide), eg 9 (by decide), eg14 2 (by decide), eg14 3 (by decide), eg14 4 (by decide), eg14 5 (by decide), eg14 6 (by decide), eg14 7 (by decide)]; exact h), fun q' hq' => ?_⟩, hsum⟩
  · rw [eg 9 (by decide)] at hsum
    unfold A_bd at i2 ⊢
    simp only [eg 9 (by decide)]
    omega
  · rw [eg 9 (by decide)] at hq'
    obtain ⟨h1, h2, h3, h4, h5, h6, h7, h8, r', h9, h10, h11'⟩ := i12 q' hq'
    obtain ⟨k1, k2, k3, k4, k5, k6, k7, k8, r, k9, k10, k11⟩ := i12 q hq
    unfold gr at h11' ⊢
    simp only [en, eK, eL, eP, eY, eX, eI 2 (by decide), eI 102 (by decide), eI 200 (by decide), eI 203 (by decide), eI 301 (by decide), eI 302 (by decide), eI 405 (by decide), eI 406 (by decide), eI 501 (by decide), eI 603 (by decide), eI 604 (by decide), eI 605 (by decide), eI 701 (by decide), eI 800 (by decide), eI 801 (by decide), eI 802 (by decide), eI 903 (by decide), eI 904 (by decide), eI 905 (by decide), eI 906 (by decide), eI 907 (by decide), eI 1000 (by decide), eI 1001 (by decide), eI 1103 (by decide), eI 1105 (by decide), eI 1108 (by decide), eg 0 (by decide), eg 1 (by decide), eg 2 (by decide), eg 3 (by decide), eg 4 (by decide), eg 5 (by decide), eg 6 (by decide), eg 7 (by decide), eg 8 (by decide), eg 10 (by decide), eg 12 (by decide), eg 15 (by decide), eg 16 (by decide), eg 9 (by decide), eg14 2 (by decide), eg14 3 (by decide), eg14 4 (by decide), eg14 5 (by decide), eg14 6 (by decide), eg14 7 (by decide), e141]
    refine ⟨h1, h2, h3, h4, h5, h6, h7, h8, r', h9, h10, ?_⟩
    rcases h11' with ⟨a1, a2, a3, a4, a5, a6⟩ | ⟨a1, a2, a3, a4, a5, a6, a7, a8, a9⟩
    · refine Or.inl ⟨a1, a2, a3, a4, a5, fun h => ⟨(a6 h).1, fun _ => (a6 h).2 ?_⟩⟩
      intro e
      have : q' = q := by omega
      rw [this, hk] at a1; cases a1
    · by_cases e : q' = q
      · subst e
        rw [if_pos (by omega)] at a7
        refine Or.inr ⟨a1, a2, a3, a4, a5, ?_, ?_, ?_, a9⟩
        · rw [g11, if_pos rfl]; omega
        · rw [a7, g11, if_pos rfl]
          congr 1
          simp
          omega
        · rw [e104, if_pos rfl, a8, nI_1, g11, if_pos rfl]
          congr 1
          omega
      · have h4q : g 4 q' ≠ g 4 q := by intro h; rw [h, k5] at h5; omega
        rw [if_neg (by omega)] at a7
        refine Or.inr ⟨a1, a2, a3, a4, a5, ?_, ?_, ?_, a9⟩
        · rw [g11, if_neg e]; exact a6
        · rw [g11, if_neg e]; simpa using a7
        · rw [e104, if_neg h4q, g11, if_neg e]; exact a8
/-- an asynchronous function goes on -/
theorem s_adv {q : Nat} (hI : Inv e0 d t 0 g w S M) (hq : q < g 9 50) (hk : dK S (g 4 q) = 2) (hop : g 14 1 = 0) (hO : g 9 1 + 2 ≤ 3000) (hn : 4000 < n) : RD (q_X11_advance e0 n S d (some (g 4 q))) (fun _ S' C Z => RV (q_goOn n M (nI q)) (fun M' => ∃ g' w', Inv e0 d t 0 g' w' S' M' ∧ WF g S M g' S' M' ∧ Cs 0 g S g' S' C Z ∧ dI S' 1109 d = dI S 1109 d ∧ M' 51 = M 51 ∧ g' 9 1 ≤ g 9 1 + 2 ∧ g' 9 36 = g 9 36 ∧ g' 14 1 = 0 ∧ ∀ r, r < g 9 15 → M' 13 r = M 13 r ∧ g' 1 r = g 1 r)) := by
  have hN := Inv_nums hI
  have hd := hI.2.2.1.2.1
  have hiq : inb (nI q) 3000 := inb_nI (by omega) (by omega)
  have cq : (nI q).toNatClampNeg = q := nI_clamp (by omega)
  obtain ⟨k1, k2, k3, k4, k5, k6, k7, k8, r, k9, k10, k11⟩ := hI.2.2.2.2.2.2.2.2.2.2.2 q hq
  have k11' : dP S 100 (g 4 q) = some (g 5 q) ∧ dP S 103 (g 4 q) = some (g 1 r) ∧ dI S 102 (g 4 q) = M 47 q ∧ g 11 q ≤ g 16 q ∧ M 49 q = nI (g 16 q - g 11 q) ∧ dI S 104 (g 4 q) = nI (g 16 q - g 11 q) ∧ ∀ i, i < g 16 q → dX S (g 5 q) i = M 39 (g 15 q + i) := by
    rcases k11 with ⟨a1, -⟩ | ⟨a1, a2, a3, a4, a5, a6, a7, a8, a9⟩
    · rw [hk] at a1; cases a1
    · rw [if_neg (by omega)] at a7
      exact ⟨a2, a3, a4, a6, a7, a8, a9⟩
  obtain ⟨a2, a3, a4, a6, a7, a8, a9⟩ := k11'
  unfold q_X11_advance q_goOn
  rw [cq, a7, k2, k1, nI_add, nI_clamp (by omega)]
  refine w_bnd rfl <| w_chk hk <| w_bnd a2 <| w_chk (Or.inl k6) ?_
  rw [a8, k7]
  by_cases h0 : g 11 q = 0
  · obtain ⟨r3, S3, C3, Z3, eD3, M3, eM3, g3, w3, hI3, c3, cs3, y1, y2, y3⟩ := s_resolve (n := n) (v := M 47 q) hI k9 (by omega) hn
    refine w_in (nI_nlt (by omega) (by omega)) <| w_chk hd ?_
    rw [a3, a4]
    refine w_bk eD3 <| w_some ?_
    refine v_chk hiq <| v_chk hiq <| v_ip (by rw [h0]; rfl) <| v_chk hiq <| v_chk hiq ?_
    rw [k10, eM3, bnd_s]
    exact v_some ⟨g3, w3, hI3, WF_cf c3, Cs_le cs3 (by omega) (by omega), cf_1109 c3 hd, cf_51 c3, by omega, cf_36 c3, by rw [cf_14 c3 (by decide)]; exact hop, fun r' hr' => ⟨c3.2.2.1.2.2.1 r' hr', cf_1 c3 hr'⟩⟩
  · refine w_ip (nI_lt (by omega) (by omega)) <| w_chk k6 <| w_chk (inb_nI (by omega) (by omega)) <| w_chk hd ?_
    rw [nI_clamp (by omega), a9 _ (by omega)]
    have hI1 := P_open hI hop rfl rfl hk
    rw [a7, nI_1] at hI1
    generalize hM1 : mput M 49 q (nI (g 16 q - g 11 q + 1)) = M1 at *
    generalize hg1 : gput g 14 1 (q + 1) = g1 at *
    have e1 : ∀ k, k ≠ 14 → g1 k = g k := fun k h => by rw [← hg1, r_gf h]
    have e14 : ∀ i, i ≠ 1 → g1 14 i = g 14 i := fun i h => by rw [← hg1]; simp [r_g, h]
    have e141 : g1 14 1 = q + 1 := by rw [← hg1]; simp [r_g]
    have f1 : WF g S M g1 S M1 := WF_mk (fun a _ => ⟨rfl, fun _ f _ _ _ _ _ => ⟨rfl, rfl⟩⟩) (fun i _ _ _ => by rw [e1 9 (by omega)]) (by rw [e1 9 (by omega)]; omega) (fun k hk => e1 k (by omega)) (fun k h1 h2 h3 => by rw [← hM1, r_mf (by omega)])
    obtain ⟨r2, S2, C2, Z2, eD2, r2', M2, eM2, g2, w2, p, rfl, rfl, hp, hp2, hI2, c2, cs2, p1, p2⟩ := s_pfor (n := n) (v := M 39 (g 15 q + (g 16 q - g 11 q))) hI1 (by rw [e1 9 (by omega)]; omega) hn
    have hk0 : dK S (g 4 q) ≠ 0 := by rw [hk]; decide
    have e24 : g2 4 = g 4 := by rw [cf_4 c2, e1 4 (by omega)]
    have hk2 : dK S2 (g2 4 q) = 2 := by rw [e24, cf_K c2 hk0]; exact hk
    have hGE := c2.2.1
    unfold GE at hGE
    have y11 : g2 11 = g1 11 := by clear hI1 hI2 c2 cs2 f1; grind
    have y50 : g2 9 50 = g1 9 50 := by clear hI1 hI2 c2 cs2 f1; grind
    rw [e1 11 (by omega)] at y11
    rw [e1 9 (by omega)] at y50
    obtain ⟨hI3, hsum⟩ := P_shut (q := q) hI2 (by rw [y50]; exact hq) (by rw [cf_14 c2 (by decide)]; exact e141) hk2 (by rw [y11]; omega) rfl rfl
    have e3K : dK (sI S2 104 (g2 4 q) (dI S2 104 (g2 4 q) + 1)) = dK S2 := rfl
    have e3L : dL (sI S2 104 (g2 4 q) (dI S2 104 (g2 4 q) + 1)) = dL S2 := rfl
    have e31109 : dI (sI S2 104 (g2 4 q) (dI S2 104 (g2 4 q) + 1)) 1109 d = dI S2 1109 d := by simp [r_KI, r_LI, r_PI, r_XI, r_YI, r_nI, r_II, r_KP, r_LP, r_IP, r_XP, r_YP, r_nP, r_PP, r_KX, r_LX, r_IX, r_PX, r_YX, r_nX, r_XX, r_KY, r_LY, r_IY, r_PY, r_XY, r_nY, r_YY, r_KO, r_LO, r_IO, r_PO, r_XO, r_YO, r_nO, r_KA, r_LA, r_IA, r_PA, r_XA, r_YA, r_nA, r_KB, r_LB, r_IB, r_PB, r_XB, r_YB, r_nB]
    have f3 : ∀ g3, (∀ k, k ≠ 14 → k ≠ 11 → g3 k = g2 k) → WF g2 S2 M2 g3 (sI S2 104 (g2 4 q) (dI S2 104 (g2 4 q) + 1)) M2 := fun g3 h => WF_mk (fun a _ => ⟨rfl, fun _ f _ hf _ _ _ => ⟨by rw [r_II, if_neg (fun h => hf h.1)], rfl⟩⟩) (fun i _ _ _ => by rw [h 9 (by omega) (by omega)]) (by rw [h 9 (by omega) (by omega)]; omega) (fun k hk => h k (by omega) (by omega)) (fun k _ _ _ => rfl)
    refine w_bk eD2 <| w_chk (by rw [← e24]; exact hk2) <| w_lt ?_
    rw [← e24]
    generalize sI S2 104 (g2 4 q) (dI S2 104 (g2 4 q) + 1) = S3 at *
    generalize hg3 : gput (gput g2 14 1 0) 11 q (g2 11 q - 1) = g3 at *
    have z3 : ∀ k, k ≠ 14 → k ≠ 11 → g3 k = g2 k := fun k h1 h2 => by rw [← hg3, r_gf h2, r_gf h1]
    have z14 : ∀ i, i ≠ 1 → g3 14 i = g2 14 i := fun i h => by rw [← hg3]; simp [r_g, h]
    have z141 : g3 14 1 = 0 := by rw [← hg3]; simp [r_g]
    have hfr := hI3.2.2.1.1
    have hkn := K_dn hfr
    have hS : Same S3 (sP (sP (sP (sP (sP (sO S3 5) 400 (dn S3) none) 401 (dn S3) none) 402 (dn S3) none) 403 (dn S3) (some (g2 4 q))) 404 (dn S3) none) :=
      Same_sP (Same_sP (Same_sP (Same_sP (Same_sP (Same_sO hfr (by decide)) hkn) hkn) hkn) hkn) hkn
    obtain ⟨hI4, c4⟩ := Inv_same hI3 hS
    have hk3 : dK S3 (g2 4 q) = 2 := by rw [e3K]; exact hk2
    unfold q_X4_resumption q_X4_init
    refine w_bndc <| w_tick <| w_lt <| w_lt <| w_bndc <| w_chk (by simp [r_KI, r_LI, r_PI, r_XI, r_YI, r_nI, r_II, r_KP, r_LP, r_IP, r_XP, r_YP, r_nP, r_PP, r_KX, r_LX, r_IX, r_PX, r_YX, r_nX, r_XX, r_KY, r_LY, r_IY, r_PY, r_XY, r_nY, r_YY, r_KO, r_LO, r_IO, r_PO, r_XO, r_YO, r_nO, r_KA, r_LA, r_IA, r_PA, r_XA, r_YA, r_nA, r_KB, r_LB, r_IB, r_PB, r_XB, r_YB, r_nB]) <| w_lt <| w_lt <| w_lt <| w_lt <| w_lt <| w_some <| w_some <| w_chk hI4.2.2.1.2.1 ?_
    have bd2 := hI2.2.1
    unfold A_bd at bd2
    obtain ⟨r5, S5, C5, Z5, eD5, rfl, rfl, M5, eM5, g5, w5, hI5, c5, q1, q2, q3, q4⟩ := s_attach (n := n) (p := p) (a := dn S3) (k1 := 12) (f1 := nI q) (k2 := 13) (f2 := nI q) (cr := -1) hI3 hS hkn (by simp [r_KI, r_LI, r_PI, r_XI, r_YI, r_nI, r_II, r_KP, r_LP, r_IP, r_XP, r_YP, r_nP, r_PP, r_KX, r_LX, r_IX, r_PX, r_YX, r_nX, r_XX, r_KY, r_LY, r_IY, r_PY, r_XY, r_nY, r_YY, r_KO, r_LO, r_IO, r_PO, r_XO, r_YO, r_nO, r_KA, r_LA, r_IA, r_PA, r_XA, r_YA, r_nA, r_KB, r_LB, r_IB, r_PB, r_XB, r_YB, r_nB]) (by simp [r_KI, r_LI, r_PI, r_XI, r_YI, r_nI, r_II, r_KP, r_LP, r_IP, r_XP, r_YP, r_nP, r_PP, r_KX, r_LX, r_IX, r_PX, r_YX, r_nX, r_XX, r_KY, r_LY, r_IY, r_PY, r_XY, r_nY, r_YY, r_KO, r_LO, r_IO, r_PO, r_XO, r_YO, r_nO, r_KA, r_LA, r_IA, r_PA, r_XA, r_YA, r_nA, r_KB, r_LB, r_IB, r_PB, r_XB, r_YB, r_nB]) (by rw [z3 9 (by omega) (by omega)]; exact hp) hp2 (by rw [z3 9 (by omega) (by omega)] at hsum ⊢; omega) (Or.inl ⟨rfl, by simp [r_KI, r_LI, r_PI, r_XI, r_YI, r_nI, r_II, r_KP, r_LP, r_IP, r_XP, r_YP, r_nP, r_PP, r_KX, r_LX, r_IX, r_PX, r_YX, r_nX, r_XX, r_KY, r_LY, r_IY, r_PY, r_XY, r_nY, r_YY, r_KO, r_LO, r_IO, r_PO, r_XO, r_YO, r_nO, r_KA, r_LA, r_IA, r_PA, r_XA, r_YA, r_nA, r_KB, r_LB, r_IB, r_PB, r_XB, r_YB, r_nB], by simp [r_KI, r_LI, r_PI, r_XI, r_YI, r_nI, r_II, r_KP, r_LP, r_IP, r_XP, r_YP, r_nP, r_PP, r_KX, r_LX, r_IX, r_PX, r_YX, r_nX, r_XX, r_KY, r_LY, r_IY, r_PY, r_XY, r_nY, r_YY, r_KO, r_LO, r_IO, r_PO, r_XO, r_YO, r_nO, r_KA, r_LA, r_IA, r_PA, r_XA, r_YA, r_nA, r_KB, r_LB, r_IB, r_PB, r_XB, r_YB, r_nB], rfl, rfl, q, by rw [z3 9 (by omega) (by omega), y50]; exact hq, rfl, rfl, by rw [z3 4 (by omega) (by omega), cf_K c4 (by rw [hk3]; decide)]; exact hk3, by rw [z3 4 (by omega) (by omega)]; simp [r_KI, r_LI, r_PI, r_XI, r_YI, r_nI, r_II, r_KP, r_LP, r_IP, r_XP, r_YP, r_nP, r_PP, r_KX, r_LX, r_IX, r_PX, r_YX, r_nX, r_XX, r_KY, r_LY, r_IY, r_PY, r_XY, r_nY, r_YY, r_KO, r_LO, r_IO, r_PO, r_XO, r_YO, r_nO, r_KA, r_LA, r_IA, r_PA, r_XA, r_YA, r_nA, r_KB, r_LB, r_IB, r_PB, r_XB, r_YB, r_nB]⟩) ⟨wt_no (by decide), wt_no (by decide)⟩ hn
    rw [z3 0 (by omega) (by omega)] at eD5
    refine w_bk eD5 <| w_some ?_
    refine v_chk hiq <| v_chk hiq <| v_in (fun h => ?_) <| v_chk hiq <| v_chk hiq <| v_chk (inb_nI (by omega) (by omega)) <| v_chk hiq <| v_chk hiq <| v_lt ?_
    · have := nI_inj (by omega) (by omega) h; omega
    · rw [nI_1, hM1, eM2, bnd2_s, eM5, bnd_s]
      have hfin : WF g S M g5 S5 M5 := WF_trans f1 (WF_trans (WF_cf c2) (WF_trans (f3 g3 z3) (WF_cf c5)))
      have z9 := z3 9 (by omega) (by omega)
      have e9 := e1 9 (by omega)
      refine v_some ⟨g5, w5, hI5, hfin, ?_, ?_, ?_, ?_, ?_, ?_, fun r' hr' => ?_⟩
      · have csA : Cs 0 g S g1 S 0 0 := by
          unfold Cs pc pz
          rw [e9, e14 4 (by omega), e14 5 (by omega), e14 7 (by omega)]
          omega
        have csB : Cs 0 g2 S2 g3 S3 0 0 := by
          unfold Cs pc pz
          rw [z9, z14 4 (by omega), z14 5 (by omega), z14 7 (by omega), e3L]
          omega
        have hl : dL S5 (g5 14 4) = dL S3 (g3 14 4) := by rw [q4, (c5.1.2 _ (ed_L hI3)).2.1]
        have h30 := c5.2.1.2.2.2.1
        have csC : Cs 9 g3 S3 g5 S5 1 8 := Cs_mk hI3 c5 (by rw [hl]; omega) (by omega)
        exact Cs_le (Cs_trans csA (Cs_trans cs2 (Cs_trans csB csC))) (by omega) (by omega)
      · rw [cf_1109 c5 hI3.2.2.1.2.1, e31109, cf_1109 c2 hd]
      · rw [cf_51 c5, cf_51 c2, ← hM1, r_mf (by omega)]
      · rw [q1, z9]; rw [e9] at p1; exact p1
      · rw [cf_36 c5, z9, cf_36 c2, e9]
      · rw [cf_14 c5 (by decide)]; exact z141
      · have h1 : r' < g1 9 15 := by rw [e9]; exact hr'
        have h2 : r' < g2 9 15 := Nat.lt_of_lt_of_le h1 c2.2.1.2.1
        have h3 : r' < g3 9 15 := by rw [z9]; exact h2
        refine ⟨?_, ?_⟩
        · rw [c5.2.2.1.2.2.1 r' h3, c2.2.2.1.2.2.1 r' h1, ← hM1, r_mf (by omega)]
        · rw [cf_1 c5 h3, z3 1 (by omega) (by omega), cf_1 c2 h1, e1 1 (by omega)]
end ADV
