section GR2
variable {e0 d t x n c z : Nat} {g g' : GH} {w w' : Nat → List Nat} {S S' S1 S2 S0 : DS} {M M' M1 : MS}
def grM (M : MS) (q V N : Nat) : MS := grpL q V N 0 (mput (mput (mput M 50 0 (nI (q + 1))) 43 q (nI V)) 44 q (nI N))
theorem group_run {q V N : Nat} (h50 : M 50 0 = nI q) (h42 : M 42 0 = nI V) (h38 : M 38 0 = nI N) (hq : q < 3000) (hV : V + N < 20000) (hN : N ≤ 200) (hn : N < n) : q_group n M = some (nI q, grM M q V N) := by
  have hiq : inb (nI q) 3000 := inb_nI hq (by omega)
  have cq : (nI q).toNatClampNeg = q := nI_clamp (by omega)
  have e1 : mput M 50 0 (nI (q + 1)) 42 0 = nI V := by rw [r_m, if_neg (by omega)]; exact h42
  have e2 : mput (mput M 50 0 (nI (q + 1))) 43 q (nI V) 38 0 = nI N := by rw [r_m, if_neg (by omega), r_m, if_neg (by omega)]; exact h38
  unfold q_group
  rw [h50, nI_1, lt9_s, chk_i hiq, cq, e1, lt9_s, chk_i hiq, e2, lt9_s, ← nI_0]
  exact grp_loop hV hN N n 0 _ (by omega) hn (by rw [r_m, if_neg (by omega), r_m, if_neg (by omega)]; exact e1) (by rw [r_m, if_neg (by omega)]; exact e2)
section
variable {q V N : Nat}
theorem grM_39 {i : Nat} (hi : i < N) : grM M q V N 39 (V + i) = M 37 i := by
  unfold grM grpL
  rw [if_pos (by omega), r_m, if_neg (by omega), r_m, if_neg (by omega), r_m, if_neg (by omega)]
  congr 1
  omega
theorem grM_40 {i : Nat} (hi : i < N) : grM M q V N 40 (V + i) = nI q := by
  unfold grM grpL
  rw [if_neg (by omega), if_pos (by omega)]
theorem grM_41 {i : Nat} (hi : i < N) : grM M q V N 41 (V + i) = 0 := by
  unfold grM grpL
  rw [if_neg (by omega), if_neg (by omega), if_pos (by omega)]
theorem grM_42 : grM M q V N 42 0 = nI (V + N) := by
  unfold grM grpL
  rw [if_neg (by omega), if_neg (by omega), if_neg (by omega), if_pos ⟨rfl, rfl⟩]
theorem grM_38 : grM M q V N 38 0 = 0 := by
  unfold grM grpL
  rw [if_neg (by omega), if_neg (by omega), if_neg (by omega), if_neg (by omega), if_pos ⟨rfl, rfl⟩]
theorem grM_n {k i : Nat} (h1 : ¬ (k = 42 ∧ i = 0)) (h2 : ¬ (k = 38 ∧ i = 0)) (h3 : ¬ (39 ≤ k ∧ k ≤ 41 ∧ V ≤ i ∧ i < V + N)) : grM M q V N k i = mput (mput (mput M 50 0 (nI (q + 1))) 43 q (nI V)) 44 q (nI N) k i := by
  unfold grM grpL
  rw [if_neg (by omega), if_neg (by omega), if_neg (by omega), if_neg h1, if_neg h2]
theorem grM_50 : grM M q V N 50 0 = nI (q + 1) := by
  rw [grM_n (by omega) (by omega) (by omega)]; simp [r_m]
theorem grM_43 : grM M q V N 43 q = nI V := by
  rw [grM_n (by omega) (by omega) (by omega)]; simp [r_m]
theorem grM_44 : grM M q V N 44 q = nI N := by
  rw [grM_n (by omega) (by omega) (by omega)]; simp [r_m]
theorem grM_o {k i : Nat} (h0 : ¬ (k = 50 ∧ i = 0)) (h1 : ¬ (k = 42 ∧ i = 0)) (h2 : ¬ (k = 38 ∧ i = 0)) (h4 : ¬ (43 ≤ k ∧ k ≤ 49 ∧ i = q)) (h3 : ¬ (39 ≤ k ∧ k ≤ 41 ∧ V ≤ i ∧ i < V + N)) : grM M q V N k i = M k i := by
  rw [grM_n h1 h2 h3, r_m, if_neg (by omega), r_m, if_neg (by omega), r_m, if_neg (by omega)]
end
theorem two_free (hfr : dFr S) : dK S (dn S) = 0 ∧ dK S (dn S + 1) = 0 := by
  refine ⟨K_dn hfr, ?_⟩
  by_cases e : dK S (dn S + 1) = 0
  · exact e
  · have := hfr _ e; omega
theorem st_async : St_async (Rel e0 d) d e0 := by
  intro t S M c z p1 p2 hfr ht hR
  obtain ⟨g, w, hE⟩ := ent_of hfr ht hR
  have hI1 := E1 hE
  have hN := Inv_nums hI1
  have hd := hI1.2.2.1.2.1
  have bd := hE.2.1.2.1
  unfold A_bd at bd
  refine step_of ?_
  unfold q_X11_async
  have hth : RM (some ((0 : Int32), mput (mput M 0 0 0) 0 0 1)) (fun r' M' => ok2 ((1, 0) : Nat × Int32).1 ∧ M' 0 0 = cd2 ((1, 0) : Nat × Int32).1 ∧ (((1, 0) : Nat × Int32).1 = 0 → ((1, 0) : Nat × Int32).2 = r') ∧ Rel e0 d (t + 1) S.2 M' (c + 1) (z + 6)) := m_some (th_ok hE (by decide) (Or.inr (Or.inl rfl)) rfl (by omega) (by omega))
  rcases val_run p1 hI1 with ⟨vD, vM⟩ | ⟨vD, vM⟩
  · refine w_chk hd <| w_bx vD <| w_chk hd ?_
    rcases rh2 p2 hI1 with ⟨y, kk, aD, ek, af, an, aM⟩ | ⟨hv, aD, aM⟩
    · have h32 : ∀ Q, RM (q_async_32 FU (mput M 0 0 0) p1 p2) Q → RM (q_async FU M p1 p2) Q := by
        intro Q hQ
        unfold q_async
        refine m_lt <| m_b2 vM <| m_in i32_10 ?_
        by_cases h : p2 = -1
        · exact m_ip h hQ
        · exact m_in h <| m_b2 (aM h).1 <| m_in i32_10 hQ
      refine w_bx aD <| w_chk hd ?_
      rcases room_run 8 hI1 with ⟨rD, rM, h8⟩ | ⟨rD, rM⟩
      · have h8 := room_8 hN.2.1 h8
        obtain ⟨r1, S1, C1, Z1, eD1, r1', M1, eM1, rfl, g1, rfl, hI2, c1, cs1, o1, o2, o3, m13, m14, m2, m3, m6⟩ := s_cap hI1 (by omega)
        have hd1 := hI2.2.2.1.2.1
        have hfr1 := hI2.2.2.1.1
        obtain ⟨hk0, hk1⟩ := two_free hfr1
        have hGE := c1.2.1
        unfold GE at hGE
        have g50 : g1 9 50 = g 9 50 := cf_50 c1
        have g42 : g1 9 42 = g 9 42 := by clear hI2 c1 cs1; grind
        have g38 : g1 9 38 = g 9 38 := by clear hI2 c1 cs1; grind
        have g11 : g1 11 = g 11 := by clear hI2 c1 cs1; grind
        have g33 : g1 9 33 = g 9 33 := by clear hI2 c1 cs1; grind
        have g2e : g1 2 = g 2 := by clear hI2 c1 cs1; grind
        have g141 : g1 14 1 = 0 := by rw [cf_14 c1 (by decide)]; exact hE.2.2.2.1
        have g146 : g1 14 6 = g 14 6 := cf_14 c1 (by decide)
        obtain ⟨hIa, ca⟩ := Inv_gf (a := dn S1) (v := g 9 50) (k := 12) hI2 hk0 (Or.inr rfl)
        obtain ⟨hIb, cb⟩ := Inv_gf (a := dn S1 + 1) (v := g 9 50 + 10) (k := 12) hIa hk1 (Or.inr rfl)
        have hS14 : Same S1 (sO S1 2) := Same_sO hfr1 (by decide)
        obtain ⟨hI14, c14⟩ := Inv_same hI2 hS14
        obtain ⟨t1, t2, t3, t4, t5, t6⟩ := hI14.2.2.2.2.1
        rw [g38] at t5 t6
        have hfr14 := hS14.2.1
        obtain ⟨rc, S16, C16, Z16, eD16, rfl, rfl, rfl, n16, hS16, kq, lq, xq⟩ := copy_run (e0 := e0) (m := g 9 38) hfr14 t2 t4 (by omega) (by omega)
        have en14 : dn (sO S1 2) = dn S1 + 1 := rfl
        rw [en14] at eD16 kq lq xq n16
        obtain ⟨Sf, hSf0⟩ : ∃ X, X = sP (sI (sP (sP S16 100 (dn S1) (some (dn S1 + 1))) 101 (dn S1) y) 102 (dn S1) p1) 103 (dn S1) (some (g1 1 (g 9 15))) := ⟨_, rfl⟩
        have hSf : Same S1 Sf := by
          rw [hSf0]
          exact Same_sP (Same_sI (Same_sP (Same_sP (Same_trans hS14 hS16) hk0) hk0) hk0) hk0
        obtain ⟨hIf, cf⟩ := Inv_same hIb hSf
        have hq16 : dK S16 (dn S1) = 2 := by rw [(hS16.2.2 (dn S1) (by simp [r_KI, r_LI, r_PI, r_XI, r_YI, r_nI, r_II, r_KP, r_LP, r_IP, r_XP, r_YP, r_nP, r_PP, r_KX, r_LX, r_IX, r_PX, r_YX, r_nX, r_XX, r_KY, r_LY, r_IY, r_PY, r_XY, r_nY, r_YY, r_KO, r_LO, r_IO, r_PO, r_XO, r_YO, r_nO, r_KA, r_LA, r_IA, r_PA, r_XA, r_YA, r_nA, r_KB, r_LB, r_IB, r_PB, r_XB, r_YB, r_nB])).1]; simp [r_KI, r_LI, r_PI, r_XI, r_YI, r_nI, r_II, r_KP, r_LP, r_IP, r_XP, r_YP, r_nP, r_PP, r_KX, r_LX, r_IX, r_PX, r_YX, r_nX, r_XX, r_KY, r_LY, r_IY, r_PY, r_XY, r_nY, r_YY, r_KO, r_LO, r_IO, r_PO, r_XO, r_YO, r_nO, r_KA, r_LA, r_IA, r_PA, r_XA, r_YA, r_nA, r_KB, r_LB, r_IB, r_PB, r_XB, r_YB, r_nB]
        have hd16 : dK S16 d = 12 := by rw [(hS16.2.2 d (by rw [hI14.2.2.1.2.1]; decide)).1]; exact hI14.2.2.1.2.1
        have hdq : d ≠ dn S1 := by rintro rfl; rw [hk0] at hd1; cases hd1
        obtain ⟨S19, hS19⟩ : ∃ X, X = sP (sI (sP (sP (sI S16 1103 d 0) 100 (dn S1) (some (dn S1 + 1))) 101 (dn S1) y) 102 (dn S1) p1) 103 (dn S1) (some (g1 1 (g 9 15))) := ⟨_, rfl⟩
        have hT := P_take (S' := S19) hIf (by rw [hS19, hSf0]; simp only [r_nP, r_nI]) (by rw [hS19, hSf0]; simp only [r_KP, r_KI]) (by rw [hS19, hSf0]; simp only [r_LP, r_LI]) (by rw [hS19, hSf0]; simp only [r_XP, r_XI]) (by rw [hS19, hSf0]; simp only [r_YP, r_YI]) (by rw [hS19, hSf0]; funext f yy; simp only [r_PP, r_PI]) (fun f hf => funext fun yy => by rw [hS19, hSf0]; simp [r_IP, r_II, hf]) (by rw [hS19]; simp [r_IP, r_II])
        unfold q_X11_takeList q_X0_init
        refine w_bx rD <| w_chk hd <| w_bk eD1 <| w_tick <| w_lt <| w_lt <| w_chk hI14.2.2.1.2.1 <| w_bndc <| w_chk hI14.2.2.1.2.1 ?_
        rw [t1, t5]
        refine w_bk eD16 <| w_chk hd16 <| w_lt <| w_some <| w_bndc <| w_chk hq16 <| w_lt <| w_lt <| w_lt <| w_lt <| w_some ?_
        rw [← hS19]
        -- facts of the new cells
        have w1 : dK S19 (dn S1) = 2 := by rw [hS19]; simp only [r_KP, r_KI]; exact hq16
        have w2 : dP S19 100 (dn S1) = some (dn S1 + 1) := by rw [hS19]; simp [r_PP, r_PI]
        have w3 : dP S19 103 (dn S1) = some (g1 1 (g 9 15)) := by rw [hS19]; simp [r_PP, r_PI]
        have w4 : dI S19 102 (dn S1) = p1 := by rw [hS19]; simp [r_IP, r_II]
        have w5 : dP S19 101 (dn S1) = y := by rw [hS19]; simp [r_PP, r_PI]
        have w6 : dI S19 104 (dn S1) = 0 := by
          have h104 : dI S16 104 (dn S1) = 0 := by rw [((hS16.2.2 (dn S1) (by simp [r_KI, r_LI, r_PI, r_XI, r_YI, r_nI, r_II, r_KP, r_LP, r_IP, r_XP, r_YP, r_nP, r_PP, r_KX, r_LX, r_IX, r_PX, r_YX, r_nX, r_XX, r_KY, r_LY, r_IY, r_PY, r_XY, r_nY, r_YY, r_KO, r_LO, r_IO, r_PO, r_XO, r_YO, r_nO, r_KA, r_LA, r_IA, r_PA, r_XA, r_YA, r_nA, r_KB, r_LB, r_IB, r_PB, r_XB, r_YB, r_nB])).2.2.2.2 104).1]; simp [r_KI, r_LI, r_PI, r_XI, r_YI, r_nI, r_II, r_KP, r_LP, r_IP, r_XP, r_YP, r_nP, r_PP, r_KX, r_LX, r_IX, r_PX, r_YX, r_nX, r_XX, r_KY, r_LY, r_IY, r_PY, r_XY, r_nY, r_YY, r_KO, r_LO, r_IO, r_PO, r_XO, r_YO, r_nO, r_KA, r_LA, r_IA, r_PA, r_XA, r_YA, r_nA, r_KB, r_LB, r_IB, r_PB, r_XB, r_YB, r_nB]
          rw [hS19]; simp [r_IP, r_II, h104]
        have w7 : dK S19 (dn S1 + 1) = 20 := by rw [hS19]; simp only [r_KP, r_KI]; exact kq
        have w8 : dL S19 (dn S1 + 1) = g 9 38 := by rw [hS19]; simp only [r_LP, r_LI]; exact lq
        have w9 : ∀ i, i < g 9 38 → dX S19 (dn S1 + 1) i = M1 37 i := fun i hi => by
          rw [hS19]; simp only [r_XP, r_XI]; exact (xq i hi (by omega)).trans (t6 i hi).1
        have wL : dL S19 = dL S16 := by rw [hS19]; simp only [r_LP, r_LI]
        clear hS19 hSf0
        generalize hgt : gput (gput (gput g1 12 (dn S1) (g 9 50)) 12 (dn S1 + 1) (g 9 50 + 10)) 9 38 0 = gt at *
        have u9 : ∀ i, i ≠ 38 → gt 9 i = g1 9 i := fun i hi => by rw [← hgt]; simp [r_g, hi]
        have u38 : gt 9 38 = 0 := by rw [← hgt]; simp [r_g]
        have uk : ∀ k, k ≠ 9 → k ≠ 12 → gt k = g1 k := fun k h1 h2 => by rw [← hgt, r_gf h1, r_gf h2, r_gf h2]
        have ub : gt 12 (dn S1 + 1) = g 9 50 + 10 := by rw [← hgt]; simp [r_g]
        have uq : gt 12 (dn S1) = g 9 50 := by rw [← hgt]; simp [r_g]
        have u50 : gt 9 50 = g 9 50 := (u9 50 (by decide)).trans g50
        have u42 : gt 9 42 = g 9 42 := (u9 42 (by decide)).trans g42
        have c50 : M1 50 0 = nI (g 9 50) := by rw [← g50]; exact hI2.1.2.2.2.2.2.2.2.2.2
        have c42 : M1 42 0 = nI (g 9 42) := by rw [← g42]; exact hI2.1.2.2.2.2.2.2.2.2.1
        have c38 : M1 38 0 = nI (g 9 38) := by rw [← g38]; exact hI2.1.2.2.2.2.2.2.2.1
        have hgrp := group_run (n := FU) c50 c42 c38 (by omega) (by omega) (by omega) (by unfold FU; omega)
        obtain ⟨M', hM'⟩ : ∃ X, X = mput (mput (mput (mput (grM M1 (g 9 50) (g 9 42) (g 9 38)) 46 (g 9 50) (nI (g 9 15))) 49 (g 9 50) 0) 47 (g 9 50) p1) 48 (g 9 50) p2 := ⟨_, rfl⟩
        have mo : ∀ k i, ¬ (46 ≤ k ∧ k ≤ 49 ∧ i = g 9 50) → M' k i = grM M1 (g 9 50) (g 9 42) (g 9 38) k i := by
          intro k i h
          rw [hM', r_m, if_neg (by omega), r_m, if_neg (by omega), r_m, if_neg (by omega), r_m, if_neg (by omega)]
        have a46 : M' 46 (g 9 50) = nI (g 9 15) := by rw [hM']; simp [r_m]
        have a47 : M' 47 (g 9 50) = p1 := by rw [hM']; simp [r_m]
        have a48 : M' 48 (g 9 50) = p2 := by rw [hM']; simp [r_m]
        have a49 : M' 49 (g 9 50) = 0 := by rw [hM']; simp [r_m]
        have hG := P_grp (qc := dn S1) (b := dn S1 + 1) (N := g 9 38) (r := g 9 15) (la := g 9 38) (mk := 0) (M' := M') hT (by rw [uk 14 (by decide) (by decide)]; exact g141) (by rw [u50, u9 1 (by decide)]; omega) (by rw [u42, u38, u9 1 (by decide)]; omega) (by rw [u38, u50, u9 1 (by decide), u9 22 (by decide), uk 11 (by decide) (by decide), g11]; omega) (by rw [u9 15 (by decide)]; omega) w7 w8 (by rw [u50]; exact ub) (by rw [u50]; exact uq) (Or.inl rfl) (by rw [u50, mo 50 0 (by omega)]; exact grM_50) (by rw [u42, mo 42 0 (by omega)]; exact grM_42) (by rw [u50, u42, mo 43 _ (by omega)]; exact grM_43) (by rw [u50, mo 44 _ (by omega)]; exact grM_44) (by rw [u50]; exact a46) (fun i hi => by rw [u42, u50, mo 40 _ (by omega), mo 41 _ (by omega)]; exact ⟨grM_40 hi, grM_41 hi⟩) (fun k i h1 h2 h3 h4 => by
            rw [u50] at h3
            rw [u42] at h4
            rw [mo k i (by omega), r_m]
            by_cases h : k = 38 ∧ i = 0
            · rw [if_pos h, h.1, h.2]; exact grM_38
            · rw [if_neg h]; exact grM_o h1 h2 h h3 h4) rfl (by
            refine Or.inr ?_
            have r4 : grG gt (dn S1) (dn S1 + 1) (g 9 38) (g 9 38) 0 4 (gt 9 50) = dn S1 := by unfold grG; simp
            have r5 : grG gt (dn S1) (dn S1 + 1) (g 9 38) (g 9 38) 0 5 (gt 9 50) = dn S1 + 1 := by unfold grG; simp
            have r11 : grG gt (dn S1) (dn S1 + 1) (g 9 38) (g 9 38) 0 11 (gt 9 50) = g 9 38 := by unfold grG; simp
            have r15 : grG gt (dn S1) (dn S1 + 1) (g 9 38) (g 9 38) 0 15 (gt 9 50) = gt 9 42 := by unfold grG; simp
            have r16 : grG gt (dn S1) (dn S1 + 1) (g 9 38) (g 9 38) 0 16 (gt 9 50) = g 9 38 := by unfold grG; simp
            have r141 : grG gt (dn S1) (dn S1 + 1) (g 9 38) (g 9 38) 0 14 1 = 0 := by unfold grG; simp
            have r1 : grG gt (dn S1) (dn S1 + 1) (g 9 38) (g 9 38) 0 1 = g1 1 := by
              funext i; unfold grG; simp; rw [uk 1 (by decide) (by decide)]
            have r2 : grG gt (dn S1) (dn S1 + 1) (g 9 38) (g 9 38) 0 2 = g 2 := by
              funext i; unfold grG; simp; rw [uk 2 (by decide) (by decide), g2e]
            have r33 : grG gt (dn S1) (dn S1 + 1) (g 9 38) (g 9 38) 0 9 33 = g 9 33 := by
              unfold grG; simp; rw [u9 33 (by decide), g33]
            rw [r4, r5, r11, r15, r16, r141, r1, r2, r33, u50, u42, a47, a48, a49, if_neg (by omega)]
            refine ⟨w1, w2, w3, w4, ?_, Nat.le_refl _, by simp; exact nI_0.symm, by rw [w6, Nat.sub_self]; exact nI_0.symm, fun i hi => ?_⟩
            · rw [w5]
              by_cases h : p2 = -1
              · exact Or.inl ⟨h, an.mpr h⟩
              · obtain ⟨-, hh, q1, q2, q3⟩ := aM h
                exact Or.inr ⟨hh, q1, q2, q3⟩
            · rw [w9 i hi, mo 39 _ (by omega)]; exact (grM_39 hi).symm)
        generalize hgg : grG gt (dn S1) (dn S1 + 1) (g 9 38) (g 9 38) 0 = gg at *
        have v4 : gg 4 (g 9 50) = dn S1 := by rw [← hgg]; unfold grG; rw [u50]; simp
        have v9 : ∀ i, i ≠ 50 → i ≠ 42 → gg 9 i = gt 9 i := fun i h1 h2 => by
          rw [← hgg]; unfold grG
          rw [if_neg (by omega), if_neg (by omega), if_neg (by omega), if_neg (by omega), if_neg (by omega), if_neg (by omega), if_neg (by omega), if_neg (by omega), if_neg (by omega), if_neg (by omega)]
        have v50 : gg 9 50 = g 9 50 + 1 := by rw [← hgg]; unfold grG; simp; exact u50
        have v141 : gg 14 1 = 0 := by rw [← hgg]; unfold grG; simp
        have v14 : ∀ i, i ≠ 1 → gg 14 i = gt 14 i := fun i h1 => by
          rw [← hgg]; unfold grG
          rw [if_neg (by omega), if_neg (by omega), if_neg (by omega), if_neg (by omega), if_neg (by omega), if_neg (by omega), if_neg (by omega), if_neg (by omega), if_neg (by omega), if_neg (by omega)]
        have v1 : ∀ i, gg 1 i = g1 1 i := fun i => by
          rw [← hgg]; unfold grG; simp; rw [uk 1 (by decide) (by decide)]
        obtain ⟨r5, S5, C5, Z5, eD5, M5, eM5, g5, w5', hI5, f5, cs5, z1, z2, z3, z4, z5, z6⟩ := s_adv (n := FU) (q := g 9 50) hG (by omega) (by rw [v4]; exact w1) v141 (by rw [v9 1 (by decide) (by decide), u9 1 (by decide)]; omega) FU_n
        rw [v4] at eD5
        have hr9 : g 9 15 < gg 9 15 := by rw [v9 15 (by decide) (by decide), u9 15 (by decide)]; omega
        obtain ⟨y13, y1⟩ := z6 (g 9 15) hr9
        have b13 : M5 13 (g 9 15) = nI (g 9 1) := by
          rw [y13, mo 13 _ (by omega), grM_o (by omega) (by omega) (by omega) (by omega) (by omega)]; exact m13
        obtain ⟨k1, k2, k3, k4, k5⟩ := rec_at hI5 (r := g 9 15) (p := g 9 1) (by have := f5.2.1.2.1; omega) b13 (by omega)
        rw [y1, v1] at k1 k2
        have hd19 : dK S19 d = 12 := hG.2.2.1.2.1
        refine w_chk hd19 <| w_bk eD5 <| w_bnd rfl <| w_chk k1 <| w_bnd k2 <| w_chk k3 <| w_some <| h32 _ ?_
        have hi15 : inb (nI (g 9 15)) 12000 := inb_nI (by omega) (by omega)
        have hi50 : inb (nI (g 9 50)) 3000 := inb_nI (by omega) (by omega)
        unfold q_async_32
        refine m_b2 rM <| m_ip rfl <| m_b2 eM1 <| m_b2 hgrp ?_
        rw [nI_clamp (by omega : g 9 50 < 2 ^ 31), nI_clamp (by omega : g 9 15 < 2 ^ 31)]
        refine m_chk hi50 <| m_lt <| m_chk hi50 <| m_lt <| m_chk hi50 <| m_lt <| m_chk hi50 <| m_lt ?_
        rw [← hM']
        refine m_b1 eM5 ?_
        rw [b13]
        refine m_chk hi15 <| m_some (ok_ok hE (Or.inl rfl) rfl ?_ k4 ⟨g5, w5', C1 + C5, Z1 + Z5, hI5, z5, ?_, by omega, by omega⟩)
        · rw [f5.2.2.2.2.2.2.2.2, mo 0 0 (by omega), grM_o (by omega) (by omega) (by omega) (by omega) (by omega), cf_M0 c1]; exact m00
        · have csA : Cs 0 g1 S1 gg S19 0 0 := by
            have l4 : dL S19 (g1 14 4) = dL S1 (g1 14 4) := by
              rw [wL]
              have e := ed_L hI2
              rw [(hS16.2.2 _ (by rw [(hS14.2.2 _ e).1]; exact e)).2.1, (hS14.2.2 _ e).2.1]
            have l5 : dL S19 (g1 14 5) = dL S1 (g1 14 5) := by
              rw [wL]
              have e : dK S1 (g1 14 5) ≠ 0 := by rw [hI2.2.2.1.2.2.2.2.2.2.2.2.1.2.2.1]; decide
              rw [(hS16.2.2 _ (by rw [(hS14.2.2 _ e).1]; exact e)).2.1, (hS14.2.2 _ e).2.1]
            have l7 : dL S19 (g1 14 7) = dL S1 (g1 14 7) := by
              rw [wL]
              have e : dK S1 (g1 14 7) ≠ 0 := by rw [hI2.2.2.2.1.2.1]; decide
              rw [(hS16.2.2 _ (by rw [(hS14.2.2 _ e).1]; exact e)).2.1, (hS14.2.2 _ e).2.1]
            unfold Cs pc pz
            rw [v9 1 (by decide) (by decide), v9 15 (by decide) (by decide), v9 22 (by decide) (by decide), v9 30 (by decide) (by decide), v9 33 (by decide) (by decide), v9 36 (by decide) (by decide), u9 1 (by decide), u9 15 (by decide), u9 22 (by decide), u9 30 (by decide), u9 33 (by decide), u9 36 (by decide), v14 4 (by decide), v14 5 (by decide), v14 7 (by decide), uk 14 (by decide) (by decide), l4, l5, l7]
            omega
          exact Cs_le (Cs_trans cs1 (Cs_trans csA cs5)) (by omega) (by omega)
      · refine w_bt rD (by decide) <| h32 _ ?_
        unfold q_async_32
        exact m_b2 rM <| m_in i32_10 <| m_b2 fails_eq <| m_some (th_ok hE (by decide) (Or.inr (Or.inr rfl)) rfl (by omega) (by omega))
    · refine w_bt aD (by decide) ?_
      unfold q_async
      exact m_lt <| m_b2 vM <| m_in i32_10 <| m_in hv <| m_b2 aM <| m_ip rfl <| m_b2 fails_eq hth
  · refine w_chk hd <| w_bt vD (by decide) ?_
    unfold q_async
    exact m_lt <| m_b2 vM <| m_ip rfl <| m_b2 fails_eq hth
end GR2
