section CB3
variable {e0 d t x n c z : Nat} {g g' : GH} {w w' : Nat → List Nat} {S S' S1 S2 S0 : DS} {M M' M1 : MS}
def capM (M : MS) (O R : Nat) : MS := mput (mput (mput (nO M O 0) 15 0 (nI R + 1)) 13 R (nI O)) 14 R 0
theorem cap_eq {O R : Nat} (h1 : M 1 0 = nI O) (h15 : M 15 0 = nI R) (hO : O < 3000) (hR : R < 12000) : q_capability M = some (nI R, capM M O R) := by
  have k15 : nO M O 0 15 0 = nI R := by unfold nO; simp [r_m]; exact h15
  have hi : inb (nI R) 12000 := inb_nI hR (by omega)
  unfold q_capability q_record capM
  rw [nO_eq h1 hO, bnd2_s, k15, lt9_s, chk_i hi, nI_clamp (by omega), lt9_s, chk_i hi, chk_i (Or.inl rfl), lt9_s, bnd2_s]
theorem cap_38 {O R : Nat} : capM (mput M 38 0 0) O R = mput (capM M O R) 38 0 0 := by
  funext k i
  unfold capM nO
  simp only [r_m]
  by_cases h38 : k = 38
  · subst h38; simp
  · simp [h38]
theorem st_combine : St_combine (Rel e0 d) d e0 := by
  intro t S M c z p1 hfr ht hR
  obtain ⟨g, w, hE⟩ := ent_of hfr ht hR
  have hI1 := E1 hE
  have hN := Inv_nums hI1
  have hd := hI1.2.2.1.2.1
  have bd := hE.2.1.2.1
  unfold A_bd at bd
  have hop := hE.2.2.2.1
  refine step_of ?_
  unfold q_X11_combine
  have e3 : (3 : Int32) = nI 3 := rfl
  rcases rr_run (e0 := e0) (d := d) (S := S) (v := p1) (k := 3) (by omega) with ⟨j1, hj1, ej1, n1, n1', rD⟩ | ⟨rD, hbad⟩
  · have hle3 : p1 ≤ 3 := Int32.not_lt.mp n1'
    have hso : p1 = 0 ∨ p1 = 1 ∨ p1 = 2 ∨ p1 = 3 := by
      have : j1 = 0 ∨ j1 = 1 ∨ j1 = 2 ∨ j1 = 3 := by omega
      rcases this with rfl | rfl | rfl | rfl
      · exact Or.inl ej1
      · exact Or.inr (Or.inl ej1)
      · exact Or.inr (Or.inr (Or.inl ej1))
      · exact Or.inr (Or.inr (Or.inr ej1))
    obtain ⟨t1, t2, t3, t4, t5, t6⟩ := hI1.2.2.2.2.1
    have c38 : mput M 0 0 0 38 0 = nI (g 9 38) := hI1.1.2.2.2.2.2.2.2.1
    have e8 : (8 : Int32) + 2 * nI (g 9 38) = nI (8 + 2 * g 9 38) := by
      have : (8 : Int32) = nI 8 := rfl
      rw [this, nI_2, nI_add]
    refine w_chk hd <| w_bx rD <| w_chk hd ?_
    rw [t5, e8]
    rcases room_run (nI (8 + 2 * g 9 38)) hI1 with ⟨mD, mM, h8⟩ | ⟨mD, mM⟩
    · have h8 := room_le (by omega) hN.2.1 h8
      refine w_bx mD <| w_chk hd ?_
      -- the list is taken
      obtain ⟨rc, S8, C8, Z8, eD8, rfl, rfl, rfl, n8, hS8, kq, lq, xq⟩ := copy_run (e0 := e0) (m := g 9 38) hI1.2.2.1.1 t2 t4 (by omega) (by omega)
      obtain ⟨hI8, c8⟩ := Inv_same hI1 hS8
      obtain ⟨S9, hS9⟩ : ∃ X, X = sI S8 1103 d 0 := ⟨_, rfl⟩
      have hT := P_take (S' := S9) hI8 (by rw [hS9, r_nI]) (by rw [hS9, r_KI]) (by rw [hS9, r_LI]) (by rw [hS9, r_XI]) (by rw [hS9, r_YI]) (by rw [hS9, r_PI]) (fun f hf => funext fun yy => by rw [hS9]; simp [r_II, hf]) (by rw [hS9]; simp [r_II])
      unfold q_X11_takeList
      refine w_bndc <| w_chk hd ?_
      rw [t1, t5]
      refine w_bk eD8 <| w_chk hI8.2.2.1.2.1 <| w_lt <| w_some ?_
      rw [← hS9]
      have kb9 : dK S9 (dn S) = 20 := by rw [hS9, r_KI]; exact kq
      have lb9 : dL S9 (dn S) = g 9 38 := by rw [hS9, r_LI]; exact lq
      have xb9 : ∀ i, i < g 9 38 → dX S9 (dn S) i = mput M 0 0 0 37 i := fun i hi => by
        rw [hS9, r_XI]; exact (xq i hi (by omega)).trans (t6 i hi).1
      have lS9 : dL S9 = dL S8 := by rw [hS9, r_LI]
      clear hS9
      generalize hga : gput g 9 38 0 = ga at *
      have a9 : ∀ i, i ≠ 38 → ga 9 i = g 9 i := fun i hi => by rw [← hga]; simp [r_g, hi]
      have a38 : ga 9 38 = 0 := by rw [← hga]; simp [r_g]
      have ak : ∀ k, k ≠ 9 → ga k = g k := fun k hk => by rw [← hga, r_gf hk]
      obtain ⟨r1, S1, C1, Z1, eD1, r1', M1, eM1, rfl, g1, rfl, hI2, c1, cs1, o1, o2, o3, m13, m14, m2, m3, m6⟩ := s_cap hT (by rw [a9 1 (by decide)]; omega)
      rw [a9 1 (by decide)] at o1 m13 m2 m3 m6
      rw [a9 15 (by decide)] at eD1 eM1 o2 m13 m14
      rw [a9 22 (by decide)] at o3
      have hc1 : mput M 0 0 0 1 0 = nI (g 9 1) := hI1.1.1
      have hc15 : mput M 0 0 0 15 0 = nI (g 9 15) := hI1.1.2.1
      have ecap := cap_eq (M := mput M 0 0 0) hc1 hc15 (by omega) (by omega)
      have hM1 : M1 = mput (capM (mput M 0 0 0) (g 9 1) (g 9 15)) 38 0 0 := by
        have := cap_eq (M := mput (mput M 0 0 0) 38 0 0) (O := g 9 1) (R := g 9 15) (by rw [r_m, if_neg (by omega)]; exact hc1) (by rw [r_m, if_neg (by omega)]; exact hc15) (by omega) (by omega)
        rw [this] at eM1
        have h := Option.some.inj eM1
        rw [← cap_38]
        exact (congrArg (fun y => y.2) h).symm
      generalize hM6 : capM (mput M 0 0 0) (g 9 1) (g 9 15) = M6 at *
      have m6o : ∀ k i, ¬ (k = 38 ∧ i = 0) → M6 k i = M1 k i := fun k i h => by rw [hM1, r_m, if_neg h]
      have hfr1 := hI2.2.2.1.1
      obtain ⟨hk0, hk1⟩ := two_free hfr1
      have hGE := c1.2.1
      unfold GE at hGE
      have g50 : g1 9 50 = g 9 50 := by rw [cf_50 c1, a9 50 (by decide)]
      have g42 : g1 9 42 = g 9 42 := by have : g1 9 42 = ga 9 42 := by clear hI2 c1 cs1; grind
                                        rw [this, a9 42 (by decide)]
      have g38 : g1 9 38 = 0 := by have : g1 9 38 = ga 9 38 := by clear hI2 c1 cs1; grind
                                   rw [this, a38]
      have g11 : g1 11 = g 11 := by have : g1 11 = ga 11 := by clear hI2 c1 cs1; grind
                                    rw [this, ak 11 (by decide)]
      have g141 : g1 14 1 = 0 := by rw [cf_14 c1 (by decide), ak 14 (by decide)]; exact hop
      obtain ⟨hIa, ca⟩ := Inv_gf (a := dn S1) (v := g 9 50) (k := 12) hI2 hk0 (Or.inr rfl)
      obtain ⟨hIb, cb⟩ := Inv_gf (a := dn S1 + 1) (v := g 9 50 + 10) (k := 12) hIa hk1 (Or.inr rfl)
      have kb1 : dK S1 (dn S) = 20 := by rw [cf_K c1 (by rw [kb9]; decide)]; exact kb9
      have lb1 : dL S1 (dn S) = g 9 38 := by rw [(c1.1.2 _ (by rw [kb9]; decide)).2.1]; exact lb9
      have xb1 : dX S1 (dn S) = dX S9 (dn S) := (c1.1.2 _ (by rw [kb9]; decide)).2.2.1
      have hdd : dn S ≠ dn S1 := by intro e; rw [e, hk0] at kb1; cases kb1
      have hSa : Same S1 (sI (sO S1 3) 200 (dn S1) p1) := Same_sI (Same_sO hfr1 (by decide)) hk0
      have hda : dn (sI (sO S1 3) 200 (dn S1) p1) = dn S1 + 1 := rfl
      obtain ⟨S18, hS18⟩ : ∃ X, X = sI (sP (sP (sAI (sI (sO S1 3) 200 (dn S1) p1) (g 9 38) (fun _ => 0)) 201 (dn S1) (some (dn S1 + 1))) 202 (dn S1) (some (g1 1 (g 9 15)))) 203 (dn S1) (nI (g 9 38)) := ⟨_, rfl⟩
      have hS : Same S1 S18 := by
        rw [hS18]
        exact Same_sI (Same_sP (Same_sP (Same_trans hSa (Same_sAI hSa.2.1)) hk0) hk0) hk0
      obtain ⟨hIc, cc⟩ := Inv_same hIb hS
      unfold q_X1_init
      refine w_chk hT.2.2.1.2.1 <| w_bk eD1 <| w_tick <| w_lt <| w_lt <| w_bnd rfl <| w_chk (by rw [r_KO, if_neg hdd]; exact Or.inl kb1) ?_
      rw [r_LO, lb1, nI_clamp (by omega)]
      have hq3 : dK (sO S1 3) (dn S1) = 3 := by rw [r_KO, if_pos rfl]
      have hq3' : dK (sAI (sI (sO S1 3) 200 (dn S1) p1) (g 9 38) (fun _ => 0)) (dn S1) = 3 := by
        rw [r_KA, if_neg (by rw [hda]; omega)]; exact hq3
      refine w_bndc <| w_chk hq3 <| w_lt <| w_chk (by rw [nI_toInt (by omega)]; omega) <| w_tick <| w_lt <| w_lt <| w_chk hq3' <| w_lt <| w_lt <| w_lt <| w_some ?_
      rw [hda, ← hS18]
      have w1 : dK S18 (dn S1) = 3 := by rw [hS18]; simp only [r_KI, r_KP]; exact hq3'
      have w2 : dP S18 201 (dn S1) = some (dn S1 + 1) := by rw [hS18]; simp [r_PI, r_PP]
      have w3 : dP S18 202 (dn S1) = some (g1 1 (g 9 15)) := by rw [hS18]; simp [r_PI, r_PP]
      have w4 : dI S18 200 (dn S1) = p1 := by rw [hS18]; simp [r_II, r_IP, r_IA]
      have w5 : dI S18 203 (dn S1) = nI (g 9 38) := by rw [hS18]; simp [r_II]
      have w7 : dK S18 (dn S1 + 1) = 20 := by rw [hS18]; simp only [r_KI, r_KP]; rw [r_KA, if_pos hda.symm]
      have w8 : dL S18 (dn S1 + 1) = g 9 38 := by rw [hS18]; simp only [r_LI, r_LP]; rw [r_LA, if_pos hda.symm]
      have pS := hS.2.2
      clear hS18
      have hIc2 := hIc
      generalize hgt : gput (gput g1 12 (dn S1) (g 9 50)) 12 (dn S1 + 1) (g 9 50 + 10) = gt at *
      have u9 : gt 9 = g1 9 := by rw [← hgt, r_gf (by omega), r_gf (by omega)]
      have uk : ∀ k, k ≠ 12 → gt k = g1 k := fun k h2 => by rw [← hgt, r_gf h2, r_gf h2]
      have ub : gt 12 (dn S1 + 1) = g 9 50 + 10 := by rw [← hgt]; simp [r_g]
      have uq : gt 12 (dn S1) = g 9 50 := by rw [← hgt]; simp [r_g]
      have u50 : gt 9 50 = g 9 50 := by rw [u9]; exact g50
      have u42 : gt 9 42 = g 9 42 := by rw [u9]; exact g42
      have u38 : gt 9 38 = 0 := by rw [u9]; exact g38
      have c50 : M6 50 0 = nI (g 9 50) := by rw [m6o 50 0 (by omega), ← g50]; exact hI2.1.2.2.2.2.2.2.2.2.2
      have c42 : M6 42 0 = nI (g 9 42) := by rw [m6o 42 0 (by omega), ← g42]; exact hI2.1.2.2.2.2.2.2.2.2.1
      have c38' : M6 38 0 = nI (g 9 38) := by
        rw [← hM6]; unfold capM nO; simp [r_m]
        rw [← c38]; simp [r_m]
      have c37 : ∀ i, M6 37 i = mput M 0 0 0 37 i := fun i => by
        rw [← hM6]; unfold capM nO
        rw [r_m, if_neg (by omega), r_m, if_neg (by omega), r_m, if_neg (by omega), r_m, if_neg (by omega), r_m, if_neg (by omega), r_m, if_neg (by omega), r_m, if_neg (by omega), r_m, if_neg (by omega), r_m, if_neg (by omega)]
      have hgrp := group_run (n := FU) c50 c42 c38' (by omega) (by omega) (by omega) (by unfold FU; omega)
      obtain ⟨M', hM'⟩ : ∃ X, X = mput (mput (grM M6 (g 9 50) (g 9 42) (g 9 38)) 46 (g 9 50) (nI (g 9 15))) 45 (g 9 50) 1 := ⟨_, rfl⟩
      have mo : ∀ k i, ¬ (45 ≤ k ∧ k ≤ 46 ∧ i = g 9 50) → M' k i = grM M6 (g 9 50) (g 9 42) (g 9 38) k i := by
        intro k i h
        rw [hM', r_m, if_neg (by omega), r_m, if_neg (by omega)]
      have a46 : M' 46 (g 9 50) = nI (g 9 15) := by rw [hM']; simp [r_m]
      have a45 : M' 45 (g 9 50) = 1 := by rw [hM']; simp [r_m]
      have a41 : ∀ i, i < g 9 38 → M' 41 (g 9 42 + i) = 0 := fun i hi => by rw [mo 41 _ (by omega)]; exact grM_41 hi
      have r4 : grG gt (dn S1) (dn S1 + 1) (g 9 38) 0 (g 9 50 + 1) 4 (g 9 50) = dn S1 := by unfold grG; rw [u50]; simp
      have r5 : grG gt (dn S1) (dn S1 + 1) (g 9 38) 0 (g 9 50 + 1) 5 (g 9 50) = dn S1 + 1 := by unfold grG; rw [u50]; simp
      have r15 : grG gt (dn S1) (dn S1 + 1) (g 9 38) 0 (g 9 50 + 1) 15 (g 9 50) = g 9 42 := by unfold grG; rw [u50]; simp; exact u42
      have r16 : grG gt (dn S1) (dn S1 + 1) (g 9 38) 0 (g 9 50 + 1) 16 (g 9 50) = g 9 38 := by unfold grG; rw [u50]; simp
      have r141 : grG gt (dn S1) (dn S1 + 1) (g 9 38) 0 (g 9 50 + 1) 14 1 = g 9 50 + 1 := by unfold grG; simp
      have r1 : grG gt (dn S1) (dn S1 + 1) (g 9 38) 0 (g 9 50 + 1) 1 = g1 1 := by
        funext i; unfold grG; simp; rw [uk 1 (by decide)]
      have r50 : grG gt (dn S1) (dn S1 + 1) (g 9 38) 0 (g 9 50 + 1) 9 50 = g 9 50 + 1 := by unfold grG; simp; exact u50
      have r8 : ∀ i, i < g 9 38 → grG gt (dn S1) (dn S1 + 1) (g 9 38) 0 (g 9 50 + 1) 8 (g 9 42 + i) = 100000 := fun i hi => by
        unfold grG; rw [u42, if_neg (by omega), if_pos (by omega)]
      have r9 : ∀ i, i ≠ 50 → i ≠ 42 → grG gt (dn S1) (dn S1 + 1) (g 9 38) 0 (g 9 50 + 1) 9 i = g1 9 i := fun i h1 h2 => by
        unfold grG
        rw [if_neg (by omega), if_neg (by omega), if_neg (by omega), if_neg (by omega), if_neg (by omega), if_neg (by omega), if_neg (by omega), if_neg (by omega), if_neg (by omega), if_neg (by omega), u9]
      have r14 : ∀ i, i ≠ 1 → grG gt (dn S1) (dn S1 + 1) (g 9 38) 0 (g 9 50 + 1) 14 i = g1 14 i := fun i h1 => by
        unfold grG
        rw [if_neg (by omega), if_neg (by omega), if_neg (by omega), if_neg (by omega), if_neg (by omega), if_neg (by omega), if_neg (by omega), if_neg (by omega), if_neg (by omega), if_neg (by omega), uk 14 (by decide)]
      have hsum : ∀ m, m ≤ g 9 38 → sumN (un41 M' (g 9 42)) m = m := by
        intro m
        induction m with
        | zero => intro _; rfl
        | succ m ih =>
          intro hm
          show sumN (un41 M' (g 9 42)) m + un41 M' (g 9 42) m = _
          rw [ih (by omega)]
          unfold un41
          rw [if_pos (a41 m (by omega))]
      have hgr : gr (grG gt (dn S1) (dn S1 + 1) (g 9 38) 0 (g 9 50 + 1)) S18 M' (g 9 50) (g 9 15) := by
        refine Or.inl ?_
        rw [r4, r5, r15, r16, r141, r1]
        refine ⟨w1, w2, w3, fun i hi hh => absurd (a41 i hi) hh, by rw [w4]; exact hso, fun _ => ⟨by rw [w5, hsum _ (Nat.le_refl _)], fun h => absurd rfl h⟩⟩
      have hG := P_grp (qc := dn S1) (b := dn S1 + 1) (N := g 9 38) (r := g 9 15) (la := 0) (mk := g 9 50 + 1) (M' := M') hIc (by rw [uk 14 (by decide)]; exact g141) (by rw [u50, u9, o1]; omega) (by rw [u42, u38, u9, o1]; omega) (by rw [u38, u50, uk 11 (by decide), g11, u9, o1, o3]; omega) (by rw [u9, o2]; omega) w7 w8 (by rw [u50]; exact ub) (by rw [u50]; exact uq) (Or.inr (by rw [u50])) (by rw [u50, mo 50 0 (by omega)]; exact grM_50) (by rw [u42, mo 42 0 (by omega)]; exact grM_42) (by rw [u50, u42, mo 43 _ (by omega)]; exact grM_43) (by rw [u50, mo 44 _ (by omega)]; exact grM_44) (by rw [u50]; exact a46) (fun i hi => by rw [u42, u50, mo 40 _ (by omega), mo 41 _ (by omega)]; exact ⟨grM_40 hi, grM_41 hi⟩) (fun k i h1 h2 h3 h4 => by
          rw [u50] at h3
          rw [u42] at h4
          rw [mo k i (by omega)]
          by_cases h : k = 38 ∧ i = 0
          · rw [h.1, h.2, grM_38, hM1, r_m, if_pos ⟨rfl, rfl⟩]
          · rw [grM_o h1 h2 h h3 h4, m6o k i h]) rfl (by rw [u50]; exact hgr)
      have hp18 := pS (dn S) (by rw [kb1]; decide)
      have hCI : CI e0 d (t + 1) (dn S) (g 9 50) (g 9 15) (g 9 38) (g 9 42) (g 9 1 + 1) (g 9 1) 0 p1 (grG gt (dn S1) (dn S1 + 1) (g 9 38) 0 (g 9 50 + 1)) w S18 M' := by
        refine ⟨hG, r141, by rw [r50]; omega, by rw [r4]; exact w1, by rw [r4]; exact w4, r16, r15, by rw [r9 15 (by decide) (by decide), o2]; omega, by rw [r4, r1]; exact w3, a41, fun i' _ hi' => ⟨r8 i' hi', ?_, fun o ho h30 => ?_⟩, by rw [hp18.1]; exact kb1, by rw [hp18.2.1]; exact lb1, fun _ => a45, by rw [r9 1 (by decide) (by decide), o1]; omega, ?_, ?_⟩
        · rw [hp18.2.2.1, xb1, xb9 i' hi', mo 39 _ (by omega), grM_39 hi', c37]
        · rw [mo 39 _ (by omega), grM_39 hi', c37]
          rw [r9 1 (by decide) (by decide), o1] at ho
          exact (t6 i' hi').2 o (by omega) h30
        · rw [mo 0 0 (by omega), grM_o (by omega) (by omega) (by omega) (by omega) (by omega), m6o 0 0 (by omega), cf_M0 c1, r_mf (by omega)]; exact m00
        · rw [mo 13 _ (by omega), grM_o (by omega) (by omega) (by omega) (by omega) (by omega), m6o 13 _ (by omega)]; exact m13
      have hrec := s_comb hso (by omega) (by omega) (by omega) (g 9 38) FU 0 (g 9 1 + 1) _ w S18 M' (by omega) (by unfold FU; omega) (by omega) hCI
      rw [r4, r1, nI_0] at hrec
      refine w_mono hrec ?_
      rintro ⟨k, r⟩ S9' C9 Z9 ⟨r9', M9, eM9, q1, q2, q3, g9, w9, q4, q5, q6⟩
      have q1 : k = 0 := q1
      subst q1
      have hi50 : inb (nI (g 9 50)) 3000 := inb_nI (by omega) (by omega)
      unfold q_combine
      refine m_lt <| m_in n1 <| m_ip hle3 ?_
      rw [c38, e8]
      refine m_b2 mM <| m_ip rfl <| m_b2 ecap <| m_b2 hgrp ?_
      rw [nI_clamp (by omega)]
      refine m_chk hi50 <| m_lt <| m_chk hi50 <| m_lt ?_
      rw [← hM']
      refine ⟨r9', M9, eM9, ok_ok hE (Or.inl rfl) rfl q3 q2 ⟨g9, w9, C1 + C9, Z1 + Z9, q4, q5, ?_, by omega, by omega⟩⟩
      have csA : Cs 0 g S ga S9 0 0 := by
        have l4 : dL S9 (g 14 4) = dL S (g 14 4) := by rw [lS9]; exact (hS8.2.2 _ (ed_L hI1)).2.1
        have l5 : dL S9 (g 14 5) = dL S (g 14 5) := by rw [lS9]; exact (hS8.2.2 _ (by rw [hI1.2.2.1.2.2.2.2.2.2.2.2.1.2.2.1]; decide)).2.1
        have l7 : dL S9 (g 14 7) = dL S (g 14 7) := by rw [lS9]; exact (hS8.2.2 _ (by rw [hI1.2.2.2.1.2.1]; decide)).2.1
        unfold Cs pc pz
        rw [a9 1 (by decide), a9 15 (by decide), a9 22 (by decide), a9 30 (by decide), a9 33 (by decide), a9 36 (by decide), ak 14 (by decide), l4, l5, l7]
        omega
      have csB : Cs 0 g1 S1 (grG gt (dn S1) (dn S1 + 1) (g 9 38) 0 (g 9 50 + 1)) S18 0 0 := by
        have l4 : dL S18 (g1 14 4) = dL S1 (g1 14 4) := (pS _ (ed_L hI2)).2.1
        have l5 : dL S18 (g1 14 5) = dL S1 (g1 14 5) := (pS _ (by rw [hI2.2.2.1.2.2.2.2.2.2.2.2.1.2.2.1]; decide)).2.1
        have l7 : dL S18 (g1 14 7) = dL S1 (g1 14 7) := (pS _ (by rw [hI2.2.2.2.1.2.1]; decide)).2.1
        unfold Cs pc pz
        rw [r9 1 (by decide) (by decide), r9 15 (by decide) (by decide), r9 22 (by decide) (by decide), r9 30 (by decide) (by decide), r9 33 (by decide) (by decide), r9 36 (by decide) (by decide), r14 4 (by decide), r14 5 (by decide), r14 7 (by decide), l4, l5, l7]
        omega
      exact Cs_le (Cs_trans csA (Cs_trans cs1 (Cs_trans csB q6))) (by omega) (by omega)
    · refine w_bt mD (by decide) ?_
      unfold q_combine
      refine m_lt <| m_in n1 <| m_ip hle3 ?_
      rw [c38, e8]
      exact m_b2 mM <| m_in i32_10 <| m_b2 fails_eq <| m_some (th_ok hE (by decide) (Or.inr (Or.inr rfl)) rfl (by omega) (by omega))
  · refine w_chk hd <| w_bt rD (by decide) ?_
    unfold q_combine
    rcases hbad with h | ⟨h, h'⟩
    · exact m_lt <| m_ip h <| m_b2 fails_eq <| m_some (th_ok hE (by decide) (Or.inr (Or.inl rfl)) rfl (by omega) (by omega))
    · exact m_lt <| m_in h <| m_in (Int32.not_le.mpr h') <| m_b2 fails_eq <| m_some (th_ok hE (by decide) (Or.inr (Or.inl rfl)) rfl (by omega) (by omega))
end CB3
