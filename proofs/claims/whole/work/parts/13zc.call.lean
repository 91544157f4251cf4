section CAL
variable {e0 d t x n : Nat} {g g' : GH} {w w' : Nat → List Nat} {S S' S1 S2 S0 : DS} {M M' M1 : MS}
theorem nI_2 {L : Nat} : (2 : Int32) * nI L = nI (2 * L) := by
  have h : (2 : Int32) * nI L = nI L + nI L := by grind
  rw [h, nI_add]
  congr 1
  omega
theorem copy_run {b N m : Nat} (hfr : dFr S) (hb : dK S b = 20) (hN : dL S b = N) (hm : m < 50000) (hN2 : N < 50000) : RD (q_J7_copyOf_59c91 e0 S (some b) (nI m)) (fun r S' C Z => r = some (dn S) ∧ C = 1 ∧ Z = m ∧ dn S' = dn S + 1 ∧ Same S S' ∧ dK S' (dn S) = 20 ∧ dL S' (dn S) = m ∧ ∀ i, i < m → i < N → dX S' (dn S) i = dX S b i) := by
  have hbn : b ≠ dn S := fun e => by
    have := K_dn hfr
    rw [← e, hb] at this; cases this
  unfold q_J7_copyOf_59c91
  rw [nI_clamp (by omega : m < 2 ^ 31)]
  refine w_bnd rfl <| w_chk (Or.inl hb) ?_
  rw [hN]
  by_cases e : m = N
  · subst e
    refine w_ip rfl <| w_chk hb <| w_tick <| w_lt <| w_lt <| w_some ?_
    exact ⟨rfl, rfl, rfl, rfl, Same_sAI hfr, by simp [r_KI, r_LI, r_PI, r_XI, r_YI, r_nI, r_II, r_KP, r_LP, r_IP, r_XP, r_YP, r_nP, r_PP, r_KX, r_LX, r_IX, r_PX, r_YX, r_nX, r_XX, r_KY, r_LY, r_IY, r_PY, r_XY, r_nY, r_YY, r_KO, r_LO, r_IO, r_PO, r_XO, r_YO, r_nO, r_KA, r_LA, r_IA, r_PA, r_XA, r_YA, r_nA, r_KB, r_LB, r_IB, r_PB, r_XB, r_YB, r_nB], by simp [r_KI, r_LI, r_PI, r_XI, r_YI, r_nI, r_II, r_KP, r_LP, r_IP, r_XP, r_YP, r_nP, r_PP, r_KX, r_LX, r_IX, r_PX, r_YX, r_nX, r_XX, r_KY, r_LY, r_IY, r_PY, r_XY, r_nY, r_YY, r_KO, r_LO, r_IO, r_PO, r_XO, r_YO, r_nO, r_KA, r_LA, r_IA, r_PA, r_XA, r_YA, r_nA, r_KB, r_LB, r_IB, r_PB, r_XB, r_YB, r_nB], fun i _ _ => by simp [r_KI, r_LI, r_PI, r_XI, r_YI, r_nI, r_II, r_KP, r_LP, r_IP, r_XP, r_YP, r_nP, r_PP, r_KX, r_LX, r_IX, r_PX, r_YX, r_nX, r_XX, r_KY, r_LY, r_IY, r_PY, r_XY, r_nY, r_YY, r_KO, r_LO, r_IO, r_PO, r_XO, r_YO, r_nO, r_KA, r_LA, r_IA, r_PA, r_XA, r_YA, r_nA, r_KB, r_LB, r_IB, r_PB, r_XB, r_YB, r_nB]⟩
  · refine w_in (fun h => e (nI_inj (by omega) (by omega) h)) <| w_chk (by rw [nI_toInt (by omega)]; omega) <| w_tick <| w_lt <| w_lt ?_
    have hk4 : dK (sAI S m (fun _ => 0)) b = 20 := by rw [r_KA, if_neg hbn]; exact hb
    have hl4 : dL (sAI S m (fun _ => 0)) b = N := by rw [r_LA, if_neg hbn]; exact hN
    have hlq : dL (sAI S m (fun _ => 0)) (dn S) = m := by rw [r_LA, if_pos rfl]
    have hmin : (if nI m < nI N then nI m else nI N) = nI (min m N) := by
      by_cases h : m < N
      · rw [if_pos (nI_lt h (by omega)), Nat.min_eq_left (by omega)]
      · rw [if_neg (nI_nlt (by omega) (by omega)), Nat.min_eq_right (by omega)]
    rw [hl4, hlq, hmin, nI_toInt (by omega), nI_clamp (by omega)]
    refine w_chk (Or.inl hk4) <| w_chk hk4 <| w_chk (by omega) <| w_lt <| w_some ?_
    refine ⟨rfl, rfl, rfl, rfl, Same_sX (Same_sAI hfr) (K_dn hfr), by simp [r_KI, r_LI, r_PI, r_XI, r_YI, r_nI, r_II, r_KP, r_LP, r_IP, r_XP, r_YP, r_nP, r_PP, r_KX, r_LX, r_IX, r_PX, r_YX, r_nX, r_XX, r_KY, r_LY, r_IY, r_PY, r_XY, r_nY, r_YY, r_KO, r_LO, r_IO, r_PO, r_XO, r_YO, r_nO, r_KA, r_LA, r_IA, r_PA, r_XA, r_YA, r_nA, r_KB, r_LB, r_IB, r_PB, r_XB, r_YB, r_nB], by simp [r_KI, r_LI, r_PI, r_XI, r_YI, r_nI, r_II, r_KP, r_LP, r_IP, r_XP, r_YP, r_nP, r_PP, r_KX, r_LX, r_IX, r_PX, r_YX, r_nX, r_XX, r_KY, r_LY, r_IY, r_PY, r_XY, r_nY, r_YY, r_KO, r_LO, r_IO, r_PO, r_XO, r_YO, r_nO, r_KA, r_LA, r_IA, r_PA, r_XA, r_YA, r_nA, r_KB, r_LB, r_IB, r_PB, r_XB, r_YB, r_nB], fun i h1 h2 => ?_⟩
    rw [r_XX, if_pos rfl]
    unfold va_cpy
    rw [if_pos (by omega), r_XA, if_neg hbn]
    simp
theorem note34 {b L : Nat} {v1 v2 : Int32} (hd : dK S d = 12) (h1 : dP S 1104 d = some b) (hb : dK S b = 20) (hL : dI S 1105 d = nI L) (hl : 2 * L + 2 ≤ dL S b) (hl2 : dL S b < 100000) : q_X11_note_34 e0 S d v1 v2 = some (0, sI (sX (sX S b (upd (dX S b) (2 * L) v1)) b (upd (upd (dX S b) (2 * L) v1) (2 * L + 1) v2)) 1105 d (nI (L + 1)), 0, 0) := by
  refine RD_eq ?_
  unfold q_X11_note_34
  rw [hL, nI_2, nI_clamp (by omega)]
  refine w_chk hd <| w_bnd h1 <| w_chk hb <| w_chk (inb_nI (by omega) (by omega)) <| w_lt ?_
  rw [show dI (sX S b (upd (dX S b) (2 * L) v1)) 1105 d = nI L from hL, nI_2, nI_1, nI_clamp (by omega)]
  refine w_bnd (b := b) h1 <| w_chk hb <| w_chk (inb_nI (by have : dL (sX S b (upd (dX S b) (2 * L) v1)) b = dL S b := rfl; omega) (by have : dL (sX S b (upd (dX S b) (2 * L) v1)) b = dL S b := rfl; omega)) <| w_lt <| w_lt <| w_some ⟨rfl, ?_, rfl, rfl⟩
  have ex : dX (sX S b (upd (dX S b) (2 * L) v1)) b = upd (dX S b) (2 * L) v1 := by rw [r_XX, if_pos rfl]
  rw [ex, r_IX, r_IX, hL, nI_1]
theorem WF_note {L : Nat} {c' : Nat} {who arg : Int32} (hd : dK S d = 12) (eK : dK S' = dK S) (eI : ∀ f a, a ≠ d → dI S' f a = dI S f a ∧ dP S' f a = dP S f a) (hM : M' = mput (mput (mput M 34 L who) 35 L arg) 36 0 (nI (L + 1))) (hg : g' = gput (gput g 9 36 (L + 1)) 14 7 c') : WF g S M g' S' M' := by
  have eM : ∀ k, (k ≠ 34 ∧ k ≠ 35 ∧ k ≠ 36) → M' k = M k := fun k hk => by rw [hM, r_mf hk.2.2, r_mf hk.2.1, r_mf hk.1]
  have eg : ∀ k, (k ≠ 9 ∧ k ≠ 14) → g' k = g k := fun k hk => by rw [hg, r_gf hk.2, r_gf hk.1]
  have eg9 : ∀ i, i ≠ 36 → g' 9 i = g 9 i := fun i hi => by rw [hg]; simp [r_g, hi]
  have eg14 : ∀ i, i ≠ 7 → g' 14 i = g 14 i := fun i hi => by rw [hg]; simp [r_g, hi]
  unfold WF
  rw [eg 0 (by decide), eg 1 (by decide), eg 2 (by decide), eg 3 (by decide), eg 4 (by decide), eg9 1 (by decide), eg9 15 (by decide), eg9 22 (by decide), eg9 30 (by decide), eg9 29 (by decide), eg9 33 (by decide), eg9 42 (by decide), eg9 50 (by decide), eM 2 (by decide), eM 8 (by decide), eM 9 (by decide), eM 10 (by decide), eM 11 (by decide), eM 12 (by decide), eM 17 (by decide), eM 18 (by decide), eM 19 (by decide), eM 20 (by decide), eM 21 (by decide), eM 25 (by decide), eM 0 (by decide)]
  refine ⟨fun a ha => ⟨by rw [eK], fun h12 f _ _ _ _ _ => eI f a ?_⟩, by omega, fun _ _ => ⟨rfl, rfl, rfl, rfl, rfl, rfl, rfl⟩, fun _ _ => rfl, fun _ _ => rfl, fun _ _ => ⟨rfl, rfl, rfl, rfl, rfl, rfl⟩, fun _ _ => rfl, fun _ _ => rfl, rfl⟩
  rintro rfl
  exact h12 hd
theorem s_note {who arg : Int32} (hI : Inv e0 d t x g w S M) (hL : g 9 36 ≤ 4000) : RD (q_X11_note e0 S d who arg) (fun _ S' C Z => RV (q_note M who arg) (fun M' => ∃ g', Inv e0 d t x g' w S' M' ∧ WF g S M g' S' M' ∧ Cs 9 g S g' S' C Z ∧ g' 9 1 = g 9 1 ∧ g' 9 15 = g 9 15 ∧ g' 9 22 = g 9 22 ∧ g' 9 36 = g 9 36 + 1 ∧ dI S' 1109 d = dI S 1109 d ∧ M' 51 = M 51 ∧ g' 14 1 = g 14 1 ∧ (∀ i, i ≠ 36 → g' 9 i = g 9 i) ∧ g' 11 = g 11)) := by
  have hN := Inv_nums hI
  have hfr := hI.2.2.1.1
  have hd := hI.2.2.1.2.1
  have k36 : M 36 0 = nI (g 9 36) := hI.1.2.2.2.2.2.2.1
  obtain ⟨a1, a2, a3, a4, a5, a6, a7, a8⟩ := hI.2.2.2.1
  have eM : q_note M who arg = some (mput (mput (mput M 34 (g 9 36) who) 35 (g 9 36) arg) 36 0 (nI (g 9 36 + 1))) := by
    unfold q_note
    rw [k36, chk_i (inb_nI (by omega) (by omega)), lt9_s, nI_clamp (by omega)]
    rw [show mput M 34 (g 9 36) who 36 0 = nI (g 9 36) from by rw [r_m, if_neg (by omega)]; exact k36, chk_i (inb_nI (by omega) (by omega)), lt9_s, nI_clamp (by omega), lt9_s]
    rw [show mput (mput M 34 (g 9 36) who) 35 (g 9 36) arg 36 0 = nI (g 9 36) from by rw [r_m, if_neg (by omega), r_m, if_neg (by omega)]; exact k36, nI_1]
  have m51 : mput (mput (mput M 34 (g 9 36) who) 35 (g 9 36) arg) 36 0 (nI (g 9 36 + 1)) 51 = M 51 := by
    rw [r_mf (by omega), r_mf (by omega), r_mf (by omega)]
  have l4 : dK S (g 14 4) ≠ 0 := ed_L hI
  have l5 : dK S (g 14 5) ≠ 0 := by rw [hI.2.2.1.2.2.2.2.2.2.2.2.1.2.2.1]; decide
  unfold q_X11_note
  refine w_chk hd <| w_bnd a1 <| w_chk (Or.inl a2) ?_
  rw [a4, nI_2, nI_1]
  by_cases h : 2 * g 9 36 + 1 < dL S (g 14 7)
  · refine w_ip (nI_lt h (by omega)) ?_
    rw [note34 hd a1 a2 a4 (by omega) (by omega)]
    refine w_some ?_
    rw [eM]
    have ex : dX (sI (sX (sX S (g 14 7) (upd (dX S (g 14 7)) (2 * g 9 36) who)) (g 14 7) (upd (upd (dX S (g 14 7)) (2 * g 9 36) who) (2 * g 9 36 + 1) arg)) 1105 d (nI (g 9 36 + 1))) (g 14 7) = upd (upd (dX S (g 14 7)) (2 * g 9 36) who) (2 * g 9 36 + 1) arg := by simp [r_KI, r_LI, r_PI, r_XI, r_YI, r_nI, r_II, r_KP, r_LP, r_IP, r_XP, r_YP, r_nP, r_PP, r_KX, r_LX, r_IX, r_PX, r_YX, r_nX, r_XX, r_KY, r_LY, r_IY, r_PY, r_XY, r_nY, r_YY, r_KO, r_LO, r_IO, r_PO, r_XO, r_YO, r_nO, r_KA, r_LA, r_IA, r_PA, r_XA, r_YA, r_nA, r_KB, r_LB, r_IB, r_PB, r_XB, r_YB, r_nB]
    refine v_some ⟨_, P_log (c' := g 14 7) hI a2 a3 hL a5 (by omega) (by omega) rfl rfl rfl rfl (fun y hy => by simp [r_KI, r_LI, r_PI, r_XI, r_YI, r_nI, r_II, r_KP, r_LP, r_IP, r_XP, r_YP, r_nP, r_PP, r_KX, r_LX, r_IX, r_PX, r_YX, r_nX, r_XX, r_KY, r_LY, r_IY, r_PY, r_XY, r_nY, r_YY, r_KO, r_LO, r_IO, r_PO, r_XO, r_YO, r_nO, r_KA, r_LA, r_IA, r_PA, r_XA, r_YA, r_nA, r_KB, r_LB, r_IB, r_PB, r_XB, r_YB, r_nB, hy]) (fun f hf => funext fun y => by simp [r_KI, r_LI, r_PI, r_XI, r_YI, r_nI, r_II, r_KP, r_LP, r_IP, r_XP, r_YP, r_nP, r_PP, r_KX, r_LX, r_IX, r_PX, r_YX, r_nX, r_XX, r_KY, r_LY, r_IY, r_PY, r_XY, r_nY, r_YY, r_KO, r_LO, r_IO, r_PO, r_XO, r_YO, r_nO, r_KA, r_LA, r_IA, r_PA, r_XA, r_YA, r_nA, r_KB, r_LB, r_IB, r_PB, r_XB, r_YB, r_nB, hf]) (by simp [r_KI, r_LI, r_PI, r_XI, r_YI, r_nI, r_II, r_KP, r_LP, r_IP, r_XP, r_YP, r_nP, r_PP, r_KX, r_LX, r_IX, r_PX, r_YX, r_nX, r_XX, r_KY, r_LY, r_IY, r_PY, r_XY, r_nY, r_YY, r_KO, r_LO, r_IO, r_PO, r_XO, r_YO, r_nO, r_KA, r_LA, r_IA, r_PA, r_XA, r_YA, r_nA, r_KB, r_LB, r_IB, r_PB, r_XB, r_YB, r_nB]) (fun f _ => rfl) a1 (fun i hi => ?_) ?_ rfl rfl, WF_note hd rfl (fun f a ha => ⟨by simp [r_KI, r_LI, r_PI, r_XI, r_YI, r_nI, r_II, r_KP, r_LP, r_IP, r_XP, r_YP, r_nP, r_PP, r_KX, r_LX, r_IX, r_PX, r_YX, r_nX, r_XX, r_KY, r_LY, r_IY, r_PY, r_XY, r_nY, r_YY, r_KO, r_LO, r_IO, r_PO, r_XO, r_YO, r_nO, r_KA, r_LA, r_IA, r_PA, r_XA, r_YA, r_nA, r_KB, r_LB, r_IB, r_PB, r_XB, r_YB, r_nB, ha], rfl⟩) rfl rfl, ?_, by simp [r_g], by simp [r_g], by simp [r_g], by simp [r_g], by simp [r_KI, r_LI, r_PI, r_XI, r_YI, r_nI, r_II, r_KP, r_LP, r_IP, r_XP, r_YP, r_nP, r_PP, r_KX, r_LX, r_IX, r_PX, r_YX, r_nX, r_XX, r_KY, r_LY, r_IY, r_PY, r_XY, r_nY, r_YY, r_KO, r_LO, r_IO, r_PO, r_XO, r_YO, r_nO, r_KA, r_LA, r_IA, r_PA, r_XA, r_YA, r_nA, r_KB, r_LB, r_IB, r_PB, r_XB, r_YB, r_nB], m51, by simp [r_g], fun i hi => (by simp [r_g, hi]), by rw [r_gf (by omega), r_gf (by omega)]⟩
    · rw [ex]
      have := a8 i hi
      unfold upd
      rw [if_neg (by omega), if_neg (by omega), if_neg (by omega), if_neg (by omega)]
      exact this
    · rw [ex]
      unfold upd
      rw [if_neg (by omega), if_pos rfl, if_pos rfl]
      exact ⟨rfl, rfl⟩
    · unfold Cs pc pz
      simp only [r_LI, r_LX]
      simp [r_g]
      omega
  · refine w_in (nI_nlt (by omega) (by omega)) ?_
    rw [nI_2]
    have hk0 := K_dn hfr
    obtain ⟨hIa, ca⟩ := Inv_gf (a := dn S) (v := 2) (k := 12) hI hk0 (Or.inr rfl)
    obtain ⟨rc, S1, C1, Z1, eD1, rfl, rfl, rfl, n1, hS, kq, lq, xq⟩ := copy_run (e0 := e0) (m := 2 * dL S (g 14 7)) hfr a2 rfl (by omega) (by omega)
    obtain ⟨hIb, cb⟩ := Inv_same hIa hS
    have hd1 := hIb.2.2.1.2.1
    refine w_bk eD1 <| w_chk hd1 <| w_lt ?_
    have a4b : dI S1 1105 d = nI (g 9 36) := by rw [((hS.2.2 d (by rw [hd]; decide)).2.2.2.2 1105).1]; exact a4
    rw [note34 (S := sP S1 1104 d (some (dn S))) (b := dn S) (L := g 9 36) hd1 (by simp [r_KI, r_LI, r_PI, r_XI, r_YI, r_nI, r_II, r_KP, r_LP, r_IP, r_XP, r_YP, r_nP, r_PP, r_KX, r_LX, r_IX, r_PX, r_YX, r_nX, r_XX, r_KY, r_LY, r_IY, r_PY, r_XY, r_nY, r_YY, r_KO, r_LO, r_IO, r_PO, r_XO, r_YO, r_nO, r_KA, r_LA, r_IA, r_PA, r_XA, r_YA, r_nA, r_KB, r_LB, r_IB, r_PB, r_XB, r_YB, r_nB]) kq a4b (by rw [r_LP, lq]; omega) (by rw [r_LP, lq]; omega)]
    refine w_some ?_
    rw [eM]
    generalize hga : gput g 12 (dn S) 2 = ga at hIa ca hIb cb
    have e9 : ga 9 = g 9 := by rw [← hga]; exact r_gf (by omega)
    have e14 : ga 14 = g 14 := by rw [← hga]; exact r_gf (by omega)
    have e12 : ga 12 (dn S) = 2 := by rw [← hga]; simp [r_g]
    have ex : dX (sI (sX (sX (sP S1 1104 d (some (dn S))) (dn S) (upd (dX (sP S1 1104 d (some (dn S))) (dn S)) (2 * g 9 36) who)) (dn S) (upd (upd (dX (sP S1 1104 d (some (dn S))) (dn S)) (2 * g 9 36) who) (2 * g 9 36 + 1) arg)) 1105 d (nI (g 9 36 + 1))) (dn S) = upd (upd (dX S1 (dn S)) (2 * g 9 36) who) (2 * g 9 36 + 1) arg := by simp [r_KI, r_LI, r_PI, r_XI, r_YI, r_nI, r_II, r_KP, r_LP, r_IP, r_XP, r_YP, r_nP, r_PP, r_KX, r_LX, r_IX, r_PX, r_YX, r_nX, r_XX, r_KY, r_LY, r_IY, r_PY, r_XY, r_nY, r_YY, r_KO, r_LO, r_IO, r_PO, r_XO, r_YO, r_nO, r_KA, r_LA, r_IA, r_PA, r_XA, r_YA, r_nA, r_KB, r_LB, r_IB, r_PB, r_XB, r_YB, r_nB]
    have hP := P_log (c' := dn S) (who := who) (arg := arg) (S' := sI (sX (sX (sP S1 1104 d (some (dn S))) (dn S) (upd (dX (sP S1 1104 d (some (dn S))) (dn S)) (2 * g 9 36) who)) (dn S) (upd (upd (dX (sP S1 1104 d (some (dn S))) (dn S)) (2 * g 9 36) who) (2 * g 9 36 + 1) arg)) 1105 d (nI (g 9 36 + 1))) hIb kq e12 (by rw [e9]; exact hL) (by rw [lq]; omega) (by rw [e9, lq]; omega) (by rw [e9, lq]; omega) rfl rfl rfl rfl (fun y hy => by simp [r_KI, r_LI, r_PI, r_XI, r_YI, r_nI, r_II, r_KP, r_LP, r_IP, r_XP, r_YP, r_nP, r_PP, r_KX, r_LX, r_IX, r_PX, r_YX, r_nX, r_XX, r_KY, r_LY, r_IY, r_PY, r_XY, r_nY, r_YY, r_KO, r_LO, r_IO, r_PO, r_XO, r_YO, r_nO, r_KA, r_LA, r_IA, r_PA, r_XA, r_YA, r_nA, r_KB, r_LB, r_IB, r_PB, r_XB, r_YB, r_nB, hy]) (fun f hf => funext fun y => by simp [r_KI, r_LI, r_PI, r_XI, r_YI, r_nI, r_II, r_KP, r_LP, r_IP, r_XP, r_YP, r_nP, r_PP, r_KX, r_LX, r_IX, r_PX, r_YX, r_nX, r_XX, r_KY, r_LY, r_IY, r_PY, r_XY, r_nY, r_YY, r_KO, r_LO, r_IO, r_PO, r_XO, r_YO, r_nO, r_KA, r_LA, r_IA, r_PA, r_XA, r_YA, r_nA, r_KB, r_LB, r_IB, r_PB, r_XB, r_YB, r_nB, hf]) (by rw [e9]; simp [r_KI, r_LI, r_PI, r_XI, r_YI, r_nI, r_II, r_KP, r_LP, r_IP, r_XP, r_YP, r_nP, r_PP, r_KX, r_LX, r_IX, r_PX, r_YX, r_nX, r_XX, r_KY, r_LY, r_IY, r_PY, r_XY, r_nY, r_YY, r_KO, r_LO, r_IO, r_PO, r_XO, r_YO, r_nO, r_KA, r_LA, r_IA, r_PA, r_XA, r_YA, r_nA, r_KB, r_LB, r_IB, r_PB, r_XB, r_YB, r_nB]) (fun f hf => funext fun y => by simp [r_KI, r_LI, r_PI, r_XI, r_YI, r_nI, r_II, r_KP, r_LP, r_IP, r_XP, r_YP, r_nP, r_PP, r_KX, r_LX, r_IX, r_PX, r_YX, r_nX, r_XX, r_KY, r_LY, r_IY, r_PY, r_XY, r_nY, r_YY, r_KO, r_LO, r_IO, r_PO, r_XO, r_YO, r_nO, r_KA, r_LA, r_IA, r_PA, r_XA, r_YA, r_nA, r_KB, r_LB, r_IB, r_PB, r_XB, r_YB, r_nB, hf]) (by simp [r_KI, r_LI, r_PI, r_XI, r_YI, r_nI, r_II, r_KP, r_LP, r_IP, r_XP, r_YP, r_nP, r_PP, r_KX, r_LX, r_IX, r_PX, r_YX, r_nX, r_XX, r_KY, r_LY, r_IY, r_PY, r_XY, r_nY, r_YY, r_KO, r_LO, r_IO, r_PO, r_XO, r_YO, r_nO, r_KA, r_LA, r_IA, r_PA, r_XA, r_YA, r_nA, r_KB, r_LB, r_IB, r_PB, r_XB, r_YB, r_nB]) (fun i hi => ?_) ?_ rfl rfl
    · rw [e9] at hP
      refine v_some ⟨_, hP, WF_trans (WF_cf (CF_trans ca cb)) (WF_note hd1 rfl (fun f a ha => ⟨by simp [r_KI, r_LI, r_PI, r_XI, r_YI, r_nI, r_II, r_KP, r_LP, r_IP, r_XP, r_YP, r_nP, r_PP, r_KX, r_LX, r_IX, r_PX, r_YX, r_nX, r_XX, r_KY, r_LY, r_IY, r_PY, r_XY, r_nY, r_YY, r_KO, r_LO, r_IO, r_PO, r_XO, r_YO, r_nO, r_KA, r_LA, r_IA, r_PA, r_XA, r_YA, r_nA, r_KB, r_LB, r_IB, r_PB, r_XB, r_YB, r_nB, ha], by simp [r_KI, r_LI, r_PI, r_XI, r_YI, r_nI, r_II, r_KP, r_LP, r_IP, r_XP, r_YP, r_nP, r_PP, r_KX, r_LX, r_IX, r_PX, r_YX, r_nX, r_XX, r_KY, r_LY, r_IY, r_PY, r_XY, r_nY, r_YY, r_KO, r_LO, r_IO, r_PO, r_XO, r_YO, r_nO, r_KA, r_LA, r_IA, r_PA, r_XA, r_YA, r_nA, r_KB, r_LB, r_IB, r_PB, r_XB, r_YB, r_nB, ha]⟩) rfl rfl), ?_, by simp [r_g, e9], by simp [r_g, e9], by simp [r_g, e9], by simp [r_g], ?_, m51, by simp [r_g, e14], fun i hi => (by simp [r_g, hi, e9]), by rw [r_gf (by omega), r_gf (by omega), ← hga, r_gf (by omega)]⟩
      · have h4 : dL S1 (g 14 4) = dL S (g 14 4) := (hS.2.2 _ l4).2.1
        have h5 : dL S1 (g 14 5) = dL S (g 14 5) := (hS.2.2 _ l5).2.1
        unfold Cs pc pz
        simp only [r_LI, r_LX, r_LP]
        simp [r_g, e9, e14, h4, h5, lq]
        omega
      · have : dI S1 1109 d = dI S 1109 d := ((hS.2.2 d (by rw [hd]; decide)).2.2.2.2 1109).1
        simp [r_KI, r_LI, r_PI, r_XI, r_YI, r_nI, r_II, r_KP, r_LP, r_IP, r_XP, r_YP, r_nP, r_PP, r_KX, r_LX, r_IX, r_PX, r_YX, r_nX, r_XX, r_KY, r_LY, r_IY, r_PY, r_XY, r_nY, r_YY, r_KO, r_LO, r_IO, r_PO, r_XO, r_YO, r_nO, r_KA, r_LA, r_IA, r_PA, r_XA, r_YA, r_nA, r_KB, r_LB, r_IB, r_PB, r_XB, r_YB, r_nB, this]
    · rw [e9] at hi
      rw [ex]
      have h8 := a8 i hi
      unfold upd
      rw [if_neg (by omega), if_neg (by omega), if_neg (by omega), if_neg (by omega), xq _ (by omega) (by omega), xq _ (by omega) (by omega)]
      exact h8
    · rw [e9, ex]
      unfold upd
      rw [if_neg (by omega), if_pos rfl, if_pos rfl]
      exact ⟨rfl, rfl⟩
theorem Cs_id (h : dL S' = dL S) : Cs 0 g S g S' 0 0 := by
  unfold Cs pz; rw [h]; omega
theorem i1109 {f a : Nat} {b : Int32} (hf : f ≠ 1109) : dI (sI S 1109 d b) f a = dI S f a := by rw [r_II, if_neg (fun h => hf h.1)]
/-- a handler is called -/
theorem s_hcall {h : Nat} {v : Int32} (hI : Inv e0 d t 0 g w S M) (hh : h < g 9 33) (hL : g 9 36 ≤ 4000) (hO : g 9 1 + 1 ≤ 3000) (hn : 4000 < n) : RD (q_X8_callIn e0 n S (g 2 h) (some d) v) (fun r S' C Z => RM (q_handle n M (nI h) v) (fun r' M' => r' = r ∧ ∃ g' w', Inv e0 d t 0 g' w' S' M' ∧ WF g S M g' S' M' ∧ Cs 9 g S g' S' C Z ∧ dI S' 1109 d = M' 51 0 ∧ isB (M' 51 0) ∧ g' 9 1 ≤ g 9 1 + 1 ∧ g' 9 22 = g 9 22 ∧ g' 9 36 = g 9 36 + 1 ∧ g' 14 1 = g 14 1)) := by
  have hN := Inv_nums hI
  have hd := hI.2.2.1.2.1
  obtain ⟨k1, k2, -⟩ := hI.2.2.2.2.2.2.2.1 h hh
  obtain ⟨rn, S1, C1, Z1, eD1, M1, eM1, g1, hI1, f1, cs1, o1, o2, o3, o4, t1, t2, t3, -, -⟩ := s_note (who := nI h) (arg := v) hI hL
  have hd1 := hI1.2.2.1.2.1
  have hN1 := Inv_nums hI1
  have eg2 : g1 2 h = g 2 h := f1.2.2.2.2.1 h hh
  have hh1 : h < g1 9 33 := by have := f1.2.1.2.2.2.2.2.1; omega
  obtain ⟨j1, j2, j3, j4, j5⟩ := hI1.2.2.2.2.2.2.2.1 h hh1
  rw [eg2] at j1 j2 j3 j4 j5
  have ch : (nI h).toNatClampNeg = h := nI_clamp (by omega)
  have hih : inb (nI h) 1000 := inb_nI (by omega) (by omega)
  have core : ∀ z0 : Int32, z0 = (if M1 31 h = 2 ∨ M1 31 h = 3 then 1 else 0) → RD (q_X8_callIn_39 e0 n S1 (g 2 h) (some d) v z0 (some d)) (fun r S' C Z => RM (q_handle_32 n M1 (nI h) v z0) (fun r' M' => r' = r ∧ ∃ g' w', Inv e0 d t 0 g' w' S' M' ∧ WF g1 S1 M1 g' S' M' ∧ Cs 0 g1 S1 g' S' C Z ∧ dI S' 1109 d = M' 51 0 ∧ isB (M' 51 0) ∧ g' 9 1 ≤ g1 9 1 + 1 ∧ g' 9 22 = g1 9 22 ∧ g' 9 36 = g1 9 36 ∧ g' 14 1 = g1 14 1)) := by
    intro z0 hz0
    have hzB : isB z0 := by rw [hz0]; split; exact Or.inr rfl; exact Or.inl rfl
    have hI2 : Inv e0 d t 0 g1 w (sI S1 1109 d z0) (mput M1 51 0 z0) := Inv_m (Or.inr rfl) (Inv_1109 hI1)
    have f2 : WF g1 S1 M1 g1 (sI S1 1109 d z0) (mput M1 51 0 z0) := WF_th hd1 (Or.inr rfl)
    have i31 : mput M1 51 0 z0 31 h = M1 31 h := by rw [r_m, if_neg (by omega)]
    have i32 : mput M1 51 0 z0 32 h = M1 32 h := by rw [r_m, if_neg (by omega)]
    have p51 : dI (sI S1 1109 d z0) 1109 d = mput M1 51 0 z0 51 0 := by simp [r_II, r_m]
    have p51b : isB (mput M1 51 0 z0 51 0) := by simp [r_m]; exact hzB
    unfold q_X8_callIn_39 q_handle_32
    rw [ch]
    refine w_bnd rfl <| w_chk hd1 <| w_chk hzB <| w_lt <| w_chk j1 ?_
    rw [i1109 (by decide), i1109 (by decide), j3, j4]
    have fin : ∀ r : Int32, r = r ∧ ∃ g' w', Inv e0 d t 0 g' w' (sI S1 1109 d z0) (mput M1 51 0 z0) ∧ WF g1 S1 M1 g' (sI S1 1109 d z0) (mput M1 51 0 z0) ∧ Cs 0 g1 S1 g' (sI S1 1109 d z0) 0 0 ∧ dI (sI S1 1109 d z0) 1109 d = mput M1 51 0 z0 51 0 ∧ isB (mput M1 51 0 z0 51 0) ∧ g' 9 1 ≤ g1 9 1 + 1 ∧ g' 9 22 = g1 9 22 ∧ g' 9 36 = g1 9 36 ∧ g' 14 1 = g1 14 1 := fun r => ⟨rfl, g1, w, hI2, f2, Cs_id rfl, p51, p51b, by omega, rfl, rfl, rfl⟩
    rcases j5 with e | e | e | e | ⟨e, p, r, q1, q2, q3, q4, q5, q6⟩
    · refine w_ip e <| w_some ?_
      refine m_chk hzB <| m_lt <| m_chk hih ?_
      rw [i31, i32]
      exact m_ip e <| m_chk hih <| m_some (fin _)
    · refine w_in (by rw [e]; decide) <| w_ip e <| w_some ?_
      refine m_chk hzB <| m_lt <| m_chk hih ?_
      rw [i31, i32]
      exact m_in (by rw [e]; decide) <| m_ip e <| m_some (fin _)
    · refine w_in (by rw [e]; decide) <| w_in (by rw [e]; decide) <| w_ip e <| w_some ?_
      refine m_chk hzB <| m_lt <| m_chk hih ?_
      rw [i31, i32]
      exact m_in (by rw [e]; decide) <| m_in (by rw [e]; decide) <| m_ip e <| m_chk hih <| m_some (fin _)
    · refine w_in (by rw [e]; decide) <| w_in (by rw [e]; decide) <| w_in (by rw [e]; decide) <| w_ip e <| w_some ?_
      refine m_chk hzB <| m_lt <| m_chk hih ?_
      rw [i31, i32]
      exact m_in (by rw [e]; decide) <| m_in (by rw [e]; decide) <| m_in (by rw [e]; decide) <| m_ip e <| m_some (fin _)
    · have n0 : ¬ M1 31 h = 0 := by rcases e with e | e <;> rw [e] <;> decide
      have n1 : ¬ M1 31 h = 1 := by rcases e with e | e <;> rw [e] <;> decide
      have n2 : ¬ M1 31 h = 2 := by rcases e with e | e <;> rw [e] <;> decide
      have n3 : ¬ M1 31 h = 3 := by rcases e with e | e <;> rw [e] <;> decide
      have z00 : z0 = 0 := by rw [hz0, if_neg (by intro h; rcases h with h | h; exact n2 h; exact n3 h)]
      have i6 : mput M1 51 0 z0 6 p = nI r := by rw [r_m, if_neg (by omega)]; exact q4
      have hip : inb (nI p) 3000 := inb_nI (by omega) (by omega)
      have fin2 : ∀ {g2 w2 S2 M2 C2 Z2}, Inv e0 d t 0 g2 w2 S2 M2 → CF g1 (sI S1 1109 d z0) (mput M1 51 0 z0) g2 S2 M2 → Cs 0 g1 (sI S1 1109 d z0) g2 S2 C2 Z2 → g2 9 1 ≤ g1 9 1 + 1 → g2 9 22 = g1 9 22 → (-1 : Int32) = -1 ∧ ∃ g' w', Inv e0 d t 0 g' w' S2 (mput M2 51 0 0) ∧ WF g1 S1 M1 g' S2 (mput M2 51 0 0) ∧ Cs 0 g1 S1 g' S2 C2 Z2 ∧ dI S2 1109 d = mput M2 51 0 0 51 0 ∧ isB (mput M2 51 0 0 51 0) ∧ g' 9 1 ≤ g1 9 1 + 1 ∧ g' 9 22 = g1 9 22 ∧ g' 9 36 = g1 9 36 ∧ g' 14 1 = g1 14 1 := by
        intro g2 w2 S2 M2 C2 Z2 hI3 c3 cs3 x1 x2
        refine ⟨rfl, g2, w2, Inv_m (Or.inr rfl) hI3, WF_trans f2 (WF_trans (WF_cf c3) (WF_m (Or.inr rfl))), cs3, ?_, by simp [r_m]; exact Or.inl rfl, x1, x2, c3.2.1.2.2.2.2.2.2.1, c3.2.1.2.2.2.2.2.2.2.2.2.2.2.2.2.2.2.2.2.2.2.2.2 1 (by decide)⟩
        rw [((c3.1.2 d (by rw [hI2.2.2.1.2.1]; decide)).2.2.2 1109 rfl).1, p51]
        simp [r_m, z00]
      refine w_in n0 <| w_in n1 <| w_in n2 <| w_in n3 ?_
      have hMq : ∀ Q, RM (if M1 31 h = 4 then bnd (q_resolve n (mput M1 51 0 z0) (nI r) v) (fun M5 => some ((-1 : Int32), mput M5 51 0 0)) else bnd (q_reject n (mput M1 51 0 z0) (nI r) v) (fun M3 => some ((-1 : Int32), mput M3 51 0 0))) Q → RM (chk (isB z0) (lt9 (mput M1 51 0 z0) (fun M2 => chk (inb (nI h) 1000) (if (M2 31 h) = 0 then chk (inb (nI h) 1000) (some (M2 32 h, M2)) else if (M2 31 h) = 1 then some (v, M2) else if (M2 31 h) = 2 then chk (inb (nI h) 1000) (some (M2 32 h, M2)) else if (M2 31 h) = 3 then some (v, M2) else chk (inb (nI h) 1000) (chk (inb ((-2) - (M2 32 h)) 3000) (chk (inb (nI h) 1000) (if (M2 31 h) = 4 then bnd (q_resolve n M2 (M2 6 ((-2) - (M2 32 h)).toNatClampNeg) v) (fun M5 => chk (isB 0) (lt9 (mput M5 51 0 0) (fun M6 => some ((-1), M6)))) else bnd (q_reject n M2 (M2 6 ((-2) - (M2 32 h)).toNatClampNeg) v) (fun M3 => chk (isB 0) (lt9 (mput M3 51 0 0) (fun M4 => some ((-1), M4))))))))))) Q := by
        intro Q hQ
        refine m_chk hzB <| m_lt <| m_chk hih ?_
        rw [i31, i32, q1, i2, nI_clamp (by omega), i6]
        have e1 : ∀ M5 : MS, chk (isB 0) (lt9 (mput M5 51 0 0) (fun M6 => some ((-1 : Int32), M6))) = some (-1, mput M5 51 0 0) := fun M5 => chk_i (Or.inl rfl)
        simp only [e1]
        exact m_in n0 <| m_in n1 <| m_in n2 <| m_in n3 <| m_chk hih <| m_chk hip <| m_chk hih hQ
      have hd2 : dK (sI S1 1109 d z0) d = 12 := hd1
      have q6' : dP (sI S1 1109 d z0) 803 (g 2 h) = some (g1 1 r) := q6
      rw [q6']
      by_cases e4 : M1 31 h = 4
      · obtain ⟨r3, S3, C3, Z3, eD3, M3, eM3, g3, w3, hI3, c3, cs3, y1, y2, y3⟩ := s_resolve (n := n) (v := v) hI2 q5 (by omega) hn
        refine w_ip e4 <| w_bnd rfl <| w_chk hd2 <| w_bk eD3 <| w_some ?_
        refine hMq _ (m_ip e4 ?_)
        rw [eM3, bnd_s]
        exact m_some (fin2 hI3 c3 (Cs_le cs3 (by omega) (by omega)) y1 y3)
      · obtain ⟨r3, S3, C3, Z3, eD3, M3, eM3, g3, w3, hI3, c3, cs3, y1, y2, y3⟩ := s_reject (n := n) (v := v) hI2 q5 hn
        refine w_in e4 <| w_bnd rfl <| w_chk hd2 <| w_bk eD3 <| w_some ?_
        refine hMq _ (m_in e4 ?_)
        rw [eM3, bnd_s]
        exact m_some (fin2 hI3 c3 (Cs_le cs3 (by omega) (by omega)) (by omega) y3)
  have hMh : ∀ z0 : Int32, z0 = (if M1 31 h = 2 ∨ M1 31 h = 3 then 1 else 0) → q_handle n M (nI h) v = q_handle_32 n M1 (nI h) v z0 := by
    intro z0 hz0
    unfold q_handle q_handle_27
    rw [eM1, bnd_s, chk_i hih, ch]
    by_cases e2 : M1 31 h = 2
    · rw [if_pos (Or.inl e2)] at hz0
      rw [if_pos e2, hz0]
    · rw [if_neg e2, chk_i hih]
      by_cases e3 : M1 31 h = 3
      · rw [if_pos (Or.inr e3)] at hz0
        rw [if_pos e3, hz0]
      · rw [if_neg (by intro h; rcases h with h | h; exact e2 h; exact e3 h)] at hz0
        rw [if_neg e3, hz0]
  have post : ∀ z0 : Int32, z0 = (if M1 31 h = 2 ∨ M1 31 h = 3 then 1 else 0) → RD (q_X8_callIn_39 e0 n S1 (g 2 h) (some d) v z0 (some d)) (fun r S' C Z => RM (q_handle n M (nI h) v) (fun r' M' => r' = r ∧ ∃ g' w', Inv e0 d t 0 g' w' S' M' ∧ WF g S M g' S' M' ∧ Cs 9 g S g' S' (C1 + C) (Z1 + Z) ∧ dI S' 1109 d = M' 51 0 ∧ isB (M' 51 0) ∧ g' 9 1 ≤ g 9 1 + 1 ∧ g' 9 22 = g 9 22 ∧ g' 9 36 = g 9 36 + 1 ∧ g' 14 1 = g 14 1)) := by
    intro z0 hz0
    refine w_mono (core z0 hz0) ?_
    rintro r S' C Z ⟨r', M', eM', er, g', w', y1, y2, y3, y4, y5, y6, y7, y8, y9⟩
    rw [hMh z0 hz0]
    exact ⟨r', M', eM', er, g', w', y1, WF_trans f1 y2, Cs_le (Cs_trans cs1 y3) (by omega) (by omega), y4, y5, by omega, by omega, by omega, by omega⟩
  unfold q_X8_callIn
  refine w_chk k1 <| w_in (by rw [k2]; exact nI_m1 (by omega)) <| w_bnd rfl <| w_chk hd ?_
  rw [k2]
  refine w_bk eD1 ?_
  unfold q_X8_callIn_17 q_X8_callIn_34
  refine w_chk j1 ?_
  rw [j3]
  by_cases e2 : M1 31 h = 2
  · exact w_ip e2 (post 1 (by rw [if_pos (Or.inl e2)]))
  · refine w_in e2 ?_
    by_cases e3 : M1 31 h = 3
    · exact w_ip e3 (post 1 (by rw [if_pos (Or.inr e3)]))
    · exact w_in e3 (post 0 (by rw [if_neg (by intro h; rcases h with h | h; exact e2 h; exact e3 h)]))
end CAL
