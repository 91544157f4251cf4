section FOL
variable {e0 d t x n : Nat} {g g' : GH} {w w' : Nat → List Nat} {S S' S1 S2 S0 : DS} {M M' M1 : MS}
def mkS (S : DS) (z : Int32) (p : Option Nat) : DS := sP (sI (sI (sI (sO S 9) 800 (dn S) (-1)) 801 (dn S) z) 802 (dn S) (-1)) 803 (dn S) p
theorem resv_run {p : Option Nat} : q_X8_resolving e0 S p = some (some (dn S), mkS S 4 p, 1, 4) := by
  refine RD_eq ?_
  unfold q_X8_resolving q_X8_init q_X3_init
  exact w_tick <| w_lt <| w_lt <| w_bndc <| w_bndc <| w_some <| w_chk (by simp [r_KI, r_LI, r_PI, r_XI, r_YI, r_nI, r_II, r_KP, r_LP, r_IP, r_XP, r_YP, r_nP, r_PP, r_KX, r_LX, r_IX, r_PX, r_YX, r_nX, r_XX, r_KY, r_LY, r_IY, r_PY, r_XY, r_nY, r_YY, r_KO, r_LO, r_IO, r_PO, r_XO, r_YO, r_nO, r_KA, r_LA, r_IA, r_PA, r_XA, r_YA, r_nA, r_KB, r_LB, r_IB, r_PB, r_XB, r_YB, r_nB]) <| w_lt <| w_lt <| w_lt <| w_lt <| w_some <| w_some ⟨rfl, rfl, rfl, rfl⟩
theorem rej_run {p : Option Nat} : q_X8_rejecting e0 S p = some (some (dn S), mkS S 5 p, 1, 4) := by
  refine RD_eq ?_
  unfold q_X8_rejecting q_X8_init q_X3_init
  exact w_tick <| w_lt <| w_lt <| w_bndc <| w_bndc <| w_some <| w_chk (by simp [r_KI, r_LI, r_PI, r_XI, r_YI, r_nI, r_II, r_KP, r_LP, r_IP, r_XP, r_YP, r_nP, r_PP, r_KX, r_LX, r_IX, r_PX, r_YX, r_nX, r_XX, r_KY, r_LY, r_IY, r_PY, r_XY, r_nY, r_YY, r_KO, r_LO, r_IO, r_PO, r_XO, r_YO, r_nO, r_KA, r_LA, r_IA, r_PA, r_XA, r_YA, r_nA, r_KB, r_LB, r_IB, r_PB, r_XB, r_YB, r_nB]) <| w_lt <| w_lt <| w_lt <| w_lt <| w_some <| w_some ⟨rfl, rfl, rfl, rfl⟩
theorem mkS_same {z : Int32} {p : Option Nat} (hfr : dFr S) : Same S (mkS S z p) := by
  have hk0 := K_dn hfr
  exact Same_sP (Same_sI (Same_sI (Same_sI (Same_sO hfr (by decide)) hk0) hk0) hk0) hk0
theorem mkS_at {z : Int32} {p : Option Nat} : dK (mkS S z p) (dn S) = 9 ∧ dI (mkS S z p) 800 (dn S) = -1 ∧ dI (mkS S z p) 801 (dn S) = z ∧ dP (mkS S z p) 803 (dn S) = p := by
  unfold mkS; simp [r_KI, r_LI, r_PI, r_XI, r_YI, r_nI, r_II, r_KP, r_LP, r_IP, r_XP, r_YP, r_nP, r_PP, r_KX, r_LX, r_IX, r_PX, r_YX, r_nX, r_XX, r_KY, r_LY, r_IY, r_PY, r_XY, r_nY, r_YY, r_KO, r_LO, r_IO, r_PO, r_XO, r_YO, r_nO, r_KA, r_LA, r_IA, r_PA, r_XA, r_YA, r_nA, r_KB, r_LB, r_IB, r_PB, r_XB, r_YB, r_nB]
theorem same_at {a : Nat} (h : Same S S1) (h1 : dK S a = 9) : dK S1 a = 9 ∧ dI S1 800 a = dI S 800 a ∧ dI S1 801 a = dI S 801 a ∧ dP S1 803 a = dP S 803 a := by
  have p := h.2.2 a (by rw [h1]; decide)
  exact ⟨p.1.trans h1, (p.2.2.2.2 800).1, (p.2.2.2.2 801).1, (p.2.2.2.2 803).2⟩
theorem fn_23 {a r : Nat} {kd : Int32} (hk : kd = 2 ∨ kd = 3) (hr : r < g 9 15) (h1 : dK S a = 9) (h2 : dI S 800 a = -1) (h3 : dI S 801 a = if kd = 2 then 4 else 5) (h4 : dP S 803 a = some (g 1 r)) : fn g S M (some a) kd (nI r) := Or.inr (Or.inr (Or.inl ⟨hk, r, a, rfl, hr, rfl, h1, h2, h3, h4⟩))
theorem tk_1 {o a : Nat} (h : tk g S M o a) (h2 : M 2 o = 1) : dK S a = 10 ∧ dI S 903 a = M 8 o ∧ dI S 904 a = M 9 o ∧ dI S 905 a = M 10 o ∧ dI S 906 a = M 11 o ∧ dI S 907 a = M 12 o ∧ kp g (dP S 908 a) (M 6 o) := by
  rcases h with ⟨t1, -⟩ | ⟨t1, t2, t3, t4, t5, t6, t7, t8, t9⟩ | ⟨t1, -⟩ | ⟨t1, -⟩ | ⟨t1, -⟩
  · rw [h2] at t1; exact absurd t1 (by decide)
  · exact ⟨t2, t4, t5, t6, t7, t8, t9⟩
  · rw [h2] at t1; exact absurd t1 (by decide)
  · rw [h2] at t1; exact absurd t1 (by decide)
  · rw [h2] at t1; exact absurd t1 (by decide)
def BD (g g' : GH) : Prop := g' 9 22 = g 9 22 ∧ g' 11 = g 11 ∧ g' 9 50 = g 9 50 ∧ g' 9 38 = g 9 38 ∧ g' 9 42 = g 9 42 ∧ g' 9 15 = g 9 15 ∧ g 9 1 ≤ g' 9 1 ∧ g' 9 36 = g 9 36 ∧ g' 14 1 = g 14 1
theorem BD_cf (c : CF g S M g' S' M') (h1 : g' 9 22 = g 9 22) (h2 : g' 9 15 = g 9 15) : BD g g' := by
  have h14 := cf_14 c (i := 1) (by decide)
  have hG := c.2.1
  unfold GE at hG
  unfold BD
  clear c; grind
theorem BD_refl : BD g g := ⟨rfl, rfl, rfl, rfl, rfl, rfl, Nat.le_refl _, rfl, rfl⟩
theorem s_act {o r : Nat} {act v : Int32} (hI : Inv e0 d t 0 g w S M) (ho : o < g 9 1) (ho2 : M 2 o = 1) (hr : r < g 9 15) (hO : g 9 1 + 1 ≤ 3000) (hn : 4000 < n) : RD (q_X11_doAct e0 n S d (some (g 0 o)) act v (some (g 1 r))) (fun _ S' C Z => RM (q_does n M (nI o) act v (nI r)) (fun r' M' => r' = (if act = 3 then 1 else 0) ∧ ∃ g' w', Inv e0 d t 0 g' w' S' M' ∧ WF g S M g' S' M' ∧ Cs 0 g S g' S' C Z ∧ BD g g' ∧ g' 9 1 ≤ g 9 1 + 1)) := by
  have hN := Inv_nums hI
  have hd := hI.2.2.1.2.1
  have hio : inb (nI o) 3000 := inb_nI (by omega) (by omega)
  have co : (nI o).toNatClampNeg = o := nI_clamp (by omega)
  have h58 : ∀ M9 : MS, q_does_58 n M9 act = some (if act = 3 then 1 else 0, M9) := by
    intro M9
    unfold q_does_58
    by_cases h : act = 3
    · rw [if_pos h, if_pos h, chk_i (Or.inr rfl)]
    · rw [if_neg h, if_neg h, chk_i (Or.inl rfl)]
  unfold q_X11_doAct q_does
  by_cases h1 : act = 1
  · obtain ⟨r3, S3, C3, Z3, eD3, M3, eM3, g3, w3, hI3, c3, cs3, y1, y2, y3⟩ := s_resolve (n := n) (v := v) hI hr hO hn
    refine w_ip h1 <| w_chk hd <| w_bk eD3 <| w_some ?_
    rw [if_pos h1, eM3, bnd_s, h58]
    exact m_some ⟨rfl, g3, w3, hI3, WF_cf c3, Cs_le cs3 (by omega) (by omega), BD_cf c3 y3 y2, y1⟩
  · refine w_in h1 ?_
    rw [if_neg h1]
    by_cases h23 : act = 2 ∨ act = 3
    · obtain ⟨r3, S3, C3, Z3, eD3, M3, eM3, g3, w3, hI3, c3, cs3, y1, y2, y3⟩ := s_reject (n := n) (v := v) hI hr hn
      have hfin : RM (q_does_58 n M3 act) (fun r' M' => r' = (if act = 3 then 1 else 0) ∧ ∃ g' w', Inv e0 d t 0 g' w' S3 M' ∧ WF g S M g' S3 M' ∧ Cs 0 g S g' S3 C3 Z3 ∧ BD g g' ∧ g' 9 1 ≤ g 9 1 + 1) := by
        rw [h58]
        exact m_some ⟨rfl, g3, w3, hI3, WF_cf c3, Cs_le cs3 (by omega) (by omega), BD_cf c3 y3 y2, by omega⟩
      by_cases h2 : act = 2
      · refine w_ip h2 <| w_chk hd <| w_bk eD3 <| w_some ?_
        rw [if_pos h2, eM3, bnd_s]
        exact hfin
      · have h3 : act = 3 := by rcases h23 with h | h; exact absurd h h2; exact h
        refine w_in h2 <| w_ip h3 <| w_chk hd <| w_bk eD3 <| w_some ?_
        refine m_in h2 <| m_ip h3 ?_
        rw [eM3, bnd_s]
        exact hfin
    · have h2 : ¬ act = 2 := fun h => h23 (Or.inl h)
      have h3 : ¬ act = 3 := fun h => h23 (Or.inr h)
      refine w_in h2 <| w_in h3 ?_
      by_cases h4 : act = 4
      · have hK : dK S (g 0 o) = 10 := (tk_1 (hI.2.2.2.2.2.1.1 o ho).2.2.2 ho2).1
        refine w_ip h4 <| w_bnd rfl <| w_chk hK <| w_lt <| w_some ?_
        refine m_in h2 <| m_in h3 <| m_ip h4 <| m_chk hio <| m_lt ?_
        rw [h58, co]
        refine m_some ⟨rfl, g, w, P_kp hI ho hr (Or.inr ⟨rfl, ho2⟩), WF_mk (fun a _ => ⟨rfl, fun _ f _ _ _ _ h9 => ⟨rfl, by rw [r_PP, if_neg (fun h => h9 h.1)]⟩⟩) (fun _ _ _ _ => rfl) (Nat.le_refl _) (fun _ _ => rfl) (fun k _ _ h6 => r_mf h6), Cs_id rfl, BD_refl, by omega⟩
      · refine w_in h4 <| w_some ?_
        refine m_in h2 <| m_in h3 <| m_in h4 ?_
        rw [h58]
        exact m_some ⟨rfl, g, w, hI, WF_refl, Cs_id rfl, BD_refl, by omega⟩
/-- the job that follows a promise or a thenable -/
theorem s_fjob {a j o p b : Nat} (hI : Inv e0 d t 0 g w S M) (ht : t < 512) (hop : g 14 1 = 0) (hO : g 9 1 + 8 ≤ 3000) (hL : g 9 36 ≤ 4000) (hn : 4000 < n) (ha : dK S a = 5) (hj : j < g 9 29) (b28 : M 28 j = 1) (h403 : dP S 403 a = none) (h24 : M 24 j = nI o) (ho : o < g 9 1) (ho2 : M 2 o = 0 ∨ M 2 o = 1) (h25 : M 25 j = nI p) (hp : p < g 9 1) (hp2 : M 2 p = 0) (h404 : dP S 404 a = some (g 0 o)) (h402 : dP S 402 a = some b) (hb : dK S b = 8) (h700 : dP S 700 b = some (g 0 p)) (h701 : dI S 701 b = 0) (h12 : g 12 b = 100000 + j) : RD (q_X11_doJob e0 n S d (some a)) (fun _ S' C Z => RV (jobM n M (nI j)) (fun M' => JP e0 d t g S S' C Z M M')) := by
  have hN := Inv_nums hI
  have hd := hI.2.2.1.2.1
  have hfr := hI.2.2.1.1
  have hij : inb (nI j) 24000 := inb_nI (by omega) (by omega)
  have cj : (nI j).toNatClampNeg = j := nI_clamp (by omega)
  have hio : inb (nI o) 3000 := inb_nI (by omega) (by omega)
  have co : (nI o).toNatClampNeg = o := nI_clamp (by omega)
  have bd := hI.2.1
  unfold A_bd at bd
  have hI0 := Inv_t (t' := t + 1) hI (by omega) (by omega) (by omega) (by omega)
  have k15 : M 15 0 = nI (g 9 15) := hI.1.2.1
  have hi15 : inb (nI (g 9 15)) 12000 := inb_nI (by omega) (by omega)
  have c15 : (nI (g 9 15)).toNatClampNeg = g 9 15 := nI_clamp (by omega)
  have erec : q_record M (nI p) = some (nI (g 9 15), mput (mput (mput M 15 0 (nI (g 9 15) + 1)) 13 (g 9 15) (nI p)) 14 (g 9 15) 0) := by
    unfold q_record
    rw [k15, c15, lt9_s, chk_i hi15, lt9_s, chk_i hi15, chk_i (Or.inl rfl), lt9_s]
  have hrec := P_rec (b := b) (p := p) (M' := mput (mput (mput M 15 0 (nI (g 9 15) + 1)) 13 (g 9 15) (nI p)) 14 (g 9 15) 0) hI0 hb h700 h701 hp hp2 (fun r hr e => by
      have := (hI.2.2.2.2.2.2.1 r hr).2.1
      rw [e, h12] at this; omega) (fun j' h1 h2 e => by
      have hj' := hI.2.2.2.2.2.2.2.2.2.2.1.2.2.2.2 j' h1 h2
      rcases hj'.2.2 with ⟨-, k, h3, h4, -⟩ | ⟨-, -, o', p', b', -, -, -, -, -, -, -, h5, h6, -, -, h7⟩
      · have hK := (hI.2.2.2.2.2.2.2.2.1 k h3).2.2.1
        rw [h4] at e
        rcases hK with ⟨-, h, -⟩ | ⟨-, -, ⟨r, hr, -, h⟩, -⟩
        · rw [h] at e; cases e
        · rw [h] at e
          have h8 := (hI.2.2.2.2.2.2.1 r hr).2.1
          rw [Option.some.inj e, h12] at h8; omega
      · rw [h5] at e
        rw [Option.some.inj e, h12] at h7; omega) (by omega) (by simp [r_m, nI_1]) (by simp [r_m]) (by simp [r_m]) (fun k i h1 h2 => by
      rw [r_m, if_neg (by omega), r_m, if_neg (by omega), r_m, if_neg (by omega)]) rfl
  obtain ⟨hI1, c1⟩ := hrec
  generalize hM1 : mput (mput (mput M 15 0 (nI (g 9 15) + 1)) 13 (g 9 15) (nI p)) 14 (g 9 15) 0 = M1 at *
  generalize hg1 : gput (gput (gput g 1 (g 9 15) b) 12 b (g 9 15)) 9 15 (g 9 15 + 1) = g1 at *
  have e9 : ∀ i, i ≠ 15 → g1 9 i = g 9 i := fun i hi => by rw [← hg1]; simp [r_g, hi]
  have e15 : g1 9 15 = g 9 15 + 1 := by rw [← hg1]; simp [r_g]
  have eg : ∀ k, k ≠ 1 → k ≠ 12 → k ≠ 9 → g1 k = g k := fun k h1 h2 h3 => by rw [← hg1, r_gf h3, r_gf h2, r_gf h1]
  have e1R : g1 1 (g 9 15) = b := by rw [← hg1]; simp [r_g]
  have m2 : M1 2 o = M 2 o := by rw [← hM1, r_m, if_neg (by omega), r_m, if_neg (by omega), r_m, if_neg (by omega)]
  have m0 : M1 0 = M 0 := by rw [← hM1, r_mf (by omega), r_mf (by omega), r_mf (by omega)]
  have hcs1 : Cs 10 g S g1 S 0 0 := by
    unfold Cs pc pz
    rw [e9 1 (by decide), e9 22 (by decide), e9 30 (by decide), e9 33 (by decide), e9 36 (by decide), e15, eg 14 (by decide) (by decide) (by decide)]
    omega
  have hMh : ∀ Q, RV (if M1 2 o = 0 then bnd2 (q_then n M1 (nI o) 2 (nI (g 9 15)) 3 (nI (g 9 15))) (fun r9 M8 => some M8) else bnd (q_note M1 (-2 - nI o) (-1)) (fun M3 => chk (inb (nI o) 3000) (chk (inb (nI o) 3000) (bnd2 (q_does n M3 (nI o) (M3 9 o) (M3 10 o) (nI (g 9 15))) (fun r5 M4 => if r5 = 0 then chk (inb (nI o) 3000) (chk (inb (nI o) 3000) (bnd2 (q_does n M4 (nI o) (M4 11 o) (M4 12 o) (nI (g 9 15))) (fun r7 M6 => some M6))) else some M4))))) Q → RV (jobM n M (nI j)) Q := by
    intro Q hQ
    unfold jobM
    rw [cj]
    refine v_chk hij <| v_in (by rw [b28]; decide) <| v_chk hij <| v_chk hij ?_
    rw [h24, h25, bnd_id]
    unfold q_thenJob
    rw [erec, bnd2_s, co]
    exact v_chk hio hQ
  unfold q_X11_doJob
  refine w_bnd rfl <| w_chk ha <| w_ip h403 ?_
  rw [h404, h402]
  rcases ho2 with ho2 | ho2
  · have hK : dK S (g 0 o) = 7 := T_7 hI ho ho2
    refine w_chk (decide_eq_true (Or.inl hK)) <| w_in (by rw [dinst_1 hK]; exact i32_10) <| w_bnd rfl <| w_chk hK ?_
    have hSa : Same S (mkS S 4 (some b)) := mkS_same hfr
    have hfra := hSa.2.1
    have hSb : Same (mkS S 4 (some b)) (mkS (mkS S 4 (some b)) 5 (some b)) := mkS_same hfra
    have hpa := hSa.2.2 a (by rw [ha]; decide)
    obtain ⟨a1, a2, a3, a4⟩ := mkS_at (S := S) (z := 4) (p := some b)
    obtain ⟨b1, b2, b3, b4⟩ := mkS_at (S := mkS S 4 (some b)) (z := 5) (p := some b)
    obtain ⟨d1, d2, d3, d4⟩ := same_at hSb a1
    refine w_bk resv_run <| w_chk (by rw [hpa.1]; exact ha) ?_
    rw [(hpa.2.2.2.2 402).2, h402]
    obtain ⟨hI3, c3⟩ := Inv_same hI1 (Same_trans hSa hSb)
    have eL3 : dL (mkS (mkS S 4 (some b)) 5 (some b)) = dL S := rfl
    refine w_bk rej_run <| w_chk hI3.2.2.1.2.1 ?_
    generalize mkS (mkS S 4 (some b)) 5 (some b) = S3 at *
    generalize mkS S 4 (some b) = Sa at *
    obtain ⟨r4, S4, C4, Z4, eD4, rfl, r4', M4, eM4, rfl, g4, w4, hI4, c4, cs4, x1, x2, x3⟩ := s_then (n := n) (p := o) (x1 := some (dn S)) (x2 := some (dn Sa)) (k1 := 2) (f1 := nI (g 9 15)) (k2 := 3) (f2 := nI (g 9 15)) hI3 (by rw [e9 1 (by decide)]; exact ho) (by rw [m2]; exact ho2) (by rw [e9 1 (by decide)]; omega) (fn_23 (Or.inl rfl) (by omega) d1 (d2.trans a2) (by rw [d3, a3]; rfl) (by rw [d4, a4, e1R])) (fn_23 (Or.inr rfl) (by omega) b1 b2 (by rw [b3]; rfl) (by rw [b4, e1R])) ⟨wt_no (by decide), wt_no (by decide)⟩ hn
    rw [eg 0 (by decide) (by decide) (by decide)] at eD4
    refine w_bk eD4 <| w_some ?_
    refine hMh _ (v_ip (by rw [m2]; exact ho2) ?_)
    rw [eM4, bnd2_s]
    have hGE := c4.2.1
    unfold GE at hGE
    have y11 : g4 11 = g1 11 := by clear hI4 c4 cs4; grind
    have y50 : g4 9 50 = g1 9 50 := by clear hI4 c4 cs4; grind
    have y38 : g4 9 38 = g1 9 38 := by clear hI4 c4 cs4; grind
    have y42 : g4 9 42 = g1 9 42 := by clear hI4 c4 cs4; grind
    rw [e9 1 (by decide)] at x1
    rw [e9 22 (by decide)] at x3
    have hcs2 : Cs 0 g1 S g1 S3 0 0 := Cs_id eL3
    refine v_some ⟨g4, w4, Inv_t hI4 (by omega) ?_ ?_ ?_, ?_, ?_, ?_, ?_⟩
    · rw [y11, y50, y38, x3, x1, eg 11 (by decide) (by decide) (by decide), e9 50 (by decide), e9 38 (by decide)]; omega
    · rw [y42, y38, x1, e9 42 (by decide), e9 38 (by decide)]; omega
    · rw [x2, x1, cf_36 c4, e15, e9 36 (by decide)]; omega
    · exact Cs_le (Cs_trans hcs1 (Cs_trans hcs2 cs4)) (by omega) (by omega)
    · rw [c4.2.1.2.2.2.2.1, e9 29 (by decide)]
    · rw [cf_14 c4 (by decide), eg 14 (by decide) (by decide) (by decide)]; exact hop
    · rw [c4.2.2.1.2.2.2.2.2, m0]
  · have hK : dK S (g 0 o) = 10 := (tk_1 (hI.2.2.2.2.2.1.1 o ho).2.2.2 ho2).1
    have hno : ¬ M1 2 o = 0 := by rw [m2, ho2]; decide
    have h1000 : dI S 1000 (g 0 o) = -2 - nI o := (hI.2.2.2.2.2.1.1 o ho).1
    obtain ⟨r2, S2, C2, Z2, eD2, M2, eM2, g2, hI2, f2, cs2, o1, o2, o3, o4, t1, t2, t3, t4, t5⟩ := s_note (who := -2 - nI o) (arg := -1) hI1 (by rw [e9 36 (by decide)]; exact hL)
    have hd2 := hI2.2.2.1.2.1
    have ho_1 : o < g1 9 1 := by rw [e9 1 (by decide)]; exact ho
    have ho_2 : o < g2 9 1 := by omega
    obtain ⟨p0, p2, p8, p9, p10, p11, p12⟩ := f2.2.2.1 o ho_1
    rw [eg 0 (by decide) (by decide) (by decide)] at p0
    have ho2_2 : M2 2 o = 1 := by rw [p2, m2]; exact ho2
    obtain ⟨u1, u2, u3, u4, u5, u6, u7⟩ := tk_1 (hI2.2.2.2.2.2.1.1 o ho_2).2.2.2 ho2_2
    rw [p0] at u1 u3 u4
    have eR2 : g2 1 (g 9 15) = b := by rw [f2.2.2.2.1 _ (by omega), e1R]
    obtain ⟨r3, S3, C3, Z3, eD3, r3', M3, eM3, rfl, g3, w3, hI3, f3, cs3, bd3, y1⟩ := s_act (n := n) (act := M2 9 o) (v := M2 10 o) (r := g 9 15) hI2 ho_2 ho2_2 (by omega) (by rw [o1, e9 1 (by decide)]; omega) hn
    rw [p0, eR2] at eD3
    have hd3 := hI3.2.2.1.2.1
    obtain ⟨q0, q2, q8, q9, q10, q11, q12⟩ := f3.2.2.1 o ho_2
    have ho_3 : o < g3 9 1 := by have := f3.2.1.1; omega
    have ho2_3 : M3 2 o = 1 := by rw [q2]; exact ho2_2
    obtain ⟨v1, v2, v3, v4, v5, v6, v7⟩ := tk_1 (hI3.2.2.2.2.2.1.1 o ho_3).2.2.2 ho2_3
    rw [q0, p0] at v1 v3 v5 v6
    have hbk : ∀ {g5 w5 S5 M5 C5 Z5}, Inv e0 d (t + 1) 0 g5 w5 S5 M5 → BD g2 g5 → Cs 0 g2 S2 g5 S5 C5 Z5 → g5 9 29 = g2 9 29 → M5 0 = M2 0 → JP e0 d t g S S5 (C2 + C5) (Z2 + Z5) M M5 := by
      intro g5 w5 S5 M5 C5 Z5 h1 h2 h3 h4 h5
      obtain ⟨d1, d2, d3, d4, d5, d6, d7, d8, d9⟩ := h2
      refine ⟨g5, w5, Inv_t h1 (by omega) ?_ ?_ ?_, ?_, ?_, ?_, ?_⟩
      · rw [d1, d2, d3, d4, t5, t4 22 (by decide), t4 50 (by decide), t4 38 (by decide), eg 11 (by decide) (by decide) (by decide), e9 22 (by decide), e9 50 (by decide), e9 38 (by decide)]
        rw [o1, e9 1 (by decide)] at d7
        omega
      · rw [d5, d4, t4 42 (by decide), t4 38 (by decide), e9 42 (by decide), e9 38 (by decide)]
        rw [o1, e9 1 (by decide)] at d7
        omega
      · rw [d6, d8, o2, o4, e15, e9 36 (by decide)]
        rw [o1, e9 1 (by decide)] at d7
        omega
      · exact Cs_le (Cs_trans hcs1 (Cs_trans cs2 h3)) (by omega) (by omega)
      · rw [h4, f2.2.1.2.2.2.2.1, e9 29 (by decide)]
      · rw [d9, t3, eg 14 (by decide) (by decide) (by decide)]; exact hop
      · rw [h5, f2.2.2.2.2.2.2.2.2, m0]
    refine w_chk (decide_eq_true (Or.inr (Or.inl hK))) <| w_ip (dinst_0 (by rw [hK]; decide)) <| w_chk (decide_eq_true (Or.inr (Or.inl hK))) <| w_in (by rw [dinst_1 hK]; exact i32_10) <| w_bnd rfl <| w_chk hK <| w_chk hd ?_
    unfold q_X11_callThen
    refine w_bndc <| w_bnd rfl <| w_chk hK <| w_chk hd ?_
    rw [h1000]
    refine w_bk eD2 <| w_chk u1 <| w_chk hd2 ?_
    rw [u3, u4]
    refine w_bk eD3 <| w_chk v1 ?_
    rw [v3, q9, v5, v6]
    by_cases h3 : M2 9 o = 3
    · refine w_ip h3 <| w_some <| w_some ?_
      refine hMh _ (v_in hno ?_)
      rw [eM2, bnd_s, chk_i hio, chk_i hio, eM3, bnd2_s]
      refine v_in (by rw [if_pos h3]; exact i32_10) <| v_some ?_
      exact hbk hI3 bd3 cs3 f3.2.1.2.2.2.2.1 f3.2.2.2.2.2.2.2.2
    · obtain ⟨r4, S4, C4, Z4, eD4, r4', M4, eM4, -, g4, w4, hI4, f4, cs4, bd4, z1⟩ := s_act (n := n) (act := M3 11 o) (v := M3 12 o) (r := g 9 15) hI3 ho_3 ho2_3 (by rw [bd3.2.2.2.2.2.1]; omega) (by rw [o1, e9 1 (by decide)] at y1; omega) hn
      have eR3 : g3 1 (g 9 15) = b := by rw [f3.2.2.2.1 _ (by omega), eR2]
      rw [q0, p0, eR3] at eD4
      refine w_in h3 <| w_chk hd3 <| w_bk eD4 <| w_some <| w_some ?_
      refine hMh _ (v_in hno ?_)
      rw [eM2, bnd_s, chk_i hio, chk_i hio, eM3, bnd2_s]
      refine v_ip (by rw [if_neg h3]) ?_
      rw [chk_i hio, chk_i hio, eM4, bnd2_s]
      refine v_some ?_
      have hbd : BD g2 g4 := by
        unfold BD at *
        clear hI3 hI4 cs3 cs4 f3 f4; grind
      exact hbk hI4 hbd (Cs_le (Cs_trans cs3 cs4) (by omega) (by omega)) (by rw [f4.2.1.2.2.2.2.1, f3.2.1.2.2.2.2.1]) (by rw [f4.2.2.2.2.2.2.2.2, f3.2.2.2.2.2.2.2.2])
theorem deq_run {a : Nat} (ha : dK S a = 5) (hd : dK S d = 12) : RD (q_X11_dequeue e0 S d (some a)) (fun _ S' C Z => C = 0 ∧ Z = 0 ∧ dn S' = dn S ∧ dK S' = dK S ∧ dL S' = dL S ∧ dX S' = dX S ∧ dY S' = dY S ∧ (∀ f, f ≠ 1108 → dI S' f = dI S f) ∧ dI S' 1108 d = dI S 1108 d - 1 ∧ (∀ f, (f ≠ 1106 ∧ f ≠ 1107) → dP S' f = dP S f) ∧ dP S' 1106 d = dP S 407 a ∧ dP S' 1107 d = if dP S 407 a = none then none else dP S 1107 d) := by
  unfold q_X11_dequeue
  refine w_bnd rfl <| w_chk ha <| w_chk hd <| w_lt ?_
  have e6 : dP (sP S 1106 d (dP S 407 a)) 1106 d = dP S 407 a := by simp [r_KI, r_LI, r_PI, r_XI, r_YI, r_nI, r_II, r_KP, r_LP, r_IP, r_XP, r_YP, r_nP, r_PP, r_KX, r_LX, r_IX, r_PX, r_YX, r_nX, r_XX, r_KY, r_LY, r_IY, r_PY, r_XY, r_nY, r_YY, r_KO, r_LO, r_IO, r_PO, r_XO, r_YO, r_nO, r_KA, r_LA, r_IA, r_PA, r_XA, r_YA, r_nA, r_KB, r_LB, r_IB, r_PB, r_XB, r_YB, r_nB]
  rw [e6]
  by_cases h : dP S 407 a = none
  · refine w_ip h <| w_lt <| w_lt <| w_some ⟨rfl, rfl, rfl, rfl, rfl, rfl, rfl, fun f hf => ?_, ?_, fun f hf => ?_, ?_, ?_⟩
    · funext y; simp [r_KI, r_LI, r_PI, r_XI, r_YI, r_nI, r_II, r_KP, r_LP, r_IP, r_XP, r_YP, r_nP, r_PP, r_KX, r_LX, r_IX, r_PX, r_YX, r_nX, r_XX, r_KY, r_LY, r_IY, r_PY, r_XY, r_nY, r_YY, r_KO, r_LO, r_IO, r_PO, r_XO, r_YO, r_nO, r_KA, r_LA, r_IA, r_PA, r_XA, r_YA, r_nA, r_KB, r_LB, r_IB, r_PB, r_XB, r_YB, r_nB, hf]
    · simp [r_KI, r_LI, r_PI, r_XI, r_YI, r_nI, r_II, r_KP, r_LP, r_IP, r_XP, r_YP, r_nP, r_PP, r_KX, r_LX, r_IX, r_PX, r_YX, r_nX, r_XX, r_KY, r_LY, r_IY, r_PY, r_XY, r_nY, r_YY, r_KO, r_LO, r_IO, r_PO, r_XO, r_YO, r_nO, r_KA, r_LA, r_IA, r_PA, r_XA, r_YA, r_nA, r_KB, r_LB, r_IB, r_PB, r_XB, r_YB, r_nB]
    · funext y; simp [r_KI, r_LI, r_PI, r_XI, r_YI, r_nI, r_II, r_KP, r_LP, r_IP, r_XP, r_YP, r_nP, r_PP, r_KX, r_LX, r_IX, r_PX, r_YX, r_nX, r_XX, r_KY, r_LY, r_IY, r_PY, r_XY, r_nY, r_YY, r_KO, r_LO, r_IO, r_PO, r_XO, r_YO, r_nO, r_KA, r_LA, r_IA, r_PA, r_XA, r_YA, r_nA, r_KB, r_LB, r_IB, r_PB, r_XB, r_YB, r_nB, hf]
    · simp [r_KI, r_LI, r_PI, r_XI, r_YI, r_nI, r_II, r_KP, r_LP, r_IP, r_XP, r_YP, r_nP, r_PP, r_KX, r_LX, r_IX, r_PX, r_YX, r_nX, r_XX, r_KY, r_LY, r_IY, r_PY, r_XY, r_nY, r_YY, r_KO, r_LO, r_IO, r_PO, r_XO, r_YO, r_nO, r_KA, r_LA, r_IA, r_PA, r_XA, r_YA, r_nA, r_KB, r_LB, r_IB, r_PB, r_XB, r_YB, r_nB]
    · simp [r_KI, r_LI, r_PI, r_XI, r_YI, r_nI, r_II, r_KP, r_LP, r_IP, r_XP, r_YP, r_nP, r_PP, r_KX, r_LX, r_IX, r_PX, r_YX, r_nX, r_XX, r_KY, r_LY, r_IY, r_PY, r_XY, r_nY, r_YY, r_KO, r_LO, r_IO, r_PO, r_XO, r_YO, r_nO, r_KA, r_LA, r_IA, r_PA, r_XA, r_YA, r_nA, r_KB, r_LB, r_IB, r_PB, r_XB, r_YB, r_nB, h]
  · refine w_in h <| w_lt <| w_some ⟨rfl, rfl, rfl, rfl, rfl, rfl, rfl, fun f hf => ?_, ?_, fun f hf => ?_, ?_, ?_⟩
    · funext y; simp [r_KI, r_LI, r_PI, r_XI, r_YI, r_nI, r_II, r_KP, r_LP, r_IP, r_XP, r_YP, r_nP, r_PP, r_KX, r_LX, r_IX, r_PX, r_YX, r_nX, r_XX, r_KY, r_LY, r_IY, r_PY, r_XY, r_nY, r_YY, r_KO, r_LO, r_IO, r_PO, r_XO, r_YO, r_nO, r_KA, r_LA, r_IA, r_PA, r_XA, r_YA, r_nA, r_KB, r_LB, r_IB, r_PB, r_XB, r_YB, r_nB, hf]
    · simp [r_KI, r_LI, r_PI, r_XI, r_YI, r_nI, r_II, r_KP, r_LP, r_IP, r_XP, r_YP, r_nP, r_PP, r_KX, r_LX, r_IX, r_PX, r_YX, r_nX, r_XX, r_KY, r_LY, r_IY, r_PY, r_XY, r_nY, r_YY, r_KO, r_LO, r_IO, r_PO, r_XO, r_YO, r_nO, r_KA, r_LA, r_IA, r_PA, r_XA, r_YA, r_nA, r_KB, r_LB, r_IB, r_PB, r_XB, r_YB, r_nB]
    · funext y; simp [r_KI, r_LI, r_PI, r_XI, r_YI, r_nI, r_II, r_KP, r_LP, r_IP, r_XP, r_YP, r_nP, r_PP, r_KX, r_LX, r_IX, r_PX, r_YX, r_nX, r_XX, r_KY, r_LY, r_IY, r_PY, r_XY, r_nY, r_YY, r_KO, r_LO, r_IO, r_PO, r_XO, r_YO, r_nO, r_KA, r_LA, r_IA, r_PA, r_XA, r_YA, r_nA, r_KB, r_LB, r_IB, r_PB, r_XB, r_YB, r_nB, hf]
    · simp [r_KI, r_LI, r_PI, r_XI, r_YI, r_nI, r_II, r_KP, r_LP, r_IP, r_XP, r_YP, r_nP, r_PP, r_KX, r_LX, r_IX, r_PX, r_YX, r_nX, r_XX, r_KY, r_LY, r_IY, r_PY, r_XY, r_nY, r_YY, r_KO, r_LO, r_IO, r_PO, r_XO, r_YO, r_nO, r_KA, r_LA, r_IA, r_PA, r_XA, r_YA, r_nA, r_KB, r_LB, r_IB, r_PB, r_XB, r_YB, r_nB]
    · simp [r_KI, r_LI, r_PI, r_XI, r_YI, r_nI, r_II, r_KP, r_LP, r_IP, r_XP, r_YP, r_nP, r_PP, r_KX, r_LX, r_IX, r_PX, r_YX, r_nX, r_XX, r_KY, r_LY, r_IY, r_PY, r_XY, r_nY, r_YY, r_KO, r_LO, r_IO, r_PO, r_XO, r_YO, r_nO, r_KA, r_LA, r_IA, r_PA, r_XA, r_YA, r_nA, r_KB, r_LB, r_IB, r_PB, r_XB, r_YB, r_nB, h]
/-- one job -/
theorem s_job1 (hI : Inv e0 d t 0 g w S M) (ht : t < 512) (hop : g 14 1 = 0) (hj : g 9 29 < g 9 30) (hO : g 9 1 + 8 ≤ 3000) (hL : g 9 36 ≤ 4000) (hn : 4000 < n) : ∃ r1 S1 r2 S2 C Z, q_X11_dequeue e0 S d (some (g 6 (g 9 29))) = some (r1, S1, 0, 0) ∧ dK S1 d = 12 ∧ q_X11_doJob e0 n S1 d (some (g 6 (g 9 29))) = some (r2, S2, C, Z) ∧ RV (q_job n M) (fun M' => ∃ g' w', Inv e0 d t 0 g' w' S2 M' ∧ Cs 0 g S g' S2 C Z ∧ g' 9 29 = g 9 29 + 1 ∧ g' 14 1 = 0 ∧ M' 0 = M 0) := by
  have hN := Inv_nums hI
  have hd := hI.2.2.1.2.1
  have m29 : M 29 0 = nI (g 9 29) := hI.1.2.2.2.1
  obtain ⟨k5, k7, hjq⟩ := hI.2.2.2.2.2.2.2.2.2.2.1.2.2.2.2 (g 9 29) (Nat.le_refl _) hj
  obtain ⟨r1, S1, C1, Z1, eD1, rfl, rfl, en, eK, eL, eX, eY, eI, eI1, eP, eP1, eP2⟩ := deq_run (e0 := e0) k5 hd
  have hI1 := P_deq hI hj en eK eL eX eY eI eI1 eP eP1 eP2 rfl rfl
  have hMe : q_job n M = jobM n (mput M 29 0 (nI (g 9 29) + 1)) (nI (g 9 29)) := by rw [jobM_eq, m29]
  generalize hM1 : mput M 29 0 (nI (g 9 29) + 1) = M1 at *
  generalize hg1 : gput (gput g 9 29 (g 9 29 + 1)) 7 (g 6 (g 9 29)) 0 = g1 at *
  have eM : ∀ k, k ≠ 29 → M1 k = M k := fun k hk => by rw [← hM1, r_mf hk]
  have eg : ∀ k, k ≠ 9 → k ≠ 7 → g1 k = g k := fun k h1 h2 => by rw [← hg1, r_gf h2, r_gf h1]
  have e9 : ∀ i, i ≠ 29 → g1 9 i = g 9 i := fun i hi => by rw [← hg1]; simp [r_g, hi]
  have e29 : g1 9 29 = g 9 29 + 1 := by rw [← hg1]; simp [r_g]
  have g70 : g1 7 (g 6 (g 9 29)) = 0 := by rw [← hg1]; simp [r_g]
  have hcs : Cs 0 g S g1 S1 0 0 := by
    unfold Cs pc pz
    rw [e9 1 (by decide), e9 15 (by decide), e9 22 (by decide), e9 30 (by decide), e9 33 (by decide), e9 36 (by decide), eg 14 (by decide) (by decide), eL]
    omega
  have hfin : RD (q_X11_doJob e0 n S1 d (some (g 6 (g 9 29)))) (fun _ S' C Z => RV (jobM n M1 (nI (g 9 29))) (fun M' => JP e0 d t g1 S1 S' C Z M1 M')) → ∃ r1 S1 r2 S2 C Z, q_X11_dequeue e0 S d (some (g 6 (g 9 29))) = some (r1, S1, 0, 0) ∧ dK S1 d = 12 ∧ q_X11_doJob e0 n S1 d (some (g 6 (g 9 29))) = some (r2, S2, C, Z) ∧ RV (q_job n M) (fun M' => ∃ g' w', Inv e0 d t 0 g' w' S2 M' ∧ Cs 0 g S g' S2 C Z ∧ g' 9 29 = g 9 29 + 1 ∧ g' 14 1 = 0 ∧ M' 0 = M 0) := by
    rintro ⟨r2, S2, C2, Z2, eD2, M2, eM2, g2, w2, y1, y2, y3, y4, y5⟩
    refine ⟨r1, S1, r2, S2, C2, Z2, eD1, hI1.2.2.1.2.1, eD2, M2, by rw [hMe]; exact eM2, g2, w2, y1, ?_, by omega, y4, by rw [y5, eM 0 (by decide)]⟩
    exact Cs_le (Cs_trans hcs y2) (by omega) (by omega)
  apply hfin
  have hop1 : g1 14 1 = 0 := by rw [eg 14 (by decide) (by decide)]; exact hop
  rcases hjq with ⟨b28, k, hk, hak, b405, bB, b406, b25, b23, b24⟩ | ⟨b28, h403, o, p, b, h24, ho, ho2, h25, hp, hp2, h404, h402, hb, h700, h701, h12⟩
  · obtain ⟨-, -, -, hw⟩ := hI.2.2.2.2.2.2.2.2.1 k hk
    have hw := hw (by rw [← hak, k7]; omega)
    have hk1 : k < g1 9 22 := by rw [e9 22 (by decide)]; exact hk
    have e3 : g1 3 k = g 3 k := by rw [eg 3 (by decide) (by decide)]
    obtain ⟨q1, q2, q3, -⟩ := hI1.2.2.2.2.2.2.2.2.1 k hk1
    rw [e3] at q1 q3
    have hO1 : g1 9 1 + 8 ≤ 3000 := by rw [e9 1 (by decide)]; exact hO
    have hL1 : g1 9 36 ≤ 4000 := by rw [e9 36 (by decide)]; exact hL
    have c405 : dI S1 405 (g1 3 k) = M1 27 (g 9 29) := by rw [e3, eI 405 (by decide), eM 27 (by decide), ← hak]; exact b405
    have c406 : dI S1 406 (g1 3 k) = M1 26 (g 9 29) := by rw [e3, eI 406 (by decide), eM 26 (by decide), ← hak]; exact b406
    have cB : isB (M1 27 (g 9 29)) := by rw [eM 27 (by decide)]; exact bB
    have c28 : M1 28 (g 9 29) = 0 := by rw [eM 28 (by decide)]; exact b28
    rw [hak, ← e3]
    rw [hak] at g70
    rcases q3 with ⟨a1, a2, a3, a4, a5, q, a6, a7, a8, a9, a10⟩ | ⟨a1, a2, ⟨r, a3, a4, a5⟩, a6, a7⟩
    · refine s_ajob (q := q) hI1 hop1 hO1 hL1 hn hk1 (by rw [e9 30 (by decide)]; exact hj) c28 c405 cB c406 ?_ ?_ ?_ a6 a9 (by rw [e3]; exact a10)
      · rw [eM 25 (by decide), b25, ← eM 17 (by decide)]; exact a1
      · rw [eM 23 (by decide), b23, eM 27 (by decide), ← eM 18 (by decide), ← eM 20 (by decide), a4, a5]
      · rw [eM 24 (by decide), b24, ← eM 19 (by decide), ← eM 21 (by decide), a7, a8]
        split <;> rfl
    · have hwt1 : ∀ kd f, wt g M k kd f → wt g1 M1 k kd f := by
        intro kd f h
        unfold wt at *
        rw [eM 41 (by decide), eg 8 (by decide) (by decide)]
        exact h
      refine s_rjob (r := r) hI1 ht hop1 hO1 hL1 hn hk1 (by rw [e3]; exact g70) ?_ (by rw [e9 30 (by decide)]; exact hj) c28 c405 cB c406 ?_ (by rw [e3]; exact a1) (by rw [e3]; exact a2) a3 a4 (by rw [e3]; exact a5) ?_
      · rw [eM 23 (by decide), eM 24 (by decide), b23, b24]
        by_cases h : M 27 (g 9 29) = 0
        · rw [if_pos h, if_pos h]; exact hwt1 _ _ hw.1
        · rw [if_neg h, if_neg h]; exact hwt1 _ _ hw.2
      · rw [eM 25 (by decide), b25, eM 17 (by decide)]
      · rw [e3, eM 23 (by decide), eM 24 (by decide), eM 27 (by decide), b23, b24, ← eM 18 (by decide), ← eM 19 (by decide), ← eM 20 (by decide), ← eM 21 (by decide)]
        by_cases h : M 27 (g 9 29) = 0
        · rw [if_pos h, if_pos h, if_pos h]; exact a6
        · rw [if_neg h, if_neg h, if_neg h]; exact a7
  · refine s_fjob (o := o) (p := p) (b := b) hI1 ht hop1 (by rw [e9 1 (by decide)]; exact hO) (by rw [e9 36 (by decide)]; exact hL) hn (by rw [eK]; exact k5) (by omega) (by rw [eM 28 (by decide)]; exact b28) (by rw [eP 403 (by decide)]; exact h403) (by rw [eM 24 (by decide)]; exact h24) (by rw [e9 1 (by decide)]; exact ho) (by rw [eM 2 (by decide)]; exact ho2) (by rw [eM 25 (by decide)]; exact h25) (by rw [e9 1 (by decide)]; exact hp) (by rw [eM 2 (by decide)]; exact hp2) (by rw [eP 404 (by decide), eg 0 (by decide) (by decide)]; exact h404) (by rw [eP 402 (by decide)]; exact h402) (by rw [eK]; exact hb) (by rw [eP 700 (by decide), eg 0 (by decide) (by decide)]; exact h700) (by rw [eI 701 (by decide)]; exact h701) (by rw [eg 12 (by decide) (by decide)]; exact h12)
end FOL
