section FUN
variable {e0 d t x n : Nat} {g g' : GH} {w w' : Nat → List Nat} {S S' S1 S2 S0 : DS} {M M' M1 : MS}
theorem el_cf {a e q i : Nat} {kd : Int32} (h3 : el g S M a e q i kd) (c : CF g S M g' S' M') : el g' S' M' a e q i kd := by
  obtain ⟨⟨-, hF⟩, hG, hM, h12⟩ := c
  unfold el at *
  obtain ⟨k1, k2, k3, k4, k5, k6, k7, k8, k9⟩ := h3
  have hp := hF a (by rw [k4]; decide)
  have hq := hF (g 4 q) (by rw [k6]; decide)
  unfold GE at hG
  have e4 : g' 4 = g 4 := by grind
  have e15 : g' 15 = g 15 := by grind
  have e16 : g' 16 = g 16 := by grind
  have e50 : g' 9 50 = g 9 50 := by grind
  rw [e4, e15, e16, e50, hp.1, hq.1, (hp.2.2.2 300 rfl).2, (hp.2.2.2 301 rfl).1, (hp.2.2.2 302 rfl).1, (hq.2.2.2 200 rfl).1]
  exact ⟨k1, k2, k3, k4, k5, k6, k7, k8, k9⟩
theorem bnd_id {α : Type} {y : Option α} : bnd y (fun z => some z) = y := by
  cases y <;> rfl
theorem s_el2 {a e q i k : Nat} {kd u : Int32} (hI : Inv e0 d t 0 g w S M) (hkd : kd = 4 ∨ kd = 5 ∨ kd = 6 ∨ kd = 7) (hel : el g S M a e q i kd) (h41 : M 41 e = 0) (h8 : g 8 e = k) (h7 : g 7 (g 3 k) = 0) (hop : g 14 1 = 0) (hO : g 9 1 + 3 ≤ 3000) (hn : 4000 < n) : RD (q_X2_callIn_46 e0 n S a (some d) u) (fun r S' C Z => r = -1 ∧ RV (q_element_86 n (mput (mput M 41 e 1) 39 e u) kd (nI q)) (fun M' => ∃ g' w', Inv e0 d t 0 g' w' S' M' ∧ WF g S M g' S' M' ∧ Cs 0 g S g' S' C Z ∧ dI S' 1109 d = dI S 1109 d ∧ M' 51 = M 51 ∧ g' 9 1 ≤ g 9 1 + 3 ∧ g' 9 36 = g 9 36 ∧ g' 14 1 = g 14 1)) := by
  have hN := Inv_nums hI
  have hd := hI.2.2.1.2.1
  obtain ⟨he, hi, hq, ha, h300, hk3, h301, h302, h200⟩ := hel
  obtain ⟨k1, k2, k3, k4, k5, k6, k7, k8, r, k9, k10, k11⟩ := hI.2.2.2.2.2.2.2.2.2.2.2 q hq
  have h201 : dP S 201 (g 4 q) = some (g 5 q) := by
    rcases k11 with ⟨-, a2, -⟩ | ⟨a1, -⟩
    · exact a2
    · rw [hk3] at a1; cases a1
  have h2003 : dI S 200 (g 4 q) ≠ 3 := by
    rw [h200]; rcases hkd with rfl | rfl | rfl | rfl <;> decide
  have hiq : inb (nI q) 3000 := inb_nI (by omega) (by omega)
  have cq : (nI q).toNatClampNeg = q := nI_clamp (by omega)
  obtain ⟨hI2, f2, n1, n2⟩ := P_el (v := u) hI hq hk3 hi he h41 h8 h7 h2003 (by omega) rfl rfl
  have e9 : dI (sX S (g 5 q) (upd (dX S (g 5 q)) i u)) 203 (g 4 q) = dI S 203 (g 4 q) := rfl
  have m45 : mput (mput M 41 e 1) 39 e u 45 q = M 45 q := by rw [r_m, if_neg (by omega), r_m, if_neg (by omega)]
  unfold q_X2_callIn_46
  refine w_chk ha ?_
  rw [h301]
  refine w_in (nI_pos (by omega)) <| w_bnd h300 <| w_chk hk3 <| w_bnd h201 <| w_chk (Or.inl k6) ?_
  rw [k7]
  refine w_in (nI_ge hi (by omega)) <| w_chk k6 <| w_chk (inb_nI hi (by omega)) <| w_lt ?_
  rw [nI_clamp (by omega)]
  unfold q_X2_callIn_81 q_element_86
  rw [cq]
  refine w_chk ha <| w_bnd (b := g 4 q) h300 <| w_chk hk3 <| w_lt <| w_bnd (b := g 4 q) h300 <| w_chk hk3 ?_
  rw [e9, m45]
  generalize hS2 : sI (sX S (g 5 q) (upd (dX S (g 5 q)) i u)) 203 (g 4 q) (dI S 203 (g 4 q) - 1) = S2 at *
  generalize hM2 : mput (mput (mput M 41 e 1) 39 e u) 45 q (M 45 q - 1) = M2 at *
  have h300' : dP S2 300 a = some (g 4 q) := by rw [← hS2]; exact h300
  have e1109 : dI S2 1109 d = dI S 1109 d := by rw [← hS2]; simp [r_KI, r_LI, r_PI, r_XI, r_YI, r_nI, r_II, r_KP, r_LP, r_IP, r_XP, r_YP, r_nP, r_PP, r_KX, r_LX, r_IX, r_PX, r_YX, r_nX, r_XX, r_KY, r_LY, r_IY, r_PY, r_XY, r_nY, r_YY, r_KO, r_LO, r_IO, r_PO, r_XO, r_YO, r_nO, r_KA, r_LA, r_IA, r_PA, r_XA, r_YA, r_nA, r_KB, r_LB, r_IB, r_PB, r_XB, r_YB, r_nB]
  have e51 : M2 51 = M 51 := by rw [← hM2, r_mf (by omega), r_mf (by omega), r_mf (by omega)]
  have eL : dL S2 = dL S := by rw [← hS2]; rfl
  have hk2 : dK S2 (g 4 q) = 3 := by rw [← hS2]; exact hk3
  have e200 : dI S2 200 (g 4 q) = dI S 200 (g 4 q) := by rw [← hS2]; simp [r_KI, r_LI, r_PI, r_XI, r_YI, r_nI, r_II, r_KP, r_LP, r_IP, r_XP, r_YP, r_nP, r_PP, r_KX, r_LX, r_IX, r_PX, r_YX, r_nX, r_XX, r_KY, r_LY, r_IY, r_PY, r_XY, r_nY, r_YY, r_KO, r_LO, r_IO, r_PO, r_XO, r_YO, r_nO, r_KA, r_LA, r_IA, r_PA, r_XA, r_YA, r_nA, r_KB, r_LB, r_IB, r_PB, r_XB, r_YB, r_nB]
  by_cases hz : M2 45 q = 0
  · have hans : ∀ i', i' < g 16 q → M2 41 (g 15 q + i') ≠ 0 := by
      intro i' hi' h0
      have hs : sumN (un41 M2 (g 15 q)) (g 16 q) = 0 := by
        by_cases h : sumN (un41 M2 (g 15 q)) (g 16 q) = 0
        · exact h
        · rw [n2] at hz
          have hle : sumN (un41 M2 (g 15 q)) (g 16 q) ≤ g 16 q := sumN_bd (fun y _ => by unfold un41; split <;> omega)
          exact absurd hz (nI_ne0 (by omega) (by omega))
      have := sumN_le (f := un41 M2 (g 15 q)) hi'
      unfold un41 at this hs
      rw [if_pos h0] at this
      omega
    obtain ⟨r3, S3, C3, Z3, eD3, M3, eM3, g3, w3, hI3, c3, cs3, y1⟩ := s_finish (n := n) hI2 hq hk2 hans rfl hO hn
    refine w_ip (by rw [n1]; exact hz) <| w_bnd rfl <| w_chk hI2.2.2.1.2.1 ?_
    rw [h300']
    refine w_bk eD3 <| w_some ⟨rfl, ?_⟩
    refine v_chk hiq <| v_chk hiq <| v_lt <| v_chk hiq <| v_ip hz ?_
    have hpost : RV (some M3) (fun M' => ∃ g' w', Inv e0 d t 0 g' w' S3 M' ∧ WF g S M g' S3 M' ∧ Cs 0 g S g' S3 C3 Z3 ∧ dI S3 1109 d = dI S 1109 d ∧ M' 51 = M 51 ∧ g' 9 1 ≤ g 9 1 + 3 ∧ g' 9 36 = g 9 36 ∧ g' 14 1 = g 14 1) := by
      refine v_some ⟨g3, w3, hI3, WF_trans f2 (WF_cf c3), ?_, ?_, ?_, y1, cf_36 c3, cf_14 c3 (by decide)⟩
      · exact Cs_le (Cs_trans (Cs_id eL) cs3) (by omega) (by omega)
      · rw [cf_1109 c3 hI2.2.2.1.2.1]; exact e1109
      · rw [cf_51 c3]; exact e51
    by_cases h77 : kd = 7
    · have : (if dI S2 200 (g 4 q) = 2 then (1 : Int32) else 0) = 1 := by
        rw [e200, h200, h77]; decide
      rw [this] at eM3
      refine v_ip h77 ?_
      rw [eM3, bnd_s]; exact hpost
    · have : (if dI S2 200 (g 4 q) = 2 then (1 : Int32) else 0) = 0 := by
        rw [e200, h200]
        rcases hkd with rfl | rfl | rfl | rfl
        · decide
        · decide
        · decide
        · exact absurd rfl h77
      rw [this] at eM3
      refine v_in h77 ?_
      rw [eM3, bnd_s]; exact hpost
  · refine w_in (by rw [n1]; exact hz) <| w_some ⟨rfl, ?_⟩
    exact v_chk hiq <| v_chk hiq <| v_lt <| v_chk hiq <| v_in hz <| v_some ⟨g, w, hI2, f2, Cs_id eL, e1109, e51, by omega, rfl, rfl⟩
theorem call_el {kd p v : Int32} (hkd : kd = 4 ∨ kd = 5 ∨ kd = 6 ∨ kd = 7) : q_call n M kd p v = bnd (q_element n (mput M 51 0 0) kd p v) (fun M7 => some (-1, M7)) := by
  unfold q_call
  rw [chk_i (Or.inl rfl), lt9_s]
  rcases hkd with rfl | rfl | rfl | rfl
  · rw [if_neg (by decide), if_neg (by decide), if_neg (by decide), if_pos rfl]
  · rw [if_neg (by decide), if_neg (by decide), if_neg (by decide), if_neg (by decide), if_pos rfl]
  · rw [if_neg (by decide), if_neg (by decide), if_neg (by decide), if_neg (by decide), if_neg (by decide), if_pos rfl]
  · rw [if_neg (by decide), if_neg (by decide), if_neg (by decide), if_neg (by decide), if_neg (by decide), if_neg (by decide), if_pos rfl]
theorem s_elem {a e q i k : Nat} {kd v : Int32} (hI : Inv e0 d t 0 g w S M) (hkd : kd = 4 ∨ kd = 5 ∨ kd = 6 ∨ kd = 7) (hel : el g S M a e q i kd) (h41 : M 41 e = 0) (h8 : g 8 e = k) (hk22 : k < g 9 22) (h7 : g 7 (g 3 k) = 0) (hop : g 14 1 = 0) (hO : g 9 1 + 4 ≤ 3000) (hn : 4000 < n) : RD (q_X2_callIn e0 n S a (some d) v) (fun r S' C Z => RM (q_call n M kd (nI e) v) (fun r' M' => PC e0 d t g S M r S' C Z r' M')) := by
  have hN := Inv_nums hI
  have hd := hI.2.2.1.2.1
  have hel0 := hel
  obtain ⟨he, hi, hq, ha, h300, hk3, h301, h302, h200⟩ := hel
  obtain ⟨k1, k2, k3, k4, k5, k6, k7, k8, r, k9, k10, k11⟩ := hI.2.2.2.2.2.2.2.2.2.2.2 q hq
  have hie : inb (nI e) 20000 := inb_nI (by omega) (by omega)
  have ce : (nI e).toNatClampNeg = e := nI_clamp (by omega)
  have m40 : M 40 e = nI q := by rw [he]; exact (k4 i hi).1
  have hI3 : Inv e0 d t 0 g w (sI S 1109 d 0) (mput M 51 0 0) := Inv_m (Or.inr rfl) (Inv_1109 hI)
  have f3 : WF g S M g (sI S 1109 d 0) (mput M 51 0 0) := WF_th hd (Or.inr rfl)
  have hel3 : el g (sI S 1109 d 0) (mput M 51 0 0) a e q i kd := by
    unfold el
    rw [i1109 (by decide), i1109 (by decide), i1109 (by decide)]
    exact hel0
  have e51 : mput M 51 0 0 51 0 = 0 := by simp [r_m]
  have e1109 : dI (sI S 1109 d 0) 1109 d = 0 := by simp [r_II]
  rw [call_el hkd]
  have hMh : q_element n (mput M 51 0 0) kd (nI e) v = if kd = 5 ∨ kd = 6 then q_element_43 n (mput (mput (mput M 51 0 0) 41 e 1) 39 e v) kd (nI e) v (nI q) else q_element_86 n (mput (mput (mput M 51 0 0) 41 e 1) 39 e v) kd (nI q) := by
    unfold q_element
    have a41 : mput M 51 0 0 41 e = 0 := by rw [r_m, if_neg (by omega)]; exact h41
    have a40 : mput (mput M 51 0 0) 41 e 1 40 e = nI q := by rw [r_m, if_neg (by omega), r_m, if_neg (by omega)]; exact m40
    rw [chk_i hie, ce, if_pos a41, chk_i hie, chk_i (Or.inr rfl), lt9_s, chk_i hie, chk_i hie, lt9_s, a40]
    by_cases e5 : kd = 5
    · rw [if_pos e5, if_pos (Or.inl e5)]
    · by_cases e6 : kd = 6
      · rw [if_neg e5, if_pos e6, if_pos (Or.inr e6)]
      · rw [if_neg e5, if_neg e6, if_neg (by intro h; rcases h with h | h; exact e5 h; exact e6 h)]
  have hop3 : g 14 1 = 0 := hop
  unfold q_X2_callIn
  refine w_bnd rfl <| w_chk hd <| w_chk (Or.inl rfl) <| w_lt <| w_chk ha <| w_bnd (b := g 4 q) h300 <| w_chk hk3 ?_
  rw [i1109 (by decide), h200]
  by_cases h56 : kd = 5 ∨ kd = 6
  · rw [if_pos h56] at hMh
    have h200' : (if kd = 4 then (0 : Int32) else if kd = 7 then 2 else 1) = 1 := by
      rcases h56 with rfl | rfl <;> decide
    have hfr := hI3.2.2.1.1
    have hk0 := K_dn hfr
    have hcont : ∀ z : Int32, z = (if kd = 5 then 1 else 0) → RD (q_X2_callIn_37 e0 n (sAI (sI S 1109 d 0) (2 : Int32).toNatClampNeg (fun _ => 0)) a (some d) v z 0 (some (dn (sI S 1109 d 0))) (some (dn (sI S 1109 d 0))) 5 (some d)) (fun r S' C Z => RM (bnd (q_element n (mput M 51 0 0) kd (nI e) v) (fun M7 => some (-1, M7))) (fun r' M' => PC e0 d t g S M r S' (1 + C) (2 + Z) r' M')) := by
      intro z hz
      have c2 : (2 : Int32).toNatClampNeg = 2 := by decide
      have c0 : (0 : Int32).toNatClampNeg = 0 := by decide
      have c1 : (1 : Int32).toNatClampNeg = 1 := by decide
      have ib0 : inb 0 2 := by unfold inb; decide
      have ib1 : inb 1 2 := by unfold inb; decide
      rw [c2]
      generalize hS3 : sI S 1109 d 0 = S3 at *
      generalize hM3 : mput M 51 0 0 = M3 at *
      obtain ⟨hIg, cg⟩ := Inv_gf (a := dn S3) (v := 3) (k := 12) hI3 hk0 (Or.inr rfl)
      have hS5 : Same S3 (sX (sX (sAI S3 2 (fun _ => 0)) (dn S3) (upd (dX (sAI S3 2 (fun _ => 0)) (dn S3)) 0 z)) (dn S3) (upd (dX (sX (sAI S3 2 (fun _ => 0)) (dn S3) (upd (dX (sAI S3 2 (fun _ => 0)) (dn S3)) 0 z)) (dn S3)) 1 v)) := Same_sX (Same_sX (Same_sAI hfr) hk0) hk0
      obtain ⟨hI5, c5⟩ := Inv_same hIg hS5
      have hx0 : dX (sX (sX (sAI S3 2 (fun _ => 0)) (dn S3) (upd (dX (sAI S3 2 (fun _ => 0)) (dn S3)) 0 z)) (dn S3) (upd (dX (sX (sAI S3 2 (fun _ => 0)) (dn S3) (upd (dX (sAI S3 2 (fun _ => 0)) (dn S3)) 0 z)) (dn S3)) 1 v)) (dn S3) 0 = z := by
        rw [r_XX, if_pos rfl, r_XX, if_pos rfl]; unfold upd; rw [if_neg (by decide), if_pos rfl]
      have hx1 : dX (sX (sX (sAI S3 2 (fun _ => 0)) (dn S3) (upd (dX (sAI S3 2 (fun _ => 0)) (dn S3)) 0 z)) (dn S3) (upd (dX (sX (sAI S3 2 (fun _ => 0)) (dn S3) (upd (dX (sAI S3 2 (fun _ => 0)) (dn S3)) 0 z)) (dn S3)) 1 v)) (dn S3) 1 = v := by
        rw [r_XX, if_pos rfl]; unfold upd; rw [if_pos rfl]
      have hkb : dK (sAI S3 2 (fun _ => 0)) (dn S3) = 20 := by rw [r_KA, if_pos rfl]
      have hlb : dL (sAI S3 2 (fun _ => 0)) (dn S3) = 2 := by rw [r_LA, if_pos rfl]
      unfold q_X2_callIn_37
      rw [c0, c1]
      refine w_bnd rfl <| w_chk hkb <| w_chk (by rw [hlb]; exact ib0) <| w_lt <| w_bnd rfl <| w_chk hkb <| w_chk (by rw [show dL (sX (sAI S3 2 (fun _ => 0)) (dn S3) (upd (dX (sAI S3 2 (fun _ => 0)) (dn S3)) 0 z)) (dn S3) = 2 from hlb]; exact ib1) <| w_lt <| w_bnd rfl <| w_chk hI5.2.2.1.2.1 ?_
      generalize hS5' : sX (sX (sAI S3 2 (fun _ => 0)) (dn S3) (upd (dX (sAI S3 2 (fun _ => 0)) (dn S3)) 0 z)) (dn S3) (upd (dX (sX (sAI S3 2 (fun _ => 0)) (dn S3) (upd (dX (sAI S3 2 (fun _ => 0)) (dn S3)) 0 z)) (dn S3)) 1 v) = S5 at *
      have hkb5 : dK S5 (dn S3) = 20 := by rw [← hS5']; exact hkb
      have hlb5 : dL S5 (dn S3) = 2 := by rw [← hS5']; exact hlb
      generalize hgg : gput g 12 (dn S3) 3 = g5 at *
      have e9 : g5 9 = g 9 := by rw [← hgg]; exact r_gf (by omega)
      have e7 : g5 7 = g 7 := by rw [← hgg]; exact r_gf (by omega)
      have e14 : g5 14 = g 14 := by rw [← hgg]; exact r_gf (by omega)
      have e12b : g5 12 (dn S3) = 3 := by rw [← hgg]; simp [r_g]
      have c35 := CF_trans cg c5
      obtain ⟨r6, S6, C6, Z6, eD6, rfl, g6, hI6, c6, cs6, o6, g67⟩ := s_settled (z := z) (v := v) hI5 hkb5 hlb5 e12b hx0 hx1 (by rw [e9]; omega)
      refine w_bk eD6 ?_
      rw [e9] at hI6 c6 o6 ⊢
      have c36 := CF_trans c35 c6
      have hG6 := c36.2.1
      unfold GE at hG6
      have e8 : g6 8 = g 8 := by clear hI6 c6 cs6 c36 c35 hI5 c5 hIg cg; grind
      have e3 : g6 3 k = g 3 k := hG6.2.2.2.2.2.2.2.2.2.2.2.2.2.1 k hk22
      have m41 : mput (mput (nO M3 (g 9 1) 5) 8 (g 9 1) z) 9 (g 9 1) v 41 e = 0 := by
        rw [c36.2.2.1.1 41 (by omega), ← hM3, r_m, if_neg (by omega)]; exact h41
      refine w_mono (s_el2 (n := n) (k := k) (u := -2 - nI (g 9 1)) hI6 hkd (el_cf hel3 c36) m41 (by rw [e8]; exact h8) (by rw [g67, e7, e3]; exact h7) (by rw [cf_14 c36 (by decide)]; exact hop) (by omega) hn) ?_
      rintro r7 S7 C7 Z7 ⟨rfl, M7, eM7, g7, w7, hI7, f7, cs7, t1, t2, t3, t4, t5⟩
      have hME : q_element_43 n (mput (mput M3 41 e 1) 39 e v) kd (nI e) v (nI q) = some M7 := by
        have hiO : inb (nI (g 9 1)) 3000 := inb_nI (by omega) (by omega)
        have cO : (nI (g 9 1)).toNatClampNeg = g 9 1 := nI_clamp (by omega)
        have heq : mput (mput (mput (nO (mput (mput M3 41 e 1) 39 e v) (g 9 1) 5) 8 (g 9 1) z) 9 (g 9 1) v) 39 e (-2 - nI (g 9 1)) = mput (mput (mput (mput (nO M3 (g 9 1) 5) 8 (g 9 1) z) 9 (g 9 1) v) 41 e 1) 39 e (-2 - nI (g 9 1)) := by
          funext k' i'
          unfold nO
          simp only [r_m]
          by_cases h39 : k' = 39 <;> by_cases h41' : k' = 41 <;> by_cases hee : i' = e <;> simp [h39, h41', hee]
        have hm1 : mput (mput M3 41 e 1) 39 e v 1 0 = nI (g 9 1) := by
          rw [r_m, if_neg (by omega), r_m, if_neg (by omega)]; exact hI3.1.1
        have h66 : q_element_66 n (nO (mput (mput M3 41 e 1) 39 e v) (g 9 1) 5) kd (nI e) v (nI q) (nI (g 9 1)) z (nI (g 9 1)) = some M7 := by
          unfold q_element_66
          rw [chk_i hiO, lt9_s, cO, chk_i hiO, lt9_s, chk_i hie, lt9_s, ce, heq]
          exact eM7
        unfold q_element_43
        rw [nO_eq hm1 (by omega), bnd2_s]
        by_cases e5 : kd = 5
        · rw [if_pos e5]; rw [if_pos e5] at hz; rw [hz] at h66; exact h66
        · rw [if_neg e5]; rw [if_neg e5] at hz; rw [hz] at h66; exact h66
      rw [hMh, hME, bnd_s]
      refine m_some ⟨rfl, g7, w7, hI7, WF_trans f3 (WF_trans (WF_cf c36) f7), ?_, ?_, ?_, by omega, ?_, ?_⟩
      · have csA : Cs 0 g S3 g5 S5 0 0 := Cs_0 hI3 c35 (by rw [e14])
        have csB : Cs 0 g S g S3 0 0 := Cs_id (by rw [← hS3]; rfl)
        exact Cs_le (Cs_trans csB (Cs_trans csA (Cs_trans cs6 cs7))) (by omega) (by omega)
      · rw [t1, cf_1109 c36 hI3.2.2.1.2.1, e1109, t2, cf_51 c36, e51]
      · rw [t2, cf_51 c36, e51]; exact Or.inl rfl
      · rw [t4, cf_36 c36]; omega
      · rw [t5, cf_14 c36 (by decide)]
    refine w_ip h200' <| w_chk (by decide) <| w_tick <| w_lt <| w_lt <| w_chk (by rw [r_KA, if_neg (fun h => by rw [h] at ha; have : dK (sI S 1109 d 0) (dn (sI S 1109 d 0)) = 4 := ha; rw [hk0] at this; cases this)]; exact ha) ?_
    rw [r_IA, i1109 (by decide), h302]
    have h2n : ((2 : Int32).toNatClampNeg : Nat) = 2 := by decide
    by_cases e5 : kd = 5
    · refine w_ip (by rw [e5]; decide) ?_
      refine w_mono (hcont 1 (by rw [if_pos e5])) ?_
      intro r S' C Z hh
      rw [h2n]; exact hh
    · refine w_in (by rcases h56 with h | h; exact absurd h e5; rw [h]; decide) ?_
      refine w_mono (hcont 0 (by rw [if_neg e5])) ?_
      intro r S' C Z hh
      rw [h2n]; exact hh
  · rw [if_neg h56] at hMh
    have h200' : ¬ (if kd = 4 then (0 : Int32) else if kd = 7 then 2 else 1) = 1 := by
      rcases hkd with rfl | rfl | rfl | rfl
      · decide
      · exact absurd (Or.inl rfl) h56
      · exact absurd (Or.inr rfl) h56
      · decide
    refine w_in h200' ?_
    refine w_mono (s_el2 (n := n) (u := v) hI3 hkd hel3 (by rw [r_m, if_neg (by omega)]; exact h41) h8 h7 hop (by omega) hn) ?_
    rintro r7 S7 C7 Z7 ⟨rfl, M7, eM7, g7, w7, hI7, f7, cs7, t1, t2, t3, t4, t5⟩
    rw [hMh, eM7, bnd_s]
    refine m_some ⟨rfl, g7, w7, hI7, WF_trans f3 f7, ?_, ?_, ?_, by omega, by omega, t5⟩
    · have csB : Cs 0 g S g (sI S 1109 d 0) 0 0 := Cs_id rfl
      exact Cs_le (Cs_trans csB cs7) (by omega) (by omega)
    · rw [t1, e1109, t2, e51]
    · rw [t2, e51]; exact Or.inl rfl
end FUN
