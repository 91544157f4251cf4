section FA2
variable {e0 d t x n c z : Nat} {g g' : GH} {w w' : Nat → List Nat} {S S' S1 S2 S0 : DS} {M M' M1 : MS}
theorem FU_n : 4000 < FU := by unfold FU; omega
theorem cf_M0 (c : CF g S M g' S' M') : M' 0 = M 0 := c.2.2.1.2.2.2.2.2
theorem mp00 {v : Int32} : mput (mput M 0 0 0) 0 0 v = mput M 0 0 v := by
  funext k i
  rw [r_m, r_m, r_m]
  by_cases h : k = 0 ∧ i = 0
  · rw [if_pos h, if_pos h]
  · rw [if_neg h, if_neg h, if_neg h]
/-- the promise of a record -/
theorem rec_at {r p : Nat} (hI : Inv e0 d t x g w S M) (hr : r < g 9 15) (h13 : M 13 r = nI p) (hp : p < 3000) : dK S (g 1 r) = 8 ∧ dP S 700 (g 1 r) = some (g 0 p) ∧ dK S (g 0 p) = 7 ∧ dI S 1000 (g 0 p) = -2 - nI p ∧ p < g 9 1 := by
  have hN := Inv_nums hI
  obtain ⟨k1, k2, k3, k4, p', k5, k6, k7, k8⟩ := hI.2.2.2.2.2.2.1 r hr
  have : p' = p := by rw [h13] at k5; exact (nI_inj (by omega) (by omega) k5).symm
  subst this
  exact ⟨k1, k8, T_7 hI k6 k7, (hI.2.2.2.2.2.1.1 _ k6).1, k6⟩
theorem st_promise : St_promise (Rel e0 d) d e0 := by
  intro t S M c z hfr ht hR
  obtain ⟨g, w, hE⟩ := ent_of hfr ht hR
  have hI1 := E1 hE
  have hN := Inv_nums hI1
  have hd := hI1.2.2.1.2.1
  refine step_of ?_
  unfold q_X11_promise q_promise
  rcases room_run 8 hI1 with ⟨hD, hM, h8⟩ | ⟨hD, hM⟩
  · have h8 := room_8 hN.2.1 h8
    obtain ⟨r1, S1, C1, Z1, eD1, r1', M1, eM1, rfl, g1, rfl, hI2, c1, cs1, o1, o2, o3, m13, m14, m2, m3, m6⟩ := s_cap hI1 (by omega)
    obtain ⟨k1, k2, k3, k4, k5⟩ := rec_at hI2 (r := g 9 15) (p := g 9 1) (by omega) m13 (by omega)
    have hK := P_kp (o := g 9 1) (r := g 9 15) (f := 606) hI2 (by omega) (by omega) (Or.inl ⟨rfl, m2, m6⟩)
    refine w_chk hd <| w_bx hD <| w_chk hd <| w_bk eD1 <| w_bnd rfl <| w_chk k1 <| w_bnd k2 <| w_chk k3 <| w_lt <| w_bnd (b := g1 0 (g 9 1)) (by rw [r_PP, if_neg (by omega)]; exact k2) <| w_chk k3 <| w_some ?_
    refine m_lt <| m_b2 hM <| m_ip rfl <| m_b2 eM1 ?_
    rw [nI_clamp (by omega), m13, nI_clamp (by omega)]
    refine m_chk (inb_nI (by omega) (by omega)) <| m_chk (inb_nI (by omega) (by omega)) <| m_lt <| m_some (ok_ok hE (Or.inl rfl) rfl ?_ k4 ⟨g1, w, C1, Z1, hK, by rw [cf_14 c1 (by decide)]; exact hE.2.2.2.1, ?_, by omega, by omega⟩)
    · rw [r_m, if_neg (by omega), cf_M0 c1]; exact m00
    · exact Cs_le (Cs_trans cs1 (Cs_id (S := S1) rfl)) (by omega) (by omega)
  · exact w_chk hd <| w_bt hD (by decide) <| m_lt <| m_b2 hM <| m_in i32_10 <| m_b2 fails_eq <| m_some (th_ok hE (by decide) (Or.inr rfl) rfl (by omega) (by omega))
theorem st_wrap : St_wrap (Rel e0 d) d e0 := by
  intro t S M c z p1 hfr ht hR
  obtain ⟨g, w, hE⟩ := ent_of hfr ht hR
  have hI1 := E1 hE
  have hN := Inv_nums hI1
  have hd := hI1.2.2.1.2.1
  refine step_of ?_
  unfold q_X11_wrap q_wrap
  rcases val_run p1 hI1 with ⟨vD, vM⟩ | ⟨vD, vM⟩
  · rcases room_run 8 hI1 with ⟨hD, hM, h8⟩ | ⟨hD, hM⟩
    · have h8 := room_8 hN.2.1 h8
      obtain ⟨r2, S2, C2, Z2, eD2, r2', M2, eM2, g2, w2, p, rfl, rfl, hp, hp2, hI2, c2, cs2, q1, q2⟩ := s_pfor (n := FU) (v := p1) hI1 (by omega) FU_n
      refine w_chk hd <| w_bx vD <| w_chk hd <| w_bx hD <| w_chk hd <| w_bk eD2 <| w_bnd rfl <| w_chk (T_7 hI2 hp hp2) <| w_some ?_
      refine m_lt <| m_b2 vM <| m_in i32_10 <| m_b2 hM <| m_ip rfl <| m_b2 eM2 <| m_some (ok_ok hE (Or.inl rfl) rfl ?_ (hI2.2.2.2.2.2.1.1 p hp).1 ⟨g2, w2, C2, Z2, hI2, by rw [cf_14 c2 (by decide)]; exact hE.2.2.2.1, cs2, by omega, by omega⟩)
      rw [cf_M0 c2]; exact m00
    · exact w_chk hd <| w_bx vD <| w_chk hd <| w_bt hD (by decide) <| m_lt <| m_b2 vM <| m_in i32_10 <| m_b2 hM <| m_in i32_10 <| m_b2 fails_eq <| m_some (th_ok hE (by decide) (Or.inr (Or.inr rfl)) rfl (by omega) (by omega))
  · exact w_chk hd <| w_bt vD (by decide) <| m_lt <| m_b2 vM <| m_ip rfl <| m_b2 fails_eq <| m_some (th_ok hE (by decide) (Or.inr (Or.inl rfl)) rfl (by omega) (by omega))
theorem st_broken : St_broken (Rel e0 d) d e0 := by
  intro t S M c z p1 hfr ht hR
  obtain ⟨g, w, hE⟩ := ent_of hfr ht hR
  have hI1 := E1 hE
  have hN := Inv_nums hI1
  have hd := hI1.2.2.1.2.1
  refine step_of ?_
  unfold q_X11_broken q_broken
  rcases val_run p1 hI1 with ⟨vD, vM⟩ | ⟨vD, vM⟩
  · rcases room_run 8 hI1 with ⟨hD, hM, h8⟩ | ⟨hD, hM⟩
    · have h8 := room_8 hN.2.1 h8
      obtain ⟨r1, S1, C1, Z1, eD1, r1', M1, eM1, rfl, g1, rfl, hI2, c1, cs1, o1, o2, o3, m13, m14, m2, m3, m6⟩ := s_cap hI1 (by omega)
      obtain ⟨r3, S3, C3, Z3, eD3, M3, eM3, g3, w3, hI3, c3, cs3, y1, y2, y3⟩ := s_reject (n := FU) (r := g 9 15) (v := p1) hI2 (by omega) FU_n
      have m13' : M3 13 (g 9 15) = nI (g 9 1) := by rw [c3.2.2.1.2.2.1 _ (by omega)]; exact m13
      obtain ⟨k1, k2, k3, k4, k5⟩ := rec_at hI3 (r := g 9 15) (p := g 9 1) (by omega) m13' (by omega)
      rw [cf_1 c3 (by omega)] at k1 k2
      refine w_chk hd <| w_bx vD <| w_chk hd <| w_bx hD <| w_chk hd <| w_bk eD1 <| w_chk hI2.2.2.1.2.1 <| w_bk eD3 <| w_bnd rfl <| w_chk k1 <| w_bnd k2 <| w_chk k3 <| w_some ?_
      refine m_lt <| m_b2 vM <| m_in i32_10 <| m_b2 hM <| m_ip rfl <| m_b2 eM1 <| m_b1 eM3 ?_
      rw [nI_clamp (by omega), m13']
      refine m_chk (inb_nI (by omega) (by omega)) <| m_some (ok_ok hE (Or.inl rfl) rfl ?_ k4 ⟨g3, w3, C1 + C3, Z1 + Z3, hI3, by rw [cf_14 c3 (by decide), cf_14 c1 (by decide)]; exact hE.2.2.2.1, ?_, by omega, by omega⟩)
      · rw [cf_M0 c3, cf_M0 c1]; exact m00
      · exact Cs_le (Cs_trans cs1 cs3) (by omega) (by omega)
    · exact w_chk hd <| w_bx vD <| w_chk hd <| w_bt hD (by decide) <| m_lt <| m_b2 vM <| m_in i32_10 <| m_b2 hM <| m_in i32_10 <| m_b2 fails_eq <| m_some (th_ok hE (by decide) (Or.inr (Or.inr rfl)) rfl (by omega) (by omega))
  · exact w_chk hd <| w_bt vD (by decide) <| m_lt <| m_b2 vM <| m_ip rfl <| m_b2 fails_eq <| m_some (th_ok hE (by decide) (Or.inr (Or.inl rfl)) rfl (by omega) (by omega))
/-- one of a pair's functions is called from outside -/
theorem one_run {r : Nat} {p2 p3 : Int32} (hI : Inv e0 d t 0 g w S M) (hr : r < g 9 15) (hO : g 9 1 + 1 ≤ 3000) (hn : 4000 < n) : RD (q_X11_callOneOf e0 n S d (some (g 1 r)) p2 p3) (fun r0 S' C Z => r0 = (if M 14 r = 0 then 1 else 0) ∧ ∃ M' g' w', (if p2 = 0 then q_resolve n M (nI r) p3 else q_reject n M (nI r) p3) = some M' ∧ Inv e0 d t 0 g' w' S' M' ∧ CF g S M g' S' M' ∧ Cs 0 g S g' S' C Z) := by
  have hd := hI.2.2.1.2.1
  obtain ⟨k1, k2, k3, -⟩ := hI.2.2.2.2.2.2.1 r hr
  have core : ∀ z0 : Int32, z0 = (if M 14 r = 0 then 1 else 0) → RD (q_X11_callOneOf_12 e0 n S d (some (g 1 r)) p2 p3 z0) (fun r0 S' C Z => r0 = (if M 14 r = 0 then 1 else 0) ∧ ∃ M' g' w', (if p2 = 0 then q_resolve n M (nI r) p3 else q_reject n M (nI r) p3) = some M' ∧ Inv e0 d t 0 g' w' S' M' ∧ CF g S M g' S' M' ∧ Cs 0 g S g' S' C Z) := by
    intro z0 hz
    have hB : isB z0 := by rw [hz]; split; exact Or.inr rfl; exact Or.inl rfl
    unfold q_X11_callOneOf_12
    by_cases h : p2 = 0
    · obtain ⟨r3, S3, C3, Z3, eD3, M3, eM3, g3, w3, hI3, c3, cs3, y1, y2, y3⟩ := s_resolve (n := n) (v := p3) hI hr hO hn
      exact w_ip h <| w_chk hd <| w_bk eD3 <| w_chk hB <| w_some ⟨hz, M3, g3, w3, by rw [if_pos h]; exact eM3, hI3, c3, Cs_le cs3 (by omega) (by omega)⟩
    · obtain ⟨r3, S3, C3, Z3, eD3, M3, eM3, g3, w3, hI3, c3, cs3, y1, y2, y3⟩ := s_reject (n := n) (v := p3) hI hr hn
      exact w_in h <| w_chk hd <| w_bk eD3 <| w_chk hB <| w_some ⟨hz, M3, g3, w3, by rw [if_neg h]; exact eM3, hI3, c3, Cs_le cs3 (by omega) (by omega)⟩
  unfold q_X11_callOneOf
  refine w_bnd rfl <| w_chk k1 ?_
  rw [k3]
  by_cases h : M 14 r = 0
  · exact w_ip h (core 1 (by rw [if_pos h]))
  · exact w_in h (core 0 (by rw [if_neg h]))
theorem st_settle : St_settle (Rel e0 d) d e0 := by
  intro t S M c z p1 p2 p3 hfr ht hR hB
  obtain ⟨g, w, hE⟩ := ent_of hfr ht hR
  have hI0 := hE.2.2.1
  have hI1 := E1 hE
  have hN := Inv_nums hI1
  have hd := hI1.2.2.1.2.1
  have h35 : ∀ z0 : Int32, z0 = 1 ∨ z0 = 2 → ∀ (M9 : MS), M9 = M → q_settle__35 FU M9 p1 p2 p3 z0 = some (0, mput (mput M 0 0 0) 0 0 z0) := by
    intro z0 hz M9 h9
    subst h9
    unfold q_settle__35
    rw [lt9_s, if_neg (by rw [r_m, if_pos ⟨rfl, rfl⟩]; rcases hz with rfl | rfl <;> decide), chk_i (Or.inl rfl), mp00]
  refine step_of ?_
  unfold q_X11_settle q_settle_ q_settle__17
  rcases rk_run p1 hI0 with ⟨p, r, hp, e1, e2, hp2, h6, hr, kD, kM⟩ | ⟨kD, kM⟩
  · rcases val_run p3 hI0 with ⟨vD, vM⟩ | ⟨vD, vM⟩
    · rcases room_run 8 hI0 with ⟨hD, hM, h8⟩ | ⟨hD, hM⟩
      · have h8 := room_8 hN.2.1 h8
        obtain ⟨r1, S1, C1, Z1, eD1, rfl, M1, g1, w1, eM1, hI2, c1, cs1⟩ := one_run (n := FU) (p2 := p2) (p3 := p3) hI1 hr (by omega) FU_n
        have hB1 : isB (if mput M 0 0 0 14 r = 0 then (1 : Int32) else 0) := by split; exact Or.inr rfl; exact Or.inl rfl
        refine w_chk hd <| w_bx kD <| w_chk hd <| w_bx vD <| w_chk hd <| w_bx hD <| w_chk hd <| w_bk eD1 <| w_chk hB1 <| w_some ?_
        refine m_b2 kM <| m_in i32_10 <| m_b2 vM <| m_in i32_10 <| m_b2 hM <| m_ip rfl ?_
        have h66 : mput M 0 0 0 6 p = nI r := by rw [r_m, if_neg (by omega)]; exact h6
        have h73 : ∀ z0 : Int32, isB z0 → q_settle__73 FU (mput M 0 0 0) p2 p3 (nI r) z0 = some (z0, M1) := by
          intro z0 hz
          unfold q_settle__73
          by_cases h : p2 = 0
          · rw [if_pos h] at eM1
            rw [if_pos h, eM1, bnd_s, chk_i hz]
          · rw [if_neg h] at eM1
            rw [if_neg h, eM1, bnd_s, chk_i hz]
        have hfin : q_settle__35 FU M p1 p2 p3 0 = some (if mput M 0 0 0 14 r = 0 then 1 else 0, M1) := by
          unfold q_settle__35
          rw [lt9_s, if_pos (by rw [m00]; decide), e2, chk_i (inb_nI (by omega) (by omega)), nI_clamp (by omega), h66, chk_i (inb_nI (by omega) (by omega)), nI_clamp (by omega)]
          by_cases h : mput M 0 0 0 14 r = 0
          · rw [if_pos h, if_pos h, h73 1 (Or.inr rfl)]
          · rw [if_neg h, if_neg h, h73 0 (Or.inl rfl)]
        rw [hfin]
        refine m_some (ok_ok hE (Or.inl rfl) rfl ?_ rfl ⟨g1, w1, C1, Z1, hI2, by rw [cf_14 c1 (by decide)]; exact hE.2.2.2.1, cs1, by omega, by omega⟩)
        rw [cf_M0 c1]; exact m00
      · refine w_chk hd <| w_bx kD <| w_chk hd <| w_bx vD <| w_chk hd <| w_bt hD (by decide) <| m_b2 kM <| m_in i32_10 <| m_b2 vM <| m_in i32_10 <| m_b2 hM <| m_in i32_10 ?_
        rw [h35 2 (Or.inr rfl) M rfl]
        exact m_some (th_ok hE (by decide) (Or.inr (Or.inr rfl)) rfl (by omega) (by omega))
    · refine w_chk hd <| w_bx kD <| w_chk hd <| w_bt vD (by decide) <| m_b2 kM <| m_in i32_10 <| m_b2 vM <| m_ip rfl ?_
      rw [h35 1 (Or.inl rfl) M rfl]
      exact m_some (th_ok hE (by decide) (Or.inr (Or.inl rfl)) rfl (by omega) (by omega))
  · refine w_chk hd <| w_bt kD (by decide) <| m_b2 kM <| m_ip rfl ?_
    rw [h35 1 (Or.inl rfl) M rfl]
    exact m_some (th_ok hE (by decide) (Or.inr (Or.inl rfl)) rfl (by omega) (by omega))
theorem st_later : St_later (Rel e0 d) d e0 := by
  intro t S M c z p1 p2 p3 hfr ht hR hB
  obtain ⟨g, w, hE⟩ := ent_of hfr ht hR
  have hI1 := E1 hE
  have hN := Inv_nums hI1
  have hd := hI1.2.2.1.2.1
  refine step_of ?_
  unfold q_X11_later q_later
  rcases rt_run p1 hI1 with ⟨p, hp, e1, e2, hp2, hK, kD, kM⟩ | ⟨kD, kM⟩
  · rcases val_run p3 hI1 with ⟨vD, vM⟩ | ⟨vD, vM⟩
    · rcases room_run 8 hI1 with ⟨hD, hM, h8⟩ | ⟨hD, hM⟩
      · have h8 := room_8 hN.2.1 h8
        obtain ⟨-, -, -, -, -, -, hkp⟩ := tk_1 (hI1.2.2.2.2.2.1.1 p hp).2.2.2 hp2
        refine w_chk hd <| w_bx kD <| w_chk hd <| w_bx vD <| w_chk hd <| w_bx hD <| w_bnd rfl <| w_chk hK ?_
        rcases hkp with ⟨h6, hn⟩ | ⟨r, h6, hr, hs⟩
        · refine w_ip hn <| w_some <| m_lt <| m_b2 kM <| m_in i32_10 <| m_b2 vM <| m_in i32_10 <| m_b2 hM <| m_ip rfl ?_
          rw [e2, nI_clamp (by omega), h6]
          exact m_chk (inb_nI (by omega) (by omega)) <| m_in (by decide) <| m_some (ok_ok hE (Or.inl rfl) rfl m00 rfl (Fin_q hE (by omega) (by omega)))
        · obtain ⟨r1, S1, C1, Z1, eD1, rfl, M1, g1, w1, eM1, hI2, c1, cs1⟩ := one_run (n := FU) (p2 := p2) (p3 := p3) hI1 hr (by omega) FU_n
          rw [hs]
          refine w_in (by simp) <| w_chk hd <| w_bk eD1 ?_
          have h76 : ∀ z0 : Int32, q_later_76 FU (mput M 0 0 0) p2 p3 (nI r) z0 = q_later_99 FU M1 z0 := by
            intro z0
            unfold q_later_76
            by_cases h : p2 = 0
            · rw [if_pos h] at eM1
              rw [if_pos h, eM1, bnd_s]
            · rw [if_neg h] at eM1
              rw [if_neg h, eM1, bnd_s]
          have h0 : M1 0 0 = 0 := by rw [cf_M0 c1]; exact m00
          have hF : ∀ C' Z', C' ≤ C1 + 20 → Z' ≤ Z1 + 1000 → FinC e0 d t g S S1 M1 C' Z' := fun C' Z' q1 q2 => ⟨g1, w1, C1, Z1, hI2, by rw [cf_14 c1 (by decide)]; exact hE.2.2.2.1, cs1, q1, q2⟩
          by_cases h : mput M 0 0 0 14 r = 0
          · rw [if_pos h]
            refine w_in i32_10 <| w_some <| m_lt <| m_b2 kM <| m_in i32_10 <| m_b2 vM <| m_in i32_10 <| m_b2 hM <| m_ip rfl ?_
            rw [e2, nI_clamp (by omega), h6, nI_clamp (by omega)]
            refine m_chk (inb_nI (by omega) (by omega)) <| m_ip (nI_pos' (by omega)) <| m_chk (inb_nI (by omega) (by omega)) <| m_ip h ?_
            rw [h76]
            unfold q_later_99
            exact m_in i32_10 <| m_some (ok_ok hE (Or.inl rfl) rfl h0 rfl (hF _ _ (by omega) (by omega)))
          · rw [if_neg h]
            refine w_ip rfl <| w_some <| m_lt <| m_b2 kM <| m_in i32_10 <| m_b2 vM <| m_in i32_10 <| m_b2 hM <| m_ip rfl ?_
            rw [e2, nI_clamp (by omega), h6, nI_clamp (by omega)]
            refine m_chk (inb_nI (by omega) (by omega)) <| m_ip (nI_pos' (by omega)) <| m_chk (inb_nI (by omega) (by omega)) <| m_in h ?_
            rw [h76]
            unfold q_later_99
            exact m_ip rfl <| m_some (ok_ok hE (Or.inl rfl) rfl h0 rfl (hF _ _ (by omega) (by omega)))
      · exact w_chk hd <| w_bx kD <| w_chk hd <| w_bx vD <| w_chk hd <| w_bt hD (by decide) <| m_lt <| m_b2 kM <| m_in i32_10 <| m_b2 vM <| m_in i32_10 <| m_b2 hM <| m_in i32_10 <| m_b2 fails_eq <| m_some (th_ok hE (by decide) (Or.inr (Or.inr rfl)) rfl (by omega) (by omega))
    · exact w_chk hd <| w_bx kD <| w_chk hd <| w_bt vD (by decide) <| m_lt <| m_b2 kM <| m_in i32_10 <| m_b2 vM <| m_ip rfl <| m_b2 fails_eq <| m_some (th_ok hE (by decide) (Or.inr (Or.inl rfl)) rfl (by omega) (by omega))
  · exact w_chk hd <| w_bt kD (by decide) <| m_lt <| m_b2 kM <| m_ip rfl <| m_b2 fails_eq <| m_some (th_ok hE (by decide) (Or.inr (Or.inl rfl)) rfl (by omega) (by omega))
/-- a handler's number, or -1 for none -/
theorem rh2 (v : Int32) (hI : Inv e0 d t x g w S M) : (∃ y k, q_X11_requireHandler e0 S d v = some ((0, y), S, 0, 0) ∧ k = (if v = -1 then (0 : Int32) else 1) ∧ fn g S M y k v ∧ (y = none ↔ v = -1) ∧ (v ≠ -1 → q_isHandler M v = some (1, M) ∧ ∃ h, h < g 9 33 ∧ v = nI h ∧ y = some (g 2 h))) ∨ (v ≠ -1 ∧ q_X11_requireHandler e0 S d v = some ((1, none), S, 1, 6) ∧ q_isHandler M v = some (0, M)) := by
  by_cases hv : v = -1
  · refine Or.inl ⟨none, 0, ?_, by rw [if_pos hv], Or.inl ⟨rfl, rfl⟩, ⟨fun _ => hv, fun _ => rfl⟩, fun h => absurd hv h⟩
    unfold q_X11_requireHandler
    rw [if_pos hv]
  · rcases rh_run v hv hI with ⟨h, hh, e, hD, hM⟩ | ⟨hD, hM⟩
    · exact Or.inl ⟨_, 1, hD, by rw [if_neg hv], Or.inr (Or.inl ⟨rfl, h, e, hh, rfl⟩), ⟨fun h => (by cases h), fun h => absurd h hv⟩, fun _ => ⟨hM, h, hh, e, rfl⟩⟩
    · exact Or.inr ⟨hv, hD, hM⟩
theorem wt_k {k : Nat} {kd f : Int32} (h : kd = 0 ∨ kd = 1) : wt g M k kd f := wt_no (by rcases h with rfl | rfl <;> decide)
theorem st_then : St_then (Rel e0 d) d e0 := by
  intro t S M c z p1 p2 p3 p4 hfr ht hR hB
  obtain ⟨g, w, hE⟩ := ent_of hfr ht hR
  have hI1 := E1 hE
  have hN := Inv_nums hI1
  have hd := hI1.2.2.1.2.1
  have hth : ∀ v : Int32, v = 1 → RM (some ((0 : Int32), mput (mput M 0 0 0) 0 0 v)) (fun r' M' => ok2 ((1, 0) : Nat × Int32).1 ∧ M' 0 0 = cd2 ((1, 0) : Nat × Int32).1 ∧ (((1, 0) : Nat × Int32).1 = 0 → ((1, 0) : Nat × Int32).2 = r') ∧ Rel e0 d (t + 1) S.2 M' (c + 1) (z + 6)) := fun v hv => m_some (th_ok hE (by decide) (Or.inr (Or.inl rfl)) (by rw [hv]; rfl) (by omega) (by omega))
  refine step_of ?_
  unfold q_X11_then
  rcases rp_run p1 hI1 with ⟨p, hp, e1, e2, hp2, hK, kD, kM⟩ | ⟨kD, kM⟩
  · -- what the reference does once the handlers are known
    rcases rh2 p2 hI1 with ⟨y1, k1, aD, ek1, af, an, aM⟩ | ⟨hv, aD, aM⟩
    · have hk1 : k1 = 0 ∨ k1 = 1 := by rw [ek1]; split; exact Or.inl rfl; exact Or.inr rfl
      have h27 : ∀ Q, RM (q_then__27 FU (mput M 0 0 0) p1 p2 p3 p4) Q → RM (q_then_ FU M p1 p2 p3 p4) Q := by
        intro Q hQ
        unfold q_then_
        refine m_lt <| m_b2 kM <| m_in i32_10 ?_
        by_cases h : p2 = -1
        · exact m_ip h hQ
        · exact m_in h <| m_b2 (aM h).1 <| m_in i32_10 hQ
      -- then, with the functions found
      have h28 : ∀ (y2 : Option Nat) (k2 : Int32), k2 = (if p4 = 0 ∨ p3 = -1 then (0 : Int32) else 1) → fn g S (mput M 0 0 0) y2 k2 p3 → (∀ Q, RM (q_then__51 FU (mput M 0 0 0) p1 p2 p3 p4) Q → RM (q_then_ FU M p1 p2 p3 p4) Q) → RD (q_X11_then_28 e0 S d (some (g 0 p)) y1 y2) (fun kr S' C Z => RM (q_then_ FU M p1 p2 p3 p4) (fun r' M' => ok2 kr.1 ∧ M' 0 0 = cd2 kr.1 ∧ (kr.1 = 0 → kr.2 = r') ∧ Rel e0 d (t + 1) S'.2 M' (c + C) (z + Z))) := by
        intro y2 k2 ek2 bf h51
        have hk2 : k2 = 0 ∨ k2 = 1 := by rw [ek2]; split; exact Or.inl rfl; exact Or.inr rfl
        unfold q_X11_then_28
        rcases room_run 8 hI1 with ⟨hD, hM, h8⟩ | ⟨hD, hM⟩
        · have h8 := room_8 hN.2.1 h8
          obtain ⟨r7, S7, C7, Z7, eD7, rfl, r7', M7, eM7, rfl, g7, w7, hI7, c7, cs7, x1, x2, x3⟩ := s_then (n := FU) (p := p) hI1 hp hp2 (by omega) af bf ⟨wt_k hk1, wt_k hk2⟩ FU_n
          refine w_chk hd <| w_bx hD <| w_chk hd <| w_bk eD7 <| w_some <| h51 _ ?_
          have hfin : ∀ C' Z', C' ≤ C7 + 20 → Z' ≤ Z7 + 1000 → RM (some (-2 - nI (g 9 1), M7)) (fun r' M' => ok2 ((0, -2 - nI (g 9 1)) : Nat × Int32).1 ∧ M' 0 0 = cd2 ((0, -2 - nI (g 9 1)) : Nat × Int32).1 ∧ (((0, -2 - nI (g 9 1)) : Nat × Int32).1 = 0 → ((0, -2 - nI (g 9 1)) : Nat × Int32).2 = r') ∧ Rel e0 d (t + 1) S7.2 M' (c + C') (z + Z')) := by
            intro C' Z' q1 q2
            refine m_some (ok_ok hE (Or.inl rfl) rfl ?_ rfl ⟨g7, w7, C7, Z7, hI7, by rw [cf_14 c7 (by decide)]; exact hE.2.2.2.1, Cs_le cs7 (by omega) (by omega), q1, q2⟩)
            rw [cf_M0 c7]; exact m00
          have h98 : ∀ v5 : Int32, v5 = k2 → ∀ z0 : Int32, z0 = k1 → q_then__98 FU (mput M 0 0 0) p2 p3 v5 z0 (nI p) = some (-2 - nI (g 9 1), M7) := by
            intro v5 h5 z0 hz
            unfold q_then__98
            subst h5 hz
            rcases hk2 with h | h
            · rw [if_pos h]
              rw [h] at eM7
              rw [eM7, bnd2_s]
            · rw [if_neg (by rw [h]; decide)]
              rw [h] at eM7
              rw [eM7, bnd2_s]
          have h81 : ∀ v5 : Int32, v5 = k2 → q_then__81 FU (mput M 0 0 0) p1 p2 p3 v5 = some (-2 - nI (g 9 1), M7) := by
            intro v5 h5
            unfold q_then__81
            rw [e2]
            by_cases h : p2 = -1
            · rw [if_pos h, h98 v5 h5 0 (by rw [ek1, if_pos h])]
            · rw [if_neg h, h98 v5 h5 1 (by rw [ek1, if_neg h])]
          unfold q_then__51 q_then__80
          refine m_b2 hM <| m_ip rfl ?_
          by_cases h4 : p4 = 0
          · refine m_ip h4 ?_
            rw [h81 0 (by rw [ek2, if_pos (Or.inl h4)])]; exact hfin _ _ (by omega) (by omega)
          · refine m_in h4 ?_
            by_cases h3 : p3 = -1
            · refine m_ip h3 ?_
              rw [h81 0 (by rw [ek2, if_pos (Or.inr h3)])]; exact hfin _ _ (by omega) (by omega)
            · refine m_in h3 ?_
              rw [h81 1 (by rw [ek2, if_neg (by intro h; rcases h with h | h; exact h4 h; exact h3 h)])]; exact hfin _ _ (by omega) (by omega)
        · refine w_chk hd <| w_bt hD (by decide) <| h51 _ ?_
          unfold q_then__51
          exact m_b2 hM <| m_in i32_10 <| m_b2 fails_eq <| m_some (th_ok hE (by decide) (Or.inr (Or.inr rfl)) rfl (by omega) (by omega))
      refine w_chk hd <| w_bx kD <| w_chk hd <| w_bx aD ?_
      by_cases h4 : p4 = 0
      · refine w_ip h4 ?_
        simp only [Nat.zero_add]
        refine h28 none 0 (by rw [if_pos (Or.inl h4)]) (Or.inl ⟨rfl, rfl⟩) (fun Q hQ => h27 Q ?_)
        unfold q_then__27
        exact m_ip h4 hQ
      · refine w_in h4 <| w_chk hd ?_
        rcases rh2 p3 hI1 with ⟨y2, k2, bD, ek2, bf, bn, bM⟩ | ⟨hv, bD, bM⟩
        · refine w_bx bD ?_
          simp only [Nat.zero_add]
          refine h28 y2 k2 ?_ bf (fun Q hQ => h27 Q ?_)
          · rw [ek2]
            by_cases h3 : p3 = -1
            · rw [if_pos h3, if_pos (Or.inr h3)]
            · rw [if_neg h3, if_neg (by intro h; rcases h with h | h; exact h4 h; exact h3 h)]
          · unfold q_then__27
            refine m_in h4 ?_
            by_cases h3 : p3 = -1
            · exact m_ip h3 hQ
            · exact m_in h3 <| m_b2 (bM h3).1 <| m_in i32_10 hQ
        · refine w_bt bD (by decide) <| h27 _ ?_
          unfold q_then__27
          exact m_in h4 <| m_in hv <| m_b2 bM <| m_ip rfl <| m_b2 fails_eq (hth 1 rfl)
    · refine w_chk hd <| w_bx kD <| w_chk hd <| w_bt aD (by decide) ?_
      unfold q_then_
      exact m_lt <| m_b2 kM <| m_in i32_10 <| m_in hv <| m_b2 aM <| m_ip rfl <| m_b2 fails_eq (hth 1 rfl)
  · refine w_chk hd <| w_bt kD (by decide) ?_
    unfold q_then_
    exact m_lt <| m_b2 kM <| m_ip rfl <| m_b2 fails_eq (hth 1 rfl)
theorem st_lastly : St_lastly (Rel e0 d) d e0 := by
  intro t S M c z p1 p2 hfr ht hR
  obtain ⟨g, w, hE⟩ := ent_of hfr ht hR
  have hI1 := E1 hE
  have hN := Inv_nums hI1
  have hd := hI1.2.2.1.2.1
  refine step_of ?_
  unfold q_X11_lastly
  rcases rp_run p1 hI1 with ⟨p, hp, e1, e2, hp2, hK, kD, kM⟩ | ⟨kD, kM⟩
  · rcases rh2 p2 hI1 with ⟨y1, k1, aD, ek1, af, an, aM⟩ | ⟨hv, aD, aM⟩
    · have h33 : ∀ Q, RM (q_lastly_33 FU (mput M 0 0 0) p1 p2) Q → RM (q_lastly FU M p1 p2) Q := by
        intro Q hQ
        unfold q_lastly
        refine m_lt <| m_b2 kM <| m_in i32_10 ?_
        by_cases h : p2 = -1
        · exact m_ip h hQ
        · exact m_in h <| m_b2 (aM h).1 <| m_in i32_10 hQ
      rcases room_run 8 hI1 with ⟨hD, hM, h8⟩ | ⟨hD, hM⟩
      · have h8 := room_8 hN.2.1 h8
        refine w_chk hd <| w_bx kD <| w_chk hd <| w_bx aD <| w_chk hd <| w_bx hD ?_
        by_cases h : p2 = -1
        · refine w_ip (an.mpr h) <| w_chk hd ?_
          obtain ⟨r7, S7, C7, Z7, eD7, rfl, r7', M7, eM7, rfl, g7, w7, hI7, c7, cs7, x1, x2, x3⟩ := s_then (n := FU) (p := p) (x1 := none) (x2 := none) (k1 := 0) (f1 := p2) (k2 := 0) (f2 := p2) hI1 hp hp2 (by omega) (Or.inl ⟨rfl, rfl⟩) (Or.inl ⟨rfl, rfl⟩) ⟨wt_k (Or.inl rfl), wt_k (Or.inl rfl)⟩ FU_n
          refine w_bk eD7 <| w_some <| h33 _ ?_
          unfold q_lastly_33 q_lastly_64
          rw [e2]
          refine m_b2 hM <| m_ip rfl <| m_ip h <| m_ip h <| m_b2 eM7 <| m_some (ok_ok hE (Or.inl rfl) rfl ?_ rfl ⟨g7, w7, C7, Z7, hI7, by rw [cf_14 c7 (by decide)]; exact hE.2.2.2.1, Cs_le cs7 (by omega) (by omega), by omega, by omega⟩)
          rw [cf_M0 c7]; exact m00
        · obtain ⟨aM1, h0, hh, eh, ey⟩ := aM h
          have hfr1 := hI1.2.2.1.1
          have hk0 := K_dn hfr1
          have hSa : Same S (sI (sP (sO S 6) 500 (dn S) (some (g 2 h0))) 501 (dn S) 0) := Same_sI (Same_sP (Same_sO hfr1 (by decide)) hk0) hk0
          have hfra := hSa.2.1
          have hka := K_dn hfra
          have hSb : Same (sI (sP (sO S 6) 500 (dn S) (some (g 2 h0))) 501 (dn S) 0) (sI (sP (sO (sI (sP (sO S 6) 500 (dn S) (some (g 2 h0))) 501 (dn S) 0) 6) 500 (dn (sI (sP (sO S 6) 500 (dn S) (some (g 2 h0))) 501 (dn S) 0)) (some (g 2 h0))) 501 (dn (sI (sP (sO S 6) 500 (dn S) (some (g 2 h0))) 501 (dn S) 0)) 2) := Same_sI (Same_sP (Same_sO hfra (by decide)) hka) hka
          have u1 : dK (sI (sP (sO S 6) 500 (dn S) (some (g 2 h0))) 501 (dn S) 0) (dn S) = 6 := by simp [r_KI, r_LI, r_PI, r_XI, r_YI, r_nI, r_II, r_KP, r_LP, r_IP, r_XP, r_YP, r_nP, r_PP, r_KX, r_LX, r_IX, r_PX, r_YX, r_nX, r_XX, r_KY, r_LY, r_IY, r_PY, r_XY, r_nY, r_YY, r_KO, r_LO, r_IO, r_PO, r_XO, r_YO, r_nO, r_KA, r_LA, r_IA, r_PA, r_XA, r_YA, r_nA, r_KB, r_LB, r_IB, r_PB, r_XB, r_YB, r_nB]
          have u2 : dP (sI (sP (sO S 6) 500 (dn S) (some (g 2 h0))) 501 (dn S) 0) 500 (dn S) = some (g 2 h0) := by simp [r_KI, r_LI, r_PI, r_XI, r_YI, r_nI, r_II, r_KP, r_LP, r_IP, r_XP, r_YP, r_nP, r_PP, r_KX, r_LX, r_IX, r_PX, r_YX, r_nX, r_XX, r_KY, r_LY, r_IY, r_PY, r_XY, r_nY, r_YY, r_KO, r_LO, r_IO, r_PO, r_XO, r_YO, r_nO, r_KA, r_LA, r_IA, r_PA, r_XA, r_YA, r_nA, r_KB, r_LB, r_IB, r_PB, r_XB, r_YB, r_nB]
          have u3 : dI (sI (sP (sO S 6) 500 (dn S) (some (g 2 h0))) 501 (dn S) 0) 501 (dn S) = 0 := by simp [r_KI, r_LI, r_PI, r_XI, r_YI, r_nI, r_II, r_KP, r_LP, r_IP, r_XP, r_YP, r_nP, r_PP, r_KX, r_LX, r_IX, r_PX, r_YX, r_nX, r_XX, r_KY, r_LY, r_IY, r_PY, r_XY, r_nY, r_YY, r_KO, r_LO, r_IO, r_PO, r_XO, r_YO, r_nO, r_KA, r_LA, r_IA, r_PA, r_XA, r_YA, r_nA, r_KB, r_LB, r_IB, r_PB, r_XB, r_YB, r_nB]
          rw [ey]
          unfold q_X5_init q_X3_init
          refine w_in (by simp) <| w_tick <| w_lt <| w_lt <| w_bndc <| w_bndc <| w_some <| w_chk (by simp [r_KI, r_LI, r_PI, r_XI, r_YI, r_nI, r_II, r_KP, r_LP, r_IP, r_XP, r_YP, r_nP, r_PP, r_KX, r_LX, r_IX, r_PX, r_YX, r_nX, r_XX, r_KY, r_LY, r_IY, r_PY, r_XY, r_nY, r_YY, r_KO, r_LO, r_IO, r_PO, r_XO, r_YO, r_nO, r_KA, r_LA, r_IA, r_PA, r_XA, r_YA, r_nA, r_KB, r_LB, r_IB, r_PB, r_XB, r_YB, r_nB]) <| w_lt <| w_lt <| w_some <| w_tick <| w_lt <| w_lt <| w_bndc <| w_bndc <| w_some <| w_chk (by simp [r_KI, r_LI, r_PI, r_XI, r_YI, r_nI, r_II, r_KP, r_LP, r_IP, r_XP, r_YP, r_nP, r_PP, r_KX, r_LX, r_IX, r_PX, r_YX, r_nX, r_XX, r_KY, r_LY, r_IY, r_PY, r_XY, r_nY, r_YY, r_KO, r_LO, r_IO, r_PO, r_XO, r_YO, r_nO, r_KA, r_LA, r_IA, r_PA, r_XA, r_YA, r_nA, r_KB, r_LB, r_IB, r_PB, r_XB, r_YB, r_nB]) <| w_lt <| w_lt <| w_some ?_
          generalize sI (sP (sO S 6) 500 (dn S) (some (g 2 h0))) 501 (dn S) 0 = Sa at *
          have v1 : dK (sI (sP (sO Sa 6) 500 (dn Sa) (some (g 2 h0))) 501 (dn Sa) 2) (dn Sa) = 6 := by simp [r_KI, r_LI, r_PI, r_XI, r_YI, r_nI, r_II, r_KP, r_LP, r_IP, r_XP, r_YP, r_nP, r_PP, r_KX, r_LX, r_IX, r_PX, r_YX, r_nX, r_XX, r_KY, r_LY, r_IY, r_PY, r_XY, r_nY, r_YY, r_KO, r_LO, r_IO, r_PO, r_XO, r_YO, r_nO, r_KA, r_LA, r_IA, r_PA, r_XA, r_YA, r_nA, r_KB, r_LB, r_IB, r_PB, r_XB, r_YB, r_nB]
          have v2 : dP (sI (sP (sO Sa 6) 500 (dn Sa) (some (g 2 h0))) 501 (dn Sa) 2) 500 (dn Sa) = some (g 2 h0) := by simp [r_KI, r_LI, r_PI, r_XI, r_YI, r_nI, r_II, r_KP, r_LP, r_IP, r_XP, r_YP, r_nP, r_PP, r_KX, r_LX, r_IX, r_PX, r_YX, r_nX, r_XX, r_KY, r_LY, r_IY, r_PY, r_XY, r_nY, r_YY, r_KO, r_LO, r_IO, r_PO, r_XO, r_YO, r_nO, r_KA, r_LA, r_IA, r_PA, r_XA, r_YA, r_nA, r_KB, r_LB, r_IB, r_PB, r_XB, r_YB, r_nB]
          have v3 : dI (sI (sP (sO Sa 6) 500 (dn Sa) (some (g 2 h0))) 501 (dn Sa) 2) 501 (dn Sa) = 2 := by simp [r_KI, r_LI, r_PI, r_XI, r_YI, r_nI, r_II, r_KP, r_LP, r_IP, r_XP, r_YP, r_nP, r_PP, r_KX, r_LX, r_IX, r_PX, r_YX, r_nX, r_XX, r_KY, r_LY, r_IY, r_PY, r_XY, r_nY, r_YY, r_KO, r_LO, r_IO, r_PO, r_XO, r_YO, r_nO, r_KA, r_LA, r_IA, r_PA, r_XA, r_YA, r_nA, r_KB, r_LB, r_IB, r_PB, r_XB, r_YB, r_nB]
          generalize sI (sP (sO Sa 6) 500 (dn Sa) (some (g 2 h0))) 501 (dn Sa) 2 = Sb at *
          have pb := hSb.2.2 (dn S) (by rw [u1]; decide)
          obtain ⟨hI2, c2⟩ := Inv_same hI1 (Same_trans hSa hSb)
          obtain ⟨r7, S7, C7, Z7, eD7, rfl, r7', M7, eM7, rfl, g7, w7, hI7, c7, cs7, x1, x2, x3⟩ := s_then (n := FU) (p := p) (x1 := some (dn S)) (x2 := some (dn Sa)) (k1 := 8) (f1 := p2) (k2 := 9) (f2 := p2) hI2 hp hp2 (by omega) (Or.inr (Or.inr (Or.inr (Or.inr (Or.inl ⟨Or.inl rfl, h0, dn S, eh, hh, rfl, by rw [pb.1]; exact u1, by rw [(pb.2.2.2.2 500).2]; exact u2, by rw [(pb.2.2.2.2 501).1, u3]; rfl⟩))))) (Or.inr (Or.inr (Or.inr (Or.inr (Or.inl ⟨Or.inr rfl, h0, dn Sa, eh, hh, rfl, v1, v2, by rw [v3]; rfl⟩))))) ⟨wt_no (by decide), wt_no (by decide)⟩ FU_n
          refine w_chk hI2.2.2.1.2.1 <| w_bk eD7 <| w_some <| h33 _ ?_
          unfold q_lastly_33 q_lastly_64
          rw [e2]
          refine m_b2 hM <| m_ip rfl <| m_in h <| m_in h <| m_b2 eM7 <| m_some (ok_ok hE (Or.inl rfl) rfl ?_ rfl ⟨g7, w7, C7, Z7, hI7, by rw [cf_14 c7 (by decide), cf_14 c2 (by decide)]; exact hE.2.2.2.1, ?_, by omega, by omega⟩)
          · rw [cf_M0 c7, cf_M0 c2]; exact m00
          · exact Cs_le (Cs_trans (Cs_0 hI1 c2 rfl) cs7) (by omega) (by omega)
      · refine w_chk hd <| w_bx kD <| w_chk hd <| w_bx aD <| w_chk hd <| w_bt hD (by decide) <| h33 _ ?_
        unfold q_lastly_33
        exact m_b2 hM <| m_in i32_10 <| m_b2 fails_eq <| m_some (th_ok hE (by decide) (Or.inr (Or.inr rfl)) rfl (by omega) (by omega))
    · refine w_chk hd <| w_bx kD <| w_chk hd <| w_bt aD (by decide) ?_
      unfold q_lastly
      exact m_lt <| m_b2 kM <| m_in i32_10 <| m_in hv <| m_b2 aM <| m_ip rfl <| m_b2 fails_eq <| m_some (th_ok hE (by decide) (Or.inr (Or.inl rfl)) rfl (by omega) (by omega))
  · refine w_chk hd <| w_bt kD (by decide) ?_
    unfold q_lastly
    exact m_lt <| m_b2 kM <| m_ip rfl <| m_b2 fails_eq <| m_some (th_ok hE (by decide) (Or.inr (Or.inl rfl)) rfl (by omega) (by omega))
theorem s_loop (ht : t < 512) : ∀ (m n : Nat) (g : GH) (w : Nat → List Nat) (S : DS) (M : MS) (v1 v2 : Int32), Inv e0 d t 0 g w S M → g 14 1 = 0 → M 0 0 = 0 → 14026 ≤ m + g 9 29 → m + 4001 ≤ n → RD (q_X11_jobs_7 e0 d n S v1 v2 (dP S 1106 d)) (fun kr S' C Z => RM (q_jobs_7 n M v1 v2) (fun r' M' => okS kr.1 ∧ M' 0 0 = cd1 kr.1 ∧ (kr.1 = 0 → kr.2 = r') ∧ ∃ g' w' C0 Z0, Inv e0 d t 0 g' w' S' M' ∧ g' 14 1 = 0 ∧ Cs 0 g S g' S' C0 Z0 ∧ C ≤ C0 + 20 ∧ Z ≤ Z0 + 1000))
  | 0, n, g, w, S, M, v1, v2, hI, _, _, hm, _ => by
    have hN := Inv_nums hI
    omega
  | m + 1, 0, _, _, _, _, _, _, _, _, _, _, hn => by omega
  | m + 1, n + 1, g, w, S, M, v1, v2, hI, hop, h0, hm, hn => by
    have hN := Inv_nums hI
    have hd := hI.2.2.1.2.1
    obtain ⟨c1, c15, c22, c29, c30, c33, c36, c38, c42, c50⟩ := hI.1
    have l1 := hI.2.2.2.1.2.2.2.1
    obtain ⟨b1, b2, b3, b4, b5⟩ := hI.2.2.2.2.2.2.2.2.2.2.1
    have stay : ∀ (r : Int32), okS ((0, r) : Nat × Int32).1 ∧ M 0 0 = cd1 ((0, r) : Nat × Int32).1 ∧ (((0, r) : Nat × Int32).1 = 0 → ((0, r) : Nat × Int32).2 = r) ∧ ∃ g' w' C0 Z0, Inv e0 d t 0 g' w' S M ∧ g' 14 1 = 0 ∧ Cs 0 g S g' S C0 Z0 ∧ 0 ≤ C0 + 20 ∧ 0 ≤ Z0 + 1000 := fun r => ⟨Or.inl rfl, by rw [h0]; rfl, fun _ => rfl, g, w, 0, 0, hI, hop, Cs_id rfl, by omega, by omega⟩
    have thr : ∀ (r : Int32), okS ((2, r) : Nat × Int32).1 ∧ mput M 0 0 1 0 0 = cd1 ((2, r) : Nat × Int32).1 ∧ (((2, r) : Nat × Int32).1 = 0 → ((2, r) : Nat × Int32).2 = 0) ∧ ∃ g' w' C0 Z0, Inv e0 d t 0 g' w' S (mput M 0 0 1) ∧ g' 14 1 = 0 ∧ Cs 0 g S g' S C0 Z0 ∧ 1 ≤ C0 + 20 ∧ 6 ≤ Z0 + 1000 := fun r => ⟨Or.inr rfl, by simp [r_m], fun h => absurd h (show ¬ (2 : Nat) = 0 by decide), g, w, 0, 0, Inv_m (Or.inl rfl) hI, hop, Cs_id rfl, by omega, by omega⟩
    unfold q_X11_jobs_7 q_jobs_7
    by_cases hv : v1 ≤ v2
    · by_cases hq : dP S 1106 d = none
      · exact w_ip hq <| w_some <| m_ip hv <| m_some (stay v2)
      · exact w_in hq <| w_ip hv <| w_some <| m_ip hv <| m_some (stay v2)
    · by_cases hj : g 9 29 < g 9 30
      · obtain ⟨d1, d2, d3⟩ := b3 hj
        rw [d1]
        refine w_in (by simp) <| w_in hv <| w_chk hd ?_
        have hM1 : ∀ Q, RM (bnd2 (q_isFull M 8) (fun r3 M2 => if r3 = 0 then if (M2 36 0) < 4000 then bnd (q_job n M2 ) (fun M6 => q_jobs_7 n M6 v1 (v2 + 1)) else bnd2 (q_fails M2 1) (fun r8 M7 => some (r8, M7)) else bnd2 (q_fails M2 1) (fun r5 M4 => some (r5, M4)))) Q → RM (if v1 ≤ v2 then some (v2, M) else if (M 30 0) ≤ (M 29 0) then some (v2, M) else bnd2 (q_isFull M 8) (fun r3 M2 => if r3 = 0 then if (M2 36 0) < 4000 then bnd (q_job n M2 ) (fun M6 => q_jobs_7 n M6 v1 (v2 + 1)) else bnd2 (q_fails M2 1) (fun r8 M7 => some (r8, M7)) else bnd2 (q_fails M2 1) (fun r5 M4 => some (r5, M4)))) Q := by
          intro Q hQ
          exact m_in hv <| m_in (by rw [c29, c30]; exact nI_ge hj (by omega)) hQ
        rcases room_run 8 hI with ⟨hD, hM, h8⟩ | ⟨hD, hM⟩
        · have h8 := room_8 hN.2.1 h8
          refine w_bx hD <| w_chk hd ?_
          have hlt : (nI (g 9 36) < 4000) ↔ g 9 36 < 4000 := by
            have e : (4000 : Int32) = nI 4000 := rfl
            rw [e, nI_ltI (by omega) (by omega)]
          by_cases hL : g 9 36 < 4000
          · refine w_bx (r := 0) (S := S) (C := 0) (Z := 0) ?_ <| w_chk hd ?_
            · unfold q_X11_requireRoomInLog
              rw [chk_i hd, l1, if_pos (hlt.mpr hL)]
            · obtain ⟨r1, S1, r2, S2, C2, Z2, eD1, hd1, eD2, M2, eM2, g2, w2, hI2, cs2, x1, x2, x3⟩ := s_job1 (n := n) hI ht hop hj h8 (by omega) (by omega)
              refine w_bk eD1 <| w_chk hd1 <| w_bk eD2 <| w_chk hI2.2.2.1.2.1 ?_
              refine w_mono (s_loop ht m n g2 w2 S2 M2 v1 (v2 + 1) hI2 x2 (by rw [x3]; exact h0) (by omega) (by omega)) ?_
              rintro kr S3 C3 Z3 ⟨r3, M3, eM3, y1, y2, y3, g3, w3, C0, Z0, y4, y5, y6, y7, y8⟩
              refine hM1 _ <| m_b2 hM <| m_ip rfl <| m_ip (by rw [c36]; exact hlt.mpr hL) <| m_b1 eM2 ⟨r3, M3, eM3, y1, y2, y3, g3, w3, C2 + C0, Z2 + Z0, y4, y5, ?_, by omega, by omega⟩
              exact Cs_le (Cs_trans cs2 y6) (by omega) (by omega)
          · refine w_bt (k := 2) (r := 0) (S := S) (C := 1) (Z := 6) ?_ (by decide) ?_
            · unfold q_X11_requireRoomInLog
              rw [chk_i hd, l1, if_neg (fun h => hL (hlt.mp h))]
            · exact hM1 _ <| m_b2 hM <| m_ip rfl <| m_in (by rw [c36]; exact fun h => hL (hlt.mp h)) <| m_b2 fails_eq <| m_some (thr 0)
        · exact w_bt hD (by decide) <| hM1 _ <| m_b2 hM <| m_in i32_10 <| m_b2 fails_eq <| m_some (thr 0)
      · have he : g 9 29 = g 9 30 := by omega
        refine w_ip (b2 he).1 <| w_some <| m_in hv <| m_ip ?_ <| m_some (stay v2)
        rw [c29, c30, he]
        exact nI_le (Nat.le_refl _) (by omega)
theorem st_jobs : St_jobs (Rel e0 d) d e0 := by
  intro t S M c z p1 hfr ht hR
  obtain ⟨g, w, hE⟩ := ent_of hfr ht hR
  have hI1 : Inv e0 d t 0 g w S (mput M 0 0 0) := Inv_m (Or.inl rfl) hE.2.1
  have hd := hI1.2.2.1.2.1
  refine step_of ?_
  unfold q_X11_jobs q_jobs
  refine w_chk hd ?_
  refine w_mono (s_loop ht 14026 FU g w S (mput M 0 0 0) p1 0 hI1 hE.2.2.2.1 m00 (by omega) (by unfold FU; omega)) ?_
  rintro kr S' C Z ⟨r', M', eM, h1, h2, h3, g', w', C0, Z0, h4, h5, h6, h7, h8⟩
  exact m_lt ⟨r', M', eM, h1, h2, h3, rel_fin hE ⟨g', w', C0, Z0, Inv_up h4 ht, h5, h6, h7, h8⟩⟩
end FA2
