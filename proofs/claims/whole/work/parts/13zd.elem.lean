section ELM
variable {e0 d t x n : Nat} {g g' : GH} {w w' : Nat → List Nat} {S S' S1 S2 S0 : DS} {M M' M1 : MS}
/-- what a call of a function does on both sides -/
def PC (e0 d t : Nat) (g : GH) (S : DS) (M : MS) (r : Int32) (S' : DS) (C Z : Nat) (r' : Int32) (M' : MS) : Prop := r' = r ∧ ∃ g' w', Inv e0 d t 0 g' w' S' M' ∧ WF g S M g' S' M' ∧ Cs 0 g S g' S' C Z ∧ dI S' 1109 d = M' 51 0 ∧ isB (M' 51 0) ∧ g' 9 1 ≤ g 9 1 + 6 ∧ g' 9 36 ≤ g 9 36 + 1 ∧ g' 14 1 = g 14 1
theorem cf_1109 (c : CF g S M g' S' M') (hd : dK S d = 12) : dI S' 1109 d = dI S 1109 d := ((c.1.2 d (by rw [hd]; decide)).2.2.2 1109 rfl).1
theorem cf_51 (c : CF g S M g' S' M') : M' 51 = M 51 := c.2.2.1.1 51 (by omega)
theorem cf_36 (c : CF g S M g' S' M') : g' 9 36 = g 9 36 := c.2.1.2.2.2.2.2.2.1
theorem cf_14 (c : CF g S M g' S' M') {i : Nat} (hi : i ≠ 4) : g' 14 i = g 14 i := c.2.1.2.2.2.2.2.2.2.2.2.2.2.2.2.2.2.2.2.2.2.2.2 i hi
theorem cf_0 (c : CF g S M g' S' M') {o : Nat} (ho : o < g 9 1) : g' 0 o = g 0 o := c.2.1.2.2.2.2.2.2.2.2.2.2.1 o ho
theorem cf_1 (c : CF g S M g' S' M') {r : Nat} (hr : r < g 9 15) : g' 1 r = g 1 r := c.2.1.2.2.2.2.2.2.2.2.2.2.2.1 r hr
theorem cf_4 (c : CF g S M g' S' M') : g' 4 = g 4 := c.2.1.2.2.2.2.2.2.2.2.2.2.2.2.2.2.1
theorem cf_5 (c : CF g S M g' S' M') : g' 5 = g 5 := c.2.1.2.2.2.2.2.2.2.2.2.2.2.2.2.2.2.1
theorem cf_50 (c : CF g S M g' S' M') : g' 9 50 = g 9 50 := c.2.1.2.2.2.2.2.2.2.2.2.1
theorem cf_P (c : CF g S M g' S' M') {a f : Nat} (ha : dK S a ≠ 0) (hf : fx f = false) : dP S' f a = dP S f a := ((c.1.2 a ha).2.2.2 f hf).2
theorem cf_I (c : CF g S M g' S' M') {a f : Nat} (ha : dK S a ≠ 0) (hf : fx f = false) : dI S' f a = dI S f a := ((c.1.2 a ha).2.2.2 f hf).1
theorem cf_K (c : CF g S M g' S' M') {a : Nat} (ha : dK S a ≠ 0) : dK S' a = dK S a := (c.1.2 a ha).1
theorem s_simple {a r : Nat} {kd v : Int32} (hI : Inv e0 d t 0 g w S M) (hk : kd = 2 ∨ kd = 3) (hr : r < g 9 15) (ha : dK S a = 9) (h800 : dI S 800 a = -1) (h801 : dI S 801 a = if kd = 2 then 4 else 5) (h803 : dP S 803 a = some (g 1 r)) (hO : g 9 1 + 1 ≤ 3000) (hn : 4000 < n) : RD (q_X8_callIn e0 n S a (some d) v) (fun r0 S' C Z => RM (q_call n M kd (nI r) v) (fun r' M' => PC e0 d t g S M r0 S' C Z r' M')) := by
  have hd := hI.2.2.1.2.1
  have hI2 : Inv e0 d t 0 g w (sI S 1109 d 0) (mput M 51 0 0) := Inv_m (Or.inr rfl) (Inv_1109 hI)
  have f2 : WF g S M g (sI S 1109 d 0) (mput M 51 0 0) := WF_th hd (Or.inr rfl)
  have hd2 : dK (sI S 1109 d 0) d = 12 := hd
  have fin : ∀ {g2 w2 S2 M2 C2 Z2}, Inv e0 d t 0 g2 w2 S2 M2 → CF g (sI S 1109 d 0) (mput M 51 0 0) g2 S2 M2 → Cs 0 g (sI S 1109 d 0) g2 S2 C2 Z2 → g2 9 1 ≤ g 9 1 + 1 → PC e0 d t g S M (-1) S2 C2 Z2 (-1) M2 := by
    intro g2 w2 S2 M2 C2 Z2 a1 a2 a3 a4
    have h51 : M2 51 0 = 0 := by rw [cf_51 a2, r_m]; simp
    refine ⟨rfl, g2, w2, a1, WF_trans f2 (WF_cf a2), a3, ?_, by rw [h51]; exact Or.inl rfl, by omega, by rw [cf_36 a2]; omega, cf_14 a2 (by decide)⟩
    rw [cf_1109 a2 hd2, h51]; simp [r_KI, r_LI, r_PI, r_XI, r_YI, r_nI, r_II, r_KP, r_LP, r_IP, r_XP, r_YP, r_nP, r_PP, r_KX, r_LX, r_IX, r_PX, r_YX, r_nX, r_XX, r_KY, r_LY, r_IY, r_PY, r_XY, r_nY, r_YY, r_KO, r_LO, r_IO, r_PO, r_XO, r_YO, r_nO, r_KA, r_LA, r_IA, r_PA, r_XA, r_YA, r_nA, r_KB, r_LB, r_IB, r_PB, r_XB, r_YB, r_nB]
  have hz : dI S 801 a = 4 ∨ dI S 801 a = 5 := by
    rcases hk with rfl | rfl
    · exact Or.inl h801
    · exact Or.inr h801
  have n0 : ¬ dI S 801 a = 0 := by rcases hz with e | e <;> rw [e] <;> decide
  have n1 : ¬ dI S 801 a = 1 := by rcases hz with e | e <;> rw [e] <;> decide
  have n2 : ¬ dI S 801 a = 2 := by rcases hz with e | e <;> rw [e] <;> decide
  have n3 : ¬ dI S 801 a = 3 := by rcases hz with e | e <;> rw [e] <;> decide
  unfold q_X8_callIn q_X8_callIn_17 q_X8_callIn_39 q_call
  refine w_chk ha <| w_ip h800 <| w_chk ha <| w_in n2 <| w_in n3 <| w_bnd rfl <| w_chk hd <| w_chk (Or.inl rfl) <| w_lt <| w_chk ha ?_
  rw [i1109 (by decide)]
  refine w_in n0 <| w_in n1 <| w_in n2 <| w_in n3 ?_
  rw [show dP (sI S 1109 d 0) 803 a = some (g 1 r) from h803]
  rcases hk with rfl | rfl
  · obtain ⟨r3, S3, C3, Z3, eD3, M3, eM3, g3, w3, hI3, c3, cs3, y1, y2, y3⟩ := s_resolve (n := n) (v := v) hI2 hr hO hn
    refine w_ip h801 <| w_bnd rfl <| w_chk hd2 <| w_bk eD3 <| w_some ?_
    refine m_chk (Or.inl rfl) <| m_lt <| m_in (by decide) <| m_ip rfl ?_
    rw [eM3, bnd_s]
    exact m_some (fin hI3 c3 (Cs_le cs3 (by omega) (by omega)) y1)
  · obtain ⟨r3, S3, C3, Z3, eD3, M3, eM3, g3, w3, hI3, c3, cs3, y1, y2, y3⟩ := s_reject (n := n) (v := v) hI2 hr hn
    refine w_in (by rw [h801]; decide) <| w_bnd rfl <| w_chk hd2 <| w_bk eD3 <| w_some ?_
    refine m_chk (Or.inl rfl) <| m_lt <| m_in (by decide) <| m_in (by decide) <| m_ip rfl ?_
    rw [eM3, bnd_s]
    exact m_some (fin hI3 c3 (Cs_le cs3 (by omega) (by omega)) (by omega))
theorem s_gives {a m : Nat} {kd v : Int32} (hI : Inv e0 d t 0 g w S M) (hk : kd = 10 ∨ kd = 11) (hm : m < g 9 42) (ha : dK S a = 9) (h800 : dI S 800 a = -1) (h801 : dI S 801 a = if kd = 10 then 0 else 2) (h802 : dI S 802 a = M 39 m) : RD (q_X8_callIn e0 n S a (some d) v) (fun r0 S' C Z => RM (q_call n M kd (nI m) v) (fun r' M' => PC e0 d t g S M r0 S' C Z r' M')) := by
  have hN := Inv_nums hI
  have hd := hI.2.2.1.2.1
  have him : inb (nI m) 20000 := inb_nI (by omega) (by omega)
  have cm : (nI m).toNatClampNeg = m := nI_clamp (by omega)
  unfold q_X8_callIn q_X8_callIn_17 q_X8_callIn_34 q_X8_callIn_39 q_call
  rw [cm]
  refine w_chk ha <| w_ip h800 <| w_chk ha ?_
  rcases hk with rfl | rfl
  · have h801 : dI S 801 a = 0 := h801
    refine w_in (by rw [h801]; decide) <| w_in (by rw [h801]; decide) <| w_bnd rfl <| w_chk hd <| w_chk (Or.inl rfl) <| w_lt <| w_chk ha ?_
    rw [i1109 (by decide), i1109 (by decide)]
    refine w_ip h801 <| w_some ?_
    refine m_chk (Or.inl rfl) <| m_lt <| m_in (by decide) <| m_in (by decide) <| m_in (by decide) <| m_in (by decide) <| m_in (by decide) <| m_in (by decide) <| m_in (by decide) <| m_in (by decide) <| m_in (by decide) <| m_ip rfl <| m_chk him <| m_some ?_
    refine ⟨by rw [h802, r_m, if_neg (by omega)], g, w, Inv_m (Or.inr rfl) (Inv_1109 hI), WF_th hd (Or.inr rfl), Cs_id rfl, by simp [r_II, r_m], by simp [r_m]; exact Or.inl rfl, by omega, by omega, rfl⟩
  · have h801 : dI S 801 a = 2 := h801
    refine w_ip h801 <| w_bnd rfl <| w_chk hd <| w_chk (Or.inr rfl) <| w_lt <| w_chk ha ?_
    rw [i1109 (by decide), i1109 (by decide)]
    refine w_in (by rw [h801]; decide) <| w_in (by rw [h801]; decide) <| w_ip h801 <| w_some ?_
    refine m_chk (Or.inl rfl) <| m_lt <| m_in (by decide) <| m_in (by decide) <| m_in (by decide) <| m_in (by decide) <| m_in (by decide) <| m_in (by decide) <| m_in (by decide) <| m_in (by decide) <| m_in (by decide) <| m_in (by decide) <| m_ip rfl <| m_chk (Or.inr rfl) <| m_lt <| m_chk him <| m_some ?_
    refine ⟨by rw [h802, r_m, if_neg (by omega), r_m, if_neg (by omega)], g, w, Inv_m (Or.inr rfl) (Inv_m (Or.inr rfl) (Inv_1109 hI)), WF_trans (WF_th hd (Or.inr rfl)) (WF_m (Or.inr rfl)), Cs_id rfl, by simp [r_II, r_m], by simp [r_m]; exact Or.inr rfl, by omega, by omega, rfl⟩
/-- the reference's new object, written out -/
def nO (M : MS) (O : Nat) (kd : Int32) : MS := mput (mput (mput (mput (mput (mput M 1 0 (nI O + 1)) 2 O kd) 3 O 0) 4 O (-1)) 5 O (-1)) 6 O (-1)
theorem nO_eq {O : Nat} {kd : Int32} (h : M 1 0 = nI O) (hO : O < 3000) : q_newObject M kd = some (nI O, nO M O kd) := by
  have hi : inb (nI O) 3000 := inb_nI (by omega) (by omega)
  unfold q_newObject nO
  rw [h, nI_clamp (by omega)]
  rw [lt9_s, chk_i hi, lt9_s, chk_i hi, lt9_s, chk_i hi, lt9_s, chk_i hi, lt9_s, chk_i hi, lt9_s]
theorem fa_K {tl ed a : Nat} (h : Same S S1) (h2 : FA S1 S2 tl ed) (ha : dK S a ≠ 0) : dK S2 a = dK S a ∧ dL S2 a = dL S a ∧ dX S2 a = dX S a := by
  have p := h.2.2 a ha
  have q := h2.2 a (by rw [p.1]; exact ha)
  exact ⟨q.1.trans p.1, q.2.1.trans p.2.1, q.2.2.1.trans p.2.2.1⟩
/-- an array or an error that shows a combination's values -/
theorem s_arr {q : Nat} {kd : Int32} (hI : Inv e0 d t x g w S M) (hkd : kd = 3 ∨ kd = 4) (hq : q < g 9 50) (hk : dK S (g 4 q) = 3) (hans : ∀ i, i < g 16 q → M 41 (g 15 q + i) ≠ 0) (hO : g 9 1 + 1 ≤ 3000) : RD (q_X11_newThing e0 S d kd (some (g 5 q))) (fun r S' C Z => r = -2 - nI (g 9 1) ∧ RM (q_array M (nI q) kd) (fun r' M' => r' = -2 - nI (g 9 1) ∧ ∃ g', Inv e0 d t x g' w S' M' ∧ CF g S M g' S' M' ∧ Cs 5 g S g' S' C Z ∧ g' 9 1 = g 9 1 + 1 ∧ g' 9 15 = g 9 15 ∧ g' 9 22 = g 9 22)) := by
  have hN := Inv_nums hI
  refine w_mono (thingD_run (kd := kd) (p2 := some (g 5 q)) hI) ?_
  rintro r S2 C Z ⟨rfl, a, ed', S1, f1, f2, f3, f4, f5, f6, f7, f8, f9, f10, f11, f12, f13, f14, f15⟩
  refine ⟨rfl, ?_⟩
  have hiq : inb (nI q) 3000 := inb_nI (by omega) (by omega)
  have cq : (nI q).toNatClampNeg = q := nI_clamp (by omega)
  have hiO : inb (nI (g 9 1)) 3000 := inb_nI (by omega) (by omega)
  have cO : (nI (g 9 1)).toNatClampNeg = g 9 1 := nI_clamp (by omega)
  obtain ⟨k43, k44, -⟩ := hI.2.2.2.2.2.2.2.2.2.2.2 q hq
  have e43 : nO M (g 9 1) kd 43 q = nI (g 15 q) := by unfold nO; simp [r_m]; exact k43
  have e44 : mput (nO M (g 9 1) kd) 8 (g 9 1) (nI (g 15 q)) 44 q = nI (g 16 q) := by unfold nO; simp [r_m]; exact k44
  have eM : q_array M (nI q) kd = some (-2 - nI (g 9 1), mput (mput (nO M (g 9 1) kd) 8 (g 9 1) (nI (g 15 q))) 9 (g 9 1) (nI (g 16 q))) := by
    unfold q_array
    rw [nO_eq hI.1.1 (by omega), bnd2_s, chk_i hiq, chk_i hiO, lt9_s, cq, cO, e43, chk_i hiq, chk_i hiO, lt9_s, e44]
  rw [eM]
  obtain ⟨hI', c⟩ := P_thing hI f1 f2 (by omega) f4 f5 f6 f7 hO (M' := mput (mput (nO M (g 9 1) kd) 8 (g 9 1) (nI (g 15 q))) 9 (g 9 1) (nI (g 16 q))) (by unfold nO; simp [r_m, nI_1]) (fun k i h1 h2 => by
      unfold nO
      simp only [r_m]
      rw [if_neg (by omega), if_neg (by omega), if_neg (by omega), if_neg (by omega), if_neg (by omega), if_neg (by omega), if_neg (by omega), if_neg (by omega)]) (by unfold nO; simp [r_m]) (by unfold nO; simp [r_m]) rfl ⟨f8, f9⟩ ⟨f10, by rw [f11]; unfold nO; simp [r_m], by
      refine Or.inr (Or.inr (Or.inr (Or.inl ⟨?_, f13, q, ?_, ?_, ?_, ?_, ?_, fun i hi => ?_⟩)))
      · unfold nO; simp [r_m]; exact hkd
      · simp [r_g]; exact hq
      · simp [r_g]; exact f12
      · simp [r_g]; rw [(fa_K f1 f4 (by rw [hk]; decide)).1]; exact hk
      · unfold nO; simp [r_m, r_g]
      · unfold nO; simp [r_m, r_g]
      · simp [r_g] at hi
        unfold nO; simp [r_m, r_g]; exact hans i hi⟩
  refine m_some ⟨rfl, _, hI', c, Cs_mk hI c ?_ ?_, by simp [r_g], by simp [r_g], by simp [r_g]⟩
  · simp [r_g]; omega
  · simp [r_g]; omega
/-- all of a combination's elements have answered -/
theorem s_finish {q : Nat} {ag : Int32} (hI : Inv e0 d t 0 g w S M) (hq : q < g 9 50) (hk : dK S (g 4 q) = 3) (hans : ∀ i, i < g 16 q → M 41 (g 15 q + i) ≠ 0) (hag : ag = if dI S 200 (g 4 q) = 2 then 1 else 0) (hO : g 9 1 + 3 ≤ 3000) (hn : 4000 < n) : RD (q_X11_complete e0 n S d (some (g 4 q))) (fun _ S' C Z => RV (q_finish n M (nI q) ag) (fun M' => ∃ g' w', Inv e0 d t 0 g' w' S' M' ∧ CF g S M g' S' M' ∧ Cs 0 g S g' S' C Z ∧ g' 9 1 ≤ g 9 1 + 3)) := by
  have hN := Inv_nums hI
  have hd := hI.2.2.1.2.1
  have hiq : inb (nI q) 3000 := inb_nI (by omega) (by omega)
  have cq : (nI q).toNatClampNeg = q := nI_clamp (by omega)
  obtain ⟨k1, k2, k3, k4, k5, k6, k7, k8, r, k9, k10, k11⟩ := hI.2.2.2.2.2.2.2.2.2.2.2 q hq
  have kg : dP S 201 (g 4 q) = some (g 5 q) ∧ dP S 202 (g 4 q) = some (g 1 r) := by
    rcases k11 with ⟨-, a2, a3, -⟩ | ⟨a1, -⟩
    · exact ⟨a2, a3⟩
    · rw [hk] at a1; cases a1
  have hk0 : dK S (g 4 q) ≠ 0 := by rw [hk]; decide
  unfold q_X11_complete q_finish
  refine w_bnd rfl <| w_chk hk ?_
  by_cases h2 : dI S 200 (g 4 q) = 2
  · rw [if_pos h2] at hag
    subst hag
    refine w_ip h2 <| w_chk hd ?_
    rw [kg.1]
    obtain ⟨r1, S1, C1, Z1, eD1, rfl, r1', M1, eM1, rfl, g1, hI1, c1, cs1, o1, o2, o3⟩ := s_arr (kd := 3) hI (Or.inl rfl) hq hk hans (by omega)
    have hk1 : dK S1 (g1 4 q) = 3 := by rw [cf_4 c1, cf_K c1 hk0]; exact hk
    have hc5 := c1.2.1
    unfold GE at hc5
    have e15 : g1 15 = g 15 := by grind
    have e16 : g1 16 = g 16 := by grind
    obtain ⟨r2, S2, C2, Z2, eD2, rfl, r2', M2, eM2, rfl, g2, hI2, c2, cs2, p1, p2, p3⟩ := s_arr (kd := 4) hI1 (Or.inr rfl) (by rw [cf_50 c1]; exact hq) hk1 (by rw [e15, e16, c1.2.2.1.1 41 (by omega)]; exact hans) (by omega)
    have c12 := CF_trans c1 c2
    obtain ⟨r3, S3, C3, Z3, eD3, M3, eM3, g3, w3, hI3, c3, cs3, y1, y2, y3⟩ := s_reject (n := n) (r := r) (v := -2 - nI (g 9 1)) hI2 (by omega) hn
    refine w_bk eD1 <| w_chk (by rw [cf_K c1 hk0]; exact hk) <| w_chk hI1.2.2.1.2.1 ?_
    rw [cf_P c1 hk0 rfl, kg.1, ← cf_5 c1]
    refine w_bk eD2 <| w_chk (by rw [cf_K c12 hk0]; exact hk) <| w_chk hI2.2.2.1.2.1 ?_
    rw [cf_P c12 hk0 rfl, kg.2, ← cf_1 c12 k9]
    refine w_bk eD3 <| w_some ?_
    refine v_in (by decide) ?_
    have e46 : M2 46 q = nI r := by rw [c12.2.2.1.1 46 (by omega)]; exact k10
    rw [eM1, bnd2_s, eM2, bnd2_s, chk_i hiq, cq, e46, eM3, bnd_s]
    refine v_some ⟨g3, w3, hI3, CF_trans c12 c3, ?_, by omega⟩
    exact Cs_le (Cs_trans cs1 (Cs_trans cs2 cs3)) (by omega) (by omega)
  · rw [if_neg h2] at hag
    subst hag
    refine w_in h2 <| w_chk hd ?_
    rw [kg.1, kg.2]
    obtain ⟨r1, S1, C1, Z1, eD1, rfl, r1', M1, eM1, rfl, g1, hI1, c1, cs1, o1, o2, o3⟩ := s_arr (kd := 4) hI (Or.inr rfl) hq hk hans (by omega)
    obtain ⟨r3, S3, C3, Z3, eD3, M3, eM3, g3, w3, hI3, c3, cs3, y1, y2, y3⟩ := s_resolve (n := n) (r := r) (v := -2 - nI (g 9 1)) hI1 (by omega) (by omega) hn
    rw [cf_1 c1 k9] at eD3
    refine w_bk eD1 <| w_chk hI1.2.2.1.2.1 <| w_bk eD3 <| w_some ?_
    refine v_ip rfl ?_
    rw [chk_i hiq, eM1, bnd2_s, cq, k10, eM3, bnd_s]
    refine v_some ⟨g3, w3, hI3, CF_trans c1 c3, ?_, by omega⟩
    exact Cs_le (Cs_trans cs1 cs3) (by omega) (by omega)
/-- the object that allSettled makes of an answer -/
theorem s_settled {b : Nat} {z v : Int32} (hI : Inv e0 d t x g w S M) (hb : dK S b = 20) (hl : dL S b = 2) (h12 : g 12 b = 3) (hx0 : dX S b 0 = z) (hx1 : dX S b 1 = v) (hO : g 9 1 + 1 ≤ 3000) : RD (q_X11_newThing e0 S d 5 (some b)) (fun r S' C Z => r = -2 - nI (g 9 1) ∧ ∃ g', Inv e0 d t x g' w S' (mput (mput (nO M (g 9 1) 5) 8 (g 9 1) z) 9 (g 9 1) v) ∧ CF g S M g' S' (mput (mput (nO M (g 9 1) 5) 8 (g 9 1) z) 9 (g 9 1) v) ∧ Cs 5 g S g' S' C Z ∧ g' 9 1 = g 9 1 + 1 ∧ g' 7 = g 7) := by
  refine w_mono (thingD_run (kd := 5) (p2 := some b) hI) ?_
  rintro r S2 C Z ⟨rfl, a, ed', S1, f1, f2, f3, f4, f5, f6, f7, f8, f9, f10, f11, f12, f13, f14, f15⟩
  have hab : b ≠ a := by rintro rfl; rw [f2] at hb; cases hb
  have hbb := fa_K f1 f4 (a := b) (by rw [hb]; decide)
  refine ⟨rfl, ?_⟩
  obtain ⟨hI', c⟩ := P_thing hI f1 f2 (by omega) f4 f5 f6 f7 hO (M' := mput (mput (nO M (g 9 1) 5) 8 (g 9 1) z) 9 (g 9 1) v) (by unfold nO; simp [r_m, nI_1]) (fun k i h1 h2 => by
      unfold nO
      simp only [r_m]
      rw [if_neg (by omega), if_neg (by omega), if_neg (by omega), if_neg (by omega), if_neg (by omega), if_neg (by omega), if_neg (by omega), if_neg (by omega)]) (by unfold nO; simp [r_m]) (by unfold nO; simp [r_m]) rfl ⟨f8, f9⟩ ⟨f10, by rw [f11]; unfold nO; simp [r_m], by
      refine Or.inr (Or.inr (Or.inr (Or.inr ⟨?_, f13, b, f12, ?_, ?_, ?_, ?_, ?_⟩)))
      · unfold nO; simp [r_m]
      · rw [hbb.1]; exact hb
      · rw [hbb.2.1]; exact hl
      · simp [r_g, hab]; exact h12
      · rw [hbb.2.2, hx0]; unfold nO; simp [r_m]
      · rw [hbb.2.2, hx1]; unfold nO; simp [r_m]⟩
  refine ⟨_, hI', c, Cs_mk hI c ?_ ?_, by simp [r_g], ?_⟩
  · simp [r_g]; omega
  · simp [r_g]; omega
  · rw [r_gf (by omega), r_gf (by omega), r_gf (by omega), r_gf (by omega)]
/-- an element answers -/
theorem P_el {e q i k : Nat} {v : Int32} (hI : Inv e0 d t x g w S M) (hq : q < g 9 50) (hk : dK S (g 4 q) = 3) (hi : i < g 16 q) (he : e = g 15 q + i) (h41 : M 41 e = 0) (hg8 : g 8 e = k) (h7 : g 7 (g 3 k) = 0) (h200 : dI S 200 (g 4 q) ≠ 3) (hop : q + 1 ≠ g 14 1) (hS : S' = sI (sX S (g 5 q) (upd (dX S (g 5 q)) i v)) 203 (g 4 q) (dI S 203 (g 4 q) - 1)) (hM : M' = mput (mput (mput M 41 e 1) 39 e v) 45 q (M 45 q - 1)) : Inv e0 d t x g w S' M' ∧ WF g S M g S' M' ∧ dI S' 203 (g 4 q) = M' 45 q ∧ M' 45 q = nI (sumN (un41 M' (g 15 q)) (g 16 q)) := by
  have hN := Inv_nums hI
  obtain ⟨i1, i2, i3, i4, i5, i6, i7, i8, i9, i10, i11, i12⟩ := hI
  have en : dn S' = dn S := by rw [hS]; rfl
  have eK : dK S' = dK S := by rw [hS]; rfl
  have eL : dL S' = dL S := by rw [hS]; rfl
  have eP : dP S' = dP S := by rw [hS]; rfl
  have eY : dY S' = dY S := by rw [hS]; rfl
  have eI : ∀ f, f ≠ 203 → dI S' f = dI S f := fun f hf => funext fun y => by rw [hS]; simp [r_KI, r_LI, r_PI, r_XI, r_YI, r_nI, r_II, r_KP, r_LP, r_IP, r_XP, r_YP, r_nP, r_PP, r_KX, r_LX, r_IX, r_PX, r_YX, r_nX, r_XX, r_KY, r_LY, r_IY, r_PY, r_XY, r_nY, r_YY, r_KO, r_LO, r_IO, r_PO, r_XO, r_YO, r_nO, r_KA, r_LA, r_IA, r_PA, r_XA, r_YA, r_nA, r_KB, r_LB, r_IB, r_PB, r_XB, r_YB, r_nB, hf]
  have eX : ∀ y, y ≠ g 5 q → dX S' y = dX S y := fun y hy => by rw [hS]; simp [r_KI, r_LI, r_PI, r_XI, r_YI, r_nI, r_II, r_KP, r_LP, r_IP, r_XP, r_YP, r_nP, r_PP, r_KX, r_LX, r_IX, r_PX, r_YX, r_nX, r_XX, r_KY, r_LY, r_IY, r_PY, r_XY, r_nY, r_YY, r_KO, r_LO, r_IO, r_PO, r_XO, r_YO, r_nO, r_KA, r_LA, r_IA, r_PA, r_XA, r_YA, r_nA, r_KB, r_LB, r_IB, r_PB, r_XB, r_YB, r_nB, hy]
  have eXq : dX S' (g 5 q) = upd (dX S (g 5 q)) i v := by rw [hS]; simp [r_KI, r_LI, r_PI, r_XI, r_YI, r_nI, r_II, r_KP, r_LP, r_IP, r_XP, r_YP, r_nP, r_PP, r_KX, r_LX, r_IX, r_PX, r_YX, r_nX, r_XX, r_KY, r_LY, r_IY, r_PY, r_XY, r_nY, r_YY, r_KO, r_LO, r_IO, r_PO, r_XO, r_YO, r_nO, r_KA, r_LA, r_IA, r_PA, r_XA, r_YA, r_nA, r_KB, r_LB, r_IB, r_PB, r_XB, r_YB, r_nB]
  have e203 : dI S' 203 (g 4 q) = dI S 203 (g 4 q) - 1 := by rw [hS]; simp [r_KI, r_LI, r_PI, r_XI, r_YI, r_nI, r_II, r_KP, r_LP, r_IP, r_XP, r_YP, r_nP, r_PP, r_KX, r_LX, r_IX, r_PX, r_YX, r_nX, r_XX, r_KY, r_LY, r_IY, r_PY, r_XY, r_nY, r_YY, r_KO, r_LO, r_IO, r_PO, r_XO, r_YO, r_nO, r_KA, r_LA, r_IA, r_PA, r_XA, r_YA, r_nA, r_KB, r_LB, r_IB, r_PB, r_XB, r_YB, r_nB]
  have e203' : ∀ y, y ≠ g 4 q → dI S' 203 y = dI S 203 y := fun y hy => by rw [hS]; simp [r_KI, r_LI, r_PI, r_XI, r_YI, r_nI, r_II, r_KP, r_LP, r_IP, r_XP, r_YP, r_nP, r_PP, r_KX, r_LX, r_IX, r_PX, r_YX, r_nX, r_XX, r_KY, r_LY, r_IY, r_PY, r_XY, r_nY, r_YY, r_KO, r_LO, r_IO, r_PO, r_XO, r_YO, r_nO, r_KA, r_LA, r_IA, r_PA, r_XA, r_YA, r_nA, r_KB, r_LB, r_IB, r_PB, r_XB, r_YB, r_nB, hy]
  have eM : ∀ k, (k ≠ 39 ∧ k ≠ 41 ∧ k ≠ 45) → M' k = M k := fun k hk => by rw [hM, r_mf hk.2.2, r_mf hk.1, r_mf hk.2.1]
  have m41 : ∀ y, M' 41 y = if y = e then 1 else M 41 y := fun y => by rw [hM]; simp [r_m]
  have m39 : ∀ y, M' 39 y = if y = e then v else M 39 y := fun y => by rw [hM]; simp [r_m]
  have m45 : ∀ y, M' 45 y = if y = q then M 45 q - 1 else M 45 y := fun y => by rw [hM]; simp [r_m]
  have m41' : ∀ y, M 41 y ≠ 0 → M' 41 y ≠ 0 := by
    intro y hy; rw [m41]; split
    · decide
    · exact hy
  obtain ⟨k1, k2, k3, k4, k5, k6, k7, k8, r, k9, k10, k11⟩ := i12 q hq
  have h10e : g 10 e = q + 1 := by rw [he]; exact (k4 i hi).2.1
  have hcnt : dI S 203 (g 4 q) = nI (sumN (un41 M (g 15 q)) (g 16 q)) ∧ M 45 q = dI S 203 (g 4 q) := by
    rcases k11 with ⟨-, -, -, -, -, a6⟩ | ⟨a1, -⟩
    · have := a6 h200; exact ⟨this.1, this.2 hop⟩
    · rw [hk] at a1; cases a1
  have hsum : sumN (un41 M (g 15 q)) (g 16 q) = sumN (un41 M' (g 15 q)) (g 16 q) + 1 := by
    have h := sumN_upd (f := un41 M (g 15 q)) (h := un41 M' (g 15 q)) (j := i) (n := g 16 q) hi (fun y _ hy => by
      unfold un41; rw [m41, if_neg (show ¬ g 15 q + y = e from by omega)])
    have a1 : un41 M (g 15 q) i = 1 := by unfold un41; rw [← he, if_pos h41]
    have a2 : un41 M' (g 15 q) i = 0 := by unfold un41; rw [← he, m41, if_pos rfl]; rfl
    omega
  have hnew : dI S' 203 (g 4 q) = nI (sumN (un41 M' (g 15 q)) (g 16 q)) := by
    rw [e203, hcnt.1, hsum, nI_pred]
  have hnew2 : M' 45 q = dI S' 203 (g 4 q) := by rw [m45, if_pos rfl, e203, hcnt.2]
  have htk : ∀ o a, tk g S M o a → tk g S' M' o a := by
    intro o a h
    unfold tk at h ⊢
    simp only [en, eK, eL, eP, eY, eI 2 (by decide), eI 102 (by decide), eI 104 (by decide), eI 200 (by decide), eI 301 (by decide), eI 302 (by decide), eI 405 (by decide), eI 406 (by decide), eI 501 (by decide), eI 603 (by decide), eI 604 (by decide), eI 605 (by decide), eI 701 (by decide), eI 800 (by decide), eI 801 (by decide), eI 802 (by decide), eI 903 (by decide), eI 904 (by decide), eI 905 (by decide), eI 906 (by decide), eI 907 (by decide), eI 1000 (by decide), eI 1001 (by decide), eI 1103 (by decide), eI 1105 (by decide), eI 1108 (by decide), eM 1 (by decide), eM 2 (by decide), eM 3 (by decide), eM 4 (by decide), eM 5 (by decide), eM 6 (by decide), eM 7 (by decide), eM 8 (by decide), eM 9 (by decide), eM 10 (by decide), eM 11 (by decide), eM 12 (by decide), eM 13 (by decide), eM 14 (by decide), eM 15 (by decide), eM 16 (by decide), eM 17 (by decide), eM 18 (by decide), eM 19 (by decide), eM 20 (by decide), eM 21 (by decide), eM 22 (by decide), eM 23 (by decide), eM 24 (by decide), eM 25 (by decide), eM 26 (by decide), eM 27 (by decide), eM 28 (by decide), eM 29 (by decide), eM 30 (by decide), eM 31 (by decide), eM 32 (by decide), eM 33 (by decide), eM 34 (by decide), eM 35 (by decide), eM 36 (by decide), eM 37 (by decide), eM 38 (by decide), eM 40 (by decide), eM 42 (by decide), eM 43 (by decide), eM 44 (by decide), eM 46 (by decide), eM 47 (by decide), eM 48 (by decide), eM 49 (by decide), eM 50 (by decide)]
    rcases h with h | h | h | ⟨h1, h2, q', h3, h4, h5, h6, h7, h8⟩ | ⟨h1, h2, b, h3, h4, h5, h6, h7, h8⟩
    · exact Or.inl h
    · exact Or.inr (Or.inl h)
    · exact Or.inr (Or.inr (Or.inl h))
    · exact Or.inr (Or.inr (Or.inr (Or.inl ⟨h1, h2, q', h3, h4, h5, h6, h7, fun i hi => m41' _ (h8 i hi)⟩)))
    · refine Or.inr (Or.inr (Or.inr (Or.inr ⟨h1, h2, b, h3, h4, h5, h6, ?_, ?_⟩)))
      · rw [eX b (by rintro rfl; omega)]; exact h7
      · rw [eX b (by rintro rfl; omega)]; exact h8
  have hfn : ∀ y kd f, fn g S M y kd f → fn g S' M' y kd f := by
    intro y kd f h
    unfold fn el at h ⊢
    simp only [en, eK, eL, eP, eY, eI 2 (by decide), eI 102 (by decide), eI 104 (by decide), eI 200 (by decide), eI 301 (by decide), eI 302 (by decide), eI 405 (by decide), eI 406 (by decide), eI 501 (by decide), eI 603 (by decide), eI 604 (by decide), eI 605 (by decide), eI 701 (by decide), eI 800 (by decide), eI 801 (by decide), eI 802 (by decide), eI 903 (by decide), eI 904 (by decide), eI 905 (by decide), eI 906 (by decide), eI 907 (by decide), eI 1000 (by decide), eI 1001 (by decide), eI 1103 (by decide), eI 1105 (by decide), eI 1108 (by decide), eM 1 (by decide), eM 2 (by decide), eM 3 (by decide), eM 4 (by decide), eM 5 (by decide), eM 6 (by decide), eM 7 (by decide), eM 8 (by decide), eM 9 (by decide), eM 10 (by decide), eM 11 (by decide), eM 12 (by decide), eM 13 (by decide), eM 14 (by decide), eM 15 (by decide), eM 16 (by decide), eM 17 (by decide), eM 18 (by decide), eM 19 (by decide), eM 20 (by decide), eM 21 (by decide), eM 22 (by decide), eM 23 (by decide), eM 24 (by decide), eM 25 (by decide), eM 26 (by decide), eM 27 (by decide), eM 28 (by decide), eM 29 (by decide), eM 30 (by decide), eM 31 (by decide), eM 32 (by decide), eM 33 (by decide), eM 34 (by decide), eM 35 (by decide), eM 36 (by decide), eM 37 (by decide), eM 38 (by decide), eM 40 (by decide), eM 42 (by decide), eM 43 (by decide), eM 44 (by decide), eM 46 (by decide), eM 47 (by decide), eM 48 (by decide), eM 49 (by decide), eM 50 (by decide)]
    rcases h with h | h | h | h | h | ⟨h0, n, a, h1, h2, h3, h4, h5, h6, h7, h8⟩
    · exact Or.inl h
    · exact Or.inr (Or.inl h)
    · exact Or.inr (Or.inr (Or.inl h))
    · exact Or.inr (Or.inr (Or.inr (Or.inl h)))
    · exact Or.inr (Or.inr (Or.inr (Or.inr (Or.inl h))))
    · refine Or.inr (Or.inr (Or.inr (Or.inr (Or.inr ⟨h0, n, a, h1, h2, h3, h4, h5, h6, h7, ?_⟩))))
      rw [m39, if_neg (by rintro rfl; omega)]; exact h8
  have hwt : ∀ k', g 7 (g 3 k') ≠ 0 → ∀ kd f, wt g M k' kd f → wt g M' k' kd f := by
    intro k' hk' kd f h hkd e' he' hf
    have := h hkd e' he' hf
    refine ⟨?_, this.2⟩
    rw [m41, if_neg]; exact this.1
    rintro rfl
    apply hk'
    rw [← this.2, hg8]; exact h7
  refine ⟨⟨(by have h := i1; unfold A_cnt at h ⊢; simp only [en, eK, eL, eP, eY, eI 2 (by decide), eI 102 (by decide), eI 104 (by decide), eI 200 (by decide), eI 301 (by decide), eI 302 (by decide), eI 405 (by decide), eI 406 (by decide), eI 501 (by decide), eI 603 (by decide), eI 604 (by decide), eI 605 (by decide), eI 701 (by decide), eI 800 (by decide), eI 801 (by decide), eI 802 (by decide), eI 903 (by decide), eI 904 (by decide), eI 905 (by decide), eI 906 (by decide), eI 907 (by decide), eI 1000 (by decide), eI 1001 (by decide), eI 1103 (by decide), eI 1105 (by decide), eI 1108 (by decide), eM 1 (by decide), eM 2 (by decide), eM 3 (by decide), eM 4 (by decide), eM 5 (by decide), eM 6 (by decide), eM 7 (by decide), eM 8 (by decide), eM 9 (by decide), eM 10 (by decide), eM 11 (by decide), eM 12 (by decide), eM 13 (by decide), eM 14 (by decide), eM 15 (by decide), eM 16 (by decide), eM 17 (by decide), eM 18 (by decide), eM 19 (by decide), eM 20 (by decide), eM 21 (by decide), eM 22 (by decide), eM 23 (by decide), eM 24 (by decide), eM 25 (by decide), eM 26 (by decide), eM 27 (by decide), eM 28 (by decide), eM 29 (by decide), eM 30 (by decide), eM 31 (by decide), eM 32 (by decide), eM 33 (by decide), eM 34 (by decide), eM 35 (by decide), eM 36 (by decide), eM 37 (by decide), eM 38 (by decide), eM 40 (by decide), eM 42 (by decide), eM 43 (by decide), eM 44 (by decide), eM 46 (by decide), eM 47 (by decide), eM 48 (by decide), eM 49 (by decide), eM 50 (by decide)]; exact h), (by have h := i2; unfold A_bd un14 at h ⊢; simp only [en, eK, eL, eP, eY, eI 2 (by decide), eI 102 (by decide), eI 104 (by decide), eI 200 (by decide), eI 301 (by decide), eI 302 (by decide), eI 405 (by decide), eI 406 (by decide), eI 501 (by decide), eI 603 (by decide), eI 604 (by decide), eI 605 (by decide), eI 701 (by decide), eI 800 (by decide), eI 801 (by decide), eI 802 (by decide), eI 903 (by decide), eI 904 (by decide), eI 905 (by decide), eI 906 (by decide), eI 907 (by decide), eI 1000 (by decide), eI 1001 (by decide), eI 1103 (by decide), eI 1105 (by decide), eI 1108 (by decide), eM 1 (by decide), eM 2 (by decide), eM 3 (by decide), eM 4 (by decide), eM 5 (by decide), eM 6 (by decide), eM 7 (by decide), eM 8 (by decide), eM 9 (by decide), eM 10 (by decide), eM 11 (by decide), eM 12 (by decide), eM 13 (by decide), eM 14 (by decide), eM 15 (by decide), eM 16 (by decide), eM 17 (by decide), eM 18 (by decide), eM 19 (by decide), eM 20 (by decide), eM 21 (by decide), eM 22 (by decide), eM 23 (by decide), eM 24 (by decide), eM 25 (by decide), eM 26 (by decide), eM 27 (by decide), eM 28 (by decide), eM 29 (by decide), eM 30 (by decide), eM 31 (by decide), eM 32 (by decide), eM 33 (by decide), eM 34 (by decide), eM 35 (by decide), eM 36 (by decide), eM 37 (by decide), eM 38 (by decide), eM 40 (by decide), eM 42 (by decide), eM 43 (by decide), eM 44 (by decide), eM 46 (by decide), eM 47 (by decide), eM 48 (by decide), eM 49 (by decide), eM 50 (by decide)]; exact h), (by have h := i3; unfold A_desk AL dFr at h ⊢; simp only [en, eK, eL, eP, eY, eI 2 (by decide), eI 102 (by decide), eI 104 (by decide), eI 200 (by decide), eI 301 (by decide), eI 302 (by decide), eI 405 (by decide), eI 406 (by decide), eI 501 (by decide), eI 603 (by decide), eI 604 (by decide), eI 605 (by decide), eI 701 (by decide), eI 800 (by decide), eI 801 (by decide), eI 802 (by decide), eI 903 (by decide), eI 904 (by decide), eI 905 (by decide), eI 906 (by decide), eI 907 (by decide), eI 1000 (by decide), eI 1001 (by decide), eI 1103 (by decide), eI 1105 (by decide), eI 1108 (by decide), eM 1 (by decide), eM 2 (by decide), eM 3 (by decide), eM 4 (by decide), eM 5 (by decide), eM 6 (by decide), eM 7 (by decide), eM 8 (by decide), eM 9 (by decide), eM 10 (by decide), eM 11 (by decide), eM 12 (by decide), eM 13 (by decide), eM 14 (by decide), eM 15 (by decide), eM 16 (by decide), eM 17 (by decide), eM 18 (by decide), eM 19 (by decide), eM 20 (by decide), eM 21 (by decide), eM 22 (by decide), eM 23 (by decide), eM 24 (by decide), eM 25 (by decide), eM 26 (by decide), eM 27 (by decide), eM 28 (by decide), eM 29 (by decide), eM 30 (by decide), eM 31 (by decide), eM 32 (by decide), eM 33 (by decide), eM 34 (by decide), eM 35 (by decide), eM 36 (by decide), eM 37 (by decide), eM 38 (by decide), eM 40 (by decide), eM 42 (by decide), eM 43 (by decide), eM 44 (by decide), eM 46 (by decide), eM 47 (by decide), eM 48 (by decide), eM 49 (by decide), eM 50 (by decide)]; exact h), ?_, ?_, ⟨fun o ho => ?_, fun o ho => ?_⟩, (by have h := i7; unfold A_R at h ⊢; simp only [en, eK, eL, eP, eY, eI 2 (by decide), eI 102 (by decide), eI 104 (by decide), eI 200 (by decide), eI 301 (by decide), eI 302 (by decide), eI 405 (by decide), eI 406 (by decide), eI 501 (by decide), eI 603 (by decide), eI 604 (by decide), eI 605 (by decide), eI 701 (by decide), eI 800 (by decide), eI 801 (by decide), eI 802 (by decide), eI 903 (by decide), eI 904 (by decide), eI 905 (by decide), eI 906 (by decide), eI 907 (by decide), eI 1000 (by decide), eI 1001 (by decide), eI 1103 (by decide), eI 1105 (by decide), eI 1108 (by decide), eM 1 (by decide), eM 2 (by decide), eM 3 (by decide), eM 4 (by decide), eM 5 (by decide), eM 6 (by decide), eM 7 (by decide), eM 8 (by decide), eM 9 (by decide), eM 10 (by decide), eM 11 (by decide), eM 12 (by decide), eM 13 (by decide), eM 14 (by decide), eM 15 (by decide), eM 16 (by decide), eM 17 (by decide), eM 18 (by decide), eM 19 (by decide), eM 20 (by decide), eM 21 (by decide), eM 22 (by decide), eM 23 (by decide), eM 24 (by decide), eM 25 (by decide), eM 26 (by decide), eM 27 (by decide), eM 28 (by decide), eM 29 (by decide), eM 30 (by decide), eM 31 (by decide), eM 32 (by decide), eM 33 (by decide), eM 34 (by decide), eM 35 (by decide), eM 36 (by decide), eM 37 (by decide), eM 38 (by decide), eM 40 (by decide), eM 42 (by decide), eM 43 (by decide), eM 44 (by decide), eM 46 (by decide), eM 47 (by decide), eM 48 (by decide), eM 49 (by decide), eM 50 (by decide)]; exact h), (by have h := i8; unfold A_H at h ⊢; simp only [en, eK, eL, eP, eY, eI 2 (by decide), eI 102 (by decide), eI 104 (by decide), eI 200 (by decide), eI 301 (by decide), eI 302 (by decide), eI 405 (by decide), eI 406 (by decide), eI 501 (by decide), eI 603 (by decide), eI 604 (by decide), eI 605 (by decide), eI 701 (by decide), eI 800 (by decide), eI 801 (by decide), eI 802 (by decide), eI 903 (by decide), eI 904 (by decide), eI 905 (by decide), eI 906 (by decide), eI 907 (by decide), eI 1000 (by decide), eI 1001 (by decide), eI 1103 (by decide), eI 1105 (by decide), eI 1108 (by decide), eM 1 (by decide), eM 2 (by decide), eM 3 (by decide), eM 4 (by decide), eM 5 (by decide), eM 6 (by decide), eM 7 (by decide), eM 8 (by decide), eM 9 (by decide), eM 10 (by decide), eM 11 (by decide), eM 12 (by decide), eM 13 (by decide), eM 14 (by decide), eM 15 (by decide), eM 16 (by decide), eM 17 (by decide), eM 18 (by decide), eM 19 (by decide), eM 20 (by decide), eM 21 (by decide), eM 22 (by decide), eM 23 (by decide), eM 24 (by decide), eM 25 (by decide), eM 26 (by decide), eM 27 (by decide), eM 28 (by decide), eM 29 (by decide), eM 30 (by decide), eM 31 (by decide), eM 32 (by decide), eM 33 (by decide), eM 34 (by decide), eM 35 (by decide), eM 36 (by decide), eM 37 (by decide), eM 38 (by decide), eM 40 (by decide), eM 42 (by decide), eM 43 (by decide), eM 44 (by decide), eM 46 (by decide), eM 47 (by decide), eM 48 (by decide), eM 49 (by decide), eM 50 (by decide)]; exact h), fun k' hk' => ?_, (by have h := i10; unfold A_W at h ⊢; simp only [en, eK, eL, eP, eY, eI 2 (by decide), eI 102 (by decide), eI 104 (by decide), eI 200 (by decide), eI 301 (by decide), eI 302 (by decide), eI 405 (by decide), eI 406 (by decide), eI 501 (by decide), eI 603 (by decide), eI 604 (by decide), eI 605 (by decide), eI 701 (by decide), eI 800 (by decide), eI 801 (by decide), eI 802 (by decide), eI 903 (by decide), eI 904 (by decide), eI 905 (by decide), eI 906 (by decide), eI 907 (by decide), eI 1000 (by decide), eI 1001 (by decide), eI 1103 (by decide), eI 1105 (by decide), eI 1108 (by decide), eM 1 (by decide), eM 2 (by decide), eM 3 (by decide), eM 4 (by decide), eM 5 (by decide), eM 6 (by decide), eM 7 (by decide), eM 8 (by decide), eM 9 (by decide), eM 10 (by decide), eM 11 (by decide), eM 12 (by decide), eM 13 (by decide), eM 14 (by decide), eM 15 (by decide), eM 16 (by decide), eM 17 (by decide), eM 18 (by decide), eM 19 (by decide), eM 20 (by decide), eM 21 (by decide), eM 22 (by decide), eM 23 (by decide), eM 24 (by decide), eM 25 (by decide), eM 26 (by decide), eM 27 (by decide), eM 28 (by decide), eM 29 (by decide), eM 30 (by decide), eM 31 (by decide), eM 32 (by decide), eM 33 (by decide), eM 34 (by decide), eM 35 (by decide), eM 36 (by decide), eM 37 (by decide), eM 38 (by decide), eM 40 (by decide), eM 42 (by decide), eM 43 (by decide), eM 44 (by decide), eM 46 (by decide), eM 47 (by decide), eM 48 (by decide), eM 49 (by decide), eM 50 (by decide)]; exact h), (by have h := i11; unfold A_Q jq at h ⊢; simp only [en, eK, eL, eP, eY, eI 2 (by decide), eI 102 (by decide), eI 104 (by decide), eI 200 (by decide), eI 301 (by decide), eI 302 (by decide), eI 405 (by decide), eI 406 (by decide), eI 501 (by decide), eI 603 (by decide), eI 604 (by decide), eI 605 (by decide), eI 701 (by decide), eI 800 (by decide), eI 801 (by decide), eI 802 (by decide), eI 903 (by decide), eI 904 (by decide), eI 905 (by decide), eI 906 (by decide), eI 907 (by decide), eI 1000 (by decide), eI 1001 (by decide), eI 1103 (by decide), eI 1105 (by decide), eI 1108 (by decide), eM 1 (by decide), eM 2 (by decide), eM 3 (by decide), eM 4 (by decide), eM 5 (by decide), eM 6 (by decide), eM 7 (by decide), eM 8 (by decide), eM 9 (by decide), eM 10 (by decide), eM 11 (by decide), eM 12 (by decide), eM 13 (by decide), eM 14 (by decide), eM 15 (by decide), eM 16 (by decide), eM 17 (by decide), eM 18 (by decide), eM 19 (by decide), eM 20 (by decide), eM 21 (by decide), eM 22 (by decide), eM 23 (by decide), eM 24 (by decide), eM 25 (by decide), eM 26 (by decide), eM 27 (by decide), eM 28 (by decide), eM 29 (by decide), eM 30 (by decide), eM 31 (by decide), eM 32 (by decide), eM 33 (by decide), eM 34 (by decide), eM 35 (by decide), eM 36 (by decide), eM 37 (by decide), eM 38 (by decide), eM 40 (by decide), eM 42 (by decide), eM 43 (by decide), eM 44 (by decide), eM 46 (by decide), eM 47 (by decide), eM 48 (by decide), eM 49 (by decide), eM 50 (by decide)]; exact h), fun q' hq' => ?_⟩, ?_, hnew2.symm, by rw [hnew2]; exact hnew⟩
  · unfold A_log at i4 ⊢
    simp only [en, eK, eL, eP, eY, eI 2 (by decide), eI 102 (by decide), eI 104 (by decide), eI 200 (by decide), eI 301 (by decide), eI 302 (by decide), eI 405 (by decide), eI 406 (by decide), eI 501 (by decide), eI 603 (by decide), eI 604 (by decide), eI 605 (by decide), eI 701 (by decide), eI 800 (by decide), eI 801 (by decide), eI 802 (by decide), eI 903 (by decide), eI 904 (by decide), eI 905 (by decide), eI 906 (by decide), eI 907 (by decide), eI 1000 (by decide), eI 1001 (by decide), eI 1103 (by decide), eI 1105 (by decide), eI 1108 (by decide), eM 1 (by decide), eM 2 (by decide), eM 3 (by decide), eM 4 (by decide), eM 5 (by decide), eM 6 (by decide), eM 7 (by decide), eM 8 (by decide), eM 9 (by decide), eM 10 (by decide), eM 11 (by decide), eM 12 (by decide), eM 13 (by decide), eM 14 (by decide), eM 15 (by decide), eM 16 (by decide), eM 17 (by decide), eM 18 (by decide), eM 19 (by decide), eM 20 (by decide), eM 21 (by decide), eM 22 (by decide), eM 23 (by decide), eM 24 (by decide), eM 25 (by decide), eM 26 (by decide), eM 27 (by decide), eM 28 (by decide), eM 29 (by decide), eM 30 (by decide), eM 31 (by decide), eM 32 (by decide), eM 33 (by decide), eM 34 (by decide), eM 35 (by decide), eM 36 (by decide), eM 37 (by decide), eM 38 (by decide), eM 40 (by decide), eM 42 (by decide), eM 43 (by decide), eM 44 (by decide), eM 46 (by decide), eM 47 (by decide), eM 48 (by decide), eM 49 (by decide), eM 50 (by decide)]
    rw [eX (g 14 7) (by intro e; have := i4.2.2.1; rw [e] at this; omega)]
    exact i4
  · unfold A_itm at i5 ⊢
    simp only [en, eK, eL, eP, eY, eI 2 (by decide), eI 102 (by decide), eI 104 (by decide), eI 200 (by decide), eI 301 (by decide), eI 302 (by decide), eI 405 (by decide), eI 406 (by decide), eI 501 (by decide), eI 603 (by decide), eI 604 (by decide), eI 605 (by decide), eI 701 (by decide), eI 800 (by decide), eI 801 (by decide), eI 802 (by decide), eI 903 (by decide), eI 904 (by decide), eI 905 (by decide), eI 906 (by decide), eI 907 (by decide), eI 1000 (by decide), eI 1001 (by decide), eI 1103 (by decide), eI 1105 (by decide), eI 1108 (by decide), eM 1 (by decide), eM 2 (by decide), eM 3 (by decide), eM 4 (by decide), eM 5 (by decide), eM 6 (by decide), eM 7 (by decide), eM 8 (by decide), eM 9 (by decide), eM 10 (by decide), eM 11 (by decide), eM 12 (by decide), eM 13 (by decide), eM 14 (by decide), eM 15 (by decide), eM 16 (by decide), eM 17 (by decide), eM 18 (by decide), eM 19 (by decide), eM 20 (by decide), eM 21 (by decide), eM 22 (by decide), eM 23 (by decide), eM 24 (by decide), eM 25 (by decide), eM 26 (by decide), eM 27 (by decide), eM 28 (by decide), eM 29 (by decide), eM 30 (by decide), eM 31 (by decide), eM 32 (by decide), eM 33 (by decide), eM 34 (by decide), eM 35 (by decide), eM 36 (by decide), eM 37 (by decide), eM 38 (by decide), eM 40 (by decide), eM 42 (by decide), eM 43 (by decide), eM 44 (by decide), eM 46 (by decide), eM 47 (by decide), eM 48 (by decide), eM 49 (by decide), eM 50 (by decide)]
    rw [eX (g 14 6) (by intro e; have := i5.2.2.1; rw [e] at this; omega)]
    exact i5
  · obtain ⟨h1, h2, h3, h4⟩ := i6.1 o ho
    rw [eI 1000 (by decide), eI 1001 (by decide), eM 2 (by decide)]
    exact ⟨h1, h2, h3, htk _ _ h4⟩
  · rw [eM 7 (by decide)]; exact i6.2 o ho
  · obtain ⟨h1, h2, h3, h4⟩ := i9 k' hk'
    unfold jb at *
    simp only [en, eK, eL, eP, eY, eI 2 (by decide), eI 102 (by decide), eI 104 (by decide), eI 200 (by decide), eI 301 (by decide), eI 302 (by decide), eI 405 (by decide), eI 406 (by decide), eI 501 (by decide), eI 603 (by decide), eI 604 (by decide), eI 605 (by decide), eI 701 (by decide), eI 800 (by decide), eI 801 (by decide), eI 802 (by decide), eI 903 (by decide), eI 904 (by decide), eI 905 (by decide), eI 906 (by decide), eI 907 (by decide), eI 1000 (by decide), eI 1001 (by decide), eI 1103 (by decide), eI 1105 (by decide), eI 1108 (by decide), eM 1 (by decide), eM 2 (by decide), eM 3 (by decide), eM 4 (by decide), eM 5 (by decide), eM 6 (by decide), eM 7 (by decide), eM 8 (by decide), eM 9 (by decide), eM 10 (by decide), eM 11 (by decide), eM 12 (by decide), eM 13 (by decide), eM 14 (by decide), eM 15 (by decide), eM 16 (by decide), eM 17 (by decide), eM 18 (by decide), eM 19 (by decide), eM 20 (by decide), eM 21 (by decide), eM 22 (by decide), eM 23 (by decide), eM 24 (by decide), eM 25 (by decide), eM 26 (by decide), eM 27 (by decide), eM 28 (by decide), eM 29 (by decide), eM 30 (by decide), eM 31 (by decide), eM 32 (by decide), eM 33 (by decide), eM 34 (by decide), eM 35 (by decide), eM 36 (by decide), eM 37 (by decide), eM 38 (by decide), eM 40 (by decide), eM 42 (by decide), eM 43 (by decide), eM 44 (by decide), eM 46 (by decide), eM 47 (by decide), eM 48 (by decide), eM 49 (by decide), eM 50 (by decide)]
    refine ⟨h1, h2, ?_, fun h => ⟨hwt k' h _ _ (h4 h).1, hwt k' h _ _ (h4 h).2⟩⟩
    rcases h3 with h3 | ⟨h5, h6, h7, h8, h9⟩
    · exact Or.inl h3
    · exact Or.inr ⟨h5, h6, h7, hfn _ _ _ h8, hfn _ _ _ h9⟩
  · obtain ⟨h1, h2, h3, h4, h5, h6, h7, h8, r', h9, h10, h11⟩ := i12 q' hq'
    have hother : q' ≠ q → ∀ i', i' < g 16 q' → g 15 q' + i' ≠ e := by
      intro hne i' hi' h
      have := (h4 i' hi').2.1
      rw [h, h10e] at this; omega
    unfold gr at h11 ⊢
    simp only [en, eK, eL, eP, eY, eI 2 (by decide), eI 102 (by decide), eI 104 (by decide), eI 200 (by decide), eI 301 (by decide), eI 302 (by decide), eI 405 (by decide), eI 406 (by decide), eI 501 (by decide), eI 603 (by decide), eI 604 (by decide), eI 605 (by decide), eI 701 (by decide), eI 800 (by decide), eI 801 (by decide), eI 802 (by decide), eI 903 (by decide), eI 904 (by decide), eI 905 (by decide), eI 906 (by decide), eI 907 (by decide), eI 1000 (by decide), eI 1001 (by decide), eI 1103 (by decide), eI 1105 (by decide), eI 1108 (by decide), eM 1 (by decide), eM 2 (by decide), eM 3 (by decide), eM 4 (by decide), eM 5 (by decide), eM 6 (by decide), eM 7 (by decide), eM 8 (by decide), eM 9 (by decide), eM 10 (by decide), eM 11 (by decide), eM 12 (by decide), eM 13 (by decide), eM 14 (by decide), eM 15 (by decide), eM 16 (by decide), eM 17 (by decide), eM 18 (by decide), eM 19 (by decide), eM 20 (by decide), eM 21 (by decide), eM 22 (by decide), eM 23 (by decide), eM 24 (by decide), eM 25 (by decide), eM 26 (by decide), eM 27 (by decide), eM 28 (by decide), eM 29 (by decide), eM 30 (by decide), eM 31 (by decide), eM 32 (by decide), eM 33 (by decide), eM 34 (by decide), eM 35 (by decide), eM 36 (by decide), eM 37 (by decide), eM 38 (by decide), eM 40 (by decide), eM 42 (by decide), eM 43 (by decide), eM 44 (by decide), eM 46 (by decide), eM 47 (by decide), eM 48 (by decide), eM 49 (by decide), eM 50 (by decide)]
    refine ⟨h1, h2, h3, fun i' hi' => ⟨(h4 i' hi').1, (h4 i' hi').2.1, ?_⟩, h5, h6, h7, h8, r', h9, h10, ?_⟩
    · rw [m41]; split
      · exact Or.inr rfl
      · exact (h4 i' hi').2.2
    · by_cases hqq : q' = q
      · subst hqq
        rcases h11 with ⟨a1, a2, a3, a4, a5, a6⟩ | ⟨a1, -⟩
        · refine Or.inl ⟨a1, a2, a3, fun i' hi' hh => ?_, a5, fun _ => ⟨hnew, fun _ => hnew2⟩⟩
          rw [eXq, m39]
          unfold upd
          by_cases hii : i' = i
          · rw [if_pos hii, if_pos (by omega)]
          · rw [if_neg hii, if_neg (by omega)]
            rw [m41, if_neg (by omega)] at hh
            exact a4 i' hi' hh
        · rw [hk] at a1; cases a1
      · have hX : dX S' (g 5 q') = dX S (g 5 q') := eX _ (by intro h; rw [h, k8] at h8; omega)
        have h4q : g 4 q' ≠ g 4 q := by intro h; rw [h, k5] at h5; omega
        have hs : sumN (un41 M' (g 15 q')) (g 16 q') = sumN (un41 M (g 15 q')) (g 16 q') := sumN_congr (fun y hy => by
          unfold un41; rw [m41, if_neg (hother hqq y hy)])
        rw [hX, e203' _ h4q, hs, m45, if_neg hqq]
        rcases h11 with ⟨a1, a2, a3, a4, a5, a6⟩ | ⟨a1, a2, a3, a4, a5, a6, a7, a8, a9⟩
        · refine Or.inl ⟨a1, a2, a3, fun i' hi' hh => ?_, a5, a6⟩
          rw [m41, if_neg (hother hqq i' hi')] at hh
          rw [m39, if_neg (hother hqq i' hi')]
          exact a4 i' hi' hh
        · refine Or.inr ⟨a1, a2, a3, a4, a5, a6, a7, a8, fun i' hi' => ?_⟩
          rw [m39, if_neg (hother hqq i' hi')]
          exact a9 i' hi'
  · unfold WF
    rw [eM 2 (by decide), eM 8 (by decide), eM 9 (by decide), eM 10 (by decide), eM 11 (by decide), eM 12 (by decide), eM 17 (by decide), eM 18 (by decide), eM 19 (by decide), eM 20 (by decide), eM 21 (by decide), eM 25 (by decide), eM 0 (by decide), eK, eP]
    refine ⟨fun a ha => ⟨rfl, fun h12 f _ _ hf _ _ => ⟨by rw [eI f hf], rfl⟩⟩, by omega, fun _ _ => ⟨rfl, rfl, rfl, rfl, rfl, rfl, rfl⟩, fun _ _ => rfl, fun _ _ => rfl, fun _ _ => ⟨rfl, rfl, rfl, rfl, rfl, rfl⟩, fun _ _ => rfl, fun _ _ => rfl, rfl⟩
end ELM
