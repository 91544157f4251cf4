section ATT
variable {e0 d t x n : Nat} {g g' : GH} {w w' : Nat → List Nat} {S S' S1 S2 S0 : DS} {M M' M1 : MS}
/-- a promise (7) or a thenable (10) that v names, or neither -/
theorem kind_run {kd : Int32} {K : Nat} (v : Int32) (hk : (kd = 0 ∧ K = 7) ∨ (kd = 1 ∧ K = 10)) (hI : Inv e0 d t x g w S M) : (∃ p, p < g 9 1 ∧ v = -2 - nI p ∧ -2 - v = nI p ∧ M 2 p = kd ∧ dK S (g 0 p) = K ∧ q_X11_thingOf e0 S d v = some (some (g 0 p), S, 0, 0) ∧ q_isKind M v kd = some (1, M)) ∨ (∃ r, q_X11_thingOf e0 S d v = some (r, S, 0, 0) ∧ okT S r ∧ dinst S K r = 0 ∧ q_isKind M v kd = some (0, M)) := by
  have hN := Inv_nums hI
  rcases thing_run v hI with ⟨o, ho, e1, e2, e3, hD, hM⟩ | ⟨hno, hD, hM⟩
  · obtain ⟨-, -, -, tk0⟩ := hI.2.2.2.2.2.1.1 o ho
    have hKo := tk_K tk0
    have hok : okT S (some (g 0 o)) := decide_eq_true hKo
    have co : (nI o).toNatClampNeg = o := nI_clamp (by omega)
    have hio : inb (nI o) 3000 := inb_nI (by omega) (by omega)
    by_cases hkd : M 2 o = kd
    · refine Or.inl ⟨o, ho, e1, e2, hkd, ?_, hD, ?_⟩
      · rcases hk with ⟨rfl, rfl⟩ | ⟨rfl, rfl⟩ <;> rcases tk0 with ⟨t1, t2, -⟩ | ⟨t1, t2, -⟩ | ⟨t1, t2, -⟩ | ⟨t1, t2, -⟩ | ⟨t1, t2, -⟩ <;> first | exact t2 | (rw [t1] at hkd; exact absurd hkd (by decide)) | (rcases t1 with t1 | t1 <;> rw [t1] at hkd <;> exact absurd hkd (by decide))
      · unfold q_isKind
        rw [hM, bnd2_s, if_neg i32_10, e2, chk_i hio, co, if_pos hkd]
        exact chk_i (Or.inr rfl)
    · refine Or.inr ⟨_, hD, hok, dinst_0 ?_, ?_⟩
      · intro e
        rcases hk with ⟨rfl, rfl⟩ | ⟨rfl, rfl⟩ <;> rcases tk0 with ⟨t1, t2, -⟩ | ⟨t1, t2, -⟩ | ⟨t1, t2, -⟩ | ⟨t1, t2, -⟩ | ⟨t1, t2, -⟩ <;> first | exact hkd t1 | omega
      · unfold q_isKind
        rw [hM, bnd2_s, if_neg i32_10, e2, chk_i hio, co, if_neg hkd]
        exact chk_i (Or.inl rfl)
  · refine Or.inr ⟨none, hD, rfl, rfl, ?_⟩
    unfold q_isKind
    rw [hM, bnd2_s, if_pos rfl]
    exact chk_i (Or.inl rfl)
theorem s_pfor {v : Int32} (hI : Inv e0 d t 0 g w S M) (hO : g 9 1 + 2 ≤ 3000) (hn : 4000 < n) : RD (q_X11_promiseFor e0 n S d v) (fun r S' C Z => RM (q_promiseOf n M v) (fun r' M' => ∃ g' w' p, r = some (g' 0 p) ∧ r' = nI p ∧ p < g' 9 1 ∧ M' 2 p = 0 ∧ Inv e0 d t 0 g' w' S' M' ∧ CF g S M g' S' M' ∧ Cs 0 g S g' S' C Z ∧ g' 9 1 ≤ g 9 1 + 2 ∧ g' 9 22 = g 9 22)) := by
  have hN := Inv_nums hI
  have hd := hI.2.2.1.2.1
  unfold q_X11_promiseFor q_promiseOf
  rcases kind_run v (Or.inl ⟨rfl, rfl⟩) hI with ⟨p, hp, e1, e2, hp2, hK, hD, hM⟩ | ⟨r, hD, hok, hin, hM⟩
  · refine w_chk hd <| w_bk hD <| w_chk (decide_eq_true (Or.inl hK)) <| w_in (by rw [dinst_1 hK]; exact i32_10) <| w_bnd rfl <| w_chk hK <| w_some ?_
    rw [hM, bnd2_s, if_neg i32_10, e2]
    exact m_some ⟨g, w, p, rfl, rfl, hp, hp2, hI, CF_refl _ _ _, Cs_0 hI (CF_refl _ _ _) rfl, by omega, rfl⟩
  · refine w_chk hd <| w_bk hD <| w_chk hok <| w_ip hin <| w_chk hd ?_
    obtain ⟨r1, S1, C1, Z1, eD1, r1', M1, eM1, rfl, g1, rfl, hI1, c1, cs1, o1, o2, o3, m13, m14, m2, m3, m6⟩ := s_cap hI (by omega)
    obtain ⟨r2, S2, C2, Z2, eD2, M2, eM2, g2, w2, hI2, c2, cs2, p1, p2, p3⟩ := s_resolve (r := g 9 15) (v := v) hI1 (by omega) (by omega) hn
    refine w_bk eD1 <| w_chk hI1.2.2.1.2.1 <| w_bk eD2 <| w_bnd rfl ?_
    obtain ⟨k1, k2, k3, k4, p, k5, k6, k7, k8⟩ := hI2.2.2.2.2.2.2.1 (g 9 15) (by omega)
    have eg : g2 1 (g 9 15) = g1 1 (g 9 15) := c2.2.1.2.2.2.2.2.2.2.2.2.2.2.1 _ (by omega)
    rw [eg] at k1 k8
    refine w_chk k1 <| w_some ?_
    rw [hM, bnd2_s, if_pos rfl, eM1, bnd2_s, eM2, bnd_s, chk_i (inb_nI (by omega) (by omega)), nI_clamp (by omega), k5]
    refine m_some ⟨g2, w2, p, k8, rfl, k6, k7, hI2, CF_trans c1 c2, ?_, by omega, by omega⟩
    exact Cs_le (Cs_trans cs1 cs2) (by omega) (by omega)
theorem fn_eq {x : Option Nat} {kd f : Int32} (h1 : g' 1 = g 1) (h2 : g' 2 = g 2) (h4 : g' 4 = g 4) (h10 : g' 10 = g 10) (h15 : g' 15 = g 15) (h16 : g' 16 = g 16) (n15 : g' 9 15 = g 9 15) (n33 : g' 9 33 = g 9 33) (n42 : g' 9 42 = g 9 42) (n50 : g' 9 50 = g 9 50) (m39 : M' 39 = M 39) : fn g' S M' x kd f = fn g S M x kd f := by
  unfold fn el
  rw [h1, h2, h4, h10, h15, h16, n15, n33, n42, n50, m39]
theorem react_7 {k J p : Nat} {st v u : Int32} (h30 : M 30 0 = nI J) (hJ : J < 24000) (hk : k < 12000) (e : q_react (mput M 7 p u) (nI k) st v = some M1) : ∃ M2, q_react M (nI k) st v = some M2 ∧ M1 = mput M2 7 p u := by
  obtain ⟨M2, eM2, m30, mo2, a28, a27, a23, a24, a25, a26⟩ := react_run (M := M) (k := k) (J := J) (st := st) (v := v) h30 hJ hk
  obtain ⟨M3, eM3, b30, bo2, b28, b27, b23, b24, b25, b26⟩ := react_run (M := mput M 7 p u) (k := k) (J := J) (st := st) (v := v) (by rw [r_m, if_neg (by omega)]; exact h30) hJ hk
  rw [e] at eM3
  cases eM3
  refine ⟨M2, eM2, ?_⟩
  funext a i
  by_cases c1 : a = 30 ∧ i = 0
  · obtain ⟨rfl, rfl⟩ := c1
    rw [b30, r_m, if_neg (by omega), m30]
  · by_cases c2 : 23 ≤ a ∧ a ≤ 28 ∧ i = J
    · obtain ⟨c3, c4, rfl⟩ := c2
      rw [r_m, if_neg (by omega)]
      have : a = 23 ∨ a = 24 ∨ a = 25 ∨ a = 26 ∨ a = 27 ∨ a = 28 := by omega
      rcases this with rfl | rfl | rfl | rfl | rfl | rfl
      · rw [b23, a23]; simp [r_m]
      · rw [b24, a24]; simp [r_m]
      · rw [b25, a25]; simp [r_m]
      · rw [b26, a26]
      · rw [b27, a27]
      · rw [b28, a28]
    · rw [bo2 a i c1 c2, r_m, r_m]
      by_cases c3 : a = 7 ∧ i = p
      · rw [if_pos c3, if_pos c3]
      · rw [if_neg c3, if_neg c3, mo2 a i c1 c2]
theorem pt_loop {p K z : Nat} (hp : p < 3000) : ∀ (l : List Nat) (n : Nat) (h : Int32), lk (M 16) h l → l.getLast? = some z → (∀ k, k ∈ l → k < 12000) → l.length ≤ n → q_performThen_125 n M (nI p) (nI K) h = some (mput (mput M 16 z (nI K)) 7 p 1)
  | [], _, _, _, hz, _, _ => by cases hz
  | k :: l, 0, _, _, _, _, hn => by simp at hn
  | [k], n + 1, h, hl, hz, hk, _ => by
    obtain ⟨rfl, h2⟩ := hl
    have h2 : M 16 k = -1 := h2
    have hkz : k = z := by simpa using hz
    have hk1 := hk k List.mem_cons_self
    unfold q_performThen_125
    rw [chk_i (inb_nI hk1 (by omega)), nI_clamp (by omega), if_pos (by rw [h2]; decide), chk_i (inb_nI hk1 (by omega)), lt9_s, chk_i (inb_nI hp (by omega)), chk_i (Or.inr rfl), lt9_s, nI_clamp (by omega), hkz]
  | k :: k2 :: l, n + 1, h, hl, hz, hk, hn => by
    obtain ⟨rfl, h2⟩ := hl
    have h3 : M 16 k = nI k2 := h2.1
    have hk1 := hk k List.mem_cons_self
    have hk2 := hk k2 (List.mem_cons_of_mem _ List.mem_cons_self)
    unfold q_performThen_125
    rw [chk_i (inb_nI hk1 (by omega)), nI_clamp (by omega), if_neg (by rw [h3]; exact nI_pos (by omega)), chk_i (inb_nI hk1 (by omega))]
    exact pt_loop hp (k2 :: l) n (M 16 k) h2 (by simpa using hz) (fun a ha => hk a (List.mem_cons_of_mem _ ha)) (by simp at hn ⊢; omega)
theorem tk_0 {o a : Nat} (h : tk g S M o a) (h2 : M 2 o = 0) : dI S 603 a = M 3 o ∧ dI S 604 a = M 4 o ∧ dI S 605 a = M 7 o ∧ isB (M 7 o) ∧ kp g (dP S 606 a) (M 6 o) ∧ (M 3 o = 0 ∨ M 3 o = 1 ∨ M 3 o = 2) := by
  rcases h with ⟨t1, t2, t3, t4, t5, t6, t7, t8, t9⟩ | ⟨t1, -⟩ | ⟨t1, -⟩ | ⟨t1, -⟩ | ⟨t1, -⟩
  · exact ⟨t4, t5, t6, t7, t8, t9⟩
  · rw [h2] at t1; exact absurd t1 (by decide)
  · rw [h2] at t1; exact absurd t1 (by decide)
  · rw [h2] at t1; exact absurd t1 (by decide)
  · rw [h2] at t1; exact absurd t1 (by decide)
theorem w_lt22 (hI : Inv e0 d t x g w S M) {o k : Nat} (ho : o < g 9 1) (hk : k ∈ w o) : k < g 9 22 := by
  have hW := hI.2.2.2.2.2.2.2.2.2.1
  have h2 : M 2 o = 0 := by
    by_cases h : M 2 o = 0
    · exact h
    · have := (hW.1 o ho).1 (Or.inl h)
      rw [this] at hk; cases hk
  exact (((hW.1 o ho).2 h2).2.2.2.2 k hk).1
/-- the job a, still in nobody's hands, is the reference's next reaction -/
def HJ (g : GH) (S1 : DS) (M : MS) (a : Nat) (k1 f1 k2 f2 cr : Int32) : Prop := (cr = -1 ∧ dP S1 402 a = none ∧ dP S1 404 a = none ∧ k1 = 12 ∧ k2 = 13 ∧ ∃ q, q < g 9 50 ∧ f1 = nI q ∧ f2 = nI q ∧ dK S1 (g 4 q) = 2 ∧ dP S1 403 a = some (g 4 q)) ∨ (dP S1 403 a = none ∧ dP S1 404 a = none ∧ (∃ r, r < g 9 15 ∧ cr = nI r ∧ dP S1 402 a = some (g 1 r)) ∧ fn g S1 M (dP S1 400 a) k1 f1 ∧ fn g S1 M (dP S1 401 a) k2 f2)
theorem s_attach {p a : Nat} {k1 f1 k2 f2 cr : Int32} (hI : Inv e0 d t 0 g w S M) (hS : Same S S1) (ha0 : dK S a = 0) (ha : dK S1 a = 5) (h407 : dP S1 407 a = none) (hp : p < g 9 1) (hp2 : M 2 p = 0) (hb : g 9 22 + 1 + sumN (g 11) (g 9 50) + g 9 38 ≤ g 9 1 + t) (hjb : HJ g S1 M a k1 f1 k2 f2 cr) (hwt : wt g M (g 9 22) k1 f1 ∧ wt g M (g 9 22) k2 f2) (hn : 4000 < n) : RD (q_X11_attach e0 S1 d (some (g 0 p)) (some a)) (fun _ S' C Z => C = 0 ∧ Z = 0 ∧ RV (q_performThen n M (nI p) k1 f1 k2 f2 cr) (fun M' => ∃ g' w', Inv e0 d t 0 g' w' S' M' ∧ CF g S M g' S' M' ∧ g' 9 1 = g 9 1 ∧ g' 9 15 = g 9 15 ∧ g' 9 22 = g 9 22 + 1 ∧ g' 14 4 = g 14 4)) := by
  have hN := Inv_nums hI
  have hiK : inb (nI (g 9 22)) 12000 := inb_nI (by omega) (by omega)
  have cK : (nI (g 9 22)).toNatClampNeg = g 9 22 := nI_clamp (by omega)
  have hip : inb (nI p) 3000 := inb_nI (by omega) (by omega)
  have cp : (nI p).toNatClampNeg = p := nI_clamp (by omega)
  have m22 : M 22 0 = nI (g 9 22) := hI.1.2.2.1
  obtain ⟨M7, hM7⟩ : ∃ X, X = mput (mput (mput (mput (mput (mput (mput M 22 0 (nI (g 9 22) + 1)) 16 (g 9 22) (-1)) 17 (g 9 22) cr) 18 (g 9 22) k1) 19 (g 9 22) f1) 20 (g 9 22) k2) 21 (g 9 22) f2 := ⟨_, rfl⟩
  have mo : ∀ k i, ¬ (k = 22 ∧ i = 0) → ¬ (16 ≤ k ∧ k ≤ 21 ∧ i = g 9 22) → M7 k i = M k i := by
    intro k i h1 h2
    rw [hM7]
    simp only [r_m]
    rw [if_neg (by omega), if_neg (by omega), if_neg (by omega), if_neg (by omega), if_neg (by omega), if_neg (by omega), if_neg (by omega)]
  have a22 : M7 22 0 = nI (g 9 22 + 1) := by rw [hM7]; simp [r_m, nI_1]
  have a16 : M7 16 (g 9 22) = -1 := by rw [hM7]; simp [r_m]
  have a17 : M7 17 (g 9 22) = cr := by rw [hM7]; simp [r_m]
  have a18 : M7 18 (g 9 22) = k1 := by rw [hM7]; simp [r_m]
  have a19 : M7 19 (g 9 22) = f1 := by rw [hM7]; simp [r_m]
  have a20 : M7 20 (g 9 22) = k2 := by rw [hM7]; simp [r_m]
  have a21 : M7 21 (g 9 22) = f2 := by rw [hM7]; simp [r_m]
  obtain ⟨g7, hg7⟩ : ∃ X, X = gput (gput (gput (gput g 3 (g 9 22) a) 12 a (g 9 22)) 7 a 0) 9 22 (g 9 22 + 1) := ⟨_, rfl⟩
  have ge : ∀ k, k ≠ 3 → k ≠ 12 → k ≠ 7 → k ≠ 9 → g7 k = g k := by
    intro k h1 h2 h3 h4
    rw [hg7, r_gf h4, r_gf h3, r_gf h2, r_gf h1]
  have ge9 : ∀ i, i ≠ 22 → g7 9 i = g 9 i := by
    intro i h; rw [hg7]; simp [r_g, h]
  have fne : ∀ x kd f, fn g7 S1 M7 x kd f = fn g S1 M x kd f := fun x kd f => fn_eq (ge 1 (by decide) (by decide) (by decide) (by decide)) (ge 2 (by decide) (by decide) (by decide) (by decide)) (ge 4 (by decide) (by decide) (by decide) (by decide)) (ge 10 (by decide) (by decide) (by decide) (by decide)) (ge 15 (by decide) (by decide) (by decide) (by decide)) (ge 16 (by decide) (by decide) (by decide) (by decide)) (ge9 15 (by decide)) (ge9 33 (by decide)) (ge9 42 (by decide)) (ge9 50 (by decide)) (funext fun i => mo 39 i (by omega) (by omega))
  have hjb7 : jb g7 S1 M7 (g 9 22) a := by
    unfold jb
    rw [a17, a18, a19, a20, a21, fne, fne, ge 1 (by decide) (by decide) (by decide) (by decide), ge 4 (by decide) (by decide) (by decide) (by decide), ge9 15 (by decide), ge9 50 (by decide)]
    exact hjb
  obtain ⟨hI7, c7⟩ := P_rea hI hS ha0 ha hb mo a22 hg7 hjb7
  have e0g : g7 0 = g 0 := ge 0 (by decide) (by decide) (by decide) (by decide)
  have e3K : g7 3 (g 9 22) = a := by rw [hg7]; simp [r_g]
  have q2 : M7 2 p = 0 := by rw [mo 2 p (by omega) (by omega)]; exact hp2
  have hp7 : p < g7 9 1 := by rw [ge9 1 (by decide)]; exact hp
  obtain ⟨hI8, c8⟩ := P_hand hI7 hp7 q2
  have hK7 := T_7 hI7 hp7 q2
  have hK22 : g 9 22 < g7 9 22 := by rw [hg7]; simp [r_g]
  have e22 : g7 9 22 = g 9 22 + 1 := by rw [hg7]; simp [r_g]
  have m8 : ∀ k i, k ≠ 7 → mput M7 7 p 1 k i = M7 k i := fun k i h => by rw [r_m, if_neg (by omega)]
  have hwt8 : wt g7 (mput M7 7 p 1) (g 9 22) (mput M7 7 p 1 18 (g 9 22)) (mput M7 7 p 1 19 (g 9 22)) ∧ wt g7 (mput M7 7 p 1) (g 9 22) (mput M7 7 p 1 20 (g 9 22)) (mput M7 7 p 1 21 (g 9 22)) := by
    have w41 : mput M7 7 p 1 41 = M 41 := funext fun i => by rw [m8 41 i (by omega)]; exact mo 41 i (by omega) (by omega)
    rw [m8 18 _ (by omega), m8 19 _ (by omega), m8 20 _ (by omega), m8 21 _ (by omega), a18, a19, a20, a21]
    unfold wt
    rw [w41, ge 8 (by decide) (by decide) (by decide) (by decide)]
    exact hwt
  obtain ⟨b1, b2, b3, b4, b5, b6⟩ := tk_0 (hI8.2.2.2.2.2.1.1 p hp7).2.2.2 (by rw [m8 2 p (by omega)]; exact q2)
  rw [m8 3 p (by omega)] at b1 b6
  rw [m8 4 p (by omega)] at b2
  obtain ⟨v1, v2, v3, v4, v5⟩ := (hI8.2.2.2.2.2.2.2.2.2.1.1 p hp7).2 (by rw [m8 2 p (by omega)]; exact q2)
  have e714 : g7 14 = g 14 := ge 14 (by decide) (by decide) (by decide) (by decide)
  rw [e0g] at hI8 c8 hK7 b1 b2 v2 v3
  have hMq : ∀ Q, RV (if M7 3 p = 0 then (if 0 ≤ M7 5 p then q_performThen_125 n M7 (nI p) (nI (g 9 22)) (M7 5 p) else some (mput (mput M7 5 p (nI (g 9 22))) 7 p 1)) else bnd (q_react M7 (nI (g 9 22)) (M7 3 p) (M7 4 p)) (fun M12 => some (mput M12 7 p 1))) Q → RV (q_performThen n M (nI p) k1 f1 k2 f2 cr) Q := by
    intro Q hQ
    unfold q_performThen
    rw [m22, cK, cp]
    refine v_lt <| v_chk hiK <| v_lt <| v_chk hiK <| v_lt <| v_chk hiK <| v_lt <| v_chk hiK <| v_lt <| v_chk hiK <| v_lt <| v_chk hiK <| v_lt <| v_chk hip ?_
    rw [← hM7]
    by_cases h3 : M7 3 p = 0
    · rw [if_pos h3] at hQ
      refine v_ip h3 <| v_chk hip ?_
      by_cases h5 : 0 ≤ M7 5 p
      · rw [if_pos h5] at hQ
        exact v_ip h5 <| v_chk hip hQ
      · rw [if_neg h5] at hQ
        exact v_in h5 <| v_chk hip <| v_lt <| v_chk hip <| v_chk (Or.inr rfl) <| v_lt hQ
    · rw [if_neg h3] at hQ
      refine v_in h3 <| v_chk hip <| v_chk hip ?_
      have : (fun M12 => chk (inb (nI p) 3000) (chk (isB 1) (lt9 (mput M12 7 p 1) (fun M13 => some M13)))) = fun M12 => some (mput M12 7 p 1) := by
        funext M12; rw [chk_i hip, chk_i (Or.inr rfl)]; rfl
      rw [this]; exact hQ
  unfold q_X11_attach
  refine w_bnd rfl <| w_chk hK7 <| w_chk (Or.inr rfl) <| w_lt ?_
  have hcf : ∀ {g9 S9 M9}, CF g7 (sI S1 605 (g 0 p) 1) (mput M7 7 p 1) g9 S9 M9 → CF g S M g9 S9 M9 := fun c9 => CF_trans c7 (CF_trans c8 c9)
  have h407' : dP (sI S1 605 (g 0 p) 1) 407 a = none := h407
  have e7a : g7 7 a = 0 := by rw [hg7]; simp [r_g]
  by_cases h3 : M7 3 p = 0
  · refine w_ip (by rw [b1]; exact h3) ?_
    by_cases hw : w p = []
    · rw [hw] at v1 v3
      have v1 : M7 5 p = -1 := by rw [← m8 5 p (by omega)]; exact v1
      have v3 : dP (sI S1 605 (g 0 p) 1) 608 (g 0 p) = none := v3
      refine w_ip v3 <| w_lt <| w_lt <| w_some ⟨rfl, rfl, ?_⟩
      have hL := P_link (k := g 9 22) (p := p) (M' := mput (mput M7 7 p 1) 5 p (nI (g 9 22))) (S' := sP (sP (sI S1 605 (g 0 p) 1) 607 (g 0 p) (some a)) 608 (g 0 p) (some a)) hI8 hK22 hp7 (by rw [m8 2 p (by omega)]; exact q2) (by rw [m8 3 p (by omega)]; exact h3) (by rw [e3K]; exact e7a) (by rw [e3K]; exact h407') (by rw [m8 16 _ (by omega)]; exact a16) ?_ (Or.inl ⟨hw, rfl⟩) rfl hwt8
      · obtain ⟨hI9, c9⟩ := hL
        refine hMq _ (v_ip h3 <| v_in (by rw [v1]; decide) ?_)
        have : mput (mput M7 5 p (nI (g 9 22))) 7 p 1 = mput (mput M7 7 p 1) 5 p (nI (g 9 22)) := by
          funext k i; simp only [r_m]
          by_cases hk : k = 7 <;> by_cases hk5 : k = 5 <;> simp [hk, hk5]
          all_goals omega
        rw [this]
        refine v_some ⟨_, _, hI9, hcf c9, ?_, ?_, ?_, ?_⟩
        · simp only [r_g]; rw [if_neg (by omega)]; exact ge9 1 (by decide)
        · simp only [r_g]; rw [if_neg (by omega)]; exact ge9 15 (by decide)
        · simp only [r_g]; rw [if_neg (by omega)]; exact e22
        · simp only [r_g]; rw [if_neg (by omega), e714]
      · rw [e0g, e3K, v3]
        unfold LnkD
        refine ⟨rfl, rfl, rfl, rfl, rfl, rfl, fun f y h1 h2 h3 => ?_, fun y _ => ?_, fun y h => (by cases h), fun y hy => ⟨?_, ?_⟩, ?_, ?_⟩
        · rw [r_PP, if_neg (by omega), r_PP, if_neg (by omega)]
        · rw [r_PP, if_neg (by omega), r_PP, if_neg (by omega)]
        · rw [r_PP, if_neg (by omega), r_PP, if_neg (by omega)]
        · rw [r_PP, if_neg (by omega), r_PP, if_neg (by omega)]
        · rw [r_PP, if_pos ⟨rfl, rfl⟩]
        · rw [r_PP, if_neg (by omega), r_PP, if_pos ⟨rfl, rfl⟩, if_pos rfl]
    · obtain ⟨z, hz⟩ : ∃ z, (w p).getLast? = some z := by
        rcases h : (w p).getLast? with _ | z
        · exact absurd (List.getLast?_eq_none_iff.mp h) hw
        · exact ⟨z, rfl⟩
      have hzm : z ∈ w p := List.mem_of_getLast? hz
      have v3 : dP (sI S1 605 (g 0 p) 1) 608 (g 0 p) = some (g7 3 z) := by rw [v3, List.getLast?_map, hz]; rfl
      have hz22 := (v5 z hzm).1
      have hKz : dK (sI S1 605 (g 0 p) 1) (g7 3 z) = 5 := (hI8.2.2.2.2.2.2.2.2.1 z hz22).1
      refine w_in (by rw [v3]; simp) <| w_bnd v3 <| w_chk hKz <| w_lt <| w_lt <| w_some ⟨rfl, rfl, ?_⟩
      have hL := P_link (k := g 9 22) (p := p) (M' := mput (mput M7 7 p 1) 16 z (nI (g 9 22))) (S' := sP (sP (sI S1 605 (g 0 p) 1) 407 (g7 3 z) (some a)) 608 (g 0 p) (some a)) hI8 hK22 hp7 (by rw [m8 2 p (by omega)]; exact q2) (by rw [m8 3 p (by omega)]; exact h3) (by rw [e3K]; exact e7a) (by rw [e3K]; exact h407') (by rw [m8 16 _ (by omega)]; exact a16) ?_ (Or.inr ⟨z, hz, rfl⟩) rfl hwt8
      · obtain ⟨hI9, c9⟩ := hL
        have m16 : mput M7 7 p 1 16 = M7 16 := funext fun i => m8 16 i (by omega)
        rw [m16, m8 5 p (by omega)] at v1
        have h5 : 0 ≤ M7 5 p := by
          rcases hwl : w p with _ | ⟨k0, l0⟩
          · exact absurd hwl hw
          · rw [hwl] at v1
            rw [v1.1]; exact nI_pos' (by have := (v5 k0 (by rw [hwl]; exact List.mem_cons_self)).1; omega)
        have hlen : (w p).length ≤ g7 9 22 := by
          have := List.Nodup.length_le_of_subset (l₂ := List.range (g7 9 22)) v4 (fun a ha => List.mem_range.mpr (v5 a ha).1)
          simpa using this
        refine hMq _ (v_ip h3 <| v_ip h5 ?_)
        rw [pt_loop (by omega) (w p) n (M7 5 p) v1 hz (fun k hk => by have := (v5 k hk).1; omega) (by omega)]
        have : mput (mput M7 16 z (nI (g 9 22))) 7 p 1 = mput (mput M7 7 p 1) 16 z (nI (g 9 22)) := by
          funext k i; simp only [r_m]
          by_cases hk : k = 7 <;> by_cases hk5 : k = 16 <;> simp [hk, hk5]
          all_goals omega
        rw [this]
        refine v_some ⟨_, _, hI9, hcf c9, ?_, ?_, ?_, ?_⟩
        · simp only [r_g]; rw [if_neg (by omega)]; exact ge9 1 (by decide)
        · simp only [r_g]; rw [if_neg (by omega)]; exact ge9 15 (by decide)
        · simp only [r_g]; rw [if_neg (by omega)]; exact e22
        · simp only [r_g]; rw [if_neg (by omega), e714]
      · rw [e0g, e3K, v3]
        unfold LnkD
        refine ⟨rfl, rfl, rfl, rfl, rfl, rfl, fun f y h1 h2 h3 => ?_, fun y hy => ?_, fun y h => ?_, fun y hy => ⟨?_, ?_⟩, ?_, ?_⟩
        · rw [r_PP, if_neg (by omega), r_PP, if_neg (by omega)]
        · rw [r_PP, if_neg (by omega), r_PP, if_neg (fun h => hy (by rw [h.2]))]
        · rw [r_PP, if_neg (by omega), r_PP, if_pos ⟨rfl, (Option.some.inj h).symm⟩]
        · rw [r_PP, if_neg (by omega), r_PP, if_neg (by omega)]
        · rw [r_PP, if_neg (by omega), r_PP, if_neg (by omega)]
        · rw [r_PP, if_pos ⟨rfl, rfl⟩]
        · rw [r_PP, if_neg (by omega), r_PP, if_neg (by omega), if_neg (by simp)]
  · refine w_in (by rw [b1]; exact h3) ?_
    have hcont : ∀ b : Int32, b = (if M7 3 p = 2 then 1 else 0) → RD (q_X11_attach_26 e0 (sI S1 605 (g 0 p) 1) d (some (g 0 p)) (some a) b (some a)) (fun _ S' C Z => C = 0 ∧ Z = 0 ∧ RV (q_performThen n M (nI p) k1 f1 k2 f2 cr) (fun M' => ∃ g' w', Inv e0 d t 0 g' w' S' M' ∧ CF g S M g' S' M' ∧ g' 9 1 = g 9 1 ∧ g' 9 15 = g 9 15 ∧ g' 9 22 = g 9 22 + 1 ∧ g' 14 4 = g 14 4)) := by
      intro b hb'
      unfold q_X11_attach_26
      refine w_bnd rfl <| w_chk hK7 <| w_bnd rfl <| w_chk ha ?_
      refine w_bk (hear_run (by exact ha) (by rw [hb']; split; exact Or.inr rfl; exact Or.inl rfl)) <| w_chk (by exact hI8.2.2.1.2.1) ?_
      rw [b2]
      have hpre : PreD (g7 3 (g 9 22)) (sI S1 605 (g 0 p) 1) (sI (sI (sI S1 605 (g 0 p) 1) 405 a b) 406 a (M7 4 p)) := by
        rw [e3K]
        unfold PreD
        simp only [r_KI, r_LI, r_PI, r_XI, r_YI, r_nI, r_II, r_KP, r_LP, r_IP, r_XP, r_YP, r_nP, r_PP, r_KX, r_LX, r_IX, r_PX, r_YX, r_nX, r_XX, r_KY, r_LY, r_IY, r_PY, r_XY, r_nY, r_YY, r_KO, r_LO, r_IO, r_PO, r_XO, r_YO, r_nO, r_KA, r_LA, r_IA, r_PA, r_XA, r_YA, r_nA, r_KB, r_LB, r_IB, r_PB, r_XB, r_YB, r_nB]
        refine ⟨trivial, trivial, trivial, trivial, trivial, fun f y h => ?_, fun f y h => trivial, h407⟩
        rw [if_neg (by omega), if_neg (by omega)]
      obtain ⟨r, S', C, Z, eD, rfl, rfl, hE, M1', eM, mo1, hI9, c9⟩ := s_react (st := M7 3 p) (v := M7 4 p) hI8 hK22 (by rw [e3K, e7a]) (fun o ho hm => by
        have := w_lt22 hI (by rw [ge9 1 (by decide)] at ho; exact ho) hm
        omega) hwt8 hpre (by rw [e3K, hb']; simp [r_KI, r_LI, r_PI, r_XI, r_YI, r_nI, r_II, r_KP, r_LP, r_IP, r_XP, r_YP, r_nP, r_PP, r_KX, r_LX, r_IX, r_PX, r_YX, r_nX, r_XX, r_KY, r_LY, r_IY, r_PY, r_XY, r_nY, r_YY, r_KO, r_LO, r_IO, r_PO, r_XO, r_YO, r_nO, r_KA, r_LA, r_IA, r_PA, r_XA, r_YA, r_nA, r_KB, r_LB, r_IB, r_PB, r_XB, r_YB, r_nB]) (by rw [e3K]; simp [r_KI, r_LI, r_PI, r_XI, r_YI, r_nI, r_II, r_KP, r_LP, r_IP, r_XP, r_YP, r_nP, r_PP, r_KX, r_LX, r_IX, r_PX, r_YX, r_nX, r_XX, r_KY, r_LY, r_IY, r_PY, r_XY, r_nY, r_YY, r_KO, r_LO, r_IO, r_PO, r_XO, r_YO, r_nO, r_KA, r_LA, r_IA, r_PA, r_XA, r_YA, r_nA, r_KB, r_LB, r_IB, r_PB, r_XB, r_YB, r_nB])
      rw [e3K] at eD
      refine w_bk eD <| w_some ⟨rfl, rfl, ?_⟩
      obtain ⟨M2, eM2, rfl⟩ := react_7 (J := g 9 30) (by rw [mo 30 0 (by omega) (by omega)]; exact hI.1.2.2.2.2.1) (by omega) (by omega) eM
      refine hMq _ (v_in h3 ?_)
      rw [eM2, bnd_s]
      refine v_some ⟨_, _, hI9, hcf c9, ?_, ?_, ?_, ?_⟩
      · simp [r_g]; exact ge9 1 (by decide)
      · simp [r_g]; exact ge9 15 (by decide)
      · simp [r_g]; exact e22
      · simp [r_g, e714]
    by_cases e : M7 3 p = 2
    · exact w_ip (by rw [b1]; exact e) (hcont 1 (by rw [if_pos e]))
    · exact w_in (by rw [b1]; exact e) (hcont 0 (by rw [if_neg e]))
theorem s_then {p : Nat} {x1 x2 : Option Nat} {k1 f1 k2 f2 : Int32} (hI : Inv e0 d t 0 g w S M) (hp : p < g 9 1) (hp2 : M 2 p = 0) (hO : g 9 1 + 1 ≤ 3000) (hf1 : fn g S M x1 k1 f1) (hf2 : fn g S M x2 k2 f2) (hwt : wt g M (g 9 22) k1 f1 ∧ wt g M (g 9 22) k2 f2) (hn : 4000 < n) : RD (q_X11_derive e0 S d (some (g 0 p)) x1 x2) (fun r S' C Z => r = -2 - nI (g 9 1) ∧ RM (q_then n M (nI p) k1 f1 k2 f2) (fun r' M' => r' = nI (g 9 1) ∧ ∃ g' w', Inv e0 d t 0 g' w' S' M' ∧ CF g S M g' S' M' ∧ Cs 20 g S g' S' C Z ∧ g' 9 1 = g 9 1 + 1 ∧ g' 9 15 = g 9 15 + 1 ∧ g' 9 22 = g 9 22 + 1)) := by
  have hN := Inv_nums hI
  have hd := hI.2.2.1.2.1
  obtain ⟨r1, S1, C1, Z1, eD1, r1', M1, eM1, rfl, g1, rfl, hI1, c1, cs1, o1, o2, o3, m13, m14, m2, m3, m6⟩ := s_cap hI hO
  have hfr1 := hI1.2.2.1.1
  have hk0 := K_dn hfr1
  have hS : Same S1 (sP (sP (sP (sP (sP (sO S1 5) 400 (dn S1) x1) 401 (dn S1) x2) 402 (dn S1) (some (g1 1 (g 9 15)))) 403 (dn S1) none) 404 (dn S1) none) :=
    Same_sP (Same_sP (Same_sP (Same_sP (Same_sP (Same_sO hfr1 (by decide)) hk0) hk0) hk0) hk0) hk0
  obtain ⟨hI2, c2⟩ := Inv_same hI1 hS
  have hGE := c1.2.1
  unfold GE at hGE
  have e11 : g1 11 = g 11 := by grind
  have e50 : g1 9 50 = g 9 50 := by grind
  have e38 : g1 9 38 = g 9 38 := by grind
  have e0p : g1 0 p = g 0 p := c1.2.1.2.2.2.2.2.2.2.2.2.2.1 p hp
  have hbd := hI.2.1
  unfold A_bd at hbd
  unfold q_X11_derive q_X4_reaction q_X4_init
  refine w_chk hd <| w_bk eD1 <| w_bndc <| w_tick <| w_lt <| w_lt <| w_bndc <| w_chk (by simp [r_KI, r_LI, r_PI, r_XI, r_YI, r_nI, r_II, r_KP, r_LP, r_IP, r_XP, r_YP, r_nP, r_PP, r_KX, r_LX, r_IX, r_PX, r_YX, r_nX, r_XX, r_KY, r_LY, r_IY, r_PY, r_XY, r_nY, r_YY, r_KO, r_LO, r_IO, r_PO, r_XO, r_YO, r_nO, r_KA, r_LA, r_IA, r_PA, r_XA, r_YA, r_nA, r_KB, r_LB, r_IB, r_PB, r_XB, r_YB, r_nB]) <| w_lt <| w_lt <| w_lt <| w_lt <| w_lt <| w_some <| w_some <| w_chk hI2.2.2.1.2.1 ?_
  obtain ⟨r3, S3, C3, Z3, eD3, rfl, rfl, M3, eM3, g3, w3, hI3, c3, q1, q2, q3, q4⟩ := s_attach (n := n) (p := p) (a := dn S1) (k1 := k1) (f1 := f1) (k2 := k2) (f2 := f2) (cr := nI (g 9 15)) hI1 hS hk0 (by simp [r_KI, r_LI, r_PI, r_XI, r_YI, r_nI, r_II, r_KP, r_LP, r_IP, r_XP, r_YP, r_nP, r_PP, r_KX, r_LX, r_IX, r_PX, r_YX, r_nX, r_XX, r_KY, r_LY, r_IY, r_PY, r_XY, r_nY, r_YY, r_KO, r_LO, r_IO, r_PO, r_XO, r_YO, r_nO, r_KA, r_LA, r_IA, r_PA, r_XA, r_YA, r_nA, r_KB, r_LB, r_IB, r_PB, r_XB, r_YB, r_nB]) (by simp [r_KI, r_LI, r_PI, r_XI, r_YI, r_nI, r_II, r_KP, r_LP, r_IP, r_XP, r_YP, r_nP, r_PP, r_KX, r_LX, r_IX, r_PX, r_YX, r_nX, r_XX, r_KY, r_LY, r_IY, r_PY, r_XY, r_nY, r_YY, r_KO, r_LO, r_IO, r_PO, r_XO, r_YO, r_nO, r_KA, r_LA, r_IA, r_PA, r_XA, r_YA, r_nA, r_KB, r_LB, r_IB, r_PB, r_XB, r_YB, r_nB]) (by omega) (by rw [(c1.2.2.1.2.1 p hp).1]; exact hp2) (by rw [e11, e50, e38, o3, o1]; omega) (Or.inr ⟨by simp [r_KI, r_LI, r_PI, r_XI, r_YI, r_nI, r_II, r_KP, r_LP, r_IP, r_XP, r_YP, r_nP, r_PP, r_KX, r_LX, r_IX, r_PX, r_YX, r_nX, r_XX, r_KY, r_LY, r_IY, r_PY, r_XY, r_nY, r_YY, r_KO, r_LO, r_IO, r_PO, r_XO, r_YO, r_nO, r_KA, r_LA, r_IA, r_PA, r_XA, r_YA, r_nA, r_KB, r_LB, r_IB, r_PB, r_XB, r_YB, r_nB], by simp [r_KI, r_LI, r_PI, r_XI, r_YI, r_nI, r_II, r_KP, r_LP, r_IP, r_XP, r_YP, r_nP, r_PP, r_KX, r_LX, r_IX, r_PX, r_YX, r_nX, r_XX, r_KY, r_LY, r_IY, r_PY, r_XY, r_nY, r_YY, r_KO, r_LO, r_IO, r_PO, r_XO, r_YO, r_nO, r_KA, r_LA, r_IA, r_PA, r_XA, r_YA, r_nA, r_KB, r_LB, r_IB, r_PB, r_XB, r_YB, r_nB], ⟨g 9 15, by omega, rfl, by simp [r_KI, r_LI, r_PI, r_XI, r_YI, r_nI, r_II, r_KP, r_LP, r_IP, r_XP, r_YP, r_nP, r_PP, r_KX, r_LX, r_IX, r_PX, r_YX, r_nX, r_XX, r_KY, r_LY, r_IY, r_PY, r_XY, r_nY, r_YY, r_KO, r_LO, r_IO, r_PO, r_XO, r_YO, r_nO, r_KA, r_LA, r_IA, r_PA, r_XA, r_YA, r_nA, r_KB, r_LB, r_IB, r_PB, r_XB, r_YB, r_nB]⟩, by
      have := fn_cf (fn_cf hf1 c1) c2
      simpa [r_KI, r_LI, r_PI, r_XI, r_YI, r_nI, r_II, r_KP, r_LP, r_IP, r_XP, r_YP, r_nP, r_PP, r_KX, r_LX, r_IX, r_PX, r_YX, r_nX, r_XX, r_KY, r_LY, r_IY, r_PY, r_XY, r_nY, r_YY, r_KO, r_LO, r_IO, r_PO, r_XO, r_YO, r_nO, r_KA, r_LA, r_IA, r_PA, r_XA, r_YA, r_nA, r_KB, r_LB, r_IB, r_PB, r_XB, r_YB, r_nB] using this, by
      have := fn_cf (fn_cf hf2 c1) c2
      simpa [r_KI, r_LI, r_PI, r_XI, r_YI, r_nI, r_II, r_KP, r_LP, r_IP, r_XP, r_YP, r_nP, r_PP, r_KX, r_LX, r_IX, r_PX, r_YX, r_nX, r_XX, r_KY, r_LY, r_IY, r_PY, r_XY, r_nY, r_YY, r_KO, r_LO, r_IO, r_PO, r_XO, r_YO, r_nO, r_KA, r_LA, r_IA, r_PA, r_XA, r_YA, r_nA, r_KB, r_LB, r_IB, r_PB, r_XB, r_YB, r_nB] using this⟩) (by rw [o3]; exact ⟨wt_cf hwt.1 c1, wt_cf hwt.2 c1⟩) hn
  rw [e0p] at eD3
  refine w_bk eD3 <| w_bnd rfl ?_
  obtain ⟨j1, j2, j3, j4, p', j5, j6, j7, j8⟩ := hI3.2.2.2.2.2.2.1 (g 9 15) (by omega)
  have eg : g3 1 (g 9 15) = g1 1 (g 9 15) := c3.2.1.2.2.2.2.2.2.2.2.2.2.2.1 _ (by omega)
  have hN3 := Inv_nums hI3
  have ep : p' = g 9 1 := by
    have h13 : M3 13 (g 9 15) = nI (g 9 1) := by rw [c3.2.2.1.2.2.1 _ (by omega)]; exact m13
    rw [j5] at h13
    exact nI_inj (by omega) (by omega) h13
  subst ep
  rw [eg] at j1 j8
  have hT := (hI3.2.2.2.2.2.1.1 _ j6).1
  refine w_chk j1 <| w_bnd j8 <| w_chk (T_7 hI3 j6 j7) <| w_some ⟨hT, ?_⟩
  unfold q_then
  rw [eM1, bnd2_s, eM3, bnd_s, chk_i (inb_nI (by omega) (by omega)), nI_clamp (by omega), j5]
  refine m_some ⟨rfl, g3, w3, hI3, CF_trans c1 c3, ?_, by omega, by omega, by omega⟩
  have hl : dL S3 (g3 14 4) = dL S1 (g1 14 4) := by rw [q4, (c3.1.2 _ (ed_L hI1)).2.1]
  have h30 := c3.2.1.2.2.2.1
  have cs3 : Cs 9 g1 S1 g3 S3 1 8 := Cs_mk hI1 c3 (by rw [hl]; omega) (by omega)
  exact Cs_le (Cs_trans cs1 cs3) (by omega) (by omega)
end ATT
