section JOB
variable {e0 d t x n : Nat} {g g' : GH} {w w' : Nat → List Nat} {S S' S1 S2 S0 : DS} {M M' M1 : MS}
theorem fn_th {b c : Int32} {y : Option Nat} {kd f : Int32} : fn g (sI S 1109 d b) (mput M 51 0 c) y kd f = fn g S M y kd f := by
  have eI : ∀ f, f ≠ 1109 → dI (sI S 1109 d b) f = dI S f := fun f hf => funext fun y => i1109 hf
  have m39 : mput M 51 0 c 39 = M 39 := r_mf (by omega)
  unfold fn el
  simp only [r_KI, r_PI, m39, eI 800 (by decide), eI 801 (by decide), eI 802 (by decide), eI 301 (by decide), eI 302 (by decide), eI 200 (by decide), eI 501 (by decide)]
theorem fn_0 {y : Option Nat} {kd f : Int32} (h : fn g S M y kd f) (hk : kd = 0) : y = none := by
  subst hk
  rcases h with ⟨-, h⟩ | ⟨h, -⟩ | ⟨h, -⟩ | ⟨h, -⟩ | ⟨h, -⟩ | ⟨h, -⟩
  · exact h
  · exact absurd h (by decide)
  · exact absurd h (by decide)
  · exact absurd h (by decide)
  · exact absurd h (by decide)
  · exact absurd h (by decide)
theorem fn_s {y : Option Nat} {kd f : Int32} (h : fn g S M y kd f) (hk : kd ≠ 0) : ∃ b, y = some b := by
  rcases h with ⟨h, -⟩ | ⟨-, h, -, -, e⟩ | ⟨-, r, a, -, -, e, -⟩ | ⟨-, e, a, q, i, -, e, -⟩ | ⟨-, h, a, -, -, e, -⟩ | ⟨-, m, a, -, -, -, e, -⟩
  · exact absurd h hk
  · exact ⟨_, e⟩
  · exact ⟨_, e⟩
  · exact ⟨_, e⟩
  · exact ⟨_, e⟩
  · exact ⟨_, e⟩
theorem s_tail {a r j : Nat} {v : Int32} (hI : Inv e0 d t 0 g w S M) (ha : dK S a = 5) (h402 : dP S 402 a = some (g 1 r)) (hr : r < g 9 15) (h25 : M 25 j = nI r) (hj : j < 24000) (h1109 : dI S 1109 d = M 51 0) (hO : g 9 1 + 1 ≤ 3000) (hn : 4000 < n) : RD (q_X11_doJob_155 e0 n S d (some a) v) (fun _ S' C Z => RV (q_job_85 n M (nI j) v) (fun M' => ∃ g' w', Inv e0 d t 0 g' w' S' M' ∧ CF g S M g' S' M' ∧ Cs 0 g S g' S' C Z)) := by
  have hN := Inv_nums hI
  have hd := hI.2.2.1.2.1
  have hij : inb (nI j) 24000 := inb_nI hj (by omega)
  have cj : (nI j).toNatClampNeg = j := nI_clamp (by omega)
  unfold q_X11_doJob_155 q_X11_finish q_job_85
  rw [cj, h25]
  refine w_bnd rfl <| w_chk ha <| w_chk hd <| w_bndc <| w_chk hd ?_
  rw [h402, h1109]
  by_cases hth : M 51 0 = 0
  · obtain ⟨r3, S3, C3, Z3, eD3, M3, eM3, g3, w3, hI3, c3, cs3, y1, y2, y3⟩ := s_resolve (n := n) (v := v) hI hr hO hn
    refine w_ip hth <| w_bk eD3 <| w_some <| w_some ?_
    refine v_chk hij <| v_ip (nI_pos' (by omega)) <| v_ip hth <| v_chk hij ?_
    rw [eM3, bnd_s]
    exact v_some ⟨g3, w3, hI3, c3, Cs_le cs3 (by omega) (by omega)⟩
  · obtain ⟨r3, S3, C3, Z3, eD3, M3, eM3, g3, w3, hI3, c3, cs3, y1, y2, y3⟩ := s_reject (n := n) (v := v) hI hr hn
    refine w_in hth <| w_bk eD3 <| w_some <| w_some ?_
    refine v_chk hij <| v_ip (nI_pos' (by omega)) <| v_in hth <| v_chk hij ?_
    rw [eM3, bnd_s]
    exact v_some ⟨g3, w3, hI3, c3, Cs_le cs3 (by omega) (by omega)⟩
theorem s_callf {b k : Nat} {kd f v : Int32} (hI : Inv e0 d t 0 g w S M) (ht : t < 512) (hop : g 14 1 = 0) (hO : g 9 1 + 7 ≤ 3000) (hL : g 9 36 ≤ 4000) (hn : 4000 < n) (hk : k < g 9 22) (h7 : g 7 (g 3 k) = 0) (hf : fn g S M (some b) kd f) (hw : wt g M k kd f) : ∃ r S' C Z, (∀ (K : Int32 → DS → Option (Int32 × DS × Nat × Nat)), (if dK S b = 9 then bndc (q_X8_callIn e0 n S b (some d) v) K else if dK S b = 6 then bndc (q_X5_callIn e0 n S b (some d) v) K else chk (dK S b = 4) (bndc (q_X2_callIn e0 n S b (some d) v) K)) = bndc (some (r, S', C, Z)) K) ∧ RM (q_call n M kd f v) (fun r' M' => PC e0 d t g S M r S' C Z r' M') := by
  have hN := Inv_nums hI
  have h9 : dK S b = 9 → RD (q_X8_callIn e0 n S b (some d) v) (fun r S' C Z => RM (q_call n M kd f v) (fun r' M' => PC e0 d t g S M r S' C Z r' M')) → ∃ r S' C Z, (∀ (K : Int32 → DS → Option (Int32 × DS × Nat × Nat)), (if dK S b = 9 then bndc (q_X8_callIn e0 n S b (some d) v) K else if dK S b = 6 then bndc (q_X5_callIn e0 n S b (some d) v) K else chk (dK S b = 4) (bndc (q_X2_callIn e0 n S b (some d) v) K)) = bndc (some (r, S', C, Z)) K) ∧ RM (q_call n M kd f v) (fun r' M' => PC e0 d t g S M r S' C Z r' M') := by
    rintro h ⟨r, S', C, Z, e, hP⟩
    refine ⟨r, S', C, Z, fun K => ?_, hP⟩
    rw [if_pos h, e]
  rcases hf with ⟨-, h⟩ | ⟨rfl, h, rfl, hh, e⟩ | ⟨h0, r, a, rfl, h2, e, h4, h5, h6, h8⟩ | ⟨h0, e, a, q, i, rfl, e2, h3⟩ | ⟨h0, h, a, rfl, h2, e, h4, h5, h6⟩ | ⟨h0, m, a, rfl, h2, h3, e, h5, h6, h8, h9'⟩
  · cases h
  · cases e
    refine h9 (hI.2.2.2.2.2.2.2.1 h hh).1 ?_
    have e2 : ∀ y : Option (Int32 × MS), bnd2 y (fun r M => some (r, M)) = y := by intro y; cases y <;> rfl
    have e1 : q_call n M 1 (nI h) v = q_handle n (mput M 51 0 0) (nI h) v := by
      unfold q_call
      rw [chk_i (Or.inl rfl), lt9_s, if_pos rfl, e2]
    rw [e1]
    refine w_mono (s_hcall (n := n) (v := v) (M := mput M 51 0 0) (Inv_m (Or.inr rfl) hI) hh hL (by omega) hn) ?_
    rintro r S' C Z ⟨r', M', e1, rfl, g', w', y1, y2, y3, y4, y5, y6, y7, y8, y9⟩
    exact ⟨_, M', e1, rfl, g', w', y1, WF_trans (WF_m (Or.inr rfl)) y2, Cs_le y3 (by omega) (by omega), y4, y5, by omega, by omega, y9⟩
  · cases e
    exact h9 h4 (s_simple hI h0 h2 h4 h5 h6 h8 (by omega) hn)
  · cases e2
    have h3' := h3
    obtain ⟨he, hi, hq, ha, -⟩ := h3'
    obtain ⟨k1, k2, k3, -⟩ := hI.2.2.2.2.2.2.2.2.2.2.2 q hq
    obtain ⟨w1, w2⟩ := hw h0 e (by omega) rfl
    obtain ⟨r, S', C, Z, e1, hP⟩ := s_elem (n := n) (v := v) hI h0 h3 w1 w2 hk h7 hop (by omega) hn
    refine ⟨r, S', C, Z, fun K => ?_, hP⟩
    rw [if_neg (by rw [ha]; decide), if_neg (by rw [ha]; decide), chk_i ha, e1]
  · cases e
    obtain ⟨r, S', C, Z, e1, hP⟩ := s_last (n := n) (v := v) hI ht h0 h2 h4 h5 h6 hL (by omega) hn
    refine ⟨r, S', C, Z, fun K => ?_, hP⟩
    rw [if_neg (by rw [h4]; decide), if_pos h4, e1]
  · cases e
    exact h9 h5 (s_gives hI h0 h2 h5 h6 h8 h9')
/-- the reference's job, behind jobFirst++ -/
def jobM (n : Nat) (M1 : MS) (v : Int32) : Option MS := chk (inb v 24000) (if (M1 28 v.toNatClampNeg) = 0 then chk (inb v 24000) (chk (isB (M1 27 v.toNatClampNeg)) (lt9 (mput M1 51 0 (M1 27 v.toNatClampNeg)) (fun M2 => chk (inb v 24000) (chk (inb v 24000) (if (M2 23 v.toNatClampNeg) = 0 then q_job_85 n M2 v (M2 26 v.toNatClampNeg) else chk (inb v 24000) (chk (inb v 24000) (bnd2 (q_call n M2 (M2 23 v.toNatClampNeg) (M2 24 v.toNatClampNeg) (M2 26 v.toNatClampNeg)) (fun r6 M5 => q_job_85 n M5 v r6)))))))) else chk (inb v 24000) (chk (inb v 24000) (bnd (q_thenJob n M1 (M1 24 v.toNatClampNeg) (M1 25 v.toNatClampNeg)) (fun M7 => some M7))))
theorem jobM_eq : q_job n M = jobM n (mput M 29 0 ((M 29 0) + 1)) (M 29 0) := rfl
theorem jobM_r {j : Nat} {Q : MS → Prop} (hj : j < 24000) (b28 : M 28 j = 0) (bB : isB (M 27 j)) (hQ : RV (if M 23 j = 0 then q_job_85 n (mput M 51 0 (M 27 j)) (nI j) (M 26 j) else bnd2 (q_call n (mput M 51 0 (M 27 j)) (M 23 j) (M 24 j) (M 26 j)) (fun r6 M5 => q_job_85 n M5 (nI j) r6)) Q) : RV (jobM n M (nI j)) Q := by
  have hij : inb (nI j) 24000 := inb_nI hj (by omega)
  have m : ∀ k, k ≠ 51 → mput M 51 0 (M 27 j) k j = M k j := fun k hk => by rw [r_m, if_neg (by omega)]
  unfold jobM
  rw [nI_clamp (by omega)]
  refine v_chk hij <| v_ip b28 <| v_chk hij <| v_chk bB <| v_lt <| v_chk hij <| v_chk hij ?_
  rw [m 23 (by decide), m 24 (by decide), m 26 (by decide)]
  by_cases h : M 23 j = 0
  · rw [if_pos h] at hQ; exact v_ip h hQ
  · rw [if_neg h] at hQ; exact v_in h <| v_chk hij <| v_chk hij hQ
/-- what a job leaves -/
def JP (e0 d t : Nat) (g : GH) (S S' : DS) (C Z : Nat) (M M' : MS) : Prop := ∃ g' w', Inv e0 d t 0 g' w' S' M' ∧ Cs 0 g S g' S' C Z ∧ g' 9 29 = g 9 29 ∧ g' 14 1 = 0 ∧ M' 0 = M 0
theorem s_rjob {j k r : Nat} (hI : Inv e0 d t 0 g w S M) (ht : t < 512) (hop : g 14 1 = 0) (hO : g 9 1 + 8 ≤ 3000) (hL : g 9 36 ≤ 4000) (hn : 4000 < n) (hk : k < g 9 22) (h7 : g 7 (g 3 k) = 0) (hwt : wt g M k (M 23 j) (M 24 j)) (hj : j < g 9 30) (b28 : M 28 j = 0) (b405 : dI S 405 (g 3 k) = M 27 j) (bB : isB (M 27 j)) (b406 : dI S 406 (g 3 k) = M 26 j) (b25 : M 25 j = M 17 k) (h403 : dP S 403 (g 3 k) = none) (h404 : dP S 404 (g 3 k) = none) (hr : r < g 9 15) (h17 : M 17 k = nI r) (h402 : dP S 402 (g 3 k) = some (g 1 r)) (hf : fn g S M (if M 27 j = 0 then dP S 400 (g 3 k) else dP S 401 (g 3 k)) (M 23 j) (M 24 j)) : RD (q_X11_doJob e0 n S d (some (g 3 k))) (fun _ S' C Z => RV (jobM n M (nI j)) (fun M' => JP e0 d t g S S' C Z M M')) := by
  have hN := Inv_nums hI
  have hd := hI.2.2.1.2.1
  have ha := (hI.2.2.2.2.2.2.2.2.1 k hk).1
  have hI2 : Inv e0 d t 0 g w (sI S 1109 d (M 27 j)) (mput M 51 0 (M 27 j)) := Inv_m (Or.inr rfl) (Inv_1109 hI)
  have m : ∀ k i, k ≠ 51 → mput M 51 0 (M 27 j) k i = M k i := fun k i hk => by rw [r_m, if_neg (by omega)]
  have hth : dI (sI S 1109 d (M 27 j)) 1109 d = mput M 51 0 (M 27 j) 51 0 := by simp [r_II, r_m]
  have hcs : Cs 0 g S g (sI S 1109 d (M 27 j)) 0 0 := Cs_id rfl
  have core : ∀ z0 : Option Nat, z0 = (if M 27 j = 0 then dP S 400 (g 3 k) else dP S 401 (g 3 k)) → RD (q_X11_doJob_123 e0 n S d (some (g 3 k)) z0) (fun _ S' C Z => RV (jobM n M (nI j)) (fun M' => JP e0 d t g S S' C Z M M')) := by
    intro z0 hz
    rw [← hz] at hf
    unfold q_X11_doJob_123
    refine w_bnd rfl <| w_chk ha <| w_chk hd <| w_chk (by rw [b405]; exact bB) <| w_lt ?_
    rw [b405, show dI (sI S 1109 d (M 27 j)) 406 (g 3 k) = M 26 j from (i1109 (by decide)).trans b406]
    by_cases hkd : M 23 j = 0
    · have hz0 := fn_0 hf hkd
      refine w_ip hz0 ?_
      refine w_mono (s_tail (n := n) (r := r) (j := j) (v := M 26 j) hI2 ha h402 hr (by rw [m 25 j (by decide), b25]; exact h17) (by omega) hth (by omega) hn) ?_
      rintro r3 S3 C3 Z3 ⟨M3, eM3, g3, w3, hI3, c3, cs3⟩
      refine jobM_r (by omega) b28 bB ?_
      rw [if_pos hkd, eM3]
      exact v_some ⟨g3, w3, hI3, Cs_le (Cs_trans hcs cs3) (by omega) (by omega), c3.2.1.2.2.2.2.1, by rw [cf_14 c3 (by decide)]; exact hop, by rw [c3.2.2.1.2.2.2.2.2, r_mf (by omega)]⟩
    · obtain ⟨b, hb⟩ := fn_s hf hkd
      subst hb
      obtain ⟨r1, S1, C1, Z1, hK, r1', M1, eM1, rfl, g1, w1, y1, y2, y3, y4, y5, y6, y7, y8⟩ := s_callf (n := n) (v := M 26 j) hI2 ht hop (by omega) hL hn hk h7 (by rw [fn_th]; exact hf) (by
        intro h e he hfe
        rw [m 41 e (by decide)]
        exact hwt h e he hfe)
      refine w_in (by simp) <| w_bnd rfl ?_
      rw [hK (fun r S => q_X11_doJob_155 e0 n S d (some (g 3 k)) r)]
      refine w_bk rfl ?_
      have hk1 : k < g1 9 22 := by have := y2.2.1.2.2.1; omega
      obtain ⟨z1, z2, -⟩ := y2.2.2.2.2.2.1 k hk
      have z25 : M1 25 j = nI r := by rw [y2.2.2.2.2.2.2.2.1 j hj, m 25 j (by decide), b25]; exact h17
      obtain ⟨a1, a2, a3, -⟩ := y1.2.2.2.2.2.2.2.2.1 k hk1
      have hN1 := Inv_nums y1
      have z402 : dP S1 402 (g 3 k) = some (g1 1 r) := by
        rw [z1] at a3
        rcases a3 with ⟨q1, -⟩ | ⟨-, -, ⟨r', q1, q2, q3⟩, -⟩
        · rw [z2, m 17 k (by decide), h17] at q1; exact absurd q1 (nI_m1 (by omega))
        · rw [z2, m 17 k (by decide), h17] at q2
          have : r = r' := nI_inj (by omega) (by omega) q2
          rw [this]; exact q3
      rw [z1] at a1
      refine w_mono (s_tail (n := n) (r := r) (j := j) (v := r1') y1 a1 z402 (by have := y2.2.1.2.1; omega) z25 (by omega) y4 (by omega) hn) ?_
      rintro r3 S3 C3 Z3 ⟨M3, eM3, g3, w3, hI3, c3, cs3⟩
      refine jobM_r (by omega) b28 bB ?_
      rw [if_neg hkd, eM1, bnd2_s, eM3]
      refine v_some ⟨g3, w3, hI3, ?_, ?_, ?_, ?_⟩
      · exact Cs_le (Cs_trans hcs (Cs_trans y3 cs3)) (by omega) (by omega)
      · rw [c3.2.1.2.2.2.2.1, y2.2.1.2.2.2.2.1]
      · rw [cf_14 c3 (by decide), y8]; exact hop
      · rw [c3.2.2.1.2.2.2.2.2, y2.2.2.2.2.2.2.2.2, r_mf (by omega)]
  unfold q_X11_doJob
  refine w_bnd rfl <| w_chk ha <| w_ip h403 ?_
  rw [h404]
  refine w_chk rfl <| w_ip rfl <| w_chk rfl <| w_ip rfl ?_
  rw [b405]
  by_cases e : M 27 j = 0
  · exact w_ip e (core _ (by rw [if_pos e]))
  · exact w_in e (core _ (by rw [if_neg e]))
theorem h37_1 {v : Int32} {p1 : Option Nat} (hd : dK S d = 12) (h : dI S 1109 d = 0) : q_X11_hears_37 e0 n S d p1 v = some (1, S, 0, 0) := by
  unfold q_X11_hears_37 q_X11_hears_53
  rw [chk_i hd, if_pos h, chk_i hd, if_pos h, chk_i (Or.inr rfl)]
theorem h37_0 {b C Z : Nat} {v r0 : Int32} (hd : dK S d = 12) (h : ¬ dI S 1109 d = 0) (hb : dK S b = 2) (e : q_X11_reject e0 n S d (dP S 103 b) v = some (r0, S1, C, Z)) (hd1 : dK S1 d = 12) (h1 : ¬ dI S1 1109 d = 0) : q_X11_hears_37 e0 n S d (some b) v = some (0, S1, C, Z) := by
  refine RD_eq ?_
  unfold q_X11_hears_37 q_X11_hears_53
  exact w_chk hd <| w_in h <| w_bnd rfl <| w_chk hb <| w_bk e <| w_chk hd1 <| w_in h1 <| w_chk (Or.inl rfl) <| w_some ⟨rfl, rfl, rfl, rfl⟩
theorem gr_2 {q : Nat} (h1 : Inv e0 d t x g w S M) (h2 : q < g 9 50) (h3 : dK S (g 4 q) = 2) : ∃ r, r < g 9 15 ∧ M 46 q = nI r ∧ dP S 103 (g 4 q) = some (g 1 r) ∧ ((M 48 q = -1 ∧ dP S 101 (g 4 q) = none) ∨ ∃ h, h < g 9 33 ∧ M 48 q = nI h ∧ dP S 101 (g 4 q) = some (g 2 h)) := by
  obtain ⟨-, -, -, -, -, -, -, -, r, k9, k10, k11⟩ := h1.2.2.2.2.2.2.2.2.2.2.2 q h2
  rcases k11 with ⟨a1, -⟩ | ⟨a1, a2, a3, a4, a5, -⟩
  · rw [h3] at a1; cases a1
  · exact ⟨r, k9, k10, a3, a5⟩
theorem s_hears {a q : Nat} {b27 kd v : Int32} (hI : Inv e0 d t 0 g w S M) (hop : g 14 1 = 0) (hO : g 9 1 + 8 ≤ 3000) (hL : g 9 36 ≤ 4000) (hn : 4000 < n) (ha : dK S a = 5) (b405 : dI S 405 a = b27) (bB : isB b27) (b406 : dI S 406 a = v) (b23 : kd = if b27 = 0 then 12 else 13) (hq : q < g 9 50) (hkq : dK S (g 4 q) = 2) : RD (q_X11_hears e0 n S d (some (g 4 q)) (some a)) (fun r S' C Z => ∃ g' w' M', Inv e0 d t 0 g' w' S' M' ∧ WF g S M g' S' M' ∧ Cs 0 g S g' S' C Z ∧ g' 14 1 = 0 ∧ g' 9 1 ≤ g 9 1 + 1 ∧ ((r = 1 ∧ q_call n (mput M 51 0 b27) kd (nI q) v = bnd (q_goOn n M' (nI q)) (fun M5 => some (-1, mput M5 51 0 0))) ∨ (r = 0 ∧ q_call n (mput M 51 0 b27) kd (nI q) v = some (-1, M')))) := by
  have hN := Inv_nums hI
  have hd := hI.2.2.1.2.1
  have hiq : inb (nI q) 3000 := inb_nI (by omega) (by omega)
  have cq : (nI q).toNatClampNeg = q := nI_clamp (by omega)
  have hI4 : Inv e0 d t 0 g w (sI S 1109 d b27) (mput (mput M 51 0 b27) 51 0 0) := Inv_m (Or.inr rfl) (Inv_m (Or.inr rfl) (Inv_1109 hI))
  have f4 : WF g S M g (sI S 1109 d b27) (mput (mput M 51 0 b27) 51 0 0) := WF_trans (WF_th hd (Or.inr rfl)) (WF_m (Or.inr rfl))
  have hcs : Cs 0 g S g (sI S 1109 d b27) 0 0 := Cs_id rfl
  have hd4 : dK (sI S 1109 d b27) d = 12 := hd
  have hkq0 : dK S (g 4 q) ≠ 0 := by rw [hkq]; decide
  obtain ⟨r, r1, r2, r3, r4⟩ := gr_2 hI4 hq hkq
  unfold q_X11_hears
  refine w_bnd rfl <| w_chk ha <| w_chk hd <| w_chk (by rw [b405]; exact bB) <| w_lt ?_
  rw [b405, show dI (sI S 1109 d b27) 1109 d = b27 from by simp [r_II], show dI (sI S 1109 d b27) 406 a = v from (i1109 (by decide)).trans b406]
  rcases bB with e0' | e1'
  · rw [if_pos e0'] at b23
    have hMh : q_call n (mput M 51 0 b27) kd (nI q) v = bnd (q_resume n (mput (mput M 51 0 b27) 51 0 0) (nI q) v) (fun M16 => some (-1, M16)) := by
      rw [b23]
      unfold q_call
      rw [chk_i (Or.inl rfl), lt9_s, if_neg (by decide), if_neg (by decide), if_neg (by decide), if_neg (by decide), if_neg (by decide), if_neg (by decide), if_neg (by decide), if_neg (by decide), if_neg (by decide), if_neg (by decide), if_neg (by decide), if_pos rfl]
    have e51 : ∀ M9 : MS, chk (isB 0) (lt9 (mput M9 51 0 0) (fun M2 => some M2)) = some (mput M9 51 0 0) := fun M9 => chk_i (Or.inl rfl)
    have ebb : ∀ y : Option MS, bnd (bnd y (fun M1 => some (mput M1 51 0 0))) (fun M16 => some ((-1 : Int32), M16)) = bnd y (fun M5 => some (-1, mput M5 51 0 0)) := by
      intro y; cases y <;> rfl
    refine w_ip e0' <| w_bnd rfl <| w_chk hkq ?_
    rcases r4 with ⟨h48, h101⟩ | ⟨h, hh, h48, h101⟩
    · refine w_ip h101 ?_
      rw [h37_1 hd4 (by rw [e0']; simp [r_II])]
      refine w_some ⟨g, w, _, hI4, f4, hcs, hop, by omega, Or.inl ⟨rfl, ?_⟩⟩
      rw [hMh]
      unfold q_resume
      rw [chk_i hiq, cq, if_pos (by rw [h48]; decide)]
      simp only [e51]
      rw [ebb]
    · obtain ⟨rh, S1, C1, Z1, eD1, rh', M1, eM1, rfl, g1, w1, hI1, f1, cs1, t1, t1b, o1, o2, o3, o4⟩ := s_hcall (n := n) (v := v) hI4 hh hL (by omega) hn
      have hd1 := hI1.2.2.1.2.1
      have hK9 : dK (sI S 1109 d b27) (g 2 h) = 9 := (hI4.2.2.2.2.2.2.2.1 h hh).1
      have hN1 := Inv_nums hI1
      have eq4 : g1 4 q = g 4 q := f1.2.2.2.2.2.2.1 q hq
      have hkq1 : dK S1 (g 4 q) = 2 := by rw [(f1.1 (g 4 q) hkq0).1]; exact hkq
      have hq1 : q < g1 9 50 := by have := f1.2.1.2.2.2.2.2.2.2; omega
      refine w_in (by rw [h101]; simp) <| w_bnd h101 <| w_chk hK9 <| w_bk eD1 ?_
      have hres : q_call n (mput M 51 0 b27) kd (nI q) v = (if M1 51 0 = 0 then bnd (q_goOn n M1 (nI q)) (fun M5 => some (-1, mput M5 51 0 0)) else bnd (q_reject n (mput M1 51 0 0) ((mput M1 51 0 0) 46 q) rh') (fun M16 => some ((-1 : Int32), M16))) := by
        rw [hMh]
        unfold q_resume
        rw [chk_i hiq, cq, if_neg (by rw [h48]; exact nI_pos (by omega)), chk_i hiq, h48, eM1, bnd2_s]
        by_cases hth : M1 51 0 = 0
        · rw [if_pos hth, if_pos hth]
          simp only [e51]
          rw [ebb]
        · rw [if_neg hth, if_neg hth, chk_i (Or.inl rfl), lt9_s, chk_i hiq, bnd_id]
      by_cases hth : M1 51 0 = 0
      · rw [if_pos hth] at hres
        rw [h37_1 hd1 (by rw [t1]; exact hth)]
        refine w_some ⟨g1, w1, M1, hI1, WF_trans f4 f1, ?_, by rw [o4]; exact hop, o1, Or.inl ⟨rfl, hres⟩⟩
        exact Cs_le (Cs_trans hcs cs1) (by omega) (by omega)
      · rw [if_neg hth] at hres
        have hI2 : Inv e0 d t 0 g1 w1 S1 (mput M1 51 0 0) := Inv_m (Or.inr rfl) hI1
        obtain ⟨r', q1, q2, q3, -⟩ := gr_2 hI2 hq1 (by rw [eq4]; exact hkq1)
        rw [eq4] at q3
        obtain ⟨r3', S3, C3, Z3, eD3, M3, eM3, g3, w3, hI3, c3, cs3, y1, y2, y3⟩ := s_reject (n := n) (v := rh') hI2 q1 hn
        rw [h37_0 hd1 (by rw [t1]; exact hth) hkq1 (by rw [q3]; exact eD3) hI3.2.2.1.2.1 (by rw [cf_1109 c3 hd1, t1]; exact hth)]
        rw [q2, eM3, bnd_s] at hres
        refine w_some ⟨g3, w3, M3, hI3, WF_trans f4 (WF_trans f1 (WF_trans (WF_m (Or.inr rfl)) (WF_cf c3))), ?_, by rw [cf_14 c3 (by decide), o4]; exact hop, by omega, Or.inr ⟨rfl, hres⟩⟩
        exact Cs_le (Cs_trans hcs (Cs_trans cs1 cs3)) (by omega) (by omega)
  · have hb0 : ¬ b27 = 0 := by rw [e1']; decide
    rw [if_neg hb0] at b23
    refine w_in hb0 ?_
    obtain ⟨r3', S3, C3, Z3, eD3, M3, eM3, g3, w3, hI3, c3, cs3, y1, y2, y3⟩ := s_reject (n := n) (v := v) hI4 r1 hn
    rw [h37_0 hd4 (by simp [r_II]; exact hb0) hkq (by rw [r3]; exact eD3) hI3.2.2.1.2.1 (by rw [cf_1109 c3 hd4]; simp [r_II]; exact hb0)]
    refine w_some ⟨g3, w3, M3, hI3, WF_trans f4 (WF_cf c3), ?_, by rw [cf_14 c3 (by decide)]; exact hop, by omega, Or.inr ⟨rfl, ?_⟩⟩
    · exact Cs_le (Cs_trans hcs cs3) (by omega) (by omega)
    · rw [b23]
      unfold q_call
      rw [chk_i (Or.inl rfl), lt9_s, if_neg (by decide), if_neg (by decide), if_neg (by decide), if_neg (by decide), if_neg (by decide), if_neg (by decide), if_neg (by decide), if_neg (by decide), if_neg (by decide), if_neg (by decide), if_neg (by decide), if_neg (by decide), chk_i hiq, cq, r2, eM3, bnd_s]
/-- an await's job -/
theorem s_ajob {j k q : Nat} (hI : Inv e0 d t 0 g w S M) (hop : g 14 1 = 0) (hO : g 9 1 + 8 ≤ 3000) (hL : g 9 36 ≤ 4000) (hn : 4000 < n) (hk : k < g 9 22) (hj : j < g 9 30) (b28 : M 28 j = 0) (b405 : dI S 405 (g 3 k) = M 27 j) (bB : isB (M 27 j)) (b406 : dI S 406 (g 3 k) = M 26 j) (b25 : M 25 j = -1) (b23 : M 23 j = if M 27 j = 0 then 12 else 13) (b24 : M 24 j = nI q) (hq : q < g 9 50) (hkq : dK S (g 4 q) = 2) (h403 : dP S 403 (g 3 k) = some (g 4 q)) : RD (q_X11_doJob e0 n S d (some (g 3 k))) (fun _ S' C Z => RV (jobM n M (nI j)) (fun M' => JP e0 d t g S S' C Z M M')) := by
  have hN := Inv_nums hI
  have hd := hI.2.2.1.2.1
  have ha := (hI.2.2.2.2.2.2.2.2.1 k hk).1
  have hij : inb (nI j) 24000 := inb_nI (by omega) (by omega)
  have cj : (nI j).toNatClampNeg = j := nI_clamp (by omega)
  have h85 : ∀ (M9 : MS) (v : Int32), M9 25 j = -1 → q_job_85 n M9 (nI j) v = some M9 := by
    intro M9 v h
    unfold q_job_85
    rw [chk_i hij, cj, h, if_neg (by decide)]
  have b230 : ¬ M 23 j = 0 := by rw [b23]; split <;> decide
  obtain ⟨r1, S1, C1, Z1, eD1, g1, w1, M1, hI1, f1, cs1, x1, x2, x3⟩ := s_hears (n := n) hI hop hO hL hn ha b405 bB b406 b23 hq hkq
  have hd1 := hI1.2.2.1.2.1
  unfold q_X11_doJob
  refine w_bnd rfl <| w_chk ha <| w_in (by rw [h403]; simp) <| w_chk hd ?_
  rw [h403]
  refine w_bk eD1 ?_
  have m25 : M1 25 j = -1 := by rw [f1.2.2.2.2.2.2.2.1 j hj]; exact b25
  rcases x3 with ⟨rfl, hc⟩ | ⟨rfl, hc⟩
  · have eq4 : g1 4 q = g 4 q := f1.2.2.2.2.2.2.1 q hq
    have hk1 : dK S1 (g 3 k) = 5 := by rw [(f1.1 _ (by rw [ha]; decide)).1]; exact ha
    have h403' : dP S1 403 (g 3 k) = some (g1 4 q) := by
      rw [((f1.1 _ (by rw [ha]; decide)).2 (by rw [ha]; decide) 403 rfl (by decide) (by decide) (by decide) (by decide)).2, eq4]; exact h403
    obtain ⟨r5, S5, C5, Z5, eD5, M5, eM5, g5, w5, hI5, f5, cs5, z1, z2, z3, z4, z5, -⟩ := s_adv (n := n) (q := q) hI1 (by have := f1.2.1.2.2.2.2.2.2.2; omega) (by rw [eq4, (f1.1 _ (by rw [hkq]; decide)).1]; exact hkq) x1 (by omega) hn
    refine w_in i32_10 <| w_chk hk1 <| w_chk hd1 ?_
    rw [h403']
    refine w_bk eD5 <| w_some ?_
    refine jobM_r (by omega) b28 bB ?_
    rw [if_neg b230, b24, hc, eM5, bnd_s, bnd2_s, h85]
    · refine v_some ⟨g5, w5, Inv_m (Or.inr rfl) hI5, ?_, ?_, z5, by rw [r_mf (by omega), f5.2.2.2.2.2.2.2.2, f1.2.2.2.2.2.2.2.2]⟩
      · exact Cs_le (Cs_trans cs1 cs5) (by omega) (by omega)
      · rw [f5.2.1.2.2.2.2.1, f1.2.1.2.2.2.2.1]
    · rw [r_m, if_neg (by omega), f5.2.2.2.2.2.2.2.1 j (by have := f1.2.1.2.2.2.1; omega)]; exact m25
  · refine w_ip rfl <| w_some ?_
    refine jobM_r (by omega) b28 bB ?_
    rw [if_neg b230, b24, hc, bnd2_s, h85 _ _ m25]
    exact v_some ⟨g1, w1, hI1, Cs_le cs1 (by omega) (by omega), f1.2.1.2.2.2.2.1, x1, f1.2.2.2.2.2.2.2.2⟩
end JOB
