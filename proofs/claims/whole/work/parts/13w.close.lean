section CLS
variable {e0 d t x : Nat} {g g' : GH} {w w' : Nat → List Nat} {S S' S1 S2 S0 : DS} {M M' M1 : MS}
theorem s_react {k : Nat} {st v : Int32} (hI : Inv e0 d t (x + 1) g w S M) (hk : k < g 9 22) (hpos : g 7 (g 3 k) % 2 = 0) (hch : ∀ o, o < g 9 1 → k ∉ w o) (hwt : wt g M k (M 18 k) (M 19 k) ∧ wt g M k (M 20 k) (M 21 k)) (hp : PreD (g 3 k) S S1) (h405 : dI S1 405 (g 3 k) = if st = 2 then 1 else 0) (h406 : dI S1 406 (g 3 k) = v) : RD (q_X11_enqueue e0 S1 d (some (g 3 k))) (fun _ S' C Z => C = 0 ∧ Z = 0 ∧ EnqD d (g 3 k) g S S' ∧ RV (q_react M (nI k) st v) (fun M' => (∀ a i, ¬ (a = 30 ∧ i = 0) → ¬ (23 ≤ a ∧ a ≤ 28 ∧ i = g 9 30) → M' a i = M a i) ∧ Inv e0 d t x (gput (gput (gput g 6 (g 9 30) (g 3 k)) 7 (g 3 k) (2 * g 9 30 + 1)) 9 30 (g 9 30 + 1)) w S' M' ∧ CF g S M (gput (gput (gput g 6 (g 9 30) (g 3 k)) 7 (g 3 k) (2 * g 9 30 + 1)) 9 30 (g 9 30 + 1)) S' M')) := by
  have hn := Inv_nums hI
  have ha := (hI.2.2.2.2.2.2.2.2.1 k hk).1
  refine w_mono (enq_run hI hp ha hpos) ?_
  rintro r S' C Z ⟨rfl, rfl, hE, e405, e406⟩
  refine ⟨rfl, rfl, hE, ?_⟩
  obtain ⟨M', eM, m30, mo, m28, m27, m23, m24, m25, m26⟩ := react_run (M := M) (k := k) (J := g 9 30) (st := st) (v := v) hI.1.2.2.2.2.1 (by omega) (by omega)
  refine ⟨M', eM, mo, ?_⟩
  refine P_enq hI hE ha hpos (fun o ho k' hk' e => ?_) mo m30 rfl ?_ (fun k' hk' e => ?_)
  · have hK := hI.2.2.2.2.2.2.2.2.1
    have hW := hI.2.2.2.2.2.2.2.2.2.1
    have hT := hI.2.2.2.2.2.1
    have h2 : M 2 o = 0 := by
      by_cases h : M 2 o = 0
      · exact h
      · have := (hW.1 o ho).1 (Or.inl h)
        rw [this] at hk'; cases hk'
    have h3 := (((hW.1 o ho).2 h2).2.2.2.2 k' hk').1
    have : k' = k := by rw [← (hK k' h3).2.1, ← (hK k hk).2.1, e]
    exact hch o ho (this ▸ hk')
  · refine Or.inl ⟨m28, k, ?_, ?_, ?_, ?_, ?_, ?_, ?_, ?_⟩
    · simp [r_g]; exact hk
    · simp [r_g]
    · rw [e405, h405, m27]
    · rw [m27]; split
      · exact Or.inr rfl
      · exact Or.inl rfl
    · rw [e406, h406, m26]
    · rw [m25, mo 17 k (by omega) (by omega)]
    · rw [m23, m27, mo 18 k (by omega) (by omega), mo 20 k (by omega) (by omega)]
      by_cases h : st = 2 <;> simp [h]
    · rw [m24, m27, mo 19 k (by omega) (by omega), mo 21 k (by omega) (by omega)]
      by_cases h : st = 2 <;> simp [h]
  · have hK := hI.2.2.2.2.2.2.2.2.1
    have : k' = k := by rw [← (hK k' hk').2.1, ← (hK k hk).2.1, e]
    rw [this]; exact hwt
theorem hear_run {a : Nat} {b v : Int32} (ha : dK S a = 5) (hb : isB b) : q_X4_hear e0 S a b v = some (0, sI (sI S 405 a b) 406 a v, 0, 0) := by
  unfold q_X4_hear
  rw [chk_i ha, chk_i hb]; rfl
/-- the chain's reactions become jobs -/
theorem s_close {p : Nat} {st v3 : Int32} (hst : st = 1 ∨ st = 2) : ∀ (l : List Nat) (n : Nat) (g : GH) (S : DS) (M : MS) (v4 : Int32) (v : Option Nat), Inv e0 d t (x + l.length) g w S (mput M 5 p (-1)) → p < g 9 1 → lk (M 16) v4 l → dlk (dP S 407) v (l.map (g 3)) → l.Nodup → (∀ k, k ∈ l → k < g 9 22 ∧ g 7 (g 3 k) % 2 = 0 ∧ g 7 (g 3 k) ≠ 0 ∧ ∀ o, o < g 9 1 → k ∉ w o) → l.length < n → RD (q_X11_close_26 e0 d n S st v3 v) (fun _ S' C Z => RV (q_settle_22 n M (nI p) st v3 v4) (fun M' => ∃ g', Inv e0 d t x g' w S' M' ∧ CF g S (mput M 5 p (-1)) g' S' M' ∧ C = 0 ∧ Z = 0 ∧ g' 9 1 = g 9 1 ∧ g' 9 15 = g 9 15 ∧ g' 9 22 = g 9 22 ∧ g' 14 4 = g 14 4))
  | [], 0, _, _, _, _, _, _, _, _, _, _, _, hn => by simp at hn
  | [], n + 1, g, S, M, v4, v, hI, hp, h1, h2, _, _, _ => by
    have hN := Inv_nums hI
    have h1 : v4 = -1 := h1
    have h2 : v = none := h2
    subst h1 h2
    unfold q_X11_close_26
    refine w_ip rfl <| w_some ?_
    unfold q_settle_22
    have hi : inb (nI p) 3000 := inb_nI (by omega) (by omega)
    have cp : (nI p).toNatClampNeg = p := nI_clamp (by omega)
    refine v_ip (by decide) <| v_chk hi <| v_lt <| v_some ?_
    rw [cp]
    exact ⟨g, hI, CF_refl _ _ _, rfl, rfl, rfl, rfl, rfl, rfl⟩
  | k :: l, 0, _, _, _, _, _, _, _, _, _, _, _, hn => by simp at hn
  | k :: l, n + 1, g, S, M, v4, v, hI, hp, h1, h2, hnd, hl, hn => by
    have hN := Inv_nums hI
    obtain ⟨e4, h1⟩ := h1
    obtain ⟨ev, h2⟩ := h2
    subst e4 ev
    obtain ⟨k1, k2, k3, k4⟩ := hl k List.mem_cons_self
    have hK := hI.2.2.2.2.2.2.2.2.1
    have ha := (hK k k1).1
    have hnd' := List.nodup_cons.mp hnd
    have hwt := (hK k k1).2.2.2 k3
    have hI1 : Inv e0 d t (x + l.length + 1) g w S (mput M 5 p (-1)) := by
      have : x + (k :: l).length = x + l.length + 1 := by simp; omega
      rw [this] at hI; exact hI
    unfold q_X11_close_26
    refine w_in (by simp) <| w_bnd rfl <| w_chk ha <| w_lt ?_
    have hcont : ∀ (b : Int32), b = (if st = 2 then 1 else 0) → RD (bndc (q_X4_hear e0 (sP S 407 (g 3 k) none) (g 3 k) b v3) (fun r S16 => chk (dK S16 d = 12) (bndc (q_X11_enqueue e0 S16 d (some (g 3 k))) (fun r18 S19 => q_X11_close_26 e0 d n S19 st v3 (dP S 407 (g 3 k)))))) (fun _ S' C Z => RV (q_settle_22 (n + 1) M (nI p) st v3 (nI k)) (fun M' => ∃ g', Inv e0 d t x g' w S' M' ∧ CF g S (mput M 5 p (-1)) g' S' M' ∧ C = 0 ∧ Z = 0 ∧ g' 9 1 = g 9 1 ∧ g' 9 15 = g 9 15 ∧ g' 9 22 = g 9 22 ∧ g' 14 4 = g 14 4)) := by
      intro b hb
      refine w_bk (hear_run (by exact ha) (by rw [hb]; split; exact Or.inr rfl; exact Or.inl rfl)) ?_
      refine w_chk (by exact hI.2.2.1.2.1) ?_
      have hpre : PreD (g 3 k) S (sI (sI (sP S 407 (g 3 k) none) 405 (g 3 k) b) 406 (g 3 k) v3) := by
        unfold PreD
        simp only [r_KI, r_LI, r_PI, r_XI, r_YI, r_nI, r_II, r_KP, r_LP, r_IP, r_XP, r_YP, r_nP, r_PP, r_KX, r_LX, r_IX, r_PX, r_YX, r_nX, r_XX, r_KY, r_LY, r_IY, r_PY, r_XY, r_nY, r_YY, r_KO, r_LO, r_IO, r_PO, r_XO, r_YO, r_nO, r_KA, r_LA, r_IA, r_PA, r_XA, r_YA, r_nA, r_KB, r_LB, r_IB, r_PB, r_XB, r_YB, r_nB]
        refine ⟨trivial, trivial, trivial, trivial, trivial, fun f y h => ?_, fun f y h => ?_, by simp⟩
        · rw [if_neg (by omega), if_neg (by omega)]
        · rw [if_neg (by omega)]
      obtain ⟨r, S', C, Z, eD, rfl, rfl, hE, M1', eM, mo, hI2, hc⟩ := s_react (st := st) (v := v3) hI1 k1 k2 k4 hwt hpre (by simp [r_KI, r_LI, r_PI, r_XI, r_YI, r_nI, r_II, r_KP, r_LP, r_IP, r_XP, r_YP, r_nP, r_PP, r_KX, r_LX, r_IX, r_PX, r_YX, r_nX, r_XX, r_KY, r_LY, r_IY, r_PY, r_XY, r_nY, r_YY, r_KO, r_LO, r_IO, r_PO, r_XO, r_YO, r_nO, r_KA, r_LA, r_IA, r_PA, r_XA, r_YA, r_nA, r_KB, r_LB, r_IB, r_PB, r_XB, r_YB, r_nB, hb]) (by simp [r_KI, r_LI, r_PI, r_XI, r_YI, r_nI, r_II, r_KP, r_LP, r_IP, r_XP, r_YP, r_nP, r_PP, r_KX, r_LX, r_IX, r_PX, r_YX, r_nX, r_XX, r_KY, r_LY, r_IY, r_PY, r_XY, r_nY, r_YY, r_KO, r_LO, r_IO, r_PO, r_XO, r_YO, r_nO, r_KA, r_LA, r_IA, r_PA, r_XA, r_YA, r_nA, r_KB, r_LB, r_IB, r_PB, r_XB, r_YB, r_nB])
      refine w_bk eD ?_
      -- the reference's react on M itself
      obtain ⟨M2, eM2, m30, mo2, a28, a27, a23, a24, a25, a26⟩ := react_run (M := M) (k := k) (J := g 9 30) (st := st) (v := v3) (by have := hI.1.2.2.2.2.1; rw [r_m, if_neg (by omega)] at this; exact this) (by omega) (by omega)
      have hM12 : M1' = mput M2 5 p (-1) := by
        obtain ⟨M3, eM3, b30, bo2, b28, b27, b23, b24, b25, b26⟩ := react_run (M := mput M 5 p (-1)) (k := k) (J := g 9 30) (st := st) (v := v3) hI.1.2.2.2.2.1 (by omega) (by omega)
        rw [eM] at eM3
        cases eM3
        funext a i
        by_cases c1 : a = 30 ∧ i = 0
        · obtain ⟨rfl, rfl⟩ := c1
          rw [b30, r_m, if_neg (by omega), m30]
        · by_cases c2 : 23 ≤ a ∧ a ≤ 28 ∧ i = g 9 30
          · obtain ⟨c3, c4, rfl⟩ := c2
            rw [r_m, if_neg (by omega)]
            have : a = 23 ∨ a = 24 ∨ a = 25 ∨ a = 26 ∨ a = 27 ∨ a = 28 := by omega
            rcases this with rfl | rfl | rfl | rfl | rfl | rfl
            · rw [b23, a23]; simp [r_m]
            · rw [b24, a24]; simp [r_m]
            · rw [b25, a25]; simp [r_m]
            · rw [b26, a26]
            · rw [b27, a27]
            · rw [b28, a28]
          · rw [bo2 a i c1 c2, r_m, r_m]
            by_cases c3 : a = 5 ∧ i = p
            · rw [if_pos c3, if_pos c3]
            · rw [if_neg c3, if_neg c3, mo2 a i c1 c2]
      rw [hM12] at hI2 hc
      have h16 : M2 16 = M 16 := funext fun i => mo2 16 i (by omega) (by omega)
      have hEP := hE
      obtain ⟨q1, q2, q3, q4, q5, q6, q7, q8, q9, q10, q11, q12, q13, q14, q15, q16⟩ := hE
      have hinj : ∀ k', k' ∈ l → g 3 k' ≠ g 3 k := by
        intro k' hk' e
        have h3 := (hl k' (List.mem_cons_of_mem _ hk')).1
        have : k' = k := by rw [← (hK k' h3).2.1, ← (hK k k1).2.1, e]
        exact hnd'.1 (this ▸ hk')
      have e3 : (gput (gput (gput g 6 (g 9 30) (g 3 k)) 7 (g 3 k) (2 * g 9 30 + 1)) 9 30 (g 9 30 + 1)) 3 = g 3 := by funext i; simp [r_g]
      have hrec := s_close (v3 := v3) hst l n _ S' M2 (M 16 k) (dP S 407 (g 3 k)) hI2 (by simp [r_g]; exact hp) (by rw [h16]; exact h1) ?_ hnd'.2 ?_ (by simp at hn; omega)
      · obtain ⟨r3, S3, C3, Z3, eD3, M3, eM3, g3, hI3, hc3, rfl, rfl, f1, f2, f3, f4⟩ := hrec
        refine ⟨r3, S3, 0, 0, eD3, M3, ?_, g3, hI3, CF_trans hc hc3, rfl, rfl, ?_, ?_, ?_, ?_⟩
        · unfold q_settle_22
          have ck : (nI k).toNatClampNeg = k := nI_clamp (by omega)
          rw [if_neg (nI_pos (by omega)), eM2]
          show chk _ _ = _
          rw [chk_i (inb_nI (by omega) (by omega)), ck, h16]
          exact eM3
        · rw [f1]; simp [r_g]
        · rw [f2]; simp [r_g]
        · rw [f3]; simp [r_g]
        · rw [f4]; simp [r_g]
      · rw [e3]
        refine dlk_congr (fun y hy => ?_) h2
        obtain ⟨k', hk', rfl⟩ := List.mem_map.mp hy
        obtain ⟨j1, j2, j3, j4⟩ := hl k' (List.mem_cons_of_mem _ hk')
        refine q7 407 _ (hinj k' hk') (fun e => ?_) (fun h => ?_)
        · have := (hK k' j1).1
          rw [e, hI.2.2.1.2.1] at this; cases this
        · have := (hI.2.2.2.2.2.2.2.2.2.2.1.2.2.2.2 (g 9 30 - 1) (by omega) (by omega)).2.1
          rw [← h.2.2] at this; omega
      · intro k' hk'
        obtain ⟨j1, j2, j3, j4⟩ := hl k' (List.mem_cons_of_mem _ hk')
        rw [e3]
        simp [r_g, hinj k' hk']
        exact ⟨j1, j2, j3, j4⟩
    by_cases e : st = 2
    · rw [if_pos e]; exact hcont 1 (by rw [if_pos e])
    · rw [if_neg e]; exact hcont 0 (by rw [if_neg e])
theorem s_settle {n p : Nat} {st v : Int32} (hst : st = 1 ∨ st = 2) (hI : Inv e0 d t x g w S M) (hp : p < g 9 1) (hp2 : M 2 p = 0) (hn : 4000 < n) : RD (q_X11_close e0 n S d (some (g 0 p)) st v) (fun _ S' C Z => RV (q_settle n M (nI p) st v) (fun M' => ∃ g' w', Inv e0 d t x g' w' S' M' ∧ CF g S M g' S' M' ∧ C = 0 ∧ Z = 0 ∧ g' 9 1 = g 9 1 ∧ g' 9 15 = g 9 15 ∧ g' 9 22 = g 9 22 ∧ g' 14 4 = g 14 4)) := by
  have hN := Inv_nums hI
  have cp : (nI p).toNatClampNeg = p := nI_clamp (by omega)
  have hi : inb (nI p) 3000 := inb_nI (by omega) (by omega)
  obtain ⟨hI2, hc⟩ := P_set (v := v) hI hp hp2 hst rfl rfl
  have hK := hI.2.2.2.2.2.2.2.2.1
  have hT := hI.2.2.2.2.2.1
  have hW := hI.2.2.2.2.2.2.2.2.2.1
  obtain ⟨w1, w2, w3, w4, w5⟩ := (hW.1 p hp).2 hp2
  have hKp : dK S (g 0 p) = 7 := by
    have := (hT.1 p hp).2.2.2
    unfold tk at this; grind
  have hlen : (w p).length ≤ 3512 + 10513 := by
    have := sumN_le (f := fun o => (w o).length) (n := g 9 1) (j := p) hp
    have := hI.2.1
    unfold A_bd at this
    omega
  have hlen2 : (w p).length ≤ g 9 22 := by
    have hsub : ∀ (m : Nat) (l : List Nat), l.Nodup → (∀ k, k ∈ l → k < m) → l.length ≤ m := by
      intro m l h1 h2
      have := List.Nodup.length_le_of_subset (l₂ := List.range m) h1 (fun a ha => List.mem_range.mpr (h2 a ha))
      simpa using this
    exact hsub _ _ w4 (fun k hk => (w5 k hk).1)
  unfold q_X11_close
  refine w_bnd rfl <| w_chk hKp <| w_lt <| w_lt <| w_lt <| w_lt ?_
  have hrec := s_close (p := p) (v3 := v) hst (w p) n g _ (mput (mput M 3 p st) 4 p v) (M 5 p) (dP S 607 (g 0 p)) hI2 hp (by
    have : (mput (mput M 3 p st) 4 p v) 16 = M 16 := by rw [r_mf (by omega), r_mf (by omega)]
    rw [this]; exact w1) (by
    refine dlk_congr (fun a ha => ?_) w2
    simp [r_KI, r_LI, r_PI, r_XI, r_YI, r_nI, r_II, r_KP, r_LP, r_IP, r_XP, r_YP, r_nP, r_PP, r_KX, r_LX, r_IX, r_PX, r_YX, r_nX, r_XX, r_KY, r_LY, r_IY, r_PY, r_XY, r_nY, r_YY, r_KO, r_LO, r_IO, r_PO, r_XO, r_YO, r_nO, r_KA, r_LA, r_IA, r_PA, r_XA, r_YA, r_nA, r_KB, r_LB, r_IB, r_PB, r_XB, r_YB, r_nB]) w4 (fun k hk => ?_) (by omega)
  · obtain ⟨r3, S3, C3, Z3, eD3, M3, eM3, g3, hI3, hc3, rfl, rfl, f1, f2, f3, f4⟩ := hrec
    refine ⟨r3, S3, 0, 0, ?_, M3, ?_, g3, _, hI3, CF_trans hc hc3, rfl, rfl, f1, f2, f3, f4⟩
    · have e5 : dP (sI (sI S 603 (g 0 p) st) 604 (g 0 p) v) 607 (g 0 p) = dP S 607 (g 0 p) := rfl
      rw [e5]; exact eD3
    · unfold q_settle
      rw [chk_i hi, cp]
      show chk _ _ = _
      rw [chk_i hi]
      show chk _ _ = _
      rw [chk_i hi]
      have e5 : mput (mput M 3 p st) 4 p v 5 p = M 5 p := by rw [r_m, if_neg (by omega), r_m, if_neg (by omega)]
      rw [e5]; exact eM3
  · obtain ⟨j1, j2⟩ := w5 k hk
    refine ⟨j1, by omega, by omega, fun o ho => ?_⟩
    by_cases e : o = p
    · rw [if_pos e]; simp
    · rw [if_neg e]
      intro hm
      have h2 : M 2 o = 0 := by
        by_cases h : M 2 o = 0
        · exact h
        · have := (hW.1 o ho).1 (Or.inl h)
          rw [this] at hm; cases hm
      have := (((hW.1 o ho).2 h2).2.2.2.2 k hm).2
      omega
end CLS
