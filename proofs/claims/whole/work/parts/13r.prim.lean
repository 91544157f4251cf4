section PRM
variable {e0 d t x : Nat} {g g' : GH} {w w' : Nat → List Nat} {S S' S1 : DS} {M M' M1 : MS}
theorem FD_refl : FD S S := by unfold FD; grind
theorem FD_trans (h1 : FD S S1) (h2 : FD S1 S') : FD S S' := by
  unfold FD at *
  obtain ⟨a1, a2⟩ := h1
  obtain ⟨b1, b2⟩ := h2
  refine ⟨by omega, fun a ha => ?_⟩
  have p := a2 a ha
  have q := b2 a (by rw [p.1]; exact ha)
  grind
theorem FD_sI {f a : Nat} {v : Int32} (hf : fx f = true) : FD S (sI S f a v) := by
  unfold FD; simp only [r_KI, r_LI, r_PI, r_XI, r_YI, r_nI, r_II, r_KP, r_LP, r_IP, r_XP, r_YP, r_nP, r_PP, r_KX, r_LX, r_IX, r_PX, r_YX, r_nX, r_XX, r_KY, r_LY, r_IY, r_PY, r_XY, r_nY, r_YY, r_KO, r_LO, r_IO, r_PO, r_XO, r_YO, r_nO, r_KA, r_LA, r_IA, r_PA, r_XA, r_YA, r_nA, r_KB, r_LB, r_IB, r_PB, r_XB, r_YB, r_nB]
  refine ⟨by omega, fun b hb => ⟨trivial, trivial, trivial, fun h hh => ⟨?_, trivial⟩⟩⟩
  rw [if_neg]; rintro ⟨rfl, -⟩; rw [hf] at hh; cases hh
theorem FD_sP {f a : Nat} {v : Option Nat} (hf : fx f = true) : FD S (sP S f a v) := by
  unfold FD; simp only [r_KI, r_LI, r_PI, r_XI, r_YI, r_nI, r_II, r_KP, r_LP, r_IP, r_XP, r_YP, r_nP, r_PP, r_KX, r_LX, r_IX, r_PX, r_YX, r_nX, r_XX, r_KY, r_LY, r_IY, r_PY, r_XY, r_nY, r_YY, r_KO, r_LO, r_IO, r_PO, r_XO, r_YO, r_nO, r_KA, r_LA, r_IA, r_PA, r_XA, r_YA, r_nA, r_KB, r_LB, r_IB, r_PB, r_XB, r_YB, r_nB]
  refine ⟨by omega, fun b hb => ⟨trivial, trivial, trivial, fun h hh => ⟨trivial, ?_⟩⟩⟩
  rw [if_neg]; rintro ⟨rfl, -⟩; rw [hf] at hh; cases hh
theorem FD_FA {tl ed : Nat} (h : FA S S' tl ed) : FD S S' := by
  unfold FA FD at *
  refine ⟨h.1, fun a ha => ?_⟩
  have p := h.2 a ha
  refine ⟨p.1, p.2.1, p.2.2.1, fun f hf => ⟨p.2.2.2.2.1 f ?_ ?_, p.2.2.2.2.2.1 f ?_⟩⟩
  · rintro rfl; cases hf
  · rintro rfl; cases hf
  · rintro rfl; cases hf
/-- only new cells -/
def Same (S S1 : DS) : Prop := dn S ≤ dn S1 ∧ dFr S1 ∧ ∀ a, dK S a ≠ 0 → dK S1 a = dK S a ∧ dL S1 a = dL S a ∧ dX S1 a = dX S a ∧ dY S1 a = dY S a ∧ ∀ f, dI S1 f a = dI S f a ∧ dP S1 f a = dP S f a
theorem Same_refl (h : dFr S) : Same S S := by unfold Same; grind
theorem Same_trans (h1 : Same S S1) (h2 : Same S1 S') : Same S S' := by
  unfold Same at *
  obtain ⟨a1, a3, a2⟩ := h1
  obtain ⟨b1, b3, b2⟩ := h2
  refine ⟨by omega, b3, fun a ha => ?_⟩
  have p := a2 a ha
  have q := b2 a (by rw [p.1]; exact ha)
  grind
theorem FD_same (h : Same S S') : FD S S' := by
  unfold Same FD at *; grind
theorem Same_sO {k : Nat} (h : dFr S) (hk : k ≠ 0) : Same S (sO S k) := by
  unfold Same dFr at *; simp only [r_KI, r_LI, r_PI, r_XI, r_YI, r_nI, r_II, r_KP, r_LP, r_IP, r_XP, r_YP, r_nP, r_PP, r_KX, r_LX, r_IX, r_PX, r_YX, r_nX, r_XX, r_KY, r_LY, r_IY, r_PY, r_XY, r_nY, r_YY, r_KO, r_LO, r_IO, r_PO, r_XO, r_YO, r_nO, r_KA, r_LA, r_IA, r_PA, r_XA, r_YA, r_nA, r_KB, r_LB, r_IB, r_PB, r_XB, r_YB, r_nB]
  refine ⟨by omega, fun a ha => ?_, fun a ha => ?_⟩
  · by_cases e : a = dn S
    · omega
    · rw [if_neg e] at ha; have := h a ha; omega
  · have := h a ha
    have e : a ≠ dn S := by omega
    simp [e]
theorem Same_sAI {N : Nat} {v : Nat → Int32} (h : dFr S) : Same S (sAI S N v) := by
  unfold Same dFr at *; simp only [r_KI, r_LI, r_PI, r_XI, r_YI, r_nI, r_II, r_KP, r_LP, r_IP, r_XP, r_YP, r_nP, r_PP, r_KX, r_LX, r_IX, r_PX, r_YX, r_nX, r_XX, r_KY, r_LY, r_IY, r_PY, r_XY, r_nY, r_YY, r_KO, r_LO, r_IO, r_PO, r_XO, r_YO, r_nO, r_KA, r_LA, r_IA, r_PA, r_XA, r_YA, r_nA, r_KB, r_LB, r_IB, r_PB, r_XB, r_YB, r_nB]
  refine ⟨by omega, fun a ha => ?_, fun a ha => ?_⟩
  · by_cases e : a = dn S
    · omega
    · rw [if_neg e] at ha; have := h a ha; omega
  · have := h a ha
    have e : a ≠ dn S := by omega
    simp [e]
theorem Same_sI {f a : Nat} {v : Int32} (h : Same S S1) (ha : dK S a = 0) : Same S (sI S1 f a v) := by
  unfold Same at *; simp only [r_KI, r_LI, r_PI, r_XI, r_YI, r_nI, r_II, r_KP, r_LP, r_IP, r_XP, r_YP, r_nP, r_PP, r_KX, r_LX, r_IX, r_PX, r_YX, r_nX, r_XX, r_KY, r_LY, r_IY, r_PY, r_XY, r_nY, r_YY, r_KO, r_LO, r_IO, r_PO, r_XO, r_YO, r_nO, r_KA, r_LA, r_IA, r_PA, r_XA, r_YA, r_nA, r_KB, r_LB, r_IB, r_PB, r_XB, r_YB, r_nB]
  refine ⟨h.1, h.2.1, fun b hb => ?_⟩
  have p := h.2.2 b hb
  have e : b ≠ a := fun e => hb (e ▸ ha)
  refine ⟨p.1, p.2.1, p.2.2.1, p.2.2.2.1, fun f' => ⟨?_, (p.2.2.2.2 f').2⟩⟩
  rw [if_neg (fun q => e q.2)]; exact (p.2.2.2.2 f').1
theorem Same_sP {f a : Nat} {v : Option Nat} (h : Same S S1) (ha : dK S a = 0) : Same S (sP S1 f a v) := by
  unfold Same at *; simp only [r_KI, r_LI, r_PI, r_XI, r_YI, r_nI, r_II, r_KP, r_LP, r_IP, r_XP, r_YP, r_nP, r_PP, r_KX, r_LX, r_IX, r_PX, r_YX, r_nX, r_XX, r_KY, r_LY, r_IY, r_PY, r_XY, r_nY, r_YY, r_KO, r_LO, r_IO, r_PO, r_XO, r_YO, r_nO, r_KA, r_LA, r_IA, r_PA, r_XA, r_YA, r_nA, r_KB, r_LB, r_IB, r_PB, r_XB, r_YB, r_nB]
  refine ⟨h.1, h.2.1, fun b hb => ?_⟩
  have p := h.2.2 b hb
  have e : b ≠ a := fun e => hb (e ▸ ha)
  refine ⟨p.1, p.2.1, p.2.2.1, p.2.2.2.1, fun f' => ⟨(p.2.2.2.2 f').1, ?_⟩⟩
  rw [if_neg (fun q => e q.2)]; exact (p.2.2.2.2 f').2
theorem Same_sX {a : Nat} {v : Nat → Int32} (h : Same S S1) (ha : dK S a = 0) : Same S (sX S1 a v) := by
  unfold Same at *; simp only [r_KI, r_LI, r_PI, r_XI, r_YI, r_nI, r_II, r_KP, r_LP, r_IP, r_XP, r_YP, r_nP, r_PP, r_KX, r_LX, r_IX, r_PX, r_YX, r_nX, r_XX, r_KY, r_LY, r_IY, r_PY, r_XY, r_nY, r_YY, r_KO, r_LO, r_IO, r_PO, r_XO, r_YO, r_nO, r_KA, r_LA, r_IA, r_PA, r_XA, r_YA, r_nA, r_KB, r_LB, r_IB, r_PB, r_XB, r_YB, r_nB]
  refine ⟨h.1, h.2.1, fun b hb => ?_⟩
  have p := h.2.2 b hb
  have e : b ≠ a := fun e => hb (e ▸ ha)
  rw [if_neg e]; exact p
theorem K_dn (h : dFr S) : dK S (dn S) = 0 := by
  by_cases e : dK S (dn S) = 0
  · exact e
  · have := h _ e; omega
theorem FM_refl : FM g M M := by unfold FM; simp
theorem FM_trans (h1 : FM g M M1) (h2 : FM g M1 M') : FM g M M' := by
  unfold FM at *
  refine ⟨fun k hk => (h2.1 k hk).trans (h1.1 k hk), fun o ho => ?_, fun k hk => ?_, fun k hk => ?_, fun j hj => (h2.2.2.2.2.1 j hj).trans (h1.2.2.2.2.1 j hj), h2.2.2.2.2.2.trans h1.2.2.2.2.2⟩
  · have x1 := h1.2.1 o ho
    have x2 := h2.2.1 o ho
    grind
  · exact (h2.2.2.1 k hk).trans (h1.2.2.1 k hk)
  · have x1 := h1.2.2.2.1 k hk
    have x2 := h2.2.2.2.1 k hk
    grind
theorem FM_put {k i : Nat} {v : Int32} (h : k ≤ 30) (hT : (k = 2 ∨ k = 6 ∨ (8 ≤ k ∧ k ≤ 12)) → g 9 1 ≤ i) (hR : k = 13 → g 9 15 ≤ i) (hK : 17 ≤ k ∧ k ≤ 21 → g 9 22 ≤ i) (hQ : k = 25 → g 9 30 ≤ i := by omega) (h0 : k ≠ 0 := by omega) : FM g M (mput M k i v) := by
  unfold FM
  refine ⟨fun j hj => r_mf (by omega), fun o ho => ?_, fun o ho => ?_, fun o ho => ?_, fun j hj => (by rw [r_m, if_neg (by omega)]), r_mf (by omega)⟩
  · simp only [r_m]
    refine ⟨?_, ?_, ?_, ?_, ?_, ?_, ?_⟩ <;> rw [if_neg (by omega)]
  · simp only [r_m]
    rw [if_neg (by omega)]
  · simp only [r_m]
    refine ⟨?_, ?_, ?_, ?_, ?_⟩ <;> rw [if_neg (by omega)]
theorem GE_refl : GE g g := by unfold GE; grind
theorem GE_trans {g1 : GH} (h1 : GE g g1) (h2 : GE g1 g') : GE g g' := by
  unfold GE at *; grind
theorem GE_put {k i v : Nat} (h9 : k = 9 → (i = 1 ∨ i = 15 ∨ i = 22 ∨ i = 30) ∧ g 9 i ≤ v) (h0 : k = 0 → g 9 1 ≤ i) (h1 : k = 1 → g 9 15 ≤ i) (h3 : k = 3 → g 9 22 ≤ i) (hk : k ≠ 2 ∧ k ≠ 4 ∧ k ≠ 5 ∧ k ≠ 8 ∧ k ≠ 10 ∧ k ≠ 11 ∧ k ≠ 15 ∧ k ≠ 16) (h14 : k = 14 → i = 4) : GE g (gput g k i v) := by
  obtain ⟨k2, k4, k5, k8, k10, k11, k15, k16⟩ := hk
  unfold GE
  rw [r_gf (Ne.symm k2), r_gf (Ne.symm k4), r_gf (Ne.symm k5), r_gf (Ne.symm k8), r_gf (Ne.symm k10), r_gf (Ne.symm k11), r_gf (Ne.symm k15), r_gf (Ne.symm k16)]
  simp only [r_g]
  refine ⟨?_, ?_, ?_, ?_, ?_, ?_, ?_, ?_, ?_, ?_, ?_, ?_, trivial, ?_, trivial, trivial, trivial, trivial, trivial, trivial, trivial, ?_⟩
  all_goals grind
theorem Inv_mk {t' x' : Nat} (hI : Inv e0 d t x g w S M) (c : CF g S M g' S' M') (h1 : A_cnt g' M') (h2 : A_bd t' x' g' w' M') (h3 : A_desk e0 d g' S') (h4 : A_T g' S' M') (h5 : A_R g' S' M') (h6 : A_K g' S' M') (h7 : A_W g' w' S' M') (h8 : A_Q d g' S' M') : Inv e0 d t' x' g' w' S' M' := by
  obtain ⟨i1, i2, i3, i4, i5, i6, i7, i8, i9, i10, i11, i12⟩ := hI
  have hd : dK S d ≠ 0 := by rw [i3.2.1]; decide
  exact ⟨h1, h2, h3, log_cf i4 hd c, itm_cf i5 hd c, h4, h5, H_cf i8 c, h6, h7, h8, G_cf i12 c⟩
theorem Q_fr (h : A_Q d g S M) (c : CF g S M g' S' M') (e30 : g' 9 30 = g 9 30) (e6 : g' 6 = g 6) (hd : dI S' 1108 d = dI S 1108 d ∧ dP S' 1106 d = dP S 1106 d ∧ dP S' 1107 d = dP S 1107 d) (hj : ∀ j, g 9 29 ≤ j → j < g 9 30 → dK S (g 6 j) = 5 → g 7 (g 6 j) = 2 * j + 1 → g' 7 (g 6 j) = 2 * j + 1 ∧ dP S' 407 (g 6 j) = dP S 407 (g 6 j) ∧ (dI S' 405 (g 6 j) = dI S 405 (g 6 j) ∧ dI S' 406 (g 6 j) = dI S 406 (g 6 j)) ∧ M' 23 j = M 23 j ∧ M' 24 j = M 24 j ∧ M' 25 j = M 25 j ∧ M' 26 j = M 26 j ∧ M' 27 j = M 27 j ∧ M' 28 j = M 28 j) (hb : ∀ j b, g 9 29 ≤ j → j < g 9 30 → dP S 402 (g 6 j) = some b → dK S b = 8 → g 12 b = 100000 + j → dI S' 701 b = dI S 701 b ∧ g' 12 b = g 12 b) : A_Q d g' S' M' := by
  obtain ⟨h1, h2, h3, h4, h5⟩ := h
  have e29 : g' 9 29 = g 9 29 := c.2.1.2.2.2.2.1
  unfold A_Q
  rw [e29, e30, e6, hd.1, hd.2.1, hd.2.2]
  refine ⟨h1, h2, fun hl => ?_, fun j h6 h7 => ?_, fun j h6 h7 => ?_⟩
  · obtain ⟨a1, a2, a3⟩ := h3 hl
    obtain ⟨b1, b2, b3⟩ := h5 (g 9 30 - 1) (by omega) (by omega)
    exact ⟨a1, a2, by rw [(hj (g 9 30 - 1) (by omega) (by omega) b1 b2).2.1]; exact a3⟩
  · obtain ⟨b1, b2, b3⟩ := h5 j (by omega) (by omega)
    rw [(hj j (by omega) (by omega) b1 b2).2.1]
    exact h4 j h6 h7
  · obtain ⟨b1, b2, b3⟩ := h5 j h6 h7
    have q := hj j h6 h7 b1 b2
    refine ⟨?_, q.1, jq_pt b3 b1 c q.2.2.2 q.2.2.1 (fun b => hb j b h6 h7)⟩
    rw [(c.1.2 _ (by rw [b1]; decide)).1]; exact b1
theorem desk_fr (h : A_desk e0 d g S) (hfr : dFr S') (hF : FD S S') (h1 : g' 9 1 = g 9 1) (h33 : g' 9 33 = g 9 33) (h0 : ∀ i, i < g 9 1 → g' 0 i = g 0 i) (h2 : g' 2 = g 2) (h14 : ∀ i, g' 14 i = g 14 i) (hl : ∀ a, dK S a ≠ 0 → dI S' 2 a = dI S 2 a ∧ dP S' 1 a = dP S 1 a ∧ dY S' a = dY S a) : A_desk e0 d g' S' := by
  unfold A_desk at *
  obtain ⟨a1, a2, a3, a4, a5, a6, a7, a8, a9, a10⟩ := h
  have hp := hF.2 d (by rw [a2]; decide)
  have hq := hF.2 e0 (by rw [a3]; decide)
  rw [h1, h33, h2, h14 2, h14 3, h14 4, h14 5, hp.1, hq.1, hq.2.1, (hp.2.2.2 1100 rfl).2, (hp.2.2.2 1101 rfl).2]
  have key : ∀ tl ed n (f f' : Nat → Nat), (∀ i, i < n → f' i = f i) → AL S e0 tl ed n f → AL S' e0 tl ed n f' := by
    intro tl ed n f f' hf ha
    unfold AL at *
    obtain ⟨b1, b2, b3, b4, b5, b6, b7, b8⟩ := ha
    have t1 := hl tl (by rw [b1]; decide)
    have t2 := hl ed (by rw [b3]; decide)
    have t3 := hF.2 tl (by rw [b1]; decide)
    have t4 := hF.2 ed (by rw [b3]; decide)
    rw [t3.1, t1.1, t1.2.1, t4.1, t4.2.1, t2.2.2]
    exact ⟨b1, b2, b3, b4, b5, b6, b7, fun i hi => by rw [hf i hi]; exact b8 i hi⟩
  exact ⟨hfr, a2, a3, a4, a5, a6, a7, key _ _ _ _ _ h0 a8, key _ _ _ _ _ (fun _ _ => rfl) a9, a10⟩
theorem Inv_same (hI : Inv e0 d t x g w S M) (h : Same S S') : Inv e0 d t x g w S' M ∧ CF g S M g S' M := by
  have c : CF g S M g S' M := ⟨FD_same h, GE_refl, FM_refl, fun _ _ _ => rfl⟩
  refine ⟨?_, c⟩
  have hI0 := hI
  obtain ⟨i1, i2, i3, i4, i5, i6, i7, i8, i9, i10, i11, i12⟩ := hI
  obtain ⟨s1, s2, s3⟩ := h
  have hd : dK S d ≠ 0 := by rw [i3.2.1]; decide
  refine Inv_mk hI0 c i1 i2 ?_ ⟨fun o ho => ?_, i6.2⟩ (fun r hr => ?_) (fun k hk => ?_) ⟨fun o ho => ?_, i10.2⟩ ?_
  · exact desk_fr i3 s2 c.1 rfl rfl (fun _ _ => rfl) rfl (fun _ => rfl) (fun a ha => ⟨((s3 a ha).2.2.2.2 2).1, ((s3 a ha).2.2.2.2 1).2, (s3 a ha).2.2.2.1⟩)
  · refine T_pt i6 ho c (fun h2 => ?_)
    obtain ⟨-, -, -, ht⟩ := i6.1 o ho
    have p := s3 (g 0 o) (by have := tk_K ht; omega)
    rw [(p.2.2.2.2 603).1, (p.2.2.2.2 604).1, (p.2.2.2.2 605).1]
    unfold tk at ht; grind
  · obtain ⟨k1, k2, k3, k4, -⟩ := i7 r hr
    refine R_pt i7 hr c ⟨?_, k4⟩ k2
    rw [((s3 _ (by rw [k1]; decide)).2.2.2.2 701).1]; exact k3
  · exact K_pt i9 hk c (fun h => h)
  · refine W_pt i10 i9 ho c rfl (fun h2 => ?_)
    obtain ⟨-, -, -, ht⟩ := i6.1 o ho
    have p := s3 (g 0 o) (by have := tk_K ht; omega)
    refine ⟨rfl, (p.2.2.2.2 607).2, (p.2.2.2.2 608).2, fun k hk hk2 _ => ⟨rfl, ?_, rfl⟩⟩
    have p := s3 (g 3 k) (by rw [(i9 k hk2).1]; decide)
    exact (p.2.2.2.2 407).2
  · have p := s3 d hd
    refine Q_fr i11 c rfl rfl ⟨(p.2.2.2.2 1108).1, (p.2.2.2.2 1106).2, (p.2.2.2.2 1107).2⟩ (fun j h1 h2 h3 h4 => ?_) (fun j b _ _ _ h1 _ => ⟨((s3 b (by rw [h1]; decide)).2.2.2.2 701).1, rfl⟩)
    have p := s3 (g 6 j) (by rw [h3]; decide)
    exact ⟨h4, (p.2.2.2.2 407).2, ⟨(p.2.2.2.2 405).1, (p.2.2.2.2 406).1⟩, rfl, rfl, rfl, rfl, rfl, rfl⟩
/-- a record is done -/
theorem P_done {r : Nat} (hI : Inv e0 d t x g w S M) (hr : r < g 9 15) (h0 : M 14 r = 0) : Inv e0 d t (x + 1) g w (sI S 701 (g 1 r) 1) (mput M 14 r 1) ∧ CF g S M g (sI S 701 (g 1 r) 1) (mput M 14 r 1) := by
  have c : CF g S M g (sI S 701 (g 1 r) 1) (mput M 14 r 1) := ⟨FD_sI rfl, GE_refl, FM_put (by omega) (by omega) (by omega) (by omega), fun _ _ _ => rfl⟩
  refine ⟨?_, c⟩
  have hI0 := hI
  obtain ⟨i1, i2, i3, i4, i5, i6, i7, i8, i9, i10, i11, i12⟩ := hI
  have hd : dK S d ≠ 0 := by rw [i3.2.1]; decide
  obtain ⟨r1, r2, r3, r4, -⟩ := i7 r hr
  refine Inv_mk hI0 c ?_ ?_ ?_ ⟨fun o ho => ?_, fun o ho => ?_⟩ (fun k hk => ?_) (fun k hk => ?_) ⟨fun o ho => ?_, i10.2⟩ ?_
  · unfold A_cnt at *; simp only [r_m]; simpa using i1
  · unfold A_bd at *
    have hs := sumN_upd (f := un14 M) (h := un14 (mput M 14 r 1)) (j := r) hr (fun i _ hne => by unfold un14; simp [r_m, hne])
    have e1 : un14 M r = 1 := by unfold un14; rw [if_pos h0]
    have e2 : un14 (mput M 14 r 1) r = 0 := by unfold un14; simp [r_m]
    omega
  · exact desk_fr i3 i3.1 c.1 rfl rfl (fun _ _ => rfl) rfl (fun _ => rfl) (fun a ha => by simp only [r_KI, r_LI, r_PI, r_XI, r_YI, r_nI, r_II, r_KP, r_LP, r_IP, r_XP, r_YP, r_nP, r_PP, r_KX, r_LX, r_IX, r_PX, r_YX, r_nX, r_XX, r_KY, r_LY, r_IY, r_PY, r_XY, r_nY, r_YY, r_KO, r_LO, r_IO, r_PO, r_XO, r_YO, r_nO, r_KA, r_LA, r_IA, r_PA, r_XA, r_YA, r_nA, r_KB, r_LB, r_IB, r_PB, r_XB, r_YB, r_nB]; simp)
  · refine T_pt i6 ho c (fun h2 => ?_)
    obtain ⟨-, -, -, ht⟩ := i6.1 o ho
    simp only [r_KI, r_LI, r_PI, r_XI, r_YI, r_nI, r_II, r_KP, r_LP, r_IP, r_XP, r_YP, r_nP, r_PP, r_KX, r_LX, r_IX, r_PX, r_YX, r_nX, r_XX, r_KY, r_LY, r_IY, r_PY, r_XY, r_nY, r_YY, r_KO, r_LO, r_IO, r_PO, r_XO, r_YO, r_nO, r_KA, r_LA, r_IA, r_PA, r_XA, r_YA, r_nA, r_KB, r_LB, r_IB, r_PB, r_XB, r_YB, r_nB, r_m]
    unfold tk at ht; simp; grind
  · simp only [r_m]; simpa using i6.2 o ho
  · obtain ⟨k1, k2, k3, k4, -⟩ := i7 k hk
    refine R_pt i7 hk c ?_ k2
    simp only [r_KI, r_LI, r_PI, r_XI, r_YI, r_nI, r_II, r_KP, r_LP, r_IP, r_XP, r_YP, r_nP, r_PP, r_KX, r_LX, r_IX, r_PX, r_YX, r_nX, r_XX, r_KY, r_LY, r_IY, r_PY, r_XY, r_nY, r_YY, r_KO, r_LO, r_IO, r_PO, r_XO, r_YO, r_nO, r_KA, r_LA, r_IA, r_PA, r_XA, r_YA, r_nA, r_KB, r_LB, r_IB, r_PB, r_XB, r_YB, r_nB, r_m]
    by_cases e : k = r
    · subst e; simp; exact Or.inr rfl
    · have e2 : g 1 k ≠ g 1 r := fun h => e (by rw [← k2, ← r2, h])
      simp [e, e2, k3, k4]
  · exact K_pt i9 hk c (fun h => h)
  · refine W_pt i10 i9 ho c (by simp [r_m]) (fun h2 => ?_)
    simp [r_m, r_KI, r_LI, r_PI, r_XI, r_YI, r_nI, r_II, r_KP, r_LP, r_IP, r_XP, r_YP, r_nP, r_PP, r_KX, r_LX, r_IX, r_PX, r_YX, r_nX, r_XX, r_KY, r_LY, r_IY, r_PY, r_XY, r_nY, r_YY, r_KO, r_LO, r_IO, r_PO, r_XO, r_YO, r_nO, r_KA, r_LA, r_IA, r_PA, r_XA, r_YA, r_nA, r_KB, r_LB, r_IB, r_PB, r_XB, r_YB, r_nB]
  · refine Q_fr i11 c rfl rfl (by simp [r_KI, r_LI, r_PI, r_XI, r_YI, r_nI, r_II, r_KP, r_LP, r_IP, r_XP, r_YP, r_nP, r_PP, r_KX, r_LX, r_IX, r_PX, r_YX, r_nX, r_XX, r_KY, r_LY, r_IY, r_PY, r_XY, r_nY, r_YY, r_KO, r_LO, r_IO, r_PO, r_XO, r_YO, r_nO, r_KA, r_LA, r_IA, r_PA, r_XA, r_YA, r_nA, r_KB, r_LB, r_IB, r_PB, r_XB, r_YB, r_nB]) (fun j h1 h2 h3 h4 => ?_) (fun j b _ _ _ h1 h2 => ?_)
    · simp [r_KI, r_LI, r_PI, r_XI, r_YI, r_nI, r_II, r_KP, r_LP, r_IP, r_XP, r_YP, r_nP, r_PP, r_KX, r_LX, r_IX, r_PX, r_YX, r_nX, r_XX, r_KY, r_LY, r_IY, r_PY, r_XY, r_nY, r_YY, r_KO, r_LO, r_IO, r_PO, r_XO, r_YO, r_nO, r_KA, r_LA, r_IA, r_PA, r_XA, r_YA, r_nA, r_KB, r_LB, r_IB, r_PB, r_XB, r_YB, r_nB, r_m, h4]
    · have : b ≠ g 1 r := by
        rintro rfl
        rw [r2] at h2
        unfold A_bd at i2; omega
      simp [r_KI, r_LI, r_PI, r_XI, r_YI, r_nI, r_II, r_KP, r_LP, r_IP, r_XP, r_YP, r_nP, r_PP, r_KX, r_LX, r_IX, r_PX, r_YX, r_nX, r_XX, r_KY, r_LY, r_IY, r_PY, r_XY, r_nY, r_YY, r_KO, r_LO, r_IO, r_PO, r_XO, r_YO, r_nO, r_KA, r_LA, r_IA, r_PA, r_XA, r_YA, r_nA, r_KB, r_LB, r_IB, r_PB, r_XB, r_YB, r_nB, this]
end PRM
