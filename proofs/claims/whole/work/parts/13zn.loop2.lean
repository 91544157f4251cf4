section CM2
variable {e0 d t x n c z : Nat} {g g' : GH} {w w' : Nat → List Nat} {S S' S1 S2 S0 : DS} {M M' M1 : MS}
def ka (so : Int32) : Int32 := if so = 0 then 4 else if so = 1 then 5 else 2
def kr2 (so : Int32) : Int32 := if so = 1 then 6 else if so = 2 then 7 else 3
def fa (so : Int32) (e r : Nat) : Int32 := if so = 0 ∨ so = 1 then nI e else nI r
def fr2 (so : Int32) (e r : Nat) : Int32 := if so = 1 ∨ so = 2 then nI e else nI r
theorem s_one {q i r p : Nat} {so : Int32} (hI : Inv e0 d t 0 g w S M) (hso : so = 0 ∨ so = 1 ∨ so = 2 ∨ so = 3) (hq : q < g 9 50) (hi : i < g 16 q) (hk : dK S (g 4 q) = 3) (h200 : dI S 200 (g 4 q) = so) (h202 : dP S 202 (g 4 q) = some (g 1 r)) (hr : r < g 9 15) (hp : p < g 9 1) (hp2 : M 2 p = 0) (hO : g 9 1 + 1 ≤ 3000) (hw : so ≠ 3 → M 41 (g 15 q + i) = 0 ∧ g 8 (g 15 q + i) = g 9 22) (hn : 4000 < n) : ∃ a1 S1 z1 a2 S2 z2 r3 S3 C3 Z3, q_X11_onFulfilled e0 S d (some (g 4 q)) (nI i) = some (a1, S1, 1, z1) ∧ dK S1 d = 12 ∧ q_X11_onRejected e0 S1 d (some (g 4 q)) (nI i) = some (a2, S2, 1, z2) ∧ dK S2 d = 12 ∧ z1 ≤ 4 ∧ z2 ≤ 4 ∧ q_X11_derive e0 S2 d (some (g 0 p)) a1 a2 = some (r3, S3, C3, Z3) ∧ RM (q_then n M (nI p) (ka so) (fa so (g 15 q + i) r) (kr2 so) (fr2 so (g 15 q + i) r)) (fun _ M' => ∃ g' w', Inv e0 d t 0 g' w' S3 M' ∧ CF g S M g' S3 M' ∧ Cs 20 g S g' S3 C3 Z3 ∧ g' 9 1 = g 9 1 + 1) := by
  have hN := Inv_nums hI
  have hfr := hI.2.2.1.1
  have hk0 : dK S (g 4 q) ≠ 0 := by rw [hk]; decide
  obtain ⟨k1', k2', k3', -⟩ := hI.2.2.2.2.2.2.2.2.2.2.2 q hq
  have eF := onF_run (i := i) hI hso hk h200 h202
  obtain ⟨S3, sS, sL, eS, f1, f2⟩ := two_fn hI hso hq hi hk h200 hr hfr
  have hSa : Same S (if so = 0 ∨ so = 1 then mkE S (g 4 q) i 0 else mkS S 4 (some (g 1 r))) := by
    split
    · exact mkE_same hfr
    · exact mkS_same hfr
  generalize (if so = 0 ∨ so = 1 then mkE S (g 4 q) i 0 else mkS S 4 (some (g 1 r))) = Sa at *
  have p1 := hSa.2.2 _ hk0
  obtain ⟨hIa, -⟩ := Inv_same hI hSa
  have eR := onR_run (e0 := e0) (d := d) (S := Sa) (i := i) (g := g) hso (by rw [p1.1]; exact hk) (by rw [(p1.2.2.2.2 200).1]; exact h200) (by rw [(p1.2.2.2.2 202).2]; exact h202)
  rw [eS] at eR
  obtain ⟨hI3, c3⟩ := Inv_same hI sS
  have hwt : wt g M (g 9 22) (ka so) (fa so (g 15 q + i) r) ∧ wt g M (g 9 22) (kr2 so) (fr2 so (g 15 q + i) r) := by
    have key : so ≠ 3 → ∀ e', e' < 100000 → nI (g 15 q + i) = nI e' → M 41 e' = 0 ∧ g 8 e' = g 9 22 := by
      intro h3 e' he' hh
      have : g 15 q + i = e' := nI_inj (by omega) (by omega) hh
      rw [← this]; exact hw h3
    unfold ka fa kr2 fr2
    rcases hso with rfl | rfl | rfl | rfl
    · exact ⟨fun _ e' he' hh => key (by decide) e' he' hh, wt_no (by decide)⟩
    · exact ⟨fun _ e' he' hh => key (by decide) e' he' hh, fun _ e' he' hh => key (by decide) e' he' hh⟩
    · exact ⟨wt_no (by decide), fun _ e' he' hh => key (by decide) e' he' hh⟩
    · exact ⟨wt_no (by decide), wt_no (by decide)⟩
  obtain ⟨r7, S7, C7, Z7, eD7, -, r7', M7, eM7, -, g7, w7, hI7, c7, cs7, x1, x2, x3⟩ := s_then (n := n) (p := p) (k1 := ka so) (f1 := fa so (g 15 q + i) r) (k2 := kr2 so) (f2 := fr2 so (g 15 q + i) r) hI3 hp hp2 hO f1 f2 hwt hn
  refine ⟨_, _, _, _, _, _, r7, S7, C7, Z7, eF, hIa.2.2.1.2.1, eR, hI3.2.2.1.2.1, ?_, ?_, eD7, r7', M7, eM7, g7, w7, hI7, CF_trans c3 c7, ?_, x1⟩
  · split <;> omega
  · split <;> omega
  · exact Cs_le (Cs_trans (Cs_id sL) cs7) (by omega) (by omega)
def CI (e0 d t b q r N V Om pr i : Nat) (so : Int32) (g : GH) (w : Nat → List Nat) (S : DS) (M : MS) : Prop := Inv e0 d t 0 g w S M ∧ g 14 1 = q + 1 ∧ q < g 9 50 ∧ dK S (g 4 q) = 3 ∧ dI S 200 (g 4 q) = so ∧ g 16 q = N ∧ g 15 q = V ∧ r < g 9 15 ∧ dP S 202 (g 4 q) = some (g 1 r) ∧ (∀ i', i' < N → M 41 (V + i') = 0) ∧ (∀ i', i ≤ i' → i' < N → g 8 (V + i') = 100000 ∧ dX S b i' = M 39 (V + i') ∧ ∀ o, g 9 1 ≤ o → o < 2 ^ 30 → M 39 (V + i') ≠ -2 - nI o) ∧ dK S b = 20 ∧ dL S b = N ∧ (so ≠ 3 → M 45 q = nI (i + 1)) ∧ g 9 1 ≤ Om ∧ M 0 0 = 0 ∧ M 13 r = nI pr
section
variable {b q r N V Om Om' pr i : Nat} {so : Int32}
theorem CI_cf (h : CI e0 d t b q r N V Om pr i so g w S M) (c : CF g S M g' S' M') (hI : Inv e0 d t 0 g' w' S' M') (hO : g' 9 1 ≤ Om') : CI e0 d t b q r N V Om' pr i so g' w' S' M' := by
  obtain ⟨h0, h1, h2, h3, h4, h5, h6, h7, h8, h9, h10, h11, h12, h13, h14, h15, h16⟩ := h
  have hG := c.2.1
  unfold GE at hG
  have e8 : g' 8 = g 8 := by clear h0 hI c; grind
  have e15 : g' 15 = g 15 := by clear h0 hI c; grind
  have e16 : g' 16 = g 16 := by clear h0 hI c; grind
  have e1 : g 9 1 ≤ g' 9 1 := hG.1
  have k3 : dK S (g 4 q) ≠ 0 := by rw [h3]; decide
  have kb : dK S b ≠ 0 := by rw [h11]; decide
  unfold CI
  rw [cf_14 c (by decide), cf_50 c, cf_4 c, e15, e16, e8, cf_K c k3, cf_I c k3 rfl, cf_P c k3 rfl, cf_1 c h7, cf_K c kb, (c.1.2 b kb).2.1, (c.1.2 b kb).2.2.1, c.2.2.1.1 41 (by omega), c.2.2.1.1 39 (by omega), c.2.2.1.1 45 (by omega), c.2.2.1.2.2.1 r h7, cf_M0 c]
  refine ⟨hI, h1, h2, h3, h4, h5, h6, Nat.lt_of_lt_of_le h7 c.2.1.2.1, h8, h9, fun i' q1 q2 => ?_, h11, h12, h13, hO, h15, h16⟩
  obtain ⟨u1, u2, u3⟩ := h10 i' q1 q2
  exact ⟨u1, u2, fun o ho => u3 o (by omega)⟩
theorem CI_8 (h : CI e0 d t b q r N V Om pr i so g w S M) (hi : i < N) (hso : so ≠ 3) : CI e0 d t b q r N V Om pr (i + 1) so (gput g 8 (V + i) (g 9 22)) w S (mput (mput M 39 (V + i) (-1)) 45 q (M 45 q + 1)) ∧ mput (mput M 39 (V + i) (-1)) 45 q (M 45 q + 1) 41 (V + i) = 0 ∧ gput g 8 (V + i) (g 9 22) 8 (V + i) = g 9 22 := by
  obtain ⟨h0, h1, h2, h3, h4, h5, h6, h7, h8, h9, h10, h11, h12, h13, h14, h15, h16⟩ := h
  have hI := P_8 (v := M 45 q + 1) (k := g 9 22) h0 h2 h3 (by rw [h5]; exact hi) (by rw [h6]) (h9 i hi) (h10 i (Nat.le_refl _) hi).1 h1 rfl rfl
  refine ⟨⟨hI, ?_, ?_, ?_, ?_, ?_, ?_, ?_, ?_, fun i' q1 => ?_, fun i' q1 q2 => ?_, h11, h12, fun _ => ?_, ?_, ?_, ?_⟩, ?_, ?_⟩
  · rw [r_gf (by omega)]; exact h1
  · rw [r_gf (by omega)]; exact h2
  · rw [r_gf (by omega)]; exact h3
  · rw [r_gf (by omega)]; exact h4
  · rw [r_gf (by omega)]; exact h5
  · rw [r_gf (by omega)]; exact h6
  · rw [r_gf (by omega)]; exact h7
  · rw [r_gf (by omega), r_gf (by omega)]; exact h8
  · rw [r_m, if_neg (by omega), r_m, if_neg (by omega)]; exact h9 i' q1
  · obtain ⟨u1, u2, u3⟩ := h10 i' (by omega) q2
    rw [r_g, if_neg (by omega), r_m, if_neg (by omega), r_m, if_neg (by omega), r_gf (by omega)]
    exact ⟨u1, u2, u3⟩
  · rw [r_m, if_pos ⟨rfl, rfl⟩, h13 hso, nI_1]
  · rw [r_gf (by omega)]; exact h14
  · rw [r_m, if_neg (by omega), r_m, if_neg (by omega)]; exact h15
  · rw [r_m, if_neg (by omega), r_m, if_neg (by omega)]; exact h16
  · rw [r_m, if_neg (by omega), r_m, if_neg (by omega)]; exact h9 i hi
  · simp [r_g]
theorem s_comb (hso : so = 0 ∨ so = 1 ∨ so = 2 ∨ so = 3) (hV : V + N < 20000) (hN2 : N ≤ 200) (hpr : pr < 3000) : ∀ (m n i Om : Nat) (g : GH) (w : Nat → List Nat) (S : DS) (M : MS), N = i + m → m + 4002 ≤ n → Om + 2 * m + 3 ≤ 3000 → CI e0 d t b q r N V Om pr i so g w S M → RD (q_X11_combine_46 e0 d n S so (some b) (some (g 1 r)) (some (g 4 q)) (nI i)) (fun kr S' C Z => RM (q_combine_69 n M so (nI r) (nI q) (nI i)) (fun r' M' => kr.1 = 0 ∧ kr.2 = r' ∧ M' 0 0 = 0 ∧ ∃ g' w', Inv e0 d t 0 g' w' S' M' ∧ g' 14 1 = 0 ∧ Cs 0 g S g' S' C Z))
  | _, 0, _, _, _, _, _, _, _, hn, _, _ => by omega
  | 0, n + 1, i, Om, g, w, S, M, hi, hn, hOm, hC => by
    obtain ⟨h0, h1, h2, h3, h4, h5, h6, h7, h8, h9, h10, h11, h12, h13, h14, h15, h16⟩ := hC
    have hN := Inv_nums h0
    have hd := h0.2.2.1.2.1
    have e : i = N := by omega
    subst e
    have hiq : inb (nI q) 3000 := inb_nI (by omega) (by omega)
    have cq : (nI q).toNatClampNeg = q := nI_clamp (by omega)
    have hir : inb (nI r) 12000 := inb_nI (by omega) (by omega)
    have cr : (nI r).toNatClampNeg = r := nI_clamp (by omega)
    obtain ⟨k1, k2, k3, k4, k5, k6, k7, k8, r', k9, k10, k11⟩ := h0.2.2.2.2.2.2.2.2.2.2.2 q h2
    rw [h5] at k2
    have hr' : r' = r := by
      rcases k11 with ⟨-, -, a3, -⟩ | ⟨a1, -⟩
      · rw [h8] at a3
        have e1 := (h0.2.2.2.2.2.2.1 r h7).2.1
        have e2 := (h0.2.2.2.2.2.2.1 r' k9).2.1
        rw [Option.some.inj a3] at e1; omega
      · rw [h3] at a1; cases a1
    have h203 : so ≠ 3 → dI S 203 (g 4 q) = nI i := by
      intro hs
      rcases k11 with ⟨-, -, -, -, -, a6⟩ | ⟨a1, -⟩
      · rw [(a6 (by rw [h4]; exact hs)).1]
        congr 1
        rw [h5, h6]
        have : ∀ m, m ≤ i → sumN (un41 M V) m = m := by
          intro m
          induction m with
          | zero => intro _; rfl
          | succ m ih =>
            intro hm
            show sumN (un41 M V) m + un41 M V m = _
            rw [ih (by omega)]
            unfold un41
            rw [if_pos (h9 m (by omega))]
        exact this i (Nat.le_refl _)
      · rw [h3] at a1; cases a1
    have hI2 := P_endg (v := M 45 q - 1) h0 h3 h1 (fun hs => by
      rw [h4] at hs
      rw [h13 hs, h203 hs, nI_pred]) rfl rfl
    have hg1 : ∀ k, k ≠ 14 → gput g 14 1 0 k = g k := fun k hk => r_gf hk
    have hop : gput g 14 1 0 14 1 = 0 := by simp [r_g]
    have hcs : Cs 0 g S (gput g 14 1 0) S 0 0 := by
      unfold Cs pc pz
      rw [hg1 9 (by omega)]
      simp [r_g]
    have m13 : mput M 45 q (M 45 q - 1) 13 r = nI pr := by rw [r_m, if_neg (by omega)]; exact h16
    have m0 : mput M 45 q (M 45 q - 1) 0 0 = 0 := by rw [r_m, if_neg (by omega)]; exact h15
    have m45 : mput M 45 q (M 45 q - 1) 45 q = M 45 q - 1 := by rw [r_m, if_pos ⟨rfl, rfl⟩]
    -- the answer
    have hfin : ∀ {g9 w9 S9 M9 C9 Z9}, Inv e0 d t 0 g9 w9 S9 M9 → CF (gput g 14 1 0) S (mput M 45 q (M 45 q - 1)) g9 S9 M9 → Cs 0 (gput g 14 1 0) S g9 S9 C9 Z9 → (dK S9 (g 1 r) = 8 ∧ ∃ bb, dP S9 700 (g 1 r) = some bb ∧ dK S9 bb = 7 ∧ dI S9 1000 bb = -2 - nI pr) ∧ M9 13 r = nI pr ∧ M9 0 0 = 0 ∧ g9 14 1 = 0 ∧ Cs 0 g S g9 S9 C9 Z9 := by
      intro g9 w9 S9 M9 C9 Z9 a1 a2 a3
      have b13 : M9 13 r = nI pr := by rw [a2.2.2.1.2.2.1 r (by rw [hg1 9 (by omega)]; exact h7)]; exact m13
      obtain ⟨u1, u2, u3, u4, u5⟩ := rec_at a1 (r := r) (p := pr) (by have := a2.2.1.2.1; rw [hg1 9 (by omega)] at this; omega) b13 hpr
      have eg : g9 1 r = g 1 r := by rw [cf_1 a2 (by rw [hg1 9 (by omega)]; exact h7), hg1 1 (by omega)]
      rw [eg] at u1 u2
      exact ⟨⟨u1, _, u2, u3, u4⟩, b13, by rw [cf_M0 a2]; exact m0, by rw [cf_14 a2 (by decide)]; exact hop, Cs_le (Cs_trans hcs a3) (by omega) (by omega)⟩
    obtain ⟨⟨u1, bb, u2, u3, u4⟩, v1, v2, v3, v4⟩ := hfin hI2 (CF_refl _ _ _) (Cs_id rfl)
    unfold q_X11_combine_46
    refine w_bnd rfl <| w_chk (Or.inl h11) ?_
    rw [h12]
    refine w_ip (nI_le (Nat.le_refl _) (by omega)) ?_
    have hMh : ∀ Q, RM (if 3 ≤ so then some (-2 - nI pr, mput M 45 q (M 45 q - 1)) else (if M 45 q - 1 = 0 then if so = 2 then bnd (q_finish n (mput M 45 q (M 45 q - 1)) (nI q) 1) (fun M14 => chk (inb (nI r) 12000) (some (-2 - (M14 13 r), M14))) else bnd (q_finish n (mput M 45 q (M 45 q - 1)) (nI q) 0) (fun M13 => chk (inb (nI r) 12000) (some (-2 - (M13 13 r), M13))) else some (-2 - nI pr, mput M 45 q (M 45 q - 1)))) Q → RM (q_combine_69 (n + 1) M so (nI r) (nI q) (nI i)) Q := by
      intro Q hQ
      unfold q_combine_69
      rw [cq, cr, k2]
      refine m_chk hiq <| m_ip (nI_le (Nat.le_refl _) (by omega)) <| m_chk hiq <| m_chk hiq <| m_lt ?_
      rw [m13, m45]
      by_cases h3' : 3 ≤ so
      · rw [if_pos h3'] at hQ
        exact m_ip h3' <| m_chk hir hQ
      · rw [if_neg h3'] at hQ
        refine m_in h3' <| m_chk hiq ?_
        by_cases hz : M 45 q - 1 = 0
        · rw [if_pos hz] at hQ ⊢; exact hQ
        · rw [if_neg hz] at hQ
          exact m_in hz <| m_chk hir hQ
    have hstay : RD (bnd (some (g 1 r)) (fun b25 => chk (dK S b25 = 8) (bnd (dP S 700 b25) (fun b27 => chk (dK S b27 = 7) (some (((0 : Nat), dI S 1000 b27), S, 0, 0)))))) (fun kr S' C Z => RM (some (-2 - nI pr, mput M 45 q (M 45 q - 1))) (fun r' M' => kr.1 = 0 ∧ kr.2 = r' ∧ M' 0 0 = 0 ∧ ∃ g' w', Inv e0 d t 0 g' w' S' M' ∧ g' 14 1 = 0 ∧ Cs 0 g S g' S' C Z)) := by
      refine w_bnd rfl <| w_chk u1 <| w_bnd u2 <| w_chk u3 <| w_some <| m_some ⟨rfl, u4, v2, _, w, hI2, v3, v4⟩
    by_cases hN0 : i = 0
    · subst hN0
      refine w_ip nI_0 ?_
      by_cases h3s : so = 3
      · refine w_ip h3s ?_
        refine w_mono hstay ?_
        intro kr S' C Z hh
        exact hMh _ (m_ip (by rw [h3s]; decide) hh)
      · have h3' : ¬ 3 ≤ so := by rcases hso with rfl | rfl | rfl | rfl; decide; decide; decide; exact absurd rfl h3s
        have hz : M 45 q - 1 = 0 := by rw [h13 h3s, nI_pred]; exact nI_0
        obtain ⟨r3, S3, C3, Z3, eD3, M3, eM3, g3, w3, hI3, c3, cs3, y1⟩ := s_finish (n := n) (q := q) (ag := if so = 2 then 1 else 0) hI2 (by rw [hg1 9 (by omega)]; exact h2) (by rw [hg1 4 (by omega)]; exact h3) (by rw [hg1 16 (by omega), h5]; intro i' hi'; omega) (by rw [hg1 4 (by omega), h4]) (by rw [hg1 9 (by omega)]; omega) (by omega)
        rw [hg1 4 (by omega)] at eD3
        obtain ⟨⟨u1, bb, u2, u3, u4⟩, v1, v2, v3, v4⟩ := hfin hI3 c3 cs3
        refine w_in h3s <| w_chk hd <| w_bk eD3 <| w_bnd rfl <| w_chk u1 <| w_bnd u2 <| w_chk u3 <| w_some ?_
        refine hMh _ (m_in h3' <| m_ip hz ?_)
        have hpost : RM (chk (inb (nI r) 12000) (some (-2 - (M3 13 r), M3))) (fun r' M' => ((0, dI S3 1000 bb) : Nat × Int32).1 = 0 ∧ ((0, dI S3 1000 bb) : Nat × Int32).2 = r' ∧ M' 0 0 = 0 ∧ ∃ g' w', Inv e0 d t 0 g' w' S3 M' ∧ g' 14 1 = 0 ∧ Cs 0 g S g' S3 (C3 + 0) (Z3 + 0)) := by
          rw [v1]
          exact m_chk hir <| m_some ⟨rfl, u4, v2, g3, w3, hI3, v3, v4⟩
        by_cases h2s : so = 2
        · rw [if_pos h2s] at eM3
          refine m_ip h2s <| m_b1 eM3 hpost
        · rw [if_neg h2s] at eM3
          refine m_in h2s <| m_b1 eM3 hpost
    · refine w_in (nI_ne0 (by omega) (by omega)) ?_
      refine w_mono hstay ?_
      intro kr S' C Z hh
      refine hMh _ ?_
      by_cases h3' : 3 ≤ so
      · exact m_ip h3' hh
      · have h3s : so ≠ 3 := by rintro rfl; exact h3' (by decide)
        refine m_in h3' <| m_in (by rw [h13 h3s, nI_pred]; exact nI_ne0 (by omega) (by omega)) hh
  | m + 1, n + 1, i, Om, g, w, S, M, hi, hn, hOm, hC => by
    have hC0 := hC
    obtain ⟨h0, h1, h2, h3, h4, h5, h6, h7, h8, h9, h10, h11, h12, h13, h14, h15, h16⟩ := hC
    have hN := Inv_nums h0
    have hd := h0.2.2.1.2.1
    have hiN : i < N := by omega
    have hiq : inb (nI q) 3000 := inb_nI (by omega) (by omega)
    have cq : (nI q).toNatClampNeg = q := nI_clamp (by omega)
    obtain ⟨k1, k2, -⟩ := h0.2.2.2.2.2.2.2.2.2.2.2 q h2
    rw [h5] at k2
    rw [h6] at k1
    have hie : inb (nI (V + i)) 20000 := inb_nI (by omega) (by omega)
    have ce : (nI (V + i)).toNatClampNeg = V + i := nI_clamp (by omega)
    obtain ⟨u1, u2, u3⟩ := h10 i (Nat.le_refl _) hiN
    obtain ⟨r1, S1, C1, Z1, eD1, r1', M1, eM1, g1, w1, p, rfl, rfl, hp, hp2, hI1, c1, cs1, o1, o2⟩ := s_pfor2 (n := n) (v := M 39 (V + i)) h0 (by omega) (u3 _ (Nat.le_refl _) (by omega)) (by omega)
    have hC1 := CI_cf (Om' := Om + 1) hC0 c1 hI1 (by omega)
    unfold q_X11_combine_46
    refine w_bnd rfl <| w_chk (Or.inl h11) ?_
    rw [h12]
    refine w_in (nI_ge hiN (by omega)) <| w_chk h11 <| w_chk (inb_nI hiN (by omega)) <| w_chk hd ?_
    rw [nI_clamp (by omega), u2, nI_1]
    refine w_bk eD1 <| w_chk hI1.2.2.1.2.1 ?_
    -- the state in which the functions are made
    have hpre : ∃ g2 M2, CI e0 d t b q r N V (Om + 1) pr (i + 1) so g2 w1 S1 M2 ∧ (so ≠ 3 → M2 41 (V + i) = 0 ∧ g2 8 (V + i) = g2 9 22) ∧ (∀ k, k ≠ 8 → g2 k = g1 k) ∧ M2 2 p = 0 ∧ Cs 0 g1 S1 g2 S1 0 0 ∧ (∀ Q, RM (bnd2 (q_then n M2 (nI p) (ka so) (fa so (V + i) r) (kr2 so) (fr2 so (V + i) r)) (fun _ M9 => q_combine_69 n M9 so (nI r) (nI q) (nI (i + 1)))) Q → RM (q_combine_69 (n + 1) M so (nI r) (nI q) (nI i)) Q) := by
      by_cases h3s : so = 3
      · refine ⟨g1, M1, ?_, fun h => absurd h3s h, fun _ _ => rfl, hp2, Cs_id rfl, fun Q hQ => ?_⟩
        · obtain ⟨a0, a1, a2, a3, a4, a5, a6, a7, a8, a9, a10, a11, a12, a13, a14, a15, a16⟩ := hC1
          exact ⟨a0, a1, a2, a3, a4, a5, a6, a7, a8, a9, fun i' q1 q2 => a10 i' (by omega) q2, a11, a12, fun h => absurd h3s h, a14, a15, a16⟩
        · unfold q_combine_69
          rw [cq, k2, k1, nI_add, ce, nI_1]
          refine m_chk hiq <| m_in (nI_ge hiN (by omega)) <| m_chk hiq <| m_chk hie <| m_b2 eM1 ?_
          subst h3s
          exact m_ip (by decide) <| m_in (by decide) <| m_in (by decide) <| m_in (by decide) hQ
      · obtain ⟨hC2, y1, y2⟩ := CI_8 hC1 hiN h3s
        have e45 : mput M1 39 (V + i) (-1) 45 q = M1 45 q := by rw [r_m, if_neg (by omega)]
        refine ⟨_, _, hC2, fun _ => ⟨y1, ?_⟩, fun k hk => r_gf hk, ?_, ?_, fun Q hQ => ?_⟩
        · rw [y2, r_gf (by omega)]
        · rw [r_m, if_neg (by omega), r_m, if_neg (by omega)]; exact hp2
        · unfold Cs pc pz
          rw [r_gf (by omega), r_gf (by omega)]
          omega
        · have h3' : ¬ 3 ≤ so := by rcases hso with rfl | rfl | rfl | rfl; decide; decide; decide; exact absurd rfl h3s
          unfold q_combine_69
          rw [cq, k2, k1, nI_add, ce, nI_1]
          refine m_chk hiq <| m_in (nI_ge hiN (by omega)) <| m_chk hiq <| m_chk hie <| m_b2 eM1 <| m_in h3' <| m_chk hie <| m_lt <| m_chk hiq <| m_chk hiq <| m_lt ?_
          rw [e45]
          rcases hso with rfl | rfl | rfl | rfl
          · exact m_ip rfl hQ
          · exact m_in (by decide) <| m_ip rfl hQ
          · exact m_in (by decide) <| m_in (by decide) <| m_ip rfl hQ
          · exact absurd rfl h3s
    obtain ⟨g2, M2, hC2, hw2, hg2, hp2', hcs2, hMq⟩ := hpre
    have hC2' := hC2
    obtain ⟨a0, a1, a2, a3, a4, a5, a6, a7, a8, a9, a10, a11, a12, a13, a14, a15, a16⟩ := hC2
    obtain ⟨f1, F1, z1, f2, F2, z2, r3, S3, C3, Z3, b1, b2, b3, b4, b5, b6, b7, r4, M4, eM4, g4, w4, hI4, c4, cs4, x1⟩ := s_one (n := n) (p := p) (r := r) (i := i) a0 hso a2 (by rw [a5]; exact hiN) a3 a4 a8 a7 (by rw [hg2 9 (by omega)]; exact hp) hp2' (by omega) (by rw [a6]; exact hw2) (by omega)
    rw [a6] at eM4
    have e0p : g2 0 = g1 0 := hg2 0 (by omega)
    have e4q : g2 4 = g 4 := by rw [hg2 4 (by omega), cf_4 c1]
    have e1r : g4 1 r = g 1 r := by rw [cf_1 c4 a7, hg2 1 (by omega), cf_1 c1 h7]
    rw [e0p] at b7
    rw [e4q] at b1 b3
    refine w_bk b1 <| w_chk b2 <| w_bk b3 <| w_chk b4 <| w_bk b7 ?_
    have hC4 := CI_cf (Om' := Om + 2) hC2' c4 hI4 (by omega)
    have e4q' : g4 4 = g 4 := by rw [cf_4 c4, e4q]
    have hrec := s_comb hso hV hN2 hpr m n (i + 1) (Om + 2) g4 w4 S3 M4 (by omega) (by omega) (by omega) hC4
    rw [e1r, e4q'] at hrec
    refine w_mono hrec ?_
    rintro kr S5 C5 Z5 ⟨r5, M5, eM5, y1, y2, y3, g5, w5, y4, y5, y6⟩
    refine hMq _ (m_b2 eM4 ⟨r5, M5, eM5, y1, y2, y3, g5, w5, y4, y5, ?_⟩)
    exact Cs_le (Cs_trans cs1 (Cs_trans hcs2 (Cs_trans cs4 y6))) (by omega) (by omega)
end
end CM2
