section PR4
variable {e0 d t x : Nat} {g g' : GH} {w w' : Nat → List Nat} {S S' S1 S2 S0 : DS} {M M' M1 : MS}
theorem map_nodup {f : Nat → Nat} : ∀ {l : List Nat}, (∀ a, a ∈ l → ∀ b, b ∈ l → f a = f b → a = b) → l.Nodup → (l.map f).Nodup
  | [], _, _ => List.nodup_nil
  | a :: t, h, hn => by
    obtain ⟨h1, h2⟩ := List.nodup_cons.mp hn
    rw [List.map_cons, List.nodup_cons]
    refine ⟨fun hm => ?_, map_nodup (fun x hx y hy => h x (List.mem_cons_of_mem _ hx) y (List.mem_cons_of_mem _ hy)) h2⟩
    obtain ⟨b, hb, e⟩ := List.mem_map.mp hm
    have := h b (List.mem_cons_of_mem _ hb) a List.mem_cons_self e
    exact h1 (this ▸ hb)
/-- a new reaction: its cell a is new -/
theorem P_rea {a : Nat} (hI : Inv e0 d t x g w S M) (hS : Same S S1) (ha0 : dK S a = 0) (ha : dK S1 a = 5) (hb : g 9 22 + 1 + sumN (g 11) (g 9 50) + g 9 38 ≤ g 9 1 + t) (hM : ∀ k i, ¬ (k = 22 ∧ i = 0) → ¬ (16 ≤ k ∧ k ≤ 21 ∧ i = g 9 22) → M' k i = M k i) (m22 : M' 22 0 = nI (g 9 22 + 1)) (hg : g' = gput (gput (gput (gput g 3 (g 9 22) a) 12 a (g 9 22)) 7 a 0) 9 22 (g 9 22 + 1)) (hjb : jb g' S1 M' (g 9 22) a) : Inv e0 d t (x + 1) g' w S1 M' ∧ CF g S M g' S1 M' := by
  have hqn : ∀ y, dK S y ≠ 0 → y ≠ a := fun y hy e => hy (e ▸ ha0)
  have hG : GE g g' := by
    rw [hg]
    refine GE_trans (GE_trans (GE_trans (GE_put (g := g) ?_ ?_ ?_ ?_ ?_ ?_) (GE_put ?_ ?_ ?_ ?_ ?_ ?_)) (GE_put ?_ ?_ ?_ ?_ ?_ ?_)) (GE_put ?_ ?_ ?_ ?_ ?_ ?_) <;> simp [r_g]
  have hFM : FM g M M' := by
    unfold FM
    refine ⟨fun k hk => funext fun i => hM k i (by omega) (by omega), fun o ho => ?_, fun o ho => ?_, fun o ho => ?_, fun o ho => hM 25 o (by omega) (by omega), funext fun i => hM 0 i (by omega) (by omega)⟩
    · exact ⟨hM 2 o (by omega) (by omega), hM 6 o (by omega) (by omega), hM 8 o (by omega) (by omega), hM 9 o (by omega) (by omega), hM 10 o (by omega) (by omega), hM 11 o (by omega) (by omega), hM 12 o (by omega) (by omega)⟩
    · exact hM 13 o (by omega) (by omega)
    · exact ⟨hM 17 o (by omega) (by omega), hM 18 o (by omega) (by omega), hM 19 o (by omega) (by omega), hM 20 o (by omega) (by omega), hM 21 o (by omega) (by omega)⟩
  have e12 : ∀ y, dK S y ≠ 0 → g' 12 y = g 12 y := fun y hy => by rw [hg]; simp [r_g, hqn y hy]
  have c : CF g S M g' S1 M' := ⟨FD_same hS, hG, hFM, fun y hy _ => e12 y hy⟩
  refine ⟨?_, c⟩
  have hI0 := hI
  obtain ⟨i1, i2, i3, i4, i5, i6, i7, i8, i9, i10, i11, i12⟩ := hI
  have hd : dK S d ≠ 0 := by rw [i3.2.1]; decide
  have e1 : g' 9 1 = g 9 1 := by rw [hg]; simp [r_g]
  have e15 : g' 9 15 = g 9 15 := by rw [hg]; simp [r_g]
  have e22 : g' 9 22 = g 9 22 + 1 := by rw [hg]; simp [r_g]
  have e30 : g' 9 30 = g 9 30 := by rw [hg]; simp [r_g]
  have e6 : g' 6 = g 6 := by rw [hg]; funext i; simp [r_g]
  have e7 : ∀ y, dK S y ≠ 0 → g' 7 y = g 7 y := fun y hy => by rw [hg]; simp [r_g, hqn y hy]
  have e11 : g' 11 = g 11 := by rw [hg]; funext i; simp [r_g]
  have e0' : g' 0 = g 0 := by rw [hg]; funext i; simp [r_g]
  have e14 : g' 14 = g 14 := by rw [hg]; funext i; simp [r_g]
  have e2 : g' 2 = g 2 := by rw [hg]; funext i; simp [r_g]
  have f33 : g' 9 33 = g 9 33 := by rw [hg]; simp [r_g]
  have hcell := hS.2.2
  refine Inv_mk hI0 c ?_ ?_ ?_ ⟨fun o ho => ?_, fun o ho => ?_⟩ (fun r hr => ?_) (fun k hk => ?_) ⟨fun o ho => ?_, fun o ho => i10.2 o (by omega)⟩ ?_
  · unfold A_cnt at *
    rw [hM 1 0, hM 15 0, hM 29 0, hM 30 0, hM 33 0, hM 36 0, hM 38 0, hM 42 0, hM 50 0, m22, hg] <;> simp [r_g]
    obtain ⟨a1, a2, a3, a4⟩ := i1
    exact ⟨a1, a2, a4⟩
  · unfold A_bd at *
    have hu : un14 M' = un14 M := by funext i; unfold un14; rw [hM 14 i (by omega) (by omega)]
    have f36 : g' 9 36 = g 9 36 := by rw [hg]; simp [r_g]
    have f38 : g' 9 38 = g 9 38 := by rw [hg]; simp [r_g]
    have f42 : g' 9 42 = g 9 42 := by rw [hg]; simp [r_g]
    have f50 : g' 9 50 = g 9 50 := by rw [hg]; simp [r_g]
    have f29 : g' 9 29 = g 9 29 := by rw [hg]; simp [r_g]
    rw [e1, e15, e22, e30, e11, f36, f33, f38, f42, f50, f29, hu]
    omega
  · exact desk_fr i3 hS.2.1 c.1 e1 f33 (fun _ _ => by rw [e0']) e2 (fun _ => by rw [e14]) (fun y hy => ⟨((hcell y hy).2.2.2.2 2).1, ((hcell y hy).2.2.2.2 1).2, (hcell y hy).2.2.2.1⟩)
  · have ho : o < g 9 1 := by omega
    have hk := tk_K (i6.1 o ho).2.2.2
    have hz := (hcell (g 0 o) (by omega)).2.2.2.2
    exact T_pt i6 ho c (T_same i6 ho ⟨(hz 603).1, (hz 604).1, (hz 605).1⟩ ⟨hM 3 o (by omega) (by omega), hM 4 o (by omega) (by omega), hM 7 o (by omega) (by omega)⟩)
  · rw [hM 7 o (by omega) (by omega)]; exact i6.2 o (by omega)
  · have hr1 : r < g 9 15 := by omega
    obtain ⟨k1, k2, k3, k4, -⟩ := i7 r hr1
    refine R_pt i7 hr1 c ?_ (by rw [e12 _ (by omega)]; exact k2)
    rw [hM 14 r (by omega) (by omega), ((hcell _ (by omega)).2.2.2.2 701).1]; exact ⟨k3, k4⟩
  · by_cases e : k = g 9 22
    · subst e
      have f3 : g' 3 (g 9 22) = a := by rw [hg]; simp [r_g]
      have f12 : g' 12 a = g 9 22 := by rw [hg]; simp [r_g]
      have f7 : g' 7 a = 0 := by rw [hg]; simp [r_g]
      rw [f3, f12, f7]
      exact ⟨ha, rfl, hjb, fun h => absurd rfl h⟩
    · have hk : k < g 9 22 := by omega
      exact K_pt i9 hk c (by rw [e7 _ (by rw [(i9 k hk).1]; decide)]; exact fun h => h)
  · have ho : o < g 9 1 := by omega
    have hk := tk_K (i6.1 o ho).2.2.2
    have hz := (hcell (g 0 o) (by omega)).2.2.2.2
    refine W_pt i10 i9 ho c (hM 3 o (by omega) (by omega)) (fun h2 => ⟨hM 5 o (by omega) (by omega), (hz 607).2, (hz 608).2, fun k hk hk2 _ => ?_⟩)
    have h5 := (i9 k hk2).1
    exact ⟨hM 16 k (by omega) (by omega), ((hcell _ (by omega)).2.2.2.2 407).2, e7 _ (by omega)⟩
  · have hz := (hcell d hd).2.2.2.2
    refine Q_fr i11 c e30 e6 ⟨(hz 1108).1, (hz 1106).2, (hz 1107).2⟩ (fun j h1 h2 h3 h4 => ?_) (fun j b _ _ _ h1 _ => ⟨((hcell b (by omega)).2.2.2.2 701).1, e12 b (by omega)⟩)
    have hz := (hcell (g 6 j) (by omega)).2.2.2.2
    exact ⟨by rw [e7 _ (by omega)]; exact h4, (hz 407).2, ⟨(hz 405).1, (hz 406).1⟩, hM 23 j (by omega) (by omega), hM 24 j (by omega) (by omega), hM 25 j (by omega) (by omega), hM 26 j (by omega) (by omega), hM 27 j (by omega) (by omega), hM 28 j (by omega) (by omega)⟩
/-- a reaction waits: what the class does -/
def LnkD (b a : Nat) (l : Option Nat) (S S' : DS) : Prop := dn S' = dn S ∧ dK S' = dK S ∧ dL S' = dL S ∧ dX S' = dX S ∧ dY S' = dY S ∧ dI S' = dI S ∧ (∀ f y, f ≠ 407 → f ≠ 607 → f ≠ 608 → dP S' f y = dP S f y) ∧ (∀ y, some y ≠ l → dP S' 407 y = dP S 407 y) ∧ (∀ y, l = some y → dP S' 407 y = some a) ∧ (∀ y, y ≠ b → dP S' 607 y = dP S 607 y ∧ dP S' 608 y = dP S 608 y) ∧ dP S' 608 b = some a ∧ dP S' 607 b = (if l = none then some a else dP S 607 b)
theorem P_link {k p : Nat} (hI : Inv e0 d t (x + 1) g w S M) (hk : k < g 9 22) (hp : p < g 9 1) (hp2 : M 2 p = 0) (hp3 : M 3 p = 0) (hpos : g 7 (g 3 k) = 0) (h407 : dP S 407 (g 3 k) = none) (m16 : M 16 k = -1) (hE : LnkD (g 0 p) (g 3 k) (dP S 608 (g 0 p)) S S')
    (hM' : (w p = [] ∧ M' = mput M 5 p (nI k)) ∨ ∃ z, (w p).getLast? = some z ∧ M' = mput M 16 z (nI k)) (hg : g' = gput g 7 (g 3 k) (2 * p + 2)) (hwt : wt g M k (M 18 k) (M 19 k) ∧ wt g M k (M 20 k) (M 21 k)) : Inv e0 d t x g' (fun o => if o = p then w p ++ [k] else w o) S' M' ∧ CF g S M g' S' M' := by
  have hI0 := hI
  obtain ⟨i1, i2, i3, i4, i5, i6, i7, i8, i9, i10, i11, i12⟩ := hI
  obtain ⟨q1, q2, q3, q4, q5, q6, q7, q8, q9, q10, q11, q12⟩ := hE
  have hd : dK S d = 12 := i3.2.1
  have ha := (i9 k hk).1
  obtain ⟨-, -, tp, -⟩ := i6.1 p hp
  obtain ⟨w1, w2, w3, w4, w5⟩ := (i10.1 p hp).2 hp2
  have hG : GE g g' := by
    rw [hg]
    refine GE_put (g := g) ?_ ?_ ?_ ?_ ?_ ?_ <;> simp
  have hMo : ∀ j i, j ≠ 5 → j ≠ 16 → M' j i = M j i := by
    intro j i h5 h16
    rcases hM' with ⟨-, h⟩ | ⟨z, -, h⟩ <;> rw [h, r_m, if_neg (by omega)]
  have hFM : FM g M M' := by
    rcases hM' with ⟨-, h⟩ | ⟨z, -, h⟩ <;> rw [h] <;> exact FM_put (by omega) (by omega) (by omega) (by omega)
  have e12 : g' 12 = g 12 := by rw [hg]; funext i; simp [r_g]
  have c : CF g S M g' S' M' := by
    refine ⟨FD_eq q1 q2 q3 q4 (fun f a _ => by rw [q6]) (fun f a hf => q7 f a ?_ ?_ ?_), hG, hFM, fun a _ _ => by rw [e12]⟩
    · rintro rfl; cases hf
    · rintro rfl; cases hf
    · rintro rfl; cases hf
  refine ⟨?_, c⟩
  have e9 : g' 9 = g 9 := by rw [hg]; funext i; simp [r_g]
  have e6 : g' 6 = g 6 := by rw [hg]; funext i; simp [r_g]
  have e3 : g' 3 = g 3 := by rw [hg]; funext i; simp [r_g]
  have e7 : ∀ y, y ≠ g 3 k → g' 7 y = g 7 y := by intro y h; rw [hg]; simp [r_g, h]
  have e7a : g' 7 (g 3 k) = 2 * p + 2 := by rw [hg]; simp [r_g]
  have e11 : g' 11 = g 11 := by rw [hg]; funext i; simp [r_g]
  have e0' : g' 0 = g 0 := by rw [hg]; funext i; simp [r_g]
  have e14 : g' 14 = g 14 := by rw [hg]; funext i; simp [r_g]
  have e2 : g' 2 = g 2 := by rw [hg]; funext i; simp [r_g]
  -- the last of the chain
  have hlast : ∀ y, dP S 608 (g 0 p) = some y → ∃ z, z ∈ w p ∧ g 3 z = y ∧ (w p).getLast? = some z := by
    intro y hy
    rw [w3, List.getLast?_map] at hy
    match hz : (w p).getLast?, hy with
    | some z, hy => exact ⟨z, List.mem_of_getLast? hz, by simpa using hy, rfl⟩
    | none, hy => cases hy
  have hknot : ∀ o, o < g 9 1 → M 2 o = 0 → k ∉ w o := by
    intro o ho h2 hm
    have := (((i10.1 o ho).2 h2).2.2.2.2 k hm).2
    omega
  have hinj : ∀ k1 k2, k1 < g 9 22 → k2 < g 9 22 → g 3 k1 = g 3 k2 → k1 = k2 := by
    intro k1 k2 h1 h2 e
    rw [← (i9 k1 h1).2.1, ← (i9 k2 h2).2.1, e]
  refine Inv_mk hI0 c ?_ ?_ ?_ ⟨fun o ho => ?_, fun o ho => ?_⟩ (fun r hr => ?_) (fun j hj => ?_) ⟨fun o ho => ?_, fun o ho => ?_⟩ ?_
  · unfold A_cnt at *
    rw [hMo 1 0, hMo 15 0, hMo 22 0, hMo 29 0, hMo 30 0, hMo 33 0, hMo 36 0, hMo 38 0, hMo 42 0, hMo 50 0, e9] <;> first | omega | exact i1
  · unfold A_bd at *
    have hu : un14 M' = un14 M := by funext i; unfold un14; rw [hMo 14 i (by omega) (by omega)]
    have hs := sumN_upd (f := fun o => (w o).length) (h := fun o => (if o = p then w p ++ [k] else w o).length) (j := p) hp (fun i _ hne => by simp [hne])
    simp only [if_true, List.length_append, List.length_singleton] at hs
    rw [e9, e11, hu]
    dsimp only at hs ⊢
    omega
  · refine desk_fr i3 ?_ c.1 (by rw [e9]) (by rw [e9]) (fun _ _ => by rw [e0']) e2 (fun _ => by rw [e14]) (fun y hy => ⟨by rw [q6], q7 1 y (by omega) (by omega) (by omega), by rw [q5]⟩)
    unfold dFr; rw [q1, q2]; exact i3.1
  · rw [e9] at ho
    exact T_pt i6 ho c (T_same i6 ho ⟨by rw [q6], by rw [q6], by rw [q6]⟩ ⟨hMo 3 o (by omega) (by omega), hMo 4 o (by omega) (by omega), hMo 7 o (by omega) (by omega)⟩)
  · rw [hMo 7 o (by omega) (by omega)]; rw [e9] at ho; exact i6.2 o ho
  · rw [e9] at hr
    obtain ⟨k1, k2, k3, k4, -⟩ := i7 r hr
    refine R_pt i7 hr c ?_ (by rw [e12]; exact k2)
    rw [hMo 14 r (by omega) (by omega), q6]; exact ⟨k3, k4⟩
  · rw [e9] at hj
    refine K_pt2 i9 hj c (fun h => ?_)
    by_cases e : g 3 j = g 3 k
    · have := hinj j k hj hk e
      subst this
      exact hwt
    · rw [e7 _ e] at h; exact (i9 j hj).2.2.2 h
  · rw [e9] at ho
    by_cases e : o = p
    · subst e
      simp only [if_true]
      rw [hMo 2 o (by omega) (by omega), hMo 3 o (by omega) (by omega)]
      refine ⟨fun h => by rcases h with h | h <;> contradiction, fun _ => ?_⟩
      rw [e3, e0', q11, q12, e9]
      have hnd : (w o ++ [k]).Nodup := by
        rw [List.nodup_append]
        refine ⟨w4, by simp, fun a hma b hb => ?_⟩
        have hbk : b = k := by simpa using hb
        intro hab
        exact hknot o ho hp2 (by rw [← hbk, ← hab]; exact hma)
      have hpos' : ∀ j, j ∈ w o ++ [k] → j < g 9 22 ∧ g' 7 (g 3 j) = 2 * o + 2 := by
        intro j hj
        rcases List.mem_append.mp hj with h | h
        · have h1 := w5 j h
          refine ⟨h1.1, ?_⟩
          rw [e7 _ (fun e => by rw [e, hpos] at h1; omega)]; exact h1.2
        · have : j = k := by simpa using h
          subst this
          exact ⟨hk, e7a⟩
      rcases hM' with ⟨hw, hM'⟩ | ⟨z, hz, hM'⟩
      · have h608 : dP S 608 (g 0 o) = none := by rw [w3, hw]; rfl
        rw [hw] at hpos' hnd ⊢
        rw [h608, hM']
        refine ⟨⟨by simp [r_m], ?_⟩, ⟨by simp, ?_⟩, by simp, hnd, hpos'⟩
        · show mput M 5 o (nI k) 16 k = -1
          rw [r_m, if_neg (by omega)]; exact m16
        · show dP S' 407 (g 3 k) = none
          rw [q8 _ (by rw [h608]; simp)]; exact h407
      · have hzm := List.mem_of_getLast? hz
        have h608 : dP S 608 (g 0 o) = some (g 3 z) := by rw [w3, List.getLast?_map, hz]; rfl
        have hzk : z ≠ k := fun e => hknot o ho hp2 (e ▸ hzm)
        rw [h608, hM']
        refine ⟨?_, ?_, ?_, hnd, hpos'⟩
        · have : mput M 16 z (nI k) 5 o = M 5 o := by rw [r_m, if_neg (by omega)]
          rw [this]
          refine lk_app w1 hz w4 (fun a _ hne => by rw [r_m, if_neg (by omega)]) (by rw [r_m]; simp) ?_
          rw [r_m, if_neg (by omega)]; exact m16
        · rw [if_neg (by simp), List.map_append]
          refine dlk_app w2 (by rw [List.getLast?_map, hz]; rfl) ?_ (fun a _ hne => q8 a (by rw [h608]; simpa using hne)) (q9 _ h608) ?_
          · exact map_nodup (fun a ha b hb e => hinj a b (w5 a ha).1 (w5 b hb).1 e) w4
          · rw [q8 _ (by rw [h608]; intro h; exact hzk (hinj _ _ (w5 z hzm).1 hk (by simpa using h.symm)))]; exact h407
        · simp
    · obtain ⟨-, -, to, -⟩ := i6.1 o ho
      have e2' : g 0 o ≠ g 0 p := fun h => e (by rw [← to, ← tp, h])
      simp only [if_neg e]
      refine W_pt i10 i9 ho c (hMo 3 o (by omega) (by omega)) (fun h2 => ?_)
      refine ⟨?_, (q10 _ e2').1, (q10 _ e2').2, fun j hj hj2 h7 => ⟨?_, q8 _ (fun h => ?_), e7 _ (fun h => by rw [h, hpos] at h7; omega)⟩⟩
      · rcases hM' with ⟨-, h⟩ | ⟨z, -, h⟩ <;> rw [h, r_m, if_neg (by omega)]
      · rcases hM' with ⟨-, h⟩ | ⟨z, hz, h⟩
        · rw [h, r_m, if_neg (by omega)]
        · rw [h, r_m, if_neg]
          rintro ⟨-, rfl⟩
          have := (w5 j (List.mem_of_getLast? hz)).2
          omega
      · obtain ⟨z, hz1, hz2, -⟩ := hlast _ h.symm
        have := (w5 z hz1).2
        rw [hz2] at this
        omega
  · have e : o ≠ p := by rw [e9] at ho; omega
    simp only [if_neg e]; rw [e9] at ho; exact i10.2 o ho
  · refine Q_fr i11 c (by rw [e9]) e6 ⟨by rw [q6], q7 1106 d (by omega) (by omega) (by omega), q7 1107 d (by omega) (by omega) (by omega)⟩ (fun j h1 h2 h3 h4 => ?_) (fun j b _ _ _ h1 _ => ⟨by rw [q6], by rw [e12]⟩)
    refine ⟨?_, q8 _ (fun h => ?_), ⟨by rw [q6], by rw [q6]⟩, hMo 23 j (by omega) (by omega), hMo 24 j (by omega) (by omega), hMo 25 j (by omega) (by omega), hMo 26 j (by omega) (by omega), hMo 27 j (by omega) (by omega), hMo 28 j (by omega) (by omega)⟩
    · rw [e7 _ (fun h => by rw [h, hpos] at h4; omega)]; exact h4
    · obtain ⟨z, hz1, hz2, -⟩ := hlast _ h.symm
      have := (w5 z hz1).2
      rw [hz2] at this
      omega
end PR4
