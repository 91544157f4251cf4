section FAC
variable {e0 d t x n c z : Nat} {g g' : GH} {w w' : Nat → List Nat} {S S' S1 S2 S0 : DS} {M M' M1 : MS}
theorem Inv_dn {m : Nat} {T : DT} (hI : Inv e0 d t x g w (m, T) M) (hfr : dFr (n, T)) : Inv e0 d t x g w (n, T) M :=
  ⟨hI.1, hI.2.1, ⟨hfr, hI.2.2.1.2⟩, hI.2.2.2⟩
theorem Inv_up (hI : Inv e0 d t x g w S M) (ht : t < 512) : Inv e0 d (t + 1) x g w S M := by
  have bd := hI.2.1
  unfold A_bd at bd
  exact Inv_t hI (by omega) (by omega) (by omega) (by omega)
/-- the relation -/
def Rel (e0 d : Nat) (t : Nat) (T : DT) (M : MS) (c z : Nat) : Prop := ∃ (m : Nat) (g : GH) (w : Nat → List Nat), Inv e0 d t 0 g w (m, T) M ∧ g 14 1 = 0 ∧ c ≤ 200 + 20 * t + pc g ∧ z ≤ 370000 + 1000 * t + pz g (m, T)
def FinC (e0 d t : Nat) (g : GH) (S S' : DS) (M' : MS) (C Z : Nat) : Prop := ∃ g' w' C0 Z0, Inv e0 d (t + 1) 0 g' w' S' M' ∧ g' 14 1 = 0 ∧ Cs 0 g S g' S' C0 Z0 ∧ C ≤ C0 + 20 ∧ Z ≤ Z0 + 1000
def Ent (e0 d t : Nat) (g : GH) (w : Nat → List Nat) (S : DS) (M : MS) (c z : Nat) : Prop := t < 512 ∧ Inv e0 d t 0 g w S M ∧ Inv e0 d (t + 1) 0 g w S M ∧ g 14 1 = 0 ∧ c ≤ 200 + 20 * t + pc g ∧ z ≤ 370000 + 1000 * t + pz g S
theorem ent_of (hfr : dFr S) (ht : t < 512) (hR : Rel e0 d t S.2 M c z) : ∃ g w, Ent e0 d t g w S M c z := by
  obtain ⟨m, g, w, hI, hop, hc, hz⟩ := hR
  have h := Inv_dn (n := S.1) hI hfr
  exact ⟨g, w, ht, h, Inv_up h ht, hop, hc, hz⟩
theorem rel_fin {C Z : Nat} (hE : Ent e0 d t g w S M c z) (h : FinC e0 d t g S S' M' C Z) : Rel e0 d (t + 1) S'.2 M' (c + C) (z + Z) := by
  obtain ⟨g', w', C0, Z0, h1, h2, h3, h4, h5⟩ := h
  obtain ⟨-, -, -, -, hc, hz⟩ := hE
  refine ⟨S'.1, g', w', h1, h2, ?_, ?_⟩
  · have := h3.1; omega
  · have := h3.2
    have e : pz g' (S'.1, S'.2) = pz g' S' := rfl
    rw [e]; omega
theorem step_of {q : Option ((Nat × Int32) × DS × Nat × Nat)} {qm : Option (Int32 × MS)} {ok : Nat → Prop} {cd : Nat → Int32} {next : DT → MS → Nat → Nat → Prop} (h : RD q (fun kr S' C Z => RM qm (fun r' M' => ok kr.1 ∧ M' 0 0 = cd kr.1 ∧ (kr.1 = 0 → kr.2 = r') ∧ next S'.2 M' C Z))) : StepT q qm ok cd next := by
  obtain ⟨⟨k, r⟩, S', C, Z, e, r', M', e', h1, h2, h3, h4⟩ := h
  exact ⟨k, r, S', C, Z, r', M', e, e', h1, h2, h3, h4⟩
theorem Fin_th {v : Int32} {C Z : Nat} (hE : Ent e0 d t g w S M c z) (hC : C ≤ 20) (hZ : Z ≤ 1000) : FinC e0 d t g S S (mput (mput M 0 0 0) 0 0 v) C Z := ⟨g, w, 0, 0, Inv_m (Or.inl rfl) (Inv_m (Or.inl rfl) hE.2.2.1), hE.2.2.2.1, Cs_id rfl, by omega, by omega⟩
/-- the call throws -/
theorem th_ok {ok : Nat → Prop} {cd : Nat → Int32} {k C Z : Nat} {r r' v : Int32} (hE : Ent e0 d t g w S M c z) (hk : k ≠ 0) (h1 : ok k) (h2 : v = cd k) (hC : C ≤ 20) (hZ : Z ≤ 1000) : ok (k, r).1 ∧ (mput (mput M 0 0 0) 0 0 v) 0 0 = cd (k, r).1 ∧ ((k, r).1 = 0 → (k, r).2 = r') ∧ Rel e0 d (t + 1) S.2 (mput (mput M 0 0 0) 0 0 v) (c + C) (z + Z) :=
  ⟨h1, by simp [r_m, h2], fun h => absurd h hk, rel_fin hE (Fin_th hE hC hZ)⟩
theorem ok_ok {ok : Nat → Prop} {cd : Nat → Int32} {C Z : Nat} {r r' : Int32} (hE : Ent e0 d t g w S M c z) (h1 : ok 0) (h2 : cd 0 = 0) (h0 : M' 0 0 = 0) (hr : r = r') (hF : FinC e0 d t g S S' M' C Z) : ok (0, r).1 ∧ M' 0 0 = cd (0, r).1 ∧ ((0, r).1 = 0 → (0, r).2 = r') ∧ Rel e0 d (t + 1) S'.2 M' (c + C) (z + Z) :=
  ⟨h1, by rw [h0]; exact h2.symm, fun _ => hr, rel_fin hE hF⟩
theorem Fin_q {C Z : Nat} (hE : Ent e0 d t g w S M c z) (hC : C ≤ 20) (hZ : Z ≤ 1000) : FinC e0 d t g S S (mput M 0 0 0) C Z := ⟨g, w, 0, 0, Inv_m (Or.inl rfl) hE.2.2.1, hE.2.2.2.1, Cs_id rfl, by omega, by omega⟩
theorem m00 : mput M 0 0 0 0 0 = 0 := by simp [r_m]
theorem E1 (hE : Ent e0 d t g w S M c z) : Inv e0 d (t + 1) 0 g w S (mput M 0 0 0) := Inv_m (Or.inl rfl) hE.2.2.1
/-! what is required of the arguments -/
theorem nI_sub {a b : Nat} (h : b ≤ a) : nI a - nI b = nI (a - b) := by
  have e : nI (a - b) + nI b = nI a := by rw [nI_add]; congr 1; omega
  rw [← e]; grind
theorem pred_le {v : Int32} {N : Nat} (hN : N < 2 ^ 30) : v ≤ nI N - 1 ↔ v < nI N := by
  rw [Int32.le_iff_toInt_le, Int32.lt_iff_toInt_lt, Int32.toInt_sub, nI_toInt (by omega)]
  have h1 : (1 : Int32).toInt = 1 := by decide
  have : ((N : Int) - 1).bmod (2 ^ 32) = N - 1 := by
    apply Int.bmod_eq_of_le <;> omega
  rw [h1, this]
  omega
theorem lt_999 {v : Int32} : 999 < v ↔ ¬ v < 1000 := by
  rw [Int32.lt_iff_toInt_lt, Int32.lt_iff_toInt_lt]
  have h1 : (999 : Int32).toInt = 999 := by decide
  have h2 : (1000 : Int32).toInt = 1000 := by decide
  rw [h1, h2]; omega
theorem room_run (k : Int32) (hI : Inv e0 d t x g w S M) : (q_X11_requireRoom e0 S d k = some ((0, 0), S, 0, 0) ∧ q_isFull M k = some (0, M) ∧ k ≤ 3000 - nI (g 9 1)) ∨ (q_X11_requireRoom e0 S d k = some ((2, 0), S, 1, 6) ∧ q_isFull M k = some (1, M)) := by
  have c1 : M 1 0 = nI (g 9 1) := hI.1.1
  obtain ⟨i1, i2, ⟨a1, a2, a3, a4, a5, a6, a7, a8, a9, a10⟩, -⟩ := hI
  unfold q_isFull
  rw [c1]
  by_cases h : k ≤ 3000 - nI (g 9 1)
  · refine Or.inl ⟨RD_eq ?_, by rw [if_pos h, chk_i (Or.inl rfl)], h⟩
    unfold q_X11_requireRoom
    exact w_chk a2 <| w_bnd a5 <| w_chk a8.1 <| w_bk (size_run a8) <| w_ip h <| w_some ⟨rfl, rfl, rfl, rfl⟩
  · refine Or.inr ⟨RD_eq ?_, by rw [if_neg h, chk_i (Or.inr rfl)]⟩
    unfold q_X11_requireRoom
    exact w_chk a2 <| w_bnd a5 <| w_chk a8.1 <| w_bk (size_run a8) <| w_in h <| w_some ⟨rfl, rfl, rfl, rfl⟩
theorem room_le {k O : Nat} (hk : k ≤ 3000) (hO : O ≤ 3000) (h : nI k ≤ 3000 - nI O) : O + k ≤ 3000 := by
  have e : (3000 : Int32) = nI 3000 := rfl
  rw [e, nI_sub hO, nI_leI (by omega) (by omega)] at h
  omega
theorem room_8 {O : Nat} (hO : O ≤ 3000) (h : (8 : Int32) ≤ 3000 - nI O) : O + 8 ≤ 3000 := room_le (k := 8) (by omega) hO h
theorem val_run (v : Int32) (hI : Inv e0 d t x g w S M) : (q_X11_requireValue e0 S d v = some ((0, 0), S, 0, 0) ∧ q_isValue M v = some (1, M)) ∨ (q_X11_requireValue e0 S d v = some ((1, 0), S, 1, 6) ∧ q_isValue M v = some (0, M)) := by
  have hd := hI.2.2.1.2.1
  have h12 : (q_X11_requireValue_16 e0 S d v = some ((0, 0), S, 0, 0) ∧ q_isValue_12 M v = some (1, M)) ∨ (q_X11_requireValue_16 e0 S d v = some ((1, 0), S, 1, 6) ∧ q_isValue_12 M v = some (0, M)) := by
    unfold q_isValue_12 q_X11_requireValue_16 q_X11_requireValue_17
    rcases thing_run v hI with ⟨o, ho, e1, e2, e3, hD, hM⟩ | ⟨hno, hD, hM⟩
    · refine Or.inl ⟨RD_eq ?_, by rw [hM, bnd2_s, if_neg i32_10, chk_i (Or.inr rfl)]⟩
      exact w_ip rfl <| w_chk hd <| w_bk hD <| w_in (by simp) <| w_some ⟨rfl, rfl, rfl, rfl⟩
    · refine Or.inr ⟨RD_eq ?_, by rw [hM, bnd2_s, if_pos rfl, chk_i (Or.inl rfl)]⟩
      exact w_ip rfl <| w_chk hd <| w_bk hD <| w_ip rfl <| w_some ⟨rfl, rfl, rfl, rfl⟩
  unfold q_X11_requireValue q_isValue
  by_cases h1 : v < -1
  · rw [if_pos h1, if_pos h1]; exact h12
  · rw [if_neg h1, if_neg h1]
    by_cases h2 : v < 1000
    · rw [if_neg (fun h => lt_999.mp h h2), if_pos h2]
      refine Or.inl ⟨?_, chk_i (Or.inr rfl)⟩
      unfold q_X11_requireValue_17
      rw [if_neg i32_10]
    · rw [if_pos (lt_999.mpr h2), if_neg h2]; exact h12
theorem rp_run (v : Int32) (hI : Inv e0 d t x g w S M) : (∃ p, p < g 9 1 ∧ v = -2 - nI p ∧ -2 - v = nI p ∧ M 2 p = 0 ∧ dK S (g 0 p) = 7 ∧ q_X11_requirePromise e0 S d v = some ((0, some (g 0 p)), S, 0, 0) ∧ q_isKind M v 0 = some (1, M)) ∨ (q_X11_requirePromise e0 S d v = some ((1, none), S, 1, 6) ∧ q_isKind M v 0 = some (0, M)) := by
  have hd := hI.2.2.1.2.1
  unfold q_X11_requirePromise
  rcases kind_run v (Or.inl ⟨rfl, rfl⟩) hI with ⟨p, hp, e1, e2, hp2, hK, hD, hM⟩ | ⟨r, hD, hok, hin, hM⟩
  · refine Or.inl ⟨p, hp, e1, e2, hp2, hK, RD_eq ?_, hM⟩
    exact w_chk hd <| w_bk hD <| w_chk (decide_eq_true (Or.inl hK)) <| w_in (by rw [dinst_1 hK]; exact i32_10) <| w_bnd rfl <| w_chk hK <| w_some ⟨rfl, rfl, rfl, rfl⟩
  · refine Or.inr ⟨RD_eq ?_, hM⟩
    exact w_chk hd <| w_bk hD <| w_chk hok <| w_ip hin <| w_some ⟨rfl, rfl, rfl, rfl⟩
theorem rt_run (v : Int32) (hI : Inv e0 d t x g w S M) : (∃ p, p < g 9 1 ∧ v = -2 - nI p ∧ -2 - v = nI p ∧ M 2 p = 1 ∧ dK S (g 0 p) = 10 ∧ q_X11_requireThenable e0 S d v = some ((0, some (g 0 p)), S, 0, 0) ∧ q_isKind M v 1 = some (1, M)) ∨ (q_X11_requireThenable e0 S d v = some ((1, none), S, 1, 6) ∧ q_isKind M v 1 = some (0, M)) := by
  have hd := hI.2.2.1.2.1
  unfold q_X11_requireThenable
  rcases kind_run v (Or.inr ⟨rfl, rfl⟩) hI with ⟨p, hp, e1, e2, hp2, hK, hD, hM⟩ | ⟨r, hD, hok, hin, hM⟩
  · refine Or.inl ⟨p, hp, e1, e2, hp2, hK, RD_eq ?_, hM⟩
    exact w_chk hd <| w_bk hD <| w_chk (decide_eq_true (Or.inr (Or.inl hK))) <| w_in (by rw [dinst_1 hK]; exact i32_10) <| w_bnd rfl <| w_chk hK <| w_some ⟨rfl, rfl, rfl, rfl⟩
  · refine Or.inr ⟨RD_eq ?_, hM⟩
    exact w_chk hd <| w_bk hD <| w_chk hok <| w_ip hin <| w_some ⟨rfl, rfl, rfl, rfl⟩
theorem rk_run (v : Int32) (hI : Inv e0 d t x g w S M) : (∃ p r, p < g 9 1 ∧ v = -2 - nI p ∧ -2 - v = nI p ∧ M 2 p = 0 ∧ M 6 p = nI r ∧ r < g 9 15 ∧ q_X11_requireKept e0 S d v = some ((0, some (g 1 r)), S, 0, 0) ∧ q_isKept M v = some (1, M)) ∨ (q_X11_requireKept e0 S d v = some ((1, none), S, 1, 6) ∧ q_isKept M v = some (0, M)) := by
  have hN := Inv_nums hI
  have hd := hI.2.2.1.2.1
  unfold q_X11_requireKept q_isKept
  rcases rp_run v hI with ⟨p, hp, e1, e2, hp2, hK, hD, hM⟩ | ⟨hD, hM⟩
  · rw [hM, bnd2_s, if_neg i32_10, e2, chk_i (inb_nI (by omega) (by omega)), nI_clamp (by omega)]
    obtain ⟨-, -, -, -, hkp, -⟩ := tk_0 (hI.2.2.2.2.2.1.1 p hp).2.2.2 hp2
    rcases hkp with ⟨h1, h2⟩ | ⟨r, h1, h2, h3⟩
    · refine Or.inr ⟨RD_eq ?_, by rw [h1, if_pos (by decide), chk_i (Or.inl rfl)]⟩
      exact w_chk hd <| w_bx hD <| w_bnd rfl <| w_chk hK <| w_ip h2 <| w_some ⟨rfl, rfl, rfl, rfl⟩
    · refine Or.inl ⟨p, r, hp, e1, rfl, hp2, h1, h2, RD_eq ?_, by rw [h1, if_neg (nI_pos (by omega)), chk_i (Or.inr rfl)]⟩
      refine w_chk hd <| w_bx hD <| w_bnd rfl <| w_chk hK ?_
      rw [h3]
      exact w_in (by simp) <| w_some ⟨rfl, rfl, rfl, rfl⟩
  · refine Or.inr ⟨RD_eq ?_, by rw [hM, bnd2_s, if_pos rfl, chk_i (Or.inl rfl)]⟩
    exact w_chk hd <| w_bt hD (by decide) ⟨rfl, rfl, rfl, rfl⟩
theorem rh_run (v : Int32) (hv : v ≠ -1) (hI : Inv e0 d t x g w S M) : (∃ h, h < g 9 33 ∧ v = nI h ∧ q_X11_requireHandler e0 S d v = some ((0, some (g 2 h)), S, 0, 0) ∧ q_isHandler M v = some (1, M)) ∨ (q_X11_requireHandler e0 S d v = some ((1, none), S, 1, 6) ∧ q_isHandler M v = some (0, M)) := by
  have hN := Inv_nums hI
  have c33 : M 33 0 = nI (g 9 33) := hI.1.2.2.2.2.2.1
  have hH := hI.2.2.2.2.2.2.2.1
  obtain ⟨i1, i2, ⟨a1, a2, a3, a4, a5, a6, a7, a8, a9, a10⟩, -⟩ := hI
  unfold q_isHandler
  rw [c33]
  have hrq : ∀ {kr}, q_X11_requireRange e0 S d v 0 (nI (g 9 33) - 1) = some (kr, S, (if kr.1 = 0 then 0 else 1), (if kr.1 = 0 then 0 else 6)) → kr.1 = 1 → q_X11_requireHandler e0 S d v = some ((1, none), S, 1, 6) := by
    rintro ⟨k, r⟩ h hk
    have hk : k = 1 := hk
    subst hk
    refine RD_eq ?_
    unfold q_X11_requireHandler
    exact w_in hv <| w_chk a2 <| w_bnd a6 <| w_chk a9.1 <| w_bk (size_run a9) <| w_chk a2 <| w_bt h (by decide) ⟨rfl, rfl, rfl, rfl⟩
  rcases pk_ix v (n := g 9 33) (by omega) with h | h | ⟨j, hj, rfl⟩
  · refine Or.inr ⟨hrq (kr := (1, 0)) ?_ rfl, by rw [if_pos h, chk_i (Or.inl rfl)]⟩
    unfold q_X11_requireRange
    rw [if_pos h]; rfl
  · by_cases h0 : v < 0
    · refine Or.inr ⟨hrq (kr := (1, 0)) ?_ rfl, by rw [if_pos h0, chk_i (Or.inl rfl)]⟩
      unfold q_X11_requireRange
      rw [if_pos h0]; rfl
    · refine Or.inr ⟨hrq (kr := (1, 0)) ?_ rfl, by rw [if_neg h0, if_pos h, chk_i (Or.inl rfl)]⟩
      unfold q_X11_requireRange
      rw [if_neg h0, if_neg (fun e => Int32.not_lt.mpr h ((pred_le (by omega)).mp e))]; rfl
  · refine Or.inl ⟨j, hj, rfl, RD_eq ?_, by rw [if_neg (nI_pos (by omega)), if_neg (nI_ge hj (by omega)), chk_i (Or.inr rfl)]⟩
    unfold q_X11_requireHandler q_X11_requireRange
    refine w_in hv <| w_chk a2 <| w_bnd a6 <| w_chk a9.1 <| w_bk (size_run a9) <| w_chk a2 <| w_bx (r := 0) (S := S) (C := 0) (Z := 0) ?_ <| w_chk a2 <| w_bnd a6 <| w_chk a9.1 <| w_bk (get_run a9 hj (by omega)) <| w_bnd rfl <| w_chk (hH j hj).1 <| w_some ⟨rfl, rfl, rfl, rfl⟩
    rw [if_neg (nI_pos (by omega)), if_pos ((pred_le (by omega)).mpr (nI_lt hj (by omega)))]
theorem fails_eq {v : Int32} : q_fails M v = some (0, mput M 0 0 v) := rfl
/-! the calls that look -/
theorem st_state : St_state (Rel e0 d) d e0 := by
  intro t S M c z p1 hfr ht hR
  obtain ⟨g, w, hE⟩ := ent_of hfr ht hR
  have hI1 := E1 hE
  have hN := Inv_nums hI1
  have hd := hI1.2.2.1.2.1
  refine step_of ?_
  unfold q_X11_state q_state
  rcases rp_run p1 hI1 with ⟨p, hp, e1, e2, hp2, hK, hD, hM⟩ | ⟨hD, hM⟩
  · obtain ⟨b1, b2, b3, b4, b5, b6⟩ := tk_0 (hI1.2.2.2.2.2.1.1 p hp).2.2.2 hp2
    have hip : inb (nI p) 3000 := inb_nI (by omega) (by omega)
    refine w_chk hd <| w_bx hD <| w_bnd rfl <| w_chk hK ?_
    rw [b1, b3]
    have hMq : ∀ Q, RM (if mput M 0 0 0 7 p = 0 then some (mput M 0 0 0 3 p + 0, mput M 0 0 0) else some (mput M 0 0 0 3 p + 4, mput M 0 0 0)) Q → RM (lt9 (mput M 0 0 0) (fun M1 => bnd2 (q_isKind M1 p1 0) (fun r3 M2 => if r3 = 0 then bnd2 (q_fails M2 1) (fun r5 M4 => some (r5, M4)) else chk (inb ((-2) - p1) 3000) (chk (inb ((-2) - p1) 3000) (if (M2 7 ((-2) - p1).toNatClampNeg) = 0 then some ((M2 3 ((-2) - p1).toNatClampNeg) + 0, M2) else some ((M2 3 ((-2) - p1).toNatClampNeg) + 4, M2)))))) Q := by
      intro Q hQ
      refine m_lt <| m_b2 hM <| m_in i32_10 ?_
      rw [e2, nI_clamp (by omega)]
      exact m_chk hip <| m_chk hip hQ
    by_cases h7 : mput M 0 0 0 7 p = 0
    · refine w_ip h7 <| w_some <| hMq _ <| m_ip h7 <| m_some (ok_ok hE (Or.inl rfl) rfl m00 (by simp) (Fin_q hE (by omega) (by omega)))
    · refine w_in h7 <| w_some <| hMq _ <| m_in h7 <| m_some (ok_ok hE (Or.inl rfl) rfl m00 rfl (Fin_q hE (by omega) (by omega)))
  · exact w_chk hd <| w_bt hD (by decide) <| m_lt <| m_b2 hM <| m_ip rfl <| m_b2 fails_eq <| m_some (th_ok hE (by decide) (Or.inr rfl) rfl (by omega) (by omega))
theorem st_result : St_result (Rel e0 d) d e0 := by
  intro t S M c z p1 hfr ht hR
  obtain ⟨g, w, hE⟩ := ent_of hfr ht hR
  have hI1 := E1 hE
  have hN := Inv_nums hI1
  have hd := hI1.2.2.1.2.1
  refine step_of ?_
  unfold q_X11_result q_result
  rcases rp_run p1 hI1 with ⟨p, hp, e1, e2, hp2, hK, hD, hM⟩ | ⟨hD, hM⟩
  · obtain ⟨b1, b2, b3, b4, b5, b6⟩ := tk_0 (hI1.2.2.2.2.2.1.1 p hp).2.2.2 hp2
    refine w_chk hd <| w_bx hD <| w_bnd rfl <| w_chk hK <| w_some <| m_lt <| m_b2 hM <| m_in i32_10 ?_
    rw [e2, nI_clamp (by omega)]
    exact m_chk (inb_nI (by omega) (by omega)) <| m_some (ok_ok hE (Or.inl rfl) rfl m00 b2 (Fin_q hE (by omega) (by omega)))
  · exact w_chk hd <| w_bt hD (by decide) <| m_lt <| m_b2 hM <| m_ip rfl <| m_b2 fails_eq <| m_some (th_ok hE (by decide) (Or.inr rfl) rfl (by omega) (by omega))
theorem rg_run (v : Int32) (hI : Inv e0 d t x g w S M) : (∃ o, o < g 9 1 ∧ -2 - v = nI o ∧ q_X11_requireThing e0 S d v = some ((0, some (g 0 o)), S, 0, 0) ∧ q_isObject M v = some (1, M)) ∨ (q_X11_requireThing e0 S d v = some ((1, none), S, 1, 6) ∧ q_isObject M v = some (0, M)) := by
  have hd := hI.2.2.1.2.1
  unfold q_X11_requireThing
  rcases thing_run v hI with ⟨o, ho, e1, e2, e3, hD, hM⟩ | ⟨hno, hD, hM⟩
  · exact Or.inl ⟨o, ho, e2, RD_eq (w_chk hd <| w_bk hD <| w_in (by simp) <| w_some ⟨rfl, rfl, rfl, rfl⟩), hM⟩
  · exact Or.inr ⟨RD_eq (w_chk hd <| w_bk hD <| w_ip rfl <| w_some ⟨rfl, rfl, rfl, rfl⟩), hM⟩
theorem st_kind : St_kind (Rel e0 d) d e0 := by
  intro t S M c z p1 hfr ht hR
  obtain ⟨g, w, hE⟩ := ent_of hfr ht hR
  have hI1 := E1 hE
  have hN := Inv_nums hI1
  have hd := hI1.2.2.1.2.1
  refine step_of ?_
  unfold q_X11_kind q_kind
  rcases rg_run p1 hI1 with ⟨o, ho, e2, hD, hM⟩ | ⟨hD, hM⟩
  · obtain ⟨b1, b2, b3, b4⟩ := hI1.2.2.2.2.2.1.1 o ho
    refine w_chk hd <| w_bx hD <| w_bnd rfl <| w_chk (tk_K b4) <| w_some <| m_lt <| m_b2 hM <| m_in i32_10 ?_
    rw [e2, nI_clamp (by omega)]
    exact m_chk (inb_nI (by omega) (by omega)) <| m_some (ok_ok hE (Or.inl rfl) rfl m00 b2 (Fin_q hE (by omega) (by omega)))
  · exact w_chk hd <| w_bt hD (by decide) <| m_lt <| m_b2 hM <| m_ip rfl <| m_b2 fails_eq <| m_some (th_ok hE (by decide) (Or.inr rfl) rfl (by omega) (by omega))
theorem st_count : St_count (Rel e0 d) d e0 := by
  intro t S M c z p1 hfr ht hR
  obtain ⟨g, w, hE⟩ := ent_of hfr ht hR
  have hI1 := E1 hE
  have hN := Inv_nums hI1
  obtain ⟨c1, c15, c22, c29, c30, c33, c36, c38, c42, c50⟩ := hI1.1
  obtain ⟨a1, a2, a3, a4, a5, a6, a7, a8, a9, a10⟩ := hI1.2.2.1
  have q1 := hI1.2.2.2.2.2.2.2.2.2.2.1.1
  have l1 := hI1.2.2.2.1.2.2.2.1
  have t1 := hI1.2.2.2.2.1.2.2.2.2.1
  have fin : ∀ (r r' : Int32), r = r' → okA (0, r).1 ∧ mput M 0 0 0 0 0 = cd1 (0, r).1 ∧ ((0, r).1 = 0 → (0, r).2 = r') ∧ Rel e0 d (t + 1) S.2 (mput M 0 0 0) (c + 0) (z + 0) := fun r r' e => ok_ok hE (Or.inl rfl) rfl m00 e (Fin_q hE (by omega) (by omega))
  refine step_of ?_
  unfold q_X11_count q_count
  by_cases h0 : p1 = 0
  · exact w_ip h0 <| w_chk a2 <| w_bnd a5 <| w_chk a8.1 <| w_bk (size_run a8) <| w_some <| m_lt <| m_ip h0 <| m_some (fin _ _ c1.symm)
  · refine w_in h0 ?_
    by_cases h1 : p1 = 1
    · refine w_ip h1 <| w_chk a2 <| w_some <| m_lt <| m_in h0 <| m_ip h1 <| m_some (fin _ _ ?_)
      rw [q1, c29, c30, nI_sub (by omega)]
    · refine w_in h1 ?_
      by_cases h2 : p1 = 2
      · exact w_ip h2 <| w_chk a2 <| w_some <| m_lt <| m_in h0 <| m_in h1 <| m_ip h2 <| m_some (fin _ _ (l1.trans c36.symm))
      · refine w_in h2 ?_
        by_cases h3 : p1 = 3
        · exact w_ip h3 <| w_chk a2 <| w_some <| m_lt <| m_in h0 <| m_in h1 <| m_in h2 <| m_ip h3 <| m_some (fin _ _ (t1.trans c38.symm))
        · refine w_in h3 ?_
          by_cases h4 : p1 = 4
          · exact w_ip h4 <| w_chk a2 <| w_bnd a6 <| w_chk a9.1 <| w_bk (size_run a9) <| w_some <| m_lt <| m_in h0 <| m_in h1 <| m_in h2 <| m_in h3 <| m_ip h4 <| m_some (fin _ _ c33.symm)
          · exact w_in h4 <| w_some <| m_lt <| m_in h0 <| m_in h1 <| m_in h2 <| m_in h3 <| m_in h4 <| m_b2 fails_eq <| m_some (th_ok hE (by decide) (Or.inr rfl) rfl (by omega) (by omega))
theorem st_log : St_log (Rel e0 d) d e0 := by
  intro t S M c z p1 p2 hfr ht hR
  obtain ⟨g, w, hE⟩ := ent_of hfr ht hR
  have hI1 := E1 hE
  have hN := Inv_nums hI1
  have hd := hI1.2.2.1.2.1
  have c36 : mput M 0 0 0 36 0 = nI (g 9 36) := hI1.1.2.2.2.2.2.2.1
  obtain ⟨l1, l2, l3, l4, l5, l6, l7, l8⟩ := hI1.2.2.2.1
  have hrel : Rel e0 d (t + 1) S.2 (mput M 0 0 0) (c + 0) (z + 0) := rel_fin hE (Fin_q hE (by omega) (by omega))
  have key : RD (q_X11_log e0 S d p1 p2) (fun r S' C Z => ∃ M', q_log M p1 p2 = some (r, M') ∧ Rel e0 d (t + 1) S'.2 M' (c + C) (z + Z)) := by
    unfold q_X11_log q_log
    rw [lt9_s, c36, l4]
    rcases pk_ix p1 (n := g 9 36) (by omega) with h | h | ⟨i, hi, rfl⟩
    · refine w_ip h <| w_some ⟨mput M 0 0 0, by rw [if_pos h], hrel⟩
    · by_cases h0 : p1 < 0
      · refine w_ip h0 <| w_some ⟨mput M 0 0 0, by rw [if_pos h0], hrel⟩
      · refine w_in h0 <| w_chk hd <| w_in (Int32.not_lt.mpr h) <| w_some ⟨mput M 0 0 0, by rw [if_neg h0, if_neg (Int32.not_lt.mpr h)], hrel⟩
    · refine w_in (nI_pos (by omega)) <| w_chk hd <| w_ip (nI_lt hi (by omega)) ?_
      rw [nI_2, nI_1, nI_clamp (by omega), nI_clamp (by omega), nI_clamp (by omega), if_neg (nI_pos (by omega)), if_pos (nI_lt hi (by omega))]
      have hii : inb (nI i) 4200 := inb_nI (by omega) (by omega)
      by_cases h2 : p2 = 0
      · refine w_ip h2 <| w_bnd l1 <| w_chk l2 <| w_chk (inb_nI (by omega) (by omega)) <| w_some ⟨mput M 0 0 0, ?_, hrel⟩
        rw [if_pos h2, chk_i hii, (l8 i hi).1]
      · refine w_in h2 <| w_bnd l1 <| w_chk l2 <| w_chk (inb_nI (by omega) (by omega)) <| w_some ⟨mput M 0 0 0, ?_, hrel⟩
        rw [if_neg h2, chk_i hii, (l8 i hi).2]
  obtain ⟨r, S', C, Z, e, M', e', h⟩ := key
  exact ⟨r, S', C, Z, M', e, e', h⟩
theorem st_part : St_part (Rel e0 d) d e0 := by
  intro t S M c z p1 p2 hfr ht hR
  obtain ⟨g, w, hE⟩ := ent_of hfr ht hR
  have hI1 := E1 hE
  have hN := Inv_nums hI1
  have hd := hI1.2.2.1.2.1
  refine step_of ?_
  rcases rg_run p1 hI1 with ⟨o, ho, e2, hD, hM⟩ | ⟨hD, hM⟩
  · obtain ⟨b1, b2, b3, b4⟩ := hI1.2.2.2.2.2.1.1 o ho
    have hio : inb (nI o) 3000 := inb_nI (by omega) (by omega)
    have co : (nI o).toNatClampNeg = o := nI_clamp (by omega)
    have hK := tk_K b4
    -- the reference's head
    have hMq : ∀ Q, RM (if mput M 0 0 0 2 o = 5 then if p2 = (-1) then some (2, mput M 0 0 0) else if p2 = 0 then some (mput M 0 0 0 8 o, mput M 0 0 0) else if p2 = 1 then some (mput M 0 0 0 9 o, mput M 0 0 0) else some (0, mput (mput M 0 0 0) 0 0 1) else if mput M 0 0 0 2 o = 4 ∨ mput M 0 0 0 2 o = 3 then q_part_96 (mput M 0 0 0) p2 (nI o) else some (0, mput (mput M 0 0 0) 0 0 1)) Q → RM (q_part M p1 p2) Q := by
      intro Q hQ
      unfold q_part
      refine m_lt <| m_b2 hM <| m_in i32_10 ?_
      rw [e2, co]
      refine m_chk hio ?_
      by_cases h5 : mput M 0 0 0 2 o = 5
      · rw [if_pos h5] at hQ ⊢
        by_cases u1 : p2 = -1
        · rw [if_pos u1] at hQ ⊢; exact hQ
        · rw [if_neg u1] at hQ ⊢
          by_cases u2 : p2 = 0
          · rw [if_pos u2] at hQ ⊢; exact m_chk hio hQ
          · rw [if_neg u2] at hQ ⊢
            by_cases u3 : p2 = 1
            · rw [if_pos u3] at hQ ⊢; exact m_chk hio hQ
            · rw [if_neg u3] at hQ ⊢; exact hQ
      · rw [if_neg h5] at hQ ⊢
        refine m_chk hio ?_
        by_cases h4 : mput M 0 0 0 2 o = 4
        · rw [if_pos (Or.inl h4)] at hQ; exact m_ip h4 hQ
        · refine m_in h4 <| m_chk hio ?_
          by_cases h3 : mput M 0 0 0 2 o = 3
          · rw [if_pos (Or.inr h3)] at hQ; exact m_ip h3 hQ
          · rw [if_neg (by intro h; rcases h with h | h; exact h4 h; exact h3 h)] at hQ; exact m_in h3 hQ
    have hth : RM (some ((0 : Int32), mput (mput M 0 0 0) 0 0 1)) (fun r' M' => okA ((1, 0) : Nat × Int32).1 ∧ M' 0 0 = cd1 ((1, 0) : Nat × Int32).1 ∧ (((1, 0) : Nat × Int32).1 = 0 → ((1, 0) : Nat × Int32).2 = r') ∧ Rel e0 d (t + 1) S.2 M' (c + 1) (z + 6)) := m_some (th_ok hE (by decide) (Or.inr rfl) rfl (by omega) (by omega))
    -- parts with a row b of N values f
    have hrow : ∀ (b N : Nat), dP S 1002 (g 0 o) = some b → dK S b = 20 → dL S b = N → N < 5000 → (∀ Q, (p2 = -1 → RM (some (nI N, mput M 0 0 0)) Q) → (∀ i, i < N → p2 = nI i → RM (some (dX S b i, mput M 0 0 0)) Q) → ((p2 < -1 ∨ nI N ≤ p2) → RM (some ((0 : Int32), mput (mput M 0 0 0) 0 0 1)) Q) → RM (q_part M p1 p2) Q) → RD (q_X11_part e0 S d p1 p2) (fun kr S' C Z => RM (q_part M p1 p2) (fun r' M' => okA kr.1 ∧ M' 0 0 = cd1 kr.1 ∧ (kr.1 = 0 → kr.2 = r') ∧ Rel e0 d (t + 1) S'.2 M' (c + C) (z + Z))) := by
      intro b N h1 h2 h3 h4 hQ
      have hreq : chk (dK S d = 12) (bndx none (q_X11_requireThing e0 S d p1) (fun r2 S3 => bnd r2 (fun b4 => chk (dK S3 b4 = 7 ∨ dK S3 b4 = 10 ∨ dK S3 b4 = 11) (if (dP S3 1002 b4) = none then some ((1, none), S3, 1, 6) else some ((0, (dP S3 1002 b4)), S3, 0, 0))))) = some ((0, some b), S, 0, 0) := by
        refine RD_eq ?_
        refine w_chk hd <| w_bx hD <| w_bnd rfl <| w_chk hK ?_
        rw [h1]
        exact w_in (by simp) <| w_some ⟨rfl, rfl, rfl, rfl⟩
      unfold q_X11_part q_X11_requireParts
      refine w_chk hd <| w_bx hreq ?_
      have hq0 : ∀ (r r' : Int32), r = r' → okA (0, r).1 ∧ mput M 0 0 0 0 0 = cd1 (0, r).1 ∧ ((0, r).1 = 0 → (0, r).2 = r') ∧ Rel e0 d (t + 1) S.2 (mput M 0 0 0) (c + 0) (z + 0) := fun r r' e => ok_ok hE (Or.inl rfl) rfl m00 e (Fin_q hE (by omega) (by omega))
      by_cases u1 : p2 = -1
      · refine w_ip u1 <| w_bnd rfl <| w_chk (Or.inl h2) <| w_some ?_
        rw [h3]
        refine hQ _ (fun _ => m_some (hq0 _ _ rfl)) (fun i hi e => ?_) (fun h => ?_)
        · rw [u1] at e; exact absurd e.symm (nI_m1 (by omega))
        · rcases h with h | h
          · rw [u1] at h; exact absurd h (by decide)
          · rw [u1] at h
            have : nI N ≤ -1 := h
            exact absurd (Int32.le_trans (nI_pos' (by omega)) this) (by decide)
      · refine w_in u1 <| w_bnd rfl <| w_chk (Or.inl h2) <| w_chk hd ?_
        rw [h3]
        unfold q_X11_requireRange
        rcases pk_ix p2 (n := N) (by omega) with h | h | ⟨i, hi, rfl⟩
        · refine w_bt (by rw [if_pos h]) (by decide) ?_
          refine hQ _ (fun e => absurd e u1) (fun i hi e => ?_) (fun _ => hth)
          rw [e] at h; exact absurd h (nI_pos (by omega))
        · by_cases h0 : p2 < 0
          · refine w_bt (by rw [if_pos h0]) (by decide) ?_
            refine hQ _ (fun e => absurd e u1) (fun i hi e => ?_) (fun _ => hth)
            rw [e] at h0; exact absurd h0 (nI_pos (by omega))
          · refine w_bt (by rw [if_neg h0, if_neg (fun e => Int32.not_lt.mpr h ((pred_le (by omega)).mp e))]) (by decide) ?_
            refine hQ _ (fun e => absurd e u1) (fun i hi e => ?_) (fun _ => hth)
            rw [e] at h; exact absurd h (nI_ge hi (by omega))
        · refine w_bx (r := 0) (S := S) (C := 0) (Z := 0) (by rw [if_neg (nI_pos (by omega)), if_pos ((pred_le (by omega)).mpr (nI_lt hi (by omega)))]) ?_
          rw [h3, nI_clamp (by omega)]
          refine w_chk h2 <| w_chk (inb_nI hi (by omega)) <| w_some ?_
          refine hQ _ (fun e => absurd e u1) (fun i' hi' e => ?_) (fun h => ?_)
          · have : i = i' := nI_inj (by omega) (by omega) e
            subst this
            exact m_some (hq0 _ _ rfl)
          · rcases h with h | h
            · exact absurd (Int32.lt_trans h (by decide : (-1 : Int32) < 0)) (nI_pos (by omega))
            · exact absurd h (nI_ge hi (by omega))
    have hno : dP S 1002 (g 0 o) = none → ¬ (mput M 0 0 0 2 o = 5) → ¬ (mput M 0 0 0 2 o = 4 ∨ mput M 0 0 0 2 o = 3) → RD (q_X11_part e0 S d p1 p2) (fun kr S' C Z => RM (q_part M p1 p2) (fun r' M' => okA kr.1 ∧ M' 0 0 = cd1 kr.1 ∧ (kr.1 = 0 → kr.2 = r') ∧ Rel e0 d (t + 1) S'.2 M' (c + C) (z + Z))) := by
      intro h1 h5 h43
      unfold q_X11_part q_X11_requireParts
      refine w_chk hd <| w_bt (k := 1) (r := none) (S := S) (C := 1) (Z := 6) ?_ (by decide) ?_
      · refine RD_eq ?_
        exact w_chk hd <| w_bx hD <| w_bnd rfl <| w_chk hK <| w_ip h1 <| w_some ⟨rfl, rfl, rfl, rfl⟩
      · refine hMq _ ?_
        rw [if_neg h5, if_neg h43]; exact hth
    rcases b4 with ⟨t1, t2, t3, -⟩ | ⟨t1, t2, t3, -⟩ | ⟨t1, t2, t3⟩ | ⟨t1, t2, q, q1, q2, q3, q4, q5, q6⟩ | ⟨t1, t2, b, q1, q2, q3, q4, q5, q6⟩
    · exact hno t3 (by rw [t1]; decide) (by rw [t1]; decide)
    · exact hno t3 (by rw [t1]; decide) (by rw [t1]; decide)
    · exact hno t3 (by rw [t1]; decide) (by rw [t1]; decide)
    · obtain ⟨k1, k2, k3, k4, k5, k6, k7, k8, r, k9, k10, k11⟩ := hI1.2.2.2.2.2.2.2.2.2.2.2 q q1
      have h5 : ¬ mput M 0 0 0 2 o = 5 := by rcases t1 with t1 | t1 <;> rw [t1] <;> decide
      have h43 : mput M 0 0 0 2 o = 4 ∨ mput M 0 0 0 2 o = 3 := by rcases t1 with t1 | t1; exact Or.inr t1; exact Or.inl t1
      have hx : ∀ i, i < g 16 q → dX S (g 5 q) i = mput M 0 0 0 39 (g 15 q + i) := by
        intro i hi
        rcases k11 with ⟨-, -, -, a4, -⟩ | ⟨a1, -⟩
        · exact a4 i hi (q6 i hi)
        · rw [q3] at a1; cases a1
      refine hrow (g 5 q) (g 16 q) q2 k6 k7 (by omega) (fun Q h1 h2 h3 => hMq Q ?_)
      rw [if_neg h5, if_pos h43]
      unfold q_part_96
      rw [co, q5, q4]
      by_cases u0 : p2 < -1
      · rw [if_pos u0]; exact h3 (Or.inl u0)
      · rw [if_neg u0, chk_i hio]
        by_cases u1 : p2 = -1
        · rw [if_pos (by rw [u1]; exact Int32.lt_of_lt_of_le (by decide : (-1 : Int32) < 0) (nI_pos' (by omega))), if_pos u1, chk_i hio]
          exact h1 u1
        · rcases pk_ix p2 (n := g 16 q) (by omega) with h | h | ⟨i, hi, rfl⟩
          · exfalso
            apply u1
            have e1 : (-1 : Int32).toInt = -1 := by decide
            have e0 : (0 : Int32).toInt = 0 := by decide
            rw [Int32.lt_iff_toInt_lt] at h u0
            apply Int32.toInt_inj.mp
            rw [e1] at u0 ⊢
            rw [e0] at h
            omega
          · rw [if_neg (Int32.not_lt.mpr h)]; exact h3 (Or.inr h)
          · rw [if_pos (nI_lt hi (by omega)), if_neg u1, chk_i hio, nI_add, nI_clamp (by omega), chk_i (inb_nI (by omega) (by omega)), ← hx i hi]
            exact h2 i hi rfl
    · refine hrow b 2 q1 q2 q3 (by omega) (fun Q h1 h2 h3 => hMq Q ?_)
      rw [if_pos t1]
      by_cases u1 : p2 = -1
      · rw [if_pos u1]; exact h1 u1
      · rw [if_neg u1]
        by_cases u2 : p2 = 0
        · rw [if_pos u2, ← q5]; exact h2 0 (by omega) (by rw [u2]; rfl)
        · rw [if_neg u2]
          by_cases u3 : p2 = 1
          · rw [if_pos u3, ← q6]; exact h2 1 (by omega) (by rw [u3]; rfl)
          · rw [if_neg u3]
            apply h3
            rcases pk_ix p2 (n := 2) (by omega) with h | h | ⟨i, hi, rfl⟩
            · left
              have e1 : (-1 : Int32).toInt = -1 := by decide
              have e0 : (0 : Int32).toInt = 0 := by decide
              rw [Int32.lt_iff_toInt_lt] at h ⊢
              rw [e0] at h
              rw [e1]
              have : p2.toInt ≠ -1 := fun e => u1 (Int32.toInt_inj.mp (by rw [e, e1]))
              omega
            · exact Or.inr h
            · exfalso
              have : i = 0 ∨ i = 1 := by omega
              rcases this with rfl | rfl
              · exact u2 rfl
              · exact u3 rfl
  · unfold q_X11_part q_X11_requireParts q_part
    refine w_chk hd <| w_bt (k := 1) (r := none) (S := S) (C := 1) (Z := 6) ?_ (by decide) ?_
    · exact RD_eq (w_chk hd <| w_bt hD (by decide) ⟨rfl, rfl, rfl, rfl⟩)
    · exact m_lt <| m_b2 hM <| m_ip rfl <| m_b2 fails_eq <| m_some (th_ok hE (by decide) (Or.inr rfl) rfl (by omega) (by omega))
end FAC
