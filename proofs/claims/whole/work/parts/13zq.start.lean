section STA
variable {e0 d t x n c z : Nat}
def g00 (n e0 : Nat) : GH := fun k i => if k = 14 ∧ i = 2 then n + 1 else if k = 14 ∧ i = 3 then n + 2 else if k = 14 ∧ i = 4 then e0 else if k = 14 ∧ i = 5 then e0 else if k = 14 ∧ i = 6 then n + 3 else if k = 14 ∧ i = 7 then n + 4 else if k = 12 ∧ i = n + 3 then 1 else if k = 12 ∧ i = n + 4 then 2 else 0
theorem init_run (he : e0 < n) : RD (q_X11_init e0 (sO (S00 e0 n) 12) n) (fun r S C Z => r = 0 ∧ C = 4 ∧ Z = 270 ∧ Inv e0 n 0 0 (g00 n e0) (fun _ => []) S (fun _ _ => 0)) := by
  have hK0 : dK (sO (S00 e0 n) 12) n = 12 := by
    rw [r_KO]; exact if_pos rfl
  obtain ⟨S, hS⟩ : ∃ X, X = sO (S00 e0 n) 12 := ⟨_, rfl⟩
  have sn : dn S = n + 1 := by rw [hS, r_nO]; rfl
  have sK : ∀ b, dK S b = if b = n then 12 else if b = e0 then 21 else 0 := fun b => by rw [hS, r_KO]; rfl
  have sL : ∀ b, dL S b = 0 := fun b => by rw [hS, r_LO]; rfl
  have sIv : ∀ f b, dI S f b = 0 := fun f b => by rw [hS, r_IO]; split <;> rfl
  have sPv : ∀ f b, dP S f b = none := fun f b => by rw [hS, r_PO]; split <;> rfl
  rw [← hS]
  clear hS hK0
  have n200 : (200 : Int32).toNatClampNeg = 200 := by decide
  have n64 : (64 : Int32).toNatClampNeg = 64 := by decide
  obtain ⟨S24, hS24⟩ : ∃ X, X = sP (sAI (sP (sAI (sP (sP (sI (sO (sP (sP (sI (sO S 1) 0 (n + 1) 0) 1 (n + 1) (some e0)) 1100 n (some (n + 1))) 1) 0 (n + 2) 0) 1 (n + 2) (some e0)) 1101 n (some (n + 2))) 200 (fun _ => 0)) 1102 n (some (n + 3))) 64 (fun _ => 0)) 1104 n (some (n + 4)) := ⟨_, rfl⟩
  have d1 : dn (sO S 1) = n + 2 := by rw [r_nO, sn]
  have fK : ∀ b, dK S24 b = if b = n + 4 then 20 else if b = n + 3 then 20 else if b = n + 2 then 1 else if b = n + 1 then 1 else if b = n then 12 else if b = e0 then 21 else 0 := by
    intro b
    rw [hS24]
    simp only [r_KP, r_KA, r_KI, r_KO, r_nP, r_nA, r_nI, r_nO, sn, sK]
  have fn' : dn S24 = n + 5 := by
    rw [hS24]; simp only [r_nP, r_nA, r_nI, r_nO, sn]
  have fL : ∀ b, dL S24 b = if b = n + 4 then 64 else if b = n + 3 then 200 else 0 := by
    intro b
    rw [hS24]
    simp only [r_LP, r_LA, r_LI, r_LO, r_nP, r_nA, r_nI, r_nO, sn, sL]
  have fI : ∀ f b, dI S24 f b = 0 := by
    intro f b
    rw [hS24]
    simp only [r_IP, r_IA, r_II, r_IO, sIv]
    simp
  have fP : ∀ f b, dP S24 f b = if f = 1104 ∧ b = n then some (n + 4) else if f = 1102 ∧ b = n then some (n + 3) else if f = 1101 ∧ b = n then some (n + 2) else if f = 1 ∧ b = n + 2 then some e0 else if b = n + 2 then none else if f = 1100 ∧ b = n then some (n + 1) else if f = 1 ∧ b = n + 1 then some e0 else none := by
    intro f b
    rw [hS24]
    simp only [r_PP, r_PA, r_PI, r_PO, r_nP, r_nA, r_nI, r_nO, sn, sPv]
    simp
  have z9 : ∀ i, g00 n e0 9 i = 0 := by intro i; unfold g00; simp
  have g2 : g00 n e0 14 2 = n + 1 := by unfold g00; simp
  have g3 : g00 n e0 14 3 = n + 2 := by unfold g00; simp
  have g4 : g00 n e0 14 4 = e0 := by unfold g00; simp
  have g5 : g00 n e0 14 5 = e0 := by unfold g00; simp
  have g6 : g00 n e0 14 6 = n + 3 := by unfold g00; simp
  have g7 : g00 n e0 14 7 = n + 4 := by unfold g00; simp
  have g12a : g00 n e0 12 (n + 3) = 1 := by unfold g00; simp
  have g12b : g00 n e0 12 (n + 4) = 2 := by unfold g00; simp
  have h0 : (0 : Int32) = nI 0 := nI_0.symm
  have hInv : Inv e0 n 0 0 (g00 n e0) (fun _ => []) S24 (fun _ _ => 0) := by
    refine ⟨?_, ?_, ?_, ?_, ?_, ⟨fun o ho => ?_, fun o _ => rfl⟩, fun r hr => ?_, fun r hr => ?_, fun r hr => ?_, ⟨fun o ho => ?_, fun o _ => rfl⟩, ?_, fun r hr => ?_⟩
    · unfold A_cnt
      simp only [z9]
      exact ⟨h0, h0, h0, h0, h0, h0, h0, h0, h0, h0⟩
    · unfold A_bd
      simp only [z9]
      simp [sumN]
    · unfold A_desk AL
      rw [g2, g3, g4, g5, z9, z9]
      refine ⟨fun a ha => ?_, ?_, ?_, ?_, ?_, ?_, by omega, ⟨?_, ?_, ?_, ?_, by omega, ?_, fun _ => rfl, fun i hi => absurd hi (by omega)⟩, ⟨?_, ?_, ?_, ?_, by omega, ?_, fun _ => rfl, fun i hi => absurd hi (by omega)⟩, fun _ => rfl⟩
      · rw [fn']
        rw [fK] at ha
        by_cases h : a < n + 5
        · exact h
        · rw [if_neg (by omega), if_neg (by omega), if_neg (by omega), if_neg (by omega), if_neg (by omega), if_neg (by omega)] at ha
          exact absurd rfl ha
      · rw [fK, if_neg (by omega), if_neg (by omega), if_neg (by omega), if_neg (by omega), if_pos rfl]
      · rw [fK, if_neg (by omega), if_neg (by omega), if_neg (by omega), if_neg (by omega), if_neg (by omega), if_pos rfl]
      · rw [fL, if_neg (by omega), if_neg (by omega)]
      · rw [fP, if_neg (by omega), if_neg (by omega), if_neg (by omega), if_neg (by omega), if_neg (by omega), if_pos ⟨rfl, rfl⟩]
      · rw [fP, if_neg (by omega), if_neg (by omega), if_pos ⟨rfl, rfl⟩]
      · rw [fK, if_neg (by omega), if_neg (by omega), if_neg (by omega), if_pos rfl]
      · rw [fP, if_neg (by omega), if_neg (by omega), if_neg (by omega), if_neg (by omega), if_neg (by omega), if_neg (by omega), if_pos ⟨rfl, rfl⟩]
      · rw [fK, if_neg (by omega), if_neg (by omega), if_neg (by omega), if_neg (by omega), if_neg (by omega), if_pos rfl]
      · rw [fI]; exact h0
      · rw [fL, if_neg (by omega), if_neg (by omega)]; omega
      · rw [fK, if_neg (by omega), if_neg (by omega), if_pos rfl]
      · rw [fP, if_neg (by omega), if_neg (by omega), if_neg (by omega), if_pos ⟨rfl, rfl⟩]
      · rw [fK, if_neg (by omega), if_neg (by omega), if_neg (by omega), if_neg (by omega), if_neg (by omega), if_pos rfl]
      · rw [fI]; exact h0
      · rw [fL, if_neg (by omega), if_neg (by omega)]; omega
    · unfold A_log
      rw [g7, z9, g12b]
      refine ⟨?_, ?_, rfl, ?_, ?_, ?_, ?_, fun i hi => absurd hi (by omega)⟩
      · rw [fP, if_pos ⟨rfl, rfl⟩]
      · rw [fK, if_pos rfl]
      · rw [fI]; exact h0
      · rw [fL, if_pos rfl]; omega
      · rw [fL, if_pos rfl]; omega
      · rw [fL, if_pos rfl]; omega
    · unfold A_itm
      rw [g6, z9, g12a]
      refine ⟨?_, ?_, rfl, ?_, ?_, fun i hi => absurd hi (by omega)⟩
      · rw [fP, if_neg (by omega), if_pos ⟨rfl, rfl⟩]
      · rw [fK, if_neg (by omega), if_pos rfl]
      · rw [fL, if_neg (by omega), if_pos rfl]
      · rw [fI]; exact h0
    · rw [z9] at ho; omega
    · rw [z9] at hr; omega
    · rw [z9] at hr; omega
    · rw [z9] at hr; omega
    · rw [z9] at ho; omega
    · unfold A_Q
      simp only [z9]
      refine ⟨by rw [fI]; exact h0, fun _ => ⟨?_, ?_⟩, fun h => absurd h (by omega), fun j _ h => absurd h (by omega), fun j _ h => absurd h (by omega)⟩
      · rw [fP, if_neg (by omega), if_neg (by omega), if_neg (by omega), if_neg (by omega), if_neg (by omega), if_neg (by omega), if_neg (by omega)]
      · rw [fP, if_neg (by omega), if_neg (by omega), if_neg (by omega), if_neg (by omega), if_neg (by omega), if_neg (by omega), if_neg (by omega)]
    · rw [z9] at hr; omega
  unfold q_X11_init q_Jx4a65c_init_da8c8 q_Jxc12de_init_da8c8 q_Jxa1e45_init_da8c8
  rw [n200, n64, sn]
  have kn1 : ¬ n = n + 1 := by omega
  refine w_tick <| w_lt <| w_lt <| w_bndc <| w_bndc <| w_bndc <| w_some <| w_chk (by rw [r_KO, sn, if_pos rfl]) <| w_lt <| w_some <| w_chk (by rw [r_KI, r_KO, sn, if_pos rfl]) <| w_lt <| w_some <| w_chk (by simp only [r_KP, r_KI, r_KO, sn, sK]; simp; all_goals omega) <| w_lt ?_
  have dn2 : dn (sP (sP (sI (sO S 1) 0 (n + 1) 0) 1 (n + 1) (some e0)) 1100 n (some (n + 1))) = n + 2 := by simp only [r_nP, r_nI, r_nO, sn]
  rw [dn2]
  refine w_tick <| w_lt <| w_lt <| w_bndc <| w_bndc <| w_bndc <| w_some <| w_chk (by rw [r_KO, dn2, if_pos rfl]) <| w_lt <| w_some <| w_chk (by rw [r_KI, r_KO, dn2, if_pos rfl]) <| w_lt <| w_some <| w_chk (by simp only [r_KP, r_KI, r_KO, r_nP, r_nI, r_nO, sn, sK]; simp; all_goals omega) <| w_lt <| w_chk (by decide) <| w_tick ?_
  have dn3 : dn (sP (sP (sI (sO (sP (sP (sI (sO S 1) 0 (n + 1) 0) 1 (n + 1) (some e0)) 1100 n (some (n + 1))) 1) 0 (n + 2) 0) 1 (n + 2) (some e0)) 1101 n (some (n + 2))) = n + 3 := by simp only [r_nP, r_nI, r_nO, sn]
  rw [dn3]
  refine w_lt <| w_lt <| w_chk (by simp only [r_KA, r_KP, r_KI, r_KO, r_nP, r_nI, r_nO, sn, sK]; rw [if_neg (by omega), if_neg (by omega), if_neg (by omega), if_pos trivial]) <| w_lt <| w_chk (by decide) <| w_tick ?_
  have dn4 : dn (sP (sAI (sP (sP (sI (sO (sP (sP (sI (sO S 1) 0 (n + 1) 0) 1 (n + 1) (some e0)) 1100 n (some (n + 1))) 1) 0 (n + 2) 0) 1 (n + 2) (some e0)) 1101 n (some (n + 2))) 200 (fun _ => 0)) 1102 n (some (n + 3))) = n + 4 := by simp only [r_nP, r_nA, r_nI, r_nO, sn]
  rw [dn4]
  refine w_lt <| w_lt <| w_chk (by simp only [r_KA, r_KP, r_KI, r_KO, r_nA, r_nP, r_nI, r_nO, sn, sK]; rw [if_neg (by omega), if_neg (by omega), if_neg (by omega), if_neg (by omega), if_pos trivial]) <| w_lt <| w_some ⟨rfl, rfl, rfl, ?_⟩
  rw [← hS24]
  exact hInv
theorem relAll : RelAll := by
  intro e0 n he
  obtain ⟨r, S2, C, Z, e, rfl, rfl, rfl, hI⟩ := init_run he
  refine ⟨Rel e0 n, S2, 4, 270, e, ⟨?_, ?_, st_promise, st_handler, st_thenable, st_settle, st_later, st_then, st_lastly, st_wrap, st_broken, st_item, st_combine, st_async, st_jobs, st_state, st_result, st_kind, st_part, st_log, st_count⟩, ?_⟩
  · rintro t T M c z ⟨m, g, w, h, -, hc, hz⟩
    have hN := Inv_nums h
    have l4 := h.2.2.1.2.2.2.2.2.2.2.1.2.2.2.2.2.1
    have l5 := h.2.2.1.2.2.2.2.2.2.2.2.1.2.2.2.2.2.1
    have l7 := h.2.2.2.1.2.2.2.2.2.1
    have hd : dK (m, T) n = 12 := h.2.2.1.2.1
    unfold pc at hc
    unfold pz at hz
    exact ⟨by omega, by omega, hd⟩
  · rintro t T M c z ht ⟨m, g, w, h, hop, hc, hz⟩
    exact ⟨m, g, w, Inv_up h ht, hop, by omega, by omega⟩
  · refine ⟨S2.1, g00 n e0, fun _ => [], hI, ?_, by omega, by omega⟩
    unfold g00; simp
end STA
