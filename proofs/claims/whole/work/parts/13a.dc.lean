set_option maxHeartbeats 4000000 in
set_option maxRecDepth 100000 in
theorem c_X0_init {l : Launch} (hst : l.stackTraces = false) {D : va_G} {A : Nat → Prop} {G : DG} (S : DS) (d : Nat) (p1 : Option Nat) (p2 : Option Nat) (p3 : Int32) (p4 : Option Nat) {r : Int32} {S' : DS} {TC TZ : Nat} (hq : q_X0_init G.2.2 S d p1 p2 p3 p4 = some (r, S', TC, TZ)) : Met l yX0_init (wM yX0_init cX0_init 5 none) (rD 1 20 TC TZ) (va_Pc [.ref d, va_rf p1, va_rf p2, .int p3, va_rf p4] (dPre D A G S)) (dQv D A G S') TC TZ A := by
  obtain ⟨C, Z, hq, hT⟩ : ∃ C Z, q_X0_init G.2.2 S d p1 p2 p3 p4 = some (r, S', C, Z) ∧ (0 + C = (rD 1 20 TC TZ).cells ∧ 0 + Z = (rD 1 20 TC TZ).slots) := ⟨TC, TZ, hq, Nat.zero_add _, Nat.zero_add _⟩
  refine d_head hst (by decide) (by cases p1 <;> cases p2 <;> cases p4 <;> exact Nat.le_of_ble_eq_true rfl) ?_
  intro p e s m args below meth c ls B hW hl
  have hx := B.1
  have hb := B.2.1
  have hl : lv_has ls 5 [(0, .ref d), (1, va_rf p1), (2, va_rf p2), (3, .int p3), (4, va_rf p4)] := by cases p1 <;> cases p2 <;> cases p4 <;> exact hl
  unfold q_X0_init at hq
  refine lv_aload_n hx hb dX0_init_0 rfl (lv_at hl 0 rfl) ?_
  refine d_oinit B hl.1 u_698 u_34 u_35 ⟨Nat.le_of_ble_eq_true rfl, Nat.le_of_ble_eq_true rfl⟩ dX0_init_1 ?_
  refine lv_aload_n hx hb dX0_init_4 rfl (lv_at hl 0 rfl) ?_
  refine d_aload_n hx hb dX0_init_5 rfl (lv_at hl 1 rfl) ?_
  obtain ⟨hk1, hq⟩ := chk_e hq
  refine d_put B hW (ci := 1) inT_1 tyX0 tyX0_ok nmX0 rfl (dF_1 hk1) (by rw [hk1]; decide) (by rw [hk1]; decide) 0 (by decide) u_699 (Or.inl rfl) (Or.inr ⟨rfl, rfl, rfl⟩) (ty := (.array .int)) (tyX0_ok 0 (by decide)) rf_nA rf_fA (Nat.le_of_ble_eq_true rfl) (S1 := sP S 100 d p1) (ds_1_0 hk1 p1) ⟨rfl, rfl, rfl⟩ (fun b hb => dF_sP hb) dX0_init_6 (fun H locs hW => ?_)
  obtain ⟨S2, eS⟩ : ∃ z, z = sP S 100 d p1 := ⟨_, rfl⟩
  rw [← eS] at hW
  replace hq := lt9_u eS hq
  have hk3 : dK S2 d = 2 := by rw [eS]; exact hk1
  clear eS
  refine lv_aload_n hx hb dX0_init_9 rfl (lv_at hl 0 rfl) ?_
  refine d_aload_n hx hb dX0_init_10 rfl (lv_at hl 2 rfl) ?_
  refine d_put B hW (ci := 1) inT_1 tyX0 tyX0_ok nmX0 rfl (dF_1 hk3) (by rw [hk3]; decide) (by rw [hk3]; decide) 1 (by decide) u_701 (Or.inl rfl) (Or.inr ⟨rfl, rfl, rfl⟩) (ty := (.object "PromiseDesk$Simple")) (tyX0_ok 1 (by decide)) rf_nO rf_fO (Nat.le_of_ble_eq_true rfl) (S1 := sP S2 101 d p2) (ds_1_1 hk3 p2) ⟨rfl, rfl, rfl⟩ (fun b hb => dF_sP hb) dX0_init_11 (fun H locs hW => ?_)
  obtain ⟨S4, eS⟩ : ∃ z, z = sP S2 101 d p2 := ⟨_, rfl⟩
  rw [← eS] at hW
  replace hq := lt9_u eS hq
  have hk5 : dK S4 d = 2 := by rw [eS]; exact hk3
  clear eS
  refine lv_aload_n hx hb dX0_init_14 rfl (lv_at hl 0 rfl) ?_
  refine lv_iload_n hx hb dX0_init_15 rfl (lv_at hl 3 rfl) ?_
  refine d_put B hW (ci := 1) inT_1 tyX0 tyX0_ok nmX0 rfl (dF_1 hk5) (by rw [hk5]; decide) (by rw [hk5]; decide) 2 (by decide) u_703 (Or.inl rfl) (Or.inr ⟨rfl, rfl, rfl⟩) (ty := .int) (tyX0_ok 2 (by decide)) rfl rfl (Nat.le_of_ble_eq_true rfl) (S1 := sI S4 102 d p3) (ds_1_2 hk5 p3) ⟨rfl, rfl, rfl⟩ (fun b hb => dF_sI hb) dX0_init_16 (fun H locs hW => ?_)
  obtain ⟨S6, eS⟩ : ∃ z, z = sI S4 102 d p3 := ⟨_, rfl⟩
  rw [← eS] at hW
  replace hq := lt9_u eS hq
  have hk7 : dK S6 d = 2 := by rw [eS]; exact hk5
  clear eS
  refine lv_aload_n hx hb dX0_init_19 rfl (lv_at hl 0 rfl) ?_
  refine d_aload hx hb dX0_init_20 (lv_at hl 4 rfl) ?_
  refine d_put B hW (ci := 1) inT_1 tyX0 tyX0_ok nmX0 rfl (dF_1 hk7) (by rw [hk7]; decide) (by rw [hk7]; decide) 3 (by decide) u_705 (Or.inl rfl) (Or.inr ⟨rfl, rfl, rfl⟩) (ty := (.object "PromiseDesk$Resolvers")) (tyX0_ok 3 (by decide)) rf_nO rf_fO (Nat.le_of_ble_eq_true rfl) (S1 := sP S6 103 d p4) (ds_1_3 hk7 p4) ⟨rfl, rfl, rfl⟩ (fun b hb => dF_sP hb) dX0_init_22 (fun H locs hW => ?_)
  obtain ⟨S8, eS⟩ : ∃ z, z = sP S6 103 d p4 := ⟨_, rfl⟩
  rw [← eS] at hW
  replace hq := lt9_u eS hq
  have hk9 : dK S8 d = 2 := by rw [eS]; exact hk7
  clear eS
  exact d_vret B hW hq hT dX0_init_25
set_option maxHeartbeats 4000000 in
set_option maxRecDepth 100000 in
theorem c_X1_init {l : Launch} (hst : l.stackTraces = false) {D : va_G} {A : Nat → Prop} {G : DG} (S : DS) (d : Nat) (p1 : Int32) (p2 : Int32) (p3 : Option Nat) {r : Int32} {S' : DS} {TC TZ : Nat} (hq : q_X1_init G.2.2 S d p1 p2 p3 = some (r, S', TC, TZ)) : Met l yX1_init (wM yX1_init cX1_init 4 none) (rD 1 20 TC TZ) (va_Pc [.ref d, .int p1, .int p2, va_rf p3] (dPre D A G S)) (dQv D A G S') TC TZ A := by
  obtain ⟨C, Z, hq, hT⟩ : ∃ C Z, q_X1_init G.2.2 S d p1 p2 p3 = some (r, S', C, Z) ∧ (0 + C = (rD 1 20 TC TZ).cells ∧ 0 + Z = (rD 1 20 TC TZ).slots) := ⟨TC, TZ, hq, Nat.zero_add _, Nat.zero_add _⟩
  refine d_head hst (by decide) (by cases p3 <;> exact Nat.le_of_ble_eq_true rfl) ?_
  intro p e s m args below meth c ls B hW hl
  have hx := B.1
  have hb := B.2.1
  have hl : lv_has ls 4 [(0, .ref d), (1, .int p1), (2, .int p2), (3, va_rf p3)] := by cases p3 <;> exact hl
  unfold q_X1_init at hq
  refine lv_aload_n hx hb dX1_init_0 rfl (lv_at hl 0 rfl) ?_
  refine d_oinit B hl.1 u_630 u_34 u_35 ⟨Nat.le_of_ble_eq_true rfl, Nat.le_of_ble_eq_true rfl⟩ dX1_init_1 ?_
  refine lv_aload_n hx hb dX1_init_4 rfl (lv_at hl 0 rfl) ?_
  refine lv_iload_n hx hb dX1_init_5 rfl (lv_at hl 1 rfl) ?_
  obtain ⟨hk1, hq⟩ := chk_e hq
  refine d_put B hW (ci := 2) inT_2 tyX1 tyX1_ok nmX1 rfl (dF_2 hk1) (by rw [hk1]; decide) (by rw [hk1]; decide) 0 (by decide) u_631 (Or.inl rfl) (Or.inr ⟨rfl, rfl, rfl⟩) (ty := .int) (tyX1_ok 0 (by decide)) rfl rfl (Nat.le_of_ble_eq_true rfl) (S1 := sI S 200 d p1) (ds_2_0 hk1 p1) ⟨rfl, rfl, rfl⟩ (fun b hb => dF_sI hb) dX1_init_6 (fun H locs hW => ?_)
  obtain ⟨S2, eS⟩ : ∃ z, z = sI S 200 d p1 := ⟨_, rfl⟩
  rw [← eS] at hW
  replace hq := lt9_u eS hq
  have hk3 : dK S2 d = 3 := by rw [eS]; exact hk1
  clear eS
  refine lv_aload_n hx hb dX1_init_9 rfl (lv_at hl 0 rfl) ?_
  refine lv_iload_n hx hb dX1_init_10 rfl (lv_at hl 2 rfl) ?_
  obtain ⟨hn, hq⟩ := chk_e hq
  obtain ⟨C1, Z1, hq2, rfl, rfl⟩ := tick_e hq
  replace hq := hq2
  clear hq2
  refine d_newI B hW u_96 hn hT dX1_init_11 (fun H cells slots q4 S5 eq eS hW hT => ?_)
  replace hq := lt9_u eq hq
  replace hq := lt9_u eS hq
  have hkq4 : dK S5 q4 = 20 := by rw [eS, eq]; exact va_up_self _ _ _
  clear eS eq
  obtain ⟨hk6, hq⟩ := chk_e hq
  refine d_put B hW (ci := 2) inT_2 tyX1 tyX1_ok nmX1 rfl (dF_2 hk6) (by rw [hk6]; decide) (by rw [hk6]; decide) 1 (by decide) u_634 (Or.inl rfl) (Or.inr ⟨rfl, rfl, rfl⟩) (ty := (.array .int)) (tyX1_ok 1 (by decide)) rfl rfl (Nat.le_of_ble_eq_true rfl) (S1 := sP S5 201 d (some q4)) (ds_2_1 hk6 (some q4)) ⟨rfl, rfl, rfl⟩ (fun b hb => dF_sP hb) dX1_init_13 (fun H locs hW => ?_)
  obtain ⟨S7, eS⟩ : ∃ z, z = sP S5 201 d (some q4) := ⟨_, rfl⟩
  rw [← eS] at hW
  replace hq := lt9_u eS hq
  have hk8 : dK S7 q4 = 20 := by rw [eS]; exact hkq4
  have hk9 : dK S7 d = 3 := by rw [eS]; exact hk6
  clear eS
  refine lv_aload_n hx hb dX1_init_16 rfl (lv_at hl 0 rfl) ?_
  refine d_aload_n hx hb dX1_init_17 rfl (lv_at hl 3 rfl) ?_
  refine d_put B hW (ci := 2) inT_2 tyX1 tyX1_ok nmX1 rfl (dF_2 hk9) (by rw [hk9]; decide) (by rw [hk9]; decide) 2 (by decide) u_637 (Or.inl rfl) (Or.inr ⟨rfl, rfl, rfl⟩) (ty := (.object "PromiseDesk$Resolvers")) (tyX1_ok 2 (by decide)) rf_nO rf_fO (Nat.le_of_ble_eq_true rfl) (S1 := sP S7 202 d p3) (ds_2_2 hk9 p3) ⟨rfl, rfl, rfl⟩ (fun b hb => dF_sP hb) dX1_init_18 (fun H locs hW => ?_)
  obtain ⟨S10, eS⟩ : ∃ z, z = sP S7 202 d p3 := ⟨_, rfl⟩
  rw [← eS] at hW
  replace hq := lt9_u eS hq
  have hk11 : dK S10 q4 = 20 := by rw [eS]; exact hk8
  have hk12 : dK S10 d = 3 := by rw [eS]; exact hk9
  clear eS
  refine lv_aload_n hx hb dX1_init_21 rfl (lv_at hl 0 rfl) ?_
  refine lv_iload_n hx hb dX1_init_22 rfl (lv_at hl 2 rfl) ?_
  refine d_put B hW (ci := 2) inT_2 tyX1 tyX1_ok nmX1 rfl (dF_2 hk12) (by rw [hk12]; decide) (by rw [hk12]; decide) 3 (by decide) u_639 (Or.inl rfl) (Or.inl rfl) (ty := .int) (tyX1_ok 3 (by decide)) rfl rfl (Nat.le_of_ble_eq_true rfl) (S1 := sI S10 203 d p2) (ds_2_3 hk12 p2) ⟨rfl, rfl, rfl⟩ (fun b hb => dF_sI hb) dX1_init_23 (fun H locs hW => ?_)
  obtain ⟨S13, eS⟩ : ∃ z, z = sI S10 203 d p2 := ⟨_, rfl⟩
  rw [← eS] at hW
  replace hq := lt9_u eS hq
  have hk14 : dK S13 q4 = 20 := by rw [eS]; exact hk11
  have hk15 : dK S13 d = 3 := by rw [eS]; exact hk12
  clear eS
  exact d_vret B hW hq hT dX1_init_26
set_option maxHeartbeats 4000000 in
set_option maxRecDepth 100000 in
theorem c_X3_init {l : Launch} (hst : l.stackTraces = false) {D : va_G} {A : Nat → Prop} {G : DG} (S : DS) (d : Nat) {r : Int32} {S' : DS} {TC TZ : Nat} (hq : q_X3_init G.2.2 S d = some (r, S', TC, TZ)) : Met l yX3_init (wM yX3_init cX3_init 1 none) (rD 1 20 TC TZ) (va_Pc [.ref d] (dPre D A G S)) (dQv D A G S') TC TZ A := by
  obtain ⟨C, Z, hq, hT⟩ : ∃ C Z, q_X3_init G.2.2 S d = some (r, S', C, Z) ∧ (0 + C = (rD 1 20 TC TZ).cells ∧ 0 + Z = (rD 1 20 TC TZ).slots) := ⟨TC, TZ, hq, Nat.zero_add _, Nat.zero_add _⟩
  refine d_head hst (by decide) (Nat.le_of_ble_eq_true rfl) ?_
  intro p e s m args below meth c ls B hW hl
  have hx := B.1
  have hb := B.2.1
  have hl : lv_has ls 1 [(0, .ref d)] := hl
  unfold q_X3_init at hq
  refine lv_aload_n hx hb dX3_init_0 rfl (lv_at hl 0 rfl) ?_
  refine d_oinit B hl.1 u_386 u_34 u_35 ⟨Nat.le_of_ble_eq_true rfl, Nat.le_of_ble_eq_true rfl⟩ dX3_init_1 ?_
  exact d_vret B hW hq hT dX3_init_4
set_option maxHeartbeats 4000000 in
set_option maxRecDepth 100000 in
theorem c_X2_init {l : Launch} (hst : l.stackTraces = false) {D : va_G} {A : Nat → Prop} {G : DG} (S : DS) (d : Nat) (p1 : Option Nat) (p2 : Int32) (p3 : Int32) {r : Int32} {S' : DS} {TC TZ : Nat} (hq : q_X2_init G.2.2 S d p1 p2 p3 = some (r, S', TC, TZ)) : Met l yX2_init (wM yX2_init cX2_init 4 none) (rD 2 40 TC TZ) (va_Pc [.ref d, va_rf p1, .int p2, .int p3] (dPre D A G S)) (dQv D A G S') TC TZ A := by
  obtain ⟨C, Z, hq, hT⟩ : ∃ C Z, q_X2_init G.2.2 S d p1 p2 p3 = some (r, S', C, Z) ∧ (0 + C = (rD 2 40 TC TZ).cells ∧ 0 + Z = (rD 2 40 TC TZ).slots) := ⟨TC, TZ, hq, Nat.zero_add _, Nat.zero_add _⟩
  refine d_head hst (by decide) (by cases p1 <;> exact Nat.le_of_ble_eq_true rfl) ?_
  intro p e s m args below meth c ls B hW hl
  have hx := B.1
  have hb := B.2.1
  have hl : lv_has ls 4 [(0, .ref d), (1, va_rf p1), (2, .int p2), (3, .int p3)] := by cases p1 <;> exact hl
  unfold q_X2_init at hq
  refine lv_aload_n hx hb dX2_init_0 rfl (lv_at hl 0 rfl) ?_
  obtain ⟨r1, S2, C1, Z1, C2, Z2, hg, hq2, rfl, rfl⟩ := bndc_e hq
  replace hq := hq2
  clear hq2
  refine d_rv (d_runIN (As := []) (rest := []) B hW hl.1 (c_X3_init B.2.2.2.2.2.2.2.2.2.2 S d hg) un_11 u_384 u_20 u_385 rfl y1_X3_init rfl ⟨Nat.le_of_ble_eq_true rfl, Nat.le_of_ble_eq_true rfl⟩ hT rfl (Nat.le_of_ble_eq_true rfl) dX2_init_1) hW hT (fun H locs cells slots hW hT => ?_)
  clear hg
  refine lv_aload_n hx hb dX2_init_4 rfl (lv_at hl 0 rfl) ?_
  refine d_aload_n hx hb dX2_init_5 rfl (lv_at hl 1 rfl) ?_
  obtain ⟨hk3, hq⟩ := chk_e hq
  refine d_put B hW (ci := 3) inT_3 tyX2 tyX2_ok nmX2 rfl (dF_3 hk3) (by rw [hk3]; decide) (by rw [hk3]; decide) 0 (by decide) u_660 (Or.inl rfl) (Or.inr ⟨rfl, rfl, rfl⟩) (ty := (.object "PromiseDesk$Combination")) (tyX2_ok 0 (by decide)) rf_nO rf_fO (Nat.le_of_ble_eq_true rfl) (S1 := sP S2 300 d p1) (ds_3_0 hk3 p1) ⟨rfl, rfl, rfl⟩ (fun b hb => dF_sP hb) dX2_init_6 (fun H locs hW => ?_)
  obtain ⟨S4, eS⟩ : ∃ z, z = sP S2 300 d p1 := ⟨_, rfl⟩
  rw [← eS] at hW
  replace hq := lt9_u eS hq
  have hk5 : dK S4 d = 4 := by rw [eS]; exact hk3
  clear eS
  refine lv_aload_n hx hb dX2_init_9 rfl (lv_at hl 0 rfl) ?_
  refine lv_iload_n hx hb dX2_init_10 rfl (lv_at hl 2 rfl) ?_
  refine d_put B hW (ci := 3) inT_3 tyX2 tyX2_ok nmX2 rfl (dF_3 hk5) (by rw [hk5]; decide) (by rw [hk5]; decide) 1 (by decide) u_661 (Or.inl rfl) (Or.inr ⟨rfl, rfl, rfl⟩) (ty := .int) (tyX2_ok 1 (by decide)) rfl rfl (Nat.le_of_ble_eq_true rfl) (S1 := sI S4 301 d p2) (ds_3_1 hk5 p2) ⟨rfl, rfl, rfl⟩ (fun b hb => dF_sI hb) dX2_init_11 (fun H locs hW => ?_)
  obtain ⟨S6, eS⟩ : ∃ z, z = sI S4 301 d p2 := ⟨_, rfl⟩
  rw [← eS] at hW
  replace hq := lt9_u eS hq
  have hk7 : dK S6 d = 4 := by rw [eS]; exact hk5
  clear eS
  refine lv_aload_n hx hb dX2_init_14 rfl (lv_at hl 0 rfl) ?_
  refine lv_iload_n hx hb dX2_init_15 rfl (lv_at hl 3 rfl) ?_
  obtain ⟨hz, hq⟩ := chk_e hq
  refine d_put B hW (ci := 3) inT_3 tyX2 tyX2_ok nmX2 rfl (dF_3 hk7) (by rw [hk7]; decide) (by rw [hk7]; decide) 2 (by decide) u_662 (Or.inl rfl) (Or.inr ⟨rfl, rfl, rfl⟩) (ty := .boolean) (tyX2_ok 2 (by decide)) (isB_narrow hz) (isB_fits hz) (Nat.le_of_ble_eq_true rfl) (S1 := sI S6 302 d p3) (ds_3_2 hk7 p3) ⟨rfl, rfl, rfl⟩ (fun b hb => dF_sI hb) dX2_init_16 (fun H locs hW => ?_)
  obtain ⟨S8, eS⟩ : ∃ z, z = sI S6 302 d p3 := ⟨_, rfl⟩
  rw [← eS] at hW
  replace hq := lt9_u eS hq
  have hk9 : dK S8 d = 4 := by rw [eS]; exact hk7
  clear eS
  exact d_vret B hW hq hT dX2_init_19
set_option maxHeartbeats 4000000 in
set_option maxRecDepth 100000 in
theorem c_J8_newLength_cabcc {l : Launch} (hst : l.stackTraces = false) {D : va_G} {A : Nat → Prop} {G : DG} (S : DS) (p1 : Int32) (p2 : Int32) (p3 : Int32) {r : Int32} {S' : DS} {TC TZ : Nat} (hq : q_J8_newLength_cabcc G.2.2 S p1 p2 p3 = some (r, S', TC, TZ)) : Met l yJ8_newLength_cabcc (wM yJ8_newLength_cabcc cJ8_newLength_cabcc 4 (some .int)) (rD 1 21 TC TZ) (va_Pc [.int p1, .int p2, .int p3] (dPre D A G S)) (dQi D A G r S') TC TZ A := by
  obtain ⟨C, Z, hq, hT⟩ : ∃ C Z, q_J8_newLength_cabcc G.2.2 S p1 p2 p3 = some (r, S', C, Z) ∧ (0 + C = (rD 1 21 TC TZ).cells ∧ 0 + Z = (rD 1 21 TC TZ).slots) := ⟨TC, TZ, hq, Nat.zero_add _, Nat.zero_add _⟩
  refine d_head hst (by decide) (Nat.le_of_ble_eq_true rfl) ?_
  intro p e s m args below meth c ls B hW hl
  have hx := B.1
  have hb := B.2.1
  have hl : lv_has ls 4 [(0, .int p1), (1, .int p2), (2, .int p3)] := hl
  unfold q_J8_newLength_cabcc at hq
  refine lv_iload_n hx hb dJ8_newLength_cabcc_0 rfl (lv_at hl 0 rfl) ?_
  refine lv_iload_n hx hb dJ8_newLength_cabcc_1 rfl (lv_at hl 1 rfl) ?_
  refine lv_iload_n hx hb dJ8_newLength_cabcc_2 rfl (lv_at hl 2 rfl) ?_
  refine va_mmax hx hb (B.2.2.2.1.trans hl.1.symm) B.2.2.2.2.1 (B.2.2.2.2.2.1 _ (List.mem_cons_of_mem _ u_258)) (B.2.2.2.2.2.1 _ (List.mem_cons_of_mem _ u_259)) (B.2.2.2.2.2.1 _ (List.mem_cons_of_mem _ u_13)) (B.2.2.2.2.2.1 _ (List.mem_cons_of_mem _ u_260)) (Nat.le_of_ble_eq_true rfl) (Nat.le_of_ble_eq_true rfl) (by omega) (by omega) dJ8_newLength_cabcc_3 ?_
  refine lv_iadd hx hb dJ8_newLength_cabcc_6 ?_
  refine e_istore_n (lv' := [(3, .int (p1 + (if p2 < p3 then p3 else p2))), (0, .int p1), (1, .int p2), (2, .int p3)]) hx hb dJ8_newLength_cabcc_7 rfl hl (by decide) (catc rfl (catc rfl (catc rfl catn))) rfl (fun ls hl => ?_)
  refine lv_iconst (v := 0) hx hb dJ8_newLength_cabcc_8 (by decide) ?_
  refine lv_iload_n hx hb dJ8_newLength_cabcc_9 rfl (lv_at hl 0 rfl) ?_
  refine lv_icmp_ge (tgt := 21) hx hb dJ8_newLength_cabcc_10 (by decide) (fun hc => ?_) (fun hc => ?_)
  · replace hq := if_y hc hq
    refine lv_iload_n hx hb dJ8_newLength_cabcc_21 rfl (lv_at hl 1 rfl) ?_
    refine lv_iload_n hx hb dJ8_newLength_cabcc_22 rfl (lv_at hl 2 rfl) ?_
    cases hq
  · replace hq := if_n hc hq
    refine lv_iload_n hx hb dJ8_newLength_cabcc_13 rfl (lv_at hl 0 rfl) ?_
    refine lv_ldc (v := 2147483639) hx hb B.2.2.2.2.1 (B.2.2.2.2.2.1 _ (List.mem_cons_of_mem _ u_261)) dJ8_newLength_cabcc_14 ?_
    refine lv_icmp_gt (tgt := 21) hx hb dJ8_newLength_cabcc_16 (by decide) (fun hc => ?_) (fun hc => ?_)
    · replace hq := if_y hc hq
      refine lv_iload_n hx hb dJ8_newLength_cabcc_21 rfl (lv_at hl 1 rfl) ?_
      refine lv_iload_n hx hb dJ8_newLength_cabcc_22 rfl (lv_at hl 2 rfl) ?_
      cases hq
    · replace hq := if_n hc hq
      refine lv_iload_n hx hb dJ8_newLength_cabcc_19 rfl (lv_at hl 0 rfl) ?_
      exact d_iret B hW hq hT dJ8_newLength_cabcc_20
set_option maxHeartbeats 4000000 in
set_option maxRecDepth 100000 in
theorem k_Jx4a65c_grow_92f84_20 {p : Program} {l : Launch} {e : Env} {s : State} {m : MethodId} {args : Array Value} {below : List Frame} {meth : Method} {c : Code} {D : va_G} {A : Nat → Prop} {G : DG} {d : Nat} {r : Option Nat} {S' : DS} {TC TZ : Nat} (B : dB p l s m args meth c D A G yJx4a65c_grow_92f84.cls yJx4a65c_grow_92f84.name cJx4a65c_grow_92f84 4 (some (.array (.object "java/lang/Object"))) (Cond.code yJx4a65c_grow_92f84 cJx4a65c_grow_92f84 4 (some (.array (.object "java/lang/Object"))))) :
    ∀ (S : DS) (v1 : Int32) (v2 : Int32) (C Z : Nat), q_Jx4a65c_grow_92f84_20 G.2.2 S d v1 v2 = some (r, S', C, Z) → ∀ (H : Heap) (locs : List Loc) (ls : Array Slot) (cells slots : Nat), dOK D A G S s.heap H locs → lv_has ls 4 [(0, .ref d), (1, .int v1), (2, .int v2)] → cells + C = (rD 3 121 TC TZ).cells ∧ slots + Z = (rD 3 121 TC TZ).slots → W p l e (rD 3 121 TC TZ) s m args below meth c H locs cells slots (MQ below (dQq D A G r S') args s (rD 3 121 TC TZ).cells (rD 3 121 TC TZ).slots A) (F0 m 20 ls []) := by
  have hx := B.1
  have hb := B.2.1
  intro S v1 v2 C Z hq H locs ls cells slots hW hl hT
  unfold q_Jx4a65c_grow_92f84_20 at hq
  refine lv_iload_n hx hb dJx4a65c_grow_92f84_20 rfl (lv_at hl 2 rfl) ?_
  refine lv_iload_n hx hb dJx4a65c_grow_92f84_21 rfl (lv_at hl 1 rfl) ?_
  refine lv_iload_n hx hb dJx4a65c_grow_92f84_22 rfl (lv_at hl 2 rfl) ?_
  refine lv_isub hx hb dJx4a65c_grow_92f84_23 ?_
  refine lv_iload_n hx hb dJx4a65c_grow_92f84_24 rfl (lv_at hl 2 rfl) ?_
  refine lv_iconst (v := 1) hx hb dJx4a65c_grow_92f84_25 (by decide) ?_
  refine lv_ishr hx hb dJx4a65c_grow_92f84_26 ?_
  obtain ⟨r4, S5, C1, Z1, C2, Z2, hg, hq2, rfl, rfl⟩ := bndc_e hq
  replace hq := hq2
  clear hq2
  refine d_ri (d_runS (As := [.int v2, .int (v1 - v2), .int (v2 >>> (1 &&& 31))]) (rest := []) B hW hl.1 (c_J8_newLength_cabcc B.2.2.2.2.2.2.2.2.2.2 S v2 (v1 - v2) (v2 >>> (1 &&& 31)) hg) (g_S u_255 u_256 u_12 u_257) y1_J8_newLength_cabcc rfl ⟨Nat.le_of_ble_eq_true rfl, Nat.le_of_ble_eq_true rfl⟩ hT rfl (Nat.le_of_ble_eq_true rfl) dJx4a65c_grow_92f84_27) hW hT (fun H locs cells slots hW hT => ?_)
  clear hg
  refine e_istore_n (lv' := [(3, .int r4), (0, .ref d), (1, .int v1), (2, .int v2)]) hx hb dJx4a65c_grow_92f84_30 rfl hl (by decide) (catc rfl (catc rfl (catc rfl catn))) rfl (fun ls hl => ?_)
  refine lv_aload_n hx hb dJx4a65c_grow_92f84_31 rfl (lv_at hl 1 rfl) ?_
  refine lv_aload_n hx hb dJx4a65c_grow_92f84_32 rfl (lv_at hl 1 rfl) ?_
  obtain ⟨hk6, hq⟩ := chk_e hq
  refine d_get B hW (ci := 0) inT_0 rfl (dF_0 hk6) (by rw [hk6]; decide) 1 (by decide) u_50 (Or.inl rfl) (v := va_rf (dP S5 1 d)) rfl dJx4a65c_grow_92f84_33 ?_
  refine lv_iload_n hx hb dJx4a65c_grow_92f84_36 rfl (lv_at hl 0 rfl) ?_
  obtain ⟨r7, S8, C1, Z1, C2, Z2, hg, hq2, rfl, rfl⟩ := bndc_e hq
  replace hq := hq2
  clear hq2
  refine d_rq (d_runS (As := [va_rf (dP S5 1 d), .int r4]) (rest := [.ref d]) B hW hl.1 (c_J7_copyOf_1904c B.2.2.2.2.2.2.2.2.2.2 S5 (dP S5 1 d) r4 hg) (g_S u_265 u_266 u_14 u_267) y1_J7_copyOf_1904c rfl ⟨Nat.le_of_ble_eq_true rfl, Nat.le_of_ble_eq_true rfl⟩ hT rfl (Nat.le_of_ble_eq_true rfl) dJx4a65c_grow_92f84_37) hW hT (fun H locs cells slots hW hT => ?_)
  clear hg
  refine lv_dup_x1 hx hb dJx4a65c_grow_92f84_40 rf_cat rfl ?_
  obtain ⟨hk9, hq⟩ := chk_e hq
  refine d_put B hW (ci := 0) inT_0 tyJx4a65c tyJx4a65c_ok nmJx4a65c rfl (dF_0 hk9) (by rw [hk9]; decide) (by rw [hk9]; decide) 1 (by decide) u_50 (Or.inl rfl) (Or.inl rfl) (ty := (.array (.object "java/lang/Object"))) (tyJx4a65c_ok 1 (by decide)) rf_nA rf_fA (Nat.le_of_ble_eq_true rfl) (S1 := sP S8 1 d r7) (ds_0_1 hk9 r7) ⟨rfl, rfl, rfl⟩ (fun b hb => dF_sP hb) dJx4a65c_grow_92f84_41 (fun H locs hW => ?_)
  obtain ⟨S10, eS⟩ : ∃ z, z = sP S8 1 d r7 := ⟨_, rfl⟩
  rw [← eS] at hW
  replace hq := lt9_u eS hq
  have hk11 : dK S10 d = 1 := by rw [eS]; exact hk9
  clear eS
  exact d_aret (x := r7) B (Or.inr ⟨_, rfl⟩) hW hq hT dJx4a65c_grow_92f84_44
set_option maxHeartbeats 4000000 in
set_option maxRecDepth 100000 in
theorem c_Jx4a65c_grow_92f84 {l : Launch} (hst : l.stackTraces = false) {D : va_G} {A : Nat → Prop} {G : DG} (S : DS) (d : Nat) (p1 : Int32) {r : Option Nat} {S' : DS} {TC TZ : Nat} (hq : q_Jx4a65c_grow_92f84 G.2.2 S d p1 = some (r, S', TC, TZ)) : Met l yJx4a65c_grow_92f84 (wM yJx4a65c_grow_92f84 cJx4a65c_grow_92f84 4 (some (.array (.object "java/lang/Object")))) (rD 3 121 TC TZ) (va_Pc [.ref d, .int p1] (dPre D A G S)) (dQq D A G r S') TC TZ A := by
  obtain ⟨C, Z, hq, hT⟩ : ∃ C Z, q_Jx4a65c_grow_92f84 G.2.2 S d p1 = some (r, S', C, Z) ∧ (0 + C = (rD 3 121 TC TZ).cells ∧ 0 + Z = (rD 3 121 TC TZ).slots) := ⟨TC, TZ, hq, Nat.zero_add _, Nat.zero_add _⟩
  refine d_head hst (by decide) (Nat.le_of_ble_eq_true rfl) ?_
  intro p e s m args below meth c ls B hW hl
  have hx := B.1
  have hb := B.2.1
  have hl : lv_has ls 4 [(0, .ref d), (1, .int p1)] := hl
  unfold q_Jx4a65c_grow_92f84 at hq
  refine lv_aload_n hx hb dJx4a65c_grow_92f84_0 rfl (lv_at hl 0 rfl) ?_
  obtain ⟨hk1, hq⟩ := chk_e hq
  refine d_get B hW (ci := 0) inT_0 rfl (dF_0 hk1) (by rw [hk1]; decide) 1 (by decide) u_50 (Or.inl rfl) (v := va_rf (dP S 1 d)) rfl dJx4a65c_grow_92f84_1 ?_
  obtain ⟨b2, hb2, hq⟩ := bnd_e hq
  refine W.eq (g2 := F0 m 4 ls [.ref b2]) (by rw [hb2]; rfl) ?_
  obtain ⟨hk3, hq⟩ := chk_e hq
  refine d_alen B hW hk3 dJx4a65c_grow_92f84_4 ?_
  refine e_istore_n (lv' := [(2, .int (nI (dL S b2))), (0, .ref d), (1, .int p1)]) hx hb dJx4a65c_grow_92f84_5 rfl hl (by decide) (catc rfl (catc rfl catn)) rfl (fun ls hl => ?_)
  refine lv_iload_n hx hb dJx4a65c_grow_92f84_6 rfl (lv_at hl 0 rfl) ?_
  refine lv_if_gt (tgt := 20) hx hb dJx4a65c_grow_92f84_7 (by decide) (fun hc => ?_) (fun hc => ?_)
  · replace hq := if_y hc hq
    exact k_Jx4a65c_grow_92f84_20 B S p1 (nI (dL S b2)) _ _ hq _ _ ls _ _ hW (lv_sub hl [1, 2, 0] rfl) hT
  · replace hq := if_n hc hq
    refine lv_aload_n hx hb dJx4a65c_grow_92f84_10 rfl (lv_at hl 1 rfl) ?_
    refine d_get B hW (ci := 0) inT_0 rfl (dF_0 hk1) (by rw [hk1]; decide) 1 (by decide) u_50 (Or.inl rfl) (v := va_rf (dP S 1 d)) rfl dJx4a65c_grow_92f84_11 ?_
    refine d_gets B hW dJx4a65c_grow_92f84_14 ?_
    refine lv_acmp_eq (rx := (dP S 1 d)) (ry := (some G.2.2)) (tgt := 45) hx hb dJx4a65c_grow_92f84_17 (by decide) (fun hc => ?_) (fun hc => ?_)
    · replace hq := if_y hc hq
      refine lv_aload_n hx hb dJx4a65c_grow_92f84_45 rfl (lv_at hl 1 rfl) ?_
      refine lv_bipush (v := 10) hx hb dJx4a65c_grow_92f84_46 (by decide) ?_
      refine lv_iload_n hx hb dJx4a65c_grow_92f84_48 rfl (lv_at hl 2 rfl) ?_
      refine va_mmax hx hb (B.2.2.2.1.trans hl.1.symm) B.2.2.2.2.1 (B.2.2.2.2.2.1 _ (List.mem_cons_of_mem _ u_299)) (B.2.2.2.2.2.1 _ (List.mem_cons_of_mem _ u_259)) (B.2.2.2.2.2.1 _ (List.mem_cons_of_mem _ u_13)) (B.2.2.2.2.2.1 _ (List.mem_cons_of_mem _ u_260)) (Nat.le_of_ble_eq_true rfl) (Nat.le_of_ble_eq_true rfl) (by omega) (by omega) dJx4a65c_grow_92f84_49 ?_
      obtain ⟨hn, hq⟩ := chk_e hq
      obtain ⟨C1, Z1, hq2, rfl, rfl⟩ := tick_e hq
      replace hq := hq2
      clear hq2
      refine d_newO B hW u_300 hn hT dJx4a65c_grow_92f84_52 (fun H cells slots q12 S13 eq eS hW hT => ?_)
      replace hq := lt9_u eq hq
      replace hq := lt9_u eS hq
      have hkq12 : dK S13 q12 = 21 := by rw [eS, eq]; exact va_up_self _ _ _
      clear eS eq
      refine lv_dup_x1 hx hb dJx4a65c_grow_92f84_55 rfl rfl ?_
      obtain ⟨hk14, hq⟩ := chk_e hq
      refine d_put B hW (ci := 0) inT_0 tyJx4a65c tyJx4a65c_ok nmJx4a65c rfl (dF_0 hk14) (by rw [hk14]; decide) (by rw [hk14]; decide) 1 (by decide) u_50 (Or.inl rfl) (Or.inl rfl) (ty := (.array (.object "java/lang/Object"))) (tyJx4a65c_ok 1 (by decide)) rfl rfl (Nat.le_of_ble_eq_true rfl) (S1 := sP S13 1 d (some q12)) (ds_0_1 hk14 (some q12)) ⟨rfl, rfl, rfl⟩ (fun b hb => dF_sP hb) dJx4a65c_grow_92f84_56 (fun H locs hW => ?_)
      obtain ⟨S15, eS⟩ : ∃ z, z = sP S13 1 d (some q12) := ⟨_, rfl⟩
      rw [← eS] at hW
      replace hq := lt9_u eS hq
      have hk16 : dK S15 q12 = 21 := by rw [eS]; exact hkq12
      have hk17 : dK S15 d = 1 := by rw [eS]; exact hk14
      clear eS
      exact d_aret (x := (some q12)) B (Or.inr ⟨_, rfl⟩) hW hq hT dJx4a65c_grow_92f84_59
    · replace hq := if_n hc hq
      exact k_Jx4a65c_grow_92f84_20 B S p1 (nI (dL S b2)) _ _ hq _ _ ls _ _ hW (lv_sub hl [1, 2, 0] rfl) hT
set_option maxHeartbeats 4000000 in
set_option maxRecDepth 100000 in
theorem c_Jx4a65c_grow_d5877 {l : Launch} (hst : l.stackTraces = false) {D : va_G} {A : Nat → Prop} {G : DG} (S : DS) (d : Nat) {r : Option Nat} {S' : DS} {TC TZ : Nat} (hq : q_Jx4a65c_grow_d5877 G.2.2 S d = some (r, S', TC, TZ)) : Met l yJx4a65c_grow_d5877 (wM yJx4a65c_grow_d5877 cJx4a65c_grow_d5877 1 (some (.array (.object "java/lang/Object")))) (rD 4 144 TC TZ) (va_Pc [.ref d] (dPre D A G S)) (dQq D A G r S') TC TZ A := by
  obtain ⟨C, Z, hq, hT⟩ : ∃ C Z, q_Jx4a65c_grow_d5877 G.2.2 S d = some (r, S', C, Z) ∧ (0 + C = (rD 4 144 TC TZ).cells ∧ 0 + Z = (rD 4 144 TC TZ).slots) := ⟨TC, TZ, hq, Nat.zero_add _, Nat.zero_add _⟩
  refine d_head hst (by decide) (Nat.le_of_ble_eq_true rfl) ?_
  intro p e s m args below meth c ls B hW hl
  have hx := B.1
  have hb := B.2.1
  have hl : lv_has ls 1 [(0, .ref d)] := hl
  unfold q_Jx4a65c_grow_d5877 at hq
  refine lv_aload_n hx hb dJx4a65c_grow_d5877_0 rfl (lv_at hl 0 rfl) ?_
  refine lv_aload_n hx hb dJx4a65c_grow_d5877_1 rfl (lv_at hl 0 rfl) ?_
  obtain ⟨hk1, hq⟩ := chk_e hq
  refine d_get B hW (ci := 0) inT_0 rfl (dF_0 hk1) (by rw [hk1]; decide) 2 (by decide) u_51 (Or.inl rfl) (v := .int (dI S 2 d)) rfl dJx4a65c_grow_d5877_2 ?_
  refine lv_iconst (v := 1) hx hb dJx4a65c_grow_d5877_5 (by decide) ?_
  refine lv_iadd hx hb dJx4a65c_grow_d5877_6 ?_
  obtain ⟨r2, S3, C1, Z1, C2, Z2, hg, hq2, rfl, rfl⟩ := bndc_e hq
  replace hq := hq2
  clear hq2
  refine d_rq (d_runV (As := [.int ((dI S 2 d) + 1)]) (rest := []) B hW hl.1 (d_recv B hW (ci := 0) rfl (dF_0 hk1) (by rw [hk1]; decide)) (c_Jx4a65c_grow_92f84 B.2.2.2.2.2.2.2.2.2.2 S d ((dI S 2 d) + 1) hg) (g_V u_251 u_253 us_6 u_4 u_254) y1_Jx4a65c_grow_92f84 rfl ⟨Nat.le_of_ble_eq_true rfl, Nat.le_of_ble_eq_true rfl⟩ hT rfl (Nat.le_of_ble_eq_true rfl) dJx4a65c_grow_d5877_7) hW hT (fun H locs cells slots hW hT => ?_)
  clear hg
  exact d_aret (x := r2) B (Or.inr ⟨_, rfl⟩) hW hq hT dJx4a65c_grow_d5877_10
set_option maxHeartbeats 4000000 in
set_option maxRecDepth 100000 in
theorem k_Jx4a65c_add_72be8_11 {p : Program} {l : Launch} {e : Env} {s : State} {m : MethodId} {args : Array Value} {below : List Frame} {meth : Method} {c : Code} {D : va_G} {A : Nat → Prop} {G : DG} {d : Nat} {r : Int32} {S' : DS} {TC TZ : Nat} (B : dB p l s m args meth c D A G yJx4a65c_add_72be8.cls yJx4a65c_add_72be8.name cJx4a65c_add_72be8 4 none (Cond.code yJx4a65c_add_72be8 cJx4a65c_add_72be8 4 none)) :
    ∀ (S : DS) (v1 : Option Nat) (v2 : Option Nat) (v3 : Int32) (C Z : Nat), q_Jx4a65c_add_72be8_11 G.2.2 S d v1 v2 v3 = some (r, S', C, Z) → ∀ (H : Heap) (locs : List Loc) (ls : Array Slot) (cells slots : Nat), dOK D A G S s.heap H locs → lv_has ls 4 [(0, .ref d), (1, va_rf v1), (2, va_rf v2), (3, .int v3)] → cells + C = (rD 5 164 TC TZ).cells ∧ slots + Z = (rD 5 164 TC TZ).slots → W p l e (rD 5 164 TC TZ) s m args below meth c H locs cells slots (MQ below (dQv D A G S') args s (rD 5 164 TC TZ).cells (rD 5 164 TC TZ).slots A) (F0 m 11 ls []) := by
  have hx := B.1
  have hb := B.2.1
  intro S v1 v2 v3 C Z hq H locs ls cells slots hW hl hT
  unfold q_Jx4a65c_add_72be8_11 at hq
  refine d_aload_n hx hb dJx4a65c_add_72be8_11 rfl (lv_at hl 2 rfl) ?_
  refine lv_iload_n hx hb dJx4a65c_add_72be8_12 rfl (lv_at hl 3 rfl) ?_
  refine d_aload_n hx hb dJx4a65c_add_72be8_13 rfl (lv_at hl 1 rfl) ?_
  obtain ⟨b3, hb3, hq⟩ := bnd_e hq
  refine W.eq (g2 := F0 m 14 ls [.ref b3, .int v3, va_rf v2]) (by rw [hb3]; rfl) ?_
  obtain ⟨b4, hb4, hq⟩ := bnd_e hq
  refine W.eq (g2 := F0 m 14 ls [.ref b3, .int v3, .ref b4]) (by rw [hb4]; rfl) ?_
  obtain ⟨hk5, hq⟩ := chk_e hq
  obtain ⟨hk6, hq⟩ := chk_e hq
  obtain ⟨hi, hq⟩ := chk_e hq
  refine d_aast B hW hk5 hk6 hi dJx4a65c_add_72be8_14 (fun H locs S7 eS hW => ?_)
  replace hq := lt9_u eS hq
  have hk8 : dK S7 b4 = 21 := by rw [eS]; exact hk5
  have hk9 : dK S7 b3 = 7 ∨ dK S7 b3 = 9 ∨ dK S7 b3 = 10 ∨ dK S7 b3 = 11 := by rw [eS]; exact hk6
  clear eS
  refine lv_aload_n hx hb dJx4a65c_add_72be8_15 rfl (lv_at hl 0 rfl) ?_
  refine lv_iload_n hx hb dJx4a65c_add_72be8_16 rfl (lv_at hl 3 rfl) ?_
  refine lv_iconst (v := 1) hx hb dJx4a65c_add_72be8_17 (by decide) ?_
  refine lv_iadd hx hb dJx4a65c_add_72be8_18 ?_
  obtain ⟨hk10, hq⟩ := chk_e hq
  refine d_put B hW (ci := 0) inT_0 tyJx4a65c tyJx4a65c_ok nmJx4a65c rfl (dF_0 hk10) (by rw [hk10]; decide) (by rw [hk10]; decide) 2 (by decide) u_51 (Or.inl rfl) (Or.inl rfl) (ty := .int) (tyJx4a65c_ok 2 (by decide)) rfl rfl (Nat.le_of_ble_eq_true rfl) (S1 := sI S7 2 d (v3 + 1)) (ds_0_2 hk10 (v3 + 1)) ⟨rfl, rfl, rfl⟩ (fun b hb => dF_sI hb) dJx4a65c_add_72be8_19 (fun H locs hW => ?_)
  obtain ⟨S11, eS⟩ : ∃ z, z = sI S7 2 d (v3 + 1) := ⟨_, rfl⟩
  rw [← eS] at hW
  replace hq := lt9_u eS hq
  have hk12 : dK S11 b4 = 21 := by rw [eS]; exact hk8
  have hk13 : dK S11 b3 = 7 ∨ dK S11 b3 = 9 ∨ dK S11 b3 = 10 ∨ dK S11 b3 = 11 := by rw [eS]; exact hk9
  have hk14 : dK S11 d = 1 := by rw [eS]; exact hk10
  clear eS
  exact d_vret B hW hq hT dJx4a65c_add_72be8_22
set_option maxHeartbeats 4000000 in
set_option maxRecDepth 100000 in
theorem c_Jx4a65c_add_72be8 {l : Launch} (hst : l.stackTraces = false) {D : va_G} {A : Nat → Prop} {G : DG} (S : DS) (d : Nat) (p1 : Option Nat) (p2 : Option Nat) (p3 : Int32) {r : Int32} {S' : DS} {TC TZ : Nat} (hq : q_Jx4a65c_add_72be8 G.2.2 S d p1 p2 p3 = some (r, S', TC, TZ)) : Met l yJx4a65c_add_72be8 (wM yJx4a65c_add_72be8 cJx4a65c_add_72be8 4 none) (rD 5 164 TC TZ) (va_Pc [.ref d, va_rf p1, va_rf p2, .int p3] (dPre D A G S)) (dQv D A G S') TC TZ A := by
  obtain ⟨C, Z, hq, hT⟩ : ∃ C Z, q_Jx4a65c_add_72be8 G.2.2 S d p1 p2 p3 = some (r, S', C, Z) ∧ (0 + C = (rD 5 164 TC TZ).cells ∧ 0 + Z = (rD 5 164 TC TZ).slots) := ⟨TC, TZ, hq, Nat.zero_add _, Nat.zero_add _⟩
  refine d_head hst (by decide) (by cases p1 <;> cases p2 <;> exact Nat.le_of_ble_eq_true rfl) ?_
  intro p e s m args below meth c ls B hW hl
  have hx := B.1
  have hb := B.2.1
  have hl : lv_has ls 4 [(0, .ref d), (1, va_rf p1), (2, va_rf p2), (3, .int p3)] := by cases p1 <;> cases p2 <;> exact hl
  unfold q_Jx4a65c_add_72be8 at hq
  refine lv_iload_n hx hb dJx4a65c_add_72be8_0 rfl (lv_at hl 3 rfl) ?_
  refine d_aload_n hx hb dJx4a65c_add_72be8_1 rfl (lv_at hl 2 rfl) ?_
  obtain ⟨b1, hb1, hq⟩ := bnd_e hq
  refine W.eq (g2 := F0 m 2 ls [.ref b1, .int p3]) (by rw [hb1]; rfl) ?_
  obtain ⟨hk2, hq⟩ := chk_e hq
  refine d_alen B hW hk2 dJx4a65c_add_72be8_2 ?_
  refine lv_icmp_ne (tgt := 11) hx hb dJx4a65c_add_72be8_3 (by decide) (fun hc => ?_) (fun hc => ?_)
  · replace hq := if_n hc hq
    exact k_Jx4a65c_add_72be8_11 B S p1 p2 p3 _ _ hq _ _ ls _ _ hW (lv_sub hl [0, 1, 2, 3] rfl) hT
  · replace hq := if_y hc hq
    refine lv_aload_n hx hb dJx4a65c_add_72be8_6 rfl (lv_at hl 0 rfl) ?_
    obtain ⟨hk15, hq⟩ := chk_e hq
    obtain ⟨r16, S17, C1, Z1, C2, Z2, hg, hq2, rfl, rfl⟩ := bndc_e hq
    replace hq := hq2
    clear hq2
    refine d_rq (d_runV (As := []) (rest := []) B hW hl.1 (d_recv B hW (ci := 0) rfl (dF_0 hk15) (by rw [hk15]; decide)) (c_Jx4a65c_grow_d5877 B.2.2.2.2.2.2.2.2.2.2 S d hg) (g_V u_247 u_249 us_5 u_4 u_250) y1_Jx4a65c_grow_d5877 rfl ⟨Nat.le_of_ble_eq_true rfl, Nat.le_of_ble_eq_true rfl⟩ hT rfl (Nat.le_of_ble_eq_true rfl) dJx4a65c_add_72be8_7) hW hT (fun H locs cells slots hW hT => ?_)
    clear hg
    refine e_astore_n (x := r16) (lv' := [(2, va_rf r16), (0, .ref d), (1, va_rf p1), (3, .int p3)]) hx hb dJx4a65c_add_72be8_10 rfl hl (by decide) (catc rfl (catc rf_cat (catc rf_cat (catc rfl catn)))) rfl (fun ls hl => ?_)
    exact k_Jx4a65c_add_72be8_11 B S17 p1 r16 p3 _ _ hq _ _ ls _ _ hW (lv_sub hl [1, 2, 0, 3] rfl) hT
set_option maxHeartbeats 4000000 in
set_option maxRecDepth 100000 in
theorem c_Jx4a65c_add_9ea2d {l : Launch} (hst : l.stackTraces = false) {D : va_G} {A : Nat → Prop} {G : DG} (S : DS) (d : Nat) (p1 : Option Nat) {r : Int32} {S' : DS} {TC TZ : Nat} (hq : q_Jx4a65c_add_9ea2d G.2.2 S d p1 = some (r, S', TC, TZ)) : Met l yJx4a65c_add_9ea2d (wM yJx4a65c_add_9ea2d cJx4a65c_add_9ea2d 2 (some .boolean)) (rD 6 187 TC TZ) (va_Pc [.ref d, va_rf p1] (dPre D A G S)) (dQi D A G r S') TC TZ A := by
  obtain ⟨C, Z, hq, hT⟩ : ∃ C Z, q_Jx4a65c_add_9ea2d G.2.2 S d p1 = some (r, S', C, Z) ∧ (0 + C = (rD 6 187 TC TZ).cells ∧ 0 + Z = (rD 6 187 TC TZ).slots) := ⟨TC, TZ, hq, Nat.zero_add _, Nat.zero_add _⟩
  refine d_head hst (by decide) (by cases p1 <;> exact Nat.le_of_ble_eq_true rfl) ?_
  intro p e s m args below meth c ls B hW hl
  have hx := B.1
  have hb := B.2.1
  have hl : lv_has ls 2 [(0, .ref d), (1, va_rf p1)] := by cases p1 <;> exact hl
  unfold q_Jx4a65c_add_9ea2d at hq
  refine lv_aload_n hx hb dJx4a65c_add_9ea2d_0 rfl (lv_at hl 0 rfl) ?_
  refine lv_dup hx hb dJx4a65c_add_9ea2d_1 rfl ?_
  obtain ⟨hk1, hq⟩ := chk_e hq
  refine d_get B hW (ci := 0) inT_0 rfl (dF_0 hk1) (by rw [hk1]; decide) 0 (by decide) u_53 (Or.inr u_54) (v := .int (dI S 0 d)) rfl dJx4a65c_add_9ea2d_2 ?_
  refine lv_iconst (v := 1) hx hb dJx4a65c_add_9ea2d_5 (by decide) ?_
  refine lv_iadd hx hb dJx4a65c_add_9ea2d_6 ?_
  refine d_put B hW (ci := 0) inT_0 tyJx4a65c tyJx4a65c_ok nmJx4a65c rfl (dF_0 hk1) (by rw [hk1]; decide) (by rw [hk1]; decide) 0 (by decide) u_53 (Or.inr u_54) (Or.inl rfl) (ty := .int) (tyJx4a65c_ok 0 (by decide)) rfl rfl (Nat.le_of_ble_eq_true rfl) (S1 := sI S 0 d ((dI S 0 d) + 1)) (ds_0_0 hk1 ((dI S 0 d) + 1)) ⟨rfl, rfl, rfl⟩ (fun b hb => dF_sI hb) dJx4a65c_add_9ea2d_7 (fun H locs hW => ?_)
  obtain ⟨S2, eS⟩ : ∃ z, z = sI S 0 d ((dI S 0 d) + 1) := ⟨_, rfl⟩
  rw [← eS] at hW
  replace hq := lt9_u eS hq
  have hk3 : dK S2 d = 1 := by rw [eS]; exact hk1
  clear eS
  refine lv_aload_n hx hb dJx4a65c_add_9ea2d_10 rfl (lv_at hl 0 rfl) ?_
  refine d_aload_n hx hb dJx4a65c_add_9ea2d_11 rfl (lv_at hl 1 rfl) ?_
  refine lv_aload_n hx hb dJx4a65c_add_9ea2d_12 rfl (lv_at hl 0 rfl) ?_
  refine d_get B hW (ci := 0) inT_0 rfl (dF_0 hk3) (by rw [hk3]; decide) 1 (by decide) u_50 (Or.inl rfl) (v := va_rf (dP S2 1 d)) rfl dJx4a65c_add_9ea2d_13 ?_
  refine lv_aload_n hx hb dJx4a65c_add_9ea2d_16 rfl (lv_at hl 0 rfl) ?_
  refine d_get B hW (ci := 0) inT_0 rfl (dF_0 hk3) (by rw [hk3]; decide) 2 (by decide) u_51 (Or.inl rfl) (v := .int (dI S2 2 d)) rfl dJx4a65c_add_9ea2d_17 ?_
  obtain ⟨r4, S5, C1, Z1, C2, Z2, hg, hq2, rfl, rfl⟩ := bndc_e hq
  replace hq := hq2
  clear hq2
  refine d_rv (d_runV (As := [va_rf p1, va_rf (dP S2 1 d), .int (dI S2 2 d)]) (rest := []) B hW hl.1 (d_recv B hW (ci := 0) rfl (dF_0 hk3) (by rw [hk3]; decide)) (c_Jx4a65c_add_72be8 B.2.2.2.2.2.2.2.2.2.2 S2 d p1 (dP S2 1 d) (dI S2 2 d) hg) (g_V u_243 u_245 us_4 u_4 u_246) y1_Jx4a65c_add_72be8 rfl ⟨Nat.le_of_ble_eq_true rfl, Nat.le_of_ble_eq_true rfl⟩ hT rfl (Nat.le_of_ble_eq_true rfl) dJx4a65c_add_9ea2d_20) hW hT (fun H locs cells slots hW hT => ?_)
  clear hg
  refine lv_iconst (v := 1) hx hb dJx4a65c_add_9ea2d_23 (by decide) ?_
  obtain ⟨hz, hq⟩ := chk_e hq
  exact d_zret B hW hz hq hT dJx4a65c_add_9ea2d_24
set_option maxHeartbeats 4000000 in
set_option maxRecDepth 100000 in
theorem c_X10_init {l : Launch} (hst : l.stackTraces = false) {D : va_G} {A : Nat → Prop} {G : DG} (S : DS) (d : Nat) (p1 : Int32) (p2 : Int32) (p3 : Option Nat) {r : Int32} {S' : DS} {TC TZ : Nat} (hq : q_X10_init G.2.2 S d p1 p2 p3 = some (r, S', TC, TZ)) : Met l yX10_init (wM yX10_init cX10_init 4 none) (rD 1 20 TC TZ) (va_Pc [.ref d, .int p1, .int p2, va_rf p3] (dPre D A G S)) (dQv D A G S') TC TZ A := by
  obtain ⟨C, Z, hq, hT⟩ : ∃ C Z, q_X10_init G.2.2 S d p1 p2 p3 = some (r, S', C, Z) ∧ (0 + C = (rD 1 20 TC TZ).cells ∧ 0 + Z = (rD 1 20 TC TZ).slots) := ⟨TC, TZ, hq, Nat.zero_add _, Nat.zero_add _⟩
  refine d_head hst (by decide) (by cases p3 <;> exact Nat.le_of_ble_eq_true rfl) ?_
  intro p e s m args below meth c ls B hW hl
  have hx := B.1
  have hb := B.2.1
  have hl : lv_has ls 4 [(0, .ref d), (1, .int p1), (2, .int p2), (3, va_rf p3)] := by cases p3 <;> exact hl
  unfold q_X10_init at hq
  refine lv_aload_n hx hb dX10_init_0 rfl (lv_at hl 0 rfl) ?_
  refine d_oinit B hl.1 u_201 u_34 u_35 ⟨Nat.le_of_ble_eq_true rfl, Nat.le_of_ble_eq_true rfl⟩ dX10_init_1 ?_
  refine lv_aload_n hx hb dX10_init_4 rfl (lv_at hl 0 rfl) ?_
  refine lv_iload_n hx hb dX10_init_5 rfl (lv_at hl 1 rfl) ?_
  obtain ⟨hk1, hq⟩ := chk_e hq
  refine or3 hk1 (fun hh kk => d_put B hW (ci := 6) inT_6 tyX6 tyX6_ok nmX6 rfl (dF_6 hh) (by rw [hh]; decide) (by rw [hh]; decide) 0 (by decide) u_210 (Or.inl rfl) (Or.inr ⟨rfl, rfl, rfl⟩) (ty := .int) (tyX6_ok 0 (by decide)) rfl rfl (Nat.le_of_ble_eq_true rfl) (S1 := sI S 1000 d p1) (ds_6_0 hh p1) ⟨rfl, rfl, rfl⟩ (fun b hb => dF_sI hb) dX10_init_6 kk) (fun hh kk => d_put B hW (ci := 9) inT_9 tyX9 tyX9_ok nmX9 rfl (dF_9 hh) (by rw [hh]; decide) (by rw [hh]; decide) 0 (by decide) u_210 (Or.inl rfl) (Or.inr ⟨rfl, rfl, rfl⟩) (ty := .int) (tyX9_ok 0 (by decide)) rfl rfl (Nat.le_of_ble_eq_true rfl) (S1 := sI S 1000 d p1) (ds_9_0 hh p1) ⟨rfl, rfl, rfl⟩ (fun b hb => dF_sI hb) dX10_init_6 kk) (fun hh kk => d_put B hW (ci := 10) inT_10 tyX10 tyX10_ok nmX10 rfl (dF_10 hh) (by rw [hh]; decide) (by rw [hh]; decide) 0 (by decide) u_210 (Or.inl rfl) (Or.inr ⟨rfl, rfl, rfl⟩) (ty := .int) (tyX10_ok 0 (by decide)) rfl rfl (Nat.le_of_ble_eq_true rfl) (S1 := sI S 1000 d p1) (ds_10_0 hh p1) ⟨rfl, rfl, rfl⟩ (fun b hb => dF_sI hb) dX10_init_6 kk) ?_
  intro H locs hW
  obtain ⟨S2, eS⟩ : ∃ z, z = sI S 1000 d p1 := ⟨_, rfl⟩
  rw [← eS] at hW
  replace hq := lt9_u eS hq
  have hk3 : dK S2 d = 7 ∨ dK S2 d = 10 ∨ dK S2 d = 11 := by rw [eS]; exact hk1
  clear eS
  refine lv_aload_n hx hb dX10_init_9 rfl (lv_at hl 0 rfl) ?_
  refine lv_iload_n hx hb dX10_init_10 rfl (lv_at hl 2 rfl) ?_
  refine or3 hk3 (fun hh kk => d_put B hW (ci := 6) inT_6 tyX6 tyX6_ok nmX6 rfl (dF_6 hh) (by rw [hh]; decide) (by rw [hh]; decide) 1 (by decide) u_216 (Or.inl rfl) (Or.inr ⟨rfl, rfl, rfl⟩) (ty := .int) (tyX6_ok 1 (by decide)) rfl rfl (Nat.le_of_ble_eq_true rfl) (S1 := sI S2 1001 d p2) (ds_6_1 hh p2) ⟨rfl, rfl, rfl⟩ (fun b hb => dF_sI hb) dX10_init_11 kk) (fun hh kk => d_put B hW (ci := 9) inT_9 tyX9 tyX9_ok nmX9 rfl (dF_9 hh) (by rw [hh]; decide) (by rw [hh]; decide) 1 (by decide) u_216 (Or.inl rfl) (Or.inr ⟨rfl, rfl, rfl⟩) (ty := .int) (tyX9_ok 1 (by decide)) rfl rfl (Nat.le_of_ble_eq_true rfl) (S1 := sI S2 1001 d p2) (ds_9_1 hh p2) ⟨rfl, rfl, rfl⟩ (fun b hb => dF_sI hb) dX10_init_11 kk) (fun hh kk => d_put B hW (ci := 10) inT_10 tyX10 tyX10_ok nmX10 rfl (dF_10 hh) (by rw [hh]; decide) (by rw [hh]; decide) 1 (by decide) u_216 (Or.inl rfl) (Or.inr ⟨rfl, rfl, rfl⟩) (ty := .int) (tyX10_ok 1 (by decide)) rfl rfl (Nat.le_of_ble_eq_true rfl) (S1 := sI S2 1001 d p2) (ds_10_1 hh p2) ⟨rfl, rfl, rfl⟩ (fun b hb => dF_sI hb) dX10_init_11 kk) ?_
  intro H locs hW
  obtain ⟨S4, eS⟩ : ∃ z, z = sI S2 1001 d p2 := ⟨_, rfl⟩
  rw [← eS] at hW
  replace hq := lt9_u eS hq
  have hk5 : dK S4 d = 7 ∨ dK S4 d = 10 ∨ dK S4 d = 11 := by rw [eS]; exact hk3
  clear eS
  refine lv_aload_n hx hb dX10_init_14 rfl (lv_at hl 0 rfl) ?_
  refine d_aload_n hx hb dX10_init_15 rfl (lv_at hl 3 rfl) ?_
  refine or3 hk5 (fun hh kk => d_put B hW (ci := 6) inT_6 tyX6 tyX6_ok nmX6 rfl (dF_6 hh) (by rw [hh]; decide) (by rw [hh]; decide) 2 (by decide) u_218 (Or.inl rfl) (Or.inr ⟨rfl, rfl, rfl⟩) (ty := (.array .int)) (tyX6_ok 2 (by decide)) rf_nA rf_fA (Nat.le_of_ble_eq_true rfl) (S1 := sP S4 1002 d p3) (ds_6_2 hh p3) ⟨rfl, rfl, rfl⟩ (fun b hb => dF_sP hb) dX10_init_16 kk) (fun hh kk => d_put B hW (ci := 9) inT_9 tyX9 tyX9_ok nmX9 rfl (dF_9 hh) (by rw [hh]; decide) (by rw [hh]; decide) 2 (by decide) u_218 (Or.inl rfl) (Or.inr ⟨rfl, rfl, rfl⟩) (ty := (.array .int)) (tyX9_ok 2 (by decide)) rf_nA rf_fA (Nat.le_of_ble_eq_true rfl) (S1 := sP S4 1002 d p3) (ds_9_2 hh p3) ⟨rfl, rfl, rfl⟩ (fun b hb => dF_sP hb) dX10_init_16 kk) (fun hh kk => d_put B hW (ci := 10) inT_10 tyX10 tyX10_ok nmX10 rfl (dF_10 hh) (by rw [hh]; decide) (by rw [hh]; decide) 2 (by decide) u_218 (Or.inl rfl) (Or.inr ⟨rfl, rfl, rfl⟩) (ty := (.array .int)) (tyX10_ok 2 (by decide)) rf_nA rf_fA (Nat.le_of_ble_eq_true rfl) (S1 := sP S4 1002 d p3) (ds_10_2 hh p3) ⟨rfl, rfl, rfl⟩ (fun b hb => dF_sP hb) dX10_init_16 kk) ?_
  intro H locs hW
  obtain ⟨S6, eS⟩ : ∃ z, z = sP S4 1002 d p3 := ⟨_, rfl⟩
  rw [← eS] at hW
  replace hq := lt9_u eS hq
  have hk7 : dK S6 d = 7 ∨ dK S6 d = 10 ∨ dK S6 d = 11 := by rw [eS]; exact hk5
  clear eS
  exact d_vret B hW hq hT dX10_init_19
