set_option maxHeartbeats 4000000 in
set_option maxRecDepth 100000 in
theorem c_Jx4a65c_get_915e3 {l : Launch} (hst : l.stackTraces = false) {D : va_G} {A : Nat → Prop} {G : DG} (S : DS) (d : Nat) (p1 : Int32) {r : Option Nat} {S' : DS} {TC TZ : Nat} (hq : q_Jx4a65c_get_915e3 G.2.2 S d p1 = some (r, S', TC, TZ)) : Met l yJx4a65c_get_915e3 (wM yJx4a65c_get_915e3 cJx4a65c_get_915e3 2 (some (.object "java/lang/Object"))) (rD 2 43 TC TZ) (va_Pc [.ref d, .int p1] (dPre D A G S)) (dQq D A G r S') TC TZ A := by
  obtain ⟨C, Z, hq, hT⟩ : ∃ C Z, q_Jx4a65c_get_915e3 G.2.2 S d p1 = some (r, S', C, Z) ∧ (0 + C = (rD 2 43 TC TZ).cells ∧ 0 + Z = (rD 2 43 TC TZ).slots) := ⟨TC, TZ, hq, Nat.zero_add _, Nat.zero_add _⟩
  refine d_head hst (by decide) (Nat.le_of_ble_eq_true rfl) ?_
  intro p e s m args below meth c ls B hW hl
  have hx := B.1
  have hb := B.2.1
  have hl : lv_has ls 2 [(0, .ref d), (1, .int p1)] := hl
  unfold q_Jx4a65c_get_915e3 at hq
  refine lv_iload_n hx hb dJx4a65c_get_915e3_0 rfl (lv_at hl 1 rfl) ?_
  refine lv_aload_n hx hb dJx4a65c_get_915e3_1 rfl (lv_at hl 0 rfl) ?_
  obtain ⟨hk1, hq⟩ := chk_e hq
  refine d_get B hW (ci := 0) inT_0 rfl (dF_0 hk1) (by rw [hk1]; decide) 2 (by decide) u_51 (Or.inl rfl) (v := .int (dI S 2 d)) rfl dJx4a65c_get_915e3_2 ?_
  obtain ⟨r2, S3, C1, Z1, C2, Z2, hg, hq2, rfl, rfl⟩ := bndc_e hq
  replace hq := hq2
  clear hq2
  refine d_ri (d_runS (As := [.int p1, .int (dI S 2 d)]) (rest := []) B hW hl.1 (c_J15_checkIndex_7cf53 B.2.2.2.2.2.2.2.2.2.2 S p1 (dI S 2 d) hg) (g_S u_355 u_356 u_18 u_357) y1_J15_checkIndex_7cf53 rfl ⟨Nat.le_of_ble_eq_true rfl, Nat.le_of_ble_eq_true rfl⟩ hT rfl (Nat.le_of_ble_eq_true rfl) dJx4a65c_get_915e3_5) hW hT (fun H locs cells slots hW hT => ?_)
  clear hg
  refine lv_pop hx hb dJx4a65c_get_915e3_8 rfl ?_
  refine lv_aload_n hx hb dJx4a65c_get_915e3_9 rfl (lv_at hl 0 rfl) ?_
  refine lv_iload_n hx hb dJx4a65c_get_915e3_10 rfl (lv_at hl 1 rfl) ?_
  obtain ⟨hk4, hq⟩ := chk_e hq
  obtain ⟨r5, S6, C1, Z1, C2, Z2, hg, hq2, rfl, rfl⟩ := bndc_e hq
  replace hq := hq2
  clear hq2
  refine d_rq (d_runV (As := [.int p1]) (rest := []) B hW hl.1 (d_recv B hW (ci := 0) rfl (dF_0 hk4) (by rw [hk4]; decide)) (c_Jx4a65c_elementData_915e3 B.2.2.2.2.2.2.2.2.2.2 S3 d p1 hg) (g_V u_361 u_362 u_363 u_4 u_364) y1_Jx4a65c_elementData_915e3 rfl ⟨Nat.le_of_ble_eq_true rfl, Nat.le_of_ble_eq_true rfl⟩ hT rfl (Nat.le_of_ble_eq_true rfl) dJx4a65c_get_915e3_11) hW hT (fun H locs cells slots hW hT => ?_)
  clear hg
  exact d_aret (x := r5) B (Or.inl ⟨_, rfl⟩) hW hq hT dJx4a65c_get_915e3_14
set_option maxHeartbeats 4000000 in
set_option maxRecDepth 100000 in
theorem c_X11_thingOf {l : Launch} (hst : l.stackTraces = false) {D : va_G} {A : Nat → Prop} {G : DG} (S : DS) (d : Nat) (p1 : Int32) {r : Option Nat} {S' : DS} {TC TZ : Nat} (hq : q_X11_thingOf G.2.2 S d p1 = some (r, S', TC, TZ)) : Met l yX11_thingOf (wM yX11_thingOf cX11_thingOf 3 (some (.object "PromiseDesk$Thing"))) (rD 3 64 TC TZ) (va_Pc [.ref d, .int p1] (dPre D A G S)) (dQq D A G r S') TC TZ A := by
  obtain ⟨C, Z, hq, hT⟩ : ∃ C Z, q_X11_thingOf G.2.2 S d p1 = some (r, S', C, Z) ∧ (0 + C = (rD 3 64 TC TZ).cells ∧ 0 + Z = (rD 3 64 TC TZ).slots) := ⟨TC, TZ, hq, Nat.zero_add _, Nat.zero_add _⟩
  refine d_head hst (by decide) (Nat.le_of_ble_eq_true rfl) ?_
  intro p e s m args below meth c ls B hW hl
  have hx := B.1
  have hb := B.2.1
  have hl : lv_has ls 3 [(0, .ref d), (1, .int p1)] := hl
  unfold q_X11_thingOf at hq
  refine lv_iload_n hx hb dX11_thingOf_0 rfl (lv_at hl 1 rfl) ?_
  refine lv_bipush (v := (-2)) hx hb dX11_thingOf_1 (by decide) ?_
  refine lv_icmp_le (tgt := 8) hx hb dX11_thingOf_3 (by decide) (fun hc => ?_) (fun hc => ?_)
  · replace hq := if_y hc hq
    refine lv_bipush (v := (-2)) hx hb dX11_thingOf_8 (by decide) ?_
    refine lv_iload_n hx hb dX11_thingOf_10 rfl (lv_at hl 1 rfl) ?_
    refine lv_isub hx hb dX11_thingOf_11 ?_
    refine e_istore_n (lv' := [(2, .int ((-2) - p1)), (0, .ref d), (1, .int p1)]) hx hb dX11_thingOf_12 rfl hl (by decide) (catc rfl (catc rfl catn)) rfl (fun ls hl => ?_)
    refine lv_iload_n hx hb dX11_thingOf_13 rfl (lv_at hl 0 rfl) ?_
    refine lv_aload_n hx hb dX11_thingOf_14 rfl (lv_at hl 1 rfl) ?_
    obtain ⟨hk1, hq⟩ := chk_e hq
    refine d_get B hW (ci := 11) inT_11 rfl (dF_11 hk1) (by rw [hk1]; decide) 0 (by decide) u_62 (Or.inl rfl) (v := va_rf (dP S 1100 d)) rfl dX11_thingOf_15 ?_
    obtain ⟨b2, hb2, hq⟩ := bnd_e hq
    refine W.eq (g2 := F0 m 18 ls [.ref b2, .int ((-2) - p1)]) (by rw [hb2]; rfl) ?_
    obtain ⟨hk3, hq⟩ := chk_e hq
    obtain ⟨r4, S5, C1, Z1, C2, Z2, hg, hq2, rfl, rfl⟩ := bndc_e hq
    replace hq := hq2
    clear hq2
    refine d_ri (d_runV (As := []) (rest := [.int ((-2) - p1)]) B hW hl.1 (d_recv B hW (ci := 0) rfl (dF_0 hk3) (by rw [hk3]; decide)) (c_Jx4a65c_size_8abf5 B.2.2.2.2.2.2.2.2.2.2 S b2 hg) (g_V u_114 u_115 u_116 u_4 u_117) y1_Jx4a65c_size_8abf5 rfl ⟨Nat.le_of_ble_eq_true rfl, Nat.le_of_ble_eq_true rfl⟩ hT rfl (Nat.le_of_ble_eq_true rfl) dX11_thingOf_18) hW hT (fun H locs cells slots hW hT => ?_)
    clear hg
    refine lv_icmp_ge (tgt := 38) hx hb dX11_thingOf_21 (by decide) (fun hc => ?_) (fun hc => ?_)
    · replace hq := if_y hc hq
      refine lv_null hx hb dX11_thingOf_38 ?_
      exact d_aret (x := none) B (Or.inl ⟨_, rfl⟩) hW hq hT dX11_thingOf_39
    · replace hq := if_n hc hq
      refine lv_aload_n hx hb dX11_thingOf_24 rfl (lv_at hl 1 rfl) ?_
      obtain ⟨hk6, hq⟩ := chk_e hq
      refine d_get B hW (ci := 11) inT_11 rfl (dF_11 hk6) (by rw [hk6]; decide) 0 (by decide) u_62 (Or.inl rfl) (v := va_rf (dP S5 1100 d)) rfl dX11_thingOf_25 ?_
      refine lv_iload_n hx hb dX11_thingOf_28 rfl (lv_at hl 0 rfl) ?_
      obtain ⟨b7, hb7, hq⟩ := bnd_e hq
      refine W.eq (g2 := F0 m 29 ls [.int ((-2) - p1), .ref b7]) (by rw [hb7]; rfl) ?_
      obtain ⟨hk8, hq⟩ := chk_e hq
      obtain ⟨r9, S10, C1, Z1, C2, Z2, hg, hq2, rfl, rfl⟩ := bndc_e hq
      replace hq := hq2
      clear hq2
      refine d_rq (d_runV (As := [.int ((-2) - p1)]) (rest := []) B hW hl.1 (d_recv B hW (ci := 0) rfl (dF_0 hk8) (by rw [hk8]; decide)) (c_Jx4a65c_get_915e3 B.2.2.2.2.2.2.2.2.2.2 S5 b7 ((-2) - p1) hg) (g_V u_351 u_352 u_353 u_4 u_354) y1_Jx4a65c_get_915e3 rfl ⟨Nat.le_of_ble_eq_true rfl, Nat.le_of_ble_eq_true rfl⟩ hT rfl (Nat.le_of_ble_eq_true rfl) dX11_thingOf_29) hW hT (fun H locs cells slots hW hT => ?_)
      clear hg
      obtain ⟨b11, hb11, hq⟩ := bnd_e hq
      refine W.eq (g2 := F0 m 32 ls [.ref b11]) (by rw [hb11]; rfl) ?_
      obtain ⟨hk12, hq⟩ := chk_e hq
      refine or3 hk12 (fun hh kk => d_cast B (d_recv B hW (ci := 6) rfl (dF_6 hh) (by rw [hh]; decide)) u_365 un_20 dX11_thingOf_32 kk) (fun hh kk => d_cast B (d_recv B hW (ci := 9) rfl (dF_9 hh) (by rw [hh]; decide)) u_365 un_21 dX11_thingOf_32 kk) (fun hh kk => d_cast B (d_recv B hW (ci := 10) rfl (dF_10 hh) (by rw [hh]; decide)) u_365 un_22 dX11_thingOf_32 kk) ?_
      refine lv_goto (tgt := 39) hx hb dX11_thingOf_35 (by decide) ?_
      exact d_aret (x := (some b11)) B (Or.inl ⟨_, rfl⟩) hW hq hT dX11_thingOf_39
  · replace hq := if_n hc hq
    refine lv_null hx hb dX11_thingOf_6 ?_
    exact d_aret (x := none) B (Or.inl ⟨_, rfl⟩) hW hq hT dX11_thingOf_7
set_option maxHeartbeats 4000000 in
set_option maxRecDepth 100000 in
theorem c_X4_init {l : Launch} (hst : l.stackTraces = false) {D : va_G} {A : Nat → Prop} {G : DG} (S : DS) (d : Nat) (p1 : Option Nat) (p2 : Option Nat) (p3 : Option Nat) (p4 : Option Nat) (p5 : Option Nat) {r : Int32} {S' : DS} {TC TZ : Nat} (hq : q_X4_init G.2.2 S d p1 p2 p3 p4 p5 = some (r, S', TC, TZ)) : Met l yX4_init (wM yX4_init cX4_init 6 none) (rD 1 20 TC TZ) (va_Pc [.ref d, va_rf p1, va_rf p2, va_rf p3, va_rf p4, va_rf p5] (dPre D A G S)) (dQv D A G S') TC TZ A := by
  obtain ⟨C, Z, hq, hT⟩ : ∃ C Z, q_X4_init G.2.2 S d p1 p2 p3 p4 p5 = some (r, S', C, Z) ∧ (0 + C = (rD 1 20 TC TZ).cells ∧ 0 + Z = (rD 1 20 TC TZ).slots) := ⟨TC, TZ, hq, Nat.zero_add _, Nat.zero_add _⟩
  refine d_head hst (by decide) (by cases p1 <;> cases p2 <;> cases p3 <;> cases p4 <;> cases p5 <;> exact Nat.le_of_ble_eq_true rfl) ?_
  intro p e s m args below meth c ls B hW hl
  have hx := B.1
  have hb := B.2.1
  have hl : lv_has ls 6 [(0, .ref d), (1, va_rf p1), (2, va_rf p2), (3, va_rf p3), (4, va_rf p4), (5, va_rf p5)] := by cases p1 <;> cases p2 <;> cases p3 <;> cases p4 <;> cases p5 <;> exact hl
  unfold q_X4_init at hq
  refine lv_aload_n hx hb dX4_init_0 rfl (lv_at hl 0 rfl) ?_
  refine d_oinit B hl.1 u_491 u_34 u_35 ⟨Nat.le_of_ble_eq_true rfl, Nat.le_of_ble_eq_true rfl⟩ dX4_init_1 ?_
  refine lv_aload_n hx hb dX4_init_4 rfl (lv_at hl 0 rfl) ?_
  refine d_aload_n hx hb dX4_init_5 rfl (lv_at hl 1 rfl) ?_
  obtain ⟨hk1, hq⟩ := chk_e hq
  refine d_put B hW (ci := 4) inT_4 tyX4 tyX4_ok nmX4 rfl (dF_4 hk1) (by rw [hk1]; decide) (by rw [hk1]; decide) 0 (by decide) u_492 (Or.inl rfl) (Or.inr ⟨rfl, rfl, rfl⟩) (ty := (.object "PromiseDesk$Function")) (tyX4_ok 0 (by decide)) rf_nO rf_fO (Nat.le_of_ble_eq_true rfl) (S1 := sP S 400 d p1) (ds_4_0 hk1 p1) ⟨rfl, rfl, rfl⟩ (fun b hb => dF_sP hb) dX4_init_6 (fun H locs hW => ?_)
  obtain ⟨S2, eS⟩ : ∃ z, z = sP S 400 d p1 := ⟨_, rfl⟩
  rw [← eS] at hW
  replace hq := lt9_u eS hq
  have hk3 : dK S2 d = 5 := by rw [eS]; exact hk1
  clear eS
  refine lv_aload_n hx hb dX4_init_9 rfl (lv_at hl 0 rfl) ?_
  refine d_aload_n hx hb dX4_init_10 rfl (lv_at hl 2 rfl) ?_
  refine d_put B hW (ci := 4) inT_4 tyX4 tyX4_ok nmX4 rfl (dF_4 hk3) (by rw [hk3]; decide) (by rw [hk3]; decide) 1 (by decide) u_494 (Or.inl rfl) (Or.inr ⟨rfl, rfl, rfl⟩) (ty := (.object "PromiseDesk$Function")) (tyX4_ok 1 (by decide)) rf_nO rf_fO (Nat.le_of_ble_eq_true rfl) (S1 := sP S2 401 d p2) (ds_4_1 hk3 p2) ⟨rfl, rfl, rfl⟩ (fun b hb => dF_sP hb) dX4_init_11 (fun H locs hW => ?_)
  obtain ⟨S4, eS⟩ : ∃ z, z = sP S2 401 d p2 := ⟨_, rfl⟩
  rw [← eS] at hW
  replace hq := lt9_u eS hq
  have hk5 : dK S4 d = 5 := by rw [eS]; exact hk3
  clear eS
  refine lv_aload_n hx hb dX4_init_14 rfl (lv_at hl 0 rfl) ?_
  refine d_aload_n hx hb dX4_init_15 rfl (lv_at hl 3 rfl) ?_
  refine d_put B hW (ci := 4) inT_4 tyX4 tyX4_ok nmX4 rfl (dF_4 hk5) (by rw [hk5]; decide) (by rw [hk5]; decide) 2 (by decide) u_496 (Or.inl rfl) (Or.inr ⟨rfl, rfl, rfl⟩) (ty := (.object "PromiseDesk$Resolvers")) (tyX4_ok 2 (by decide)) rf_nO rf_fO (Nat.le_of_ble_eq_true rfl) (S1 := sP S4 402 d p3) (ds_4_2 hk5 p3) ⟨rfl, rfl, rfl⟩ (fun b hb => dF_sP hb) dX4_init_16 (fun H locs hW => ?_)
  obtain ⟨S6, eS⟩ : ∃ z, z = sP S4 402 d p3 := ⟨_, rfl⟩
  rw [← eS] at hW
  replace hq := lt9_u eS hq
  have hk7 : dK S6 d = 5 := by rw [eS]; exact hk5
  clear eS
  refine lv_aload_n hx hb dX4_init_19 rfl (lv_at hl 0 rfl) ?_
  refine d_aload hx hb dX4_init_20 (lv_at hl 4 rfl) ?_
  refine d_put B hW (ci := 4) inT_4 tyX4 tyX4_ok nmX4 rfl (dF_4 hk7) (by rw [hk7]; decide) (by rw [hk7]; decide) 3 (by decide) u_498 (Or.inl rfl) (Or.inr ⟨rfl, rfl, rfl⟩) (ty := (.object "PromiseDesk$AsyncRun")) (tyX4_ok 3 (by decide)) rf_nO rf_fO (Nat.le_of_ble_eq_true rfl) (S1 := sP S6 403 d p4) (ds_4_3 hk7 p4) ⟨rfl, rfl, rfl⟩ (fun b hb => dF_sP hb) dX4_init_22 (fun H locs hW => ?_)
  obtain ⟨S8, eS⟩ : ∃ z, z = sP S6 403 d p4 := ⟨_, rfl⟩
  rw [← eS] at hW
  replace hq := lt9_u eS hq
  have hk9 : dK S8 d = 5 := by rw [eS]; exact hk7
  clear eS
  refine lv_aload_n hx hb dX4_init_25 rfl (lv_at hl 0 rfl) ?_
  refine d_aload hx hb dX4_init_26 (lv_at hl 5 rfl) ?_
  refine d_put B hW (ci := 4) inT_4 tyX4 tyX4_ok nmX4 rfl (dF_4 hk9) (by rw [hk9]; decide) (by rw [hk9]; decide) 4 (by decide) u_500 (Or.inl rfl) (Or.inr ⟨rfl, rfl, rfl⟩) (ty := (.object "PromiseDesk$Thing")) (tyX4_ok 4 (by decide)) rf_nO rf_fO (Nat.le_of_ble_eq_true rfl) (S1 := sP S8 404 d p5) (ds_4_4 hk9 p5) ⟨rfl, rfl, rfl⟩ (fun b hb => dF_sP hb) dX4_init_28 (fun H locs hW => ?_)
  obtain ⟨S10, eS⟩ : ∃ z, z = sP S8 404 d p5 := ⟨_, rfl⟩
  rw [← eS] at hW
  replace hq := lt9_u eS hq
  have hk11 : dK S10 d = 5 := by rw [eS]; exact hk9
  clear eS
  exact d_vret B hW hq hT dX4_init_31
set_option maxHeartbeats 4000000 in
set_option maxRecDepth 100000 in
theorem c_X7_init {l : Launch} (hst : l.stackTraces = false) {D : va_G} {A : Nat → Prop} {G : DG} (S : DS) (d : Nat) (p1 : Option Nat) {r : Int32} {S' : DS} {TC TZ : Nat} (hq : q_X7_init G.2.2 S d p1 = some (r, S', TC, TZ)) : Met l yX7_init (wM yX7_init cX7_init 2 none) (rD 1 20 TC TZ) (va_Pc [.ref d, va_rf p1] (dPre D A G S)) (dQv D A G S') TC TZ A := by
  obtain ⟨C, Z, hq, hT⟩ : ∃ C Z, q_X7_init G.2.2 S d p1 = some (r, S', C, Z) ∧ (0 + C = (rD 1 20 TC TZ).cells ∧ 0 + Z = (rD 1 20 TC TZ).slots) := ⟨TC, TZ, hq, Nat.zero_add _, Nat.zero_add _⟩
  refine d_head hst (by decide) (by cases p1 <;> exact Nat.le_of_ble_eq_true rfl) ?_
  intro p e s m args below meth c ls B hW hl
  have hx := B.1
  have hb := B.2.1
  have hl : lv_has ls 2 [(0, .ref d), (1, va_rf p1)] := by cases p1 <;> exact hl
  unfold q_X7_init at hq
  refine lv_aload_n hx hb dX7_init_0 rfl (lv_at hl 0 rfl) ?_
  refine d_oinit B hl.1 u_306 u_34 u_35 ⟨Nat.le_of_ble_eq_true rfl, Nat.le_of_ble_eq_true rfl⟩ dX7_init_1 ?_
  refine lv_aload_n hx hb dX7_init_4 rfl (lv_at hl 0 rfl) ?_
  refine d_aload_n hx hb dX7_init_5 rfl (lv_at hl 1 rfl) ?_
  obtain ⟨hk1, hq⟩ := chk_e hq
  refine d_put B hW (ci := 7) inT_7 tyX7 tyX7_ok nmX7 rfl (dF_7 hk1) (by rw [hk1]; decide) (by rw [hk1]; decide) 0 (by decide) u_307 (Or.inl rfl) (Or.inr ⟨rfl, rfl, rfl⟩) (ty := (.object "PromiseDesk$Promise")) (tyX7_ok 0 (by decide)) rf_nO rf_fO (Nat.le_of_ble_eq_true rfl) (S1 := sP S 700 d p1) (ds_7_0 hk1 p1) ⟨rfl, rfl, rfl⟩ (fun b hb => dF_sP hb) dX7_init_6 (fun H locs hW => ?_)
  obtain ⟨S2, eS⟩ : ∃ z, z = sP S 700 d p1 := ⟨_, rfl⟩
  rw [← eS] at hW
  replace hq := lt9_u eS hq
  have hk3 : dK S2 d = 8 := by rw [eS]; exact hk1
  clear eS
  exact d_vret B hW hq hT dX7_init_9
set_option maxHeartbeats 4000000 in
set_option maxRecDepth 100000 in
theorem c_X4_follow {l : Launch} (hst : l.stackTraces = false) {D : va_G} {A : Nat → Prop} {G : DG} (S : DS) (p1 : Option Nat) (p2 : Option Nat) {r : Option Nat} {S' : DS} {TC TZ : Nat} (hq : q_X4_follow G.2.2 S p1 p2 = some (r, S', TC, TZ)) : Met l yX4_follow (wM yX4_follow cX4_follow 2 (some (.object "PromiseDesk$Job"))) (rD 2 45 TC TZ) (va_Pc [va_rf p1, va_rf p2] (dPre D A G S)) (dQq D A G r S') TC TZ A := by
  obtain ⟨C, Z, hq, hT⟩ : ∃ C Z, q_X4_follow G.2.2 S p1 p2 = some (r, S', C, Z) ∧ (0 + C = (rD 2 45 TC TZ).cells ∧ 0 + Z = (rD 2 45 TC TZ).slots) := ⟨TC, TZ, hq, Nat.zero_add _, Nat.zero_add _⟩
  refine d_head hst (by decide) (by cases p1 <;> cases p2 <;> exact Nat.le_of_ble_eq_true rfl) ?_
  intro p e s m args below meth c ls B hW hl
  have hx := B.1
  have hb := B.2.1
  have hl : lv_has ls 2 [(0, va_rf p1), (1, va_rf p2)] := by cases p1 <;> cases p2 <;> exact hl
  unfold q_X4_follow at hq
  obtain ⟨C1, Z1, hq2, rfl, rfl⟩ := tick_e hq
  replace hq := hq2
  clear hq2
  refine d_new B hW (ci := 4) (kd := 5) inT_4 tyX4 tyX4_ok u_484 u_485 u_23 rfl (fun j hj => by rcases (show j = 0 ∨ j = 1 ∨ j = 2 ∨ j = 3 ∨ j = 4 ∨ j = 5 ∨ j = 6 ∨ j = 7 by omega) with rfl | rfl | rfl | rfl | rfl | rfl | rfl | rfl <;> rfl) dw_4 hT dX4_follow_0 (fun H cells slots q1 S2 eq eS hW hT => ?_)
  replace hq := lt9_u eq hq
  replace hq := lt9_u eS hq
  have hkq1 : dK S2 q1 = 5 := by rw [eS, eq]; exact va_up_self _ _ _
  clear eS eq
  refine lv_dup hx hb dX4_follow_3 rfl ?_
  refine lv_null hx hb dX4_follow_4 ?_
  refine lv_null hx hb dX4_follow_5 ?_
  obtain ⟨C1, Z1, hq2, rfl, rfl⟩ := tick_e hq
  replace hq := hq2
  clear hq2
  refine d_new B hW (ci := 7) (kd := 8) inT_7 tyX7 tyX7_ok u_486 u_302 u_16 rfl (fun j hj => by rcases (show j = 0 ∨ j = 1 by omega) with rfl | rfl <;> rfl) dw_7 hT dX4_follow_6 (fun H cells slots q3 S4 eq eS hW hT => ?_)
  replace hq := lt9_u eq hq
  replace hq := lt9_u eS hq
  have hkq3 : dK S4 q3 = 8 := by rw [eS, eq]; exact va_up_self _ _ _
  clear eS eq
  refine lv_dup hx hb dX4_follow_9 rfl ?_
  refine d_aload_n hx hb dX4_follow_10 rfl (lv_at hl 1 rfl) ?_
  obtain ⟨r5, S6, C1, Z1, C2, Z2, hg, hq2, rfl, rfl⟩ := bndc_e hq
  replace hq := hq2
  clear hq2
  refine d_rv (d_runI (As := [va_rf p2]) (rest := [.ref q3, .null, .null, .ref q1, .ref q1]) B hW hl.1 (c_X7_init B.2.2.2.2.2.2.2.2.2.2 S4 q3 p2 hg) u_487 u_304 u_16 u_305 rfl y1_X7_init rfl ⟨Nat.le_of_ble_eq_true rfl, Nat.le_of_ble_eq_true rfl⟩ hT rfl (Nat.le_of_ble_eq_true rfl) dX4_follow_11) hW hT (fun H locs cells slots hW hT => ?_)
  clear hg
  refine lv_null hx hb dX4_follow_14 ?_
  refine d_aload_n hx hb dX4_follow_15 rfl (lv_at hl 0 rfl) ?_
  obtain ⟨r7, S8, C1, Z1, C2, Z2, hg, hq2, rfl, rfl⟩ := bndc_e hq
  replace hq := hq2
  clear hq2
  refine d_rv (d_runI (As := [.null, .null, .ref q3, .null, va_rf p1]) (rest := [.ref q1]) B hW hl.1 (c_X4_init B.2.2.2.2.2.2.2.2.2.2 S6 q1 none none (some q3) none p1 hg) u_488 u_489 u_23 u_490 rfl y1_X4_init rfl ⟨Nat.le_of_ble_eq_true rfl, Nat.le_of_ble_eq_true rfl⟩ hT rfl (Nat.le_of_ble_eq_true rfl) dX4_follow_16) hW hT (fun H locs cells slots hW hT => ?_)
  clear hg
  exact d_aret (x := (some q1)) B (Or.inl ⟨_, rfl⟩) hW hq hT dX4_follow_19
set_option maxHeartbeats 4000000 in
set_option maxRecDepth 100000 in
theorem k_X11_resolve_90 {p : Program} {l : Launch} {e : Env} {s : State} {m : MethodId} {args : Array Value} {below : List Frame} {meth : Method} {c : Code} {D : va_G} {A : Nat → Prop} {G : DG} {d : Nat} {r : Int32} {S' : DS} {TC TZ : Nat} (B : dB p l s m args meth c D A G yX11_resolve.cls yX11_resolve.name cX11_resolve 6 none (Cond.code yX11_resolve cX11_resolve 6 none)) :
    ∀ (n : Nat) (S : DS) (v2 : Int32) (v3 : Option Nat) (v4 : Option Nat) (C Z : Nat), q_X11_resolve_90 G.2.2 n S d v2 v3 v4 = some (r, S', C, Z) → ∀ (H : Heap) (locs : List Loc) (ls : Array Slot) (cells slots : Nat), dOK D A G S s.heap H locs → lv_has ls 6 [(0, .ref d), (2, .int v2), (3, va_rf v3), (4, va_rf v4)] → cells + C = (rD 8 231 TC TZ).cells ∧ slots + Z = (rD 8 231 TC TZ).slots → W p l e (rD 8 231 TC TZ) s m args below meth c H locs cells slots (MQ below (dQv D A G S') args s (rD 8 231 TC TZ).cells (rD 8 231 TC TZ).slots A) (F0 m 90 ls []) := by
  have hx := B.1
  have hb := B.2.1
  intro n S v2 v3 v4 C Z hq H locs ls cells slots hW hl hT
  unfold q_X11_resolve_90 at hq
  refine lv_aload_n hx hb dX11_resolve_90 rfl (lv_at hl 0 rfl) ?_
  refine d_aload hx hb dX11_resolve_91 (lv_at hl 3 rfl) ?_
  obtain ⟨hk10, hq⟩ := chk_e hq
  obtain ⟨r11, S12, C1, Z1, C2, Z2, hg, hq2, rfl, rfl⟩ := bndc_e hq
  replace hq := hq2
  clear hq2
  refine d_ri (d_runV (As := [va_rf v4]) (rest := []) B hW hl.1 (d_recv B hW (ci := 11) rfl (dF_11 hk10) (by rw [hk10]; decide)) (c_X11_hasThenFunction B.2.2.2.2.2.2.2.2.2.2 S d v4 hg) (g_V u_477 u_479 us_18 u_1 u_480) y1_X11_hasThenFunction rfl ⟨Nat.le_of_ble_eq_true rfl, Nat.le_of_ble_eq_true rfl⟩ hT rfl (Nat.le_of_ble_eq_true rfl) dX11_resolve_93) hW hT (fun H locs cells slots hW hT => ?_)
  clear hg
  refine lv_if_eq (tgt := 112) hx hb dX11_resolve_96 (by decide) (fun hc => ?_) (fun hc => ?_)
  · replace hq := if_y hc hq
    refine lv_aload_n hx hb dX11_resolve_112 rfl (lv_at hl 0 rfl) ?_
    refine d_aload_n hx hb dX11_resolve_113 rfl (lv_at hl 2 rfl) ?_
    refine lv_iconst (v := 1) hx hb dX11_resolve_114 (by decide) ?_
    refine lv_iload_n hx hb dX11_resolve_115 rfl (lv_at hl 1 rfl) ?_
    obtain ⟨hk13, hq⟩ := chk_e hq
    obtain ⟨r14, S15, C1, Z1, C2, Z2, hg, hq2, rfl, rfl⟩ := bndc_e hq
    replace hq := hq2
    clear hq2
    refine d_rv (d_runV (As := [va_rf v3, .int 1, .int v2]) (rest := []) B hW hl.1 (d_recv B hW (ci := 11) rfl (dF_11 hk13) (by rw [hk13]; decide)) (c_X11_close B.2.2.2.2.2.2.2.2.2.2 n S12 d v3 1 v2 hg) (g_V u_451 u_453 us_14 u_1 u_454) y1_X11_close rfl ⟨Nat.le_of_ble_eq_true rfl, Nat.le_of_ble_eq_true rfl⟩ hT rfl (Nat.le_of_ble_eq_true rfl) dX11_resolve_116) hW hT (fun H locs cells slots hW hT => ?_)
    clear hg
    exact d_vret B hW hq hT dX11_resolve_119
  · replace hq := if_n hc hq
    refine lv_aload_n hx hb dX11_resolve_99 rfl (lv_at hl 0 rfl) ?_
    refine d_aload hx hb dX11_resolve_100 (lv_at hl 3 rfl) ?_
    refine d_aload_n hx hb dX11_resolve_102 rfl (lv_at hl 2 rfl) ?_
    obtain ⟨r16, S17, C1, Z1, C2, Z2, hg, hq2, rfl, rfl⟩ := bndc_e hq
    replace hq := hq2
    clear hq2
    refine d_rq (d_runS (As := [va_rf v4, va_rf v3]) (rest := [.ref d]) B hW hl.1 (c_X4_follow B.2.2.2.2.2.2.2.2.2.2 S12 v4 v3 hg) (g_S u_481 u_482 u_23 u_483) y1_X4_follow rfl ⟨Nat.le_of_ble_eq_true rfl, Nat.le_of_ble_eq_true rfl⟩ hT rfl (Nat.le_of_ble_eq_true rfl) dX11_resolve_103) hW hT (fun H locs cells slots hW hT => ?_)
    clear hg
    obtain ⟨hk18, hq⟩ := chk_e hq
    obtain ⟨r19, S20, C1, Z1, C2, Z2, hg, hq2, rfl, rfl⟩ := bndc_e hq
    replace hq := hq2
    clear hq2
    refine d_rv (d_runV (As := [va_rf r16]) (rest := []) B hW hl.1 (d_recv B hW (ci := 11) rfl (dF_11 hk18) (by rw [hk18]; decide)) (c_X11_enqueue B.2.2.2.2.2.2.2.2.2.2 S17 d r16 hg) (g_V u_459 u_461 us_15 u_1 u_462) y1_X11_enqueue rfl ⟨Nat.le_of_ble_eq_true rfl, Nat.le_of_ble_eq_true rfl⟩ hT rfl (Nat.le_of_ble_eq_true rfl) dX11_resolve_106) hW hT (fun H locs cells slots hW hT => ?_)
    clear hg
    refine lv_goto (tgt := 119) hx hb dX11_resolve_109 (by decide) ?_
    exact d_vret B hW hq hT dX11_resolve_119
set_option maxHeartbeats 4000000 in
set_option maxRecDepth 100000 in
theorem c_X11_resolve {l : Launch} (hst : l.stackTraces = false) {D : va_G} {A : Nat → Prop} {G : DG} (n : Nat) (S : DS) (d : Nat) (p1 : Option Nat) (p2 : Int32) {r : Int32} {S' : DS} {TC TZ : Nat} (hq : q_X11_resolve G.2.2 n S d p1 p2 = some (r, S', TC, TZ)) : Met l yX11_resolve (wM yX11_resolve cX11_resolve 6 none) (rD 8 231 TC TZ) (va_Pc [.ref d, va_rf p1, .int p2] (dPre D A G S)) (dQv D A G S') TC TZ A := by
  obtain ⟨C, Z, hq, hT⟩ : ∃ C Z, q_X11_resolve G.2.2 n S d p1 p2 = some (r, S', C, Z) ∧ (0 + C = (rD 8 231 TC TZ).cells ∧ 0 + Z = (rD 8 231 TC TZ).slots) := ⟨TC, TZ, hq, Nat.zero_add _, Nat.zero_add _⟩
  refine d_head hst (by decide) (by cases p1 <;> exact Nat.le_of_ble_eq_true rfl) ?_
  intro p e s m args below meth c ls B hW hl
  have hx := B.1
  have hb := B.2.1
  have hl : lv_has ls 6 [(0, .ref d), (1, va_rf p1), (2, .int p2)] := by cases p1 <;> exact hl
  unfold q_X11_resolve at hq
  refine d_aload_n hx hb dX11_resolve_0 rfl (lv_at hl 1 rfl) ?_
  refine d_ifnull (tgt := 11) hx hb dX11_resolve_1 (by decide) (fun hc => ?_) (fun hc => ?_)
  · replace hq := if_y hc hq
    exact d_vret B hW hq hT dX11_resolve_11
  · replace hq := if_n hc hq
    refine d_aload_n hx hb dX11_resolve_4 rfl (lv_at hl 1 rfl) ?_
    obtain ⟨b1, hb1, hq⟩ := bnd_e hq
    refine W.eq (g2 := F0 m 5 ls [.ref b1]) (by rw [hb1]; rfl) ?_
    obtain ⟨hk2, hq⟩ := chk_e hq
    refine d_get B hW (ci := 7) inT_7 rfl (dF_7 hk2) (by rw [hk2]; decide) 1 (by decide) u_309 (Or.inl rfl) (v := .int (dI S 701 b1)) rfl dX11_resolve_5 ?_
    refine lv_if_eq (tgt := 12) hx hb dX11_resolve_8 (by decide) (fun hc => ?_) (fun hc => ?_)
    · replace hq := if_y hc hq
      refine d_aload_n hx hb dX11_resolve_12 rfl (lv_at hl 1 rfl) ?_
      refine lv_iconst (v := 1) hx hb dX11_resolve_13 (by decide) ?_
      refine W.eq (g2 := F0 m 14 ls [.int 1, .ref b1]) (by rw [hb1]; rfl) ?_
      obtain ⟨hz, hq⟩ := chk_e hq
      refine d_put B hW (ci := 7) inT_7 tyX7 tyX7_ok nmX7 rfl (dF_7 hk2) (by rw [hk2]; decide) (by rw [hk2]; decide) 1 (by decide) u_309 (Or.inl rfl) (Or.inl rfl) (ty := .boolean) (tyX7_ok 1 (by decide)) (isB_narrow hz) (isB_fits hz) (Nat.le_of_ble_eq_true rfl) (S1 := sI S 701 b1 1) (ds_7_1 hk2 1) ⟨rfl, rfl, rfl⟩ (fun b hb => dF_sI hb) dX11_resolve_14 (fun H locs hW => ?_)
      obtain ⟨S3, eS⟩ : ∃ z, z = sI S 701 b1 1 := ⟨_, rfl⟩
      rw [← eS] at hW
      replace hq := lt9_u eS hq
      have hk4 : dK S3 b1 = 8 := by rw [eS]; exact hk2
      clear eS
      refine d_aload_n hx hb dX11_resolve_17 rfl (lv_at hl 1 rfl) ?_
      refine W.eq (g2 := F0 m 18 ls [.ref b1]) (by rw [hb1]; rfl) ?_
      refine d_get B hW (ci := 7) inT_7 rfl (dF_7 hk4) (by rw [hk4]; decide) 0 (by decide) u_308 (Or.inl rfl) (v := va_rf (dP S3 700 b1)) rfl dX11_resolve_18 ?_
      refine e_astore_n (x := (dP S3 700 b1)) (lv' := [(3, va_rf (dP S3 700 b1)), (0, .ref d), (1, va_rf p1), (2, .int p2)]) hx hb dX11_resolve_21 rfl hl (by decide) (catc rfl (catc rf_cat (catc rfl catn))) rfl (fun ls hl => ?_)
      refine lv_aload_n hx hb dX11_resolve_22 rfl (lv_at hl 1 rfl) ?_
      refine lv_iload_n hx hb dX11_resolve_23 rfl (lv_at hl 3 rfl) ?_
      obtain ⟨hk5, hq⟩ := chk_e hq
      obtain ⟨r6, S7, C1, Z1, C2, Z2, hg, hq2, rfl, rfl⟩ := bndc_e hq
      replace hq := hq2
      clear hq2
      refine d_rq (d_runV (As := [.int p2]) (rest := []) B hW hl.1 (d_recv B hW (ci := 11) rfl (dF_11 hk5) (by rw [hk5]; decide)) (c_X11_thingOf B.2.2.2.2.2.2.2.2.2.2 S3 d p2 hg) (g_V u_347 u_349 us_9 u_1 u_350) y1_X11_thingOf rfl ⟨Nat.le_of_ble_eq_true rfl, Nat.le_of_ble_eq_true rfl⟩ hT rfl (Nat.le_of_ble_eq_true rfl) dX11_resolve_24) hW hT (fun H locs cells slots hW hT => ?_)
      clear hg
      refine e_astore (x := r6) (lv' := [(4, va_rf r6), (3, va_rf (dP S3 700 b1)), (0, .ref d), (1, va_rf p1), (2, .int p2)]) hx hb dX11_resolve_27 hl (by decide) (catc rf_cat (catc rfl (catc rf_cat (catc rfl catn)))) rfl (fun ls hl => ?_)
      refine lv_iload_n hx hb dX11_resolve_29 rfl (lv_at hl 4 rfl) ?_
      refine d_aload_n hx hb dX11_resolve_30 rfl (lv_at hl 1 rfl) ?_
      obtain ⟨b8, hb8, hq⟩ := bnd_e hq
      refine W.eq (g2 := F0 m 31 ls [.ref b8, .int p2]) (by rw [hb8]; rfl) ?_
      obtain ⟨hk9, hq⟩ := chk_e hq
      refine d_get B hW (ci := 6) inT_6 rfl (dF_6 hk9) (by rw [hk9]; decide) 0 (by decide) u_211 (Or.inr u_212) (v := .int (dI S7 1000 b8)) rfl dX11_resolve_31 ?_
      refine lv_icmp_ne (tgt := 52) hx hb dX11_resolve_34 (by decide) (fun hc => ?_) (fun hc => ?_)
      · replace hq := if_n hc hq
        refine d_aload hx hb dX11_resolve_52 (lv_at hl 0 rfl) ?_
        obtain ⟨ho, hq⟩ := chk_e hq
        refine d_instT B hW (x := r6) ho u_407 dX11_resolve_54 ?_
        refine lv_if_eq (tgt := 90) hx hb dX11_resolve_57 (by decide) (fun hc => ?_) (fun hc => ?_)
        · replace hq := if_y hc hq
          exact k_X11_resolve_90 B n S7 p2 (dP S3 700 b1) r6 _ _ hq _ _ ls _ _ hW (lv_sub hl [2, 4, 1, 0] rfl) hT
        · replace hq := if_n hc hq
          refine d_aload hx hb dX11_resolve_60 (lv_at hl 0 rfl) ?_
          obtain ⟨b21, hb21, hq⟩ := bnd_e hq
          refine W.eq (g2 := F0 m 62 ls [.ref b21]) (by rw [hb21]; rfl) ?_
          obtain ⟨hk22, hq⟩ := chk_e hq
          refine d_cast B (d_recv B hW (ci := 9) rfl (dF_9 hk22) (by rw [hk22]; decide)) u_407 un_24 dX11_resolve_62 ?_
          refine e_astore (x := (some b21)) (lv' := [(5, .ref b21), (4, va_rf r6), (3, va_rf (dP S3 700 b1)), (0, .ref d), (1, va_rf p1), (2, .int p2)]) hx hb dX11_resolve_65 hl (by decide) (catc rf_cat (catc rf_cat (catc rfl (catc rf_cat (catc rfl catn))))) rfl (fun ls hl => ?_)
          refine lv_aload hx hb dX11_resolve_67 (lv_at hl 0 rfl) ?_
          refine d_get B hW (ci := 9) inT_9 rfl (dF_9 hk22) (by rw [hk22]; decide) 3 (by decide) u_414 (Or.inl rfl) (v := .int (dI S7 903 b21)) rfl dX11_resolve_69 ?_
          refine lv_iconst (v := 1) hx hb dX11_resolve_72 (by decide) ?_
          refine lv_icmp_ne (tgt := 90) hx hb dX11_resolve_73 (by decide) (fun hc => ?_) (fun hc => ?_)
          · replace hq := if_n hc hq
            exact k_X11_resolve_90 B n S7 p2 (dP S3 700 b1) r6 _ _ hq _ _ ls _ _ hW (lv_sub hl [3, 5, 2, 1] rfl) hT
          · replace hq := if_y hc hq
            refine lv_aload_n hx hb dX11_resolve_76 rfl (lv_at hl 3 rfl) ?_
            refine d_aload_n hx hb dX11_resolve_77 rfl (lv_at hl 2 rfl) ?_
            refine lv_iconst (v := 2) hx hb dX11_resolve_78 (by decide) ?_
            refine lv_aload hx hb dX11_resolve_79 (lv_at hl 0 rfl) ?_
            refine d_get B hW (ci := 9) inT_9 rfl (dF_9 hk22) (by rw [hk22]; decide) 5 (by decide) u_416 (Or.inl rfl) (v := .int (dI S7 905 b21)) rfl dX11_resolve_81 ?_
            obtain ⟨hk23, hq⟩ := chk_e hq
            obtain ⟨r24, S25, C1, Z1, C2, Z2, hg, hq2, rfl, rfl⟩ := bndc_e hq
            replace hq := hq2
            clear hq2
            refine d_rv (d_runV (As := [va_rf (dP S3 700 b1), .int 2, .int (dI S7 905 b21)]) (rest := []) B hW hl.1 (d_recv B hW (ci := 11) rfl (dF_11 hk23) (by rw [hk23]; decide)) (c_X11_close B.2.2.2.2.2.2.2.2.2.2 n S7 d (dP S3 700 b1) 2 (dI S7 905 b21) hg) (g_V u_451 u_453 us_14 u_1 u_454) y1_X11_close rfl ⟨Nat.le_of_ble_eq_true rfl, Nat.le_of_ble_eq_true rfl⟩ hT rfl (Nat.le_of_ble_eq_true rfl) dX11_resolve_84) hW hT (fun H locs cells slots hW hT => ?_)
            clear hg
            refine lv_goto (tgt := 119) hx hb dX11_resolve_87 (by decide) ?_
            exact d_vret B hW hq hT dX11_resolve_119
      · replace hq := if_y hc hq
        refine lv_aload_n hx hb dX11_resolve_37 rfl (lv_at hl 2 rfl) ?_
        refine d_aload_n hx hb dX11_resolve_38 rfl (lv_at hl 1 rfl) ?_
        refine lv_iconst (v := 2) hx hb dX11_resolve_39 (by decide) ?_
        refine lv_aload_n hx hb dX11_resolve_40 rfl (lv_at hl 2 rfl) ?_
        refine lv_iconst (v := 2) hx hb dX11_resolve_41 (by decide) ?_
        refine lv_null hx hb dX11_resolve_42 ?_
        obtain ⟨hk26, hq⟩ := chk_e hq
        obtain ⟨r27, S28, C1, Z1, C2, Z2, hg, hq2, rfl, rfl⟩ := bndc_e hq
        replace hq := hq2
        clear hq2
        refine d_ri (d_runV (As := [.int 2, .null]) (rest := [.int 2, va_rf (dP S3 700 b1), .ref d]) B hW hl.1 (d_recv B hW (ci := 11) rfl (dF_11 hk26) (by rw [hk26]; decide)) (c_X11_newThing B.2.2.2.2.2.2.2.2.2.2 S7 d 2 none hg) (g_V u_467 u_469 us_17 u_1 u_470) y1_X11_newThing rfl ⟨Nat.le_of_ble_eq_true rfl, Nat.le_of_ble_eq_true rfl⟩ hT rfl (cat8 (vcc rfl (vcc rf_cat (vcc rfl vcn))) (Nat.le_of_ble_eq_true rfl)) dX11_resolve_43) hW hT (fun H locs cells slots hW hT => ?_)
        clear hg
        obtain ⟨hk29, hq⟩ := chk_e hq
        obtain ⟨r30, S31, C1, Z1, C2, Z2, hg, hq2, rfl, rfl⟩ := bndc_e hq
        replace hq := hq2
        clear hq2
        refine d_rv (d_runV (As := [va_rf (dP S3 700 b1), .int 2, .int r27]) (rest := []) B hW hl.1 (d_recv B hW (ci := 11) rfl (dF_11 hk29) (by rw [hk29]; decide)) (c_X11_close B.2.2.2.2.2.2.2.2.2.2 n S28 d (dP S3 700 b1) 2 r27 hg) (g_V u_451 u_453 us_14 u_1 u_454) y1_X11_close rfl ⟨Nat.le_of_ble_eq_true rfl, Nat.le_of_ble_eq_true rfl⟩ hT rfl (Nat.le_of_ble_eq_true rfl) dX11_resolve_46) hW hT (fun H locs cells slots hW hT => ?_)
        clear hg
        refine lv_goto (tgt := 119) hx hb dX11_resolve_49 (by decide) ?_
        exact d_vret B hW hq hT dX11_resolve_119
    · replace hq := if_n hc hq
      exact d_vret B hW hq hT dX11_resolve_11
set_option maxHeartbeats 4000000 in
set_option maxRecDepth 100000 in
theorem c_X11_complete {l : Launch} (hst : l.stackTraces = false) {D : va_G} {A : Nat → Prop} {G : DG} (n : Nat) (S : DS) (d : Nat) (p1 : Option Nat) {r : Int32} {S' : DS} {TC TZ : Nat} (hq : q_X11_complete G.2.2 n S d p1 = some (r, S', TC, TZ)) : Met l yX11_complete (wM yX11_complete cX11_complete 3 none) (rD 9 256 TC TZ) (va_Pc [.ref d, va_rf p1] (dPre D A G S)) (dQv D A G S') TC TZ A := by
  obtain ⟨C, Z, hq, hT⟩ : ∃ C Z, q_X11_complete G.2.2 n S d p1 = some (r, S', C, Z) ∧ (0 + C = (rD 9 256 TC TZ).cells ∧ 0 + Z = (rD 9 256 TC TZ).slots) := ⟨TC, TZ, hq, Nat.zero_add _, Nat.zero_add _⟩
  refine d_head hst (by decide) (by cases p1 <;> exact Nat.le_of_ble_eq_true rfl) ?_
  intro p e s m args below meth c ls B hW hl
  have hx := B.1
  have hb := B.2.1
  have hl : lv_has ls 3 [(0, .ref d), (1, va_rf p1)] := by cases p1 <;> exact hl
  unfold q_X11_complete at hq
  refine d_aload_n hx hb dX11_complete_0 rfl (lv_at hl 1 rfl) ?_
  obtain ⟨b1, hb1, hq⟩ := bnd_e hq
  refine W.eq (g2 := F0 m 1 ls [.ref b1]) (by rw [hb1]; rfl) ?_
  obtain ⟨hk2, hq⟩ := chk_e hq
  refine d_get B hW (ci := 2) inT_2 rfl (dF_2 hk2) (by rw [hk2]; decide) 0 (by decide) u_633 (Or.inl rfl) (v := .int (dI S 200 b1)) rfl dX11_complete_1 ?_
  refine lv_iconst (v := 2) hx hb dX11_complete_4 (by decide) ?_
  refine lv_icmp_ne (tgt := 40) hx hb dX11_complete_5 (by decide) (fun hc => ?_) (fun hc => ?_)
  · replace hq := if_n hc hq
    refine lv_aload_n hx hb dX11_complete_40 rfl (lv_at hl 0 rfl) ?_
    refine d_aload_n hx hb dX11_complete_41 rfl (lv_at hl 1 rfl) ?_
    refine W.eq (g2 := F0 m 42 ls [.ref b1, .ref d]) (by rw [hb1]; rfl) ?_
    refine d_get B hW (ci := 2) inT_2 rfl (dF_2 hk2) (by rw [hk2]; decide) 2 (by decide) u_638 (Or.inl rfl) (v := va_rf (dP S 202 b1)) rfl dX11_complete_42 ?_
    refine lv_aload_n hx hb dX11_complete_45 rfl (lv_at hl 0 rfl) ?_
    refine lv_iconst (v := 4) hx hb dX11_complete_46 (by decide) ?_
    refine d_aload_n hx hb dX11_complete_47 rfl (lv_at hl 1 rfl) ?_
    refine W.eq (g2 := F0 m 48 ls [.ref b1, .int 4, .ref d, va_rf (dP S 202 b1), .ref d]) (by rw [hb1]; rfl) ?_
    refine d_get B hW (ci := 2) inT_2 rfl (dF_2 hk2) (by rw [hk2]; decide) 1 (by decide) u_636 (Or.inl rfl) (v := va_rf (dP S 201 b1)) rfl dX11_complete_48 ?_
    obtain ⟨hk3, hq⟩ := chk_e hq
    obtain ⟨r4, S5, C1, Z1, C2, Z2, hg, hq2, rfl, rfl⟩ := bndc_e hq
    replace hq := hq2
    clear hq2
    refine d_ri (d_runV (As := [.int 4, va_rf (dP S 201 b1)]) (rest := [va_rf (dP S 202 b1), .ref d]) B hW hl.1 (d_recv B hW (ci := 11) rfl (dF_11 hk3) (by rw [hk3]; decide)) (c_X11_newThing B.2.2.2.2.2.2.2.2.2.2 S d 4 (dP S 201 b1) hg) (g_V u_467 u_469 us_17 u_1 u_470) y1_X11_newThing rfl ⟨Nat.le_of_ble_eq_true rfl, Nat.le_of_ble_eq_true rfl⟩ hT rfl (cat8 (vcc rf_cat (vcc rfl vcn)) (Nat.le_of_ble_eq_true rfl)) dX11_complete_51) hW hT (fun H locs cells slots hW hT => ?_)
    clear hg
    obtain ⟨hk6, hq⟩ := chk_e hq
    obtain ⟨r7, S8, C1, Z1, C2, Z2, hg, hq2, rfl, rfl⟩ := bndc_e hq
    replace hq := hq2
    clear hq2
    refine d_rv (d_runV (As := [va_rf (dP S 202 b1), .int r4]) (rest := []) B hW hl.1 (d_recv B hW (ci := 11) rfl (dF_11 hk6) (by rw [hk6]; decide)) (c_X11_resolve B.2.2.2.2.2.2.2.2.2.2 n S5 d (dP S 202 b1) r4 hg) (g_V u_463 u_465 us_16 u_1 u_466) y1_X11_resolve rfl ⟨Nat.le_of_ble_eq_true rfl, Nat.le_of_ble_eq_true rfl⟩ hT rfl (Nat.le_of_ble_eq_true rfl) dX11_complete_54) hW hT (fun H locs cells slots hW hT => ?_)
    clear hg
    exact d_vret B hW hq hT dX11_complete_57
  · replace hq := if_y hc hq
    refine lv_aload_n hx hb dX11_complete_8 rfl (lv_at hl 0 rfl) ?_
    refine lv_iconst (v := 3) hx hb dX11_complete_9 (by decide) ?_
    refine d_aload_n hx hb dX11_complete_10 rfl (lv_at hl 1 rfl) ?_
    refine W.eq (g2 := F0 m 11 ls [.ref b1, .int 3, .ref d]) (by rw [hb1]; rfl) ?_
    refine d_get B hW (ci := 2) inT_2 rfl (dF_2 hk2) (by rw [hk2]; decide) 1 (by decide) u_636 (Or.inl rfl) (v := va_rf (dP S 201 b1)) rfl dX11_complete_11 ?_
    obtain ⟨hk9, hq⟩ := chk_e hq
    obtain ⟨r10, S11, C1, Z1, C2, Z2, hg, hq2, rfl, rfl⟩ := bndc_e hq
    replace hq := hq2
    clear hq2
    refine d_ri (d_runV (As := [.int 3, va_rf (dP S 201 b1)]) (rest := []) B hW hl.1 (d_recv B hW (ci := 11) rfl (dF_11 hk9) (by rw [hk9]; decide)) (c_X11_newThing B.2.2.2.2.2.2.2.2.2.2 S d 3 (dP S 201 b1) hg) (g_V u_467 u_469 us_17 u_1 u_470) y1_X11_newThing rfl ⟨Nat.le_of_ble_eq_true rfl, Nat.le_of_ble_eq_true rfl⟩ hT rfl (Nat.le_of_ble_eq_true rfl) dX11_complete_14) hW hT (fun H locs cells slots hW hT => ?_)
    clear hg
    refine e_istore_n (lv' := [(2, .int r10), (0, .ref d), (1, va_rf p1)]) hx hb dX11_complete_17 rfl hl (by decide) (catc rfl (catc rf_cat catn)) rfl (fun ls hl => ?_)
    refine lv_aload_n hx hb dX11_complete_18 rfl (lv_at hl 1 rfl) ?_
    refine lv_iconst (v := 4) hx hb dX11_complete_19 (by decide) ?_
    refine d_aload_n hx hb dX11_complete_20 rfl (lv_at hl 2 rfl) ?_
    refine W.eq (g2 := F0 m 21 ls [.ref b1, .int 4, .ref d]) (by rw [hb1]; rfl) ?_
    obtain ⟨hk12, hq⟩ := chk_e hq
    refine d_get B hW (ci := 2) inT_2 rfl (dF_2 hk12) (by rw [hk12]; decide) 1 (by decide) u_636 (Or.inl rfl) (v := va_rf (dP S11 201 b1)) rfl dX11_complete_21 ?_
    obtain ⟨hk13, hq⟩ := chk_e hq
    obtain ⟨r14, S15, C1, Z1, C2, Z2, hg, hq2, rfl, rfl⟩ := bndc_e hq
    replace hq := hq2
    clear hq2
    refine d_ri (d_runV (As := [.int 4, va_rf (dP S11 201 b1)]) (rest := []) B hW hl.1 (d_recv B hW (ci := 11) rfl (dF_11 hk13) (by rw [hk13]; decide)) (c_X11_newThing B.2.2.2.2.2.2.2.2.2.2 S11 d 4 (dP S11 201 b1) hg) (g_V u_467 u_469 us_17 u_1 u_470) y1_X11_newThing rfl ⟨Nat.le_of_ble_eq_true rfl, Nat.le_of_ble_eq_true rfl⟩ hT rfl (Nat.le_of_ble_eq_true rfl) dX11_complete_24) hW hT (fun H locs cells slots hW hT => ?_)
    clear hg
    refine lv_pop hx hb dX11_complete_27 rfl ?_
    refine lv_aload_n hx hb dX11_complete_28 rfl (lv_at hl 1 rfl) ?_
    refine d_aload_n hx hb dX11_complete_29 rfl (lv_at hl 2 rfl) ?_
    refine W.eq (g2 := F0 m 30 ls [.ref b1, .ref d]) (by rw [hb1]; rfl) ?_
    obtain ⟨hk16, hq⟩ := chk_e hq
    refine d_get B hW (ci := 2) inT_2 rfl (dF_2 hk16) (by rw [hk16]; decide) 2 (by decide) u_638 (Or.inl rfl) (v := va_rf (dP S15 202 b1)) rfl dX11_complete_30 ?_
    refine lv_iload_n hx hb dX11_complete_33 rfl (lv_at hl 0 rfl) ?_
    obtain ⟨hk17, hq⟩ := chk_e hq
    obtain ⟨r18, S19, C1, Z1, C2, Z2, hg, hq2, rfl, rfl⟩ := bndc_e hq
    replace hq := hq2
    clear hq2
    refine d_rv (d_runV (As := [va_rf (dP S15 202 b1), .int r10]) (rest := []) B hW hl.1 (d_recv B hW (ci := 11) rfl (dF_11 hk17) (by rw [hk17]; decide)) (c_X11_reject B.2.2.2.2.2.2.2.2.2.2 n S15 d (dP S15 202 b1) r10 hg) (g_V u_447 u_449 us_13 u_1 u_450) y1_X11_reject rfl ⟨Nat.le_of_ble_eq_true rfl, Nat.le_of_ble_eq_true rfl⟩ hT rfl (Nat.le_of_ble_eq_true rfl) dX11_complete_34) hW hT (fun H locs cells slots hW hT => ?_)
    clear hg
    refine lv_goto (tgt := 57) hx hb dX11_complete_37 (by decide) ?_
    exact d_vret B hW hq hT dX11_complete_57
set_option maxHeartbeats 4000000 in
set_option maxRecDepth 100000 in
theorem k_X2_callIn_81 {p : Program} {l : Launch} {e : Env} {s : State} {m : MethodId} {args : Array Value} {below : List Frame} {meth : Method} {c : Code} {D : va_G} {A : Nat → Prop} {G : DG} {d : Nat} {r : Int32} {S' : DS} {TC TZ : Nat} (B : dB p l s m args meth c D A G yX2_callIn.cls yX2_callIn.name cX2_callIn 4 (some .int) (Cond.code yX2_callIn cX2_callIn 4 (some .int))) :
    ∀ (n : Nat) (S : DS) (v1 : Option Nat) (C Z : Nat), q_X2_callIn_81 G.2.2 n S d v1 = some (r, S', C, Z) → ∀ (H : Heap) (locs : List Loc) (ls : Array Slot) (cells slots : Nat), dOK D A G S s.heap H locs → lv_has ls 4 [(0, .ref d), (1, va_rf v1)] → cells + C = (rD 10 278 TC TZ).cells ∧ slots + Z = (rD 10 278 TC TZ).slots → W p l e (rD 10 278 TC TZ) s m args below meth c H locs cells slots (MQ below (dQi D A G r S') args s (rD 10 278 TC TZ).cells (rD 10 278 TC TZ).slots A) (F0 m 81 ls []) := by
  have hx := B.1
  have hb := B.2.1
  intro n S v1 C Z hq H locs ls cells slots hW hl hT
  unfold q_X2_callIn_81 at hq
  refine lv_aload_n hx hb dX2_callIn_81 rfl (lv_at hl 0 rfl) ?_
  obtain ⟨hk9, hq⟩ := chk_e hq
  refine d_get B hW (ci := 3) inT_3 rfl (dF_3 hk9) (by rw [hk9]; decide) 0 (by decide) u_660 (Or.inl rfl) (v := va_rf (dP S 300 d)) rfl dX2_callIn_82 ?_
  refine lv_dup hx hb dX2_callIn_85 rf_cat ?_
  obtain ⟨b10, hb10, hq⟩ := bnd_e hq
  refine W.eq (g2 := F0 m 86 ls [.ref b10, .ref b10]) (by rw [hb10]; rfl) ?_
  obtain ⟨hk11, hq⟩ := chk_e hq
  refine d_get B hW (ci := 2) inT_2 rfl (dF_2 hk11) (by rw [hk11]; decide) 3 (by decide) u_640 (Or.inl rfl) (v := .int (dI S 203 b10)) rfl dX2_callIn_86 ?_
  refine lv_iconst (v := 1) hx hb dX2_callIn_89 (by decide) ?_
  refine lv_isub hx hb dX2_callIn_90 ?_
  refine d_put B hW (ci := 2) inT_2 tyX1 tyX1_ok nmX1 rfl (dF_2 hk11) (by rw [hk11]; decide) (by rw [hk11]; decide) 3 (by decide) u_640 (Or.inl rfl) (Or.inl rfl) (ty := .int) (tyX1_ok 3 (by decide)) rfl rfl (Nat.le_of_ble_eq_true rfl) (S1 := sI S 203 b10 ((dI S 203 b10) - 1)) (ds_2_3 hk11 ((dI S 203 b10) - 1)) ⟨rfl, rfl, rfl⟩ (fun b hb => dF_sI hb) dX2_callIn_91 (fun H locs hW => ?_)
  obtain ⟨S12, eS⟩ : ∃ z, z = sI S 203 b10 ((dI S 203 b10) - 1) := ⟨_, rfl⟩
  rw [← eS] at hW
  replace hq := lt9_u eS hq
  have hk13 : dK S12 d = 4 := by rw [eS]; exact hk9
  have hk14 : dK S12 b10 = 3 := by rw [eS]; exact hk11
  clear eS
  refine lv_aload_n hx hb dX2_callIn_94 rfl (lv_at hl 0 rfl) ?_
  refine d_get B hW (ci := 3) inT_3 rfl (dF_3 hk13) (by rw [hk13]; decide) 0 (by decide) u_660 (Or.inl rfl) (v := va_rf (dP S12 300 d)) rfl dX2_callIn_95 ?_
  obtain ⟨b15, hb15, hq⟩ := bnd_e hq
  refine W.eq (g2 := F0 m 98 ls [.ref b15]) (by rw [hb15]; rfl) ?_
  obtain ⟨hk16, hq⟩ := chk_e hq
  refine d_get B hW (ci := 2) inT_2 rfl (dF_2 hk16) (by rw [hk16]; decide) 3 (by decide) u_640 (Or.inl rfl) (v := .int (dI S12 203 b15)) rfl dX2_callIn_98 ?_
  refine lv_if_ne (tgt := 112) hx hb dX2_callIn_101 (by decide) (fun hc => ?_) (fun hc => ?_)
  · replace hq := if_n hc hq
    refine lv_iconst (v := (-1)) hx hb dX2_callIn_112 (by decide) ?_
    exact d_iret B hW hq hT dX2_callIn_113
  · replace hq := if_y hc hq
    refine d_aload_n hx hb dX2_callIn_104 rfl (lv_at hl 1 rfl) ?_
    refine lv_aload_n hx hb dX2_callIn_105 rfl (lv_at hl 0 rfl) ?_
    refine d_get B hW (ci := 3) inT_3 rfl (dF_3 hk13) (by rw [hk13]; decide) 0 (by decide) u_660 (Or.inl rfl) (v := va_rf (dP S12 300 d)) rfl dX2_callIn_106 ?_
    obtain ⟨b17, hb17, hq⟩ := bnd_e hq
    refine W.eq (g2 := F0 m 109 ls [va_rf (dP S12 300 d), .ref b17]) (by rw [hb17]; rfl) ?_
    obtain ⟨hk18, hq⟩ := chk_e hq
    obtain ⟨r19, S20, C1, Z1, C2, Z2, hg, hq2, rfl, rfl⟩ := bndc_e hq
    replace hq := hq2
    clear hq2
    refine d_rv (d_runN (As := [va_rf (dP S12 300 d)]) (rest := []) B hW hl.1 (d_recv B hW (ci := 11) rfl (dF_11 hk18) (by rw [hk18]; decide)) (c_X11_complete B.2.2.2.2.2.2.2.2.2.2 n S12 b17 (dP S12 300 d) hg) un_17 u_684 u_1 u_685 us_27 y1_X11_complete rfl ⟨Nat.le_of_ble_eq_true rfl, Nat.le_of_ble_eq_true rfl⟩ hT rfl (Nat.le_of_ble_eq_true rfl) dX2_callIn_109) hW hT (fun H locs cells slots hW hT => ?_)
    clear hg
    refine lv_iconst (v := (-1)) hx hb dX2_callIn_112 (by decide) ?_
    exact d_iret B hW hq hT dX2_callIn_113
set_option maxHeartbeats 4000000 in
set_option maxRecDepth 100000 in
theorem k_X2_callIn_46 {p : Program} {l : Launch} {e : Env} {s : State} {m : MethodId} {args : Array Value} {below : List Frame} {meth : Method} {c : Code} {D : va_G} {A : Nat → Prop} {G : DG} {d : Nat} {r : Int32} {S' : DS} {TC TZ : Nat} (B : dB p l s m args meth c D A G yX2_callIn.cls yX2_callIn.name cX2_callIn 4 (some .int) (Cond.code yX2_callIn cX2_callIn 4 (some .int))) :
    ∀ (n : Nat) (S : DS) (v1 : Option Nat) (v3 : Int32) (C Z : Nat), q_X2_callIn_46 G.2.2 n S d v1 v3 = some (r, S', C, Z) → ∀ (H : Heap) (locs : List Loc) (ls : Array Slot) (cells slots : Nat), dOK D A G S s.heap H locs → lv_has ls 4 [(0, .ref d), (1, va_rf v1), (3, .int v3)] → cells + C = (rD 10 278 TC TZ).cells ∧ slots + Z = (rD 10 278 TC TZ).slots → W p l e (rD 10 278 TC TZ) s m args below meth c H locs cells slots (MQ below (dQi D A G r S') args s (rD 10 278 TC TZ).cells (rD 10 278 TC TZ).slots A) (F0 m 46 ls []) := by
  have hx := B.1
  have hb := B.2.1
  intro n S v1 v3 C Z hq H locs ls cells slots hW hl hT
  unfold q_X2_callIn_46 at hq
  refine lv_aload_n hx hb dX2_callIn_46 rfl (lv_at hl 0 rfl) ?_
  obtain ⟨hk8, hq⟩ := chk_e hq
  refine d_get B hW (ci := 3) inT_3 rfl (dF_3 hk8) (by rw [hk8]; decide) 1 (by decide) u_661 (Or.inl rfl) (v := .int (dI S 301 d)) rfl dX2_callIn_47 ?_
  refine lv_if_lt (tgt := 81) hx hb dX2_callIn_50 (by decide) (fun hc => ?_) (fun hc => ?_)
  · replace hq := if_y hc hq
    exact k_X2_callIn_81 B n S v1 _ _ hq _ _ ls _ _ hW (lv_sub hl [0, 1] rfl) hT
  · replace hq := if_n hc hq
    refine lv_aload_n hx hb dX2_callIn_53 rfl (lv_at hl 0 rfl) ?_
    refine d_get B hW (ci := 3) inT_3 rfl (dF_3 hk8) (by rw [hk8]; decide) 1 (by decide) u_661 (Or.inl rfl) (v := .int (dI S 301 d)) rfl dX2_callIn_54 ?_
    refine lv_aload_n hx hb dX2_callIn_57 rfl (lv_at hl 0 rfl) ?_
    refine d_get B hW (ci := 3) inT_3 rfl (dF_3 hk8) (by rw [hk8]; decide) 0 (by decide) u_660 (Or.inl rfl) (v := va_rf (dP S 300 d)) rfl dX2_callIn_58 ?_
    obtain ⟨b21, hb21, hq⟩ := bnd_e hq
    refine W.eq (g2 := F0 m 61 ls [.ref b21, .int (dI S 301 d)]) (by rw [hb21]; rfl) ?_
    obtain ⟨hk22, hq⟩ := chk_e hq
    refine d_get B hW (ci := 2) inT_2 rfl (dF_2 hk22) (by rw [hk22]; decide) 1 (by decide) u_635 (Or.inl rfl) (v := va_rf (dP S 201 b21)) rfl dX2_callIn_61 ?_
    obtain ⟨b23, hb23, hq⟩ := bnd_e hq
    refine W.eq (g2 := F0 m 64 ls [.ref b23, .int (dI S 301 d)]) (by rw [hb23]; rfl) ?_
    obtain ⟨hk24, hq⟩ := chk_e hq
    refine d_alen B hW hk24 dX2_callIn_64 ?_
    refine lv_icmp_ge (tgt := 81) hx hb dX2_callIn_65 (by decide) (fun hc => ?_) (fun hc => ?_)
    · replace hq := if_y hc hq
      exact k_X2_callIn_81 B n S v1 _ _ hq _ _ ls _ _ hW (lv_sub hl [0, 1] rfl) hT
    · replace hq := if_n hc hq
      refine lv_aload_n hx hb dX2_callIn_68 rfl (lv_at hl 0 rfl) ?_
      refine d_get B hW (ci := 3) inT_3 rfl (dF_3 hk8) (by rw [hk8]; decide) 0 (by decide) u_660 (Or.inl rfl) (v := va_rf (dP S 300 d)) rfl dX2_callIn_69 ?_
      refine W.eq (g2 := F0 m 72 ls [.ref b21]) (by rw [hb21]; rfl) ?_
      refine d_get B hW (ci := 2) inT_2 rfl (dF_2 hk22) (by rw [hk22]; decide) 1 (by decide) u_635 (Or.inl rfl) (v := va_rf (dP S 201 b21)) rfl dX2_callIn_72 ?_
      refine lv_aload_n hx hb dX2_callIn_75 rfl (lv_at hl 0 rfl) ?_
      refine d_get B hW (ci := 3) inT_3 rfl (dF_3 hk8) (by rw [hk8]; decide) 1 (by decide) u_661 (Or.inl rfl) (v := .int (dI S 301 d)) rfl dX2_callIn_76 ?_
      refine lv_iload_n hx hb dX2_callIn_79 rfl (lv_at hl 2 rfl) ?_
      refine W.eq (g2 := F0 m 80 ls [.int v3, .int (dI S 301 d), .ref b23]) (by rw [hb23]; rfl) ?_
      obtain ⟨hk25, hq⟩ := chk_e hq
      obtain ⟨hi, hq⟩ := chk_e hq
      refine d_iast B hW hk25 hi dX2_callIn_80 (fun H locs S26 eS hW => ?_)
      replace hq := lt9_u eS hq
      have hk27 : dK S26 d = 4 := by rw [eS]; exact hk8
      have hk28 : dK S26 b21 = 3 := by rw [eS]; exact hk22
      have hk29 : dK S26 b23 = 20 := by rw [eS]; exact hk25
      clear eS
      exact k_X2_callIn_81 B n S26 v1 _ _ hq _ _ ls _ _ hW (lv_sub hl [0, 1] rfl) hT
set_option maxHeartbeats 4000000 in
set_option maxRecDepth 100000 in
theorem k_X2_callIn_37 {p : Program} {l : Launch} {e : Env} {s : State} {m : MethodId} {args : Array Value} {below : List Frame} {meth : Method} {c : Code} {D : va_G} {A : Nat → Prop} {G : DG} {d : Nat} {r : Int32} {S' : DS} {TC TZ : Nat} (B : dB p l s m args meth c D A G yX2_callIn.cls yX2_callIn.name cX2_callIn 4 (some .int) (Cond.code yX2_callIn cX2_callIn 4 (some .int))) :
    ∀ (n : Nat) (S : DS) (v1 : Option Nat) (v2 : Int32) (z0 : Int32) (z1 : Int32) (z2 : Option Nat) (z3 : Option Nat) (z4 : Int32) (z5 : Option Nat) (C Z : Nat), q_X2_callIn_37 G.2.2 n S d v1 v2 z0 z1 z2 z3 z4 z5 = some (r, S', C, Z) → ∀ (H : Heap) (locs : List Loc) (ls : Array Slot) (cells slots : Nat), dOK D A G S s.heap H locs → lv_has ls 4 [(0, .ref d), (1, va_rf v1), (2, .int v2)] → cells + C = (rD 10 278 TC TZ).cells ∧ slots + Z = (rD 10 278 TC TZ).slots → W p l e (rD 10 278 TC TZ) s m args below meth c H locs cells slots (MQ below (dQi D A G r S') args s (rD 10 278 TC TZ).cells (rD 10 278 TC TZ).slots A) (F0 m 37 ls [.int z0, .int z1, va_rf z2, va_rf z3, .int z4, va_rf z5]) := by
  have hx := B.1
  have hb := B.2.1
  intro n S v1 v2 z0 z1 z2 z3 z4 z5 C Z hq H locs ls cells slots hW hl hT
  unfold q_X2_callIn_37 at hq
  obtain ⟨b33, hb33, hq⟩ := bnd_e hq
  refine W.eq (g2 := F0 m 37 ls [.int z0, .int z1, .ref b33, va_rf z3, .int z4, va_rf z5]) (by rw [hb33]; rfl) ?_
  obtain ⟨hk34, hq⟩ := chk_e hq
  obtain ⟨hi, hq⟩ := chk_e hq
  refine d_iast B hW hk34 hi dX2_callIn_37 (fun H locs S35 eS hW => ?_)
  replace hq := lt9_u eS hq
  have hk36 : dK S35 b33 = 20 := by rw [eS]; exact hk34
  clear eS
  refine lv_dup hx hb dX2_callIn_38 rf_cat ?_
  refine lv_iconst (v := 1) hx hb dX2_callIn_39 (by decide) ?_
  refine lv_iload_n hx hb dX2_callIn_40 rfl (lv_at hl 2 rfl) ?_
  obtain ⟨b37, hb37, hq⟩ := bnd_e hq
  refine W.eq (g2 := F0 m 41 ls [.int v2, .int 1, .ref b37, .ref b37, .int z4, va_rf z5]) (by rw [hb37]; rfl) ?_
  obtain ⟨hk38, hq⟩ := chk_e hq
  obtain ⟨hi, hq⟩ := chk_e hq
  refine d_iast B hW hk38 hi dX2_callIn_41 (fun H locs S39 eS hW => ?_)
  replace hq := lt9_u eS hq
  have hk40 : dK S39 b33 = 20 := by rw [eS]; exact hk36
  have hk41 : dK S39 b37 = 20 := by rw [eS]; exact hk38
  clear eS
  obtain ⟨b42, hb42, hq⟩ := bnd_e hq
  refine W.eq (g2 := F0 m 42 ls [.ref b37, .int z4, .ref b42]) (by rw [hb42]; rfl) ?_
  obtain ⟨hk43, hq⟩ := chk_e hq
  obtain ⟨r44, S45, C1, Z1, C2, Z2, hg, hq2, rfl, rfl⟩ := bndc_e hq
  replace hq := hq2
  clear hq2
  refine d_ri (d_runN (As := [.int z4, .ref b37]) (rest := []) B hW hl.1 (d_recv B hW (ci := 11) rfl (dF_11 hk43) (by rw [hk43]; decide)) (c_X11_newThing B.2.2.2.2.2.2.2.2.2.2 S39 b42 z4 (some b37) hg) un_16 u_469 u_1 u_470 us_17 y1_X11_newThing rfl ⟨Nat.le_of_ble_eq_true rfl, Nat.le_of_ble_eq_true rfl⟩ hT rfl (Nat.le_of_ble_eq_true rfl) dX2_callIn_42) hW hT (fun H locs cells slots hW hT => ?_)
  clear hg
  refine e_istore_n (lv' := [(3, .int r44), (0, .ref d), (1, va_rf v1), (2, .int v2)]) hx hb dX2_callIn_45 rfl hl (by decide) (catc rfl (catc rf_cat (catc rfl catn))) rfl (fun ls hl => ?_)
  exact k_X2_callIn_46 B n S45 v1 r44 _ _ hq _ _ ls _ _ hW (lv_sub hl [1, 2, 0] rfl) hT
set_option maxHeartbeats 4000000 in
set_option maxRecDepth 100000 in
theorem c_X2_callIn {l : Launch} (hst : l.stackTraces = false) {D : va_G} {A : Nat → Prop} {G : DG} (n : Nat) (S : DS) (d : Nat) (p1 : Option Nat) (p2 : Int32) {r : Int32} {S' : DS} {TC TZ : Nat} (hq : q_X2_callIn G.2.2 n S d p1 p2 = some (r, S', TC, TZ)) : Met l yX2_callIn (wM yX2_callIn cX2_callIn 4 (some .int)) (rD 10 278 TC TZ) (va_Pc [.ref d, va_rf p1, .int p2] (dPre D A G S)) (dQi D A G r S') TC TZ A := by
  obtain ⟨C, Z, hq, hT⟩ : ∃ C Z, q_X2_callIn G.2.2 n S d p1 p2 = some (r, S', C, Z) ∧ (0 + C = (rD 10 278 TC TZ).cells ∧ 0 + Z = (rD 10 278 TC TZ).slots) := ⟨TC, TZ, hq, Nat.zero_add _, Nat.zero_add _⟩
  refine d_head hst (by decide) (by cases p1 <;> exact Nat.le_of_ble_eq_true rfl) ?_
  intro p e s m args below meth c ls B hW hl
  have hx := B.1
  have hb := B.2.1
  have hl : lv_has ls 4 [(0, .ref d), (1, va_rf p1), (2, .int p2)] := by cases p1 <;> exact hl
  unfold q_X2_callIn at hq
  refine d_aload_n hx hb dX2_callIn_0 rfl (lv_at hl 1 rfl) ?_
  refine lv_iconst (v := 0) hx hb dX2_callIn_1 (by decide) ?_
  obtain ⟨b1, hb1, hq⟩ := bnd_e hq
  refine W.eq (g2 := F0 m 2 ls [.int 0, .ref b1]) (by rw [hb1]; rfl) ?_
  obtain ⟨hk2, hq⟩ := chk_e hq
  obtain ⟨hz, hq⟩ := chk_e hq
  refine d_putN B hW (ci := 11) inT_11 tyX11 tyX11_ok nmX11 rfl (dF_11 hk2) (by rw [hk2]; decide) (by rw [hk2]; decide) 9 (by decide) un_0 rfl rfl (ty := .boolean) (tyX11_ok 9 (by decide)) (isB_narrow hz) (isB_fits hz) (Nat.le_of_ble_eq_true rfl) (S1 := sI S 1109 b1 0) (ds_11_9 hk2 0) ⟨rfl, rfl, rfl⟩ (fun b hb => dF_sI hb) dX2_callIn_2 (fun H locs hW => ?_)
  obtain ⟨S3, eS⟩ : ∃ z, z = sI S 1109 b1 0 := ⟨_, rfl⟩
  rw [← eS] at hW
  replace hq := lt9_u eS hq
  have hk4 : dK S3 b1 = 12 := by rw [eS]; exact hk2
  clear eS
  refine lv_iload_n hx hb dX2_callIn_5 rfl (lv_at hl 2 rfl) ?_
  refine e_istore_n (lv' := [(3, .int p2), (0, .ref d), (1, va_rf p1), (2, .int p2)]) hx hb dX2_callIn_6 rfl hl (by decide) (catc rfl (catc rf_cat (catc rfl catn))) rfl (fun ls hl => ?_)
  refine lv_aload_n hx hb dX2_callIn_7 rfl (lv_at hl 1 rfl) ?_
  obtain ⟨hk5, hq⟩ := chk_e hq
  refine d_get B hW (ci := 3) inT_3 rfl (dF_3 hk5) (by rw [hk5]; decide) 0 (by decide) u_660 (Or.inl rfl) (v := va_rf (dP S3 300 d)) rfl dX2_callIn_8 ?_
  obtain ⟨b6, hb6, hq⟩ := bnd_e hq
  refine W.eq (g2 := F0 m 11 ls [.ref b6]) (by rw [hb6]; rfl) ?_
  obtain ⟨hk7, hq⟩ := chk_e hq
  refine d_get B hW (ci := 2) inT_2 rfl (dF_2 hk7) (by rw [hk7]; decide) 0 (by decide) u_632 (Or.inl rfl) (v := .int (dI S3 200 b6)) rfl dX2_callIn_11 ?_
  refine lv_iconst (v := 1) hx hb dX2_callIn_14 (by decide) ?_
  refine lv_icmp_ne (tgt := 46) hx hb dX2_callIn_15 (by decide) (fun hc => ?_) (fun hc => ?_)
  · replace hq := if_n hc hq
    exact k_X2_callIn_46 B n S3 p1 p2 _ _ hq _ _ ls _ _ hW (lv_sub hl [1, 2, 0] rfl) hT
  · replace hq := if_y hc hq
    refine d_aload_n hx hb dX2_callIn_18 rfl (lv_at hl 2 rfl) ?_
    refine lv_iconst (v := 5) hx hb dX2_callIn_19 (by decide) ?_
    refine lv_iconst (v := 2) hx hb dX2_callIn_20 (by decide) ?_
    obtain ⟨hn, hq⟩ := chk_e hq
    obtain ⟨C1, Z1, hq2, rfl, rfl⟩ := tick_e hq
    replace hq := hq2
    clear hq2
    refine d_newI B hW u_96 hn hT dX2_callIn_21 (fun H cells slots q30 S31 eq eS hW hT => ?_)
    replace hq := lt9_u eq hq
    replace hq := lt9_u eS hq
    have hkq30 : dK S31 q30 = 20 := by rw [eS, eq]; exact va_up_self _ _ _
    clear eS eq
    refine lv_dup hx hb dX2_callIn_23 rfl ?_
    refine lv_iconst (v := 0) hx hb dX2_callIn_24 (by decide) ?_
    refine lv_aload_n hx hb dX2_callIn_25 rfl (lv_at hl 1 rfl) ?_
    obtain ⟨hk32, hq⟩ := chk_e hq
    refine d_get B hW (ci := 3) inT_3 rfl (dF_3 hk32) (by rw [hk32]; decide) 2 (by decide) u_662 (Or.inl rfl) (v := .int (dI S31 302 d)) rfl dX2_callIn_26 ?_
    refine lv_if_eq (tgt := 36) hx hb dX2_callIn_29 (by decide) (fun hc => ?_) (fun hc => ?_)
    · replace hq := if_y hc hq
      refine lv_iconst (v := 1) hx hb dX2_callIn_36 (by decide) ?_
      exact k_X2_callIn_37 B n S31 p1 p2 1 0 (some q30) (some q30) 5 p1 _ _ hq _ _ ls _ _ hW (lv_sub hl [1, 2, 3] rfl) hT
    · replace hq := if_n hc hq
      refine lv_iconst (v := 0) hx hb dX2_callIn_32 (by decide) ?_
      refine lv_goto (tgt := 37) hx hb dX2_callIn_33 (by decide) ?_
      exact k_X2_callIn_37 B n S31 p1 p2 0 0 (some q30) (some q30) 5 p1 _ _ hq _ _ ls _ _ hW (lv_sub hl [1, 2, 3] rfl) hT
