set_option maxHeartbeats 4000000 in
set_option maxRecDepth 100000 in
theorem c_X4_reaction {l : Launch} (hst : l.stackTraces = false) {D : va_G} {A : Nat → Prop} {G : DG} (S : DS) (p1 : Option Nat) (p2 : Option Nat) (p3 : Option Nat) {r : Option Nat} {S' : DS} {TC TZ : Nat} (hq : q_X4_reaction G.2.2 S p1 p2 p3 = some (r, S', TC, TZ)) : Met l yX4_reaction (wM yX4_reaction cX4_reaction 3 (some (.object "PromiseDesk$Job"))) (rD 2 45 TC TZ) (va_Pc [va_rf p1, va_rf p2, va_rf p3] (dPre D A G S)) (dQq D A G r S') TC TZ A := by
  obtain ⟨C, Z, hq, hT⟩ : ∃ C Z, q_X4_reaction G.2.2 S p1 p2 p3 = some (r, S', C, Z) ∧ (0 + C = (rD 2 45 TC TZ).cells ∧ 0 + Z = (rD 2 45 TC TZ).slots) := ⟨TC, TZ, hq, Nat.zero_add _, Nat.zero_add _⟩
  refine d_head hst (by decide) (by cases p1 <;> cases p2 <;> cases p3 <;> exact Nat.le_of_ble_eq_true rfl) ?_
  intro p e s m args below meth c ls B hW hl
  have hx := B.1
  have hb := B.2.1
  have hl : lv_has ls 3 [(0, va_rf p1), (1, va_rf p2), (2, va_rf p3)] := by cases p1 <;> cases p2 <;> cases p3 <;> exact hl
  unfold q_X4_reaction at hq
  obtain ⟨C1, Z1, hq2, rfl, rfl⟩ := tick_e hq
  replace hq := hq2
  clear hq2
  refine d_new B hW (ci := 4) (kd := 5) inT_4 tyX4 tyX4_ok u_484 u_485 u_23 rfl (fun j hj => by rcases (show j = 0 ∨ j = 1 ∨ j = 2 ∨ j = 3 ∨ j = 4 ∨ j = 5 ∨ j = 6 ∨ j = 7 by omega) with rfl | rfl | rfl | rfl | rfl | rfl | rfl | rfl <;> rfl) dw_4 hT dX4_reaction_0 (fun H cells slots q1 S2 eq eS hW hT => ?_)
  replace hq := lt9_u eq hq
  replace hq := lt9_u eS hq
  have hkq1 : dK S2 q1 = 5 := by rw [eS, eq]; exact va_up_self _ _ _
  clear eS eq
  refine lv_dup hx hb dX4_reaction_3 rfl ?_
  refine d_aload_n hx hb dX4_reaction_4 rfl (lv_at hl 0 rfl) ?_
  refine d_aload_n hx hb dX4_reaction_5 rfl (lv_at hl 1 rfl) ?_
  refine d_aload_n hx hb dX4_reaction_6 rfl (lv_at hl 2 rfl) ?_
  refine lv_null hx hb dX4_reaction_7 ?_
  refine lv_null hx hb dX4_reaction_8 ?_
  obtain ⟨r3, S4, C1, Z1, C2, Z2, hg, hq2, rfl, rfl⟩ := bndc_e hq
  replace hq := hq2
  clear hq2
  refine d_rv (d_runI (As := [va_rf p1, va_rf p2, va_rf p3, .null, .null]) (rest := [.ref q1]) B hW hl.1 (c_X4_init B.2.2.2.2.2.2.2.2.2.2 S2 q1 p1 p2 p3 none none hg) u_488 u_489 u_23 u_490 rfl y1_X4_init rfl ⟨Nat.le_of_ble_eq_true rfl, Nat.le_of_ble_eq_true rfl⟩ hT rfl (Nat.le_of_ble_eq_true rfl) dX4_reaction_9) hW hT (fun H locs cells slots hW hT => ?_)
  clear hg
  exact d_aret (x := (some q1)) B (Or.inl ⟨_, rfl⟩) hW hq hT dX4_reaction_12
set_option maxHeartbeats 4000000 in
set_option maxRecDepth 100000 in
theorem c_X4_resumption {l : Launch} (hst : l.stackTraces = false) {D : va_G} {A : Nat → Prop} {G : DG} (S : DS) (p1 : Option Nat) {r : Option Nat} {S' : DS} {TC TZ : Nat} (hq : q_X4_resumption G.2.2 S p1 = some (r, S', TC, TZ)) : Met l yX4_resumption (wM yX4_resumption cX4_resumption 1 (some (.object "PromiseDesk$Job"))) (rD 2 45 TC TZ) (va_Pc [va_rf p1] (dPre D A G S)) (dQq D A G r S') TC TZ A := by
  obtain ⟨C, Z, hq, hT⟩ : ∃ C Z, q_X4_resumption G.2.2 S p1 = some (r, S', C, Z) ∧ (0 + C = (rD 2 45 TC TZ).cells ∧ 0 + Z = (rD 2 45 TC TZ).slots) := ⟨TC, TZ, hq, Nat.zero_add _, Nat.zero_add _⟩
  refine d_head hst (by decide) (by cases p1 <;> exact Nat.le_of_ble_eq_true rfl) ?_
  intro p e s m args below meth c ls B hW hl
  have hx := B.1
  have hb := B.2.1
  have hl : lv_has ls 1 [(0, va_rf p1)] := by cases p1 <;> exact hl
  unfold q_X4_resumption at hq
  obtain ⟨C1, Z1, hq2, rfl, rfl⟩ := tick_e hq
  replace hq := hq2
  clear hq2
  refine d_new B hW (ci := 4) (kd := 5) inT_4 tyX4 tyX4_ok u_484 u_485 u_23 rfl (fun j hj => by rcases (show j = 0 ∨ j = 1 ∨ j = 2 ∨ j = 3 ∨ j = 4 ∨ j = 5 ∨ j = 6 ∨ j = 7 by omega) with rfl | rfl | rfl | rfl | rfl | rfl | rfl | rfl <;> rfl) dw_4 hT dX4_resumption_0 (fun H cells slots q1 S2 eq eS hW hT => ?_)
  replace hq := lt9_u eq hq
  replace hq := lt9_u eS hq
  have hkq1 : dK S2 q1 = 5 := by rw [eS, eq]; exact va_up_self _ _ _
  clear eS eq
  refine lv_dup hx hb dX4_resumption_3 rfl ?_
  refine lv_null hx hb dX4_resumption_4 ?_
  refine lv_null hx hb dX4_resumption_5 ?_
  refine lv_null hx hb dX4_resumption_6 ?_
  refine d_aload_n hx hb dX4_resumption_7 rfl (lv_at hl 0 rfl) ?_
  refine lv_null hx hb dX4_resumption_8 ?_
  obtain ⟨r3, S4, C1, Z1, C2, Z2, hg, hq2, rfl, rfl⟩ := bndc_e hq
  replace hq := hq2
  clear hq2
  refine d_rv (d_runI (As := [.null, .null, .null, va_rf p1, .null]) (rest := [.ref q1]) B hW hl.1 (c_X4_init B.2.2.2.2.2.2.2.2.2.2 S2 q1 none none none p1 none hg) u_488 u_489 u_23 u_490 rfl y1_X4_init rfl ⟨Nat.le_of_ble_eq_true rfl, Nat.le_of_ble_eq_true rfl⟩ hT rfl (Nat.le_of_ble_eq_true rfl) dX4_resumption_9) hW hT (fun H locs cells slots hW hT => ?_)
  clear hg
  exact d_aret (x := (some q1)) B (Or.inl ⟨_, rfl⟩) hW hq hT dX4_resumption_12
set_option maxHeartbeats 4000000 in
set_option maxRecDepth 100000 in
theorem c_X5_init {l : Launch} (hst : l.stackTraces = false) {D : va_G} {A : Nat → Prop} {G : DG} (S : DS) (d : Nat) (p1 : Option Nat) (p2 : Int32) {r : Int32} {S' : DS} {TC TZ : Nat} (hq : q_X5_init G.2.2 S d p1 p2 = some (r, S', TC, TZ)) : Met l yX5_init (wM yX5_init cX5_init 3 none) (rD 2 40 TC TZ) (va_Pc [.ref d, va_rf p1, .int p2] (dPre D A G S)) (dQv D A G S') TC TZ A := by
  obtain ⟨C, Z, hq, hT⟩ : ∃ C Z, q_X5_init G.2.2 S d p1 p2 = some (r, S', C, Z) ∧ (0 + C = (rD 2 40 TC TZ).cells ∧ 0 + Z = (rD 2 40 TC TZ).slots) := ⟨TC, TZ, hq, Nat.zero_add _, Nat.zero_add _⟩
  refine d_head hst (by decide) (by cases p1 <;> exact Nat.le_of_ble_eq_true rfl) ?_
  intro p e s m args below meth c ls B hW hl
  have hx := B.1
  have hb := B.2.1
  have hl : lv_has ls 3 [(0, .ref d), (1, va_rf p1), (2, .int p2)] := by cases p1 <;> exact hl
  unfold q_X5_init at hq
  refine lv_aload_n hx hb dX5_init_0 rfl (lv_at hl 0 rfl) ?_
  obtain ⟨r1, S2, C1, Z1, C2, Z2, hg, hq2, rfl, rfl⟩ := bndc_e hq
  replace hq := hq2
  clear hq2
  refine d_rv (d_runIN (As := []) (rest := []) B hW hl.1 (c_X3_init B.2.2.2.2.2.2.2.2.2.2 S d hg) un_9 u_384 u_20 u_385 rfl y1_X3_init rfl ⟨Nat.le_of_ble_eq_true rfl, Nat.le_of_ble_eq_true rfl⟩ hT rfl (Nat.le_of_ble_eq_true rfl) dX5_init_1) hW hT (fun H locs cells slots hW hT => ?_)
  clear hg
  refine lv_aload_n hx hb dX5_init_4 rfl (lv_at hl 0 rfl) ?_
  refine d_aload_n hx hb dX5_init_5 rfl (lv_at hl 1 rfl) ?_
  obtain ⟨hk3, hq⟩ := chk_e hq
  refine d_put B hW (ci := 5) inT_5 tyX5 tyX5_ok nmX5 rfl (dF_5 hk3) (by rw [hk3]; decide) (by rw [hk3]; decide) 0 (by decide) u_571 (Or.inl rfl) (Or.inr ⟨rfl, rfl, rfl⟩) (ty := (.object "PromiseDesk$Simple")) (tyX5_ok 0 (by decide)) rf_nO rf_fO (Nat.le_of_ble_eq_true rfl) (S1 := sP S2 500 d p1) (ds_5_0 hk3 p1) ⟨rfl, rfl, rfl⟩ (fun b hb => dF_sP hb) dX5_init_6 (fun H locs hW => ?_)
  obtain ⟨S4, eS⟩ : ∃ z, z = sP S2 500 d p1 := ⟨_, rfl⟩
  rw [← eS] at hW
  replace hq := lt9_u eS hq
  have hk5 : dK S4 d = 6 := by rw [eS]; exact hk3
  clear eS
  refine lv_aload_n hx hb dX5_init_9 rfl (lv_at hl 0 rfl) ?_
  refine lv_iload_n hx hb dX5_init_10 rfl (lv_at hl 2 rfl) ?_
  refine d_put B hW (ci := 5) inT_5 tyX5 tyX5_ok nmX5 rfl (dF_5 hk5) (by rw [hk5]; decide) (by rw [hk5]; decide) 1 (by decide) u_572 (Or.inl rfl) (Or.inr ⟨rfl, rfl, rfl⟩) (ty := .int) (tyX5_ok 1 (by decide)) rfl rfl (Nat.le_of_ble_eq_true rfl) (S1 := sI S4 501 d p2) (ds_5_1 hk5 p2) ⟨rfl, rfl, rfl⟩ (fun b hb => dF_sI hb) dX5_init_11 (fun H locs hW => ?_)
  obtain ⟨S6, eS⟩ : ∃ z, z = sI S4 501 d p2 := ⟨_, rfl⟩
  rw [← eS] at hW
  replace hq := lt9_u eS hq
  have hk7 : dK S6 d = 6 := by rw [eS]; exact hk5
  clear eS
  exact d_vret B hW hq hT dX5_init_14
set_option maxHeartbeats 4000000 in
set_option maxRecDepth 100000 in
theorem k_X11_attach_26 {p : Program} {l : Launch} {e : Env} {s : State} {m : MethodId} {args : Array Value} {below : List Frame} {meth : Method} {c : Code} {D : va_G} {A : Nat → Prop} {G : DG} {d : Nat} {r : Int32} {S' : DS} {TC TZ : Nat} (B : dB p l s m args meth c D A G yX11_attach.cls yX11_attach.name cX11_attach 3 none (Cond.code yX11_attach cX11_attach 3 none)) :
    ∀ (S : DS) (v1 : Option Nat) (v2 : Option Nat) (z0 : Int32) (z1 : Option Nat) (C Z : Nat), q_X11_attach_26 G.2.2 S d v1 v2 z0 z1 = some (r, S', C, Z) → ∀ (H : Heap) (locs : List Loc) (ls : Array Slot) (cells slots : Nat), dOK D A G S s.heap H locs → lv_has ls 3 [(0, .ref d), (1, va_rf v1), (2, va_rf v2)] → cells + C = (rD 1 22 TC TZ).cells ∧ slots + Z = (rD 1 22 TC TZ).slots → W p l e (rD 1 22 TC TZ) s m args below meth c H locs cells slots (MQ below (dQv D A G S') args s (rD 1 22 TC TZ).cells (rD 1 22 TC TZ).slots A) (F0 m 26 ls [.int z0, va_rf z1]) := by
  have hx := B.1
  have hb := B.2.1
  intro S v1 v2 z0 z1 C Z hq H locs ls cells slots hW hl hT
  unfold q_X11_attach_26 at hq
  refine d_aload_n hx hb dX11_attach_26 rfl (lv_at hl 1 rfl) ?_
  obtain ⟨b17, hb17, hq⟩ := bnd_e hq
  refine W.eq (g2 := F0 m 27 ls [.ref b17, .int z0, va_rf z1]) (by rw [hb17]; rfl) ?_
  obtain ⟨hk18, hq⟩ := chk_e hq
  refine d_get B hW (ci := 6) inT_6 rfl (dF_6 hk18) (by rw [hk18]; decide) 4 (by decide) u_205 (Or.inl rfl) (v := .int (dI S 604 b17)) rfl dX11_attach_27 ?_
  obtain ⟨b19, hb19, hq⟩ := bnd_e hq
  refine W.eq (g2 := F0 m 30 ls [.int (dI S 604 b17), .int z0, .ref b19]) (by rw [hb19]; rfl) ?_
  obtain ⟨hk20, hq⟩ := chk_e hq
  obtain ⟨r21, S22, C1, Z1, C2, Z2, hg, hq2, rfl, rfl⟩ := bndc_e hq
  replace hq := hq2
  clear hq2
  refine d_rv (d_runV (As := [.int z0, .int (dI S 604 b17)]) (rest := []) B hW hl.1 (d_recv B hW (ci := 4) rfl (dF_4 hk20) (by rw [hk20]; decide)) (c_X4_hear B.2.2.2.2.2.2.2.2.2.2 S b19 z0 (dI S 604 b17) hg) (g_V u_455 u_456 u_457 u_23 u_458) y1_X4_hear rfl ⟨Nat.le_of_ble_eq_true rfl, Nat.le_of_ble_eq_true rfl⟩ hT rfl (Nat.le_of_ble_eq_true rfl) dX11_attach_30) hW hT (fun H locs cells slots hW hT => ?_)
  clear hg
  refine lv_aload_n hx hb dX11_attach_33 rfl (lv_at hl 0 rfl) ?_
  refine d_aload_n hx hb dX11_attach_34 rfl (lv_at hl 2 rfl) ?_
  obtain ⟨hk23, hq⟩ := chk_e hq
  obtain ⟨r24, S25, C1, Z1, C2, Z2, hg, hq2, rfl, rfl⟩ := bndc_e hq
  replace hq := hq2
  clear hq2
  refine d_rv (d_runV (As := [va_rf v2]) (rest := []) B hW hl.1 (d_recv B hW (ci := 11) rfl (dF_11 hk23) (by rw [hk23]; decide)) (c_X11_enqueue B.2.2.2.2.2.2.2.2.2.2 S22 d v2 hg) (g_V u_459 u_461 us_15 u_1 u_462) y1_X11_enqueue rfl ⟨Nat.le_of_ble_eq_true rfl, Nat.le_of_ble_eq_true rfl⟩ hT rfl (Nat.le_of_ble_eq_true rfl) dX11_attach_35) hW hT (fun H locs cells slots hW hT => ?_)
  clear hg
  exact d_vret B hW hq hT dX11_attach_38
set_option maxHeartbeats 4000000 in
set_option maxRecDepth 100000 in
theorem c_X11_attach {l : Launch} (hst : l.stackTraces = false) {D : va_G} {A : Nat → Prop} {G : DG} (S : DS) (d : Nat) (p1 : Option Nat) (p2 : Option Nat) {r : Int32} {S' : DS} {TC TZ : Nat} (hq : q_X11_attach G.2.2 S d p1 p2 = some (r, S', TC, TZ)) : Met l yX11_attach (wM yX11_attach cX11_attach 3 none) (rD 1 22 TC TZ) (va_Pc [.ref d, va_rf p1, va_rf p2] (dPre D A G S)) (dQv D A G S') TC TZ A := by
  obtain ⟨C, Z, hq, hT⟩ : ∃ C Z, q_X11_attach G.2.2 S d p1 p2 = some (r, S', C, Z) ∧ (0 + C = (rD 1 22 TC TZ).cells ∧ 0 + Z = (rD 1 22 TC TZ).slots) := ⟨TC, TZ, hq, Nat.zero_add _, Nat.zero_add _⟩
  refine d_head hst (by decide) (by cases p1 <;> cases p2 <;> exact Nat.le_of_ble_eq_true rfl) ?_
  intro p e s m args below meth c ls B hW hl
  have hx := B.1
  have hb := B.2.1
  have hl : lv_has ls 3 [(0, .ref d), (1, va_rf p1), (2, va_rf p2)] := by cases p1 <;> cases p2 <;> exact hl
  unfold q_X11_attach at hq
  refine d_aload_n hx hb dX11_attach_0 rfl (lv_at hl 1 rfl) ?_
  refine lv_iconst (v := 1) hx hb dX11_attach_1 (by decide) ?_
  obtain ⟨b1, hb1, hq⟩ := bnd_e hq
  refine W.eq (g2 := F0 m 2 ls [.int 1, .ref b1]) (by rw [hb1]; rfl) ?_
  obtain ⟨hk2, hq⟩ := chk_e hq
  obtain ⟨hz, hq⟩ := chk_e hq
  refine d_put B hW (ci := 6) inT_6 tyX6 tyX6_ok nmX6 rfl (dF_6 hk2) (by rw [hk2]; decide) (by rw [hk2]; decide) 5 (by decide) u_206 (Or.inl rfl) (Or.inl rfl) (ty := .boolean) (tyX6_ok 5 (by decide)) (isB_narrow hz) (isB_fits hz) (Nat.le_of_ble_eq_true rfl) (S1 := sI S 605 b1 1) (ds_6_5 hk2 1) ⟨rfl, rfl, rfl⟩ (fun b hb => dF_sI hb) dX11_attach_2 (fun H locs hW => ?_)
  obtain ⟨S3, eS⟩ : ∃ z, z = sI S 605 b1 1 := ⟨_, rfl⟩
  rw [← eS] at hW
  replace hq := lt9_u eS hq
  have hk4 : dK S3 b1 = 7 := by rw [eS]; exact hk2
  clear eS
  refine d_aload_n hx hb dX11_attach_5 rfl (lv_at hl 1 rfl) ?_
  refine W.eq (g2 := F0 m 6 ls [.ref b1]) (by rw [hb1]; rfl) ?_
  refine d_get B hW (ci := 6) inT_6 rfl (dF_6 hk4) (by rw [hk4]; decide) 3 (by decide) u_203 (Or.inl rfl) (v := .int (dI S3 603 b1)) rfl dX11_attach_6 ?_
  refine lv_if_eq (tgt := 39) hx hb dX11_attach_9 (by decide) (fun hc => ?_) (fun hc => ?_)
  · replace hq := if_y hc hq
    refine d_aload_n hx hb dX11_attach_39 rfl (lv_at hl 1 rfl) ?_
    refine W.eq (g2 := F0 m 40 ls [.ref b1]) (by rw [hb1]; rfl) ?_
    refine d_get B hW (ci := 6) inT_6 rfl (dF_6 hk4) (by rw [hk4]; decide) 8 (by decide) u_209 (Or.inl rfl) (v := va_rf (dP S3 608 b1)) rfl dX11_attach_40 ?_
    refine d_ifnonnull (tgt := 54) hx hb dX11_attach_43 (by decide) (fun hc => ?_) (fun hc => ?_)
    · replace hq := if_n hc hq
      refine d_aload_n hx hb dX11_attach_54 rfl (lv_at hl 1 rfl) ?_
      refine W.eq (g2 := F0 m 55 ls [.ref b1]) (by rw [hb1]; rfl) ?_
      refine d_get B hW (ci := 6) inT_6 rfl (dF_6 hk4) (by rw [hk4]; decide) 8 (by decide) u_209 (Or.inl rfl) (v := va_rf (dP S3 608 b1)) rfl dX11_attach_55 ?_
      refine d_aload_n hx hb dX11_attach_58 rfl (lv_at hl 2 rfl) ?_
      obtain ⟨b5, hb5, hq⟩ := bnd_e hq
      refine W.eq (g2 := F0 m 59 ls [va_rf p2, .ref b5]) (by rw [hb5]; rfl) ?_
      obtain ⟨hk6, hq⟩ := chk_e hq
      refine d_put B hW (ci := 4) inT_4 tyX4 tyX4_ok nmX4 rfl (dF_4 hk6) (by rw [hk6]; decide) (by rw [hk6]; decide) 7 (by decide) u_506 (Or.inl rfl) (Or.inl rfl) (ty := (.object "PromiseDesk$Job")) (tyX4_ok 7 (by decide)) rf_nO rf_fO (Nat.le_of_ble_eq_true rfl) (S1 := sP S3 407 b5 p2) (ds_4_7 hk6 p2) ⟨rfl, rfl, rfl⟩ (fun b hb => dF_sP hb) dX11_attach_59 (fun H locs hW => ?_)
      obtain ⟨S7, eS⟩ : ∃ z, z = sP S3 407 b5 p2 := ⟨_, rfl⟩
      rw [← eS] at hW
      replace hq := lt9_u eS hq
      have hk8 : dK S7 b1 = 7 := by rw [eS]; exact hk4
      have hk9 : dK S7 b5 = 5 := by rw [eS]; exact hk6
      clear eS
      refine d_aload_n hx hb dX11_attach_62 rfl (lv_at hl 1 rfl) ?_
      refine d_aload_n hx hb dX11_attach_63 rfl (lv_at hl 2 rfl) ?_
      refine W.eq (g2 := F0 m 64 ls [va_rf p2, .ref b1]) (by rw [hb1]; rfl) ?_
      refine d_put B hW (ci := 6) inT_6 tyX6 tyX6_ok nmX6 rfl (dF_6 hk8) (by rw [hk8]; decide) (by rw [hk8]; decide) 8 (by decide) u_209 (Or.inl rfl) (Or.inl rfl) (ty := (.object "PromiseDesk$Job")) (tyX6_ok 8 (by decide)) rf_nO rf_fO (Nat.le_of_ble_eq_true rfl) (S1 := sP S7 608 b1 p2) (ds_6_8 hk8 p2) ⟨rfl, rfl, rfl⟩ (fun b hb => dF_sP hb) dX11_attach_64 (fun H locs hW => ?_)
      obtain ⟨S10, eS⟩ : ∃ z, z = sP S7 608 b1 p2 := ⟨_, rfl⟩
      rw [← eS] at hW
      replace hq := lt9_u eS hq
      have hk11 : dK S10 b1 = 7 := by rw [eS]; exact hk8
      have hk12 : dK S10 b5 = 5 := by rw [eS]; exact hk9
      clear eS
      exact d_vret B hW hq hT dX11_attach_67
    · replace hq := if_y hc hq
      refine d_aload_n hx hb dX11_attach_46 rfl (lv_at hl 1 rfl) ?_
      refine d_aload_n hx hb dX11_attach_47 rfl (lv_at hl 2 rfl) ?_
      refine W.eq (g2 := F0 m 48 ls [va_rf p2, .ref b1]) (by rw [hb1]; rfl) ?_
      refine d_put B hW (ci := 6) inT_6 tyX6 tyX6_ok nmX6 rfl (dF_6 hk4) (by rw [hk4]; decide) (by rw [hk4]; decide) 7 (by decide) u_208 (Or.inl rfl) (Or.inl rfl) (ty := (.object "PromiseDesk$Job")) (tyX6_ok 7 (by decide)) rf_nO rf_fO (Nat.le_of_ble_eq_true rfl) (S1 := sP S3 607 b1 p2) (ds_6_7 hk4 p2) ⟨rfl, rfl, rfl⟩ (fun b hb => dF_sP hb) dX11_attach_48 (fun H locs hW => ?_)
      obtain ⟨S13, eS⟩ : ∃ z, z = sP S3 607 b1 p2 := ⟨_, rfl⟩
      rw [← eS] at hW
      replace hq := lt9_u eS hq
      have hk14 : dK S13 b1 = 7 := by rw [eS]; exact hk4
      clear eS
      refine lv_goto (tgt := 62) hx hb dX11_attach_51 (by decide) ?_
      refine d_aload_n hx hb dX11_attach_62 rfl (lv_at hl 1 rfl) ?_
      refine d_aload_n hx hb dX11_attach_63 rfl (lv_at hl 2 rfl) ?_
      refine W.eq (g2 := F0 m 64 ls [va_rf p2, .ref b1]) (by rw [hb1]; rfl) ?_
      refine d_put B hW (ci := 6) inT_6 tyX6 tyX6_ok nmX6 rfl (dF_6 hk14) (by rw [hk14]; decide) (by rw [hk14]; decide) 8 (by decide) u_209 (Or.inl rfl) (Or.inl rfl) (ty := (.object "PromiseDesk$Job")) (tyX6_ok 8 (by decide)) rf_nO rf_fO (Nat.le_of_ble_eq_true rfl) (S1 := sP S13 608 b1 p2) (ds_6_8 hk14 p2) ⟨rfl, rfl, rfl⟩ (fun b hb => dF_sP hb) dX11_attach_64 (fun H locs hW => ?_)
      obtain ⟨S15, eS⟩ : ∃ z, z = sP S13 608 b1 p2 := ⟨_, rfl⟩
      rw [← eS] at hW
      replace hq := lt9_u eS hq
      have hk16 : dK S15 b1 = 7 := by rw [eS]; exact hk14
      clear eS
      exact d_vret B hW hq hT dX11_attach_67
  · replace hq := if_n hc hq
    refine d_aload_n hx hb dX11_attach_12 rfl (lv_at hl 2 rfl) ?_
    refine d_aload_n hx hb dX11_attach_13 rfl (lv_at hl 1 rfl) ?_
    refine W.eq (g2 := F0 m 14 ls [.ref b1, va_rf p2]) (by rw [hb1]; rfl) ?_
    refine d_get B hW (ci := 6) inT_6 rfl (dF_6 hk4) (by rw [hk4]; decide) 3 (by decide) u_203 (Or.inl rfl) (v := .int (dI S3 603 b1)) rfl dX11_attach_14 ?_
    refine lv_iconst (v := 2) hx hb dX11_attach_17 (by decide) ?_
    refine lv_icmp_ne (tgt := 25) hx hb dX11_attach_18 (by decide) (fun hc => ?_) (fun hc => ?_)
    · replace hq := if_n hc hq
      refine lv_iconst (v := 0) hx hb dX11_attach_25 (by decide) ?_
      exact k_X11_attach_26 B S3 p1 p2 0 p2 _ _ hq _ _ ls _ _ hW (lv_sub hl [0, 1, 2] rfl) hT
    · replace hq := if_y hc hq
      refine lv_iconst (v := 1) hx hb dX11_attach_21 (by decide) ?_
      refine lv_goto (tgt := 26) hx hb dX11_attach_22 (by decide) ?_
      exact k_X11_attach_26 B S3 p1 p2 1 p2 _ _ hq _ _ ls _ _ hW (lv_sub hl [0, 1, 2] rfl) hT
set_option maxHeartbeats 4000000 in
set_option maxRecDepth 100000 in
theorem c_X6_init {l : Launch} (hst : l.stackTraces = false) {D : va_G} {A : Nat → Prop} {G : DG} (S : DS) (d : Nat) (p1 : Int32) {r : Int32} {S' : DS} {TC TZ : Nat} (hq : q_X6_init G.2.2 S d p1 = some (r, S', TC, TZ)) : Met l yX6_init (wM yX6_init cX6_init 2 none) (rD 2 43 TC TZ) (va_Pc [.ref d, .int p1] (dPre D A G S)) (dQv D A G S') TC TZ A := by
  obtain ⟨C, Z, hq, hT⟩ : ∃ C Z, q_X6_init G.2.2 S d p1 = some (r, S', C, Z) ∧ (0 + C = (rD 2 43 TC TZ).cells ∧ 0 + Z = (rD 2 43 TC TZ).slots) := ⟨TC, TZ, hq, Nat.zero_add _, Nat.zero_add _⟩
  refine d_head hst (by decide) (Nat.le_of_ble_eq_true rfl) ?_
  intro p e s m args below meth c ls B hW hl
  have hx := B.1
  have hb := B.2.1
  have hl : lv_has ls 2 [(0, .ref d), (1, .int p1)] := hl
  unfold q_X6_init at hq
  refine lv_aload_n hx hb dX6_init_0 rfl (lv_at hl 0 rfl) ?_
  refine lv_iload_n hx hb dX6_init_1 rfl (lv_at hl 1 rfl) ?_
  refine lv_iconst (v := 0) hx hb dX6_init_2 (by decide) ?_
  refine lv_null hx hb dX6_init_3 ?_
  obtain ⟨r1, S2, C1, Z1, C2, Z2, hg, hq2, rfl, rfl⟩ := bndc_e hq
  replace hq := hq2
  clear hq2
  refine d_rv (d_runI (As := [.int p1, .int 0, .null]) (rest := []) B hW hl.1 (c_X10_init B.2.2.2.2.2.2.2.2.2.2 S d p1 0 none hg) u_198 u_199 u_10 u_200 rfl y1_X10_init rfl ⟨Nat.le_of_ble_eq_true rfl, Nat.le_of_ble_eq_true rfl⟩ hT rfl (Nat.le_of_ble_eq_true rfl) dX6_init_4) hW hT (fun H locs cells slots hW hT => ?_)
  clear hg
  refine lv_aload_n hx hb dX6_init_7 rfl (lv_at hl 0 rfl) ?_
  refine lv_iconst (v := 0) hx hb dX6_init_8 (by decide) ?_
  obtain ⟨hk3, hq⟩ := chk_e hq
  refine d_put B hW (ci := 6) inT_6 tyX6 tyX6_ok nmX6 rfl (dF_6 hk3) (by rw [hk3]; decide) (by rw [hk3]; decide) 3 (by decide) u_202 (Or.inl rfl) (Or.inl rfl) (ty := .int) (tyX6_ok 3 (by decide)) rfl rfl (Nat.le_of_ble_eq_true rfl) (S1 := sI S2 603 d 0) (ds_6_3 hk3 0) ⟨rfl, rfl, rfl⟩ (fun b hb => dF_sI hb) dX6_init_9 (fun H locs hW => ?_)
  obtain ⟨S4, eS⟩ : ∃ z, z = sI S2 603 d 0 := ⟨_, rfl⟩
  rw [← eS] at hW
  replace hq := lt9_u eS hq
  have hk5 : dK S4 d = 7 := by rw [eS]; exact hk3
  clear eS
  refine lv_aload_n hx hb dX6_init_12 rfl (lv_at hl 0 rfl) ?_
  refine lv_iconst (v := (-1)) hx hb dX6_init_13 (by decide) ?_
  refine d_put B hW (ci := 6) inT_6 tyX6 tyX6_ok nmX6 rfl (dF_6 hk5) (by rw [hk5]; decide) (by rw [hk5]; decide) 4 (by decide) u_204 (Or.inl rfl) (Or.inl rfl) (ty := .int) (tyX6_ok 4 (by decide)) rfl rfl (Nat.le_of_ble_eq_true rfl) (S1 := sI S4 604 d (-1)) (ds_6_4 hk5 (-1)) ⟨rfl, rfl, rfl⟩ (fun b hb => dF_sI hb) dX6_init_14 (fun H locs hW => ?_)
  obtain ⟨S6, eS⟩ : ∃ z, z = sI S4 604 d (-1) := ⟨_, rfl⟩
  rw [← eS] at hW
  replace hq := lt9_u eS hq
  have hk7 : dK S6 d = 7 := by rw [eS]; exact hk5
  clear eS
  exact d_vret B hW hq hT dX6_init_17
set_option maxHeartbeats 4000000 in
set_option maxRecDepth 100000 in
theorem c_X11_newPromise {l : Launch} (hst : l.stackTraces = false) {D : va_G} {A : Nat → Prop} {G : DG} (S : DS) (d : Nat) {r : Option Nat} {S' : DS} {TC TZ : Nat} (hq : q_X11_newPromise G.2.2 S d = some (r, S', TC, TZ)) : Met l yX11_newPromise (wM yX11_newPromise cX11_newPromise 2 (some (.object "PromiseDesk$Resolvers"))) (rD 7 208 TC TZ) (va_Pc [.ref d] (dPre D A G S)) (dQq D A G r S') TC TZ A := by
  obtain ⟨C, Z, hq, hT⟩ : ∃ C Z, q_X11_newPromise G.2.2 S d = some (r, S', C, Z) ∧ (0 + C = (rD 7 208 TC TZ).cells ∧ 0 + Z = (rD 7 208 TC TZ).slots) := ⟨TC, TZ, hq, Nat.zero_add _, Nat.zero_add _⟩
  refine d_head hst (by decide) (Nat.le_of_ble_eq_true rfl) ?_
  intro p e s m args below meth c ls B hW hl
  have hx := B.1
  have hb := B.2.1
  have hl : lv_has ls 2 [(0, .ref d)] := hl
  unfold q_X11_newPromise at hq
  obtain ⟨C1, Z1, hq2, rfl, rfl⟩ := tick_e hq
  replace hq := hq2
  clear hq2
  refine d_new B hW (ci := 6) (kd := 7) inT_6 tyX6 tyX6_ok u_189 u_190 u_11 rfl (fun j hj => by rcases (show j = 0 ∨ j = 1 ∨ j = 2 ∨ j = 3 ∨ j = 4 ∨ j = 5 ∨ j = 6 ∨ j = 7 ∨ j = 8 by omega) with rfl | rfl | rfl | rfl | rfl | rfl | rfl | rfl | rfl <;> rfl) dw_6 hT dX11_newPromise_0 (fun H cells slots q1 S2 eq eS hW hT => ?_)
  replace hq := lt9_u eq hq
  replace hq := lt9_u eS hq
  have hkq1 : dK S2 q1 = 7 := by rw [eS, eq]; exact va_up_self _ _ _
  clear eS eq
  refine lv_dup hx hb dX11_newPromise_3 rfl ?_
  refine lv_aload_n hx hb dX11_newPromise_4 rfl (lv_at hl 0 rfl) ?_
  obtain ⟨hk3, hq⟩ := chk_e hq
  obtain ⟨r4, S5, C1, Z1, C2, Z2, hg, hq2, rfl, rfl⟩ := bndc_e hq
  replace hq := hq2
  clear hq2
  refine d_ri (d_runV (As := []) (rest := [.ref q1, .ref q1]) B hW hl.1 (d_recv B hW (ci := 11) rfl (dF_11 hk3) (by rw [hk3]; decide)) (c_X11_nextValue B.2.2.2.2.2.2.2.2.2.2 S2 d hg) (g_V u_191 u_193 us_3 u_1 u_194) y1_X11_nextValue rfl ⟨Nat.le_of_ble_eq_true rfl, Nat.le_of_ble_eq_true rfl⟩ hT rfl (Nat.le_of_ble_eq_true rfl) dX11_newPromise_5) hW hT (fun H locs cells slots hW hT => ?_)
  clear hg
  obtain ⟨r6, S7, C1, Z1, C2, Z2, hg, hq2, rfl, rfl⟩ := bndc_e hq
  replace hq := hq2
  clear hq2
  refine d_rv (d_runI (As := [.int r4]) (rest := [.ref q1]) B hW hl.1 (c_X6_init B.2.2.2.2.2.2.2.2.2.2 S5 q1 r4 hg) u_195 u_196 u_11 u_197 rfl y1_X6_init rfl ⟨Nat.le_of_ble_eq_true rfl, Nat.le_of_ble_eq_true rfl⟩ hT rfl (Nat.le_of_ble_eq_true rfl) dX11_newPromise_8) hW hT (fun H locs cells slots hW hT => ?_)
  clear hg
  refine e_astore_n (x := (some q1)) (lv' := [(1, .ref q1), (0, .ref d)]) hx hb dX11_newPromise_11 rfl hl (by decide) (catc rfl catn) rfl (fun ls hl => ?_)
  refine lv_aload_n hx hb dX11_newPromise_12 rfl (lv_at hl 1 rfl) ?_
  obtain ⟨hk8, hq⟩ := chk_e hq
  refine d_get B hW (ci := 11) inT_11 rfl (dF_11 hk8) (by rw [hk8]; decide) 0 (by decide) u_62 (Or.inl rfl) (v := va_rf (dP S7 1100 d)) rfl dX11_newPromise_13 ?_
  refine lv_aload_n hx hb dX11_newPromise_16 rfl (lv_at hl 0 rfl) ?_
  obtain ⟨b9, hb9, hq⟩ := bnd_e hq
  refine W.eq (g2 := F0 m 17 ls [.ref q1, .ref b9]) (by rw [hb9]; rfl) ?_
  obtain ⟨hk10, hq⟩ := chk_e hq
  obtain ⟨r11, S12, C1, Z1, C2, Z2, hg, hq2, rfl, rfl⟩ := bndc_e hq
  replace hq := hq2
  clear hq2
  refine d_ri (d_runV (As := [.ref q1]) (rest := []) B hW hl.1 (d_recv B hW (ci := 0) rfl (dF_0 hk10) (by rw [hk10]; decide)) (c_Jx4a65c_add_9ea2d B.2.2.2.2.2.2.2.2.2.2 S7 b9 (some q1) hg) (g_V u_239 u_240 u_241 u_4 u_242) y1_Jx4a65c_add_9ea2d rfl ⟨Nat.le_of_ble_eq_true rfl, Nat.le_of_ble_eq_true rfl⟩ hT rfl (Nat.le_of_ble_eq_true rfl) dX11_newPromise_17) hW hT (fun H locs cells slots hW hT => ?_)
  clear hg
  refine lv_pop hx hb dX11_newPromise_20 rfl ?_
  obtain ⟨C1, Z1, hq2, rfl, rfl⟩ := tick_e hq
  replace hq := hq2
  clear hq2
  refine d_new B hW (ci := 7) (kd := 8) inT_7 tyX7 tyX7_ok u_301 u_302 u_16 rfl (fun j hj => by rcases (show j = 0 ∨ j = 1 by omega) with rfl | rfl <;> rfl) dw_7 hT dX11_newPromise_21 (fun H cells slots q13 S14 eq eS hW hT => ?_)
  replace hq := lt9_u eq hq
  replace hq := lt9_u eS hq
  have hkq13 : dK S14 q13 = 8 := by rw [eS, eq]; exact va_up_self _ _ _
  clear eS eq
  refine lv_dup hx hb dX11_newPromise_24 rfl ?_
  refine lv_aload_n hx hb dX11_newPromise_25 rfl (lv_at hl 0 rfl) ?_
  obtain ⟨r15, S16, C1, Z1, C2, Z2, hg, hq2, rfl, rfl⟩ := bndc_e hq
  replace hq := hq2
  clear hq2
  refine d_rv (d_runI (As := [.ref q1]) (rest := [.ref q13]) B hW hl.1 (c_X7_init B.2.2.2.2.2.2.2.2.2.2 S14 q13 (some q1) hg) u_303 u_304 u_16 u_305 rfl y1_X7_init rfl ⟨Nat.le_of_ble_eq_true rfl, Nat.le_of_ble_eq_true rfl⟩ hT rfl (Nat.le_of_ble_eq_true rfl) dX11_newPromise_26) hW hT (fun H locs cells slots hW hT => ?_)
  clear hg
  exact d_aret (x := (some q13)) B (Or.inl ⟨_, rfl⟩) hW hq hT dX11_newPromise_29
set_option maxHeartbeats 4000000 in
set_option maxRecDepth 100000 in
theorem c_X11_derive {l : Launch} (hst : l.stackTraces = false) {D : va_G} {A : Nat → Prop} {G : DG} (S : DS) (d : Nat) (p1 : Option Nat) (p2 : Option Nat) (p3 : Option Nat) {r : Int32} {S' : DS} {TC TZ : Nat} (hq : q_X11_derive G.2.2 S d p1 p2 p3 = some (r, S', TC, TZ)) : Met l yX11_derive (wM yX11_derive cX11_derive 5 (some .int)) (rD 8 229 TC TZ) (va_Pc [.ref d, va_rf p1, va_rf p2, va_rf p3] (dPre D A G S)) (dQi D A G r S') TC TZ A := by
  obtain ⟨C, Z, hq, hT⟩ : ∃ C Z, q_X11_derive G.2.2 S d p1 p2 p3 = some (r, S', C, Z) ∧ (0 + C = (rD 8 229 TC TZ).cells ∧ 0 + Z = (rD 8 229 TC TZ).slots) := ⟨TC, TZ, hq, Nat.zero_add _, Nat.zero_add _⟩
  refine d_head hst (by decide) (by cases p1 <;> cases p2 <;> cases p3 <;> exact Nat.le_of_ble_eq_true rfl) ?_
  intro p e s m args below meth c ls B hW hl
  have hx := B.1
  have hb := B.2.1
  have hl : lv_has ls 5 [(0, .ref d), (1, va_rf p1), (2, va_rf p2), (3, va_rf p3)] := by cases p1 <;> cases p2 <;> cases p3 <;> exact hl
  unfold q_X11_derive at hq
  refine lv_aload_n hx hb dX11_derive_0 rfl (lv_at hl 0 rfl) ?_
  obtain ⟨hk1, hq⟩ := chk_e hq
  obtain ⟨r2, S3, C1, Z1, C2, Z2, hg, hq2, rfl, rfl⟩ := bndc_e hq
  replace hq := hq2
  clear hq2
  refine d_rq (d_runV (As := []) (rest := []) B hW hl.1 (d_recv B hW (ci := 11) rfl (dF_11 hk1) (by rw [hk1]; decide)) (c_X11_newPromise B.2.2.2.2.2.2.2.2.2.2 S d hg) (g_V u_185 u_187 us_2 u_1 u_188) y1_X11_newPromise rfl ⟨Nat.le_of_ble_eq_true rfl, Nat.le_of_ble_eq_true rfl⟩ hT rfl (Nat.le_of_ble_eq_true rfl) dX11_derive_1) hW hT (fun H locs cells slots hW hT => ?_)
  clear hg
  refine e_astore (x := r2) (lv' := [(4, va_rf r2), (0, .ref d), (1, va_rf p1), (2, va_rf p2), (3, va_rf p3)]) hx hb dX11_derive_4 hl (by decide) (catc rfl (catc rf_cat (catc rf_cat (catc rf_cat catn)))) rfl (fun ls hl => ?_)
  refine lv_aload_n hx hb dX11_derive_6 rfl (lv_at hl 1 rfl) ?_
  refine d_aload_n hx hb dX11_derive_7 rfl (lv_at hl 2 rfl) ?_
  refine d_aload_n hx hb dX11_derive_8 rfl (lv_at hl 3 rfl) ?_
  refine d_aload_n hx hb dX11_derive_9 rfl (lv_at hl 4 rfl) ?_
  refine d_aload hx hb dX11_derive_10 (lv_at hl 0 rfl) ?_
  obtain ⟨r4, S5, C1, Z1, C2, Z2, hg, hq2, rfl, rfl⟩ := bndc_e hq
  replace hq := hq2
  clear hq2
  refine d_rq (d_runS (As := [va_rf p2, va_rf p3, va_rf r2]) (rest := [va_rf p1, .ref d]) B hW hl.1 (c_X4_reaction B.2.2.2.2.2.2.2.2.2.2 S3 p2 p3 r2 hg) (g_S u_551 u_552 u_23 u_553) y1_X4_reaction rfl ⟨Nat.le_of_ble_eq_true rfl, Nat.le_of_ble_eq_true rfl⟩ hT rfl (cat8 (vcc rf_cat (vcc rfl vcn)) (Nat.le_of_ble_eq_true rfl)) dX11_derive_12) hW hT (fun H locs cells slots hW hT => ?_)
  clear hg
  obtain ⟨hk6, hq⟩ := chk_e hq
  obtain ⟨r7, S8, C1, Z1, C2, Z2, hg, hq2, rfl, rfl⟩ := bndc_e hq
  replace hq := hq2
  clear hq2
  refine d_rv (d_runV (As := [va_rf p1, va_rf r4]) (rest := []) B hW hl.1 (d_recv B hW (ci := 11) rfl (dF_11 hk6) (by rw [hk6]; decide)) (c_X11_attach B.2.2.2.2.2.2.2.2.2.2 S5 d p1 r4 hg) (g_V u_554 u_556 us_22 u_1 u_557) y1_X11_attach rfl ⟨Nat.le_of_ble_eq_true rfl, Nat.le_of_ble_eq_true rfl⟩ hT rfl (Nat.le_of_ble_eq_true rfl) dX11_derive_15) hW hT (fun H locs cells slots hW hT => ?_)
  clear hg
  refine d_aload hx hb dX11_derive_18 (lv_at hl 0 rfl) ?_
  obtain ⟨b9, hb9, hq⟩ := bnd_e hq
  refine W.eq (g2 := F0 m 20 ls [.ref b9]) (by rw [hb9]; rfl) ?_
  obtain ⟨hk10, hq⟩ := chk_e hq
  refine d_get B hW (ci := 7) inT_7 rfl (dF_7 hk10) (by rw [hk10]; decide) 0 (by decide) u_308 (Or.inl rfl) (v := va_rf (dP S8 700 b9)) rfl dX11_derive_20 ?_
  obtain ⟨b11, hb11, hq⟩ := bnd_e hq
  refine W.eq (g2 := F0 m 23 ls [.ref b11]) (by rw [hb11]; rfl) ?_
  obtain ⟨hk12, hq⟩ := chk_e hq
  refine d_get B hW (ci := 6) inT_6 rfl (dF_6 hk12) (by rw [hk12]; decide) 0 (by decide) u_211 (Or.inr u_212) (v := .int (dI S8 1000 b11)) rfl dX11_derive_23 ?_
  exact d_iret B hW hq hT dX11_derive_26
set_option maxHeartbeats 4000000 in
set_option maxRecDepth 100000 in
theorem c_X11_promiseFor {l : Launch} (hst : l.stackTraces = false) {D : va_G} {A : Nat → Prop} {G : DG} (n : Nat) (S : DS) (d : Nat) (p1 : Int32) {r : Option Nat} {S' : DS} {TC TZ : Nat} (hq : q_X11_promiseFor G.2.2 n S d p1 = some (r, S', TC, TZ)) : Met l yX11_promiseFor (wM yX11_promiseFor cX11_promiseFor 4 (some (.object "PromiseDesk$Promise"))) (rD 9 256 TC TZ) (va_Pc [.ref d, .int p1] (dPre D A G S)) (dQq D A G r S') TC TZ A := by
  obtain ⟨C, Z, hq, hT⟩ : ∃ C Z, q_X11_promiseFor G.2.2 n S d p1 = some (r, S', C, Z) ∧ (0 + C = (rD 9 256 TC TZ).cells ∧ 0 + Z = (rD 9 256 TC TZ).slots) := ⟨TC, TZ, hq, Nat.zero_add _, Nat.zero_add _⟩
  refine d_head hst (by decide) (Nat.le_of_ble_eq_true rfl) ?_
  intro p e s m args below meth c ls B hW hl
  have hx := B.1
  have hb := B.2.1
  have hl : lv_has ls 4 [(0, .ref d), (1, .int p1)] := hl
  unfold q_X11_promiseFor at hq
  refine lv_aload_n hx hb dX11_promiseFor_0 rfl (lv_at hl 0 rfl) ?_
  refine lv_iload_n hx hb dX11_promiseFor_1 rfl (lv_at hl 1 rfl) ?_
  obtain ⟨hk1, hq⟩ := chk_e hq
  obtain ⟨r2, S3, C1, Z1, C2, Z2, hg, hq2, rfl, rfl⟩ := bndc_e hq
  replace hq := hq2
  clear hq2
  refine d_rq (d_runV (As := [.int p1]) (rest := []) B hW hl.1 (d_recv B hW (ci := 11) rfl (dF_11 hk1) (by rw [hk1]; decide)) (c_X11_thingOf B.2.2.2.2.2.2.2.2.2.2 S d p1 hg) (g_V u_347 u_349 us_9 u_1 u_350) y1_X11_thingOf rfl ⟨Nat.le_of_ble_eq_true rfl, Nat.le_of_ble_eq_true rfl⟩ hT rfl (Nat.le_of_ble_eq_true rfl) dX11_promiseFor_2) hW hT (fun H locs cells slots hW hT => ?_)
  clear hg
  refine e_astore_n (x := r2) (lv' := [(3, va_rf r2), (0, .ref d), (1, .int p1)]) hx hb dX11_promiseFor_5 rfl hl (by decide) (catc rfl (catc rfl catn)) rfl (fun ls hl => ?_)
  refine d_aload_n hx hb dX11_promiseFor_6 rfl (lv_at hl 0 rfl) ?_
  obtain ⟨ho, hq⟩ := chk_e hq
  refine d_instP B hW (x := r2) ho u_189 dX11_promiseFor_7 ?_
  refine lv_if_eq (tgt := 20) hx hb dX11_promiseFor_10 (by decide) (fun hc => ?_) (fun hc => ?_)
  · replace hq := if_y hc hq
    refine lv_aload_n hx hb dX11_promiseFor_20 rfl (lv_at hl 1 rfl) ?_
    obtain ⟨hk4, hq⟩ := chk_e hq
    obtain ⟨r5, S6, C1, Z1, C2, Z2, hg, hq2, rfl, rfl⟩ := bndc_e hq
    replace hq := hq2
    clear hq2
    refine d_rq (d_runV (As := []) (rest := []) B hW hl.1 (d_recv B hW (ci := 11) rfl (dF_11 hk4) (by rw [hk4]; decide)) (c_X11_newPromise B.2.2.2.2.2.2.2.2.2.2 S3 d hg) (g_V u_185 u_187 us_2 u_1 u_188) y1_X11_newPromise rfl ⟨Nat.le_of_ble_eq_true rfl, Nat.le_of_ble_eq_true rfl⟩ hT rfl (Nat.le_of_ble_eq_true rfl) dX11_promiseFor_21) hW hT (fun H locs cells slots hW hT => ?_)
    clear hg
    refine e_astore_n (x := r5) (lv' := [(2, va_rf r5), (3, va_rf r2), (0, .ref d), (1, .int p1)]) hx hb dX11_promiseFor_24 rfl hl (by decide) (catc rf_cat (catc rfl (catc rfl catn))) rfl (fun ls hl => ?_)
    refine lv_aload_n hx hb dX11_promiseFor_25 rfl (lv_at hl 2 rfl) ?_
    refine d_aload_n hx hb dX11_promiseFor_26 rfl (lv_at hl 0 rfl) ?_
    refine lv_iload_n hx hb dX11_promiseFor_27 rfl (lv_at hl 3 rfl) ?_
    obtain ⟨hk7, hq⟩ := chk_e hq
    obtain ⟨r8, S9, C1, Z1, C2, Z2, hg, hq2, rfl, rfl⟩ := bndc_e hq
    replace hq := hq2
    clear hq2
    refine d_rv (d_runV (As := [va_rf r5, .int p1]) (rest := []) B hW hl.1 (d_recv B hW (ci := 11) rfl (dF_11 hk7) (by rw [hk7]; decide)) (c_X11_resolve B.2.2.2.2.2.2.2.2.2.2 n S6 d r5 p1 hg) (g_V u_463 u_465 us_16 u_1 u_466) y1_X11_resolve rfl ⟨Nat.le_of_ble_eq_true rfl, Nat.le_of_ble_eq_true rfl⟩ hT rfl (Nat.le_of_ble_eq_true rfl) dX11_promiseFor_28) hW hT (fun H locs cells slots hW hT => ?_)
    clear hg
    refine d_aload_n hx hb dX11_promiseFor_31 rfl (lv_at hl 0 rfl) ?_
    obtain ⟨b10, hb10, hq⟩ := bnd_e hq
    refine W.eq (g2 := F0 m 32 ls [.ref b10]) (by rw [hb10]; rfl) ?_
    obtain ⟨hk11, hq⟩ := chk_e hq
    refine d_get B hW (ci := 7) inT_7 rfl (dF_7 hk11) (by rw [hk11]; decide) 0 (by decide) u_308 (Or.inl rfl) (v := va_rf (dP S9 700 b10)) rfl dX11_promiseFor_32 ?_
    exact d_aret (x := (dP S9 700 b10)) B (Or.inl ⟨_, rfl⟩) hW hq hT dX11_promiseFor_35
  · replace hq := if_n hc hq
    refine d_aload_n hx hb dX11_promiseFor_13 rfl (lv_at hl 0 rfl) ?_
    obtain ⟨b12, hb12, hq⟩ := bnd_e hq
    refine W.eq (g2 := F0 m 14 ls [.ref b12]) (by rw [hb12]; rfl) ?_
    obtain ⟨hk13, hq⟩ := chk_e hq
    refine d_cast B (d_recv B hW (ci := 6) rfl (dF_6 hk13) (by rw [hk13]; decide)) u_189 un_23 dX11_promiseFor_14 ?_
    refine e_astore_n (x := (some b12)) (lv' := [(2, .ref b12), (3, va_rf r2), (0, .ref d), (1, .int p1)]) hx hb dX11_promiseFor_17 rfl hl (by decide) (catc rf_cat (catc rfl (catc rfl catn))) rfl (fun ls hl => ?_)
    refine lv_aload_n hx hb dX11_promiseFor_18 rfl (lv_at hl 0 rfl) ?_
    exact d_aret (x := (some b12)) B (Or.inl ⟨_, rfl⟩) hW hq hT dX11_promiseFor_19
set_option maxHeartbeats 4000000 in
set_option maxRecDepth 100000 in
theorem c_J7_copyOf_59c91 {l : Launch} (hst : l.stackTraces = false) {D : va_G} {A : Nat → Prop} {G : DG} (S : DS) (p1 : Option Nat) (p2 : Int32) {r : Option Nat} {S' : DS} {TC TZ : Nat} (hq : q_J7_copyOf_59c91 G.2.2 S p1 p2 = some (r, S', TC, TZ)) : Met l yJ7_copyOf_59c91 (wM yJ7_copyOf_59c91 cJ7_copyOf_59c91 3 (some (.array .int))) (rD 1 60 TC TZ) (va_Pc [va_rf p1, .int p2] (dPre D A G S)) (dQq D A G r S') TC TZ A := by
  obtain ⟨C, Z, hq, hT⟩ : ∃ C Z, q_J7_copyOf_59c91 G.2.2 S p1 p2 = some (r, S', C, Z) ∧ (0 + C = (rD 1 60 TC TZ).cells ∧ 0 + Z = (rD 1 60 TC TZ).slots) := ⟨TC, TZ, hq, Nat.zero_add _, Nat.zero_add _⟩
  refine d_head hst (by decide) (by cases p1 <;> exact Nat.le_of_ble_eq_true rfl) ?_
  intro p e s m args below meth c ls B hW hl
  have hx := B.1
  have hb := B.2.1
  have hl : lv_has ls 3 [(0, va_rf p1), (1, .int p2)] := by cases p1 <;> exact hl
  unfold q_J7_copyOf_59c91 at hq
  refine lv_iload_n hx hb dJ7_copyOf_59c91_0 rfl (lv_at hl 1 rfl) ?_
  refine d_aload_n hx hb dJ7_copyOf_59c91_1 rfl (lv_at hl 0 rfl) ?_
  obtain ⟨b1, hb1, hq⟩ := bnd_e hq
  refine W.eq (g2 := F0 m 2 ls [.ref b1, .int p2]) (by rw [hb1]; rfl) ?_
  obtain ⟨hk2, hq⟩ := chk_e hq
  refine d_alen B hW hk2 dJ7_copyOf_59c91_2 ?_
  refine lv_icmp_ne (tgt := 14) hx hb dJ7_copyOf_59c91_3 (by decide) (fun hc => ?_) (fun hc => ?_)
  · replace hq := if_n hc hq
    refine lv_iload_n hx hb dJ7_copyOf_59c91_14 rfl (lv_at hl 1 rfl) ?_
    obtain ⟨hn, hq⟩ := chk_e hq
    obtain ⟨C1, Z1, hq2, rfl, rfl⟩ := tick_e hq
    replace hq := hq2
    clear hq2
    refine d_newI B hW u_96 hn hT dJ7_copyOf_59c91_15 (fun H cells slots q3 S4 eq eS hW hT => ?_)
    replace hq := lt9_u eq hq
    replace hq := lt9_u eS hq
    have hkq3 : dK S4 q3 = 20 := by rw [eS, eq]; exact va_up_self _ _ _
    clear eS eq
    refine e_astore_n (x := (some q3)) (lv' := [(2, .ref q3), (0, va_rf p1), (1, .int p2)]) hx hb dJ7_copyOf_59c91_17 rfl hl (by decide) (catc rf_cat (catc rfl catn)) rfl (fun ls hl => ?_)
    refine d_aload_n hx hb dJ7_copyOf_59c91_18 rfl (lv_at hl 1 rfl) ?_
    refine lv_iconst (v := 0) hx hb dJ7_copyOf_59c91_19 (by decide) ?_
    refine lv_aload_n hx hb dJ7_copyOf_59c91_20 rfl (lv_at hl 0 rfl) ?_
    refine lv_iconst (v := 0) hx hb dJ7_copyOf_59c91_21 (by decide) ?_
    refine d_aload_n hx hb dJ7_copyOf_59c91_22 rfl (lv_at hl 1 rfl) ?_
    refine W.eq (g2 := F0 m 23 ls [.ref b1, .int 0, .ref q3, .int 0, .ref b1]) (by rw [hb1]; rfl) ?_
    obtain ⟨hk5, hq⟩ := chk_e hq
    refine d_alen B hW hk5 dJ7_copyOf_59c91_23 ?_
    refine lv_iload_n hx hb dJ7_copyOf_59c91_24 rfl (lv_at hl 2 rfl) ?_
    refine va_mmin hx hb (B.2.2.2.1.trans hl.1.symm) B.2.2.2.2.1 (B.2.2.2.2.2.1 _ (List.mem_cons_of_mem _ u_293)) (B.2.2.2.2.2.1 _ (List.mem_cons_of_mem _ u_294)) (B.2.2.2.2.2.1 _ (List.mem_cons_of_mem _ u_13)) (B.2.2.2.2.2.1 _ (List.mem_cons_of_mem _ u_295)) (Nat.le_of_ble_eq_true rfl) (Nat.le_of_ble_eq_true rfl) (by omega) (by omega) dJ7_copyOf_59c91_25 ?_
    obtain ⟨hk6, hq⟩ := chk_e hq
    obtain ⟨hi, hq⟩ := chk_e hq
    refine d_copyI B hl.1 hW hk6 hkq3 hi ⟨Nat.le_of_ble_eq_true rfl, Nat.le_of_ble_eq_true rfl⟩ u_296 u_298 u_297 u_15 dJ7_copyOf_59c91_28 (fun H locs S7 eS hW => ?_)
    replace hq := lt9_u eS hq
    have hk8 : dK S7 q3 = 20 := by rw [eS]; exact hkq3
    have hk9 : dK S7 b1 = 20 := by rw [eS]; exact hk6
    clear eS
    refine lv_aload_n hx hb dJ7_copyOf_59c91_31 rfl (lv_at hl 0 rfl) ?_
    exact d_aret (x := (some q3)) B (Or.inr ⟨_, rfl⟩) hW hq hT dJ7_copyOf_59c91_32
  · replace hq := if_y hc hq
    refine d_aload_n hx hb dJ7_copyOf_59c91_6 rfl (lv_at hl 0 rfl) ?_
    refine W.eq (g2 := F0 m 7 ls [.ref b1]) (by rw [hb1]; rfl) ?_
    obtain ⟨hk10, hq⟩ := chk_e hq
    obtain ⟨C1, Z1, hq2, rfl, rfl⟩ := tick_e hq
    replace hq := hq2
    clear hq2
    refine d_clone B hl.1 hW hk10 u_618 u_619 u_620 u_621 u_622 un_10 (d_nmI B.2.2.2.2.2.2.2.1) ⟨Nat.le_of_ble_eq_true rfl, Nat.le_of_ble_eq_true rfl⟩ hT dJ7_copyOf_59c91_7 (fun H cells slots q11 S12 eq eS hW hT => ?_)
    replace hq := lt9_u eq hq
    replace hq := lt9_u eS hq
    have hkq11 : dK S12 q11 = 20 := by rw [eS, eq]; exact va_up_self _ _ _
    clear eS eq
    refine d_castI B hW hkq11 u_624 dJ7_copyOf_59c91_10 ?_
    exact d_aret (x := (some q11)) B (Or.inr ⟨_, rfl⟩) hW hq hT dJ7_copyOf_59c91_13
set_option maxHeartbeats 4000000 in
set_option maxRecDepth 100000 in
theorem k_X11_note_34 {p : Program} {l : Launch} {e : Env} {s : State} {m : MethodId} {args : Array Value} {below : List Frame} {meth : Method} {c : Code} {D : va_G} {A : Nat → Prop} {G : DG} {d : Nat} {r : Int32} {S' : DS} {TC TZ : Nat} (B : dB p l s m args meth c D A G yX11_note.cls yX11_note.name cX11_note 3 none (Cond.code yX11_note cX11_note 3 none)) :
    ∀ (S : DS) (v1 : Int32) (v2 : Int32) (C Z : Nat), q_X11_note_34 G.2.2 S d v1 v2 = some (r, S', C, Z) → ∀ (H : Heap) (locs : List Loc) (ls : Array Slot) (cells slots : Nat), dOK D A G S s.heap H locs → lv_has ls 3 [(0, .ref d), (1, .int v1), (2, .int v2)] → cells + C = (rD 2 82 TC TZ).cells ∧ slots + Z = (rD 2 82 TC TZ).slots → W p l e (rD 2 82 TC TZ) s m args below meth c H locs cells slots (MQ below (dQv D A G S') args s (rD 2 82 TC TZ).cells (rD 2 82 TC TZ).slots A) (F0 m 34 ls []) := by
  have hx := B.1
  have hb := B.2.1
  intro S v1 v2 C Z hq H locs ls cells slots hW hl hT
  unfold q_X11_note_34 at hq
  refine lv_aload_n hx hb dX11_note_34 rfl (lv_at hl 0 rfl) ?_
  obtain ⟨hk4, hq⟩ := chk_e hq
  refine d_get B hW (ci := 11) inT_11 rfl (dF_11 hk4) (by rw [hk4]; decide) 4 (by decide) u_66 (Or.inl rfl) (v := va_rf (dP S 1104 d)) rfl dX11_note_35 ?_
  refine lv_iconst (v := 2) hx hb dX11_note_38 (by decide) ?_
  refine lv_aload_n hx hb dX11_note_39 rfl (lv_at hl 0 rfl) ?_
  refine d_get B hW (ci := 11) inT_11 rfl (dF_11 hk4) (by rw [hk4]; decide) 5 (by decide) u_67 (Or.inl rfl) (v := .int (dI S 1105 d)) rfl dX11_note_40 ?_
  refine lv_imul hx hb dX11_note_43 ?_
  refine lv_iload_n hx hb dX11_note_44 rfl (lv_at hl 1 rfl) ?_
  obtain ⟨b5, hb5, hq⟩ := bnd_e hq
  refine W.eq (g2 := F0 m 45 ls [.int v1, .int (2 * (dI S 1105 d)), .ref b5]) (by rw [hb5]; rfl) ?_
  obtain ⟨hk6, hq⟩ := chk_e hq
  obtain ⟨hi, hq⟩ := chk_e hq
  refine d_iast B hW hk6 hi dX11_note_45 (fun H locs S7 eS hW => ?_)
  replace hq := lt9_u eS hq
  have hk8 : dK S7 d = 12 := by rw [eS]; exact hk4
  have hk9 : dK S7 b5 = 20 := by rw [eS]; exact hk6
  clear eS
  refine lv_aload_n hx hb dX11_note_46 rfl (lv_at hl 0 rfl) ?_
  refine d_get B hW (ci := 11) inT_11 rfl (dF_11 hk8) (by rw [hk8]; decide) 4 (by decide) u_66 (Or.inl rfl) (v := va_rf (dP S7 1104 d)) rfl dX11_note_47 ?_
  refine lv_iconst (v := 2) hx hb dX11_note_50 (by decide) ?_
  refine lv_aload_n hx hb dX11_note_51 rfl (lv_at hl 0 rfl) ?_
  refine d_get B hW (ci := 11) inT_11 rfl (dF_11 hk8) (by rw [hk8]; decide) 5 (by decide) u_67 (Or.inl rfl) (v := .int (dI S7 1105 d)) rfl dX11_note_52 ?_
  refine lv_imul hx hb dX11_note_55 ?_
  refine lv_iconst (v := 1) hx hb dX11_note_56 (by decide) ?_
  refine lv_iadd hx hb dX11_note_57 ?_
  refine lv_iload_n hx hb dX11_note_58 rfl (lv_at hl 2 rfl) ?_
  obtain ⟨b10, hb10, hq⟩ := bnd_e hq
  refine W.eq (g2 := F0 m 59 ls [.int v2, .int ((2 * (dI S7 1105 d)) + 1), .ref b10]) (by rw [hb10]; rfl) ?_
  obtain ⟨hk11, hq⟩ := chk_e hq
  obtain ⟨hi, hq⟩ := chk_e hq
  refine d_iast B hW hk11 hi dX11_note_59 (fun H locs S12 eS hW => ?_)
  replace hq := lt9_u eS hq
  have hk13 : dK S12 d = 12 := by rw [eS]; exact hk8
  have hk14 : dK S12 b5 = 20 := by rw [eS]; exact hk9
  have hk15 : dK S12 b10 = 20 := by rw [eS]; exact hk11
  clear eS
  refine lv_aload_n hx hb dX11_note_60 rfl (lv_at hl 0 rfl) ?_
  refine lv_dup hx hb dX11_note_61 rfl ?_
  refine d_get B hW (ci := 11) inT_11 rfl (dF_11 hk13) (by rw [hk13]; decide) 5 (by decide) u_67 (Or.inl rfl) (v := .int (dI S12 1105 d)) rfl dX11_note_62 ?_
  refine lv_iconst (v := 1) hx hb dX11_note_65 (by decide) ?_
  refine lv_iadd hx hb dX11_note_66 ?_
  refine d_put B hW (ci := 11) inT_11 tyX11 tyX11_ok nmX11 rfl (dF_11 hk13) (by rw [hk13]; decide) (by rw [hk13]; decide) 5 (by decide) u_67 (Or.inl rfl) (Or.inl rfl) (ty := .int) (tyX11_ok 5 (by decide)) rfl rfl (Nat.le_of_ble_eq_true rfl) (S1 := sI S12 1105 d ((dI S12 1105 d) + 1)) (ds_11_5 hk13 ((dI S12 1105 d) + 1)) ⟨rfl, rfl, rfl⟩ (fun b hb => dF_sI hb) dX11_note_67 (fun H locs hW => ?_)
  obtain ⟨S16, eS⟩ : ∃ z, z = sI S12 1105 d ((dI S12 1105 d) + 1) := ⟨_, rfl⟩
  rw [← eS] at hW
  replace hq := lt9_u eS hq
  have hk17 : dK S16 d = 12 := by rw [eS]; exact hk13
  have hk18 : dK S16 b5 = 20 := by rw [eS]; exact hk14
  have hk19 : dK S16 b10 = 20 := by rw [eS]; exact hk15
  clear eS
  exact d_vret B hW hq hT dX11_note_70
set_option maxHeartbeats 4000000 in
set_option maxRecDepth 100000 in
theorem c_X11_note {l : Launch} (hst : l.stackTraces = false) {D : va_G} {A : Nat → Prop} {G : DG} (S : DS) (d : Nat) (p1 : Int32) (p2 : Int32) {r : Int32} {S' : DS} {TC TZ : Nat} (hq : q_X11_note G.2.2 S d p1 p2 = some (r, S', TC, TZ)) : Met l yX11_note (wM yX11_note cX11_note 3 none) (rD 2 82 TC TZ) (va_Pc [.ref d, .int p1, .int p2] (dPre D A G S)) (dQv D A G S') TC TZ A := by
  obtain ⟨C, Z, hq, hT⟩ : ∃ C Z, q_X11_note G.2.2 S d p1 p2 = some (r, S', C, Z) ∧ (0 + C = (rD 2 82 TC TZ).cells ∧ 0 + Z = (rD 2 82 TC TZ).slots) := ⟨TC, TZ, hq, Nat.zero_add _, Nat.zero_add _⟩
  refine d_head hst (by decide) (Nat.le_of_ble_eq_true rfl) ?_
  intro p e s m args below meth c ls B hW hl
  have hx := B.1
  have hb := B.2.1
  have hl : lv_has ls 3 [(0, .ref d), (1, .int p1), (2, .int p2)] := hl
  unfold q_X11_note at hq
  refine lv_iconst (v := 2) hx hb dX11_note_0 (by decide) ?_
  refine lv_aload_n hx hb dX11_note_1 rfl (lv_at hl 0 rfl) ?_
  obtain ⟨hk1, hq⟩ := chk_e hq
  refine d_get B hW (ci := 11) inT_11 rfl (dF_11 hk1) (by rw [hk1]; decide) 5 (by decide) u_67 (Or.inl rfl) (v := .int (dI S 1105 d)) rfl dX11_note_2 ?_
  refine lv_imul hx hb dX11_note_5 ?_
  refine lv_iconst (v := 1) hx hb dX11_note_6 (by decide) ?_
  refine lv_iadd hx hb dX11_note_7 ?_
  refine lv_aload_n hx hb dX11_note_8 rfl (lv_at hl 0 rfl) ?_
  refine d_get B hW (ci := 11) inT_11 rfl (dF_11 hk1) (by rw [hk1]; decide) 4 (by decide) u_66 (Or.inl rfl) (v := va_rf (dP S 1104 d)) rfl dX11_note_9 ?_
  obtain ⟨b2, hb2, hq⟩ := bnd_e hq
  refine W.eq (g2 := F0 m 12 ls [.ref b2, .int ((2 * (dI S 1105 d)) + 1)]) (by rw [hb2]; rfl) ?_
  obtain ⟨hk3, hq⟩ := chk_e hq
  refine d_alen B hW hk3 dX11_note_12 ?_
  refine lv_icmp_lt (tgt := 34) hx hb dX11_note_13 (by decide) (fun hc => ?_) (fun hc => ?_)
  · replace hq := if_y hc hq
    exact k_X11_note_34 B S p1 p2 _ _ hq _ _ ls _ _ hW (lv_sub hl [0, 1, 2] rfl) hT
  · replace hq := if_n hc hq
    refine lv_aload_n hx hb dX11_note_16 rfl (lv_at hl 0 rfl) ?_
    refine lv_aload_n hx hb dX11_note_17 rfl (lv_at hl 0 rfl) ?_
    refine d_get B hW (ci := 11) inT_11 rfl (dF_11 hk1) (by rw [hk1]; decide) 4 (by decide) u_66 (Or.inl rfl) (v := va_rf (dP S 1104 d)) rfl dX11_note_18 ?_
    refine lv_iconst (v := 2) hx hb dX11_note_21 (by decide) ?_
    refine lv_aload_n hx hb dX11_note_22 rfl (lv_at hl 0 rfl) ?_
    refine d_get B hW (ci := 11) inT_11 rfl (dF_11 hk1) (by rw [hk1]; decide) 4 (by decide) u_66 (Or.inl rfl) (v := va_rf (dP S 1104 d)) rfl dX11_note_23 ?_
    refine W.eq (g2 := F0 m 26 ls [.ref b2, .int 2, .ref b2, .ref d]) (by rw [hb2]; rfl) ?_
    refine d_alen B hW hk3 dX11_note_26 ?_
    refine lv_imul hx hb dX11_note_27 ?_
    obtain ⟨r20, S21, C1, Z1, C2, Z2, hg, hq2, rfl, rfl⟩ := bndc_e hq
    replace hq := hq2
    clear hq2
    refine d_rq (d_runS (As := [.ref b2, .int (2 * (nI (dL S b2)))]) (rest := [.ref d]) B hW hl.1 (c_J7_copyOf_59c91 B.2.2.2.2.2.2.2.2.2.2 S (some b2) (2 * (nI (dL S b2))) hg) (g_S u_615 u_616 u_14 u_617) y1_J7_copyOf_59c91 rfl ⟨Nat.le_of_ble_eq_true rfl, Nat.le_of_ble_eq_true rfl⟩ hT rfl (Nat.le_of_ble_eq_true rfl) dX11_note_28) hW hT (fun H locs cells slots hW hT => ?_)
    clear hg
    obtain ⟨hk22, hq⟩ := chk_e hq
    refine d_put B hW (ci := 11) inT_11 tyX11 tyX11_ok nmX11 rfl (dF_11 hk22) (by rw [hk22]; decide) (by rw [hk22]; decide) 4 (by decide) u_66 (Or.inl rfl) (Or.inl rfl) (ty := (.array .int)) (tyX11_ok 4 (by decide)) rf_nA rf_fA (Nat.le_of_ble_eq_true rfl) (S1 := sP S21 1104 d r20) (ds_11_4 hk22 r20) ⟨rfl, rfl, rfl⟩ (fun b hb => dF_sP hb) dX11_note_31 (fun H locs hW => ?_)
    obtain ⟨S23, eS⟩ : ∃ z, z = sP S21 1104 d r20 := ⟨_, rfl⟩
    rw [← eS] at hW
    replace hq := lt9_u eS hq
    have hk24 : dK S23 d = 12 := by rw [eS]; exact hk22
    clear eS
    exact k_X11_note_34 B S23 p1 p2 _ _ hq _ _ ls _ _ hW (lv_sub hl [0, 1, 2] rfl) hT
