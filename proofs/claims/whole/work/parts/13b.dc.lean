set_option maxHeartbeats 4000000 in
set_option maxRecDepth 100000 in
theorem c_Jx4a65c_size_8abf5 {l : Launch} (hst : l.stackTraces = false) {D : va_G} {A : Nat → Prop} {G : DG} (S : DS) (d : Nat) {r : Int32} {S' : DS} {TC TZ : Nat} (hq : q_Jx4a65c_size_8abf5 G.2.2 S d = some (r, S', TC, TZ)) : Met l yJx4a65c_size_8abf5 (wM yJx4a65c_size_8abf5 cJx4a65c_size_8abf5 1 (some .int)) (rD 0 0 TC TZ) (va_Pc [.ref d] (dPre D A G S)) (dQi D A G r S') TC TZ A := by
  obtain ⟨C, Z, hq, hT⟩ : ∃ C Z, q_Jx4a65c_size_8abf5 G.2.2 S d = some (r, S', C, Z) ∧ (0 + C = (rD 0 0 TC TZ).cells ∧ 0 + Z = (rD 0 0 TC TZ).slots) := ⟨TC, TZ, hq, Nat.zero_add _, Nat.zero_add _⟩
  refine d_head hst (by decide) (Nat.le_of_ble_eq_true rfl) ?_
  intro p e s m args below meth c ls B hW hl
  have hx := B.1
  have hb := B.2.1
  have hl : lv_has ls 1 [(0, .ref d)] := hl
  unfold q_Jx4a65c_size_8abf5 at hq
  refine lv_aload_n hx hb dJx4a65c_size_8abf5_0 rfl (lv_at hl 0 rfl) ?_
  obtain ⟨hk1, hq⟩ := chk_e hq
  refine d_get B hW (ci := 0) inT_0 rfl (dF_0 hk1) (by rw [hk1]; decide) 2 (by decide) u_51 (Or.inl rfl) (v := .int (dI S 2 d)) rfl dJx4a65c_size_8abf5_1 ?_
  exact d_iret B hW hq hT dJx4a65c_size_8abf5_4
set_option maxHeartbeats 4000000 in
set_option maxRecDepth 100000 in
theorem c_X11_nextValue {l : Launch} (hst : l.stackTraces = false) {D : va_G} {A : Nat → Prop} {G : DG} (S : DS) (d : Nat) {r : Int32} {S' : DS} {TC TZ : Nat} (hq : q_X11_nextValue G.2.2 S d = some (r, S', TC, TZ)) : Met l yX11_nextValue (wM yX11_nextValue cX11_nextValue 1 (some .int)) (rD 1 20 TC TZ) (va_Pc [.ref d] (dPre D A G S)) (dQi D A G r S') TC TZ A := by
  obtain ⟨C, Z, hq, hT⟩ : ∃ C Z, q_X11_nextValue G.2.2 S d = some (r, S', C, Z) ∧ (0 + C = (rD 1 20 TC TZ).cells ∧ 0 + Z = (rD 1 20 TC TZ).slots) := ⟨TC, TZ, hq, Nat.zero_add _, Nat.zero_add _⟩
  refine d_head hst (by decide) (Nat.le_of_ble_eq_true rfl) ?_
  intro p e s m args below meth c ls B hW hl
  have hx := B.1
  have hb := B.2.1
  have hl : lv_has ls 1 [(0, .ref d)] := hl
  unfold q_X11_nextValue at hq
  refine lv_bipush (v := (-2)) hx hb dX11_nextValue_0 (by decide) ?_
  refine lv_aload_n hx hb dX11_nextValue_2 rfl (lv_at hl 0 rfl) ?_
  obtain ⟨hk1, hq⟩ := chk_e hq
  refine d_get B hW (ci := 11) inT_11 rfl (dF_11 hk1) (by rw [hk1]; decide) 0 (by decide) u_62 (Or.inl rfl) (v := va_rf (dP S 1100 d)) rfl dX11_nextValue_3 ?_
  obtain ⟨b2, hb2, hq⟩ := bnd_e hq
  refine W.eq (g2 := F0 m 6 ls [.ref b2, .int (-2)]) (by rw [hb2]; rfl) ?_
  obtain ⟨hk3, hq⟩ := chk_e hq
  obtain ⟨r4, S5, C1, Z1, C2, Z2, hg, hq2, rfl, rfl⟩ := bndc_e hq
  replace hq := hq2
  clear hq2
  refine d_ri (d_runV (As := []) (rest := [.int (-2)]) B hW hl.1 (d_recv B hW (ci := 0) rfl (dF_0 hk3) (by rw [hk3]; decide)) (c_Jx4a65c_size_8abf5 B.2.2.2.2.2.2.2.2.2.2 S b2 hg) (g_V u_114 u_115 u_116 u_4 u_117) y1_Jx4a65c_size_8abf5 rfl ⟨Nat.le_of_ble_eq_true rfl, Nat.le_of_ble_eq_true rfl⟩ hT rfl (Nat.le_of_ble_eq_true rfl) dX11_nextValue_6) hW hT (fun H locs cells slots hW hT => ?_)
  clear hg
  refine lv_isub hx hb dX11_nextValue_9 ?_
  exact d_iret B hW hq hT dX11_nextValue_10
set_option maxHeartbeats 4000000 in
set_option maxRecDepth 100000 in
theorem c_X11_newThing {l : Launch} (hst : l.stackTraces = false) {D : va_G} {A : Nat → Prop} {G : DG} (S : DS) (d : Nat) (p1 : Int32) (p2 : Option Nat) {r : Int32} {S' : DS} {TC TZ : Nat} (hq : q_X11_newThing G.2.2 S d p1 p2 = some (r, S', TC, TZ)) : Met l yX11_newThing (wM yX11_newThing cX11_newThing 4 (some .int)) (rD 7 208 TC TZ) (va_Pc [.ref d, .int p1, va_rf p2] (dPre D A G S)) (dQi D A G r S') TC TZ A := by
  obtain ⟨C, Z, hq, hT⟩ : ∃ C Z, q_X11_newThing G.2.2 S d p1 p2 = some (r, S', C, Z) ∧ (0 + C = (rD 7 208 TC TZ).cells ∧ 0 + Z = (rD 7 208 TC TZ).slots) := ⟨TC, TZ, hq, Nat.zero_add _, Nat.zero_add _⟩
  refine d_head hst (by decide) (by cases p2 <;> exact Nat.le_of_ble_eq_true rfl) ?_
  intro p e s m args below meth c ls B hW hl
  have hx := B.1
  have hb := B.2.1
  have hl : lv_has ls 4 [(0, .ref d), (1, .int p1), (2, va_rf p2)] := by cases p2 <;> exact hl
  unfold q_X11_newThing at hq
  obtain ⟨C1, Z1, hq2, rfl, rfl⟩ := tick_e hq
  replace hq := hq2
  clear hq2
  refine d_new B hW (ci := 10) (kd := 11) inT_10 tyX10 tyX10_ok u_365 u_471 u_10 rfl (fun j hj => by rcases (show j = 0 ∨ j = 1 ∨ j = 2 by omega) with rfl | rfl | rfl <;> rfl) dw_10 hT dX11_newThing_0 (fun H cells slots q1 S2 eq eS hW hT => ?_)
  replace hq := lt9_u eq hq
  replace hq := lt9_u eS hq
  have hkq1 : dK S2 q1 = 11 := by rw [eS, eq]; exact va_up_self _ _ _
  clear eS eq
  refine lv_dup hx hb dX11_newThing_3 rfl ?_
  refine lv_aload_n hx hb dX11_newThing_4 rfl (lv_at hl 0 rfl) ?_
  obtain ⟨hk3, hq⟩ := chk_e hq
  obtain ⟨r4, S5, C1, Z1, C2, Z2, hg, hq2, rfl, rfl⟩ := bndc_e hq
  replace hq := hq2
  clear hq2
  refine d_ri (d_runV (As := []) (rest := [.ref q1, .ref q1]) B hW hl.1 (d_recv B hW (ci := 11) rfl (dF_11 hk3) (by rw [hk3]; decide)) (c_X11_nextValue B.2.2.2.2.2.2.2.2.2.2 S2 d hg) (g_V u_191 u_193 us_3 u_1 u_194) y1_X11_nextValue rfl ⟨Nat.le_of_ble_eq_true rfl, Nat.le_of_ble_eq_true rfl⟩ hT rfl (Nat.le_of_ble_eq_true rfl) dX11_newThing_5) hW hT (fun H locs cells slots hW hT => ?_)
  clear hg
  refine lv_iload_n hx hb dX11_newThing_8 rfl (lv_at hl 1 rfl) ?_
  refine d_aload_n hx hb dX11_newThing_9 rfl (lv_at hl 2 rfl) ?_
  obtain ⟨r6, S7, C1, Z1, C2, Z2, hg, hq2, rfl, rfl⟩ := bndc_e hq
  replace hq := hq2
  clear hq2
  refine d_rv (d_runI (As := [.int r4, .int p1, va_rf p2]) (rest := [.ref q1]) B hW hl.1 (c_X10_init B.2.2.2.2.2.2.2.2.2.2 S5 q1 r4 p1 p2 hg) u_472 u_199 u_10 u_200 rfl y1_X10_init rfl ⟨Nat.le_of_ble_eq_true rfl, Nat.le_of_ble_eq_true rfl⟩ hT rfl (Nat.le_of_ble_eq_true rfl) dX11_newThing_10) hW hT (fun H locs cells slots hW hT => ?_)
  clear hg
  refine e_astore_n (x := (some q1)) (lv' := [(3, .ref q1), (0, .ref d), (1, .int p1), (2, va_rf p2)]) hx hb dX11_newThing_13 rfl hl (by decide) (catc rfl (catc rfl (catc rf_cat catn))) rfl (fun ls hl => ?_)
  refine lv_aload_n hx hb dX11_newThing_14 rfl (lv_at hl 1 rfl) ?_
  obtain ⟨hk8, hq⟩ := chk_e hq
  refine d_get B hW (ci := 11) inT_11 rfl (dF_11 hk8) (by rw [hk8]; decide) 0 (by decide) u_62 (Or.inl rfl) (v := va_rf (dP S7 1100 d)) rfl dX11_newThing_15 ?_
  refine lv_aload_n hx hb dX11_newThing_18 rfl (lv_at hl 0 rfl) ?_
  obtain ⟨b9, hb9, hq⟩ := bnd_e hq
  refine W.eq (g2 := F0 m 19 ls [.ref q1, .ref b9]) (by rw [hb9]; rfl) ?_
  obtain ⟨hk10, hq⟩ := chk_e hq
  obtain ⟨r11, S12, C1, Z1, C2, Z2, hg, hq2, rfl, rfl⟩ := bndc_e hq
  replace hq := hq2
  clear hq2
  refine d_ri (d_runV (As := [.ref q1]) (rest := []) B hW hl.1 (d_recv B hW (ci := 0) rfl (dF_0 hk10) (by rw [hk10]; decide)) (c_Jx4a65c_add_9ea2d B.2.2.2.2.2.2.2.2.2.2 S7 b9 (some q1) hg) (g_V u_239 u_240 u_241 u_4 u_242) y1_Jx4a65c_add_9ea2d rfl ⟨Nat.le_of_ble_eq_true rfl, Nat.le_of_ble_eq_true rfl⟩ hT rfl (Nat.le_of_ble_eq_true rfl) dX11_newThing_19) hW hT (fun H locs cells slots hW hT => ?_)
  clear hg
  refine lv_pop hx hb dX11_newThing_22 rfl ?_
  refine lv_aload_n hx hb dX11_newThing_23 rfl (lv_at hl 0 rfl) ?_
  obtain ⟨hk13, hq⟩ := chk_e hq
  refine or3 hk13 (fun hh kk => d_get B hW (ci := 6) inT_6 rfl (dF_6 hh) (by rw [hh]; decide) 0 (by decide) u_215 (Or.inl rfl) (v := .int (dI S12 1000 q1)) rfl dX11_newThing_24 kk) (fun hh kk => d_get B hW (ci := 9) inT_9 rfl (dF_9 hh) (by rw [hh]; decide) 0 (by decide) u_215 (Or.inl rfl) (v := .int (dI S12 1000 q1)) rfl dX11_newThing_24 kk) (fun hh kk => d_get B hW (ci := 10) inT_10 rfl (dF_10 hh) (by rw [hh]; decide) 0 (by decide) u_215 (Or.inl rfl) (v := .int (dI S12 1000 q1)) rfl dX11_newThing_24 kk) ?_
  exact d_iret B hW hq hT dX11_newThing_27
set_option maxHeartbeats 4000000 in
set_option maxRecDepth 100000 in
theorem k_X11_enqueue_23 {p : Program} {l : Launch} {e : Env} {s : State} {m : MethodId} {args : Array Value} {below : List Frame} {meth : Method} {c : Code} {D : va_G} {A : Nat → Prop} {G : DG} {d : Nat} {r : Int32} {S' : DS} {TC TZ : Nat} (B : dB p l s m args meth c D A G yX11_enqueue.cls yX11_enqueue.name cX11_enqueue 2 none (Cond.code yX11_enqueue cX11_enqueue 2 none)) :
    ∀ (S : DS) (v1 : Option Nat) (C Z : Nat), q_X11_enqueue_23 G.2.2 S d v1 = some (r, S', C, Z) → ∀ (H : Heap) (locs : List Loc) (ls : Array Slot) (cells slots : Nat), dOK D A G S s.heap H locs → lv_has ls 2 [(0, .ref d), (1, va_rf v1)] → cells + C = (rD 0 0 TC TZ).cells ∧ slots + Z = (rD 0 0 TC TZ).slots → W p l e (rD 0 0 TC TZ) s m args below meth c H locs cells slots (MQ below (dQv D A G S') args s (rD 0 0 TC TZ).cells (rD 0 0 TC TZ).slots A) (F0 m 23 ls []) := by
  have hx := B.1
  have hb := B.2.1
  intro S v1 C Z hq H locs ls cells slots hW hl hT
  unfold q_X11_enqueue_23 at hq
  refine lv_aload_n hx hb dX11_enqueue_23 rfl (lv_at hl 0 rfl) ?_
  refine d_aload_n hx hb dX11_enqueue_24 rfl (lv_at hl 1 rfl) ?_
  obtain ⟨hk7, hq⟩ := chk_e hq
  refine d_put B hW (ci := 11) inT_11 tyX11 tyX11_ok nmX11 rfl (dF_11 hk7) (by rw [hk7]; decide) (by rw [hk7]; decide) 7 (by decide) u_69 (Or.inl rfl) (Or.inl rfl) (ty := (.object "PromiseDesk$Job")) (tyX11_ok 7 (by decide)) rf_nO rf_fO (Nat.le_of_ble_eq_true rfl) (S1 := sP S 1107 d v1) (ds_11_7 hk7 v1) ⟨rfl, rfl, rfl⟩ (fun b hb => dF_sP hb) dX11_enqueue_25 (fun H locs hW => ?_)
  obtain ⟨S8, eS⟩ : ∃ z, z = sP S 1107 d v1 := ⟨_, rfl⟩
  rw [← eS] at hW
  replace hq := lt9_u eS hq
  have hk9 : dK S8 d = 12 := by rw [eS]; exact hk7
  clear eS
  refine lv_aload_n hx hb dX11_enqueue_28 rfl (lv_at hl 0 rfl) ?_
  refine lv_dup hx hb dX11_enqueue_29 rfl ?_
  refine d_get B hW (ci := 11) inT_11 rfl (dF_11 hk9) (by rw [hk9]; decide) 8 (by decide) u_70 (Or.inl rfl) (v := .int (dI S8 1108 d)) rfl dX11_enqueue_30 ?_
  refine lv_iconst (v := 1) hx hb dX11_enqueue_33 (by decide) ?_
  refine lv_iadd hx hb dX11_enqueue_34 ?_
  refine d_put B hW (ci := 11) inT_11 tyX11 tyX11_ok nmX11 rfl (dF_11 hk9) (by rw [hk9]; decide) (by rw [hk9]; decide) 8 (by decide) u_70 (Or.inl rfl) (Or.inl rfl) (ty := .int) (tyX11_ok 8 (by decide)) rfl rfl (Nat.le_of_ble_eq_true rfl) (S1 := sI S8 1108 d ((dI S8 1108 d) + 1)) (ds_11_8 hk9 ((dI S8 1108 d) + 1)) ⟨rfl, rfl, rfl⟩ (fun b hb => dF_sI hb) dX11_enqueue_35 (fun H locs hW => ?_)
  obtain ⟨S10, eS⟩ : ∃ z, z = sI S8 1108 d ((dI S8 1108 d) + 1) := ⟨_, rfl⟩
  rw [← eS] at hW
  replace hq := lt9_u eS hq
  have hk11 : dK S10 d = 12 := by rw [eS]; exact hk9
  clear eS
  exact d_vret B hW hq hT dX11_enqueue_38
set_option maxHeartbeats 4000000 in
set_option maxRecDepth 100000 in
theorem c_X11_enqueue {l : Launch} (hst : l.stackTraces = false) {D : va_G} {A : Nat → Prop} {G : DG} (S : DS) (d : Nat) (p1 : Option Nat) {r : Int32} {S' : DS} {TC TZ : Nat} (hq : q_X11_enqueue G.2.2 S d p1 = some (r, S', TC, TZ)) : Met l yX11_enqueue (wM yX11_enqueue cX11_enqueue 2 none) (rD 0 0 TC TZ) (va_Pc [.ref d, va_rf p1] (dPre D A G S)) (dQv D A G S') TC TZ A := by
  obtain ⟨C, Z, hq, hT⟩ : ∃ C Z, q_X11_enqueue G.2.2 S d p1 = some (r, S', C, Z) ∧ (0 + C = (rD 0 0 TC TZ).cells ∧ 0 + Z = (rD 0 0 TC TZ).slots) := ⟨TC, TZ, hq, Nat.zero_add _, Nat.zero_add _⟩
  refine d_head hst (by decide) (by cases p1 <;> exact Nat.le_of_ble_eq_true rfl) ?_
  intro p e s m args below meth c ls B hW hl
  have hx := B.1
  have hb := B.2.1
  have hl : lv_has ls 2 [(0, .ref d), (1, va_rf p1)] := by cases p1 <;> exact hl
  unfold q_X11_enqueue at hq
  refine lv_aload_n hx hb dX11_enqueue_0 rfl (lv_at hl 0 rfl) ?_
  obtain ⟨hk1, hq⟩ := chk_e hq
  refine d_get B hW (ci := 11) inT_11 rfl (dF_11 hk1) (by rw [hk1]; decide) 7 (by decide) u_69 (Or.inl rfl) (v := va_rf (dP S 1107 d)) rfl dX11_enqueue_1 ?_
  refine d_ifnonnull (tgt := 15) hx hb dX11_enqueue_4 (by decide) (fun hc => ?_) (fun hc => ?_)
  · replace hq := if_n hc hq
    refine lv_aload_n hx hb dX11_enqueue_15 rfl (lv_at hl 0 rfl) ?_
    refine d_get B hW (ci := 11) inT_11 rfl (dF_11 hk1) (by rw [hk1]; decide) 7 (by decide) u_69 (Or.inl rfl) (v := va_rf (dP S 1107 d)) rfl dX11_enqueue_16 ?_
    refine d_aload_n hx hb dX11_enqueue_19 rfl (lv_at hl 1 rfl) ?_
    obtain ⟨b2, hb2, hq⟩ := bnd_e hq
    refine W.eq (g2 := F0 m 20 ls [va_rf p1, .ref b2]) (by rw [hb2]; rfl) ?_
    obtain ⟨hk3, hq⟩ := chk_e hq
    refine d_put B hW (ci := 4) inT_4 tyX4 tyX4_ok nmX4 rfl (dF_4 hk3) (by rw [hk3]; decide) (by rw [hk3]; decide) 7 (by decide) u_506 (Or.inl rfl) (Or.inl rfl) (ty := (.object "PromiseDesk$Job")) (tyX4_ok 7 (by decide)) rf_nO rf_fO (Nat.le_of_ble_eq_true rfl) (S1 := sP S 407 b2 p1) (ds_4_7 hk3 p1) ⟨rfl, rfl, rfl⟩ (fun b hb => dF_sP hb) dX11_enqueue_20 (fun H locs hW => ?_)
    obtain ⟨S4, eS⟩ : ∃ z, z = sP S 407 b2 p1 := ⟨_, rfl⟩
    rw [← eS] at hW
    replace hq := lt9_u eS hq
    have hk5 : dK S4 d = 12 := by rw [eS]; exact hk1
    have hk6 : dK S4 b2 = 5 := by rw [eS]; exact hk3
    clear eS
    exact k_X11_enqueue_23 B S4 p1 _ _ hq _ _ ls _ _ hW (lv_sub hl [0, 1] rfl) hT
  · replace hq := if_y hc hq
    refine lv_aload_n hx hb dX11_enqueue_7 rfl (lv_at hl 0 rfl) ?_
    refine d_aload_n hx hb dX11_enqueue_8 rfl (lv_at hl 1 rfl) ?_
    refine d_put B hW (ci := 11) inT_11 tyX11 tyX11_ok nmX11 rfl (dF_11 hk1) (by rw [hk1]; decide) (by rw [hk1]; decide) 6 (by decide) u_68 (Or.inl rfl) (Or.inl rfl) (ty := (.object "PromiseDesk$Job")) (tyX11_ok 6 (by decide)) rf_nO rf_fO (Nat.le_of_ble_eq_true rfl) (S1 := sP S 1106 d p1) (ds_11_6 hk1 p1) ⟨rfl, rfl, rfl⟩ (fun b hb => dF_sP hb) dX11_enqueue_9 (fun H locs hW => ?_)
    obtain ⟨S12, eS⟩ : ∃ z, z = sP S 1106 d p1 := ⟨_, rfl⟩
    rw [← eS] at hW
    replace hq := lt9_u eS hq
    have hk13 : dK S12 d = 12 := by rw [eS]; exact hk1
    clear eS
    refine lv_goto (tgt := 23) hx hb dX11_enqueue_12 (by decide) ?_
    exact k_X11_enqueue_23 B S12 p1 _ _ hq _ _ ls _ _ hW (lv_sub hl [0, 1] rfl) hT
set_option maxHeartbeats 4000000 in
set_option maxRecDepth 100000 in
theorem c_X4_hear {l : Launch} (hst : l.stackTraces = false) {D : va_G} {A : Nat → Prop} {G : DG} (S : DS) (d : Nat) (p1 : Int32) (p2 : Int32) {r : Int32} {S' : DS} {TC TZ : Nat} (hq : q_X4_hear G.2.2 S d p1 p2 = some (r, S', TC, TZ)) : Met l yX4_hear (wM yX4_hear cX4_hear 3 none) (rD 0 0 TC TZ) (va_Pc [.ref d, .int p1, .int p2] (dPre D A G S)) (dQv D A G S') TC TZ A := by
  obtain ⟨C, Z, hq, hT⟩ : ∃ C Z, q_X4_hear G.2.2 S d p1 p2 = some (r, S', C, Z) ∧ (0 + C = (rD 0 0 TC TZ).cells ∧ 0 + Z = (rD 0 0 TC TZ).slots) := ⟨TC, TZ, hq, Nat.zero_add _, Nat.zero_add _⟩
  refine d_head hst (by decide) (Nat.le_of_ble_eq_true rfl) ?_
  intro p e s m args below meth c ls B hW hl
  have hx := B.1
  have hb := B.2.1
  have hl : lv_has ls 3 [(0, .ref d), (1, .int p1), (2, .int p2)] := hl
  unfold q_X4_hear at hq
  refine lv_aload_n hx hb dX4_hear_0 rfl (lv_at hl 0 rfl) ?_
  refine lv_iload_n hx hb dX4_hear_1 rfl (lv_at hl 1 rfl) ?_
  obtain ⟨hk1, hq⟩ := chk_e hq
  obtain ⟨hz, hq⟩ := chk_e hq
  refine d_put B hW (ci := 4) inT_4 tyX4 tyX4_ok nmX4 rfl (dF_4 hk1) (by rw [hk1]; decide) (by rw [hk1]; decide) 5 (by decide) u_502 (Or.inl rfl) (Or.inl rfl) (ty := .boolean) (tyX4_ok 5 (by decide)) (isB_narrow hz) (isB_fits hz) (Nat.le_of_ble_eq_true rfl) (S1 := sI S 405 d p1) (ds_4_5 hk1 p1) ⟨rfl, rfl, rfl⟩ (fun b hb => dF_sI hb) dX4_hear_2 (fun H locs hW => ?_)
  obtain ⟨S2, eS⟩ : ∃ z, z = sI S 405 d p1 := ⟨_, rfl⟩
  rw [← eS] at hW
  replace hq := lt9_u eS hq
  have hk3 : dK S2 d = 5 := by rw [eS]; exact hk1
  clear eS
  refine lv_aload_n hx hb dX4_hear_5 rfl (lv_at hl 0 rfl) ?_
  refine lv_iload_n hx hb dX4_hear_6 rfl (lv_at hl 2 rfl) ?_
  refine d_put B hW (ci := 4) inT_4 tyX4 tyX4_ok nmX4 rfl (dF_4 hk3) (by rw [hk3]; decide) (by rw [hk3]; decide) 6 (by decide) u_504 (Or.inl rfl) (Or.inl rfl) (ty := .int) (tyX4_ok 6 (by decide)) rfl rfl (Nat.le_of_ble_eq_true rfl) (S1 := sI S2 406 d p2) (ds_4_6 hk3 p2) ⟨rfl, rfl, rfl⟩ (fun b hb => dF_sI hb) dX4_hear_7 (fun H locs hW => ?_)
  obtain ⟨S4, eS⟩ : ∃ z, z = sI S2 406 d p2 := ⟨_, rfl⟩
  rw [← eS] at hW
  replace hq := lt9_u eS hq
  have hk5 : dK S4 d = 5 := by rw [eS]; exact hk3
  clear eS
  exact d_vret B hW hq hT dX4_hear_10
set_option maxHeartbeats 4000000 in
set_option maxRecDepth 100000 in
theorem k_X11_close_26 {p : Program} {l : Launch} {e : Env} {s : State} {m : MethodId} {args : Array Value} {below : List Frame} {meth : Method} {c : Code} {D : va_G} {A : Nat → Prop} {G : DG} {d : Nat} {r : Int32} {S' : DS} {TC TZ : Nat} (B : dB p l s m args meth c D A G yX11_close.cls yX11_close.name cX11_close 6 none (Cond.code yX11_close cX11_close 6 none)) :
    ∀ (n : Nat) (S : DS) (v2 : Int32) (v3 : Int32) (v4 : Option Nat) (C Z : Nat), q_X11_close_26 G.2.2 d n S v2 v3 v4 = some (r, S', C, Z) → ∀ (H : Heap) (locs : List Loc) (ls : Array Slot) (cells slots : Nat), dOK D A G S s.heap H locs → lv_has ls 6 [(0, .ref d), (2, .int v2), (3, .int v3), (4, va_rf v4)] → cells + C = (rD 1 22 TC TZ).cells ∧ slots + Z = (rD 1 22 TC TZ).slots → W p l e (rD 1 22 TC TZ) s m args below meth c H locs cells slots (MQ below (dQv D A G S') args s (rD 1 22 TC TZ).cells (rD 1 22 TC TZ).slots A) (F0 m 26 ls []) := by
  have hx := B.1
  have hb := B.2.1
  intro n
  induction n with
  | zero => intro S v2 v3 v4 C Z hq; cases hq
  | succ n ih =>
    intro S v2 v3 v4 C Z hq H locs ls cells slots hW hl hT
    replace hq : (if v4 = none then some (0, S, 0, 0) else bnd v4 (fun b11 => chk (dK S b11 = 5) (lt9 (sP S 407 b11 none) (fun S13 => if v2 = 2 then bndc (q_X4_hear G.2.2 S13 b11 1 v3) (fun r20 S21 => chk (dK S21 d = 12) (bndc (q_X11_enqueue G.2.2 S21 d v4) (fun r23 S24 => q_X11_close_26 G.2.2 d n S24 v2 v3 (dP S 407 b11)))) else bndc (q_X4_hear G.2.2 S13 b11 0 v3) (fun r15 S16 => chk (dK S16 d = 12) (bndc (q_X11_enqueue G.2.2 S16 d v4) (fun r18 S19 => q_X11_close_26 G.2.2 d n S19 v2 v3 (dP S 407 b11)))))))) = some (r, S', C, Z) := hq
    refine d_aload hx hb dX11_close_26 (lv_at hl 3 rfl) ?_
    refine d_ifnull (tgt := 73) hx hb dX11_close_28 (by decide) (fun hc => ?_) (fun hc => ?_)
    · replace hq := if_y hc hq
      exact d_vret B hW hq hT dX11_close_73
    · replace hq := if_n hc hq
      refine d_aload hx hb dX11_close_31 (lv_at hl 3 rfl) ?_
      obtain ⟨b11, hb11, hq⟩ := bnd_e hq
      refine W.eq (g2 := F0 m 33 ls [.ref b11]) (by rw [hb11]; rfl) ?_
      obtain ⟨hk12, hq⟩ := chk_e hq
      refine d_get B hW (ci := 4) inT_4 rfl (dF_4 hk12) (by rw [hk12]; decide) 7 (by decide) u_506 (Or.inl rfl) (v := va_rf (dP S 407 b11)) rfl dX11_close_33 ?_
      refine e_astore (x := (dP S 407 b11)) (lv' := [(5, va_rf (dP S 407 b11)), (0, .ref d), (2, .int v2), (3, .int v3), (4, va_rf v4)]) hx hb dX11_close_36 hl (by decide) (catc rfl (catc rfl (catc rfl (catc rf_cat catn)))) rfl (fun ls hl => ?_)
      refine d_aload hx hb dX11_close_38 (lv_at hl 4 rfl) ?_
      refine lv_null hx hb dX11_close_40 ?_
      refine W.eq (g2 := F0 m 41 ls [.null, .ref b11]) (by rw [hb11]; rfl) ?_
      refine d_put B hW (ci := 4) inT_4 tyX4 tyX4_ok nmX4 rfl (dF_4 hk12) (by rw [hk12]; decide) (by rw [hk12]; decide) 7 (by decide) u_506 (Or.inl rfl) (Or.inl rfl) (ty := (.object "PromiseDesk$Job")) (tyX4_ok 7 (by decide)) rfl rfl (Nat.le_of_ble_eq_true rfl) (S1 := sP S 407 b11 none) (ds_4_7 hk12 none) ⟨rfl, rfl, rfl⟩ (fun b hb => dF_sP hb) dX11_close_41 (fun H locs hW => ?_)
      obtain ⟨S13, eS⟩ : ∃ z, z = sP S 407 b11 none := ⟨_, rfl⟩
      rw [← eS] at hW
      replace hq := lt9_u eS hq
      have hk14 : dK S13 b11 = 5 := by rw [eS]; exact hk12
      clear eS
      refine d_aload hx hb dX11_close_44 (lv_at hl 4 rfl) ?_
      refine lv_iload_n hx hb dX11_close_46 rfl (lv_at hl 2 rfl) ?_
      refine lv_iconst (v := 2) hx hb dX11_close_47 (by decide) ?_
      refine lv_icmp_ne (tgt := 55) hx hb dX11_close_48 (by decide) (fun hc => ?_) (fun hc => ?_)
      · replace hq := if_n hc hq
        refine lv_iconst (v := 0) hx hb dX11_close_55 (by decide) ?_
        refine lv_iload_n hx hb dX11_close_56 rfl (lv_at hl 3 rfl) ?_
        refine W.eq (g2 := F0 m 57 ls [.int v3, .int 0, .ref b11]) (by rw [hb11]; rfl) ?_
        obtain ⟨r15, S16, C1, Z1, C2, Z2, hg, hq2, rfl, rfl⟩ := bndc_e hq
        replace hq := hq2
        clear hq2
        refine d_rv (d_runV (As := [.int 0, .int v3]) (rest := []) B hW hl.1 (d_recv B hW (ci := 4) rfl (dF_4 hk14) (by rw [hk14]; decide)) (c_X4_hear B.2.2.2.2.2.2.2.2.2.2 S13 b11 0 v3 hg) (g_V u_455 u_456 u_457 u_23 u_458) y1_X4_hear rfl ⟨Nat.le_of_ble_eq_true rfl, Nat.le_of_ble_eq_true rfl⟩ hT rfl (Nat.le_of_ble_eq_true rfl) dX11_close_57) hW hT (fun H locs cells slots hW hT => ?_)
        clear hg
        refine lv_aload_n hx hb dX11_close_60 rfl (lv_at hl 1 rfl) ?_
        refine d_aload hx hb dX11_close_61 (lv_at hl 4 rfl) ?_
        obtain ⟨hk17, hq⟩ := chk_e hq
        obtain ⟨r18, S19, C1, Z1, C2, Z2, hg, hq2, rfl, rfl⟩ := bndc_e hq
        replace hq := hq2
        clear hq2
        refine d_rv (d_runV (As := [va_rf v4]) (rest := []) B hW hl.1 (d_recv B hW (ci := 11) rfl (dF_11 hk17) (by rw [hk17]; decide)) (c_X11_enqueue B.2.2.2.2.2.2.2.2.2.2 S16 d v4 hg) (g_V u_459 u_461 us_15 u_1 u_462) y1_X11_enqueue rfl ⟨Nat.le_of_ble_eq_true rfl, Nat.le_of_ble_eq_true rfl⟩ hT rfl (Nat.le_of_ble_eq_true rfl) dX11_close_63) hW hT (fun H locs cells slots hW hT => ?_)
        clear hg
        refine d_aload hx hb dX11_close_66 (lv_at hl 0 rfl) ?_
        refine e_astore (x := (dP S 407 b11)) (lv' := [(4, va_rf (dP S 407 b11)), (5, va_rf (dP S 407 b11)), (0, .ref d), (2, .int v2), (3, .int v3)]) hx hb dX11_close_68 hl (by decide) (catc rf_cat (catc rfl (catc rfl (catc rfl (catc rf_cat catn))))) rfl (fun ls hl => ?_)
        refine lv_goto (tgt := 26) hx hb dX11_close_70 (by decide) ?_
        exact ih S19 v2 v3 (dP S 407 b11) _ _ hq _ _ ls _ _ hW (lv_sub hl [2, 3, 4, 0] rfl) hT
      · replace hq := if_y hc hq
        refine lv_iconst (v := 1) hx hb dX11_close_51 (by decide) ?_
        refine lv_goto (tgt := 56) hx hb dX11_close_52 (by decide) ?_
        refine lv_iload_n hx hb dX11_close_56 rfl (lv_at hl 3 rfl) ?_
        refine W.eq (g2 := F0 m 57 ls [.int v3, .int 1, .ref b11]) (by rw [hb11]; rfl) ?_
        obtain ⟨r20, S21, C1, Z1, C2, Z2, hg, hq2, rfl, rfl⟩ := bndc_e hq
        replace hq := hq2
        clear hq2
        refine d_rv (d_runV (As := [.int 1, .int v3]) (rest := []) B hW hl.1 (d_recv B hW (ci := 4) rfl (dF_4 hk14) (by rw [hk14]; decide)) (c_X4_hear B.2.2.2.2.2.2.2.2.2.2 S13 b11 1 v3 hg) (g_V u_455 u_456 u_457 u_23 u_458) y1_X4_hear rfl ⟨Nat.le_of_ble_eq_true rfl, Nat.le_of_ble_eq_true rfl⟩ hT rfl (Nat.le_of_ble_eq_true rfl) dX11_close_57) hW hT (fun H locs cells slots hW hT => ?_)
        clear hg
        refine lv_aload_n hx hb dX11_close_60 rfl (lv_at hl 1 rfl) ?_
        refine d_aload hx hb dX11_close_61 (lv_at hl 4 rfl) ?_
        obtain ⟨hk22, hq⟩ := chk_e hq
        obtain ⟨r23, S24, C1, Z1, C2, Z2, hg, hq2, rfl, rfl⟩ := bndc_e hq
        replace hq := hq2
        clear hq2
        refine d_rv (d_runV (As := [va_rf v4]) (rest := []) B hW hl.1 (d_recv B hW (ci := 11) rfl (dF_11 hk22) (by rw [hk22]; decide)) (c_X11_enqueue B.2.2.2.2.2.2.2.2.2.2 S21 d v4 hg) (g_V u_459 u_461 us_15 u_1 u_462) y1_X11_enqueue rfl ⟨Nat.le_of_ble_eq_true rfl, Nat.le_of_ble_eq_true rfl⟩ hT rfl (Nat.le_of_ble_eq_true rfl) dX11_close_63) hW hT (fun H locs cells slots hW hT => ?_)
        clear hg
        refine d_aload hx hb dX11_close_66 (lv_at hl 0 rfl) ?_
        refine e_astore (x := (dP S 407 b11)) (lv' := [(4, va_rf (dP S 407 b11)), (5, va_rf (dP S 407 b11)), (0, .ref d), (2, .int v2), (3, .int v3)]) hx hb dX11_close_68 hl (by decide) (catc rf_cat (catc rfl (catc rfl (catc rfl (catc rf_cat catn))))) rfl (fun ls hl => ?_)
        refine lv_goto (tgt := 26) hx hb dX11_close_70 (by decide) ?_
        exact ih S24 v2 v3 (dP S 407 b11) _ _ hq _ _ ls _ _ hW (lv_sub hl [2, 3, 4, 0] rfl) hT
set_option maxHeartbeats 4000000 in
set_option maxRecDepth 100000 in
theorem c_X11_close {l : Launch} (hst : l.stackTraces = false) {D : va_G} {A : Nat → Prop} {G : DG} (n : Nat) (S : DS) (d : Nat) (p1 : Option Nat) (p2 : Int32) (p3 : Int32) {r : Int32} {S' : DS} {TC TZ : Nat} (hq : q_X11_close G.2.2 n S d p1 p2 p3 = some (r, S', TC, TZ)) : Met l yX11_close (wM yX11_close cX11_close 6 none) (rD 1 22 TC TZ) (va_Pc [.ref d, va_rf p1, .int p2, .int p3] (dPre D A G S)) (dQv D A G S') TC TZ A := by
  obtain ⟨C, Z, hq, hT⟩ : ∃ C Z, q_X11_close G.2.2 n S d p1 p2 p3 = some (r, S', C, Z) ∧ (0 + C = (rD 1 22 TC TZ).cells ∧ 0 + Z = (rD 1 22 TC TZ).slots) := ⟨TC, TZ, hq, Nat.zero_add _, Nat.zero_add _⟩
  refine d_head hst (by decide) (by cases p1 <;> exact Nat.le_of_ble_eq_true rfl) ?_
  intro p e s m args below meth c ls B hW hl
  have hx := B.1
  have hb := B.2.1
  have hl : lv_has ls 6 [(0, .ref d), (1, va_rf p1), (2, .int p2), (3, .int p3)] := by cases p1 <;> exact hl
  unfold q_X11_close at hq
  refine d_aload_n hx hb dX11_close_0 rfl (lv_at hl 1 rfl) ?_
  refine lv_iload_n hx hb dX11_close_1 rfl (lv_at hl 2 rfl) ?_
  obtain ⟨b1, hb1, hq⟩ := bnd_e hq
  refine W.eq (g2 := F0 m 2 ls [.int p2, .ref b1]) (by rw [hb1]; rfl) ?_
  obtain ⟨hk2, hq⟩ := chk_e hq
  refine d_put B hW (ci := 6) inT_6 tyX6 tyX6_ok nmX6 rfl (dF_6 hk2) (by rw [hk2]; decide) (by rw [hk2]; decide) 3 (by decide) u_203 (Or.inl rfl) (Or.inl rfl) (ty := .int) (tyX6_ok 3 (by decide)) rfl rfl (Nat.le_of_ble_eq_true rfl) (S1 := sI S 603 b1 p2) (ds_6_3 hk2 p2) ⟨rfl, rfl, rfl⟩ (fun b hb => dF_sI hb) dX11_close_2 (fun H locs hW => ?_)
  obtain ⟨S3, eS⟩ : ∃ z, z = sI S 603 b1 p2 := ⟨_, rfl⟩
  rw [← eS] at hW
  replace hq := lt9_u eS hq
  have hk4 : dK S3 b1 = 7 := by rw [eS]; exact hk2
  clear eS
  refine d_aload_n hx hb dX11_close_5 rfl (lv_at hl 1 rfl) ?_
  refine lv_iload_n hx hb dX11_close_6 rfl (lv_at hl 3 rfl) ?_
  refine W.eq (g2 := F0 m 7 ls [.int p3, .ref b1]) (by rw [hb1]; rfl) ?_
  refine d_put B hW (ci := 6) inT_6 tyX6 tyX6_ok nmX6 rfl (dF_6 hk4) (by rw [hk4]; decide) (by rw [hk4]; decide) 4 (by decide) u_205 (Or.inl rfl) (Or.inl rfl) (ty := .int) (tyX6_ok 4 (by decide)) rfl rfl (Nat.le_of_ble_eq_true rfl) (S1 := sI S3 604 b1 p3) (ds_6_4 hk4 p3) ⟨rfl, rfl, rfl⟩ (fun b hb => dF_sI hb) dX11_close_7 (fun H locs hW => ?_)
  obtain ⟨S5, eS⟩ : ∃ z, z = sI S3 604 b1 p3 := ⟨_, rfl⟩
  rw [← eS] at hW
  replace hq := lt9_u eS hq
  have hk6 : dK S5 b1 = 7 := by rw [eS]; exact hk4
  clear eS
  refine d_aload_n hx hb dX11_close_10 rfl (lv_at hl 1 rfl) ?_
  refine W.eq (g2 := F0 m 11 ls [.ref b1]) (by rw [hb1]; rfl) ?_
  refine d_get B hW (ci := 6) inT_6 rfl (dF_6 hk6) (by rw [hk6]; decide) 7 (by decide) u_208 (Or.inl rfl) (v := va_rf (dP S5 607 b1)) rfl dX11_close_11 ?_
  refine e_astore (x := (dP S5 607 b1)) (lv' := [(4, va_rf (dP S5 607 b1)), (0, .ref d), (1, va_rf p1), (2, .int p2), (3, .int p3)]) hx hb dX11_close_14 hl (by decide) (catc rfl (catc rf_cat (catc rfl (catc rfl catn)))) rfl (fun ls hl => ?_)
  refine d_aload_n hx hb dX11_close_16 rfl (lv_at hl 2 rfl) ?_
  refine lv_null hx hb dX11_close_17 ?_
  refine W.eq (g2 := F0 m 18 ls [.null, .ref b1]) (by rw [hb1]; rfl) ?_
  refine d_put B hW (ci := 6) inT_6 tyX6 tyX6_ok nmX6 rfl (dF_6 hk6) (by rw [hk6]; decide) (by rw [hk6]; decide) 7 (by decide) u_208 (Or.inl rfl) (Or.inl rfl) (ty := (.object "PromiseDesk$Job")) (tyX6_ok 7 (by decide)) rfl rfl (Nat.le_of_ble_eq_true rfl) (S1 := sP S5 607 b1 none) (ds_6_7 hk6 none) ⟨rfl, rfl, rfl⟩ (fun b hb => dF_sP hb) dX11_close_18 (fun H locs hW => ?_)
  obtain ⟨S7, eS⟩ : ∃ z, z = sP S5 607 b1 none := ⟨_, rfl⟩
  rw [← eS] at hW
  replace hq := lt9_u eS hq
  have hk8 : dK S7 b1 = 7 := by rw [eS]; exact hk6
  clear eS
  refine d_aload_n hx hb dX11_close_21 rfl (lv_at hl 2 rfl) ?_
  refine lv_null hx hb dX11_close_22 ?_
  refine W.eq (g2 := F0 m 23 ls [.null, .ref b1]) (by rw [hb1]; rfl) ?_
  refine d_put B hW (ci := 6) inT_6 tyX6 tyX6_ok nmX6 rfl (dF_6 hk8) (by rw [hk8]; decide) (by rw [hk8]; decide) 8 (by decide) u_209 (Or.inl rfl) (Or.inl rfl) (ty := (.object "PromiseDesk$Job")) (tyX6_ok 8 (by decide)) rfl rfl (Nat.le_of_ble_eq_true rfl) (S1 := sP S7 608 b1 none) (ds_6_8 hk8 none) ⟨rfl, rfl, rfl⟩ (fun b hb => dF_sP hb) dX11_close_23 (fun H locs hW => ?_)
  obtain ⟨S9, eS⟩ : ∃ z, z = sP S7 608 b1 none := ⟨_, rfl⟩
  rw [← eS] at hW
  replace hq := lt9_u eS hq
  have hk10 : dK S9 b1 = 7 := by rw [eS]; exact hk8
  clear eS
  exact k_X11_close_26 B n S9 p2 p3 (dP S5 607 b1) _ _ hq _ _ ls _ _ hW (lv_sub hl [1, 3, 4, 0] rfl) hT
set_option maxHeartbeats 4000000 in
set_option maxRecDepth 100000 in
theorem c_X11_reject {l : Launch} (hst : l.stackTraces = false) {D : va_G} {A : Nat → Prop} {G : DG} (n : Nat) (S : DS) (d : Nat) (p1 : Option Nat) (p2 : Int32) {r : Int32} {S' : DS} {TC TZ : Nat} (hq : q_X11_reject G.2.2 n S d p1 p2 = some (r, S', TC, TZ)) : Met l yX11_reject (wM yX11_reject cX11_reject 3 none) (rD 2 47 TC TZ) (va_Pc [.ref d, va_rf p1, .int p2] (dPre D A G S)) (dQv D A G S') TC TZ A := by
  obtain ⟨C, Z, hq, hT⟩ : ∃ C Z, q_X11_reject G.2.2 n S d p1 p2 = some (r, S', C, Z) ∧ (0 + C = (rD 2 47 TC TZ).cells ∧ 0 + Z = (rD 2 47 TC TZ).slots) := ⟨TC, TZ, hq, Nat.zero_add _, Nat.zero_add _⟩
  refine d_head hst (by decide) (by cases p1 <;> exact Nat.le_of_ble_eq_true rfl) ?_
  intro p e s m args below meth c ls B hW hl
  have hx := B.1
  have hb := B.2.1
  have hl : lv_has ls 3 [(0, .ref d), (1, va_rf p1), (2, .int p2)] := by cases p1 <;> exact hl
  unfold q_X11_reject at hq
  refine d_aload_n hx hb dX11_reject_0 rfl (lv_at hl 1 rfl) ?_
  refine d_ifnull (tgt := 11) hx hb dX11_reject_1 (by decide) (fun hc => ?_) (fun hc => ?_)
  · replace hq := if_y hc hq
    exact d_vret B hW hq hT dX11_reject_11
  · replace hq := if_n hc hq
    refine d_aload_n hx hb dX11_reject_4 rfl (lv_at hl 1 rfl) ?_
    obtain ⟨b1, hb1, hq⟩ := bnd_e hq
    refine W.eq (g2 := F0 m 5 ls [.ref b1]) (by rw [hb1]; rfl) ?_
    obtain ⟨hk2, hq⟩ := chk_e hq
    refine d_get B hW (ci := 7) inT_7 rfl (dF_7 hk2) (by rw [hk2]; decide) 1 (by decide) u_309 (Or.inl rfl) (v := .int (dI S 701 b1)) rfl dX11_reject_5 ?_
    refine lv_if_eq (tgt := 12) hx hb dX11_reject_8 (by decide) (fun hc => ?_) (fun hc => ?_)
    · replace hq := if_y hc hq
      refine d_aload_n hx hb dX11_reject_12 rfl (lv_at hl 1 rfl) ?_
      refine lv_iconst (v := 1) hx hb dX11_reject_13 (by decide) ?_
      refine W.eq (g2 := F0 m 14 ls [.int 1, .ref b1]) (by rw [hb1]; rfl) ?_
      obtain ⟨hz, hq⟩ := chk_e hq
      refine d_put B hW (ci := 7) inT_7 tyX7 tyX7_ok nmX7 rfl (dF_7 hk2) (by rw [hk2]; decide) (by rw [hk2]; decide) 1 (by decide) u_309 (Or.inl rfl) (Or.inl rfl) (ty := .boolean) (tyX7_ok 1 (by decide)) (isB_narrow hz) (isB_fits hz) (Nat.le_of_ble_eq_true rfl) (S1 := sI S 701 b1 1) (ds_7_1 hk2 1) ⟨rfl, rfl, rfl⟩ (fun b hb => dF_sI hb) dX11_reject_14 (fun H locs hW => ?_)
      obtain ⟨S3, eS⟩ : ∃ z, z = sI S 701 b1 1 := ⟨_, rfl⟩
      rw [← eS] at hW
      replace hq := lt9_u eS hq
      have hk4 : dK S3 b1 = 8 := by rw [eS]; exact hk2
      clear eS
      refine lv_aload_n hx hb dX11_reject_17 rfl (lv_at hl 0 rfl) ?_
      refine d_aload_n hx hb dX11_reject_18 rfl (lv_at hl 1 rfl) ?_
      refine W.eq (g2 := F0 m 19 ls [.ref b1, .ref d]) (by rw [hb1]; rfl) ?_
      refine d_get B hW (ci := 7) inT_7 rfl (dF_7 hk4) (by rw [hk4]; decide) 0 (by decide) u_308 (Or.inl rfl) (v := va_rf (dP S3 700 b1)) rfl dX11_reject_19 ?_
      refine lv_iconst (v := 2) hx hb dX11_reject_22 (by decide) ?_
      refine lv_iload_n hx hb dX11_reject_23 rfl (lv_at hl 2 rfl) ?_
      obtain ⟨hk5, hq⟩ := chk_e hq
      obtain ⟨r6, S7, C1, Z1, C2, Z2, hg, hq2, rfl, rfl⟩ := bndc_e hq
      replace hq := hq2
      clear hq2
      refine d_rv (d_runV (As := [va_rf (dP S3 700 b1), .int 2, .int p2]) (rest := []) B hW hl.1 (d_recv B hW (ci := 11) rfl (dF_11 hk5) (by rw [hk5]; decide)) (c_X11_close B.2.2.2.2.2.2.2.2.2.2 n S3 d (dP S3 700 b1) 2 p2 hg) (g_V u_451 u_453 us_14 u_1 u_454) y1_X11_close rfl ⟨Nat.le_of_ble_eq_true rfl, Nat.le_of_ble_eq_true rfl⟩ hT rfl (Nat.le_of_ble_eq_true rfl) dX11_reject_24) hW hT (fun H locs cells slots hW hT => ?_)
      clear hg
      exact d_vret B hW hq hT dX11_reject_27
    · replace hq := if_n hc hq
      exact d_vret B hW hq hT dX11_reject_11
set_option maxHeartbeats 4000000 in
set_option maxRecDepth 100000 in
theorem c_X11_hasThenFunction {l : Launch} (hst : l.stackTraces = false) {D : va_G} {A : Nat → Prop} {G : DG} (S : DS) (d : Nat) (p1 : Option Nat) {r : Int32} {S' : DS} {TC TZ : Nat} (hq : q_X11_hasThenFunction G.2.2 S d p1 = some (r, S', TC, TZ)) : Met l yX11_hasThenFunction (wM yX11_hasThenFunction cX11_hasThenFunction 3 (some .boolean)) (rD 0 0 TC TZ) (va_Pc [.ref d, va_rf p1] (dPre D A G S)) (dQi D A G r S') TC TZ A := by
  obtain ⟨C, Z, hq, hT⟩ : ∃ C Z, q_X11_hasThenFunction G.2.2 S d p1 = some (r, S', C, Z) ∧ (0 + C = (rD 0 0 TC TZ).cells ∧ 0 + Z = (rD 0 0 TC TZ).slots) := ⟨TC, TZ, hq, Nat.zero_add _, Nat.zero_add _⟩
  refine d_head hst (by decide) (by cases p1 <;> exact Nat.le_of_ble_eq_true rfl) ?_
  intro p e s m args below meth c ls B hW hl
  have hx := B.1
  have hb := B.2.1
  have hl : lv_has ls 3 [(0, .ref d), (1, va_rf p1)] := by cases p1 <;> exact hl
  unfold q_X11_hasThenFunction at hq
  refine d_aload_n hx hb dX11_hasThenFunction_0 rfl (lv_at hl 1 rfl) ?_
  obtain ⟨ho, hq⟩ := chk_e hq
  refine d_instT B hW (x := p1) ho u_407 dX11_hasThenFunction_1 ?_
  refine lv_if_eq (tgt := 25) hx hb dX11_hasThenFunction_4 (by decide) (fun hc => ?_) (fun hc => ?_)
  · replace hq := if_y hc hq
    refine d_aload_n hx hb dX11_hasThenFunction_25 rfl (lv_at hl 1 rfl) ?_
    obtain ⟨ho, hq⟩ := chk_e hq
    refine d_instP B hW (x := p1) ho u_189 dX11_hasThenFunction_26 ?_
    obtain ⟨hz, hq⟩ := chk_e hq
    exact d_zret B hW hz hq hT dX11_hasThenFunction_29
  · replace hq := if_n hc hq
    refine d_aload_n hx hb dX11_hasThenFunction_7 rfl (lv_at hl 1 rfl) ?_
    obtain ⟨b1, hb1, hq⟩ := bnd_e hq
    refine W.eq (g2 := F0 m 8 ls [.ref b1]) (by rw [hb1]; rfl) ?_
    obtain ⟨hk2, hq⟩ := chk_e hq
    refine d_cast B (d_recv B hW (ci := 9) rfl (dF_9 hk2) (by rw [hk2]; decide)) u_407 un_24 dX11_hasThenFunction_8 ?_
    refine e_astore_n (x := (some b1)) (lv' := [(2, .ref b1), (0, .ref d), (1, va_rf p1)]) hx hb dX11_hasThenFunction_11 rfl hl (by decide) (catc rfl (catc rf_cat catn)) rfl (fun ls hl => ?_)
    refine lv_aload_n hx hb dX11_hasThenFunction_12 rfl (lv_at hl 0 rfl) ?_
    refine d_get B hW (ci := 9) inT_9 rfl (dF_9 hk2) (by rw [hk2]; decide) 3 (by decide) u_414 (Or.inl rfl) (v := .int (dI S 903 b1)) rfl dX11_hasThenFunction_13 ?_
    refine lv_if_ne (tgt := 23) hx hb dX11_hasThenFunction_16 (by decide) (fun hc => ?_) (fun hc => ?_)
    · replace hq := if_n hc hq
      refine lv_iconst (v := 0) hx hb dX11_hasThenFunction_23 (by decide) ?_
      obtain ⟨hz, hq⟩ := chk_e hq
      exact d_zret B hW hz hq hT dX11_hasThenFunction_24
    · replace hq := if_y hc hq
      refine lv_iconst (v := 1) hx hb dX11_hasThenFunction_19 (by decide) ?_
      refine lv_goto (tgt := 24) hx hb dX11_hasThenFunction_20 (by decide) ?_
      obtain ⟨hz, hq⟩ := chk_e hq
      exact d_zret B hW hz hq hT dX11_hasThenFunction_24
set_option maxHeartbeats 4000000 in
set_option maxRecDepth 100000 in
theorem c_J3_checkIndex_8e157 {l : Launch} (hst : l.stackTraces = false) {D : va_G} {A : Nat → Prop} {G : DG} (S : DS) (p1 : Int32) (p2 : Int32) (p3 : Option Nat) {r : Int32} {S' : DS} {TC TZ : Nat} (hq : q_J3_checkIndex_8e157 G.2.2 S p1 p2 p3 = some (r, S', TC, TZ)) : Met l yJ3_checkIndex_8e157 (wM yJ3_checkIndex_8e157 cJ3_checkIndex_8e157 3 (some .int)) (rD 0 0 TC TZ) (va_Pc [.int p1, .int p2, va_rf p3] (dPre D A G S)) (dQi D A G r S') TC TZ A := by
  obtain ⟨C, Z, hq, hT⟩ : ∃ C Z, q_J3_checkIndex_8e157 G.2.2 S p1 p2 p3 = some (r, S', C, Z) ∧ (0 + C = (rD 0 0 TC TZ).cells ∧ 0 + Z = (rD 0 0 TC TZ).slots) := ⟨TC, TZ, hq, Nat.zero_add _, Nat.zero_add _⟩
  refine d_head hst (by decide) (by cases p3 <;> exact Nat.le_of_ble_eq_true rfl) ?_
  intro p e s m args below meth c ls B hW hl
  have hx := B.1
  have hb := B.2.1
  have hl : lv_has ls 3 [(0, .int p1), (1, .int p2), (2, va_rf p3)] := by cases p3 <;> exact hl
  unfold q_J3_checkIndex_8e157 at hq
  refine lv_iload_n hx hb dJ3_checkIndex_8e157_0 rfl (lv_at hl 0 rfl) ?_
  refine lv_if_lt (tgt := 9) hx hb dJ3_checkIndex_8e157_1 (by decide) (fun hc => ?_) (fun hc => ?_)
  · replace hq := if_y hc hq
    refine d_aload_n hx hb dJ3_checkIndex_8e157_9 rfl (lv_at hl 2 rfl) ?_
    refine lv_iload_n hx hb dJ3_checkIndex_8e157_10 rfl (lv_at hl 0 rfl) ?_
    refine lv_iload_n hx hb dJ3_checkIndex_8e157_11 rfl (lv_at hl 1 rfl) ?_
    cases hq
  · replace hq := if_n hc hq
    refine lv_iload_n hx hb dJ3_checkIndex_8e157_4 rfl (lv_at hl 0 rfl) ?_
    refine lv_iload_n hx hb dJ3_checkIndex_8e157_5 rfl (lv_at hl 1 rfl) ?_
    refine lv_icmp_lt (tgt := 16) hx hb dJ3_checkIndex_8e157_6 (by decide) (fun hc => ?_) (fun hc => ?_)
    · replace hq := if_y hc hq
      refine lv_iload_n hx hb dJ3_checkIndex_8e157_16 rfl (lv_at hl 0 rfl) ?_
      exact d_iret B hW hq hT dJ3_checkIndex_8e157_17
    · replace hq := if_n hc hq
      refine d_aload_n hx hb dJ3_checkIndex_8e157_9 rfl (lv_at hl 2 rfl) ?_
      refine lv_iload_n hx hb dJ3_checkIndex_8e157_10 rfl (lv_at hl 0 rfl) ?_
      refine lv_iload_n hx hb dJ3_checkIndex_8e157_11 rfl (lv_at hl 1 rfl) ?_
      cases hq
set_option maxHeartbeats 4000000 in
set_option maxRecDepth 100000 in
theorem c_J15_checkIndex_7cf53 {l : Launch} (hst : l.stackTraces = false) {D : va_G} {A : Nat → Prop} {G : DG} (S : DS) (p1 : Int32) (p2 : Int32) {r : Int32} {S' : DS} {TC TZ : Nat} (hq : q_J15_checkIndex_7cf53 G.2.2 S p1 p2 = some (r, S', TC, TZ)) : Met l yJ15_checkIndex_7cf53 (wM yJ15_checkIndex_7cf53 cJ15_checkIndex_7cf53 2 (some .int)) (rD 1 22 TC TZ) (va_Pc [.int p1, .int p2] (dPre D A G S)) (dQi D A G r S') TC TZ A := by
  obtain ⟨C, Z, hq, hT⟩ : ∃ C Z, q_J15_checkIndex_7cf53 G.2.2 S p1 p2 = some (r, S', C, Z) ∧ (0 + C = (rD 1 22 TC TZ).cells ∧ 0 + Z = (rD 1 22 TC TZ).slots) := ⟨TC, TZ, hq, Nat.zero_add _, Nat.zero_add _⟩
  refine d_head hst (by decide) (Nat.le_of_ble_eq_true rfl) ?_
  intro p e s m args below meth c ls B hW hl
  have hx := B.1
  have hb := B.2.1
  have hl : lv_has ls 2 [(0, .int p1), (1, .int p2)] := hl
  unfold q_J15_checkIndex_7cf53 at hq
  refine lv_iload_n hx hb dJ15_checkIndex_7cf53_0 rfl (lv_at hl 0 rfl) ?_
  refine lv_iload_n hx hb dJ15_checkIndex_7cf53_1 rfl (lv_at hl 1 rfl) ?_
  refine lv_null hx hb dJ15_checkIndex_7cf53_2 ?_
  obtain ⟨r1, S2, C1, Z1, C2, Z2, hg, hq2, rfl, rfl⟩ := bndc_e hq
  replace hq := hq2
  clear hq2
  refine d_ri (d_runS (As := [.int p1, .int p2, .null]) (rest := []) B hW hl.1 (c_J3_checkIndex_8e157 B.2.2.2.2.2.2.2.2.2.2 S p1 p2 none hg) (g_S u_358 u_359 u_19 u_360) y1_J3_checkIndex_8e157 rfl ⟨Nat.le_of_ble_eq_true rfl, Nat.le_of_ble_eq_true rfl⟩ hT rfl (Nat.le_of_ble_eq_true rfl) dJ15_checkIndex_7cf53_3) hW hT (fun H locs cells slots hW hT => ?_)
  clear hg
  exact d_iret B hW hq hT dJ15_checkIndex_7cf53_6
set_option maxHeartbeats 4000000 in
set_option maxRecDepth 100000 in
theorem c_Jx4a65c_elementData_915e3 {l : Launch} (hst : l.stackTraces = false) {D : va_G} {A : Nat → Prop} {G : DG} (S : DS) (d : Nat) (p1 : Int32) {r : Option Nat} {S' : DS} {TC TZ : Nat} (hq : q_Jx4a65c_elementData_915e3 G.2.2 S d p1 = some (r, S', TC, TZ)) : Met l yJx4a65c_elementData_915e3 (wM yJx4a65c_elementData_915e3 cJx4a65c_elementData_915e3 2 (some (.object "java/lang/Object"))) (rD 0 0 TC TZ) (va_Pc [.ref d, .int p1] (dPre D A G S)) (dQq D A G r S') TC TZ A := by
  obtain ⟨C, Z, hq, hT⟩ : ∃ C Z, q_Jx4a65c_elementData_915e3 G.2.2 S d p1 = some (r, S', C, Z) ∧ (0 + C = (rD 0 0 TC TZ).cells ∧ 0 + Z = (rD 0 0 TC TZ).slots) := ⟨TC, TZ, hq, Nat.zero_add _, Nat.zero_add _⟩
  refine d_head hst (by decide) (Nat.le_of_ble_eq_true rfl) ?_
  intro p e s m args below meth c ls B hW hl
  have hx := B.1
  have hb := B.2.1
  have hl : lv_has ls 2 [(0, .ref d), (1, .int p1)] := hl
  unfold q_Jx4a65c_elementData_915e3 at hq
  refine lv_aload_n hx hb dJx4a65c_elementData_915e3_0 rfl (lv_at hl 0 rfl) ?_
  obtain ⟨hk1, hq⟩ := chk_e hq
  refine d_get B hW (ci := 0) inT_0 rfl (dF_0 hk1) (by rw [hk1]; decide) 1 (by decide) u_50 (Or.inl rfl) (v := va_rf (dP S 1 d)) rfl dJx4a65c_elementData_915e3_1 ?_
  refine lv_iload_n hx hb dJx4a65c_elementData_915e3_4 rfl (lv_at hl 1 rfl) ?_
  obtain ⟨b2, hb2, hq⟩ := bnd_e hq
  refine W.eq (g2 := F0 m 5 ls [.int p1, .ref b2]) (by rw [hb2]; rfl) ?_
  obtain ⟨hk3, hq⟩ := chk_e hq
  obtain ⟨hi, hq⟩ := chk_e hq
  refine d_aald B hW hk3 hi dJx4a65c_elementData_915e3_5 ?_
  exact d_aret (x := (dY S b2 p1.toNatClampNeg)) B (Or.inl ⟨_, rfl⟩) hW hq hT dJx4a65c_elementData_915e3_6
