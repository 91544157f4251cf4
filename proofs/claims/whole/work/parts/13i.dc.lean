set_option maxHeartbeats 4000000 in
set_option maxRecDepth 100000 in
theorem c_X11_advance {l : Launch} (hst : l.stackTraces = false) {D : va_G} {A : Nat → Prop} {G : DG} (n : Nat) (S : DS) (d : Nat) (p1 : Option Nat) {r : Int32} {S' : DS} {TC TZ : Nat} (hq : q_X11_advance G.2.2 n S d p1 = some (r, S', TC, TZ)) : Met l yX11_advance (wM yX11_advance cX11_advance 3 none) (rD 10 279 TC TZ) (va_Pc [.ref d, va_rf p1] (dPre D A G S)) (dQv D A G S') TC TZ A := by
  obtain ⟨C, Z, hq, hT⟩ : ∃ C Z, q_X11_advance G.2.2 n S d p1 = some (r, S', C, Z) ∧ (0 + C = (rD 10 279 TC TZ).cells ∧ 0 + Z = (rD 10 279 TC TZ).slots) := ⟨TC, TZ, hq, Nat.zero_add _, Nat.zero_add _⟩
  refine d_head hst (by decide) (by cases p1 <;> exact Nat.le_of_ble_eq_true rfl) ?_
  intro p e s m args below meth c ls B hW hl
  have hx := B.1
  have hb := B.2.1
  have hl : lv_has ls 3 [(0, .ref d), (1, va_rf p1)] := by cases p1 <;> exact hl
  unfold q_X11_advance at hq
  refine d_aload_n hx hb dX11_advance_0 rfl (lv_at hl 1 rfl) ?_
  obtain ⟨b1, hb1, hq⟩ := bnd_e hq
  refine W.eq (g2 := F0 m 1 ls [.ref b1]) (by rw [hb1]; rfl) ?_
  obtain ⟨hk2, hq⟩ := chk_e hq
  refine d_get B hW (ci := 1) inT_1 rfl (dF_1 hk2) (by rw [hk2]; decide) 4 (by decide) u_707 (Or.inl rfl) (v := .int (dI S 104 b1)) rfl dX11_advance_1 ?_
  refine d_aload_n hx hb dX11_advance_4 rfl (lv_at hl 1 rfl) ?_
  refine W.eq (g2 := F0 m 5 ls [.ref b1, .int (dI S 104 b1)]) (by rw [hb1]; rfl) ?_
  refine d_get B hW (ci := 1) inT_1 rfl (dF_1 hk2) (by rw [hk2]; decide) 0 (by decide) u_700 (Or.inl rfl) (v := va_rf (dP S 100 b1)) rfl dX11_advance_5 ?_
  obtain ⟨b3, hb3, hq⟩ := bnd_e hq
  refine W.eq (g2 := F0 m 8 ls [.ref b3, .int (dI S 104 b1)]) (by rw [hb3]; rfl) ?_
  obtain ⟨hk4, hq⟩ := chk_e hq
  refine d_alen B hW hk4 dX11_advance_8 ?_
  refine lv_icmp_lt (tgt := 25) hx hb dX11_advance_9 (by decide) (fun hc => ?_) (fun hc => ?_)
  · replace hq := if_y hc hq
    refine lv_aload_n hx hb dX11_advance_25 rfl (lv_at hl 0 rfl) ?_
    refine d_aload_n hx hb dX11_advance_26 rfl (lv_at hl 1 rfl) ?_
    refine W.eq (g2 := F0 m 27 ls [.ref b1, .ref d]) (by rw [hb1]; rfl) ?_
    refine d_get B hW (ci := 1) inT_1 rfl (dF_1 hk2) (by rw [hk2]; decide) 0 (by decide) u_700 (Or.inl rfl) (v := va_rf (dP S 100 b1)) rfl dX11_advance_27 ?_
    refine d_aload_n hx hb dX11_advance_30 rfl (lv_at hl 1 rfl) ?_
    refine W.eq (g2 := F0 m 31 ls [.ref b1, va_rf (dP S 100 b1), .ref d]) (by rw [hb1]; rfl) ?_
    refine d_get B hW (ci := 1) inT_1 rfl (dF_1 hk2) (by rw [hk2]; decide) 4 (by decide) u_707 (Or.inl rfl) (v := .int (dI S 104 b1)) rfl dX11_advance_31 ?_
    refine W.eq (g2 := F0 m 34 ls [.int (dI S 104 b1), .ref b3, .ref d]) (by rw [hb3]; rfl) ?_
    obtain ⟨hk5, hq⟩ := chk_e hq
    obtain ⟨hi, hq⟩ := chk_e hq
    refine d_iald B hW hk5 hi dX11_advance_34 ?_
    obtain ⟨hk6, hq⟩ := chk_e hq
    obtain ⟨r7, S8, C1, Z1, C2, Z2, hg, hq2, rfl, rfl⟩ := bndc_e hq
    replace hq := hq2
    clear hq2
    refine d_rq (d_runV (As := [.int (dX S b3 (dI S 104 b1).toNatClampNeg)]) (rest := []) B hW hl.1 (d_recv B hW (ci := 11) rfl (dF_11 hk6) (by rw [hk6]; decide)) (c_X11_promiseFor B.2.2.2.2.2.2.2.2.2.2 n S d (dX S b3 (dI S 104 b1).toNatClampNeg) hg) (g_V u_585 u_587 us_23 u_1 u_588) y1_X11_promiseFor rfl ⟨Nat.le_of_ble_eq_true rfl, Nat.le_of_ble_eq_true rfl⟩ hT rfl (Nat.le_of_ble_eq_true rfl) dX11_advance_35) hW hT (fun H locs cells slots hW hT => ?_)
    clear hg
    refine e_astore_n (x := r7) (lv' := [(2, va_rf r7), (0, .ref d), (1, va_rf p1)]) hx hb dX11_advance_38 rfl hl (by decide) (catc rfl (catc rf_cat catn)) rfl (fun ls hl => ?_)
    refine d_aload_n hx hb dX11_advance_39 rfl (lv_at hl 2 rfl) ?_
    refine lv_dup hx hb dX11_advance_40 rf_cat ?_
    refine W.eq (g2 := F0 m 41 ls [.ref b1, .ref b1]) (by rw [hb1]; rfl) ?_
    obtain ⟨hk9, hq⟩ := chk_e hq
    refine d_get B hW (ci := 1) inT_1 rfl (dF_1 hk9) (by rw [hk9]; decide) 4 (by decide) u_707 (Or.inl rfl) (v := .int (dI S8 104 b1)) rfl dX11_advance_41 ?_
    refine lv_iconst (v := 1) hx hb dX11_advance_44 (by decide) ?_
    refine lv_iadd hx hb dX11_advance_45 ?_
    refine d_put B hW (ci := 1) inT_1 tyX0 tyX0_ok nmX0 rfl (dF_1 hk9) (by rw [hk9]; decide) (by rw [hk9]; decide) 4 (by decide) u_707 (Or.inl rfl) (Or.inl rfl) (ty := .int) (tyX0_ok 4 (by decide)) rfl rfl (Nat.le_of_ble_eq_true rfl) (S1 := sI S8 104 b1 ((dI S8 104 b1) + 1)) (ds_1_4 hk9 ((dI S8 104 b1) + 1)) ⟨rfl, rfl, rfl⟩ (fun b hb => dF_sI hb) dX11_advance_46 (fun H locs hW => ?_)
    obtain ⟨S10, eS⟩ : ∃ z, z = sI S8 104 b1 ((dI S8 104 b1) + 1) := ⟨_, rfl⟩
    rw [← eS] at hW
    replace hq := lt9_u eS hq
    have hk11 : dK S10 b1 = 2 := by rw [eS]; exact hk9
    clear eS
    refine lv_aload_n hx hb dX11_advance_49 rfl (lv_at hl 1 rfl) ?_
    refine d_aload_n hx hb dX11_advance_50 rfl (lv_at hl 0 rfl) ?_
    refine d_aload_n hx hb dX11_advance_51 rfl (lv_at hl 2 rfl) ?_
    obtain ⟨r12, S13, C1, Z1, C2, Z2, hg, hq2, rfl, rfl⟩ := bndc_e hq
    replace hq := hq2
    clear hq2
    refine d_rq (d_runS (As := [va_rf p1]) (rest := [va_rf r7, .ref d]) B hW hl.1 (c_X4_resumption B.2.2.2.2.2.2.2.2.2.2 S10 p1 hg) (g_S u_723 u_724 u_23 u_725) y1_X4_resumption rfl ⟨Nat.le_of_ble_eq_true rfl, Nat.le_of_ble_eq_true rfl⟩ hT rfl (cat8 (vcc rf_cat (vcc rfl vcn)) (Nat.le_of_ble_eq_true rfl)) dX11_advance_52) hW hT (fun H locs cells slots hW hT => ?_)
    clear hg
    obtain ⟨hk14, hq⟩ := chk_e hq
    obtain ⟨r15, S16, C1, Z1, C2, Z2, hg, hq2, rfl, rfl⟩ := bndc_e hq
    replace hq := hq2
    clear hq2
    refine d_rv (d_runV (As := [va_rf r7, va_rf r12]) (rest := []) B hW hl.1 (d_recv B hW (ci := 11) rfl (dF_11 hk14) (by rw [hk14]; decide)) (c_X11_attach B.2.2.2.2.2.2.2.2.2.2 S13 d r7 r12 hg) (g_V u_554 u_556 us_22 u_1 u_557) y1_X11_attach rfl ⟨Nat.le_of_ble_eq_true rfl, Nat.le_of_ble_eq_true rfl⟩ hT rfl (Nat.le_of_ble_eq_true rfl) dX11_advance_55) hW hT (fun H locs cells slots hW hT => ?_)
    clear hg
    exact d_vret B hW hq hT dX11_advance_58
  · replace hq := if_n hc hq
    refine lv_aload_n hx hb dX11_advance_12 rfl (lv_at hl 0 rfl) ?_
    refine d_aload_n hx hb dX11_advance_13 rfl (lv_at hl 1 rfl) ?_
    refine W.eq (g2 := F0 m 14 ls [.ref b1, .ref d]) (by rw [hb1]; rfl) ?_
    refine d_get B hW (ci := 1) inT_1 rfl (dF_1 hk2) (by rw [hk2]; decide) 3 (by decide) u_706 (Or.inl rfl) (v := va_rf (dP S 103 b1)) rfl dX11_advance_14 ?_
    refine d_aload_n hx hb dX11_advance_17 rfl (lv_at hl 1 rfl) ?_
    refine W.eq (g2 := F0 m 18 ls [.ref b1, va_rf (dP S 103 b1), .ref d]) (by rw [hb1]; rfl) ?_
    refine d_get B hW (ci := 1) inT_1 rfl (dF_1 hk2) (by rw [hk2]; decide) 2 (by decide) u_704 (Or.inl rfl) (v := .int (dI S 102 b1)) rfl dX11_advance_18 ?_
    obtain ⟨hk17, hq⟩ := chk_e hq
    obtain ⟨r18, S19, C1, Z1, C2, Z2, hg, hq2, rfl, rfl⟩ := bndc_e hq
    replace hq := hq2
    clear hq2
    refine d_rv (d_runV (As := [va_rf (dP S 103 b1), .int (dI S 102 b1)]) (rest := []) B hW hl.1 (d_recv B hW (ci := 11) rfl (dF_11 hk17) (by rw [hk17]; decide)) (c_X11_resolve B.2.2.2.2.2.2.2.2.2.2 n S d (dP S 103 b1) (dI S 102 b1) hg) (g_V u_463 u_465 us_16 u_1 u_466) y1_X11_resolve rfl ⟨Nat.le_of_ble_eq_true rfl, Nat.le_of_ble_eq_true rfl⟩ hT rfl (Nat.le_of_ble_eq_true rfl) dX11_advance_21) hW hT (fun H locs cells slots hW hT => ?_)
    clear hg
    exact d_vret B hW hq hT dX11_advance_24
set_option maxHeartbeats 4000000 in
set_option maxRecDepth 100000 in
theorem c_X11_async {l : Launch} (hst : l.stackTraces = false) {D : va_G} {A : Nat → Prop} {G : DG} (n : Nat) (S : DS) (d : Nat) (p1 : Int32) (p2 : Int32) {k : Nat} {r : Int32} {S' : DS} {TC TZ : Nat} (hq : q_X11_async G.2.2 n S d p1 p2 = some ((k, r), S', TC, TZ)) : vx_Met l yX11_async (wM yX11_async cX11_async 5 (some .int)) (rD 11 301 TC TZ) (va_Pc [.ref d, .int p1, .int p2] (dPre D A G S)) (xQi D A G k r S') (xX D A G k S') TC TZ A := by
  obtain ⟨C, Z, hq, hT⟩ : ∃ C Z, q_X11_async G.2.2 n S d p1 p2 = some ((k, r), S', C, Z) ∧ (0 + C = (rD 11 301 TC TZ).cells ∧ 0 + Z = (rD 11 301 TC TZ).slots) := ⟨TC, TZ, hq, Nat.zero_add _, Nat.zero_add _⟩
  refine x_head hst (by decide) (Nat.le_of_ble_eq_true rfl) ?_
  intro p e s m args below meth c ls B hout hW hl
  have hx := B.1
  have hb := B.2.1
  have hl : lv_has ls 5 [(0, .ref d), (1, .int p1), (2, .int p2)] := hl
  unfold q_X11_async at hq
  refine lv_aload_n hx hb dX11_async_0 rfl (lv_at hl 0 rfl) ?_
  refine lv_iload_n hx hb dX11_async_1 rfl (lv_at hl 1 rfl) ?_
  obtain ⟨hk1, hq⟩ := chk_e hq
  rcases bndx_e hq with ⟨r2, S3, C1, Z1, C2, Z2, hg, hq2, rfl, rfl⟩ | ⟨k9, r9, hk9, hg, e9⟩
  rotate_left
  · cases e9
    exact x_ov B hout hk9 (x_runV (As := [.int p1]) (rest := []) B hW hl.1 (d_recv B hW (ci := 11) rfl (dF_11 hk1) (by rw [hk1]; decide)) (c_X11_requireValue B.2.2.2.2.2.2.2.2.2.2 S d p1 hg) (g_V u_343 u_345 us_8 u_1 u_346) y1_X11_requireValue rfl ⟨Nat.le_of_ble_eq_true rfl, Nat.le_of_ble_eq_true rfl⟩ (C2 := 0) (Z2 := 0) ⟨hT.1, hT.2⟩ rfl (Nat.le_of_ble_eq_true rfl) dX11_async_2) hW hT
  replace hq := hq2
  clear hq2
  refine x_rv (x_runV (As := [.int p1]) (rest := []) B hW hl.1 (d_recv B hW (ci := 11) rfl (dF_11 hk1) (by rw [hk1]; decide)) (c_X11_requireValue B.2.2.2.2.2.2.2.2.2.2 S d p1 hg) (g_V u_343 u_345 us_8 u_1 u_346) y1_X11_requireValue rfl ⟨Nat.le_of_ble_eq_true rfl, Nat.le_of_ble_eq_true rfl⟩ hT rfl (Nat.le_of_ble_eq_true rfl) dX11_async_2) hW hT (fun H locs cells slots hW hT => ?_)
  clear hg
  refine lv_aload_n hx hb dX11_async_5 rfl (lv_at hl 0 rfl) ?_
  refine lv_iload_n hx hb dX11_async_6 rfl (lv_at hl 2 rfl) ?_
  obtain ⟨hk4, hq⟩ := chk_e hq
  rcases bndx_e hq with ⟨r5, S6, C1, Z1, C2, Z2, hg, hq2, rfl, rfl⟩ | ⟨k9, r9, hk9, hg, e9⟩
  rotate_left
  · cases e9
    exact x_oq B hout hk9 (x_runV (As := [.int p2]) (rest := []) B hW hl.1 (d_recv B hW (ci := 11) rfl (dF_11 hk4) (by rw [hk4]; decide)) (c_X11_requireHandler B.2.2.2.2.2.2.2.2.2.2 S3 d p2 hg) (g_V u_543 u_545 us_20 u_1 u_546) y1_X11_requireHandler rfl ⟨Nat.le_of_ble_eq_true rfl, Nat.le_of_ble_eq_true rfl⟩ (C2 := 0) (Z2 := 0) ⟨hT.1, hT.2⟩ rfl (Nat.le_of_ble_eq_true rfl) dX11_async_7) hW hT
  replace hq := hq2
  clear hq2
  refine x_rq (x_runV (As := [.int p2]) (rest := []) B hW hl.1 (d_recv B hW (ci := 11) rfl (dF_11 hk4) (by rw [hk4]; decide)) (c_X11_requireHandler B.2.2.2.2.2.2.2.2.2.2 S3 d p2 hg) (g_V u_543 u_545 us_20 u_1 u_546) y1_X11_requireHandler rfl ⟨Nat.le_of_ble_eq_true rfl, Nat.le_of_ble_eq_true rfl⟩ hT rfl (Nat.le_of_ble_eq_true rfl) dX11_async_7) hW hT (fun H locs cells slots hW hT => ?_)
  clear hg
  refine e_astore_n (x := r5) (lv' := [(3, va_rf r5), (0, .ref d), (1, .int p1), (2, .int p2)]) hx hb dX11_async_10 rfl hl (by decide) (catc rfl (catc rfl (catc rfl catn))) rfl (fun ls hl => ?_)
  refine lv_aload_n hx hb dX11_async_11 rfl (lv_at hl 1 rfl) ?_
  refine lv_bipush (v := 8) hx hb dX11_async_12 (by decide) ?_
  obtain ⟨hk7, hq⟩ := chk_e hq
  rcases bndx_e hq with ⟨r8, S9, C1, Z1, C2, Z2, hg, hq2, rfl, rfl⟩ | ⟨k9, r9, hk9, hg, e9⟩
  rotate_left
  · cases e9
    exact x_ov B hout hk9 (x_runV (As := [.int 8]) (rest := []) B hW hl.1 (d_recv B hW (ci := 11) rfl (dF_11 hk7) (by rw [hk7]; decide)) (c_X11_requireRoom B.2.2.2.2.2.2.2.2.2.2 S6 d 8 hg) (g_V u_110 u_112 us_0 u_1 u_113) y1_X11_requireRoom rfl ⟨Nat.le_of_ble_eq_true rfl, Nat.le_of_ble_eq_true rfl⟩ (C2 := 0) (Z2 := 0) ⟨hT.1, hT.2⟩ rfl (Nat.le_of_ble_eq_true rfl) dX11_async_14) hW hT
  replace hq := hq2
  clear hq2
  refine x_rv (x_runV (As := [.int 8]) (rest := []) B hW hl.1 (d_recv B hW (ci := 11) rfl (dF_11 hk7) (by rw [hk7]; decide)) (c_X11_requireRoom B.2.2.2.2.2.2.2.2.2.2 S6 d 8 hg) (g_V u_110 u_112 us_0 u_1 u_113) y1_X11_requireRoom rfl ⟨Nat.le_of_ble_eq_true rfl, Nat.le_of_ble_eq_true rfl⟩ hT rfl (Nat.le_of_ble_eq_true rfl) dX11_async_14) hW hT (fun H locs cells slots hW hT => ?_)
  clear hg
  refine lv_aload_n hx hb dX11_async_17 rfl (lv_at hl 1 rfl) ?_
  obtain ⟨hk10, hq⟩ := chk_e hq
  obtain ⟨r11, S12, C1, Z1, C2, Z2, hg, hq2, rfl, rfl⟩ := bndc_e hq
  replace hq := hq2
  clear hq2
  refine d_rq (d_runV (As := []) (rest := []) B hW hl.1 (d_recv B hW (ci := 11) rfl (dF_11 hk10) (by rw [hk10]; decide)) (c_X11_newPromise B.2.2.2.2.2.2.2.2.2.2 S9 d hg) (g_V u_185 u_187 us_2 u_1 u_188) y1_X11_newPromise rfl ⟨Nat.le_of_ble_eq_true rfl, Nat.le_of_ble_eq_true rfl⟩ hT rfl (Nat.le_of_ble_eq_true rfl) dX11_async_18) hW hT (fun H locs cells slots hW hT => ?_)
  clear hg
  refine e_astore (x := r11) (lv' := [(4, va_rf r11), (3, va_rf r5), (0, .ref d), (1, .int p1), (2, .int p2)]) hx hb dX11_async_21 hl (by decide) (catc rf_cat (catc rfl (catc rfl (catc rfl catn)))) rfl (fun ls hl => ?_)
  refine lv_aload_n hx hb dX11_async_23 rfl (lv_at hl 2 rfl) ?_
  obtain ⟨C1, Z1, hq2, rfl, rfl⟩ := tick_e hq
  replace hq := hq2
  clear hq2
  refine d_new B hW (ci := 1) (kd := 2) inT_1 tyX0 tyX0_ok u_693 u_694 u_27 rfl (fun j hj => by rcases (show j = 0 ∨ j = 1 ∨ j = 2 ∨ j = 3 ∨ j = 4 by omega) with rfl | rfl | rfl | rfl | rfl <;> rfl) dw_1 hT dX11_async_24 (fun H cells slots q13 S14 eq eS hW hT => ?_)
  replace hq := lt9_u eq hq
  replace hq := lt9_u eS hq
  have hkq13 : dK S14 q13 = 2 := by rw [eS, eq]; exact va_up_self _ _ _
  clear eS eq
  refine lv_dup hx hb dX11_async_27 rfl ?_
  refine lv_aload_n hx hb dX11_async_28 rfl (lv_at hl 2 rfl) ?_
  obtain ⟨hk15, hq⟩ := chk_e hq
  obtain ⟨r16, S17, C1, Z1, C2, Z2, hg, hq2, rfl, rfl⟩ := bndc_e hq
  replace hq := hq2
  clear hq2
  refine d_rq (d_runV (As := []) (rest := [.ref q13, .ref q13, .ref d]) B hW hl.1 (d_recv B hW (ci := 11) rfl (dF_11 hk15) (by rw [hk15]; decide)) (c_X11_takeList B.2.2.2.2.2.2.2.2.2.2 S14 d hg) (g_V u_611 u_613 us_24 u_1 u_614) y1_X11_takeList rfl ⟨Nat.le_of_ble_eq_true rfl, Nat.le_of_ble_eq_true rfl⟩ hT rfl (Nat.le_of_ble_eq_true rfl) dX11_async_29) hW hT (fun H locs cells slots hW hT => ?_)
  clear hg
  refine d_aload_n hx hb dX11_async_32 rfl (lv_at hl 1 rfl) ?_
  refine lv_iload_n hx hb dX11_async_33 rfl (lv_at hl 3 rfl) ?_
  refine d_aload hx hb dX11_async_34 (lv_at hl 0 rfl) ?_
  obtain ⟨r18, S19, C1, Z1, C2, Z2, hg, hq2, rfl, rfl⟩ := bndc_e hq
  replace hq := hq2
  clear hq2
  refine d_rv (d_runI (As := [va_rf r16, va_rf r5, .int p1, va_rf r11]) (rest := [.ref q13, .ref d]) B hW hl.1 (c_X0_init B.2.2.2.2.2.2.2.2.2.2 S17 q13 r16 r5 p1 r11 hg) u_695 u_696 u_27 u_697 rfl y1_X0_init rfl ⟨Nat.le_of_ble_eq_true rfl, Nat.le_of_ble_eq_true rfl⟩ hT rfl (Nat.le_of_ble_eq_true rfl) dX11_async_36) hW hT (fun H locs cells slots hW hT => ?_)
  clear hg
  obtain ⟨hk20, hq⟩ := chk_e hq
  obtain ⟨r21, S22, C1, Z1, C2, Z2, hg, hq2, rfl, rfl⟩ := bndc_e hq
  replace hq := hq2
  clear hq2
  refine d_rv (d_runV (As := [.ref q13]) (rest := []) B hW hl.1 (d_recv B hW (ci := 11) rfl (dF_11 hk20) (by rw [hk20]; decide)) (c_X11_advance B.2.2.2.2.2.2.2.2.2.2 n S19 d (some q13) hg) (g_V u_719 u_721 us_28 u_1 u_722) y1_X11_advance rfl ⟨Nat.le_of_ble_eq_true rfl, Nat.le_of_ble_eq_true rfl⟩ hT rfl (Nat.le_of_ble_eq_true rfl) dX11_async_39) hW hT (fun H locs cells slots hW hT => ?_)
  clear hg
  refine d_aload hx hb dX11_async_42 (lv_at hl 0 rfl) ?_
  obtain ⟨b23, hb23, hq⟩ := bnd_e hq
  refine W.eq (g2 := F0 m 44 ls [.ref b23]) (by rw [hb23]; rfl) ?_
  obtain ⟨hk24, hq⟩ := chk_e hq
  refine d_get B hW (ci := 7) inT_7 rfl (dF_7 hk24) (by rw [hk24]; decide) 0 (by decide) u_308 (Or.inl rfl) (v := va_rf (dP S22 700 b23)) rfl dX11_async_44 ?_
  obtain ⟨b25, hb25, hq⟩ := bnd_e hq
  refine W.eq (g2 := F0 m 47 ls [.ref b25]) (by rw [hb25]; rfl) ?_
  obtain ⟨hk26, hq⟩ := chk_e hq
  refine d_get B hW (ci := 6) inT_6 rfl (dF_6 hk26) (by rw [hk26]; decide) 0 (by decide) u_211 (Or.inr u_212) (v := .int (dI S22 1000 b25)) rfl dX11_async_47 ?_
  exact x_iret B hW hq hT dX11_async_50
set_option maxHeartbeats 4000000 in
set_option maxRecDepth 100000 in
theorem c_X11_dequeue {l : Launch} (hst : l.stackTraces = false) {D : va_G} {A : Nat → Prop} {G : DG} (S : DS) (d : Nat) (p1 : Option Nat) {r : Int32} {S' : DS} {TC TZ : Nat} (hq : q_X11_dequeue G.2.2 S d p1 = some (r, S', TC, TZ)) : Met l yX11_dequeue (wM yX11_dequeue cX11_dequeue 2 none) (rD 0 0 TC TZ) (va_Pc [.ref d, va_rf p1] (dPre D A G S)) (dQv D A G S') TC TZ A := by
  obtain ⟨C, Z, hq, hT⟩ : ∃ C Z, q_X11_dequeue G.2.2 S d p1 = some (r, S', C, Z) ∧ (0 + C = (rD 0 0 TC TZ).cells ∧ 0 + Z = (rD 0 0 TC TZ).slots) := ⟨TC, TZ, hq, Nat.zero_add _, Nat.zero_add _⟩
  refine d_head hst (by decide) (by cases p1 <;> exact Nat.le_of_ble_eq_true rfl) ?_
  intro p e s m args below meth c ls B hW hl
  have hx := B.1
  have hb := B.2.1
  have hl : lv_has ls 2 [(0, .ref d), (1, va_rf p1)] := by cases p1 <;> exact hl
  unfold q_X11_dequeue at hq
  refine lv_aload_n hx hb dX11_dequeue_0 rfl (lv_at hl 0 rfl) ?_
  refine d_aload_n hx hb dX11_dequeue_1 rfl (lv_at hl 1 rfl) ?_
  obtain ⟨b1, hb1, hq⟩ := bnd_e hq
  refine W.eq (g2 := F0 m 2 ls [.ref b1, .ref d]) (by rw [hb1]; rfl) ?_
  obtain ⟨hk2, hq⟩ := chk_e hq
  refine d_get B hW (ci := 4) inT_4 rfl (dF_4 hk2) (by rw [hk2]; decide) 7 (by decide) u_506 (Or.inl rfl) (v := va_rf (dP S 407 b1)) rfl dX11_dequeue_2 ?_
  obtain ⟨hk3, hq⟩ := chk_e hq
  refine d_put B hW (ci := 11) inT_11 tyX11 tyX11_ok nmX11 rfl (dF_11 hk3) (by rw [hk3]; decide) (by rw [hk3]; decide) 6 (by decide) u_68 (Or.inl rfl) (Or.inl rfl) (ty := (.object "PromiseDesk$Job")) (tyX11_ok 6 (by decide)) rf_nO rf_fO (Nat.le_of_ble_eq_true rfl) (S1 := sP S 1106 d (dP S 407 b1)) (ds_11_6 hk3 (dP S 407 b1)) ⟨rfl, rfl, rfl⟩ (fun b hb => dF_sP hb) dX11_dequeue_5 (fun H locs hW => ?_)
  obtain ⟨S4, eS⟩ : ∃ z, z = sP S 1106 d (dP S 407 b1) := ⟨_, rfl⟩
  rw [← eS] at hW
  replace hq := lt9_u eS hq
  have hk5 : dK S4 b1 = 5 := by rw [eS]; exact hk2
  have hk6 : dK S4 d = 12 := by rw [eS]; exact hk3
  clear eS
  refine lv_aload_n hx hb dX11_dequeue_8 rfl (lv_at hl 0 rfl) ?_
  refine d_get B hW (ci := 11) inT_11 rfl (dF_11 hk6) (by rw [hk6]; decide) 6 (by decide) u_68 (Or.inl rfl) (v := va_rf (dP S4 1106 d)) rfl dX11_dequeue_9 ?_
  refine d_ifnonnull (tgt := 20) hx hb dX11_dequeue_12 (by decide) (fun hc => ?_) (fun hc => ?_)
  · replace hq := if_n hc hq
    refine lv_aload_n hx hb dX11_dequeue_20 rfl (lv_at hl 0 rfl) ?_
    refine lv_dup hx hb dX11_dequeue_21 rfl ?_
    refine d_get B hW (ci := 11) inT_11 rfl (dF_11 hk6) (by rw [hk6]; decide) 8 (by decide) u_70 (Or.inl rfl) (v := .int (dI S4 1108 d)) rfl dX11_dequeue_22 ?_
    refine lv_iconst (v := 1) hx hb dX11_dequeue_25 (by decide) ?_
    refine lv_isub hx hb dX11_dequeue_26 ?_
    refine d_put B hW (ci := 11) inT_11 tyX11 tyX11_ok nmX11 rfl (dF_11 hk6) (by rw [hk6]; decide) (by rw [hk6]; decide) 8 (by decide) u_70 (Or.inl rfl) (Or.inl rfl) (ty := .int) (tyX11_ok 8 (by decide)) rfl rfl (Nat.le_of_ble_eq_true rfl) (S1 := sI S4 1108 d ((dI S4 1108 d) - 1)) (ds_11_8 hk6 ((dI S4 1108 d) - 1)) ⟨rfl, rfl, rfl⟩ (fun b hb => dF_sI hb) dX11_dequeue_27 (fun H locs hW => ?_)
    obtain ⟨S7, eS⟩ : ∃ z, z = sI S4 1108 d ((dI S4 1108 d) - 1) := ⟨_, rfl⟩
    rw [← eS] at hW
    replace hq := lt9_u eS hq
    have hk8 : dK S7 b1 = 5 := by rw [eS]; exact hk5
    have hk9 : dK S7 d = 12 := by rw [eS]; exact hk6
    clear eS
    exact d_vret B hW hq hT dX11_dequeue_30
  · replace hq := if_y hc hq
    refine lv_aload_n hx hb dX11_dequeue_15 rfl (lv_at hl 0 rfl) ?_
    refine lv_null hx hb dX11_dequeue_16 ?_
    refine d_put B hW (ci := 11) inT_11 tyX11 tyX11_ok nmX11 rfl (dF_11 hk6) (by rw [hk6]; decide) (by rw [hk6]; decide) 7 (by decide) u_69 (Or.inl rfl) (Or.inl rfl) (ty := (.object "PromiseDesk$Job")) (tyX11_ok 7 (by decide)) rfl rfl (Nat.le_of_ble_eq_true rfl) (S1 := sP S4 1107 d none) (ds_11_7 hk6 none) ⟨rfl, rfl, rfl⟩ (fun b hb => dF_sP hb) dX11_dequeue_17 (fun H locs hW => ?_)
    obtain ⟨S10, eS⟩ : ∃ z, z = sP S4 1107 d none := ⟨_, rfl⟩
    rw [← eS] at hW
    replace hq := lt9_u eS hq
    have hk11 : dK S10 b1 = 5 := by rw [eS]; exact hk5
    have hk12 : dK S10 d = 12 := by rw [eS]; exact hk6
    clear eS
    refine lv_aload_n hx hb dX11_dequeue_20 rfl (lv_at hl 0 rfl) ?_
    refine lv_dup hx hb dX11_dequeue_21 rfl ?_
    refine d_get B hW (ci := 11) inT_11 rfl (dF_11 hk12) (by rw [hk12]; decide) 8 (by decide) u_70 (Or.inl rfl) (v := .int (dI S10 1108 d)) rfl dX11_dequeue_22 ?_
    refine lv_iconst (v := 1) hx hb dX11_dequeue_25 (by decide) ?_
    refine lv_isub hx hb dX11_dequeue_26 ?_
    refine d_put B hW (ci := 11) inT_11 tyX11 tyX11_ok nmX11 rfl (dF_11 hk12) (by rw [hk12]; decide) (by rw [hk12]; decide) 8 (by decide) u_70 (Or.inl rfl) (Or.inl rfl) (ty := .int) (tyX11_ok 8 (by decide)) rfl rfl (Nat.le_of_ble_eq_true rfl) (S1 := sI S10 1108 d ((dI S10 1108 d) - 1)) (ds_11_8 hk12 ((dI S10 1108 d) - 1)) ⟨rfl, rfl, rfl⟩ (fun b hb => dF_sI hb) dX11_dequeue_27 (fun H locs hW => ?_)
    obtain ⟨S13, eS⟩ : ∃ z, z = sI S10 1108 d ((dI S10 1108 d) - 1) := ⟨_, rfl⟩
    rw [← eS] at hW
    replace hq := lt9_u eS hq
    have hk14 : dK S13 b1 = 5 := by rw [eS]; exact hk11
    have hk15 : dK S13 d = 12 := by rw [eS]; exact hk12
    clear eS
    exact d_vret B hW hq hT dX11_dequeue_30
set_option maxHeartbeats 4000000 in
set_option maxRecDepth 100000 in
theorem c_X11_doAct {l : Launch} (hst : l.stackTraces = false) {D : va_G} {A : Nat → Prop} {G : DG} (n : Nat) (S : DS) (d : Nat) (p1 : Option Nat) (p2 : Int32) (p3 : Int32) (p4 : Option Nat) {r : Int32} {S' : DS} {TC TZ : Nat} (hq : q_X11_doAct G.2.2 n S d p1 p2 p3 p4 = some (r, S', TC, TZ)) : Met l yX11_doAct (wM yX11_doAct cX11_doAct 5 none) (rD 9 256 TC TZ) (va_Pc [.ref d, va_rf p1, .int p2, .int p3, va_rf p4] (dPre D A G S)) (dQv D A G S') TC TZ A := by
  obtain ⟨C, Z, hq, hT⟩ : ∃ C Z, q_X11_doAct G.2.2 n S d p1 p2 p3 p4 = some (r, S', C, Z) ∧ (0 + C = (rD 9 256 TC TZ).cells ∧ 0 + Z = (rD 9 256 TC TZ).slots) := ⟨TC, TZ, hq, Nat.zero_add _, Nat.zero_add _⟩
  refine d_head hst (by decide) (by cases p1 <;> cases p4 <;> exact Nat.le_of_ble_eq_true rfl) ?_
  intro p e s m args below meth c ls B hW hl
  have hx := B.1
  have hb := B.2.1
  have hl : lv_has ls 5 [(0, .ref d), (1, va_rf p1), (2, .int p2), (3, .int p3), (4, va_rf p4)] := by cases p1 <;> cases p4 <;> exact hl
  unfold q_X11_doAct at hq
  refine lv_iload_n hx hb dX11_doAct_0 rfl (lv_at hl 2 rfl) ?_
  by_cases hc1 : p2 = 1
  · replace hq := if_y hc1 hq
    refine lv_tableIn (off := 31) (tgt := 32) hx hb dX11_doAct_1 (by rw [hc1]; decide) (by rw [hc1]; decide) (by rw [hc1]; rfl) (by decide) ?_
    refine lv_aload_n hx hb dX11_doAct_32 rfl (lv_at hl 0 rfl) ?_
    refine d_aload hx hb dX11_doAct_33 (lv_at hl 4 rfl) ?_
    refine lv_iload_n hx hb dX11_doAct_35 rfl (lv_at hl 3 rfl) ?_
    obtain ⟨hk1, hq⟩ := chk_e hq
    obtain ⟨r2, S3, C1, Z1, C2, Z2, hg, hq2, rfl, rfl⟩ := bndc_e hq
    replace hq := hq2
    clear hq2
    refine d_rv (d_runV (As := [va_rf p4, .int p3]) (rest := []) B hW hl.1 (d_recv B hW (ci := 11) rfl (dF_11 hk1) (by rw [hk1]; decide)) (c_X11_resolve B.2.2.2.2.2.2.2.2.2.2 n S d p4 p3 hg) (g_V u_463 u_465 us_16 u_1 u_466) y1_X11_resolve rfl ⟨Nat.le_of_ble_eq_true rfl, Nat.le_of_ble_eq_true rfl⟩ hT rfl (Nat.le_of_ble_eq_true rfl) dX11_doAct_36) hW hT (fun H locs cells slots hW hT => ?_)
    clear hg
    refine lv_goto (tgt := 61) hx hb dX11_doAct_39 (by decide) ?_
    exact d_vret B hW hq hT dX11_doAct_61
  replace hq := if_n hc1 hq
  by_cases hc2 : p2 = 2
  · replace hq := if_y hc2 hq
    refine lv_tableIn (off := 41) (tgt := 42) hx hb dX11_doAct_1 (by rw [hc2]; decide) (by rw [hc2]; decide) (by rw [hc2]; rfl) (by decide) ?_
    refine lv_aload_n hx hb dX11_doAct_42 rfl (lv_at hl 0 rfl) ?_
    refine d_aload hx hb dX11_doAct_43 (lv_at hl 4 rfl) ?_
    refine lv_iload_n hx hb dX11_doAct_45 rfl (lv_at hl 3 rfl) ?_
    obtain ⟨hk4, hq⟩ := chk_e hq
    obtain ⟨r5, S6, C1, Z1, C2, Z2, hg, hq2, rfl, rfl⟩ := bndc_e hq
    replace hq := hq2
    clear hq2
    refine d_rv (d_runV (As := [va_rf p4, .int p3]) (rest := []) B hW hl.1 (d_recv B hW (ci := 11) rfl (dF_11 hk4) (by rw [hk4]; decide)) (c_X11_reject B.2.2.2.2.2.2.2.2.2.2 n S d p4 p3 hg) (g_V u_447 u_449 us_13 u_1 u_450) y1_X11_reject rfl ⟨Nat.le_of_ble_eq_true rfl, Nat.le_of_ble_eq_true rfl⟩ hT rfl (Nat.le_of_ble_eq_true rfl) dX11_doAct_46) hW hT (fun H locs cells slots hW hT => ?_)
    clear hg
    refine lv_goto (tgt := 61) hx hb dX11_doAct_49 (by decide) ?_
    exact d_vret B hW hq hT dX11_doAct_61
  replace hq := if_n hc2 hq
  by_cases hc3 : p2 = 3
  · replace hq := if_y hc3 hq
    refine lv_tableIn (off := 41) (tgt := 42) hx hb dX11_doAct_1 (by rw [hc3]; decide) (by rw [hc3]; decide) (by rw [hc3]; rfl) (by decide) ?_
    refine lv_aload_n hx hb dX11_doAct_42 rfl (lv_at hl 0 rfl) ?_
    refine d_aload hx hb dX11_doAct_43 (lv_at hl 4 rfl) ?_
    refine lv_iload_n hx hb dX11_doAct_45 rfl (lv_at hl 3 rfl) ?_
    obtain ⟨hk7, hq⟩ := chk_e hq
    obtain ⟨r8, S9, C1, Z1, C2, Z2, hg, hq2, rfl, rfl⟩ := bndc_e hq
    replace hq := hq2
    clear hq2
    refine d_rv (d_runV (As := [va_rf p4, .int p3]) (rest := []) B hW hl.1 (d_recv B hW (ci := 11) rfl (dF_11 hk7) (by rw [hk7]; decide)) (c_X11_reject B.2.2.2.2.2.2.2.2.2.2 n S d p4 p3 hg) (g_V u_447 u_449 us_13 u_1 u_450) y1_X11_reject rfl ⟨Nat.le_of_ble_eq_true rfl, Nat.le_of_ble_eq_true rfl⟩ hT rfl (Nat.le_of_ble_eq_true rfl) dX11_doAct_46) hW hT (fun H locs cells slots hW hT => ?_)
    clear hg
    refine lv_goto (tgt := 61) hx hb dX11_doAct_49 (by decide) ?_
    exact d_vret B hW hq hT dX11_doAct_61
  replace hq := if_n hc3 hq
  by_cases hc4 : p2 = 4
  · replace hq := if_y hc4 hq
    refine lv_tableIn (off := 51) (tgt := 52) hx hb dX11_doAct_1 (by rw [hc4]; decide) (by rw [hc4]; decide) (by rw [hc4]; rfl) (by decide) ?_
    refine d_aload_n hx hb dX11_doAct_52 rfl (lv_at hl 1 rfl) ?_
    refine d_aload hx hb dX11_doAct_53 (lv_at hl 4 rfl) ?_
    obtain ⟨b10, hb10, hq⟩ := bnd_e hq
    refine W.eq (g2 := F0 m 55 ls [va_rf p4, .ref b10]) (by rw [hb10]; rfl) ?_
    obtain ⟨hk11, hq⟩ := chk_e hq
    refine d_put B hW (ci := 9) inT_9 tyX9 tyX9_ok nmX9 rfl (dF_9 hk11) (by rw [hk11]; decide) (by rw [hk11]; decide) 8 (by decide) u_419 (Or.inl rfl) (Or.inl rfl) (ty := (.object "PromiseDesk$Resolvers")) (tyX9_ok 8 (by decide)) rf_nO rf_fO (Nat.le_of_ble_eq_true rfl) (S1 := sP S 908 b10 p4) (ds_9_8 hk11 p4) ⟨rfl, rfl, rfl⟩ (fun b hb => dF_sP hb) dX11_doAct_55 (fun H locs hW => ?_)
    obtain ⟨S12, eS⟩ : ∃ z, z = sP S 908 b10 p4 := ⟨_, rfl⟩
    rw [← eS] at hW
    replace hq := lt9_u eS hq
    have hk13 : dK S12 b10 = 10 := by rw [eS]; exact hk11
    clear eS
    refine lv_goto (tgt := 61) hx hb dX11_doAct_58 (by decide) ?_
    exact d_vret B hW hq hT dX11_doAct_61
  replace hq := if_n hc4 hq
  have hd1 : (p2).toInt ≠ 1 := fun e9 => hc1 (Int32.toInt_inj.mp (e9.trans (by decide)))
  have hd2 : (p2).toInt ≠ 2 := fun e9 => hc2 (Int32.toInt_inj.mp (e9.trans (by decide)))
  have hd3 : (p2).toInt ≠ 3 := fun e9 => hc3 (Int32.toInt_inj.mp (e9.trans (by decide)))
  have hd4 : (p2).toInt ≠ 4 := fun e9 => hc4 (Int32.toInt_inj.mp (e9.trans (by decide)))
  refine lv_tableOut (tgt := 61) hx hb dX11_doAct_1 (by omega) (by decide) ?_
  exact d_vret B hW hq hT dX11_doAct_61
set_option maxHeartbeats 4000000 in
set_option maxRecDepth 100000 in
theorem c_X11_callThen {l : Launch} (hst : l.stackTraces = false) {D : va_G} {A : Nat → Prop} {G : DG} (n : Nat) (S : DS) (d : Nat) (p1 : Option Nat) (p2 : Option Nat) {r : Int32} {S' : DS} {TC TZ : Nat} (hq : q_X11_callThen G.2.2 n S d p1 p2 = some (r, S', TC, TZ)) : Met l yX11_callThen (wM yX11_callThen cX11_callThen 3 none) (rD 10 280 TC TZ) (va_Pc [.ref d, va_rf p1, va_rf p2] (dPre D A G S)) (dQv D A G S') TC TZ A := by
  obtain ⟨C, Z, hq, hT⟩ : ∃ C Z, q_X11_callThen G.2.2 n S d p1 p2 = some (r, S', C, Z) ∧ (0 + C = (rD 10 280 TC TZ).cells ∧ 0 + Z = (rD 10 280 TC TZ).slots) := ⟨TC, TZ, hq, Nat.zero_add _, Nat.zero_add _⟩
  refine d_head hst (by decide) (by cases p1 <;> cases p2 <;> exact Nat.le_of_ble_eq_true rfl) ?_
  intro p e s m args below meth c ls B hW hl
  have hx := B.1
  have hb := B.2.1
  have hl : lv_has ls 3 [(0, .ref d), (1, va_rf p1), (2, va_rf p2)] := by cases p1 <;> cases p2 <;> exact hl
  unfold q_X11_callThen at hq
  refine lv_aload_n hx hb dX11_callThen_0 rfl (lv_at hl 0 rfl) ?_
  refine d_aload_n hx hb dX11_callThen_1 rfl (lv_at hl 1 rfl) ?_
  obtain ⟨b1, hb1, hq⟩ := bnd_e hq
  refine W.eq (g2 := F0 m 2 ls [.ref b1, .ref d]) (by rw [hb1]; rfl) ?_
  obtain ⟨hk2, hq⟩ := chk_e hq
  refine d_get B hW (ci := 9) inT_9 rfl (dF_9 hk2) (by rw [hk2]; decide) 0 (by decide) u_213 (Or.inr u_214) (v := .int (dI S 1000 b1)) rfl dX11_callThen_2 ?_
  refine lv_iconst (v := (-1)) hx hb dX11_callThen_5 (by decide) ?_
  obtain ⟨hk3, hq⟩ := chk_e hq
  obtain ⟨r4, S5, C1, Z1, C2, Z2, hg, hq2, rfl, rfl⟩ := bndc_e hq
  replace hq := hq2
  clear hq2
  refine d_rv (d_runV (As := [.int (dI S 1000 b1), .int (-1)]) (rest := []) B hW hl.1 (d_recv B hW (ci := 11) rfl (dF_11 hk3) (by rw [hk3]; decide)) (c_X11_note B.2.2.2.2.2.2.2.2.2.2 S d (dI S 1000 b1) (-1) hg) (g_V u_764 u_756 us_33 u_1 u_757) y1_X11_note rfl ⟨Nat.le_of_ble_eq_true rfl, Nat.le_of_ble_eq_true rfl⟩ hT rfl (Nat.le_of_ble_eq_true rfl) dX11_callThen_6) hW hT (fun H locs cells slots hW hT => ?_)
  clear hg
  refine lv_aload_n hx hb dX11_callThen_9 rfl (lv_at hl 0 rfl) ?_
  refine d_aload_n hx hb dX11_callThen_10 rfl (lv_at hl 1 rfl) ?_
  refine d_aload_n hx hb dX11_callThen_11 rfl (lv_at hl 1 rfl) ?_
  refine W.eq (g2 := F0 m 12 ls [.ref b1, .ref b1, .ref d]) (by rw [hb1]; rfl) ?_
  obtain ⟨hk6, hq⟩ := chk_e hq
  refine d_get B hW (ci := 9) inT_9 rfl (dF_9 hk6) (by rw [hk6]; decide) 4 (by decide) u_415 (Or.inl rfl) (v := .int (dI S5 904 b1)) rfl dX11_callThen_12 ?_
  refine d_aload_n hx hb dX11_callThen_15 rfl (lv_at hl 1 rfl) ?_
  refine W.eq (g2 := F0 m 16 ls [.ref b1, .int (dI S5 904 b1), .ref b1, .ref d]) (by rw [hb1]; rfl) ?_
  refine d_get B hW (ci := 9) inT_9 rfl (dF_9 hk6) (by rw [hk6]; decide) 5 (by decide) u_416 (Or.inl rfl) (v := .int (dI S5 905 b1)) rfl dX11_callThen_16 ?_
  refine d_aload_n hx hb dX11_callThen_19 rfl (lv_at hl 2 rfl) ?_
  obtain ⟨hk7, hq⟩ := chk_e hq
  obtain ⟨r8, S9, C1, Z1, C2, Z2, hg, hq2, rfl, rfl⟩ := bndc_e hq
  replace hq := hq2
  clear hq2
  refine d_rv (d_runV (As := [.ref b1, .int (dI S5 904 b1), .int (dI S5 905 b1), va_rf p2]) (rest := []) B hW hl.1 (d_recv B hW (ci := 11) rfl (dF_11 hk7) (by rw [hk7]; decide)) (c_X11_doAct B.2.2.2.2.2.2.2.2.2.2 n S5 d (some b1) (dI S5 904 b1) (dI S5 905 b1) p2 hg) (g_V u_765 u_767 us_35 u_1 u_768) y1_X11_doAct rfl ⟨Nat.le_of_ble_eq_true rfl, Nat.le_of_ble_eq_true rfl⟩ hT rfl (Nat.le_of_ble_eq_true rfl) dX11_callThen_20) hW hT (fun H locs cells slots hW hT => ?_)
  clear hg
  refine d_aload_n hx hb dX11_callThen_23 rfl (lv_at hl 1 rfl) ?_
  refine W.eq (g2 := F0 m 24 ls [.ref b1]) (by rw [hb1]; rfl) ?_
  obtain ⟨hk10, hq⟩ := chk_e hq
  refine d_get B hW (ci := 9) inT_9 rfl (dF_9 hk10) (by rw [hk10]; decide) 4 (by decide) u_415 (Or.inl rfl) (v := .int (dI S9 904 b1)) rfl dX11_callThen_24 ?_
  refine lv_iconst (v := 3) hx hb dX11_callThen_27 (by decide) ?_
  refine lv_icmp_eq (tgt := 45) hx hb dX11_callThen_28 (by decide) (fun hc => ?_) (fun hc => ?_)
  · replace hq := if_y hc hq
    exact d_vret B hW hq hT dX11_callThen_45
  · replace hq := if_n hc hq
    refine lv_aload_n hx hb dX11_callThen_31 rfl (lv_at hl 0 rfl) ?_
    refine d_aload_n hx hb dX11_callThen_32 rfl (lv_at hl 1 rfl) ?_
    refine d_aload_n hx hb dX11_callThen_33 rfl (lv_at hl 1 rfl) ?_
    refine W.eq (g2 := F0 m 34 ls [.ref b1, .ref b1, .ref d]) (by rw [hb1]; rfl) ?_
    refine d_get B hW (ci := 9) inT_9 rfl (dF_9 hk10) (by rw [hk10]; decide) 6 (by decide) u_417 (Or.inl rfl) (v := .int (dI S9 906 b1)) rfl dX11_callThen_34 ?_
    refine d_aload_n hx hb dX11_callThen_37 rfl (lv_at hl 1 rfl) ?_
    refine W.eq (g2 := F0 m 38 ls [.ref b1, .int (dI S9 906 b1), .ref b1, .ref d]) (by rw [hb1]; rfl) ?_
    refine d_get B hW (ci := 9) inT_9 rfl (dF_9 hk10) (by rw [hk10]; decide) 7 (by decide) u_418 (Or.inl rfl) (v := .int (dI S9 907 b1)) rfl dX11_callThen_38 ?_
    refine d_aload_n hx hb dX11_callThen_41 rfl (lv_at hl 2 rfl) ?_
    obtain ⟨hk11, hq⟩ := chk_e hq
    obtain ⟨r12, S13, C1, Z1, C2, Z2, hg, hq2, rfl, rfl⟩ := bndc_e hq
    replace hq := hq2
    clear hq2
    refine d_rv (d_runV (As := [.ref b1, .int (dI S9 906 b1), .int (dI S9 907 b1), va_rf p2]) (rest := []) B hW hl.1 (d_recv B hW (ci := 11) rfl (dF_11 hk11) (by rw [hk11]; decide)) (c_X11_doAct B.2.2.2.2.2.2.2.2.2.2 n S9 d (some b1) (dI S9 906 b1) (dI S9 907 b1) p2 hg) (g_V u_765 u_767 us_35 u_1 u_768) y1_X11_doAct rfl ⟨Nat.le_of_ble_eq_true rfl, Nat.le_of_ble_eq_true rfl⟩ hT rfl (Nat.le_of_ble_eq_true rfl) dX11_callThen_42) hW hT (fun H locs cells slots hW hT => ?_)
    clear hg
    exact d_vret B hW hq hT dX11_callThen_45
set_option maxHeartbeats 4000000 in
set_option maxRecDepth 100000 in
theorem c_X11_finish {l : Launch} (hst : l.stackTraces = false) {D : va_G} {A : Nat → Prop} {G : DG} (n : Nat) (S : DS) (d : Nat) (p1 : Option Nat) (p2 : Int32) {r : Int32} {S' : DS} {TC TZ : Nat} (hq : q_X11_finish G.2.2 n S d p1 p2 = some (r, S', TC, TZ)) : Met l yX11_finish (wM yX11_finish cX11_finish 3 none) (rD 9 256 TC TZ) (va_Pc [.ref d, va_rf p1, .int p2] (dPre D A G S)) (dQv D A G S') TC TZ A := by
  obtain ⟨C, Z, hq, hT⟩ : ∃ C Z, q_X11_finish G.2.2 n S d p1 p2 = some (r, S', C, Z) ∧ (0 + C = (rD 9 256 TC TZ).cells ∧ 0 + Z = (rD 9 256 TC TZ).slots) := ⟨TC, TZ, hq, Nat.zero_add _, Nat.zero_add _⟩
  refine d_head hst (by decide) (by cases p1 <;> exact Nat.le_of_ble_eq_true rfl) ?_
  intro p e s m args below meth c ls B hW hl
  have hx := B.1
  have hb := B.2.1
  have hl : lv_has ls 3 [(0, .ref d), (1, va_rf p1), (2, .int p2)] := by cases p1 <;> exact hl
  unfold q_X11_finish at hq
  refine lv_aload_n hx hb dX11_finish_0 rfl (lv_at hl 0 rfl) ?_
  obtain ⟨hk1, hq⟩ := chk_e hq
  refine d_get B hW (ci := 11) inT_11 rfl (dF_11 hk1) (by rw [hk1]; decide) 9 (by decide) u_74 (Or.inl rfl) (v := .int (dI S 1109 d)) rfl dX11_finish_1 ?_
  refine lv_if_eq (tgt := 16) hx hb dX11_finish_4 (by decide) (fun hc => ?_) (fun hc => ?_)
  · replace hq := if_y hc hq
    refine lv_aload_n hx hb dX11_finish_16 rfl (lv_at hl 0 rfl) ?_
    refine d_aload_n hx hb dX11_finish_17 rfl (lv_at hl 1 rfl) ?_
    refine lv_iload_n hx hb dX11_finish_18 rfl (lv_at hl 2 rfl) ?_
    obtain ⟨r2, S3, C1, Z1, C2, Z2, hg, hq2, rfl, rfl⟩ := bndc_e hq
    replace hq := hq2
    clear hq2
    refine d_rv (d_runV (As := [va_rf p1, .int p2]) (rest := []) B hW hl.1 (d_recv B hW (ci := 11) rfl (dF_11 hk1) (by rw [hk1]; decide)) (c_X11_resolve B.2.2.2.2.2.2.2.2.2.2 n S d p1 p2 hg) (g_V u_463 u_465 us_16 u_1 u_466) y1_X11_resolve rfl ⟨Nat.le_of_ble_eq_true rfl, Nat.le_of_ble_eq_true rfl⟩ hT rfl (Nat.le_of_ble_eq_true rfl) dX11_finish_19) hW hT (fun H locs cells slots hW hT => ?_)
    clear hg
    exact d_vret B hW hq hT dX11_finish_22
  · replace hq := if_n hc hq
    refine lv_aload_n hx hb dX11_finish_7 rfl (lv_at hl 0 rfl) ?_
    refine d_aload_n hx hb dX11_finish_8 rfl (lv_at hl 1 rfl) ?_
    refine lv_iload_n hx hb dX11_finish_9 rfl (lv_at hl 2 rfl) ?_
    obtain ⟨r4, S5, C1, Z1, C2, Z2, hg, hq2, rfl, rfl⟩ := bndc_e hq
    replace hq := hq2
    clear hq2
    refine d_rv (d_runV (As := [va_rf p1, .int p2]) (rest := []) B hW hl.1 (d_recv B hW (ci := 11) rfl (dF_11 hk1) (by rw [hk1]; decide)) (c_X11_reject B.2.2.2.2.2.2.2.2.2.2 n S d p1 p2 hg) (g_V u_447 u_449 us_13 u_1 u_450) y1_X11_reject rfl ⟨Nat.le_of_ble_eq_true rfl, Nat.le_of_ble_eq_true rfl⟩ hT rfl (Nat.le_of_ble_eq_true rfl) dX11_finish_10) hW hT (fun H locs cells slots hW hT => ?_)
    clear hg
    refine lv_goto (tgt := 22) hx hb dX11_finish_13 (by decide) ?_
    exact d_vret B hW hq hT dX11_finish_22
set_option maxHeartbeats 4000000 in
set_option maxRecDepth 100000 in
theorem k_X11_hears_53 {p : Program} {l : Launch} {e : Env} {s : State} {m : MethodId} {args : Array Value} {below : List Frame} {meth : Method} {c : Code} {D : va_G} {A : Nat → Prop} {G : DG} {d : Nat} {r : Int32} {S' : DS} {TC TZ : Nat} (B : dB p l s m args meth c D A G yX11_hears.cls yX11_hears.name cX11_hears 4 (some .boolean) (Cond.code yX11_hears cX11_hears 4 (some .boolean))) :
    ∀ (n : Nat) (S : DS) (C Z : Nat), q_X11_hears_53 G.2.2 n S d = some (r, S', C, Z) → ∀ (H : Heap) (locs : List Loc) (ls : Array Slot) (cells slots : Nat), dOK D A G S s.heap H locs → lv_has ls 4 [(0, .ref d)] → cells + C = (rD 10 278 TC TZ).cells ∧ slots + Z = (rD 10 278 TC TZ).slots → W p l e (rD 10 278 TC TZ) s m args below meth c H locs cells slots (MQ below (dQi D A G r S') args s (rD 10 278 TC TZ).cells (rD 10 278 TC TZ).slots A) (F0 m 53 ls []) := by
  have hx := B.1
  have hb := B.2.1
  intro n S C Z hq H locs ls cells slots hW hl hT
  unfold q_X11_hears_53 at hq
  refine lv_aload_n hx hb dX11_hears_53 rfl (lv_at hl 0 rfl) ?_
  obtain ⟨hk8, hq⟩ := chk_e hq
  refine d_get B hW (ci := 11) inT_11 rfl (dF_11 hk8) (by rw [hk8]; decide) 9 (by decide) u_74 (Or.inl rfl) (v := .int (dI S 1109 d)) rfl dX11_hears_54 ?_
  refine lv_if_ne (tgt := 64) hx hb dX11_hears_57 (by decide) (fun hc => ?_) (fun hc => ?_)
  · replace hq := if_n hc hq
    refine lv_iconst (v := 0) hx hb dX11_hears_64 (by decide) ?_
    obtain ⟨hz, hq⟩ := chk_e hq
    exact d_zret B hW hz hq hT dX11_hears_65
  · replace hq := if_y hc hq
    refine lv_iconst (v := 1) hx hb dX11_hears_60 (by decide) ?_
    refine lv_goto (tgt := 65) hx hb dX11_hears_61 (by decide) ?_
    obtain ⟨hz, hq⟩ := chk_e hq
    exact d_zret B hW hz hq hT dX11_hears_65
set_option maxHeartbeats 4000000 in
set_option maxRecDepth 100000 in
theorem k_X11_hears_37 {p : Program} {l : Launch} {e : Env} {s : State} {m : MethodId} {args : Array Value} {below : List Frame} {meth : Method} {c : Code} {D : va_G} {A : Nat → Prop} {G : DG} {d : Nat} {r : Int32} {S' : DS} {TC TZ : Nat} (B : dB p l s m args meth c D A G yX11_hears.cls yX11_hears.name cX11_hears 4 (some .boolean) (Cond.code yX11_hears cX11_hears 4 (some .boolean))) :
    ∀ (n : Nat) (S : DS) (v1 : Option Nat) (v3 : Int32) (C Z : Nat), q_X11_hears_37 G.2.2 n S d v1 v3 = some (r, S', C, Z) → ∀ (H : Heap) (locs : List Loc) (ls : Array Slot) (cells slots : Nat), dOK D A G S s.heap H locs → lv_has ls 4 [(0, .ref d), (1, va_rf v1), (3, .int v3)] → cells + C = (rD 10 278 TC TZ).cells ∧ slots + Z = (rD 10 278 TC TZ).slots → W p l e (rD 10 278 TC TZ) s m args below meth c H locs cells slots (MQ below (dQi D A G r S') args s (rD 10 278 TC TZ).cells (rD 10 278 TC TZ).slots A) (F0 m 37 ls []) := by
  have hx := B.1
  have hb := B.2.1
  intro n S v1 v3 C Z hq H locs ls cells slots hW hl hT
  unfold q_X11_hears_37 at hq
  refine lv_aload_n hx hb dX11_hears_37 rfl (lv_at hl 0 rfl) ?_
  obtain ⟨hk7, hq⟩ := chk_e hq
  refine d_get B hW (ci := 11) inT_11 rfl (dF_11 hk7) (by rw [hk7]; decide) 9 (by decide) u_74 (Or.inl rfl) (v := .int (dI S 1109 d)) rfl dX11_hears_38 ?_
  refine lv_if_eq (tgt := 53) hx hb dX11_hears_41 (by decide) (fun hc => ?_) (fun hc => ?_)
  · replace hq := if_y hc hq
    exact k_X11_hears_53 B n S _ _ hq _ _ ls _ _ hW (lv_sub hl [0] rfl) hT
  · replace hq := if_n hc hq
    refine lv_aload_n hx hb dX11_hears_44 rfl (lv_at hl 0 rfl) ?_
    refine d_aload_n hx hb dX11_hears_45 rfl (lv_at hl 1 rfl) ?_
    obtain ⟨b9, hb9, hq⟩ := bnd_e hq
    refine W.eq (g2 := F0 m 46 ls [.ref b9, .ref d]) (by rw [hb9]; rfl) ?_
    obtain ⟨hk10, hq⟩ := chk_e hq
    refine d_get B hW (ci := 1) inT_1 rfl (dF_1 hk10) (by rw [hk10]; decide) 3 (by decide) u_706 (Or.inl rfl) (v := va_rf (dP S 103 b9)) rfl dX11_hears_46 ?_
    refine lv_iload_n hx hb dX11_hears_49 rfl (lv_at hl 2 rfl) ?_
    obtain ⟨r11, S12, C1, Z1, C2, Z2, hg, hq2, rfl, rfl⟩ := bndc_e hq
    replace hq := hq2
    clear hq2
    refine d_rv (d_runV (As := [va_rf (dP S 103 b9), .int v3]) (rest := []) B hW hl.1 (d_recv B hW (ci := 11) rfl (dF_11 hk7) (by rw [hk7]; decide)) (c_X11_reject B.2.2.2.2.2.2.2.2.2.2 n S d (dP S 103 b9) v3 hg) (g_V u_447 u_449 us_13 u_1 u_450) y1_X11_reject rfl ⟨Nat.le_of_ble_eq_true rfl, Nat.le_of_ble_eq_true rfl⟩ hT rfl (Nat.le_of_ble_eq_true rfl) dX11_hears_50) hW hT (fun H locs cells slots hW hT => ?_)
    clear hg
    exact k_X11_hears_53 B n S12 _ _ hq _ _ ls _ _ hW (lv_sub hl [0] rfl) hT
set_option maxHeartbeats 4000000 in
set_option maxRecDepth 100000 in
theorem c_X11_hears {l : Launch} (hst : l.stackTraces = false) {D : va_G} {A : Nat → Prop} {G : DG} (n : Nat) (S : DS) (d : Nat) (p1 : Option Nat) (p2 : Option Nat) {r : Int32} {S' : DS} {TC TZ : Nat} (hq : q_X11_hears G.2.2 n S d p1 p2 = some (r, S', TC, TZ)) : Met l yX11_hears (wM yX11_hears cX11_hears 4 (some .boolean)) (rD 10 278 TC TZ) (va_Pc [.ref d, va_rf p1, va_rf p2] (dPre D A G S)) (dQi D A G r S') TC TZ A := by
  obtain ⟨C, Z, hq, hT⟩ : ∃ C Z, q_X11_hears G.2.2 n S d p1 p2 = some (r, S', C, Z) ∧ (0 + C = (rD 10 278 TC TZ).cells ∧ 0 + Z = (rD 10 278 TC TZ).slots) := ⟨TC, TZ, hq, Nat.zero_add _, Nat.zero_add _⟩
  refine d_head hst (by decide) (by cases p1 <;> cases p2 <;> exact Nat.le_of_ble_eq_true rfl) ?_
  intro p e s m args below meth c ls B hW hl
  have hx := B.1
  have hb := B.2.1
  have hl : lv_has ls 4 [(0, .ref d), (1, va_rf p1), (2, va_rf p2)] := by cases p1 <;> cases p2 <;> exact hl
  unfold q_X11_hears at hq
  refine lv_aload_n hx hb dX11_hears_0 rfl (lv_at hl 0 rfl) ?_
  refine d_aload_n hx hb dX11_hears_1 rfl (lv_at hl 2 rfl) ?_
  obtain ⟨b1, hb1, hq⟩ := bnd_e hq
  refine W.eq (g2 := F0 m 2 ls [.ref b1, .ref d]) (by rw [hb1]; rfl) ?_
  obtain ⟨hk2, hq⟩ := chk_e hq
  refine d_get B hW (ci := 4) inT_4 rfl (dF_4 hk2) (by rw [hk2]; decide) 5 (by decide) u_503 (Or.inl rfl) (v := .int (dI S 405 b1)) rfl dX11_hears_2 ?_
  obtain ⟨hk3, hq⟩ := chk_e hq
  obtain ⟨hz, hq⟩ := chk_e hq
  refine d_put B hW (ci := 11) inT_11 tyX11 tyX11_ok nmX11 rfl (dF_11 hk3) (by rw [hk3]; decide) (by rw [hk3]; decide) 9 (by decide) u_74 (Or.inl rfl) (Or.inl rfl) (ty := .boolean) (tyX11_ok 9 (by decide)) (isB_narrow hz) (isB_fits hz) (Nat.le_of_ble_eq_true rfl) (S1 := sI S 1109 d (dI S 405 b1)) (ds_11_9 hk3 (dI S 405 b1)) ⟨rfl, rfl, rfl⟩ (fun b hb => dF_sI hb) dX11_hears_5 (fun H locs hW => ?_)
  obtain ⟨S4, eS⟩ : ∃ z, z = sI S 1109 d (dI S 405 b1) := ⟨_, rfl⟩
  rw [← eS] at hW
  replace hq := lt9_u eS hq
  have hk5 : dK S4 b1 = 5 := by rw [eS]; exact hk2
  have hk6 : dK S4 d = 12 := by rw [eS]; exact hk3
  clear eS
  refine d_aload_n hx hb dX11_hears_8 rfl (lv_at hl 2 rfl) ?_
  refine W.eq (g2 := F0 m 9 ls [.ref b1]) (by rw [hb1]; rfl) ?_
  refine d_get B hW (ci := 4) inT_4 rfl (dF_4 hk5) (by rw [hk5]; decide) 6 (by decide) u_505 (Or.inl rfl) (v := .int (dI S4 406 b1)) rfl dX11_hears_9 ?_
  refine e_istore_n (lv' := [(3, .int (dI S4 406 b1)), (0, .ref d), (1, va_rf p1), (2, va_rf p2)]) hx hb dX11_hears_12 rfl hl (by decide) (catc rfl (catc rf_cat (catc rf_cat catn))) rfl (fun ls hl => ?_)
  refine lv_aload_n hx hb dX11_hears_13 rfl (lv_at hl 1 rfl) ?_
  refine d_get B hW (ci := 11) inT_11 rfl (dF_11 hk6) (by rw [hk6]; decide) 9 (by decide) u_74 (Or.inl rfl) (v := .int (dI S4 1109 d)) rfl dX11_hears_14 ?_
  refine lv_if_ne (tgt := 37) hx hb dX11_hears_17 (by decide) (fun hc => ?_) (fun hc => ?_)
  · replace hq := if_n hc hq
    exact k_X11_hears_37 B n S4 p1 (dI S4 406 b1) _ _ hq _ _ ls _ _ hW (lv_sub hl [1, 2, 0] rfl) hT
  · replace hq := if_y hc hq
    refine d_aload_n hx hb dX11_hears_20 rfl (lv_at hl 2 rfl) ?_
    obtain ⟨b13, hb13, hq⟩ := bnd_e hq
    refine W.eq (g2 := F0 m 21 ls [.ref b13]) (by rw [hb13]; rfl) ?_
    obtain ⟨hk14, hq⟩ := chk_e hq
    refine d_get B hW (ci := 1) inT_1 rfl (dF_1 hk14) (by rw [hk14]; decide) 1 (by decide) u_702 (Or.inl rfl) (v := va_rf (dP S4 101 b13)) rfl dX11_hears_21 ?_
    refine d_ifnull (tgt := 37) hx hb dX11_hears_24 (by decide) (fun hc => ?_) (fun hc => ?_)
    · replace hq := if_y hc hq
      exact k_X11_hears_37 B n S4 p1 (dI S4 406 b1) _ _ hq _ _ ls _ _ hW (lv_sub hl [1, 2, 0] rfl) hT
    · replace hq := if_n hc hq
      refine d_aload_n hx hb dX11_hears_27 rfl (lv_at hl 2 rfl) ?_
      refine W.eq (g2 := F0 m 28 ls [.ref b13]) (by rw [hb13]; rfl) ?_
      refine d_get B hW (ci := 1) inT_1 rfl (dF_1 hk14) (by rw [hk14]; decide) 1 (by decide) u_702 (Or.inl rfl) (v := va_rf (dP S4 101 b13)) rfl dX11_hears_28 ?_
      refine lv_aload_n hx hb dX11_hears_31 rfl (lv_at hl 1 rfl) ?_
      refine lv_iload_n hx hb dX11_hears_32 rfl (lv_at hl 0 rfl) ?_
      obtain ⟨b15, hb15, hq⟩ := bnd_e hq
      refine W.eq (g2 := F0 m 33 ls [.int (dI S4 406 b1), .ref d, .ref b15]) (by rw [hb15]; rfl) ?_
      obtain ⟨hk16, hq⟩ := chk_e hq
      obtain ⟨r17, S18, C1, Z1, C2, Z2, hg, hq2, rfl, rfl⟩ := bndc_e hq
      replace hq := hq2
      clear hq2
      refine d_ri (d_runV (As := [.ref d, .int (dI S4 406 b1)]) (rest := []) B hW hl.1 (d_recv B hW (ci := 8) rfl (dF_8 hk16) (by rw [hk16]; decide)) (c_X8_callIn B.2.2.2.2.2.2.2.2.2.2 n S4 b15 (some d) (dI S4 406 b1) hg) (g_V u_750 u_751 u_752 u_21 u_753) y1_X8_callIn rfl ⟨Nat.le_of_ble_eq_true rfl, Nat.le_of_ble_eq_true rfl⟩ hT rfl (Nat.le_of_ble_eq_true rfl) dX11_hears_33) hW hT (fun H locs cells slots hW hT => ?_)
      clear hg
      refine e_istore_n (lv' := [(3, .int r17), (0, .ref d), (1, va_rf p1), (2, va_rf p2)]) hx hb dX11_hears_36 rfl hl (by decide) (catc rfl (catc rfl (catc rf_cat (catc rf_cat catn)))) rfl (fun ls hl => ?_)
      exact k_X11_hears_37 B n S18 p1 r17 _ _ hq _ _ ls _ _ hW (lv_sub hl [1, 2, 0] rfl) hT
