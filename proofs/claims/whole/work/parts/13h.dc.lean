set_option maxHeartbeats 4000000 in
set_option maxRecDepth 100000 in
theorem c_X11_wrap {l : Launch} (hst : l.stackTraces = false) {D : va_G} {A : Nat → Prop} {G : DG} (n : Nat) (S : DS) (d : Nat) (p1 : Int32) {k : Nat} {r : Int32} {S' : DS} {TC TZ : Nat} (hq : q_X11_wrap G.2.2 n S d p1 = some ((k, r), S', TC, TZ)) : vx_Met l yX11_wrap (wM yX11_wrap cX11_wrap 2 (some .int)) (rD 10 279 TC TZ) (va_Pc [.ref d, .int p1] (dPre D A G S)) (xQi D A G k r S') (xX D A G k S') TC TZ A := by
  obtain ⟨C, Z, hq, hT⟩ : ∃ C Z, q_X11_wrap G.2.2 n S d p1 = some ((k, r), S', C, Z) ∧ (0 + C = (rD 10 279 TC TZ).cells ∧ 0 + Z = (rD 10 279 TC TZ).slots) := ⟨TC, TZ, hq, Nat.zero_add _, Nat.zero_add _⟩
  refine x_head hst (by decide) (Nat.le_of_ble_eq_true rfl) ?_
  intro p e s m args below meth c ls B hout hW hl
  have hx := B.1
  have hb := B.2.1
  have hl : lv_has ls 2 [(0, .ref d), (1, .int p1)] := hl
  unfold q_X11_wrap at hq
  refine lv_aload_n hx hb dX11_wrap_0 rfl (lv_at hl 0 rfl) ?_
  refine lv_iload_n hx hb dX11_wrap_1 rfl (lv_at hl 1 rfl) ?_
  obtain ⟨hk1, hq⟩ := chk_e hq
  rcases bndx_e hq with ⟨r2, S3, C1, Z1, C2, Z2, hg, hq2, rfl, rfl⟩ | ⟨k9, r9, hk9, hg, e9⟩
  rotate_left
  · cases e9
    exact x_ov B hout hk9 (x_runV (As := [.int p1]) (rest := []) B hW hl.1 (d_recv B hW (ci := 11) rfl (dF_11 hk1) (by rw [hk1]; decide)) (c_X11_requireValue B.2.2.2.2.2.2.2.2.2.2 S d p1 hg) (g_V u_343 u_345 us_8 u_1 u_346) y1_X11_requireValue rfl ⟨Nat.le_of_ble_eq_true rfl, Nat.le_of_ble_eq_true rfl⟩ (C2 := 0) (Z2 := 0) ⟨hT.1, hT.2⟩ rfl (Nat.le_of_ble_eq_true rfl) dX11_wrap_2) hW hT
  replace hq := hq2
  clear hq2
  refine x_rv (x_runV (As := [.int p1]) (rest := []) B hW hl.1 (d_recv B hW (ci := 11) rfl (dF_11 hk1) (by rw [hk1]; decide)) (c_X11_requireValue B.2.2.2.2.2.2.2.2.2.2 S d p1 hg) (g_V u_343 u_345 us_8 u_1 u_346) y1_X11_requireValue rfl ⟨Nat.le_of_ble_eq_true rfl, Nat.le_of_ble_eq_true rfl⟩ hT rfl (Nat.le_of_ble_eq_true rfl) dX11_wrap_2) hW hT (fun H locs cells slots hW hT => ?_)
  clear hg
  refine lv_aload_n hx hb dX11_wrap_5 rfl (lv_at hl 0 rfl) ?_
  refine lv_bipush (v := 8) hx hb dX11_wrap_6 (by decide) ?_
  obtain ⟨hk4, hq⟩ := chk_e hq
  rcases bndx_e hq with ⟨r5, S6, C1, Z1, C2, Z2, hg, hq2, rfl, rfl⟩ | ⟨k9, r9, hk9, hg, e9⟩
  rotate_left
  · cases e9
    exact x_ov B hout hk9 (x_runV (As := [.int 8]) (rest := []) B hW hl.1 (d_recv B hW (ci := 11) rfl (dF_11 hk4) (by rw [hk4]; decide)) (c_X11_requireRoom B.2.2.2.2.2.2.2.2.2.2 S3 d 8 hg) (g_V u_110 u_112 us_0 u_1 u_113) y1_X11_requireRoom rfl ⟨Nat.le_of_ble_eq_true rfl, Nat.le_of_ble_eq_true rfl⟩ (C2 := 0) (Z2 := 0) ⟨hT.1, hT.2⟩ rfl (Nat.le_of_ble_eq_true rfl) dX11_wrap_8) hW hT
  replace hq := hq2
  clear hq2
  refine x_rv (x_runV (As := [.int 8]) (rest := []) B hW hl.1 (d_recv B hW (ci := 11) rfl (dF_11 hk4) (by rw [hk4]; decide)) (c_X11_requireRoom B.2.2.2.2.2.2.2.2.2.2 S3 d 8 hg) (g_V u_110 u_112 us_0 u_1 u_113) y1_X11_requireRoom rfl ⟨Nat.le_of_ble_eq_true rfl, Nat.le_of_ble_eq_true rfl⟩ hT rfl (Nat.le_of_ble_eq_true rfl) dX11_wrap_8) hW hT (fun H locs cells slots hW hT => ?_)
  clear hg
  refine lv_aload_n hx hb dX11_wrap_11 rfl (lv_at hl 0 rfl) ?_
  refine lv_iload_n hx hb dX11_wrap_12 rfl (lv_at hl 1 rfl) ?_
  obtain ⟨hk7, hq⟩ := chk_e hq
  obtain ⟨r8, S9, C1, Z1, C2, Z2, hg, hq2, rfl, rfl⟩ := bndc_e hq
  replace hq := hq2
  clear hq2
  refine d_rq (d_runV (As := [.int p1]) (rest := []) B hW hl.1 (d_recv B hW (ci := 11) rfl (dF_11 hk7) (by rw [hk7]; decide)) (c_X11_promiseFor B.2.2.2.2.2.2.2.2.2.2 n S6 d p1 hg) (g_V u_585 u_587 us_23 u_1 u_588) y1_X11_promiseFor rfl ⟨Nat.le_of_ble_eq_true rfl, Nat.le_of_ble_eq_true rfl⟩ hT rfl (Nat.le_of_ble_eq_true rfl) dX11_wrap_13) hW hT (fun H locs cells slots hW hT => ?_)
  clear hg
  obtain ⟨b10, hb10, hq⟩ := bnd_e hq
  refine W.eq (g2 := F0 m 16 ls [.ref b10]) (by rw [hb10]; rfl) ?_
  obtain ⟨hk11, hq⟩ := chk_e hq
  refine d_get B hW (ci := 6) inT_6 rfl (dF_6 hk11) (by rw [hk11]; decide) 0 (by decide) u_211 (Or.inr u_212) (v := .int (dI S9 1000 b10)) rfl dX11_wrap_16 ?_
  exact x_iret B hW hq hT dX11_wrap_19
set_option maxHeartbeats 4000000 in
set_option maxRecDepth 100000 in
theorem c_X11_broken {l : Launch} (hst : l.stackTraces = false) {D : va_G} {A : Nat → Prop} {G : DG} (n : Nat) (S : DS) (d : Nat) (p1 : Int32) {k : Nat} {r : Int32} {S' : DS} {TC TZ : Nat} (hq : q_X11_broken G.2.2 n S d p1 = some ((k, r), S', TC, TZ)) : vx_Met l yX11_broken (wM yX11_broken cX11_broken 3 (some .int)) (rD 8 229 TC TZ) (va_Pc [.ref d, .int p1] (dPre D A G S)) (xQi D A G k r S') (xX D A G k S') TC TZ A := by
  obtain ⟨C, Z, hq, hT⟩ : ∃ C Z, q_X11_broken G.2.2 n S d p1 = some ((k, r), S', C, Z) ∧ (0 + C = (rD 8 229 TC TZ).cells ∧ 0 + Z = (rD 8 229 TC TZ).slots) := ⟨TC, TZ, hq, Nat.zero_add _, Nat.zero_add _⟩
  refine x_head hst (by decide) (Nat.le_of_ble_eq_true rfl) ?_
  intro p e s m args below meth c ls B hout hW hl
  have hx := B.1
  have hb := B.2.1
  have hl : lv_has ls 3 [(0, .ref d), (1, .int p1)] := hl
  unfold q_X11_broken at hq
  refine lv_aload_n hx hb dX11_broken_0 rfl (lv_at hl 0 rfl) ?_
  refine lv_iload_n hx hb dX11_broken_1 rfl (lv_at hl 1 rfl) ?_
  obtain ⟨hk1, hq⟩ := chk_e hq
  rcases bndx_e hq with ⟨r2, S3, C1, Z1, C2, Z2, hg, hq2, rfl, rfl⟩ | ⟨k9, r9, hk9, hg, e9⟩
  rotate_left
  · cases e9
    exact x_ov B hout hk9 (x_runV (As := [.int p1]) (rest := []) B hW hl.1 (d_recv B hW (ci := 11) rfl (dF_11 hk1) (by rw [hk1]; decide)) (c_X11_requireValue B.2.2.2.2.2.2.2.2.2.2 S d p1 hg) (g_V u_343 u_345 us_8 u_1 u_346) y1_X11_requireValue rfl ⟨Nat.le_of_ble_eq_true rfl, Nat.le_of_ble_eq_true rfl⟩ (C2 := 0) (Z2 := 0) ⟨hT.1, hT.2⟩ rfl (Nat.le_of_ble_eq_true rfl) dX11_broken_2) hW hT
  replace hq := hq2
  clear hq2
  refine x_rv (x_runV (As := [.int p1]) (rest := []) B hW hl.1 (d_recv B hW (ci := 11) rfl (dF_11 hk1) (by rw [hk1]; decide)) (c_X11_requireValue B.2.2.2.2.2.2.2.2.2.2 S d p1 hg) (g_V u_343 u_345 us_8 u_1 u_346) y1_X11_requireValue rfl ⟨Nat.le_of_ble_eq_true rfl, Nat.le_of_ble_eq_true rfl⟩ hT rfl (Nat.le_of_ble_eq_true rfl) dX11_broken_2) hW hT (fun H locs cells slots hW hT => ?_)
  clear hg
  refine lv_aload_n hx hb dX11_broken_5 rfl (lv_at hl 0 rfl) ?_
  refine lv_bipush (v := 8) hx hb dX11_broken_6 (by decide) ?_
  obtain ⟨hk4, hq⟩ := chk_e hq
  rcases bndx_e hq with ⟨r5, S6, C1, Z1, C2, Z2, hg, hq2, rfl, rfl⟩ | ⟨k9, r9, hk9, hg, e9⟩
  rotate_left
  · cases e9
    exact x_ov B hout hk9 (x_runV (As := [.int 8]) (rest := []) B hW hl.1 (d_recv B hW (ci := 11) rfl (dF_11 hk4) (by rw [hk4]; decide)) (c_X11_requireRoom B.2.2.2.2.2.2.2.2.2.2 S3 d 8 hg) (g_V u_110 u_112 us_0 u_1 u_113) y1_X11_requireRoom rfl ⟨Nat.le_of_ble_eq_true rfl, Nat.le_of_ble_eq_true rfl⟩ (C2 := 0) (Z2 := 0) ⟨hT.1, hT.2⟩ rfl (Nat.le_of_ble_eq_true rfl) dX11_broken_8) hW hT
  replace hq := hq2
  clear hq2
  refine x_rv (x_runV (As := [.int 8]) (rest := []) B hW hl.1 (d_recv B hW (ci := 11) rfl (dF_11 hk4) (by rw [hk4]; decide)) (c_X11_requireRoom B.2.2.2.2.2.2.2.2.2.2 S3 d 8 hg) (g_V u_110 u_112 us_0 u_1 u_113) y1_X11_requireRoom rfl ⟨Nat.le_of_ble_eq_true rfl, Nat.le_of_ble_eq_true rfl⟩ hT rfl (Nat.le_of_ble_eq_true rfl) dX11_broken_8) hW hT (fun H locs cells slots hW hT => ?_)
  clear hg
  refine lv_aload_n hx hb dX11_broken_11 rfl (lv_at hl 0 rfl) ?_
  obtain ⟨hk7, hq⟩ := chk_e hq
  obtain ⟨r8, S9, C1, Z1, C2, Z2, hg, hq2, rfl, rfl⟩ := bndc_e hq
  replace hq := hq2
  clear hq2
  refine d_rq (d_runV (As := []) (rest := []) B hW hl.1 (d_recv B hW (ci := 11) rfl (dF_11 hk7) (by rw [hk7]; decide)) (c_X11_newPromise B.2.2.2.2.2.2.2.2.2.2 S6 d hg) (g_V u_185 u_187 us_2 u_1 u_188) y1_X11_newPromise rfl ⟨Nat.le_of_ble_eq_true rfl, Nat.le_of_ble_eq_true rfl⟩ hT rfl (Nat.le_of_ble_eq_true rfl) dX11_broken_12) hW hT (fun H locs cells slots hW hT => ?_)
  clear hg
  refine e_astore_n (x := r8) (lv' := [(2, va_rf r8), (0, .ref d), (1, .int p1)]) hx hb dX11_broken_15 rfl hl (by decide) (catc rfl (catc rfl catn)) rfl (fun ls hl => ?_)
  refine lv_aload_n hx hb dX11_broken_16 rfl (lv_at hl 1 rfl) ?_
  refine d_aload_n hx hb dX11_broken_17 rfl (lv_at hl 0 rfl) ?_
  refine lv_iload_n hx hb dX11_broken_18 rfl (lv_at hl 2 rfl) ?_
  obtain ⟨hk10, hq⟩ := chk_e hq
  obtain ⟨r11, S12, C1, Z1, C2, Z2, hg, hq2, rfl, rfl⟩ := bndc_e hq
  replace hq := hq2
  clear hq2
  refine d_rv (d_runV (As := [va_rf r8, .int p1]) (rest := []) B hW hl.1 (d_recv B hW (ci := 11) rfl (dF_11 hk10) (by rw [hk10]; decide)) (c_X11_reject B.2.2.2.2.2.2.2.2.2.2 n S9 d r8 p1 hg) (g_V u_447 u_449 us_13 u_1 u_450) y1_X11_reject rfl ⟨Nat.le_of_ble_eq_true rfl, Nat.le_of_ble_eq_true rfl⟩ hT rfl (Nat.le_of_ble_eq_true rfl) dX11_broken_19) hW hT (fun H locs cells slots hW hT => ?_)
  clear hg
  refine d_aload_n hx hb dX11_broken_22 rfl (lv_at hl 0 rfl) ?_
  obtain ⟨b13, hb13, hq⟩ := bnd_e hq
  refine W.eq (g2 := F0 m 23 ls [.ref b13]) (by rw [hb13]; rfl) ?_
  obtain ⟨hk14, hq⟩ := chk_e hq
  refine d_get B hW (ci := 7) inT_7 rfl (dF_7 hk14) (by rw [hk14]; decide) 0 (by decide) u_308 (Or.inl rfl) (v := va_rf (dP S12 700 b13)) rfl dX11_broken_23 ?_
  obtain ⟨b15, hb15, hq⟩ := bnd_e hq
  refine W.eq (g2 := F0 m 26 ls [.ref b15]) (by rw [hb15]; rfl) ?_
  obtain ⟨hk16, hq⟩ := chk_e hq
  refine d_get B hW (ci := 6) inT_6 rfl (dF_6 hk16) (by rw [hk16]; decide) 0 (by decide) u_211 (Or.inr u_212) (v := .int (dI S12 1000 b15)) rfl dX11_broken_26 ?_
  exact x_iret B hW hq hT dX11_broken_29
set_option maxHeartbeats 4000000 in
set_option maxRecDepth 100000 in
theorem c_X11_item {l : Launch} (hst : l.stackTraces = false) {D : va_G} {A : Nat → Prop} {G : DG} (S : DS) (d : Nat) (p1 : Int32) {k : Nat} {r : Int32} {S' : DS} {TC TZ : Nat} (hq : q_X11_item G.2.2 S d p1 = some ((k, r), S', TC, TZ)) : vx_Met l yX11_item (wM yX11_item cX11_item 2 (some .int)) (rD 7 112 TC TZ) (va_Pc [.ref d, .int p1] (dPre D A G S)) (xQi D A G k r S') (xX D A G k S') TC TZ A := by
  obtain ⟨C, Z, hq, hT⟩ : ∃ C Z, q_X11_item G.2.2 S d p1 = some ((k, r), S', C, Z) ∧ (0 + C = (rD 7 112 TC TZ).cells ∧ 0 + Z = (rD 7 112 TC TZ).slots) := ⟨TC, TZ, hq, Nat.zero_add _, Nat.zero_add _⟩
  refine x_head hst (by decide) (Nat.le_of_ble_eq_true rfl) ?_
  intro p e s m args below meth c ls B hout hW hl
  have hx := B.1
  have hb := B.2.1
  have hl : lv_has ls 2 [(0, .ref d), (1, .int p1)] := hl
  unfold q_X11_item at hq
  refine lv_aload_n hx hb dX11_item_0 rfl (lv_at hl 0 rfl) ?_
  refine lv_iload_n hx hb dX11_item_1 rfl (lv_at hl 1 rfl) ?_
  obtain ⟨hk1, hq⟩ := chk_e hq
  rcases bndx_e hq with ⟨r2, S3, C1, Z1, C2, Z2, hg, hq2, rfl, rfl⟩ | ⟨k9, r9, hk9, hg, e9⟩
  rotate_left
  · cases e9
    exact x_ov B hout hk9 (x_runV (As := [.int p1]) (rest := []) B hW hl.1 (d_recv B hW (ci := 11) rfl (dF_11 hk1) (by rw [hk1]; decide)) (c_X11_requireValue B.2.2.2.2.2.2.2.2.2.2 S d p1 hg) (g_V u_343 u_345 us_8 u_1 u_346) y1_X11_requireValue rfl ⟨Nat.le_of_ble_eq_true rfl, Nat.le_of_ble_eq_true rfl⟩ (C2 := 0) (Z2 := 0) ⟨hT.1, hT.2⟩ rfl (Nat.le_of_ble_eq_true rfl) dX11_item_2) hW hT
  replace hq := hq2
  clear hq2
  refine x_rv (x_runV (As := [.int p1]) (rest := []) B hW hl.1 (d_recv B hW (ci := 11) rfl (dF_11 hk1) (by rw [hk1]; decide)) (c_X11_requireValue B.2.2.2.2.2.2.2.2.2.2 S d p1 hg) (g_V u_343 u_345 us_8 u_1 u_346) y1_X11_requireValue rfl ⟨Nat.le_of_ble_eq_true rfl, Nat.le_of_ble_eq_true rfl⟩ hT rfl (Nat.le_of_ble_eq_true rfl) dX11_item_2) hW hT (fun H locs cells slots hW hT => ?_)
  clear hg
  refine lv_aload_n hx hb dX11_item_5 rfl (lv_at hl 0 rfl) ?_
  obtain ⟨hk4, hq⟩ := chk_e hq
  refine d_get B hW (ci := 11) inT_11 rfl (dF_11 hk4) (by rw [hk4]; decide) 3 (by decide) u_65 (Or.inl rfl) (v := .int (dI S3 1103 d)) rfl dX11_item_6 ?_
  refine lv_sipush (v := 200) hx hb dX11_item_9 (by decide) ?_
  refine lv_icmp_lt (tgt := 25) hx hb dX11_item_12 (by decide) (fun hc => ?_) (fun hc => ?_)
  · replace hq := if_y hc hq
    refine lv_aload_n hx hb dX11_item_25 rfl (lv_at hl 0 rfl) ?_
    refine d_get B hW (ci := 11) inT_11 rfl (dF_11 hk4) (by rw [hk4]; decide) 2 (by decide) u_64 (Or.inl rfl) (v := va_rf (dP S3 1102 d)) rfl dX11_item_26 ?_
    refine lv_aload_n hx hb dX11_item_29 rfl (lv_at hl 0 rfl) ?_
    refine d_get B hW (ci := 11) inT_11 rfl (dF_11 hk4) (by rw [hk4]; decide) 3 (by decide) u_65 (Or.inl rfl) (v := .int (dI S3 1103 d)) rfl dX11_item_30 ?_
    refine lv_iload_n hx hb dX11_item_33 rfl (lv_at hl 1 rfl) ?_
    obtain ⟨b5, hb5, hq⟩ := bnd_e hq
    refine W.eq (g2 := F0 m 34 ls [.int p1, .int (dI S3 1103 d), .ref b5]) (by rw [hb5]; rfl) ?_
    obtain ⟨hk6, hq⟩ := chk_e hq
    obtain ⟨hi, hq⟩ := chk_e hq
    refine d_iast B hW hk6 hi dX11_item_34 (fun H locs S7 eS hW => ?_)
    replace hq := lt9_u eS hq
    have hk8 : dK S7 d = 12 := by rw [eS]; exact hk4
    have hk9 : dK S7 b5 = 20 := by rw [eS]; exact hk6
    clear eS
    refine lv_aload_n hx hb dX11_item_35 rfl (lv_at hl 0 rfl) ?_
    refine lv_dup hx hb dX11_item_36 rfl ?_
    refine d_get B hW (ci := 11) inT_11 rfl (dF_11 hk8) (by rw [hk8]; decide) 3 (by decide) u_65 (Or.inl rfl) (v := .int (dI S7 1103 d)) rfl dX11_item_37 ?_
    refine lv_iconst (v := 1) hx hb dX11_item_40 (by decide) ?_
    refine lv_iadd hx hb dX11_item_41 ?_
    refine d_put B hW (ci := 11) inT_11 tyX11 tyX11_ok nmX11 rfl (dF_11 hk8) (by rw [hk8]; decide) (by rw [hk8]; decide) 3 (by decide) u_65 (Or.inl rfl) (Or.inl rfl) (ty := .int) (tyX11_ok 3 (by decide)) rfl rfl (Nat.le_of_ble_eq_true rfl) (S1 := sI S7 1103 d ((dI S7 1103 d) + 1)) (ds_11_3 hk8 ((dI S7 1103 d) + 1)) ⟨rfl, rfl, rfl⟩ (fun b hb => dF_sI hb) dX11_item_42 (fun H locs hW => ?_)
    obtain ⟨S10, eS⟩ : ∃ z, z = sI S7 1103 d ((dI S7 1103 d) + 1) := ⟨_, rfl⟩
    rw [← eS] at hW
    replace hq := lt9_u eS hq
    have hk11 : dK S10 d = 12 := by rw [eS]; exact hk8
    have hk12 : dK S10 b5 = 20 := by rw [eS]; exact hk9
    clear eS
    refine lv_aload_n hx hb dX11_item_45 rfl (lv_at hl 0 rfl) ?_
    refine d_get B hW (ci := 11) inT_11 rfl (dF_11 hk11) (by rw [hk11]; decide) 3 (by decide) u_65 (Or.inl rfl) (v := .int (dI S10 1103 d)) rfl dX11_item_46 ?_
    exact x_iret B hW hq hT dX11_item_49
  · replace hq := if_n hc hq
    exact x_throw B hout hW hl.1 (Or.inr ⟨rfl, rfl, rfl⟩) ut_7 ⟨Nat.le_of_ble_eq_true rfl, Nat.le_of_ble_eq_true rfl⟩ dX11_item_15 dX11_item_18 dX11_item_19 dX11_item_21 dX11_item_24 hq hT
set_option maxHeartbeats 4000000 in
set_option maxRecDepth 100000 in
theorem k_X11_onFulfilled_15 {p : Program} {l : Launch} {e : Env} {s : State} {m : MethodId} {args : Array Value} {below : List Frame} {meth : Method} {c : Code} {D : va_G} {A : Nat → Prop} {G : DG} {d : Nat} {r : Option Nat} {S' : DS} {TC TZ : Nat} (B : dB p l s m args meth c D A G yX11_onFulfilled.cls yX11_onFulfilled.name cX11_onFulfilled 3 (some (.object "PromiseDesk$Function")) (Cond.code yX11_onFulfilled cX11_onFulfilled 3 (some (.object "PromiseDesk$Function")))) :
    ∀ (S : DS) (v1 : Option Nat) (v2 : Int32) (C Z : Nat), q_X11_onFulfilled_15 G.2.2 S d v1 v2 = some (r, S', C, Z) → ∀ (H : Heap) (locs : List Loc) (ls : Array Slot) (cells slots : Nat), dOK D A G S s.heap H locs → lv_has ls 3 [(0, .ref d), (1, va_rf v1), (2, .int v2)] → cells + C = (rD 4 84 TC TZ).cells ∧ slots + Z = (rD 4 84 TC TZ).slots → W p l e (rD 4 84 TC TZ) s m args below meth c H locs cells slots (MQ below (dQq D A G r S') args s (rD 4 84 TC TZ).cells (rD 4 84 TC TZ).slots A) (F0 m 15 ls []) := by
  have hx := B.1
  have hb := B.2.1
  intro S v1 v2 C Z hq H locs ls cells slots hW hl hT
  unfold q_X11_onFulfilled_15 at hq
  obtain ⟨C1, Z1, hq2, rfl, rfl⟩ := tick_e hq
  replace hq := hq2
  clear hq2
  refine d_new B hW (ci := 3) (kd := 4) inT_3 tyX2 tyX2_ok u_654 u_655 u_26 rfl (fun j hj => by rcases (show j = 0 ∨ j = 1 ∨ j = 2 by omega) with rfl | rfl | rfl <;> rfl) dw_3 hT dX11_onFulfilled_15 (fun H cells slots q3 S4 eq eS hW hT => ?_)
  replace hq := lt9_u eq hq
  replace hq := lt9_u eS hq
  have hkq3 : dK S4 q3 = 4 := by rw [eS, eq]; exact va_up_self _ _ _
  clear eS eq
  refine lv_dup hx hb dX11_onFulfilled_18 rfl ?_
  refine d_aload_n hx hb dX11_onFulfilled_19 rfl (lv_at hl 1 rfl) ?_
  refine lv_iload_n hx hb dX11_onFulfilled_20 rfl (lv_at hl 2 rfl) ?_
  refine lv_iconst (v := 0) hx hb dX11_onFulfilled_21 (by decide) ?_
  obtain ⟨r5, S6, C1, Z1, C2, Z2, hg, hq2, rfl, rfl⟩ := bndc_e hq
  replace hq := hq2
  clear hq2
  refine d_rv (d_runI (As := [va_rf v1, .int v2, .int 0]) (rest := [.ref q3]) B hW hl.1 (c_X2_init B.2.2.2.2.2.2.2.2.2.2 S4 q3 v1 v2 0 hg) u_656 u_657 u_26 u_658 rfl y1_X2_init rfl ⟨Nat.le_of_ble_eq_true rfl, Nat.le_of_ble_eq_true rfl⟩ hT rfl (Nat.le_of_ble_eq_true rfl) dX11_onFulfilled_22) hW hT (fun H locs cells slots hW hT => ?_)
  clear hg
  exact d_aret (x := (some q3)) B (Or.inl ⟨_, rfl⟩) hW hq hT dX11_onFulfilled_25
set_option maxHeartbeats 4000000 in
set_option maxRecDepth 100000 in
theorem c_X11_onFulfilled {l : Launch} (hst : l.stackTraces = false) {D : va_G} {A : Nat → Prop} {G : DG} (S : DS) (d : Nat) (p1 : Option Nat) (p2 : Int32) {r : Option Nat} {S' : DS} {TC TZ : Nat} (hq : q_X11_onFulfilled G.2.2 S d p1 p2 = some (r, S', TC, TZ)) : Met l yX11_onFulfilled (wM yX11_onFulfilled cX11_onFulfilled 3 (some (.object "PromiseDesk$Function"))) (rD 4 84 TC TZ) (va_Pc [.ref d, va_rf p1, .int p2] (dPre D A G S)) (dQq D A G r S') TC TZ A := by
  obtain ⟨C, Z, hq, hT⟩ : ∃ C Z, q_X11_onFulfilled G.2.2 S d p1 p2 = some (r, S', C, Z) ∧ (0 + C = (rD 4 84 TC TZ).cells ∧ 0 + Z = (rD 4 84 TC TZ).slots) := ⟨TC, TZ, hq, Nat.zero_add _, Nat.zero_add _⟩
  refine d_head hst (by decide) (by cases p1 <;> exact Nat.le_of_ble_eq_true rfl) ?_
  intro p e s m args below meth c ls B hW hl
  have hx := B.1
  have hb := B.2.1
  have hl : lv_has ls 3 [(0, .ref d), (1, va_rf p1), (2, .int p2)] := by cases p1 <;> exact hl
  unfold q_X11_onFulfilled at hq
  refine d_aload_n hx hb dX11_onFulfilled_0 rfl (lv_at hl 1 rfl) ?_
  obtain ⟨b1, hb1, hq⟩ := bnd_e hq
  refine W.eq (g2 := F0 m 1 ls [.ref b1]) (by rw [hb1]; rfl) ?_
  obtain ⟨hk2, hq⟩ := chk_e hq
  refine d_get B hW (ci := 2) inT_2 rfl (dF_2 hk2) (by rw [hk2]; decide) 0 (by decide) u_633 (Or.inl rfl) (v := .int (dI S 200 b1)) rfl dX11_onFulfilled_1 ?_
  refine lv_if_eq (tgt := 15) hx hb dX11_onFulfilled_4 (by decide) (fun hc => ?_) (fun hc => ?_)
  · replace hq := if_y hc hq
    exact k_X11_onFulfilled_15 B S p1 p2 _ _ hq _ _ ls _ _ hW (lv_sub hl [0, 1, 2] rfl) hT
  · replace hq := if_n hc hq
    refine d_aload_n hx hb dX11_onFulfilled_7 rfl (lv_at hl 1 rfl) ?_
    refine W.eq (g2 := F0 m 8 ls [.ref b1]) (by rw [hb1]; rfl) ?_
    refine d_get B hW (ci := 2) inT_2 rfl (dF_2 hk2) (by rw [hk2]; decide) 0 (by decide) u_633 (Or.inl rfl) (v := .int (dI S 200 b1)) rfl dX11_onFulfilled_8 ?_
    refine lv_iconst (v := 1) hx hb dX11_onFulfilled_11 (by decide) ?_
    refine lv_icmp_ne (tgt := 26) hx hb dX11_onFulfilled_12 (by decide) (fun hc => ?_) (fun hc => ?_)
    · replace hq := if_n hc hq
      refine d_aload_n hx hb dX11_onFulfilled_26 rfl (lv_at hl 1 rfl) ?_
      refine W.eq (g2 := F0 m 27 ls [.ref b1]) (by rw [hb1]; rfl) ?_
      refine d_get B hW (ci := 2) inT_2 rfl (dF_2 hk2) (by rw [hk2]; decide) 2 (by decide) u_638 (Or.inl rfl) (v := va_rf (dP S 202 b1)) rfl dX11_onFulfilled_27 ?_
      obtain ⟨r7, S8, C1, Z1, C2, Z2, hg, hq2, rfl, rfl⟩ := bndc_e hq
      replace hq := hq2
      clear hq2
      refine d_rq (d_runS (As := [va_rf (dP S 202 b1)]) (rest := []) B hW hl.1 (c_X8_resolving B.2.2.2.2.2.2.2.2.2.2 S (dP S 202 b1) hg) (g_S u_670 u_671 u_21 u_672) y1_X8_resolving rfl ⟨Nat.le_of_ble_eq_true rfl, Nat.le_of_ble_eq_true rfl⟩ hT rfl (Nat.le_of_ble_eq_true rfl) dX11_onFulfilled_30) hW hT (fun H locs cells slots hW hT => ?_)
      clear hg
      exact d_aret (x := r7) B (Or.inl ⟨_, rfl⟩) hW hq hT dX11_onFulfilled_33
    · replace hq := if_y hc hq
      exact k_X11_onFulfilled_15 B S p1 p2 _ _ hq _ _ ls _ _ hW (lv_sub hl [0, 1, 2] rfl) hT
set_option maxHeartbeats 4000000 in
set_option maxRecDepth 100000 in
theorem k_X11_onRejected_16 {p : Program} {l : Launch} {e : Env} {s : State} {m : MethodId} {args : Array Value} {below : List Frame} {meth : Method} {c : Code} {D : va_G} {A : Nat → Prop} {G : DG} {d : Nat} {r : Option Nat} {S' : DS} {TC TZ : Nat} (B : dB p l s m args meth c D A G yX11_onRejected.cls yX11_onRejected.name cX11_onRejected 3 (some (.object "PromiseDesk$Function")) (Cond.code yX11_onRejected cX11_onRejected 3 (some (.object "PromiseDesk$Function")))) :
    ∀ (S : DS) (v1 : Option Nat) (v2 : Int32) (C Z : Nat), q_X11_onRejected_16 G.2.2 S d v1 v2 = some (r, S', C, Z) → ∀ (H : Heap) (locs : List Loc) (ls : Array Slot) (cells slots : Nat), dOK D A G S s.heap H locs → lv_has ls 3 [(0, .ref d), (1, va_rf v1), (2, .int v2)] → cells + C = (rD 4 84 TC TZ).cells ∧ slots + Z = (rD 4 84 TC TZ).slots → W p l e (rD 4 84 TC TZ) s m args below meth c H locs cells slots (MQ below (dQq D A G r S') args s (rD 4 84 TC TZ).cells (rD 4 84 TC TZ).slots A) (F0 m 16 ls []) := by
  have hx := B.1
  have hb := B.2.1
  intro S v1 v2 C Z hq H locs ls cells slots hW hl hT
  unfold q_X11_onRejected_16 at hq
  obtain ⟨C1, Z1, hq2, rfl, rfl⟩ := tick_e hq
  replace hq := hq2
  clear hq2
  refine d_new B hW (ci := 3) (kd := 4) inT_3 tyX2 tyX2_ok u_654 u_655 u_26 rfl (fun j hj => by rcases (show j = 0 ∨ j = 1 ∨ j = 2 by omega) with rfl | rfl | rfl <;> rfl) dw_3 hT dX11_onRejected_16 (fun H cells slots q3 S4 eq eS hW hT => ?_)
  replace hq := lt9_u eq hq
  replace hq := lt9_u eS hq
  have hkq3 : dK S4 q3 = 4 := by rw [eS, eq]; exact va_up_self _ _ _
  clear eS eq
  refine lv_dup hx hb dX11_onRejected_19 rfl ?_
  refine d_aload_n hx hb dX11_onRejected_20 rfl (lv_at hl 1 rfl) ?_
  refine lv_iload_n hx hb dX11_onRejected_21 rfl (lv_at hl 2 rfl) ?_
  refine lv_iconst (v := 1) hx hb dX11_onRejected_22 (by decide) ?_
  obtain ⟨r5, S6, C1, Z1, C2, Z2, hg, hq2, rfl, rfl⟩ := bndc_e hq
  replace hq := hq2
  clear hq2
  refine d_rv (d_runI (As := [va_rf v1, .int v2, .int 1]) (rest := [.ref q3]) B hW hl.1 (c_X2_init B.2.2.2.2.2.2.2.2.2.2 S4 q3 v1 v2 1 hg) u_656 u_657 u_26 u_658 rfl y1_X2_init rfl ⟨Nat.le_of_ble_eq_true rfl, Nat.le_of_ble_eq_true rfl⟩ hT rfl (Nat.le_of_ble_eq_true rfl) dX11_onRejected_23) hW hT (fun H locs cells slots hW hT => ?_)
  clear hg
  exact d_aret (x := (some q3)) B (Or.inl ⟨_, rfl⟩) hW hq hT dX11_onRejected_26
set_option maxHeartbeats 4000000 in
set_option maxRecDepth 100000 in
theorem c_X11_onRejected {l : Launch} (hst : l.stackTraces = false) {D : va_G} {A : Nat → Prop} {G : DG} (S : DS) (d : Nat) (p1 : Option Nat) (p2 : Int32) {r : Option Nat} {S' : DS} {TC TZ : Nat} (hq : q_X11_onRejected G.2.2 S d p1 p2 = some (r, S', TC, TZ)) : Met l yX11_onRejected (wM yX11_onRejected cX11_onRejected 3 (some (.object "PromiseDesk$Function"))) (rD 4 84 TC TZ) (va_Pc [.ref d, va_rf p1, .int p2] (dPre D A G S)) (dQq D A G r S') TC TZ A := by
  obtain ⟨C, Z, hq, hT⟩ : ∃ C Z, q_X11_onRejected G.2.2 S d p1 p2 = some (r, S', C, Z) ∧ (0 + C = (rD 4 84 TC TZ).cells ∧ 0 + Z = (rD 4 84 TC TZ).slots) := ⟨TC, TZ, hq, Nat.zero_add _, Nat.zero_add _⟩
  refine d_head hst (by decide) (by cases p1 <;> exact Nat.le_of_ble_eq_true rfl) ?_
  intro p e s m args below meth c ls B hW hl
  have hx := B.1
  have hb := B.2.1
  have hl : lv_has ls 3 [(0, .ref d), (1, va_rf p1), (2, .int p2)] := by cases p1 <;> exact hl
  unfold q_X11_onRejected at hq
  refine d_aload_n hx hb dX11_onRejected_0 rfl (lv_at hl 1 rfl) ?_
  obtain ⟨b1, hb1, hq⟩ := bnd_e hq
  refine W.eq (g2 := F0 m 1 ls [.ref b1]) (by rw [hb1]; rfl) ?_
  obtain ⟨hk2, hq⟩ := chk_e hq
  refine d_get B hW (ci := 2) inT_2 rfl (dF_2 hk2) (by rw [hk2]; decide) 0 (by decide) u_633 (Or.inl rfl) (v := .int (dI S 200 b1)) rfl dX11_onRejected_1 ?_
  refine lv_iconst (v := 1) hx hb dX11_onRejected_4 (by decide) ?_
  refine lv_icmp_eq (tgt := 16) hx hb dX11_onRejected_5 (by decide) (fun hc => ?_) (fun hc => ?_)
  · replace hq := if_y hc hq
    exact k_X11_onRejected_16 B S p1 p2 _ _ hq _ _ ls _ _ hW (lv_sub hl [0, 1, 2] rfl) hT
  · replace hq := if_n hc hq
    refine d_aload_n hx hb dX11_onRejected_8 rfl (lv_at hl 1 rfl) ?_
    refine W.eq (g2 := F0 m 9 ls [.ref b1]) (by rw [hb1]; rfl) ?_
    refine d_get B hW (ci := 2) inT_2 rfl (dF_2 hk2) (by rw [hk2]; decide) 0 (by decide) u_633 (Or.inl rfl) (v := .int (dI S 200 b1)) rfl dX11_onRejected_9 ?_
    refine lv_iconst (v := 2) hx hb dX11_onRejected_12 (by decide) ?_
    refine lv_icmp_ne (tgt := 27) hx hb dX11_onRejected_13 (by decide) (fun hc => ?_) (fun hc => ?_)
    · replace hq := if_n hc hq
      refine d_aload_n hx hb dX11_onRejected_27 rfl (lv_at hl 1 rfl) ?_
      refine W.eq (g2 := F0 m 28 ls [.ref b1]) (by rw [hb1]; rfl) ?_
      refine d_get B hW (ci := 2) inT_2 rfl (dF_2 hk2) (by rw [hk2]; decide) 2 (by decide) u_638 (Or.inl rfl) (v := va_rf (dP S 202 b1)) rfl dX11_onRejected_28 ?_
      obtain ⟨r7, S8, C1, Z1, C2, Z2, hg, hq2, rfl, rfl⟩ := bndc_e hq
      replace hq := hq2
      clear hq2
      refine d_rq (d_runS (As := [va_rf (dP S 202 b1)]) (rest := []) B hW hl.1 (c_X8_rejecting B.2.2.2.2.2.2.2.2.2.2 S (dP S 202 b1) hg) (g_S u_679 u_680 u_21 u_681) y1_X8_rejecting rfl ⟨Nat.le_of_ble_eq_true rfl, Nat.le_of_ble_eq_true rfl⟩ hT rfl (Nat.le_of_ble_eq_true rfl) dX11_onRejected_31) hW hT (fun H locs cells slots hW hT => ?_)
      clear hg
      exact d_aret (x := r7) B (Or.inl ⟨_, rfl⟩) hW hq hT dX11_onRejected_34
    · replace hq := if_y hc hq
      exact k_X11_onRejected_16 B S p1 p2 _ _ hq _ _ ls _ _ hW (lv_sub hl [0, 1, 2] rfl) hT
set_option maxHeartbeats 4000000 in
set_option maxRecDepth 100000 in
theorem c_X11_takeList {l : Launch} (hst : l.stackTraces = false) {D : va_G} {A : Nat → Prop} {G : DG} (S : DS) (d : Nat) {r : Option Nat} {S' : DS} {TC TZ : Nat} (hq : q_X11_takeList G.2.2 S d = some (r, S', TC, TZ)) : Met l yX11_takeList (wM yX11_takeList cX11_takeList 2 (some (.array .int))) (rD 2 82 TC TZ) (va_Pc [.ref d] (dPre D A G S)) (dQq D A G r S') TC TZ A := by
  obtain ⟨C, Z, hq, hT⟩ : ∃ C Z, q_X11_takeList G.2.2 S d = some (r, S', C, Z) ∧ (0 + C = (rD 2 82 TC TZ).cells ∧ 0 + Z = (rD 2 82 TC TZ).slots) := ⟨TC, TZ, hq, Nat.zero_add _, Nat.zero_add _⟩
  refine d_head hst (by decide) (Nat.le_of_ble_eq_true rfl) ?_
  intro p e s m args below meth c ls B hW hl
  have hx := B.1
  have hb := B.2.1
  have hl : lv_has ls 2 [(0, .ref d)] := hl
  unfold q_X11_takeList at hq
  refine lv_aload_n hx hb dX11_takeList_0 rfl (lv_at hl 0 rfl) ?_
  obtain ⟨hk1, hq⟩ := chk_e hq
  refine d_get B hW (ci := 11) inT_11 rfl (dF_11 hk1) (by rw [hk1]; decide) 2 (by decide) u_64 (Or.inl rfl) (v := va_rf (dP S 1102 d)) rfl dX11_takeList_1 ?_
  refine lv_aload_n hx hb dX11_takeList_4 rfl (lv_at hl 0 rfl) ?_
  refine d_get B hW (ci := 11) inT_11 rfl (dF_11 hk1) (by rw [hk1]; decide) 3 (by decide) u_65 (Or.inl rfl) (v := .int (dI S 1103 d)) rfl dX11_takeList_5 ?_
  obtain ⟨r2, S3, C1, Z1, C2, Z2, hg, hq2, rfl, rfl⟩ := bndc_e hq
  replace hq := hq2
  clear hq2
  refine d_rq (d_runS (As := [va_rf (dP S 1102 d), .int (dI S 1103 d)]) (rest := []) B hW hl.1 (c_J7_copyOf_59c91 B.2.2.2.2.2.2.2.2.2.2 S (dP S 1102 d) (dI S 1103 d) hg) (g_S u_615 u_616 u_14 u_617) y1_J7_copyOf_59c91 rfl ⟨Nat.le_of_ble_eq_true rfl, Nat.le_of_ble_eq_true rfl⟩ hT rfl (Nat.le_of_ble_eq_true rfl) dX11_takeList_8) hW hT (fun H locs cells slots hW hT => ?_)
  clear hg
  refine e_astore_n (x := r2) (lv' := [(1, va_rf r2), (0, .ref d)]) hx hb dX11_takeList_11 rfl hl (by decide) (catc rfl catn) rfl (fun ls hl => ?_)
  refine lv_aload_n hx hb dX11_takeList_12 rfl (lv_at hl 1 rfl) ?_
  refine lv_iconst (v := 0) hx hb dX11_takeList_13 (by decide) ?_
  obtain ⟨hk4, hq⟩ := chk_e hq
  refine d_put B hW (ci := 11) inT_11 tyX11 tyX11_ok nmX11 rfl (dF_11 hk4) (by rw [hk4]; decide) (by rw [hk4]; decide) 3 (by decide) u_65 (Or.inl rfl) (Or.inl rfl) (ty := .int) (tyX11_ok 3 (by decide)) rfl rfl (Nat.le_of_ble_eq_true rfl) (S1 := sI S3 1103 d 0) (ds_11_3 hk4 0) ⟨rfl, rfl, rfl⟩ (fun b hb => dF_sI hb) dX11_takeList_14 (fun H locs hW => ?_)
  obtain ⟨S5, eS⟩ : ∃ z, z = sI S3 1103 d 0 := ⟨_, rfl⟩
  rw [← eS] at hW
  replace hq := lt9_u eS hq
  have hk6 : dK S5 d = 12 := by rw [eS]; exact hk4
  clear eS
  refine d_aload_n hx hb dX11_takeList_17 rfl (lv_at hl 0 rfl) ?_
  exact d_aret (x := r2) B (Or.inr ⟨_, rfl⟩) hW hq hT dX11_takeList_18
set_option maxHeartbeats 4000000 in
set_option maxRecDepth 100000 in
theorem k_X11_combine_46 {p : Program} {l : Launch} {e : Env} {s : State} {m : MethodId} {args : Array Value} {below : List Frame} {meth : Method} {c : Code} {D : va_G} {A : Nat → Prop} {G : DG} {d : Nat} {k : Nat} {r : Int32} {S' : DS} {TC TZ : Nat} (B : dB p l s m args meth c D A G yX11_combine.cls yX11_combine.name cX11_combine 7 (some .int) (Cond.code yX11_combine cX11_combine 7 (some .int))) (hout : ∀ x ∈ c.exceptionTable.toList, False) :
    ∀ (n : Nat) (S : DS) (v1 : Int32) (v2 : Option Nat) (v3 : Option Nat) (v4 : Option Nat) (v5 : Int32) (C Z : Nat), q_X11_combine_46 G.2.2 d n S v1 v2 v3 v4 v5 = some ((k, r), S', C, Z) → ∀ (H : Heap) (locs : List Loc) (ls : Array Slot) (cells slots : Nat), dOK D A G S s.heap H locs → lv_has ls 7 [(0, .ref d), (1, .int v1), (2, va_rf v2), (3, va_rf v3), (4, va_rf v4), (5, .int v5)] → cells + C = (rD 10 279 TC TZ).cells ∧ slots + Z = (rD 10 279 TC TZ).slots → W p l e (rD 10 279 TC TZ) s m args below meth c H locs cells slots (vx_MQ below (xQi D A G k r S') (xX D A G k S') args s (rD 10 279 TC TZ).cells (rD 10 279 TC TZ).slots A) (F0 m 46 ls []) := by
  have hx := B.1
  have hb := B.2.1
  intro n
  induction n with
  | zero => intro S v1 v2 v3 v4 v5 C Z hq; cases hq
  | succ n ih =>
    intro S v1 v2 v3 v4 v5 C Z hq H locs ls cells slots hW hl hT
    replace hq : (bnd v2 (fun b19 => chk (dK S b19 = 20 ∨ dK S b19 = 21) (if (nI (dL S b19)) ≤ v5 then if (nI (dL S b19)) = 0 then if v1 = 3 then bnd v3 (fun b25 => chk (dK S b25 = 8) (bnd (dP S 700 b25) (fun b27 => chk (dK S b27 = 7) (some ((0, dI S 1000 b27), S, 0, 0))))) else chk (dK S d = 12) (bndc (q_X11_complete G.2.2 n S d v4) (fun r30 S31 => bnd v3 (fun b32 => chk (dK S31 b32 = 8) (bnd (dP S31 700 b32) (fun b34 => chk (dK S31 b34 = 7) (some ((0, dI S31 1000 b34), S31, 0, 0))))))) else bnd v3 (fun b21 => chk (dK S b21 = 8) (bnd (dP S 700 b21) (fun b23 => chk (dK S b23 = 7) (some ((0, dI S 1000 b23), S, 0, 0))))) else chk (dK S b19 = 20) (chk (inb v5 (dL S b19)) (chk (dK S d = 12) (bndc (q_X11_promiseFor G.2.2 n S d (dX S b19 v5.toNatClampNeg)) (fun r38 S39 => chk (dK S39 d = 12) (bndc (q_X11_onFulfilled G.2.2 S39 d v4 v5) (fun r41 S42 => chk (dK S42 d = 12) (bndc (q_X11_onRejected G.2.2 S42 d v4 v5) (fun r44 S45 => chk (dK S45 d = 12) (bndc (q_X11_derive G.2.2 S45 d r38 r41 r44) (fun r47 S48 => q_X11_combine_46 G.2.2 d n S48 v1 v2 v3 v4 (v5 + 1)))))))))))))) = some ((k, r), S', C, Z) := hq
    refine lv_iload hx hb dX11_combine_46 (lv_at hl 5 rfl) ?_
    refine d_aload_n hx hb dX11_combine_48 rfl (lv_at hl 2 rfl) ?_
    obtain ⟨b19, hb19, hq⟩ := bnd_e hq
    refine W.eq (g2 := F0 m 49 ls [.ref b19, .int v5]) (by rw [hb19]; rfl) ?_
    obtain ⟨hk20, hq⟩ := chk_e hq
    refine d_alen B hW hk20 dX11_combine_49 ?_
    refine lv_icmp_ge (tgt := 92) hx hb dX11_combine_50 (by decide) (fun hc => ?_) (fun hc => ?_)
    · replace hq := if_y hc hq
      refine d_aload_n hx hb dX11_combine_92 rfl (lv_at hl 2 rfl) ?_
      refine W.eq (g2 := F0 m 93 ls [.ref b19]) (by rw [hb19]; rfl) ?_
      refine d_alen B hW hk20 dX11_combine_93 ?_
      refine lv_if_ne (tgt := 108) hx hb dX11_combine_94 (by decide) (fun hc => ?_) (fun hc => ?_)
      · replace hq := if_n hc hq
        refine d_aload_n hx hb dX11_combine_108 rfl (lv_at hl 3 rfl) ?_
        obtain ⟨b21, hb21, hq⟩ := bnd_e hq
        refine W.eq (g2 := F0 m 109 ls [.ref b21]) (by rw [hb21]; rfl) ?_
        obtain ⟨hk22, hq⟩ := chk_e hq
        refine d_get B hW (ci := 7) inT_7 rfl (dF_7 hk22) (by rw [hk22]; decide) 0 (by decide) u_308 (Or.inl rfl) (v := va_rf (dP S 700 b21)) rfl dX11_combine_109 ?_
        obtain ⟨b23, hb23, hq⟩ := bnd_e hq
        refine W.eq (g2 := F0 m 112 ls [.ref b23]) (by rw [hb23]; rfl) ?_
        obtain ⟨hk24, hq⟩ := chk_e hq
        refine d_get B hW (ci := 6) inT_6 rfl (dF_6 hk24) (by rw [hk24]; decide) 0 (by decide) u_211 (Or.inr u_212) (v := .int (dI S 1000 b23)) rfl dX11_combine_112 ?_
        exact x_iret B hW hq hT dX11_combine_115
      · replace hq := if_y hc hq
        refine lv_iload_n hx hb dX11_combine_97 rfl (lv_at hl 1 rfl) ?_
        refine lv_iconst (v := 3) hx hb dX11_combine_98 (by decide) ?_
        refine lv_icmp_eq (tgt := 108) hx hb dX11_combine_99 (by decide) (fun hc => ?_) (fun hc => ?_)
        · replace hq := if_y hc hq
          refine d_aload_n hx hb dX11_combine_108 rfl (lv_at hl 3 rfl) ?_
          obtain ⟨b25, hb25, hq⟩ := bnd_e hq
          refine W.eq (g2 := F0 m 109 ls [.ref b25]) (by rw [hb25]; rfl) ?_
          obtain ⟨hk26, hq⟩ := chk_e hq
          refine d_get B hW (ci := 7) inT_7 rfl (dF_7 hk26) (by rw [hk26]; decide) 0 (by decide) u_308 (Or.inl rfl) (v := va_rf (dP S 700 b25)) rfl dX11_combine_109 ?_
          obtain ⟨b27, hb27, hq⟩ := bnd_e hq
          refine W.eq (g2 := F0 m 112 ls [.ref b27]) (by rw [hb27]; rfl) ?_
          obtain ⟨hk28, hq⟩ := chk_e hq
          refine d_get B hW (ci := 6) inT_6 rfl (dF_6 hk28) (by rw [hk28]; decide) 0 (by decide) u_211 (Or.inr u_212) (v := .int (dI S 1000 b27)) rfl dX11_combine_112 ?_
          exact x_iret B hW hq hT dX11_combine_115
        · replace hq := if_n hc hq
          refine lv_aload_n hx hb dX11_combine_102 rfl (lv_at hl 0 rfl) ?_
          refine d_aload hx hb dX11_combine_103 (lv_at hl 4 rfl) ?_
          obtain ⟨hk29, hq⟩ := chk_e hq
          obtain ⟨r30, S31, C1, Z1, C2, Z2, hg, hq2, rfl, rfl⟩ := bndc_e hq
          replace hq := hq2
          clear hq2
          refine d_rv (d_runV (As := [va_rf v4]) (rest := []) B hW hl.1 (d_recv B hW (ci := 11) rfl (dF_11 hk29) (by rw [hk29]; decide)) (c_X11_complete B.2.2.2.2.2.2.2.2.2.2 n S d v4 hg) (g_V u_682 u_684 us_27 u_1 u_685) y1_X11_complete rfl ⟨Nat.le_of_ble_eq_true rfl, Nat.le_of_ble_eq_true rfl⟩ hT rfl (Nat.le_of_ble_eq_true rfl) dX11_combine_105) hW hT (fun H locs cells slots hW hT => ?_)
          clear hg
          refine d_aload_n hx hb dX11_combine_108 rfl (lv_at hl 3 rfl) ?_
          obtain ⟨b32, hb32, hq⟩ := bnd_e hq
          refine W.eq (g2 := F0 m 109 ls [.ref b32]) (by rw [hb32]; rfl) ?_
          obtain ⟨hk33, hq⟩ := chk_e hq
          refine d_get B hW (ci := 7) inT_7 rfl (dF_7 hk33) (by rw [hk33]; decide) 0 (by decide) u_308 (Or.inl rfl) (v := va_rf (dP S31 700 b32)) rfl dX11_combine_109 ?_
          obtain ⟨b34, hb34, hq⟩ := bnd_e hq
          refine W.eq (g2 := F0 m 112 ls [.ref b34]) (by rw [hb34]; rfl) ?_
          obtain ⟨hk35, hq⟩ := chk_e hq
          refine d_get B hW (ci := 6) inT_6 rfl (dF_6 hk35) (by rw [hk35]; decide) 0 (by decide) u_211 (Or.inr u_212) (v := .int (dI S31 1000 b34)) rfl dX11_combine_112 ?_
          exact x_iret B hW hq hT dX11_combine_115
    · replace hq := if_n hc hq
      refine lv_aload_n hx hb dX11_combine_53 rfl (lv_at hl 0 rfl) ?_
      refine d_aload_n hx hb dX11_combine_54 rfl (lv_at hl 2 rfl) ?_
      refine lv_iload hx hb dX11_combine_55 (lv_at hl 5 rfl) ?_
      refine W.eq (g2 := F0 m 57 ls [.int v5, .ref b19, .ref d]) (by rw [hb19]; rfl) ?_
      obtain ⟨hk36, hq⟩ := chk_e hq
      obtain ⟨hi, hq⟩ := chk_e hq
      refine d_iald B hW hk36 hi dX11_combine_57 ?_
      obtain ⟨hk37, hq⟩ := chk_e hq
      obtain ⟨r38, S39, C1, Z1, C2, Z2, hg, hq2, rfl, rfl⟩ := bndc_e hq
      replace hq := hq2
      clear hq2
      refine d_rq (d_runV (As := [.int (dX S b19 v5.toNatClampNeg)]) (rest := []) B hW hl.1 (d_recv B hW (ci := 11) rfl (dF_11 hk37) (by rw [hk37]; decide)) (c_X11_promiseFor B.2.2.2.2.2.2.2.2.2.2 n S d (dX S b19 v5.toNatClampNeg) hg) (g_V u_585 u_587 us_23 u_1 u_588) y1_X11_promiseFor rfl ⟨Nat.le_of_ble_eq_true rfl, Nat.le_of_ble_eq_true rfl⟩ hT rfl (Nat.le_of_ble_eq_true rfl) dX11_combine_58) hW hT (fun H locs cells slots hW hT => ?_)
      clear hg
      refine e_astore (x := r38) (lv' := [(6, va_rf r38), (0, .ref d), (1, .int v1), (2, va_rf v2), (3, va_rf v3), (4, va_rf v4), (5, .int v5)]) hx hb dX11_combine_61 hl (by decide) (catc rfl (catc rfl (catc rf_cat (catc rf_cat (catc rf_cat (catc rfl catn)))))) rfl (fun ls hl => ?_)
      refine lv_aload_n hx hb dX11_combine_63 rfl (lv_at hl 1 rfl) ?_
      refine d_aload hx hb dX11_combine_64 (lv_at hl 0 rfl) ?_
      refine lv_aload_n hx hb dX11_combine_66 rfl (lv_at hl 1 rfl) ?_
      refine d_aload hx hb dX11_combine_67 (lv_at hl 5 rfl) ?_
      refine lv_iload hx hb dX11_combine_69 (lv_at hl 6 rfl) ?_
      obtain ⟨hk40, hq⟩ := chk_e hq
      obtain ⟨r41, S42, C1, Z1, C2, Z2, hg, hq2, rfl, rfl⟩ := bndc_e hq
      replace hq := hq2
      clear hq2
      refine d_rq (d_runV (As := [va_rf v4, .int v5]) (rest := [va_rf r38, .ref d]) B hW hl.1 (d_recv B hW (ci := 11) rfl (dF_11 hk40) (by rw [hk40]; decide)) (c_X11_onFulfilled B.2.2.2.2.2.2.2.2.2.2 S39 d v4 v5 hg) (g_V u_650 u_652 us_25 u_1 u_653) y1_X11_onFulfilled rfl ⟨Nat.le_of_ble_eq_true rfl, Nat.le_of_ble_eq_true rfl⟩ hT rfl (cat8 (vcc rf_cat (vcc rfl vcn)) (Nat.le_of_ble_eq_true rfl)) dX11_combine_71) hW hT (fun H locs cells slots hW hT => ?_)
      clear hg
      refine lv_aload_n hx hb dX11_combine_74 rfl (lv_at hl 1 rfl) ?_
      refine d_aload hx hb dX11_combine_75 (lv_at hl 5 rfl) ?_
      refine lv_iload hx hb dX11_combine_77 (lv_at hl 6 rfl) ?_
      obtain ⟨hk43, hq⟩ := chk_e hq
      obtain ⟨r44, S45, C1, Z1, C2, Z2, hg, hq2, rfl, rfl⟩ := bndc_e hq
      replace hq := hq2
      clear hq2
      refine d_rq (d_runV (As := [va_rf v4, .int v5]) (rest := [va_rf r41, va_rf r38, .ref d]) B hW hl.1 (d_recv B hW (ci := 11) rfl (dF_11 hk43) (by rw [hk43]; decide)) (c_X11_onRejected B.2.2.2.2.2.2.2.2.2.2 S42 d v4 v5 hg) (g_V u_675 u_677 us_26 u_1 u_678) y1_X11_onRejected rfl ⟨Nat.le_of_ble_eq_true rfl, Nat.le_of_ble_eq_true rfl⟩ hT rfl (cat8 (vcc rf_cat (vcc rf_cat (vcc rfl vcn))) (Nat.le_of_ble_eq_true rfl)) dX11_combine_79) hW hT (fun H locs cells slots hW hT => ?_)
      clear hg
      obtain ⟨hk46, hq⟩ := chk_e hq
      obtain ⟨r47, S48, C1, Z1, C2, Z2, hg, hq2, rfl, rfl⟩ := bndc_e hq
      replace hq := hq2
      clear hq2
      refine d_ri (d_runV (As := [va_rf r38, va_rf r41, va_rf r44]) (rest := []) B hW hl.1 (d_recv B hW (ci := 11) rfl (dF_11 hk46) (by rw [hk46]; decide)) (c_X11_derive B.2.2.2.2.2.2.2.2.2.2 S45 d r38 r41 r44 hg) (g_V u_547 u_549 us_21 u_1 u_550) y1_X11_derive rfl ⟨Nat.le_of_ble_eq_true rfl, Nat.le_of_ble_eq_true rfl⟩ hT rfl (Nat.le_of_ble_eq_true rfl) dX11_combine_82) hW hT (fun H locs cells slots hW hT => ?_)
      clear hg
      refine lv_pop hx hb dX11_combine_85 rfl ?_
      refine e_iinc (v := v5 + 1) (lv' := [(5, .int (v5 + 1)), (6, va_rf r38), (0, .ref d), (1, .int v1), (2, va_rf v2), (3, va_rf v3), (4, va_rf v4)]) hx hb dX11_combine_86 hl (k := 6) rfl rfl (by decide) (catc rf_cat (catc rfl (catc rfl (catc rf_cat (catc rf_cat (catc rf_cat (catc rfl catn))))))) rfl (fun ls hl => ?_)
      refine lv_goto (tgt := 46) hx hb dX11_combine_89 (by decide) ?_
      exact ih S48 v1 v2 v3 v4 (v5 + 1) _ _ hq _ _ ls _ _ hW (lv_sub hl [2, 3, 4, 5, 6, 0] rfl) hT
set_option maxHeartbeats 4000000 in
set_option maxRecDepth 100000 in
theorem c_X11_combine {l : Launch} (hst : l.stackTraces = false) {D : va_G} {A : Nat → Prop} {G : DG} (n : Nat) (S : DS) (d : Nat) (p1 : Int32) {k : Nat} {r : Int32} {S' : DS} {TC TZ : Nat} (hq : q_X11_combine G.2.2 n S d p1 = some ((k, r), S', TC, TZ)) : vx_Met l yX11_combine (wM yX11_combine cX11_combine 7 (some .int)) (rD 10 279 TC TZ) (va_Pc [.ref d, .int p1] (dPre D A G S)) (xQi D A G k r S') (xX D A G k S') TC TZ A := by
  obtain ⟨C, Z, hq, hT⟩ : ∃ C Z, q_X11_combine G.2.2 n S d p1 = some ((k, r), S', C, Z) ∧ (0 + C = (rD 10 279 TC TZ).cells ∧ 0 + Z = (rD 10 279 TC TZ).slots) := ⟨TC, TZ, hq, Nat.zero_add _, Nat.zero_add _⟩
  refine x_head hst (by decide) (Nat.le_of_ble_eq_true rfl) ?_
  intro p e s m args below meth c ls B hout hW hl
  have hx := B.1
  have hb := B.2.1
  have hl : lv_has ls 7 [(0, .ref d), (1, .int p1)] := hl
  unfold q_X11_combine at hq
  refine lv_aload_n hx hb dX11_combine_0 rfl (lv_at hl 0 rfl) ?_
  refine lv_iload_n hx hb dX11_combine_1 rfl (lv_at hl 1 rfl) ?_
  refine lv_iconst (v := 0) hx hb dX11_combine_2 (by decide) ?_
  refine lv_iconst (v := 3) hx hb dX11_combine_3 (by decide) ?_
  obtain ⟨hk1, hq⟩ := chk_e hq
  rcases bndx_e hq with ⟨r2, S3, C1, Z1, C2, Z2, hg, hq2, rfl, rfl⟩ | ⟨k9, r9, hk9, hg, e9⟩
  rotate_left
  · cases e9
    exact x_ov B hout hk9 (x_runV (As := [.int p1, .int 0, .int 3]) (rest := []) B hW hl.1 (d_recv B hW (ci := 11) rfl (dF_11 hk1) (by rw [hk1]; decide)) (c_X11_requireRange B.2.2.2.2.2.2.2.2.2.2 S d p1 0 3 hg) (g_V u_323 u_325 us_7 u_1 u_326) y1_X11_requireRange rfl ⟨Nat.le_of_ble_eq_true rfl, Nat.le_of_ble_eq_true rfl⟩ (C2 := 0) (Z2 := 0) ⟨hT.1, hT.2⟩ rfl (Nat.le_of_ble_eq_true rfl) dX11_combine_4) hW hT
  replace hq := hq2
  clear hq2
  refine x_rv (x_runV (As := [.int p1, .int 0, .int 3]) (rest := []) B hW hl.1 (d_recv B hW (ci := 11) rfl (dF_11 hk1) (by rw [hk1]; decide)) (c_X11_requireRange B.2.2.2.2.2.2.2.2.2.2 S d p1 0 3 hg) (g_V u_323 u_325 us_7 u_1 u_326) y1_X11_requireRange rfl ⟨Nat.le_of_ble_eq_true rfl, Nat.le_of_ble_eq_true rfl⟩ hT rfl (Nat.le_of_ble_eq_true rfl) dX11_combine_4) hW hT (fun H locs cells slots hW hT => ?_)
  clear hg
  refine lv_aload_n hx hb dX11_combine_7 rfl (lv_at hl 0 rfl) ?_
  refine lv_bipush (v := 8) hx hb dX11_combine_8 (by decide) ?_
  refine lv_iconst (v := 2) hx hb dX11_combine_10 (by decide) ?_
  refine lv_aload_n hx hb dX11_combine_11 rfl (lv_at hl 0 rfl) ?_
  obtain ⟨hk4, hq⟩ := chk_e hq
  refine d_get B hW (ci := 11) inT_11 rfl (dF_11 hk4) (by rw [hk4]; decide) 3 (by decide) u_65 (Or.inl rfl) (v := .int (dI S3 1103 d)) rfl dX11_combine_12 ?_
  refine lv_imul hx hb dX11_combine_15 ?_
  refine lv_iadd hx hb dX11_combine_16 ?_
  rcases bndx_e hq with ⟨r5, S6, C1, Z1, C2, Z2, hg, hq2, rfl, rfl⟩ | ⟨k9, r9, hk9, hg, e9⟩
  rotate_left
  · cases e9
    exact x_ov B hout hk9 (x_runV (As := [.int (8 + (2 * (dI S3 1103 d)))]) (rest := []) B hW hl.1 (d_recv B hW (ci := 11) rfl (dF_11 hk4) (by rw [hk4]; decide)) (c_X11_requireRoom B.2.2.2.2.2.2.2.2.2.2 S3 d (8 + (2 * (dI S3 1103 d))) hg) (g_V u_110 u_112 us_0 u_1 u_113) y1_X11_requireRoom rfl ⟨Nat.le_of_ble_eq_true rfl, Nat.le_of_ble_eq_true rfl⟩ (C2 := 0) (Z2 := 0) ⟨hT.1, hT.2⟩ rfl (Nat.le_of_ble_eq_true rfl) dX11_combine_17) hW hT
  replace hq := hq2
  clear hq2
  refine x_rv (x_runV (As := [.int (8 + (2 * (dI S3 1103 d)))]) (rest := []) B hW hl.1 (d_recv B hW (ci := 11) rfl (dF_11 hk4) (by rw [hk4]; decide)) (c_X11_requireRoom B.2.2.2.2.2.2.2.2.2.2 S3 d (8 + (2 * (dI S3 1103 d))) hg) (g_V u_110 u_112 us_0 u_1 u_113) y1_X11_requireRoom rfl ⟨Nat.le_of_ble_eq_true rfl, Nat.le_of_ble_eq_true rfl⟩ hT rfl (Nat.le_of_ble_eq_true rfl) dX11_combine_17) hW hT (fun H locs cells slots hW hT => ?_)
  clear hg
  refine lv_aload_n hx hb dX11_combine_20 rfl (lv_at hl 0 rfl) ?_
  obtain ⟨hk7, hq⟩ := chk_e hq
  obtain ⟨r8, S9, C1, Z1, C2, Z2, hg, hq2, rfl, rfl⟩ := bndc_e hq
  replace hq := hq2
  clear hq2
  refine d_rq (d_runV (As := []) (rest := []) B hW hl.1 (d_recv B hW (ci := 11) rfl (dF_11 hk7) (by rw [hk7]; decide)) (c_X11_takeList B.2.2.2.2.2.2.2.2.2.2 S6 d hg) (g_V u_611 u_613 us_24 u_1 u_614) y1_X11_takeList rfl ⟨Nat.le_of_ble_eq_true rfl, Nat.le_of_ble_eq_true rfl⟩ hT rfl (Nat.le_of_ble_eq_true rfl) dX11_combine_21) hW hT (fun H locs cells slots hW hT => ?_)
  clear hg
  refine e_astore_n (x := r8) (lv' := [(2, va_rf r8), (0, .ref d), (1, .int p1)]) hx hb dX11_combine_24 rfl hl (by decide) (catc rfl (catc rfl catn)) rfl (fun ls hl => ?_)
  refine lv_aload_n hx hb dX11_combine_25 rfl (lv_at hl 1 rfl) ?_
  obtain ⟨hk10, hq⟩ := chk_e hq
  obtain ⟨r11, S12, C1, Z1, C2, Z2, hg, hq2, rfl, rfl⟩ := bndc_e hq
  replace hq := hq2
  clear hq2
  refine d_rq (d_runV (As := []) (rest := []) B hW hl.1 (d_recv B hW (ci := 11) rfl (dF_11 hk10) (by rw [hk10]; decide)) (c_X11_newPromise B.2.2.2.2.2.2.2.2.2.2 S9 d hg) (g_V u_185 u_187 us_2 u_1 u_188) y1_X11_newPromise rfl ⟨Nat.le_of_ble_eq_true rfl, Nat.le_of_ble_eq_true rfl⟩ hT rfl (Nat.le_of_ble_eq_true rfl) dX11_combine_26) hW hT (fun H locs cells slots hW hT => ?_)
  clear hg
  refine e_astore_n (x := r11) (lv' := [(3, va_rf r11), (2, va_rf r8), (0, .ref d), (1, .int p1)]) hx hb dX11_combine_29 rfl hl (by decide) (catc rf_cat (catc rfl (catc rfl catn))) rfl (fun ls hl => ?_)
  obtain ⟨C1, Z1, hq2, rfl, rfl⟩ := tick_e hq
  replace hq := hq2
  clear hq2
  refine d_new B hW (ci := 2) (kd := 3) inT_2 tyX1 tyX1_ok u_625 u_626 u_25 rfl (fun j hj => by rcases (show j = 0 ∨ j = 1 ∨ j = 2 ∨ j = 3 by omega) with rfl | rfl | rfl | rfl <;> rfl) dw_2 hT dX11_combine_30 (fun H cells slots q13 S14 eq eS hW hT => ?_)
  replace hq := lt9_u eq hq
  replace hq := lt9_u eS hq
  have hkq13 : dK S14 q13 = 3 := by rw [eS, eq]; exact va_up_self _ _ _
  clear eS eq
  refine lv_dup hx hb dX11_combine_33 rfl ?_
  refine lv_iload_n hx hb dX11_combine_34 rfl (lv_at hl 3 rfl) ?_
  refine d_aload_n hx hb dX11_combine_35 rfl (lv_at hl 1 rfl) ?_
  obtain ⟨b15, hb15, hq⟩ := bnd_e hq
  refine W.eq (g2 := F0 m 36 ls [.ref b15, .int p1, .ref q13, .ref q13]) (by rw [hb15]; rfl) ?_
  obtain ⟨hk16, hq⟩ := chk_e hq
  refine d_alen B hW hk16 dX11_combine_36 ?_
  refine d_aload_n hx hb dX11_combine_37 rfl (lv_at hl 0 rfl) ?_
  obtain ⟨r17, S18, C1, Z1, C2, Z2, hg, hq2, rfl, rfl⟩ := bndc_e hq
  replace hq := hq2
  clear hq2
  refine d_rv (d_runI (As := [.int p1, .int (nI (dL S14 b15)), va_rf r11]) (rest := [.ref q13]) B hW hl.1 (c_X1_init B.2.2.2.2.2.2.2.2.2.2 S14 q13 p1 (nI (dL S14 b15)) r11 hg) u_627 u_628 u_25 u_629 rfl y1_X1_init rfl ⟨Nat.le_of_ble_eq_true rfl, Nat.le_of_ble_eq_true rfl⟩ hT rfl (Nat.le_of_ble_eq_true rfl) dX11_combine_38) hW hT (fun H locs cells slots hW hT => ?_)
  clear hg
  refine e_astore (x := (some q13)) (lv' := [(4, .ref q13), (3, va_rf r11), (2, va_rf r8), (0, .ref d), (1, .int p1)]) hx hb dX11_combine_41 hl (by decide) (catc rf_cat (catc rf_cat (catc rfl (catc rfl catn)))) rfl (fun ls hl => ?_)
  refine lv_iconst (v := 0) hx hb dX11_combine_43 (by decide) ?_
  refine e_istore (lv' := [(5, .int 0), (4, .ref q13), (3, va_rf r11), (2, va_rf r8), (0, .ref d), (1, .int p1)]) hx hb dX11_combine_44 hl (by decide) (catc rfl (catc rf_cat (catc rf_cat (catc rfl (catc rfl catn))))) rfl (fun ls hl => ?_)
  exact k_X11_combine_46 B hout n S18 p1 r8 r11 (some q13) 0 _ _ hq _ _ ls _ _ hW (lv_sub hl [4, 5, 3, 2, 1, 0] rfl) hT
