set_option maxHeartbeats 4000000 in
set_option maxRecDepth 100000 in
theorem c_X11_requireParts {l : Launch} (hst : l.stackTraces = false) {D : va_G} {A : Nat → Prop} {G : DG} (S : DS) (d : Nat) (p1 : Int32) {k : Nat} {r : Option Nat} {S' : DS} {TC TZ : Nat} (hq : q_X11_requireParts G.2.2 S d p1 = some ((k, r), S', TC, TZ)) : vx_Met l yX11_requireParts (wM yX11_requireParts cX11_requireParts 3 (some (.array .int))) (rD 7 112 TC TZ) (va_Pc [.ref d, .int p1] (dPre D A G S)) (xQq D A G k r S') (xX D A G k S') TC TZ A := by
  obtain ⟨C, Z, hq, hT⟩ : ∃ C Z, q_X11_requireParts G.2.2 S d p1 = some ((k, r), S', C, Z) ∧ (0 + C = (rD 7 112 TC TZ).cells ∧ 0 + Z = (rD 7 112 TC TZ).slots) := ⟨TC, TZ, hq, Nat.zero_add _, Nat.zero_add _⟩
  refine x_head hst (by decide) (Nat.le_of_ble_eq_true rfl) ?_
  intro p e s m args below meth c ls B hout hW hl
  have hx := B.1
  have hb := B.2.1
  have hl : lv_has ls 3 [(0, .ref d), (1, .int p1)] := hl
  unfold q_X11_requireParts at hq
  refine lv_aload_n hx hb dX11_requireParts_0 rfl (lv_at hl 0 rfl) ?_
  refine lv_iload_n hx hb dX11_requireParts_1 rfl (lv_at hl 1 rfl) ?_
  obtain ⟨hk1, hq⟩ := chk_e hq
  rcases bndx_e hq with ⟨r2, S3, C1, Z1, C2, Z2, hg, hq2, rfl, rfl⟩ | ⟨k9, r9, hk9, hg, e9⟩
  rotate_left
  · cases e9
    exact x_oq B hout hk9 (x_runV (As := [.int p1]) (rest := []) B hW hl.1 (d_recv B hW (ci := 11) rfl (dF_11 hk1) (by rw [hk1]; decide)) (c_X11_requireThing B.2.2.2.2.2.2.2.2.2.2 S d p1 hg) (g_V u_811 u_813 us_37 u_1 u_814) y1_X11_requireThing rfl ⟨Nat.le_of_ble_eq_true rfl, Nat.le_of_ble_eq_true rfl⟩ (C2 := 0) (Z2 := 0) ⟨hT.1, hT.2⟩ rfl (Nat.le_of_ble_eq_true rfl) dX11_requireParts_2) hW hT
  replace hq := hq2
  clear hq2
  refine x_rq (x_runV (As := [.int p1]) (rest := []) B hW hl.1 (d_recv B hW (ci := 11) rfl (dF_11 hk1) (by rw [hk1]; decide)) (c_X11_requireThing B.2.2.2.2.2.2.2.2.2.2 S d p1 hg) (g_V u_811 u_813 us_37 u_1 u_814) y1_X11_requireThing rfl ⟨Nat.le_of_ble_eq_true rfl, Nat.le_of_ble_eq_true rfl⟩ hT rfl (Nat.le_of_ble_eq_true rfl) dX11_requireParts_2) hW hT (fun H locs cells slots hW hT => ?_)
  clear hg
  obtain ⟨b4, hb4, hq⟩ := bnd_e hq
  refine W.eq (g2 := F0 m 5 ls [.ref b4]) (by rw [hb4]; rfl) ?_
  obtain ⟨hk5, hq⟩ := chk_e hq
  refine or3 hk5 (fun hh kk => d_get B hW (ci := 6) inT_6 rfl (dF_6 hh) (by rw [hh]; decide) 2 (by decide) u_219 (Or.inl rfl) (v := va_rf (dP S3 1002 b4)) rfl dX11_requireParts_5 kk) (fun hh kk => d_get B hW (ci := 9) inT_9 rfl (dF_9 hh) (by rw [hh]; decide) 2 (by decide) u_219 (Or.inl rfl) (v := va_rf (dP S3 1002 b4)) rfl dX11_requireParts_5 kk) (fun hh kk => d_get B hW (ci := 10) inT_10 rfl (dF_10 hh) (by rw [hh]; decide) 2 (by decide) u_219 (Or.inl rfl) (v := va_rf (dP S3 1002 b4)) rfl dX11_requireParts_5 kk) ?_
  refine e_astore_n (x := (dP S3 1002 b4)) (lv' := [(2, va_rf (dP S3 1002 b4)), (0, .ref d), (1, .int p1)]) hx hb dX11_requireParts_8 rfl hl (by decide) (catc rfl (catc rfl catn)) rfl (fun ls hl => ?_)
  refine d_aload_n hx hb dX11_requireParts_9 rfl (lv_at hl 0 rfl) ?_
  refine d_ifnonnull (tgt := 23) hx hb dX11_requireParts_10 (by decide) (fun hc => ?_) (fun hc => ?_)
  · replace hq := if_n hc hq
    refine d_aload_n hx hb dX11_requireParts_23 rfl (lv_at hl 0 rfl) ?_
    exact x_aret (x := (dP S3 1002 b4)) B (Or.inr ⟨_, rfl⟩) hW hq hT dX11_requireParts_24
  · replace hq := if_y hc hq
    exact x_throw B hout hW hl.1 (Or.inl ⟨rfl, rfl, rfl⟩) ut_10 ⟨Nat.le_of_ble_eq_true rfl, Nat.le_of_ble_eq_true rfl⟩ dX11_requireParts_13 dX11_requireParts_16 dX11_requireParts_17 dX11_requireParts_19 dX11_requireParts_22 hq hT
set_option maxHeartbeats 4000000 in
set_option maxRecDepth 100000 in
theorem c_X11_part {l : Launch} (hst : l.stackTraces = false) {D : va_G} {A : Nat → Prop} {G : DG} (S : DS) (d : Nat) (p1 : Int32) (p2 : Int32) {k : Nat} {r : Int32} {S' : DS} {TC TZ : Nat} (hq : q_X11_part G.2.2 S d p1 p2 = some ((k, r), S', TC, TZ)) : vx_Met l yX11_part (wM yX11_part cX11_part 4 (some .int)) (rD 8 134 TC TZ) (va_Pc [.ref d, .int p1, .int p2] (dPre D A G S)) (xQi D A G k r S') (xX D A G k S') TC TZ A := by
  obtain ⟨C, Z, hq, hT⟩ : ∃ C Z, q_X11_part G.2.2 S d p1 p2 = some ((k, r), S', C, Z) ∧ (0 + C = (rD 8 134 TC TZ).cells ∧ 0 + Z = (rD 8 134 TC TZ).slots) := ⟨TC, TZ, hq, Nat.zero_add _, Nat.zero_add _⟩
  refine x_head hst (by decide) (Nat.le_of_ble_eq_true rfl) ?_
  intro p e s m args below meth c ls B hout hW hl
  have hx := B.1
  have hb := B.2.1
  have hl : lv_has ls 4 [(0, .ref d), (1, .int p1), (2, .int p2)] := hl
  unfold q_X11_part at hq
  refine lv_aload_n hx hb dX11_part_0 rfl (lv_at hl 0 rfl) ?_
  refine lv_iload_n hx hb dX11_part_1 rfl (lv_at hl 1 rfl) ?_
  obtain ⟨hk1, hq⟩ := chk_e hq
  rcases bndx_e hq with ⟨r2, S3, C1, Z1, C2, Z2, hg, hq2, rfl, rfl⟩ | ⟨k9, r9, hk9, hg, e9⟩
  rotate_left
  · cases e9
    exact x_oq B hout hk9 (x_runV (As := [.int p1]) (rest := []) B hW hl.1 (d_recv B hW (ci := 11) rfl (dF_11 hk1) (by rw [hk1]; decide)) (c_X11_requireParts B.2.2.2.2.2.2.2.2.2.2 S d p1 hg) (g_V u_823 u_825 us_38 u_1 u_826) y1_X11_requireParts rfl ⟨Nat.le_of_ble_eq_true rfl, Nat.le_of_ble_eq_true rfl⟩ (C2 := 0) (Z2 := 0) ⟨hT.1, hT.2⟩ rfl (Nat.le_of_ble_eq_true rfl) dX11_part_2) hW hT
  replace hq := hq2
  clear hq2
  refine x_rq (x_runV (As := [.int p1]) (rest := []) B hW hl.1 (d_recv B hW (ci := 11) rfl (dF_11 hk1) (by rw [hk1]; decide)) (c_X11_requireParts B.2.2.2.2.2.2.2.2.2.2 S d p1 hg) (g_V u_823 u_825 us_38 u_1 u_826) y1_X11_requireParts rfl ⟨Nat.le_of_ble_eq_true rfl, Nat.le_of_ble_eq_true rfl⟩ hT rfl (Nat.le_of_ble_eq_true rfl) dX11_part_2) hW hT (fun H locs cells slots hW hT => ?_)
  clear hg
  refine e_astore_n (x := r2) (lv' := [(3, va_rf r2), (0, .ref d), (1, .int p1), (2, .int p2)]) hx hb dX11_part_5 rfl hl (by decide) (catc rfl (catc rfl (catc rfl catn))) rfl (fun ls hl => ?_)
  refine lv_iload_n hx hb dX11_part_6 rfl (lv_at hl 3 rfl) ?_
  refine lv_iconst (v := (-1)) hx hb dX11_part_7 (by decide) ?_
  refine lv_icmp_ne (tgt := 14) hx hb dX11_part_8 (by decide) (fun hc => ?_) (fun hc => ?_)
  · replace hq := if_n hc hq
    refine lv_aload_n hx hb dX11_part_14 rfl (lv_at hl 1 rfl) ?_
    refine lv_iload_n hx hb dX11_part_15 rfl (lv_at hl 3 rfl) ?_
    refine lv_iconst (v := 0) hx hb dX11_part_16 (by decide) ?_
    refine d_aload_n hx hb dX11_part_17 rfl (lv_at hl 0 rfl) ?_
    obtain ⟨b4, hb4, hq⟩ := bnd_e hq
    refine W.eq (g2 := F0 m 18 ls [.ref b4, .int 0, .int p2, .ref d]) (by rw [hb4]; rfl) ?_
    obtain ⟨hk5, hq⟩ := chk_e hq
    refine d_alen B hW hk5 dX11_part_18 ?_
    refine lv_iconst (v := 1) hx hb dX11_part_19 (by decide) ?_
    refine lv_isub hx hb dX11_part_20 ?_
    obtain ⟨hk6, hq⟩ := chk_e hq
    rcases bndx_e hq with ⟨r7, S8, C1, Z1, C2, Z2, hg, hq2, rfl, rfl⟩ | ⟨k9, r9, hk9, hg, e9⟩
    rotate_left
    · cases e9
      exact x_ov B hout hk9 (x_runV (As := [.int p2, .int 0, .int ((nI (dL S3 b4)) - 1)]) (rest := []) B hW hl.1 (d_recv B hW (ci := 11) rfl (dF_11 hk6) (by rw [hk6]; decide)) (c_X11_requireRange B.2.2.2.2.2.2.2.2.2.2 S3 d p2 0 ((nI (dL S3 b4)) - 1) hg) (g_V u_323 u_325 us_7 u_1 u_326) y1_X11_requireRange rfl ⟨Nat.le_of_ble_eq_true rfl, Nat.le_of_ble_eq_true rfl⟩ (C2 := 0) (Z2 := 0) ⟨hT.1, hT.2⟩ rfl (Nat.le_of_ble_eq_true rfl) dX11_part_21) hW hT
    replace hq := hq2
    clear hq2
    refine x_rv (x_runV (As := [.int p2, .int 0, .int ((nI (dL S3 b4)) - 1)]) (rest := []) B hW hl.1 (d_recv B hW (ci := 11) rfl (dF_11 hk6) (by rw [hk6]; decide)) (c_X11_requireRange B.2.2.2.2.2.2.2.2.2.2 S3 d p2 0 ((nI (dL S3 b4)) - 1) hg) (g_V u_323 u_325 us_7 u_1 u_326) y1_X11_requireRange rfl ⟨Nat.le_of_ble_eq_true rfl, Nat.le_of_ble_eq_true rfl⟩ hT rfl (Nat.le_of_ble_eq_true rfl) dX11_part_21) hW hT (fun H locs cells slots hW hT => ?_)
    clear hg
    refine d_aload_n hx hb dX11_part_24 rfl (lv_at hl 0 rfl) ?_
    refine lv_iload_n hx hb dX11_part_25 rfl (lv_at hl 3 rfl) ?_
    refine W.eq (g2 := F0 m 26 ls [.int p2, .ref b4]) (by rw [hb4]; rfl) ?_
    obtain ⟨hk9, hq⟩ := chk_e hq
    obtain ⟨hi, hq⟩ := chk_e hq
    refine d_iald B hW hk9 hi dX11_part_26 ?_
    exact x_iret B hW hq hT dX11_part_27
  · replace hq := if_y hc hq
    refine d_aload_n hx hb dX11_part_11 rfl (lv_at hl 0 rfl) ?_
    obtain ⟨b10, hb10, hq⟩ := bnd_e hq
    refine W.eq (g2 := F0 m 12 ls [.ref b10]) (by rw [hb10]; rfl) ?_
    obtain ⟨hk11, hq⟩ := chk_e hq
    refine d_alen B hW hk11 dX11_part_12 ?_
    exact x_iret B hW hq hT dX11_part_13
set_option maxHeartbeats 4000000 in
set_option maxRecDepth 100000 in
theorem c_X11_log {l : Launch} (hst : l.stackTraces = false) {D : va_G} {A : Nat → Prop} {G : DG} (S : DS) (d : Nat) (p1 : Int32) (p2 : Int32) {r : Int32} {S' : DS} {TC TZ : Nat} (hq : q_X11_log G.2.2 S d p1 p2 = some (r, S', TC, TZ)) : Met l yX11_log (wM yX11_log cX11_log 3 (some .int)) (rD 0 0 TC TZ) (va_Pc [.ref d, .int p1, .int p2] (dPre D A G S)) (dQi D A G r S') TC TZ A := by
  obtain ⟨C, Z, hq, hT⟩ : ∃ C Z, q_X11_log G.2.2 S d p1 p2 = some (r, S', C, Z) ∧ (0 + C = (rD 0 0 TC TZ).cells ∧ 0 + Z = (rD 0 0 TC TZ).slots) := ⟨TC, TZ, hq, Nat.zero_add _, Nat.zero_add _⟩
  refine d_head hst (by decide) (Nat.le_of_ble_eq_true rfl) ?_
  intro p e s m args below meth c ls B hW hl
  have hx := B.1
  have hb := B.2.1
  have hl : lv_has ls 3 [(0, .ref d), (1, .int p1), (2, .int p2)] := hl
  unfold q_X11_log at hq
  refine lv_iload_n hx hb dX11_log_0 rfl (lv_at hl 1 rfl) ?_
  refine lv_if_lt (tgt := 12) hx hb dX11_log_1 (by decide) (fun hc => ?_) (fun hc => ?_)
  · replace hq := if_y hc hq
    refine lv_ldc (v := (-1000000)) hx hb B.2.2.2.2.1 (B.2.2.2.2.2.1 _ (List.mem_cons_of_mem _ u_101)) dX11_log_12 ?_
    exact d_iret B hW hq hT dX11_log_14
  · replace hq := if_n hc hq
    refine lv_iload_n hx hb dX11_log_4 rfl (lv_at hl 1 rfl) ?_
    refine lv_aload_n hx hb dX11_log_5 rfl (lv_at hl 0 rfl) ?_
    obtain ⟨hk1, hq⟩ := chk_e hq
    refine d_get B hW (ci := 11) inT_11 rfl (dF_11 hk1) (by rw [hk1]; decide) 5 (by decide) u_67 (Or.inl rfl) (v := .int (dI S 1105 d)) rfl dX11_log_6 ?_
    refine lv_icmp_lt (tgt := 15) hx hb dX11_log_9 (by decide) (fun hc => ?_) (fun hc => ?_)
    · replace hq := if_y hc hq
      refine lv_aload_n hx hb dX11_log_15 rfl (lv_at hl 0 rfl) ?_
      refine d_get B hW (ci := 11) inT_11 rfl (dF_11 hk1) (by rw [hk1]; decide) 4 (by decide) u_66 (Or.inl rfl) (v := va_rf (dP S 1104 d)) rfl dX11_log_16 ?_
      refine lv_iload_n hx hb dX11_log_19 rfl (lv_at hl 2 rfl) ?_
      refine lv_if_eq (tgt := 31) hx hb dX11_log_20 (by decide) (fun hc => ?_) (fun hc => ?_)
      · replace hq := if_y hc hq
        refine lv_iconst (v := 2) hx hb dX11_log_31 (by decide) ?_
        refine lv_iload_n hx hb dX11_log_32 rfl (lv_at hl 1 rfl) ?_
        refine lv_imul hx hb dX11_log_33 ?_
        obtain ⟨b2, hb2, hq⟩ := bnd_e hq
        refine W.eq (g2 := F0 m 34 ls [.int (2 * p1), .ref b2]) (by rw [hb2]; rfl) ?_
        obtain ⟨hk3, hq⟩ := chk_e hq
        obtain ⟨hi, hq⟩ := chk_e hq
        refine d_iald B hW hk3 hi dX11_log_34 ?_
        exact d_iret B hW hq hT dX11_log_35
      · replace hq := if_n hc hq
        refine lv_iconst (v := 2) hx hb dX11_log_23 (by decide) ?_
        refine lv_iload_n hx hb dX11_log_24 rfl (lv_at hl 1 rfl) ?_
        refine lv_imul hx hb dX11_log_25 ?_
        refine lv_iconst (v := 1) hx hb dX11_log_26 (by decide) ?_
        refine lv_iadd hx hb dX11_log_27 ?_
        refine lv_goto (tgt := 34) hx hb dX11_log_28 (by decide) ?_
        obtain ⟨b4, hb4, hq⟩ := bnd_e hq
        refine W.eq (g2 := F0 m 34 ls [.int ((2 * p1) + 1), .ref b4]) (by rw [hb4]; rfl) ?_
        obtain ⟨hk5, hq⟩ := chk_e hq
        obtain ⟨hi, hq⟩ := chk_e hq
        refine d_iald B hW hk5 hi dX11_log_34 ?_
        exact d_iret B hW hq hT dX11_log_35
    · replace hq := if_n hc hq
      refine lv_ldc (v := (-1000000)) hx hb B.2.2.2.2.1 (B.2.2.2.2.2.1 _ (List.mem_cons_of_mem _ u_101)) dX11_log_12 ?_
      exact d_iret B hW hq hT dX11_log_14
set_option maxHeartbeats 4000000 in
set_option maxRecDepth 100000 in
theorem c_X11_count {l : Launch} (hst : l.stackTraces = false) {D : va_G} {A : Nat → Prop} {G : DG} (S : DS) (d : Nat) (p1 : Int32) {k : Nat} {r : Int32} {S' : DS} {TC TZ : Nat} (hq : q_X11_count G.2.2 S d p1 = some ((k, r), S', TC, TZ)) : vx_Met l yX11_count (wM yX11_count cX11_count 2 (some .int)) (rD 6 90 TC TZ) (va_Pc [.ref d, .int p1] (dPre D A G S)) (xQi D A G k r S') (xX D A G k S') TC TZ A := by
  obtain ⟨C, Z, hq, hT⟩ : ∃ C Z, q_X11_count G.2.2 S d p1 = some ((k, r), S', C, Z) ∧ (0 + C = (rD 6 90 TC TZ).cells ∧ 0 + Z = (rD 6 90 TC TZ).slots) := ⟨TC, TZ, hq, Nat.zero_add _, Nat.zero_add _⟩
  refine x_head hst (by decide) (Nat.le_of_ble_eq_true rfl) ?_
  intro p e s m args below meth c ls B hout hW hl
  have hx := B.1
  have hb := B.2.1
  have hl : lv_has ls 2 [(0, .ref d), (1, .int p1)] := hl
  unfold q_X11_count at hq
  refine lv_iload_n hx hb dX11_count_0 rfl (lv_at hl 1 rfl) ?_
  by_cases hc0 : p1 = 0
  · replace hq := if_y hc0 hq
    refine lv_tableIn (off := 35) (tgt := 36) hx hb dX11_count_1 (by rw [hc0]; decide) (by rw [hc0]; decide) (by rw [hc0]; rfl) (by decide) ?_
    refine lv_aload_n hx hb dX11_count_36 rfl (lv_at hl 0 rfl) ?_
    obtain ⟨hk1, hq⟩ := chk_e hq
    refine d_get B hW (ci := 11) inT_11 rfl (dF_11 hk1) (by rw [hk1]; decide) 0 (by decide) u_62 (Or.inl rfl) (v := va_rf (dP S 1100 d)) rfl dX11_count_37 ?_
    obtain ⟨b2, hb2, hq⟩ := bnd_e hq
    refine W.eq (g2 := F0 m 40 ls [.ref b2]) (by rw [hb2]; rfl) ?_
    obtain ⟨hk3, hq⟩ := chk_e hq
    obtain ⟨r4, S5, C1, Z1, C2, Z2, hg, hq2, rfl, rfl⟩ := bndc_e hq
    replace hq := hq2
    clear hq2
    refine d_ri (d_runV (As := []) (rest := []) B hW hl.1 (d_recv B hW (ci := 0) rfl (dF_0 hk3) (by rw [hk3]; decide)) (c_Jx4a65c_size_8abf5 B.2.2.2.2.2.2.2.2.2.2 S b2 hg) (g_V u_114 u_115 u_116 u_4 u_117) y1_Jx4a65c_size_8abf5 rfl ⟨Nat.le_of_ble_eq_true rfl, Nat.le_of_ble_eq_true rfl⟩ hT rfl (Nat.le_of_ble_eq_true rfl) dX11_count_40) hW hT (fun H locs cells slots hW hT => ?_)
    clear hg
    exact x_iret B hW hq hT dX11_count_43
  replace hq := if_n hc0 hq
  by_cases hc1 : p1 = 1
  · replace hq := if_y hc1 hq
    refine lv_tableIn (off := 43) (tgt := 44) hx hb dX11_count_1 (by rw [hc1]; decide) (by rw [hc1]; decide) (by rw [hc1]; rfl) (by decide) ?_
    refine lv_aload_n hx hb dX11_count_44 rfl (lv_at hl 0 rfl) ?_
    obtain ⟨hk6, hq⟩ := chk_e hq
    refine d_get B hW (ci := 11) inT_11 rfl (dF_11 hk6) (by rw [hk6]; decide) 8 (by decide) u_70 (Or.inl rfl) (v := .int (dI S 1108 d)) rfl dX11_count_45 ?_
    exact x_iret B hW hq hT dX11_count_48
  replace hq := if_n hc1 hq
  by_cases hc2 : p1 = 2
  · replace hq := if_y hc2 hq
    refine lv_tableIn (off := 48) (tgt := 49) hx hb dX11_count_1 (by rw [hc2]; decide) (by rw [hc2]; decide) (by rw [hc2]; rfl) (by decide) ?_
    refine lv_aload_n hx hb dX11_count_49 rfl (lv_at hl 0 rfl) ?_
    obtain ⟨hk7, hq⟩ := chk_e hq
    refine d_get B hW (ci := 11) inT_11 rfl (dF_11 hk7) (by rw [hk7]; decide) 5 (by decide) u_67 (Or.inl rfl) (v := .int (dI S 1105 d)) rfl dX11_count_50 ?_
    exact x_iret B hW hq hT dX11_count_53
  replace hq := if_n hc2 hq
  by_cases hc3 : p1 = 3
  · replace hq := if_y hc3 hq
    refine lv_tableIn (off := 53) (tgt := 54) hx hb dX11_count_1 (by rw [hc3]; decide) (by rw [hc3]; decide) (by rw [hc3]; rfl) (by decide) ?_
    refine lv_aload_n hx hb dX11_count_54 rfl (lv_at hl 0 rfl) ?_
    obtain ⟨hk8, hq⟩ := chk_e hq
    refine d_get B hW (ci := 11) inT_11 rfl (dF_11 hk8) (by rw [hk8]; decide) 3 (by decide) u_65 (Or.inl rfl) (v := .int (dI S 1103 d)) rfl dX11_count_55 ?_
    exact x_iret B hW hq hT dX11_count_58
  replace hq := if_n hc3 hq
  by_cases hc4 : p1 = 4
  · replace hq := if_y hc4 hq
    refine lv_tableIn (off := 58) (tgt := 59) hx hb dX11_count_1 (by rw [hc4]; decide) (by rw [hc4]; decide) (by rw [hc4]; rfl) (by decide) ?_
    refine lv_aload_n hx hb dX11_count_59 rfl (lv_at hl 0 rfl) ?_
    obtain ⟨hk9, hq⟩ := chk_e hq
    refine d_get B hW (ci := 11) inT_11 rfl (dF_11 hk9) (by rw [hk9]; decide) 1 (by decide) u_63 (Or.inl rfl) (v := va_rf (dP S 1101 d)) rfl dX11_count_60 ?_
    obtain ⟨b10, hb10, hq⟩ := bnd_e hq
    refine W.eq (g2 := F0 m 63 ls [.ref b10]) (by rw [hb10]; rfl) ?_
    obtain ⟨hk11, hq⟩ := chk_e hq
    obtain ⟨r12, S13, C1, Z1, C2, Z2, hg, hq2, rfl, rfl⟩ := bndc_e hq
    replace hq := hq2
    clear hq2
    refine d_ri (d_runV (As := []) (rest := []) B hW hl.1 (d_recv B hW (ci := 0) rfl (dF_0 hk11) (by rw [hk11]; decide)) (c_Jx4a65c_size_8abf5 B.2.2.2.2.2.2.2.2.2.2 S b10 hg) (g_V u_114 u_115 u_116 u_4 u_117) y1_Jx4a65c_size_8abf5 rfl ⟨Nat.le_of_ble_eq_true rfl, Nat.le_of_ble_eq_true rfl⟩ hT rfl (Nat.le_of_ble_eq_true rfl) dX11_count_63) hW hT (fun H locs cells slots hW hT => ?_)
    clear hg
    exact x_iret B hW hq hT dX11_count_66
  replace hq := if_n hc4 hq
  have hd0 : (p1).toInt ≠ 0 := fun e9 => hc0 (Int32.toInt_inj.mp (e9.trans (by decide)))
  have hd1 : (p1).toInt ≠ 1 := fun e9 => hc1 (Int32.toInt_inj.mp (e9.trans (by decide)))
  have hd2 : (p1).toInt ≠ 2 := fun e9 => hc2 (Int32.toInt_inj.mp (e9.trans (by decide)))
  have hd3 : (p1).toInt ≠ 3 := fun e9 => hc3 (Int32.toInt_inj.mp (e9.trans (by decide)))
  have hd4 : (p1).toInt ≠ 4 := fun e9 => hc4 (Int32.toInt_inj.mp (e9.trans (by decide)))
  refine lv_tableOut (tgt := 67) hx hb dX11_count_1 (by omega) (by decide) ?_
  exact x_throw B hout hW hl.1 (Or.inl ⟨rfl, rfl, rfl⟩) ut_11 ⟨Nat.le_of_ble_eq_true rfl, Nat.le_of_ble_eq_true rfl⟩ dX11_count_67 dX11_count_70 dX11_count_71 dX11_count_73 dX11_count_76 hq hT
