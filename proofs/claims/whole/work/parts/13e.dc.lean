set_option maxHeartbeats 4000000 in
set_option maxRecDepth 100000 in
theorem k_X8_callIn_39 {p : Program} {l : Launch} {e : Env} {s : State} {m : MethodId} {args : Array Value} {below : List Frame} {meth : Method} {c : Code} {D : va_G} {A : Nat → Prop} {G : DG} {d : Nat} {r : Int32} {S' : DS} {TC TZ : Nat} (B : dB p l s m args meth c D A G yX8_callIn.cls yX8_callIn.name cX8_callIn 3 (some .int) (Cond.code yX8_callIn cX8_callIn 3 (some .int))) :
    ∀ (n : Nat) (S : DS) (v1 : Option Nat) (v2 : Int32) (z0 : Int32) (z1 : Option Nat) (C Z : Nat), q_X8_callIn_39 G.2.2 n S d v1 v2 z0 z1 = some (r, S', C, Z) → ∀ (H : Heap) (locs : List Loc) (ls : Array Slot) (cells slots : Nat), dOK D A G S s.heap H locs → lv_has ls 3 [(0, .ref d), (1, va_rf v1), (2, .int v2)] → cells + C = (rD 9 256 TC TZ).cells ∧ slots + Z = (rD 9 256 TC TZ).slots → W p l e (rD 9 256 TC TZ) s m args below meth c H locs cells slots (MQ below (dQi D A G r S') args s (rD 9 256 TC TZ).cells (rD 9 256 TC TZ).slots A) (F0 m 39 ls [.int z0, va_rf z1]) := by
  have hx := B.1
  have hb := B.2.1
  intro n S v1 v2 z0 z1 C Z hq H locs ls cells slots hW hl hT
  unfold q_X8_callIn_39 at hq
  obtain ⟨b3, hb3, hq⟩ := bnd_e hq
  refine W.eq (g2 := F0 m 39 ls [.int z0, .ref b3]) (by rw [hb3]; rfl) ?_
  obtain ⟨hk4, hq⟩ := chk_e hq
  obtain ⟨hz, hq⟩ := chk_e hq
  refine d_putN B hW (ci := 11) inT_11 tyX11 tyX11_ok nmX11 rfl (dF_11 hk4) (by rw [hk4]; decide) (by rw [hk4]; decide) 9 (by decide) un_2 rfl rfl (ty := .boolean) (tyX11_ok 9 (by decide)) (isB_narrow hz) (isB_fits hz) (Nat.le_of_ble_eq_true rfl) (S1 := sI S 1109 b3 z0) (ds_11_9 hk4 z0) ⟨rfl, rfl, rfl⟩ (fun b hb => dF_sI hb) dX8_callIn_39 (fun H locs hW => ?_)
  obtain ⟨S5, eS⟩ : ∃ z, z = sI S 1109 b3 z0 := ⟨_, rfl⟩
  rw [← eS] at hW
  replace hq := lt9_u eS hq
  have hk6 : dK S5 b3 = 12 := by rw [eS]; exact hk4
  clear eS
  refine lv_aload_n hx hb dX8_callIn_42 rfl (lv_at hl 0 rfl) ?_
  obtain ⟨hk7, hq⟩ := chk_e hq
  refine d_get B hW (ci := 8) inT_8 rfl (dF_8 hk7) (by rw [hk7]; decide) 1 (by decide) u_388 (Or.inl rfl) (v := .int (dI S5 801 d)) rfl dX8_callIn_43 ?_
  by_cases hc0 : (dI S5 801 d) = 0
  · replace hq := if_y hc0 hq
    refine lv_tableIn (off := 34) (tgt := 80) hx hb dX8_callIn_46 (by rw [hc0]; decide) (by rw [hc0]; decide) (by rw [hc0]; rfl) (by decide) ?_
    refine lv_aload_n hx hb dX8_callIn_80 rfl (lv_at hl 0 rfl) ?_
    refine d_get B hW (ci := 8) inT_8 rfl (dF_8 hk7) (by rw [hk7]; decide) 2 (by decide) u_389 (Or.inl rfl) (v := .int (dI S5 802 d)) rfl dX8_callIn_81 ?_
    exact d_iret B hW hq hT dX8_callIn_84
  replace hq := if_n hc0 hq
  by_cases hc1 : (dI S5 801 d) = 1
  · replace hq := if_y hc1 hq
    refine lv_tableIn (off := 39) (tgt := 85) hx hb dX8_callIn_46 (by rw [hc1]; decide) (by rw [hc1]; decide) (by rw [hc1]; rfl) (by decide) ?_
    refine lv_iload_n hx hb dX8_callIn_85 rfl (lv_at hl 2 rfl) ?_
    exact d_iret B hW hq hT dX8_callIn_86
  replace hq := if_n hc1 hq
  by_cases hc2 : (dI S5 801 d) = 2
  · replace hq := if_y hc2 hq
    refine lv_tableIn (off := 34) (tgt := 80) hx hb dX8_callIn_46 (by rw [hc2]; decide) (by rw [hc2]; decide) (by rw [hc2]; rfl) (by decide) ?_
    refine lv_aload_n hx hb dX8_callIn_80 rfl (lv_at hl 0 rfl) ?_
    refine d_get B hW (ci := 8) inT_8 rfl (dF_8 hk7) (by rw [hk7]; decide) 2 (by decide) u_389 (Or.inl rfl) (v := .int (dI S5 802 d)) rfl dX8_callIn_81 ?_
    exact d_iret B hW hq hT dX8_callIn_84
  replace hq := if_n hc2 hq
  by_cases hc3 : (dI S5 801 d) = 3
  · replace hq := if_y hc3 hq
    refine lv_tableIn (off := 39) (tgt := 85) hx hb dX8_callIn_46 (by rw [hc3]; decide) (by rw [hc3]; decide) (by rw [hc3]; rfl) (by decide) ?_
    refine lv_iload_n hx hb dX8_callIn_85 rfl (lv_at hl 2 rfl) ?_
    exact d_iret B hW hq hT dX8_callIn_86
  replace hq := if_n hc3 hq
  by_cases hc4 : (dI S5 801 d) = 4
  · replace hq := if_y hc4 hq
    refine lv_tableIn (off := 41) (tgt := 87) hx hb dX8_callIn_46 (by rw [hc4]; decide) (by rw [hc4]; decide) (by rw [hc4]; rfl) (by decide) ?_
    refine d_aload_n hx hb dX8_callIn_87 rfl (lv_at hl 1 rfl) ?_
    refine lv_aload_n hx hb dX8_callIn_88 rfl (lv_at hl 0 rfl) ?_
    refine d_get B hW (ci := 8) inT_8 rfl (dF_8 hk7) (by rw [hk7]; decide) 3 (by decide) u_390 (Or.inl rfl) (v := va_rf (dP S5 803 d)) rfl dX8_callIn_89 ?_
    refine lv_iload_n hx hb dX8_callIn_92 rfl (lv_at hl 2 rfl) ?_
    obtain ⟨b12, hb12, hq⟩ := bnd_e hq
    refine W.eq (g2 := F0 m 93 ls [.int v2, va_rf (dP S5 803 d), .ref b12]) (by rw [hb12]; rfl) ?_
    obtain ⟨hk13, hq⟩ := chk_e hq
    obtain ⟨r14, S15, C1, Z1, C2, Z2, hg, hq2, rfl, rfl⟩ := bndc_e hq
    replace hq := hq2
    clear hq2
    refine d_rv (d_runN (As := [va_rf (dP S5 803 d), .int v2]) (rest := []) B hW hl.1 (d_recv B hW (ci := 11) rfl (dF_11 hk13) (by rw [hk13]; decide)) (c_X11_resolve B.2.2.2.2.2.2.2.2.2.2 n S5 b12 (dP S5 803 d) v2 hg) un_13 u_465 u_1 u_466 us_16 y1_X11_resolve rfl ⟨Nat.le_of_ble_eq_true rfl, Nat.le_of_ble_eq_true rfl⟩ hT rfl (Nat.le_of_ble_eq_true rfl) dX8_callIn_93) hW hT (fun H locs cells slots hW hT => ?_)
    clear hg
    refine lv_iconst (v := (-1)) hx hb dX8_callIn_96 (by decide) ?_
    exact d_iret B hW hq hT dX8_callIn_97
  replace hq := if_n hc4 hq
  have hd0 : ((dI S5 801 d)).toInt ≠ 0 := fun e9 => hc0 (Int32.toInt_inj.mp (e9.trans (by decide)))
  have hd1 : ((dI S5 801 d)).toInt ≠ 1 := fun e9 => hc1 (Int32.toInt_inj.mp (e9.trans (by decide)))
  have hd2 : ((dI S5 801 d)).toInt ≠ 2 := fun e9 => hc2 (Int32.toInt_inj.mp (e9.trans (by decide)))
  have hd3 : ((dI S5 801 d)).toInt ≠ 3 := fun e9 => hc3 (Int32.toInt_inj.mp (e9.trans (by decide)))
  have hd4 : ((dI S5 801 d)).toInt ≠ 4 := fun e9 => hc4 (Int32.toInt_inj.mp (e9.trans (by decide)))
  refine lv_tableOut (tgt := 98) hx hb dX8_callIn_46 (by omega) (by decide) ?_
  refine d_aload_n hx hb dX8_callIn_98 rfl (lv_at hl 1 rfl) ?_
  refine lv_aload_n hx hb dX8_callIn_99 rfl (lv_at hl 0 rfl) ?_
  refine d_get B hW (ci := 8) inT_8 rfl (dF_8 hk7) (by rw [hk7]; decide) 3 (by decide) u_390 (Or.inl rfl) (v := va_rf (dP S5 803 d)) rfl dX8_callIn_100 ?_
  refine lv_iload_n hx hb dX8_callIn_103 rfl (lv_at hl 2 rfl) ?_
  obtain ⟨b8, hb8, hq⟩ := bnd_e hq
  refine W.eq (g2 := F0 m 104 ls [.int v2, va_rf (dP S5 803 d), .ref b8]) (by rw [hb8]; rfl) ?_
  obtain ⟨hk9, hq⟩ := chk_e hq
  obtain ⟨r10, S11, C1, Z1, C2, Z2, hg, hq2, rfl, rfl⟩ := bndc_e hq
  replace hq := hq2
  clear hq2
  refine d_rv (d_runN (As := [va_rf (dP S5 803 d), .int v2]) (rest := []) B hW hl.1 (d_recv B hW (ci := 11) rfl (dF_11 hk9) (by rw [hk9]; decide)) (c_X11_reject B.2.2.2.2.2.2.2.2.2.2 n S5 b8 (dP S5 803 d) v2 hg) un_14 u_449 u_1 u_450 us_13 y1_X11_reject rfl ⟨Nat.le_of_ble_eq_true rfl, Nat.le_of_ble_eq_true rfl⟩ hT rfl (Nat.le_of_ble_eq_true rfl) dX8_callIn_104) hW hT (fun H locs cells slots hW hT => ?_)
  clear hg
  refine lv_iconst (v := (-1)) hx hb dX8_callIn_107 (by decide) ?_
  exact d_iret B hW hq hT dX8_callIn_108
set_option maxHeartbeats 4000000 in
set_option maxRecDepth 100000 in
theorem k_X8_callIn_34 {p : Program} {l : Launch} {e : Env} {s : State} {m : MethodId} {args : Array Value} {below : List Frame} {meth : Method} {c : Code} {D : va_G} {A : Nat → Prop} {G : DG} {d : Nat} {r : Int32} {S' : DS} {TC TZ : Nat} (B : dB p l s m args meth c D A G yX8_callIn.cls yX8_callIn.name cX8_callIn 3 (some .int) (Cond.code yX8_callIn cX8_callIn 3 (some .int))) :
    ∀ (n : Nat) (S : DS) (v1 : Option Nat) (v2 : Int32) (z0 : Option Nat) (C Z : Nat), q_X8_callIn_34 G.2.2 n S d v1 v2 z0 = some (r, S', C, Z) → ∀ (H : Heap) (locs : List Loc) (ls : Array Slot) (cells slots : Nat), dOK D A G S s.heap H locs → lv_has ls 3 [(0, .ref d), (1, va_rf v1), (2, .int v2)] → cells + C = (rD 9 256 TC TZ).cells ∧ slots + Z = (rD 9 256 TC TZ).slots → W p l e (rD 9 256 TC TZ) s m args below meth c H locs cells slots (MQ below (dQi D A G r S') args s (rD 9 256 TC TZ).cells (rD 9 256 TC TZ).slots A) (F0 m 34 ls [va_rf z0]) := by
  have hx := B.1
  have hb := B.2.1
  intro n S v1 v2 z0 C Z hq H locs ls cells slots hW hl hT
  unfold q_X8_callIn_34 at hq
  refine lv_iconst (v := 1) hx hb dX8_callIn_34 (by decide) ?_
  refine lv_goto (tgt := 39) hx hb dX8_callIn_35 (by decide) ?_
  exact k_X8_callIn_39 B n S v1 v2 1 z0 _ _ hq _ _ ls _ _ hW (lv_sub hl [0, 1, 2] rfl) hT
set_option maxHeartbeats 4000000 in
set_option maxRecDepth 100000 in
theorem k_X8_callIn_17 {p : Program} {l : Launch} {e : Env} {s : State} {m : MethodId} {args : Array Value} {below : List Frame} {meth : Method} {c : Code} {D : va_G} {A : Nat → Prop} {G : DG} {d : Nat} {r : Int32} {S' : DS} {TC TZ : Nat} (B : dB p l s m args meth c D A G yX8_callIn.cls yX8_callIn.name cX8_callIn 3 (some .int) (Cond.code yX8_callIn cX8_callIn 3 (some .int))) :
    ∀ (n : Nat) (S : DS) (v1 : Option Nat) (v2 : Int32) (C Z : Nat), q_X8_callIn_17 G.2.2 n S d v1 v2 = some (r, S', C, Z) → ∀ (H : Heap) (locs : List Loc) (ls : Array Slot) (cells slots : Nat), dOK D A G S s.heap H locs → lv_has ls 3 [(0, .ref d), (1, va_rf v1), (2, .int v2)] → cells + C = (rD 9 256 TC TZ).cells ∧ slots + Z = (rD 9 256 TC TZ).slots → W p l e (rD 9 256 TC TZ) s m args below meth c H locs cells slots (MQ below (dQi D A G r S') args s (rD 9 256 TC TZ).cells (rD 9 256 TC TZ).slots A) (F0 m 17 ls []) := by
  have hx := B.1
  have hb := B.2.1
  intro n S v1 v2 C Z hq H locs ls cells slots hW hl hT
  unfold q_X8_callIn_17 at hq
  refine d_aload_n hx hb dX8_callIn_17 rfl (lv_at hl 1 rfl) ?_
  refine lv_aload_n hx hb dX8_callIn_18 rfl (lv_at hl 0 rfl) ?_
  obtain ⟨hk2, hq⟩ := chk_e hq
  refine d_get B hW (ci := 8) inT_8 rfl (dF_8 hk2) (by rw [hk2]; decide) 1 (by decide) u_388 (Or.inl rfl) (v := .int (dI S 801 d)) rfl dX8_callIn_19 ?_
  refine lv_iconst (v := 2) hx hb dX8_callIn_22 (by decide) ?_
  refine lv_icmp_eq (tgt := 34) hx hb dX8_callIn_23 (by decide) (fun hc => ?_) (fun hc => ?_)
  · replace hq := if_y hc hq
    exact k_X8_callIn_34 B n S v1 v2 v1 _ _ hq _ _ ls _ _ hW (lv_sub hl [0, 1, 2] rfl) hT
  · replace hq := if_n hc hq
    refine lv_aload_n hx hb dX8_callIn_26 rfl (lv_at hl 0 rfl) ?_
    refine d_get B hW (ci := 8) inT_8 rfl (dF_8 hk2) (by rw [hk2]; decide) 1 (by decide) u_388 (Or.inl rfl) (v := .int (dI S 801 d)) rfl dX8_callIn_27 ?_
    refine lv_iconst (v := 3) hx hb dX8_callIn_30 (by decide) ?_
    refine lv_icmp_ne (tgt := 38) hx hb dX8_callIn_31 (by decide) (fun hc => ?_) (fun hc => ?_)
    · replace hq := if_n hc hq
      refine lv_iconst (v := 0) hx hb dX8_callIn_38 (by decide) ?_
      exact k_X8_callIn_39 B n S v1 v2 0 v1 _ _ hq _ _ ls _ _ hW (lv_sub hl [0, 1, 2] rfl) hT
    · replace hq := if_y hc hq
      exact k_X8_callIn_34 B n S v1 v2 v1 _ _ hq _ _ ls _ _ hW (lv_sub hl [0, 1, 2] rfl) hT
set_option maxHeartbeats 4000000 in
set_option maxRecDepth 100000 in
theorem c_X8_callIn {l : Launch} (hst : l.stackTraces = false) {D : va_G} {A : Nat → Prop} {G : DG} (n : Nat) (S : DS) (d : Nat) (p1 : Option Nat) (p2 : Int32) {r : Int32} {S' : DS} {TC TZ : Nat} (hq : q_X8_callIn G.2.2 n S d p1 p2 = some (r, S', TC, TZ)) : Met l yX8_callIn (wM yX8_callIn cX8_callIn 3 (some .int)) (rD 9 256 TC TZ) (va_Pc [.ref d, va_rf p1, .int p2] (dPre D A G S)) (dQi D A G r S') TC TZ A := by
  obtain ⟨C, Z, hq, hT⟩ : ∃ C Z, q_X8_callIn G.2.2 n S d p1 p2 = some (r, S', C, Z) ∧ (0 + C = (rD 9 256 TC TZ).cells ∧ 0 + Z = (rD 9 256 TC TZ).slots) := ⟨TC, TZ, hq, Nat.zero_add _, Nat.zero_add _⟩
  refine d_head hst (by decide) (by cases p1 <;> exact Nat.le_of_ble_eq_true rfl) ?_
  intro p e s m args below meth c ls B hW hl
  have hx := B.1
  have hb := B.2.1
  have hl : lv_has ls 3 [(0, .ref d), (1, va_rf p1), (2, .int p2)] := by cases p1 <;> exact hl
  unfold q_X8_callIn at hq
  refine lv_aload_n hx hb dX8_callIn_0 rfl (lv_at hl 0 rfl) ?_
  obtain ⟨hk1, hq⟩ := chk_e hq
  refine d_get B hW (ci := 8) inT_8 rfl (dF_8 hk1) (by rw [hk1]; decide) 0 (by decide) u_387 (Or.inl rfl) (v := .int (dI S 800 d)) rfl dX8_callIn_1 ?_
  refine lv_iconst (v := (-1)) hx hb dX8_callIn_4 (by decide) ?_
  refine lv_icmp_eq (tgt := 17) hx hb dX8_callIn_5 (by decide) (fun hc => ?_) (fun hc => ?_)
  · replace hq := if_y hc hq
    exact k_X8_callIn_17 B n S p1 p2 _ _ hq _ _ ls _ _ hW (lv_sub hl [0, 1, 2] rfl) hT
  · replace hq := if_n hc hq
    refine d_aload_n hx hb dX8_callIn_8 rfl (lv_at hl 1 rfl) ?_
    refine lv_aload_n hx hb dX8_callIn_9 rfl (lv_at hl 0 rfl) ?_
    refine d_get B hW (ci := 8) inT_8 rfl (dF_8 hk1) (by rw [hk1]; decide) 0 (by decide) u_387 (Or.inl rfl) (v := .int (dI S 800 d)) rfl dX8_callIn_10 ?_
    refine lv_iload_n hx hb dX8_callIn_13 rfl (lv_at hl 2 rfl) ?_
    obtain ⟨b16, hb16, hq⟩ := bnd_e hq
    refine W.eq (g2 := F0 m 14 ls [.int p2, .int (dI S 800 d), .ref b16]) (by rw [hb16]; rfl) ?_
    obtain ⟨hk17, hq⟩ := chk_e hq
    obtain ⟨r18, S19, C1, Z1, C2, Z2, hg, hq2, rfl, rfl⟩ := bndc_e hq
    replace hq := hq2
    clear hq2
    refine d_rv (d_runN (As := [.int (dI S 800 d), .int p2]) (rest := []) B hW hl.1 (d_recv B hW (ci := 11) rfl (dF_11 hk17) (by rw [hk17]; decide)) (c_X11_note B.2.2.2.2.2.2.2.2.2.2 S b16 (dI S 800 d) p2 hg) un_12 u_756 u_1 u_757 us_33 y1_X11_note rfl ⟨Nat.le_of_ble_eq_true rfl, Nat.le_of_ble_eq_true rfl⟩ hT rfl (Nat.le_of_ble_eq_true rfl) dX8_callIn_14) hW hT (fun H locs cells slots hW hT => ?_)
    clear hg
    exact k_X8_callIn_17 B n S19 p1 p2 _ _ hq _ _ ls _ _ hW (lv_sub hl [0, 1, 2] rfl) hT
set_option maxHeartbeats 4000000 in
set_option maxRecDepth 100000 in
theorem c_X8_init {l : Launch} (hst : l.stackTraces = false) {D : va_G} {A : Nat → Prop} {G : DG} (S : DS) (d : Nat) (p1 : Int32) (p2 : Int32) (p3 : Int32) (p4 : Option Nat) {r : Int32} {S' : DS} {TC TZ : Nat} (hq : q_X8_init G.2.2 S d p1 p2 p3 p4 = some (r, S', TC, TZ)) : Met l yX8_init (wM yX8_init cX8_init 5 none) (rD 2 40 TC TZ) (va_Pc [.ref d, .int p1, .int p2, .int p3, va_rf p4] (dPre D A G S)) (dQv D A G S') TC TZ A := by
  obtain ⟨C, Z, hq, hT⟩ : ∃ C Z, q_X8_init G.2.2 S d p1 p2 p3 p4 = some (r, S', C, Z) ∧ (0 + C = (rD 2 40 TC TZ).cells ∧ 0 + Z = (rD 2 40 TC TZ).slots) := ⟨TC, TZ, hq, Nat.zero_add _, Nat.zero_add _⟩
  refine d_head hst (by decide) (by cases p4 <;> exact Nat.le_of_ble_eq_true rfl) ?_
  intro p e s m args below meth c ls B hW hl
  have hx := B.1
  have hb := B.2.1
  have hl : lv_has ls 5 [(0, .ref d), (1, .int p1), (2, .int p2), (3, .int p3), (4, va_rf p4)] := by cases p4 <;> exact hl
  unfold q_X8_init at hq
  refine lv_aload_n hx hb dX8_init_0 rfl (lv_at hl 0 rfl) ?_
  obtain ⟨r1, S2, C1, Z1, C2, Z2, hg, hq2, rfl, rfl⟩ := bndc_e hq
  replace hq := hq2
  clear hq2
  refine d_rv (d_runIN (As := []) (rest := []) B hW hl.1 (c_X3_init B.2.2.2.2.2.2.2.2.2.2 S d hg) un_8 u_384 u_20 u_385 rfl y1_X3_init rfl ⟨Nat.le_of_ble_eq_true rfl, Nat.le_of_ble_eq_true rfl⟩ hT rfl (Nat.le_of_ble_eq_true rfl) dX8_init_1) hW hT (fun H locs cells slots hW hT => ?_)
  clear hg
  refine lv_aload_n hx hb dX8_init_4 rfl (lv_at hl 0 rfl) ?_
  refine lv_iload_n hx hb dX8_init_5 rfl (lv_at hl 1 rfl) ?_
  obtain ⟨hk3, hq⟩ := chk_e hq
  refine d_put B hW (ci := 8) inT_8 tyX8 tyX8_ok nmX8 rfl (dF_8 hk3) (by rw [hk3]; decide) (by rw [hk3]; decide) 0 (by decide) u_387 (Or.inl rfl) (Or.inr ⟨rfl, rfl, rfl⟩) (ty := .int) (tyX8_ok 0 (by decide)) rfl rfl (Nat.le_of_ble_eq_true rfl) (S1 := sI S2 800 d p1) (ds_8_0 hk3 p1) ⟨rfl, rfl, rfl⟩ (fun b hb => dF_sI hb) dX8_init_6 (fun H locs hW => ?_)
  obtain ⟨S4, eS⟩ : ∃ z, z = sI S2 800 d p1 := ⟨_, rfl⟩
  rw [← eS] at hW
  replace hq := lt9_u eS hq
  have hk5 : dK S4 d = 9 := by rw [eS]; exact hk3
  clear eS
  refine lv_aload_n hx hb dX8_init_9 rfl (lv_at hl 0 rfl) ?_
  refine lv_iload_n hx hb dX8_init_10 rfl (lv_at hl 2 rfl) ?_
  refine d_put B hW (ci := 8) inT_8 tyX8 tyX8_ok nmX8 rfl (dF_8 hk5) (by rw [hk5]; decide) (by rw [hk5]; decide) 1 (by decide) u_388 (Or.inl rfl) (Or.inr ⟨rfl, rfl, rfl⟩) (ty := .int) (tyX8_ok 1 (by decide)) rfl rfl (Nat.le_of_ble_eq_true rfl) (S1 := sI S4 801 d p2) (ds_8_1 hk5 p2) ⟨rfl, rfl, rfl⟩ (fun b hb => dF_sI hb) dX8_init_11 (fun H locs hW => ?_)
  obtain ⟨S6, eS⟩ : ∃ z, z = sI S4 801 d p2 := ⟨_, rfl⟩
  rw [← eS] at hW
  replace hq := lt9_u eS hq
  have hk7 : dK S6 d = 9 := by rw [eS]; exact hk5
  clear eS
  refine lv_aload_n hx hb dX8_init_14 rfl (lv_at hl 0 rfl) ?_
  refine lv_iload_n hx hb dX8_init_15 rfl (lv_at hl 3 rfl) ?_
  refine d_put B hW (ci := 8) inT_8 tyX8 tyX8_ok nmX8 rfl (dF_8 hk7) (by rw [hk7]; decide) (by rw [hk7]; decide) 2 (by decide) u_389 (Or.inl rfl) (Or.inr ⟨rfl, rfl, rfl⟩) (ty := .int) (tyX8_ok 2 (by decide)) rfl rfl (Nat.le_of_ble_eq_true rfl) (S1 := sI S6 802 d p3) (ds_8_2 hk7 p3) ⟨rfl, rfl, rfl⟩ (fun b hb => dF_sI hb) dX8_init_16 (fun H locs hW => ?_)
  obtain ⟨S8, eS⟩ : ∃ z, z = sI S6 802 d p3 := ⟨_, rfl⟩
  rw [← eS] at hW
  replace hq := lt9_u eS hq
  have hk9 : dK S8 d = 9 := by rw [eS]; exact hk7
  clear eS
  refine lv_aload_n hx hb dX8_init_19 rfl (lv_at hl 0 rfl) ?_
  refine d_aload hx hb dX8_init_20 (lv_at hl 4 rfl) ?_
  refine d_put B hW (ci := 8) inT_8 tyX8 tyX8_ok nmX8 rfl (dF_8 hk9) (by rw [hk9]; decide) (by rw [hk9]; decide) 3 (by decide) u_390 (Or.inl rfl) (Or.inr ⟨rfl, rfl, rfl⟩) (ty := (.object "PromiseDesk$Resolvers")) (tyX8_ok 3 (by decide)) rf_nO rf_fO (Nat.le_of_ble_eq_true rfl) (S1 := sP S8 803 d p4) (ds_8_3 hk9 p4) ⟨rfl, rfl, rfl⟩ (fun b hb => dF_sP hb) dX8_init_22 (fun H locs hW => ?_)
  obtain ⟨S10, eS⟩ : ∃ z, z = sP S8 803 d p4 := ⟨_, rfl⟩
  rw [← eS] at hW
  replace hq := lt9_u eS hq
  have hk11 : dK S10 d = 9 := by rw [eS]; exact hk9
  clear eS
  exact d_vret B hW hq hT dX8_init_25
set_option maxHeartbeats 4000000 in
set_option maxRecDepth 100000 in
theorem c_X5_callIn {l : Launch} (hst : l.stackTraces = false) {D : va_G} {A : Nat → Prop} {G : DG} (n : Nat) (S : DS) (d : Nat) (p1 : Option Nat) (p2 : Int32) {r : Int32} {S' : DS} {TC TZ : Nat} (hq : q_X5_callIn G.2.2 n S d p1 p2 = some (r, S', TC, TZ)) : Met l yX5_callIn (wM yX5_callIn cX5_callIn 5 (some .int)) (rD 10 279 TC TZ) (va_Pc [.ref d, va_rf p1, .int p2] (dPre D A G S)) (dQi D A G r S') TC TZ A := by
  obtain ⟨C, Z, hq, hT⟩ : ∃ C Z, q_X5_callIn G.2.2 n S d p1 p2 = some (r, S', C, Z) ∧ (0 + C = (rD 10 279 TC TZ).cells ∧ 0 + Z = (rD 10 279 TC TZ).slots) := ⟨TC, TZ, hq, Nat.zero_add _, Nat.zero_add _⟩
  refine d_head hst (by decide) (by cases p1 <;> exact Nat.le_of_ble_eq_true rfl) ?_
  intro p e s m args below meth c ls B hW hl
  have hx := B.1
  have hb := B.2.1
  have hl : lv_has ls 5 [(0, .ref d), (1, va_rf p1), (2, .int p2)] := by cases p1 <;> exact hl
  unfold q_X5_callIn at hq
  refine lv_aload_n hx hb dX5_callIn_0 rfl (lv_at hl 0 rfl) ?_
  obtain ⟨hk1, hq⟩ := chk_e hq
  refine d_get B hW (ci := 5) inT_5 rfl (dF_5 hk1) (by rw [hk1]; decide) 0 (by decide) u_571 (Or.inl rfl) (v := va_rf (dP S 500 d)) rfl dX5_callIn_1 ?_
  refine d_aload_n hx hb dX5_callIn_4 rfl (lv_at hl 1 rfl) ?_
  refine lv_iconst (v := (-1)) hx hb dX5_callIn_5 (by decide) ?_
  obtain ⟨b2, hb2, hq⟩ := bnd_e hq
  refine W.eq (g2 := F0 m 6 ls [.int (-1), va_rf p1, .ref b2]) (by rw [hb2]; rfl) ?_
  obtain ⟨hk3, hq⟩ := chk_e hq
  obtain ⟨r4, S5, C1, Z1, C2, Z2, hg, hq2, rfl, rfl⟩ := bndc_e hq
  replace hq := hq2
  clear hq2
  refine d_ri (d_runV (As := [va_rf p1, .int (-1)]) (rest := []) B hW hl.1 (d_recv B hW (ci := 8) rfl (dF_8 hk3) (by rw [hk3]; decide)) (c_X8_callIn B.2.2.2.2.2.2.2.2.2.2 n S b2 p1 (-1) hg) (g_V u_780 u_751 u_752 u_21 u_753) y1_X8_callIn rfl ⟨Nat.le_of_ble_eq_true rfl, Nat.le_of_ble_eq_true rfl⟩ hT rfl (Nat.le_of_ble_eq_true rfl) dX5_callIn_6) hW hT (fun H locs cells slots hW hT => ?_)
  clear hg
  refine e_istore_n (lv' := [(3, .int r4), (0, .ref d), (1, va_rf p1), (2, .int p2)]) hx hb dX5_callIn_9 rfl hl (by decide) (catc rfl (catc rf_cat (catc rfl catn))) rfl (fun ls hl => ?_)
  refine d_aload_n hx hb dX5_callIn_10 rfl (lv_at hl 2 rfl) ?_
  obtain ⟨b6, hb6, hq⟩ := bnd_e hq
  refine W.eq (g2 := F0 m 11 ls [.ref b6]) (by rw [hb6]; rfl) ?_
  obtain ⟨hk7, hq⟩ := chk_e hq
  refine d_getN B hW (ci := 11) inT_11 rfl (dF_11 hk7) (by rw [hk7]; decide) 9 (by decide) un_1 rfl (v := .int (dI S5 1109 b6)) rfl dX5_callIn_11 ?_
  refine lv_if_eq (tgt := 19) hx hb dX5_callIn_14 (by decide) (fun hc => ?_) (fun hc => ?_)
  · replace hq := if_y hc hq
    refine d_aload_n hx hb dX5_callIn_19 rfl (lv_at hl 2 rfl) ?_
    refine lv_iload_n hx hb dX5_callIn_20 rfl (lv_at hl 0 rfl) ?_
    refine W.eq (g2 := F0 m 21 ls [.int r4, .ref b6]) (by rw [hb6]; rfl) ?_
    obtain ⟨r8, S9, C1, Z1, C2, Z2, hg, hq2, rfl, rfl⟩ := bndc_e hq
    replace hq := hq2
    clear hq2
    refine d_rq (d_runN (As := [.int r4]) (rest := []) B hW hl.1 (d_recv B hW (ci := 11) rfl (dF_11 hk7) (by rw [hk7]; decide)) (c_X11_promiseFor B.2.2.2.2.2.2.2.2.2.2 n S5 b6 r4 hg) un_18 u_587 u_1 u_588 us_23 y1_X11_promiseFor rfl ⟨Nat.le_of_ble_eq_true rfl, Nat.le_of_ble_eq_true rfl⟩ hT rfl (Nat.le_of_ble_eq_true rfl) dX5_callIn_21) hW hT (fun H locs cells slots hW hT => ?_)
    clear hg
    refine e_astore (x := r8) (lv' := [(4, va_rf r8), (3, .int r4), (0, .ref d), (1, va_rf p1), (2, .int p2)]) hx hb dX5_callIn_24 hl (by decide) (catc rfl (catc rfl (catc rf_cat (catc rfl catn)))) rfl (fun ls hl => ?_)
    refine d_aload_n hx hb dX5_callIn_26 rfl (lv_at hl 3 rfl) ?_
    refine d_aload hx hb dX5_callIn_27 (lv_at hl 0 rfl) ?_
    obtain ⟨C1, Z1, hq2, rfl, rfl⟩ := tick_e hq
    replace hq := hq2
    clear hq2
    refine d_new B hW (ci := 8) (kd := 9) inT_8 tyX8 tyX8_ok u_782 u_379 u_21 rfl (fun j hj => by rcases (show j = 0 ∨ j = 1 ∨ j = 2 ∨ j = 3 by omega) with rfl | rfl | rfl | rfl <;> rfl) dw_8 hT dX5_callIn_29 (fun H cells slots q10 S11 eq eS hW hT => ?_)
    replace hq := lt9_u eq hq
    replace hq := lt9_u eS hq
    have hkq10 : dK S11 q10 = 9 := by rw [eS, eq]; exact va_up_self _ _ _
    clear eS eq
    refine lv_dup hx hb dX5_callIn_32 rfl ?_
    refine lv_iconst (v := (-1)) hx hb dX5_callIn_33 (by decide) ?_
    refine lv_aload_n hx hb dX5_callIn_34 rfl (lv_at hl 2 rfl) ?_
    obtain ⟨hk12, hq⟩ := chk_e hq
    refine d_get B hW (ci := 5) inT_5 rfl (dF_5 hk12) (by rw [hk12]; decide) 1 (by decide) u_572 (Or.inl rfl) (v := .int (dI S11 501 d)) rfl dX5_callIn_35 ?_
    refine lv_iload_n hx hb dX5_callIn_38 rfl (lv_at hl 4 rfl) ?_
    refine lv_null hx hb dX5_callIn_39 ?_
    obtain ⟨r13, S14, C1, Z1, C2, Z2, hg, hq2, rfl, rfl⟩ := bndc_e hq
    replace hq := hq2
    clear hq2
    refine d_rv (d_runI (As := [.int (-1), .int (dI S11 501 d), .int p2, .null]) (rest := [.ref q10, va_rf r8, va_rf p1]) B hW hl.1 (c_X8_init B.2.2.2.2.2.2.2.2.2.2 S11 q10 (-1) (dI S11 501 d) p2 none hg) u_783 u_381 u_21 u_382 rfl y1_X8_init rfl ⟨Nat.le_of_ble_eq_true rfl, Nat.le_of_ble_eq_true rfl⟩ hT rfl (cat8 (vcc rfl (vcc rf_cat (vcc rf_cat vcn))) (Nat.le_of_ble_eq_true rfl)) dX5_callIn_40) hW hT (fun H locs cells slots hW hT => ?_)
    clear hg
    refine lv_null hx hb dX5_callIn_43 ?_
    refine W.eq (g2 := F0 m 44 ls [.null, .ref q10, va_rf r8, .ref b6]) (by rw [hb6]; rfl) ?_
    obtain ⟨hk15, hq⟩ := chk_e hq
    obtain ⟨r16, S17, C1, Z1, C2, Z2, hg, hq2, rfl, rfl⟩ := bndc_e hq
    replace hq := hq2
    clear hq2
    refine d_ri (d_runN (As := [va_rf r8, .ref q10, .null]) (rest := []) B hW hl.1 (d_recv B hW (ci := 11) rfl (dF_11 hk15) (by rw [hk15]; decide)) (c_X11_derive B.2.2.2.2.2.2.2.2.2.2 S14 b6 r8 (some q10) none hg) un_19 u_549 u_1 u_550 us_21 y1_X11_derive rfl ⟨Nat.le_of_ble_eq_true rfl, Nat.le_of_ble_eq_true rfl⟩ hT rfl (Nat.le_of_ble_eq_true rfl) dX5_callIn_44) hW hT (fun H locs cells slots hW hT => ?_)
    clear hg
    exact d_iret B hW hq hT dX5_callIn_47
  · replace hq := if_n hc hq
    refine lv_iload_n hx hb dX5_callIn_17 rfl (lv_at hl 0 rfl) ?_
    exact d_iret B hW hq hT dX5_callIn_18
set_option maxHeartbeats 4000000 in
set_option maxRecDepth 100000 in
theorem c_X8_resolving {l : Launch} (hst : l.stackTraces = false) {D : va_G} {A : Nat → Prop} {G : DG} (S : DS) (p1 : Option Nat) {r : Option Nat} {S' : DS} {TC TZ : Nat} (hq : q_X8_resolving G.2.2 S p1 = some (r, S', TC, TZ)) : Met l yX8_resolving (wM yX8_resolving cX8_resolving 1 (some (.object "PromiseDesk$Simple"))) (rD 3 64 TC TZ) (va_Pc [va_rf p1] (dPre D A G S)) (dQq D A G r S') TC TZ A := by
  obtain ⟨C, Z, hq, hT⟩ : ∃ C Z, q_X8_resolving G.2.2 S p1 = some (r, S', C, Z) ∧ (0 + C = (rD 3 64 TC TZ).cells ∧ 0 + Z = (rD 3 64 TC TZ).slots) := ⟨TC, TZ, hq, Nat.zero_add _, Nat.zero_add _⟩
  refine d_head hst (by decide) (by cases p1 <;> exact Nat.le_of_ble_eq_true rfl) ?_
  intro p e s m args below meth c ls B hW hl
  have hx := B.1
  have hb := B.2.1
  have hl : lv_has ls 1 [(0, va_rf p1)] := by cases p1 <;> exact hl
  unfold q_X8_resolving at hq
  obtain ⟨C1, Z1, hq2, rfl, rfl⟩ := tick_e hq
  replace hq := hq2
  clear hq2
  refine d_new B hW (ci := 8) (kd := 9) inT_8 tyX8 tyX8_ok u_673 u_379 u_21 rfl (fun j hj => by rcases (show j = 0 ∨ j = 1 ∨ j = 2 ∨ j = 3 by omega) with rfl | rfl | rfl | rfl <;> rfl) dw_8 hT dX8_resolving_0 (fun H cells slots q1 S2 eq eS hW hT => ?_)
  replace hq := lt9_u eq hq
  replace hq := lt9_u eS hq
  have hkq1 : dK S2 q1 = 9 := by rw [eS, eq]; exact va_up_self _ _ _
  clear eS eq
  refine lv_dup hx hb dX8_resolving_3 rfl ?_
  refine lv_iconst (v := (-1)) hx hb dX8_resolving_4 (by decide) ?_
  refine lv_iconst (v := 4) hx hb dX8_resolving_5 (by decide) ?_
  refine lv_iconst (v := (-1)) hx hb dX8_resolving_6 (by decide) ?_
  refine d_aload_n hx hb dX8_resolving_7 rfl (lv_at hl 0 rfl) ?_
  obtain ⟨r3, S4, C1, Z1, C2, Z2, hg, hq2, rfl, rfl⟩ := bndc_e hq
  replace hq := hq2
  clear hq2
  refine d_rv (d_runI (As := [.int (-1), .int 4, .int (-1), va_rf p1]) (rest := [.ref q1]) B hW hl.1 (c_X8_init B.2.2.2.2.2.2.2.2.2.2 S2 q1 (-1) 4 (-1) p1 hg) u_674 u_381 u_21 u_382 rfl y1_X8_init rfl ⟨Nat.le_of_ble_eq_true rfl, Nat.le_of_ble_eq_true rfl⟩ hT rfl (Nat.le_of_ble_eq_true rfl) dX8_resolving_8) hW hT (fun H locs cells slots hW hT => ?_)
  clear hg
  exact d_aret (x := (some q1)) B (Or.inl ⟨_, rfl⟩) hW hq hT dX8_resolving_11
set_option maxHeartbeats 4000000 in
set_option maxRecDepth 100000 in
theorem c_X8_rejecting {l : Launch} (hst : l.stackTraces = false) {D : va_G} {A : Nat → Prop} {G : DG} (S : DS) (p1 : Option Nat) {r : Option Nat} {S' : DS} {TC TZ : Nat} (hq : q_X8_rejecting G.2.2 S p1 = some (r, S', TC, TZ)) : Met l yX8_rejecting (wM yX8_rejecting cX8_rejecting 1 (some (.object "PromiseDesk$Simple"))) (rD 3 64 TC TZ) (va_Pc [va_rf p1] (dPre D A G S)) (dQq D A G r S') TC TZ A := by
  obtain ⟨C, Z, hq, hT⟩ : ∃ C Z, q_X8_rejecting G.2.2 S p1 = some (r, S', C, Z) ∧ (0 + C = (rD 3 64 TC TZ).cells ∧ 0 + Z = (rD 3 64 TC TZ).slots) := ⟨TC, TZ, hq, Nat.zero_add _, Nat.zero_add _⟩
  refine d_head hst (by decide) (by cases p1 <;> exact Nat.le_of_ble_eq_true rfl) ?_
  intro p e s m args below meth c ls B hW hl
  have hx := B.1
  have hb := B.2.1
  have hl : lv_has ls 1 [(0, va_rf p1)] := by cases p1 <;> exact hl
  unfold q_X8_rejecting at hq
  obtain ⟨C1, Z1, hq2, rfl, rfl⟩ := tick_e hq
  replace hq := hq2
  clear hq2
  refine d_new B hW (ci := 8) (kd := 9) inT_8 tyX8 tyX8_ok u_673 u_379 u_21 rfl (fun j hj => by rcases (show j = 0 ∨ j = 1 ∨ j = 2 ∨ j = 3 by omega) with rfl | rfl | rfl | rfl <;> rfl) dw_8 hT dX8_rejecting_0 (fun H cells slots q1 S2 eq eS hW hT => ?_)
  replace hq := lt9_u eq hq
  replace hq := lt9_u eS hq
  have hkq1 : dK S2 q1 = 9 := by rw [eS, eq]; exact va_up_self _ _ _
  clear eS eq
  refine lv_dup hx hb dX8_rejecting_3 rfl ?_
  refine lv_iconst (v := (-1)) hx hb dX8_rejecting_4 (by decide) ?_
  refine lv_iconst (v := 5) hx hb dX8_rejecting_5 (by decide) ?_
  refine lv_iconst (v := (-1)) hx hb dX8_rejecting_6 (by decide) ?_
  refine d_aload_n hx hb dX8_rejecting_7 rfl (lv_at hl 0 rfl) ?_
  obtain ⟨r3, S4, C1, Z1, C2, Z2, hg, hq2, rfl, rfl⟩ := bndc_e hq
  replace hq := hq2
  clear hq2
  refine d_rv (d_runI (As := [.int (-1), .int 5, .int (-1), va_rf p1]) (rest := [.ref q1]) B hW hl.1 (c_X8_init B.2.2.2.2.2.2.2.2.2.2 S2 q1 (-1) 5 (-1) p1 hg) u_674 u_381 u_21 u_382 rfl y1_X8_init rfl ⟨Nat.le_of_ble_eq_true rfl, Nat.le_of_ble_eq_true rfl⟩ hT rfl (Nat.le_of_ble_eq_true rfl) dX8_rejecting_8) hW hT (fun H locs cells slots hW hT => ?_)
  clear hg
  exact d_aret (x := (some q1)) B (Or.inl ⟨_, rfl⟩) hW hq hT dX8_rejecting_11
set_option maxHeartbeats 4000000 in
set_option maxRecDepth 100000 in
theorem c_X9_init {l : Launch} (hst : l.stackTraces = false) {D : va_G} {A : Nat → Prop} {G : DG} (S : DS) (d : Nat) (p1 : Int32) (p2 : Int32) {r : Int32} {S' : DS} {TC TZ : Nat} (hq : q_X9_init G.2.2 S d p1 p2 = some (r, S', TC, TZ)) : Met l yX9_init (wM yX9_init cX9_init 3 none) (rD 2 43 TC TZ) (va_Pc [.ref d, .int p1, .int p2] (dPre D A G S)) (dQv D A G S') TC TZ A := by
  obtain ⟨C, Z, hq, hT⟩ : ∃ C Z, q_X9_init G.2.2 S d p1 p2 = some (r, S', C, Z) ∧ (0 + C = (rD 2 43 TC TZ).cells ∧ 0 + Z = (rD 2 43 TC TZ).slots) := ⟨TC, TZ, hq, Nat.zero_add _, Nat.zero_add _⟩
  refine d_head hst (by decide) (Nat.le_of_ble_eq_true rfl) ?_
  intro p e s m args below meth c ls B hW hl
  have hx := B.1
  have hb := B.2.1
  have hl : lv_has ls 3 [(0, .ref d), (1, .int p1), (2, .int p2)] := hl
  unfold q_X9_init at hq
  refine lv_aload_n hx hb dX9_init_0 rfl (lv_at hl 0 rfl) ?_
  refine lv_iload_n hx hb dX9_init_1 rfl (lv_at hl 1 rfl) ?_
  refine lv_iconst (v := 1) hx hb dX9_init_2 (by decide) ?_
  refine lv_null hx hb dX9_init_3 ?_
  obtain ⟨r1, S2, C1, Z1, C2, Z2, hg, hq2, rfl, rfl⟩ := bndc_e hq
  replace hq := hq2
  clear hq2
  refine d_rv (d_runI (As := [.int p1, .int 1, .null]) (rest := []) B hW hl.1 (c_X10_init B.2.2.2.2.2.2.2.2.2.2 S d p1 1 none hg) u_412 u_199 u_10 u_200 rfl y1_X10_init rfl ⟨Nat.le_of_ble_eq_true rfl, Nat.le_of_ble_eq_true rfl⟩ hT rfl (Nat.le_of_ble_eq_true rfl) dX9_init_4) hW hT (fun H locs cells slots hW hT => ?_)
  clear hg
  refine lv_aload_n hx hb dX9_init_7 rfl (lv_at hl 0 rfl) ?_
  refine lv_iload_n hx hb dX9_init_8 rfl (lv_at hl 2 rfl) ?_
  obtain ⟨hk3, hq⟩ := chk_e hq
  refine d_put B hW (ci := 9) inT_9 tyX9 tyX9_ok nmX9 rfl (dF_9 hk3) (by rw [hk3]; decide) (by rw [hk3]; decide) 3 (by decide) u_413 (Or.inl rfl) (Or.inr ⟨rfl, rfl, rfl⟩) (ty := .int) (tyX9_ok 3 (by decide)) rfl rfl (Nat.le_of_ble_eq_true rfl) (S1 := sI S2 903 d p2) (ds_9_3 hk3 p2) ⟨rfl, rfl, rfl⟩ (fun b hb => dF_sI hb) dX9_init_9 (fun H locs hW => ?_)
  obtain ⟨S4, eS⟩ : ∃ z, z = sI S2 903 d p2 := ⟨_, rfl⟩
  rw [← eS] at hW
  replace hq := lt9_u eS hq
  have hk5 : dK S4 d = 10 := by rw [eS]; exact hk3
  clear eS
  exact d_vret B hW hq hT dX9_init_12
set_option maxHeartbeats 4000000 in
set_option maxRecDepth 100000 in
theorem c_Jxa1e45_init_da8c8 {l : Launch} (hst : l.stackTraces = false) {D : va_G} {A : Nat → Prop} {G : DG} (S : DS) (d : Nat) {r : Int32} {S' : DS} {TC TZ : Nat} (hq : q_Jxa1e45_init_da8c8 G.2.2 S d = some (r, S', TC, TZ)) : Met l yJxa1e45_init_da8c8 (wM yJxa1e45_init_da8c8 cJxa1e45_init_da8c8 1 none) (rD 1 20 TC TZ) (va_Pc [.ref d] (dPre D A G S)) (dQv D A G S') TC TZ A := by
  obtain ⟨C, Z, hq, hT⟩ : ∃ C Z, q_Jxa1e45_init_da8c8 G.2.2 S d = some (r, S', C, Z) ∧ (0 + C = (rD 1 20 TC TZ).cells ∧ 0 + Z = (rD 1 20 TC TZ).slots) := ⟨TC, TZ, hq, Nat.zero_add _, Nat.zero_add _⟩
  refine d_head hst (by decide) (Nat.le_of_ble_eq_true rfl) ?_
  intro p e s m args below meth c ls B hW hl
  have hx := B.1
  have hb := B.2.1
  have hl : lv_has ls 1 [(0, .ref d)] := hl
  unfold q_Jxa1e45_init_da8c8 at hq
  refine lv_aload_n hx hb dJxa1e45_init_da8c8_0 rfl (lv_at hl 0 rfl) ?_
  refine d_oinit B hl.1 u_47 u_34 u_35 ⟨Nat.le_of_ble_eq_true rfl, Nat.le_of_ble_eq_true rfl⟩ dJxa1e45_init_da8c8_1 ?_
  exact d_vret B hW hq hT dJxa1e45_init_da8c8_4
set_option maxHeartbeats 4000000 in
set_option maxRecDepth 100000 in
theorem c_Jxc12de_init_da8c8 {l : Launch} (hst : l.stackTraces = false) {D : va_G} {A : Nat → Prop} {G : DG} (S : DS) (d : Nat) {r : Int32} {S' : DS} {TC TZ : Nat} (hq : q_Jxc12de_init_da8c8 G.2.2 S d = some (r, S', TC, TZ)) : Met l yJxc12de_init_da8c8 (wM yJxc12de_init_da8c8 cJxc12de_init_da8c8 1 none) (rD 2 40 TC TZ) (va_Pc [.ref d] (dPre D A G S)) (dQv D A G S') TC TZ A := by
  obtain ⟨C, Z, hq, hT⟩ : ∃ C Z, q_Jxc12de_init_da8c8 G.2.2 S d = some (r, S', C, Z) ∧ (0 + C = (rD 2 40 TC TZ).cells ∧ 0 + Z = (rD 2 40 TC TZ).slots) := ⟨TC, TZ, hq, Nat.zero_add _, Nat.zero_add _⟩
  refine d_head hst (by decide) (Nat.le_of_ble_eq_true rfl) ?_
  intro p e s m args below meth c ls B hW hl
  have hx := B.1
  have hb := B.2.1
  have hl : lv_has ls 1 [(0, .ref d)] := hl
  unfold q_Jxc12de_init_da8c8 at hq
  refine lv_aload_n hx hb dJxc12de_init_da8c8_0 rfl (lv_at hl 0 rfl) ?_
  obtain ⟨r1, S2, C1, Z1, C2, Z2, hg, hq2, rfl, rfl⟩ := bndc_e hq
  replace hq := hq2
  clear hq2
  refine d_rv (d_runI (As := []) (rest := []) B hW hl.1 (c_Jxa1e45_init_da8c8 B.2.2.2.2.2.2.2.2.2.2 S d hg) u_44 u_45 u_2 u_46 rfl y1_Jxa1e45_init_da8c8 rfl ⟨Nat.le_of_ble_eq_true rfl, Nat.le_of_ble_eq_true rfl⟩ hT rfl (Nat.le_of_ble_eq_true rfl) dJxc12de_init_da8c8_1) hW hT (fun H locs cells slots hW hT => ?_)
  clear hg
  refine lv_aload_n hx hb dJxc12de_init_da8c8_4 rfl (lv_at hl 0 rfl) ?_
  refine lv_iconst (v := 0) hx hb dJxc12de_init_da8c8_5 (by decide) ?_
  obtain ⟨hk3, hq⟩ := chk_e hq
  refine d_put B hW (ci := 0) inT_0 tyJx4a65c tyJx4a65c_ok nmJx4a65c rfl (dF_0 hk3) (by rw [hk3]; decide) (by rw [hk3]; decide) 0 (by decide) u_52 (Or.inl rfl) (Or.inl rfl) (ty := .int) (tyJx4a65c_ok 0 (by decide)) rfl rfl (Nat.le_of_ble_eq_true rfl) (S1 := sI S2 0 d 0) (ds_0_0 hk3 0) ⟨rfl, rfl, rfl⟩ (fun b hb => dF_sI hb) dJxc12de_init_da8c8_6 (fun H locs hW => ?_)
  obtain ⟨S4, eS⟩ : ∃ z, z = sI S2 0 d 0 := ⟨_, rfl⟩
  rw [← eS] at hW
  replace hq := lt9_u eS hq
  have hk5 : dK S4 d = 1 := by rw [eS]; exact hk3
  clear eS
  exact d_vret B hW hq hT dJxc12de_init_da8c8_9
set_option maxHeartbeats 4000000 in
set_option maxRecDepth 100000 in
theorem c_Jx4a65c_init_da8c8 {l : Launch} (hst : l.stackTraces = false) {D : va_G} {A : Nat → Prop} {G : DG} (S : DS) (d : Nat) {r : Int32} {S' : DS} {TC TZ : Nat} (hq : q_Jx4a65c_init_da8c8 G.2.2 S d = some (r, S', TC, TZ)) : Met l yJx4a65c_init_da8c8 (wM yJx4a65c_init_da8c8 cJx4a65c_init_da8c8 1 none) (rD 3 60 TC TZ) (va_Pc [.ref d] (dPre D A G S)) (dQv D A G S') TC TZ A := by
  obtain ⟨C, Z, hq, hT⟩ : ∃ C Z, q_Jx4a65c_init_da8c8 G.2.2 S d = some (r, S', C, Z) ∧ (0 + C = (rD 3 60 TC TZ).cells ∧ 0 + Z = (rD 3 60 TC TZ).slots) := ⟨TC, TZ, hq, Nat.zero_add _, Nat.zero_add _⟩
  refine d_head hst (by decide) (Nat.le_of_ble_eq_true rfl) ?_
  intro p e s m args below meth c ls B hW hl
  have hx := B.1
  have hb := B.2.1
  have hl : lv_has ls 1 [(0, .ref d)] := hl
  unfold q_Jx4a65c_init_da8c8 at hq
  refine lv_aload_n hx hb dJx4a65c_init_da8c8_0 rfl (lv_at hl 0 rfl) ?_
  obtain ⟨r1, S2, C1, Z1, C2, Z2, hg, hq2, rfl, rfl⟩ := bndc_e hq
  replace hq := hq2
  clear hq2
  refine d_rv (d_runI (As := []) (rest := []) B hW hl.1 (c_Jxc12de_init_da8c8 B.2.2.2.2.2.2.2.2.2.2 S d hg) u_41 u_42 u_3 u_43 rfl y1_Jxc12de_init_da8c8 rfl ⟨Nat.le_of_ble_eq_true rfl, Nat.le_of_ble_eq_true rfl⟩ hT rfl (Nat.le_of_ble_eq_true rfl) dJx4a65c_init_da8c8_1) hW hT (fun H locs cells slots hW hT => ?_)
  clear hg
  refine lv_aload_n hx hb dJx4a65c_init_da8c8_4 rfl (lv_at hl 0 rfl) ?_
  refine d_gets B hW dJx4a65c_init_da8c8_5 ?_
  obtain ⟨hk3, hq⟩ := chk_e hq
  refine d_put B hW (ci := 0) inT_0 tyJx4a65c tyJx4a65c_ok nmJx4a65c rfl (dF_0 hk3) (by rw [hk3]; decide) (by rw [hk3]; decide) 1 (by decide) u_50 (Or.inl rfl) (Or.inl rfl) (ty := (.array (.object "java/lang/Object"))) (tyJx4a65c_ok 1 (by decide)) rfl rfl (Nat.le_of_ble_eq_true rfl) (S1 := sP S2 1 d (some G.2.2)) (ds_0_1 hk3 (some G.2.2)) ⟨rfl, rfl, rfl⟩ (fun b hb => dF_sP hb) dJx4a65c_init_da8c8_8 (fun H locs hW => ?_)
  obtain ⟨S4, eS⟩ : ∃ z, z = sP S2 1 d (some G.2.2) := ⟨_, rfl⟩
  rw [← eS] at hW
  replace hq := lt9_u eS hq
  have hk5 : dK S4 d = 1 := by rw [eS]; exact hk3
  clear eS
  exact d_vret B hW hq hT dJx4a65c_init_da8c8_11
set_option maxHeartbeats 4000000 in
set_option maxRecDepth 100000 in
theorem c_X11_init {l : Launch} (hst : l.stackTraces = false) {D : va_G} {A : Nat → Prop} {G : DG} (S : DS) (d : Nat) {r : Int32} {S' : DS} {TC TZ : Nat} (hq : q_X11_init G.2.2 S d = some (r, S', TC, TZ)) : Met l yX11_init (wM yX11_init cX11_init 1 none) (rD 4 80 TC TZ) (va_Pc [.ref d] (dPre D A G S)) (dQv D A G S') TC TZ A := by
  obtain ⟨C, Z, hq, hT⟩ : ∃ C Z, q_X11_init G.2.2 S d = some (r, S', C, Z) ∧ (0 + C = (rD 4 80 TC TZ).cells ∧ 0 + Z = (rD 4 80 TC TZ).slots) := ⟨TC, TZ, hq, Nat.zero_add _, Nat.zero_add _⟩
  refine d_head hst (by decide) (Nat.le_of_ble_eq_true rfl) ?_
  intro p e s m args below meth c ls B hW hl
  have hx := B.1
  have hb := B.2.1
  have hl : lv_has ls 1 [(0, .ref d)] := hl
  unfold q_X11_init at hq
  refine lv_aload_n hx hb dX11_init_0 rfl (lv_at hl 0 rfl) ?_
  refine d_oinit B hl.1 u_33 u_34 u_35 ⟨Nat.le_of_ble_eq_true rfl, Nat.le_of_ble_eq_true rfl⟩ dX11_init_1 ?_
  refine lv_aload_n hx hb dX11_init_4 rfl (lv_at hl 0 rfl) ?_
  obtain ⟨C1, Z1, hq2, rfl, rfl⟩ := tick_e hq
  replace hq := hq2
  clear hq2
  refine d_new B hW (ci := 0) (kd := 1) inT_0 tyJx4a65c tyJx4a65c_ok u_36 u_37 u_4 rfl (fun j hj => by rcases (show j = 0 ∨ j = 1 ∨ j = 2 by omega) with rfl | rfl | rfl <;> rfl) dw_0 hT dX11_init_5 (fun H cells slots q1 S2 eq eS hW hT => ?_)
  replace hq := lt9_u eq hq
  replace hq := lt9_u eS hq
  have hkq1 : dK S2 q1 = 1 := by rw [eS, eq]; exact va_up_self _ _ _
  clear eS eq
  refine lv_dup hx hb dX11_init_8 rfl ?_
  obtain ⟨r3, S4, C1, Z1, C2, Z2, hg, hq2, rfl, rfl⟩ := bndc_e hq
  replace hq := hq2
  clear hq2
  refine d_rv (d_runI (As := []) (rest := [.ref q1, .ref d]) B hW hl.1 (c_Jx4a65c_init_da8c8 B.2.2.2.2.2.2.2.2.2.2 S2 q1 hg) u_38 u_39 u_4 u_40 rfl y1_Jx4a65c_init_da8c8 rfl ⟨Nat.le_of_ble_eq_true rfl, Nat.le_of_ble_eq_true rfl⟩ hT rfl (Nat.le_of_ble_eq_true rfl) dX11_init_9) hW hT (fun H locs cells slots hW hT => ?_)
  clear hg
  obtain ⟨hk5, hq⟩ := chk_e hq
  refine d_put B hW (ci := 11) inT_11 tyX11 tyX11_ok nmX11 rfl (dF_11 hk5) (by rw [hk5]; decide) (by rw [hk5]; decide) 0 (by decide) u_62 (Or.inl rfl) (Or.inr ⟨rfl, rfl, rfl⟩) (ty := (.object "java/util/ArrayList")) (tyX11_ok 0 (by decide)) rfl rfl (Nat.le_of_ble_eq_true rfl) (S1 := sP S4 1100 d (some q1)) (ds_11_0 hk5 (some q1)) ⟨rfl, rfl, rfl⟩ (fun b hb => dF_sP hb) dX11_init_12 (fun H locs hW => ?_)
  obtain ⟨S6, eS⟩ : ∃ z, z = sP S4 1100 d (some q1) := ⟨_, rfl⟩
  rw [← eS] at hW
  replace hq := lt9_u eS hq
  have hk7 : dK S6 d = 12 := by rw [eS]; exact hk5
  clear eS
  refine lv_aload_n hx hb dX11_init_15 rfl (lv_at hl 0 rfl) ?_
  obtain ⟨C1, Z1, hq2, rfl, rfl⟩ := tick_e hq
  replace hq := hq2
  clear hq2
  refine d_new B hW (ci := 0) (kd := 1) inT_0 tyJx4a65c tyJx4a65c_ok u_36 u_37 u_4 rfl (fun j hj => by rcases (show j = 0 ∨ j = 1 ∨ j = 2 by omega) with rfl | rfl | rfl <;> rfl) dw_0 hT dX11_init_16 (fun H cells slots q8 S9 eq eS hW hT => ?_)
  replace hq := lt9_u eq hq
  replace hq := lt9_u eS hq
  have hkq8 : dK S9 q8 = 1 := by rw [eS, eq]; exact va_up_self _ _ _
  clear eS eq
  refine lv_dup hx hb dX11_init_19 rfl ?_
  obtain ⟨r10, S11, C1, Z1, C2, Z2, hg, hq2, rfl, rfl⟩ := bndc_e hq
  replace hq := hq2
  clear hq2
  refine d_rv (d_runI (As := []) (rest := [.ref q8, .ref d]) B hW hl.1 (c_Jx4a65c_init_da8c8 B.2.2.2.2.2.2.2.2.2.2 S9 q8 hg) u_38 u_39 u_4 u_40 rfl y1_Jx4a65c_init_da8c8 rfl ⟨Nat.le_of_ble_eq_true rfl, Nat.le_of_ble_eq_true rfl⟩ hT rfl (Nat.le_of_ble_eq_true rfl) dX11_init_20) hW hT (fun H locs cells slots hW hT => ?_)
  clear hg
  obtain ⟨hk12, hq⟩ := chk_e hq
  refine d_put B hW (ci := 11) inT_11 tyX11 tyX11_ok nmX11 rfl (dF_11 hk12) (by rw [hk12]; decide) (by rw [hk12]; decide) 1 (by decide) u_63 (Or.inl rfl) (Or.inr ⟨rfl, rfl, rfl⟩) (ty := (.object "java/util/ArrayList")) (tyX11_ok 1 (by decide)) rfl rfl (Nat.le_of_ble_eq_true rfl) (S1 := sP S11 1101 d (some q8)) (ds_11_1 hk12 (some q8)) ⟨rfl, rfl, rfl⟩ (fun b hb => dF_sP hb) dX11_init_23 (fun H locs hW => ?_)
  obtain ⟨S13, eS⟩ : ∃ z, z = sP S11 1101 d (some q8) := ⟨_, rfl⟩
  rw [← eS] at hW
  replace hq := lt9_u eS hq
  have hk14 : dK S13 d = 12 := by rw [eS]; exact hk12
  clear eS
  refine lv_aload_n hx hb dX11_init_26 rfl (lv_at hl 0 rfl) ?_
  refine lv_sipush (v := 200) hx hb dX11_init_27 (by decide) ?_
  obtain ⟨hn, hq⟩ := chk_e hq
  obtain ⟨C1, Z1, hq2, rfl, rfl⟩ := tick_e hq
  replace hq := hq2
  clear hq2
  refine d_newI B hW u_96 hn hT dX11_init_30 (fun H cells slots q15 S16 eq eS hW hT => ?_)
  replace hq := lt9_u eq hq
  replace hq := lt9_u eS hq
  have hkq15 : dK S16 q15 = 20 := by rw [eS, eq]; exact va_up_self _ _ _
  clear eS eq
  obtain ⟨hk17, hq⟩ := chk_e hq
  refine d_put B hW (ci := 11) inT_11 tyX11 tyX11_ok nmX11 rfl (dF_11 hk17) (by rw [hk17]; decide) (by rw [hk17]; decide) 2 (by decide) u_64 (Or.inl rfl) (Or.inr ⟨rfl, rfl, rfl⟩) (ty := (.array .int)) (tyX11_ok 2 (by decide)) rfl rfl (Nat.le_of_ble_eq_true rfl) (S1 := sP S16 1102 d (some q15)) (ds_11_2 hk17 (some q15)) ⟨rfl, rfl, rfl⟩ (fun b hb => dF_sP hb) dX11_init_32 (fun H locs hW => ?_)
  obtain ⟨S18, eS⟩ : ∃ z, z = sP S16 1102 d (some q15) := ⟨_, rfl⟩
  rw [← eS] at hW
  replace hq := lt9_u eS hq
  have hk19 : dK S18 q15 = 20 := by rw [eS]; exact hkq15
  have hk20 : dK S18 d = 12 := by rw [eS]; exact hk17
  clear eS
  refine lv_aload_n hx hb dX11_init_35 rfl (lv_at hl 0 rfl) ?_
  refine lv_bipush (v := 64) hx hb dX11_init_36 (by decide) ?_
  obtain ⟨hn, hq⟩ := chk_e hq
  obtain ⟨C1, Z1, hq2, rfl, rfl⟩ := tick_e hq
  replace hq := hq2
  clear hq2
  refine d_newI B hW u_96 hn hT dX11_init_38 (fun H cells slots q21 S22 eq eS hW hT => ?_)
  replace hq := lt9_u eq hq
  replace hq := lt9_u eS hq
  have hkq21 : dK S22 q21 = 20 := by rw [eS, eq]; exact va_up_self _ _ _
  clear eS eq
  obtain ⟨hk23, hq⟩ := chk_e hq
  refine d_put B hW (ci := 11) inT_11 tyX11 tyX11_ok nmX11 rfl (dF_11 hk23) (by rw [hk23]; decide) (by rw [hk23]; decide) 4 (by decide) u_66 (Or.inl rfl) (Or.inl rfl) (ty := (.array .int)) (tyX11_ok 4 (by decide)) rfl rfl (Nat.le_of_ble_eq_true rfl) (S1 := sP S22 1104 d (some q21)) (ds_11_4 hk23 (some q21)) ⟨rfl, rfl, rfl⟩ (fun b hb => dF_sP hb) dX11_init_40 (fun H locs hW => ?_)
  obtain ⟨S24, eS⟩ : ∃ z, z = sP S22 1104 d (some q21) := ⟨_, rfl⟩
  rw [← eS] at hW
  replace hq := lt9_u eS hq
  have hk25 : dK S24 q21 = 20 := by rw [eS]; exact hkq21
  have hk26 : dK S24 d = 12 := by rw [eS]; exact hk23
  clear eS
  exact d_vret B hW hq hT dX11_init_43
