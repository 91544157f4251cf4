set_option maxHeartbeats 4000000 in
set_option maxRecDepth 100000 in
theorem k_lastly_64 {p : Program} {l : Launch} {e : Env} {s : State} {m : MethodId} {args : Array Value} {below : List Frame} {meth : Method} {c : Code} {D : va_G} {A : Nat → Prop} {G : MG} {r : Int32} {M' : MS} (B : mB p s m args meth c D G prog_14_method_40_code 3 (some .int) (Cond.code yX12_lastly prog_14_method_40_code 3 (some .int))) :
    ∀ (n : Nat) (M : MS) (v2 z0 z1 : Int32), q_lastly_64 n M v2 z0 z1 = some (r, M') → ∀ (H : Heap) (locs : List Loc) (ls : Array Slot), mOK D A G M s.heap H locs → lv_has ls 3 [(0, .ref G.2.2.1), (2, .int v2)] → W p l e (rM 3 77) s m args below meth c H locs 0 0 (MQ below (mQi D A G r M') args s 0 0 A) (F0 m 64 ls [.int z0, .int z1, .ref G.2.2.1]) := by
  have hx := B.1
  have hb := B.2.1
  intro n M v2 z0 z1 hq _ _ ls hW hl
  unfold q_lastly_64 at hq
  refine lv_iload_n hx hb dX12_lastly_64 rfl (lv_at hl 1 rfl) ?_
  refine lv_iload_n hx hb dX12_lastly_65 rfl (lv_at hl 1 rfl) ?_
  refine lv_iconst (v := (-1)) hx hb dX12_lastly_66 (by decide) ?_
  refine lv_icmp_ne (tgt := 74) hx hb dX12_lastly_67 (by decide) (fun hc => ?_) (fun hc => ?_)
  · replace hq := if_n hc hq
    refine lv_bipush (v := 9) hx hb dX12_lastly_74 (by decide) ?_
    refine lv_iload_n hx hb dX12_lastly_76 rfl (lv_at hl 1 rfl) ?_
    obtain ⟨r9, M8, hg, hq⟩ := bnd2_e hq
    refine m_calli (As := [.int z1, .int z0, .int v2, .int 9, .int v2]) (rest := []) B hW hl.1 (c_then n M z1 z0 v2 9 v2 hg) mC_then rfl ⟨by decide, by decide⟩ rfl (Nat.le_of_ble_eq_true rfl) dX12_lastly_77 (fun H locs hW => ?_)
    clear hg
    refine m_valueOf (rest := []) B hW hl.1 ⟨by decide, by decide⟩ (Nat.le_of_ble_eq_true rfl) dX12_lastly_80 (fun H locs hW => ?_)
    exact m_iret B hW hq dX12_lastly_83
  · replace hq := if_y hc hq
    refine lv_iconst (v := 0) hx hb dX12_lastly_70 (by decide) ?_
    refine lv_goto (tgt := 76) hx hb dX12_lastly_71 (by decide) ?_
    refine lv_iload_n hx hb dX12_lastly_76 rfl (lv_at hl 1 rfl) ?_
    obtain ⟨r11, M10, hg, hq⟩ := bnd2_e hq
    refine m_calli (As := [.int z1, .int z0, .int v2, .int 0, .int v2]) (rest := []) B hW hl.1 (c_then n M z1 z0 v2 0 v2 hg) mC_then rfl ⟨by decide, by decide⟩ rfl (Nat.le_of_ble_eq_true rfl) dX12_lastly_77 (fun H locs hW => ?_)
    clear hg
    refine m_valueOf (rest := []) B hW hl.1 ⟨by decide, by decide⟩ (Nat.le_of_ble_eq_true rfl) dX12_lastly_80 (fun H locs hW => ?_)
    exact m_iret B hW hq dX12_lastly_83
set_option maxHeartbeats 4000000 in
set_option maxRecDepth 100000 in
theorem k_lastly_33 {p : Program} {l : Launch} {e : Env} {s : State} {m : MethodId} {args : Array Value} {below : List Frame} {meth : Method} {c : Code} {D : va_G} {A : Nat → Prop} {G : MG} {r : Int32} {M' : MS} (B : mB p s m args meth c D G prog_14_method_40_code 3 (some .int) (Cond.code yX12_lastly prog_14_method_40_code 3 (some .int))) :
    ∀ (n : Nat) (M : MS) (v1 v2 : Int32), q_lastly_33 n M v1 v2 = some (r, M') → ∀ (H : Heap) (locs : List Loc) (ls : Array Slot), mOK D A G M s.heap H locs → lv_has ls 3 [(0, .ref G.2.2.1), (1, .int v1), (2, .int v2)] → W p l e (rM 3 77) s m args below meth c H locs 0 0 (MQ below (mQi D A G r M') args s 0 0 A) (F0 m 33 ls []) := by
  have hx := B.1
  have hb := B.2.1
  intro n M v1 v2 hq _ _ ls hW hl
  unfold q_lastly_33 at hq
  refine lv_aload_n hx hb dX12_lastly_33 rfl (lv_at hl 0 rfl) ?_
  refine lv_bipush (v := 8) hx hb dX12_lastly_34 (by decide) ?_
  obtain ⟨r7, M6, hg, hq⟩ := bnd2_e hq
  refine m_calli (As := [.int 8]) (rest := []) B hW hl.1 (c_isFull M 8 hg) mC_isFull rfl ⟨by decide, by decide⟩ rfl (Nat.le_of_ble_eq_true rfl) dX12_lastly_36 (fun H locs hW => ?_)
  clear hg
  refine lv_if_eq (tgt := 48) hx hb dX12_lastly_39 (by decide) (fun hc => ?_) (fun hc => ?_)
  · replace hq := if_y hc hq
    refine lv_aload_n hx hb dX12_lastly_48 rfl (lv_at hl 0 rfl) ?_
    refine lv_bipush (v := (-2)) hx hb dX12_lastly_49 (by decide) ?_
    refine lv_iload_n hx hb dX12_lastly_51 rfl (lv_at hl 1 rfl) ?_
    refine lv_isub hx hb dX12_lastly_52 ?_
    refine lv_iload_n hx hb dX12_lastly_53 rfl (lv_at hl 2 rfl) ?_
    refine lv_iconst (v := (-1)) hx hb dX12_lastly_54 (by decide) ?_
    refine lv_icmp_ne (tgt := 62) hx hb dX12_lastly_55 (by decide) (fun hc => ?_) (fun hc => ?_)
    · replace hq := if_n hc hq
      refine lv_bipush (v := 8) hx hb dX12_lastly_62 (by decide) ?_
      exact k_lastly_64 B n M6 v2 8 ((-2) - v1) hq _ _ ls hW (lv_sub hl [0, 2] rfl)
    · replace hq := if_y hc hq
      refine lv_iconst (v := 0) hx hb dX12_lastly_58 (by decide) ?_
      refine lv_goto (tgt := 64) hx hb dX12_lastly_59 (by decide) ?_
      exact k_lastly_64 B n M6 v2 0 ((-2) - v1) hq _ _ ls hW (lv_sub hl [0, 2] rfl)
  · replace hq := if_n hc hq
    refine lv_aload_n hx hb dX12_lastly_42 rfl (lv_at hl 0 rfl) ?_
    refine lv_iconst (v := 2) hx hb dX12_lastly_43 (by decide) ?_
    obtain ⟨r13, M12, hg, hq⟩ := bnd2_e hq
    refine m_calli (As := [.int 2]) (rest := []) B hW hl.1 (c_fails M6 2 hg) mC_fails rfl ⟨by decide, by decide⟩ rfl (Nat.le_of_ble_eq_true rfl) dX12_lastly_44 (fun H locs hW => ?_)
    clear hg
    exact m_iret B hW hq dX12_lastly_47
set_option maxHeartbeats 4000000 in
set_option maxRecDepth 100000 in
theorem c_lastly {l : Launch} {D : va_G} {A : Nat → Prop} {G : MG} (n : Nat) (M : MS) (p1 p2 : Int32) {r : Int32} {M' : MS} (hq : q_lastly n M p1 p2 = some (r, M')) : Met l yX12_lastly (wM yX12_lastly prog_14_method_40_code 3 (some .int)) (rM 3 77) (va_Pc [.ref G.2.2.1, .int p1, .int p2] (mPre D A G M)) (mQi D A G r M') 0 0 A := by
  refine m_head (by decide) rfl (Nat.le_of_ble_eq_true rfl) ?_
  intro p e s m args below meth c ls B hW hl
  have hx := B.1
  have hb := B.2.1
  have hl : lv_has ls 3 [(0, .ref G.2.2.1), (1, .int p1), (2, .int p2)] := hl
  unfold q_lastly at hq
  refine lv_aload_n hx hb dX12_lastly_0 rfl (lv_at hl 0 rfl) ?_
  refine lv_iconst (v := 0) hx hb dX12_lastly_1 (by decide) ?_
  refine m_put B hW 0 (by decide) u_842 mS_0 rfl (ty := .int) (tyX12_ok 0 (by decide)) rfl rfl (Nat.le_of_ble_eq_true rfl) dX12_lastly_2 (fun H locs M1 eM hW => ?_)
  replace hq := lt9_u eM hq
  clear eM
  refine lv_aload_n hx hb dX12_lastly_5 rfl (lv_at hl 0 rfl) ?_
  refine lv_iload_n hx hb dX12_lastly_6 rfl (lv_at hl 1 rfl) ?_
  refine lv_iconst (v := 0) hx hb dX12_lastly_7 (by decide) ?_
  obtain ⟨r3, M2, hg, hq⟩ := bnd2_e hq
  refine m_calli (As := [.int p1, .int 0]) (rest := []) B hW hl.1 (c_isKind M1 p1 0 hg) mC_isKind rfl ⟨by decide, by decide⟩ rfl (Nat.le_of_ble_eq_true rfl) dX12_lastly_8 (fun H locs hW => ?_)
  clear hg
  refine lv_if_eq (tgt := 27) hx hb dX12_lastly_11 (by decide) (fun hc => ?_) (fun hc => ?_)
  · replace hq := if_y hc hq
    refine lv_aload_n hx hb dX12_lastly_27 rfl (lv_at hl 0 rfl) ?_
    refine lv_iconst (v := 1) hx hb dX12_lastly_28 (by decide) ?_
    obtain ⟨r5, M4, hg, hq⟩ := bnd2_e hq
    refine m_calli (As := [.int 1]) (rest := []) B hW hl.1 (c_fails M2 1 hg) mC_fails rfl ⟨by decide, by decide⟩ rfl (Nat.le_of_ble_eq_true rfl) dX12_lastly_29 (fun H locs hW => ?_)
    clear hg
    exact m_iret B hW hq dX12_lastly_32
  · replace hq := if_n hc hq
    refine lv_iload_n hx hb dX12_lastly_14 rfl (lv_at hl 2 rfl) ?_
    refine lv_iconst (v := (-1)) hx hb dX12_lastly_15 (by decide) ?_
    refine lv_icmp_eq (tgt := 33) hx hb dX12_lastly_16 (by decide) (fun hc => ?_) (fun hc => ?_)
    · replace hq := if_y hc hq
      exact k_lastly_33 B n M2 p1 p2 hq _ _ ls hW (lv_sub hl [0, 1, 2] rfl)
    · replace hq := if_n hc hq
      refine lv_aload_n hx hb dX12_lastly_19 rfl (lv_at hl 0 rfl) ?_
      refine lv_iload_n hx hb dX12_lastly_20 rfl (lv_at hl 2 rfl) ?_
      obtain ⟨r15, M14, hg, hq⟩ := bnd2_e hq
      refine m_calli (As := [.int p2]) (rest := []) B hW hl.1 (c_isHandler M2 p2 hg) mC_isHandler rfl ⟨by decide, by decide⟩ rfl (Nat.le_of_ble_eq_true rfl) dX12_lastly_21 (fun H locs hW => ?_)
      clear hg
      refine lv_if_ne (tgt := 33) hx hb dX12_lastly_24 (by decide) (fun hc => ?_) (fun hc => ?_)
      · replace hq := if_n hc hq
        exact k_lastly_33 B n M14 p1 p2 hq _ _ ls hW (lv_sub hl [0, 1, 2] rfl)
      · replace hq := if_y hc hq
        refine lv_aload_n hx hb dX12_lastly_27 rfl (lv_at hl 0 rfl) ?_
        refine lv_iconst (v := 1) hx hb dX12_lastly_28 (by decide) ?_
        obtain ⟨r17, M16, hg, hq⟩ := bnd2_e hq
        refine m_calli (As := [.int 1]) (rest := []) B hW hl.1 (c_fails M14 1 hg) mC_fails rfl ⟨by decide, by decide⟩ rfl (Nat.le_of_ble_eq_true rfl) dX12_lastly_29 (fun H locs hW => ?_)
        clear hg
        exact m_iret B hW hq dX12_lastly_32
set_option maxHeartbeats 4000000 in
set_option maxRecDepth 100000 in
theorem c_promiseOf {l : Launch} {D : va_G} {A : Nat → Prop} {G : MG} (n : Nat) (M : MS) (p1 : Int32) {r : Int32} {M' : MS} (hq : q_promiseOf n M p1 = some (r, M')) : Met l yX12_promiseOf (wM yX12_promiseOf prog_14_method_19_code 3 (some .int)) (rM 3 71) (va_Pc [.ref G.2.2.1, .int p1] (mPre D A G M)) (mQi D A G r M') 0 0 A := by
  refine m_head (by decide) rfl (Nat.le_of_ble_eq_true rfl) ?_
  intro p e s m args below meth c ls B hW hl
  have hx := B.1
  have hb := B.2.1
  have hl : lv_has ls 3 [(0, .ref G.2.2.1), (1, .int p1)] := hl
  unfold q_promiseOf at hq
  refine lv_aload_n hx hb dX12_promiseOf_0 rfl (lv_at hl 0 rfl) ?_
  refine lv_iload_n hx hb dX12_promiseOf_1 rfl (lv_at hl 1 rfl) ?_
  refine lv_iconst (v := 0) hx hb dX12_promiseOf_2 (by decide) ?_
  obtain ⟨r2, M1, hg, hq⟩ := bnd2_e hq
  refine m_calli (As := [.int p1, .int 0]) (rest := []) B hW hl.1 (c_isKind M p1 0 hg) mC_isKind rfl ⟨by decide, by decide⟩ rfl (Nat.le_of_ble_eq_true rfl) dX12_promiseOf_3 (fun H locs hW => ?_)
  clear hg
  refine lv_if_eq (tgt := 14) hx hb dX12_promiseOf_6 (by decide) (fun hc => ?_) (fun hc => ?_)
  · replace hq := if_y hc hq
    refine lv_aload_n hx hb dX12_promiseOf_14 rfl (lv_at hl 0 rfl) ?_
    obtain ⟨r4, M3, hg, hq⟩ := bnd2_e hq
    refine m_calli (As := []) (rest := []) B hW hl.1 (c_capability M1 hg) mC_capability rfl ⟨by decide, by decide⟩ rfl (Nat.le_of_ble_eq_true rfl) dX12_promiseOf_15 (fun H locs hW => ?_)
    clear hg
    refine lv_istore_n (lv' := [(2, .int r4), (0, .ref G.2.2.1), (1, .int p1)]) hx hb dX12_promiseOf_18 rfl hl (by decide) rfl (fun ls hl => ?_)
    refine lv_aload_n hx hb dX12_promiseOf_19 rfl (lv_at hl 1 rfl) ?_
    refine lv_iload_n hx hb dX12_promiseOf_20 rfl (lv_at hl 0 rfl) ?_
    refine lv_iload_n hx hb dX12_promiseOf_21 rfl (lv_at hl 2 rfl) ?_
    obtain ⟨M5, hg, hq⟩ := bnd_e hq
    refine m_callv (As := [.int r4, .int p1]) (rest := []) B hW hl.1 (c_resolve n M3 r4 p1 hg) mC_resolve rfl ⟨by decide, by decide⟩ rfl (Nat.le_of_ble_eq_true rfl) dX12_promiseOf_22 (fun H locs hW => ?_)
    clear hg
    refine lv_aload_n hx hb dX12_promiseOf_25 rfl (lv_at hl 1 rfl) ?_
    refine m_get B hW 13 (by decide) u_855 (v := .ref (G.2.2.2 13)) rfl dX12_promiseOf_26 ?_
    refine lv_iload_n hx hb dX12_promiseOf_29 rfl (lv_at hl 0 rfl) ?_
    obtain ⟨hc, hq⟩ := chk_e hq
    refine m_iald B hW mA_13 hc dX12_promiseOf_30 ?_
    exact m_iret B hW hq dX12_promiseOf_31
  · replace hq := if_n hc hq
    refine lv_bipush (v := (-2)) hx hb dX12_promiseOf_9 (by decide) ?_
    refine lv_iload_n hx hb dX12_promiseOf_11 rfl (lv_at hl 1 rfl) ?_
    refine lv_isub hx hb dX12_promiseOf_12 ?_
    exact m_iret B hW hq dX12_promiseOf_13
theorem mC_promiseOf : mC yX12_promiseOf prog_14_method_19_code 3 (some .int) 214 1 := ⟨fun _ => g_V u_1103 u_1105 us_55 u_5 u_1106, by decide +kernel⟩
set_option maxHeartbeats 4000000 in
set_option maxRecDepth 100000 in
theorem c_wrap {l : Launch} {D : va_G} {A : Nat → Prop} {G : MG} (n : Nat) (M : MS) (p1 : Int32) {r : Int32} {M' : MS} (hq : q_wrap n M p1 = some (r, M')) : Met l yX12_wrap (wM yX12_wrap prog_14_method_41_code 2 (some .int)) (rM 4 93) (va_Pc [.ref G.2.2.1, .int p1] (mPre D A G M)) (mQi D A G r M') 0 0 A := by
  refine m_head (by decide) rfl (Nat.le_of_ble_eq_true rfl) ?_
  intro p e s m args below meth c ls B hW hl
  have hx := B.1
  have hb := B.2.1
  have hl : lv_has ls 2 [(0, .ref G.2.2.1), (1, .int p1)] := hl
  unfold q_wrap at hq
  refine lv_aload_n hx hb dX12_wrap_0 rfl (lv_at hl 0 rfl) ?_
  refine lv_iconst (v := 0) hx hb dX12_wrap_1 (by decide) ?_
  refine m_put B hW 0 (by decide) u_842 mS_0 rfl (ty := .int) (tyX12_ok 0 (by decide)) rfl rfl (Nat.le_of_ble_eq_true rfl) dX12_wrap_2 (fun H locs M1 eM hW => ?_)
  replace hq := lt9_u eM hq
  clear eM
  refine lv_aload_n hx hb dX12_wrap_5 rfl (lv_at hl 0 rfl) ?_
  refine lv_iload_n hx hb dX12_wrap_6 rfl (lv_at hl 1 rfl) ?_
  obtain ⟨r3, M2, hg, hq⟩ := bnd2_e hq
  refine m_calli (As := [.int p1]) (rest := []) B hW hl.1 (c_isValue M1 p1 hg) mC_isValue rfl ⟨by decide, by decide⟩ rfl (Nat.le_of_ble_eq_true rfl) dX12_wrap_7 (fun H locs hW => ?_)
  clear hg
  refine lv_if_ne (tgt := 19) hx hb dX12_wrap_10 (by decide) (fun hc => ?_) (fun hc => ?_)
  · replace hq := if_n hc hq
    refine lv_aload_n hx hb dX12_wrap_19 rfl (lv_at hl 0 rfl) ?_
    refine lv_bipush (v := 8) hx hb dX12_wrap_20 (by decide) ?_
    obtain ⟨r5, M4, hg, hq⟩ := bnd2_e hq
    refine m_calli (As := [.int 8]) (rest := []) B hW hl.1 (c_isFull M2 8 hg) mC_isFull rfl ⟨by decide, by decide⟩ rfl (Nat.le_of_ble_eq_true rfl) dX12_wrap_22 (fun H locs hW => ?_)
    clear hg
    refine lv_if_eq (tgt := 34) hx hb dX12_wrap_25 (by decide) (fun hc => ?_) (fun hc => ?_)
    · replace hq := if_y hc hq
      refine lv_aload_n hx hb dX12_wrap_34 rfl (lv_at hl 0 rfl) ?_
      refine lv_iload_n hx hb dX12_wrap_35 rfl (lv_at hl 1 rfl) ?_
      obtain ⟨r7, M6, hg, hq⟩ := bnd2_e hq
      refine m_calli (As := [.int p1]) (rest := []) B hW hl.1 (c_promiseOf n M4 p1 hg) mC_promiseOf rfl ⟨by decide, by decide⟩ rfl (Nat.le_of_ble_eq_true rfl) dX12_wrap_36 (fun H locs hW => ?_)
      clear hg
      refine m_valueOf (rest := []) B hW hl.1 ⟨by decide, by decide⟩ (Nat.le_of_ble_eq_true rfl) dX12_wrap_39 (fun H locs hW => ?_)
      exact m_iret B hW hq dX12_wrap_42
    · replace hq := if_n hc hq
      refine lv_aload_n hx hb dX12_wrap_28 rfl (lv_at hl 0 rfl) ?_
      refine lv_iconst (v := 2) hx hb dX12_wrap_29 (by decide) ?_
      obtain ⟨r9, M8, hg, hq⟩ := bnd2_e hq
      refine m_calli (As := [.int 2]) (rest := []) B hW hl.1 (c_fails M4 2 hg) mC_fails rfl ⟨by decide, by decide⟩ rfl (Nat.le_of_ble_eq_true rfl) dX12_wrap_30 (fun H locs hW => ?_)
      clear hg
      exact m_iret B hW hq dX12_wrap_33
  · replace hq := if_y hc hq
    refine lv_aload_n hx hb dX12_wrap_13 rfl (lv_at hl 0 rfl) ?_
    refine lv_iconst (v := 1) hx hb dX12_wrap_14 (by decide) ?_
    obtain ⟨r11, M10, hg, hq⟩ := bnd2_e hq
    refine m_calli (As := [.int 1]) (rest := []) B hW hl.1 (c_fails M2 1 hg) mC_fails rfl ⟨by decide, by decide⟩ rfl (Nat.le_of_ble_eq_true rfl) dX12_wrap_15 (fun H locs hW => ?_)
    clear hg
    exact m_iret B hW hq dX12_wrap_18
set_option maxHeartbeats 4000000 in
set_option maxRecDepth 100000 in
theorem c_broken {l : Launch} {D : va_G} {A : Nat → Prop} {G : MG} (n : Nat) (M : MS) (p1 : Int32) {r : Int32} {M' : MS} (hq : q_broken n M p1 = some (r, M')) : Met l yX12_broken (wM yX12_broken prog_14_method_42_code 3 (some .int)) (rM 3 69) (va_Pc [.ref G.2.2.1, .int p1] (mPre D A G M)) (mQi D A G r M') 0 0 A := by
  refine m_head (by decide) rfl (Nat.le_of_ble_eq_true rfl) ?_
  intro p e s m args below meth c ls B hW hl
  have hx := B.1
  have hb := B.2.1
  have hl : lv_has ls 3 [(0, .ref G.2.2.1), (1, .int p1)] := hl
  unfold q_broken at hq
  refine lv_aload_n hx hb dX12_broken_0 rfl (lv_at hl 0 rfl) ?_
  refine lv_iconst (v := 0) hx hb dX12_broken_1 (by decide) ?_
  refine m_put B hW 0 (by decide) u_842 mS_0 rfl (ty := .int) (tyX12_ok 0 (by decide)) rfl rfl (Nat.le_of_ble_eq_true rfl) dX12_broken_2 (fun H locs M1 eM hW => ?_)
  replace hq := lt9_u eM hq
  clear eM
  refine lv_aload_n hx hb dX12_broken_5 rfl (lv_at hl 0 rfl) ?_
  refine lv_iload_n hx hb dX12_broken_6 rfl (lv_at hl 1 rfl) ?_
  obtain ⟨r3, M2, hg, hq⟩ := bnd2_e hq
  refine m_calli (As := [.int p1]) (rest := []) B hW hl.1 (c_isValue M1 p1 hg) mC_isValue rfl ⟨by decide, by decide⟩ rfl (Nat.le_of_ble_eq_true rfl) dX12_broken_7 (fun H locs hW => ?_)
  clear hg
  refine lv_if_ne (tgt := 19) hx hb dX12_broken_10 (by decide) (fun hc => ?_) (fun hc => ?_)
  · replace hq := if_n hc hq
    refine lv_aload_n hx hb dX12_broken_19 rfl (lv_at hl 0 rfl) ?_
    refine lv_bipush (v := 8) hx hb dX12_broken_20 (by decide) ?_
    obtain ⟨r5, M4, hg, hq⟩ := bnd2_e hq
    refine m_calli (As := [.int 8]) (rest := []) B hW hl.1 (c_isFull M2 8 hg) mC_isFull rfl ⟨by decide, by decide⟩ rfl (Nat.le_of_ble_eq_true rfl) dX12_broken_22 (fun H locs hW => ?_)
    clear hg
    refine lv_if_eq (tgt := 34) hx hb dX12_broken_25 (by decide) (fun hc => ?_) (fun hc => ?_)
    · replace hq := if_y hc hq
      refine lv_aload_n hx hb dX12_broken_34 rfl (lv_at hl 0 rfl) ?_
      obtain ⟨r7, M6, hg, hq⟩ := bnd2_e hq
      refine m_calli (As := []) (rest := []) B hW hl.1 (c_capability M4 hg) mC_capability rfl ⟨by decide, by decide⟩ rfl (Nat.le_of_ble_eq_true rfl) dX12_broken_35 (fun H locs hW => ?_)
      clear hg
      refine lv_istore_n (lv' := [(2, .int r7), (0, .ref G.2.2.1), (1, .int p1)]) hx hb dX12_broken_38 rfl hl (by decide) rfl (fun ls hl => ?_)
      refine lv_aload_n hx hb dX12_broken_39 rfl (lv_at hl 1 rfl) ?_
      refine lv_iload_n hx hb dX12_broken_40 rfl (lv_at hl 0 rfl) ?_
      refine lv_iload_n hx hb dX12_broken_41 rfl (lv_at hl 2 rfl) ?_
      obtain ⟨M8, hg, hq⟩ := bnd_e hq
      refine m_callv (As := [.int r7, .int p1]) (rest := []) B hW hl.1 (c_reject n M6 r7 p1 hg) mC_reject rfl ⟨by decide, by decide⟩ rfl (Nat.le_of_ble_eq_true rfl) dX12_broken_42 (fun H locs hW => ?_)
      clear hg
      refine lv_aload_n hx hb dX12_broken_45 rfl (lv_at hl 1 rfl) ?_
      refine m_get B hW 13 (by decide) u_855 (v := .ref (G.2.2.2 13)) rfl dX12_broken_46 ?_
      refine lv_iload_n hx hb dX12_broken_49 rfl (lv_at hl 0 rfl) ?_
      obtain ⟨hc, hq⟩ := chk_e hq
      refine m_iald B hW mA_13 hc dX12_broken_50 ?_
      refine m_valueOf (rest := []) B hW hl.1 ⟨by decide, by decide⟩ (Nat.le_of_ble_eq_true rfl) dX12_broken_51 (fun H locs hW => ?_)
      exact m_iret B hW hq dX12_broken_54
    · replace hq := if_n hc hq
      refine lv_aload_n hx hb dX12_broken_28 rfl (lv_at hl 0 rfl) ?_
      refine lv_iconst (v := 2) hx hb dX12_broken_29 (by decide) ?_
      obtain ⟨r10, M9, hg, hq⟩ := bnd2_e hq
      refine m_calli (As := [.int 2]) (rest := []) B hW hl.1 (c_fails M4 2 hg) mC_fails rfl ⟨by decide, by decide⟩ rfl (Nat.le_of_ble_eq_true rfl) dX12_broken_30 (fun H locs hW => ?_)
      clear hg
      exact m_iret B hW hq dX12_broken_33
  · replace hq := if_y hc hq
    refine lv_aload_n hx hb dX12_broken_13 rfl (lv_at hl 0 rfl) ?_
    refine lv_iconst (v := 1) hx hb dX12_broken_14 (by decide) ?_
    obtain ⟨r12, M11, hg, hq⟩ := bnd2_e hq
    refine m_calli (As := [.int 1]) (rest := []) B hW hl.1 (c_fails M2 1 hg) mC_fails rfl ⟨by decide, by decide⟩ rfl (Nat.le_of_ble_eq_true rfl) dX12_broken_15 (fun H locs hW => ?_)
    clear hg
    exact m_iret B hW hq dX12_broken_18
set_option maxHeartbeats 4000000 in
set_option maxRecDepth 100000 in
theorem c_item {l : Launch} {D : va_G} {A : Nat → Prop} {G : MG} (M : MS) (p1 : Int32) {r : Int32} {M' : MS} (hq : q_item M p1 = some (r, M')) : Met l yX12_item (wM yX12_item prog_14_method_43_code 2 (some .int)) (rM 2 42) (va_Pc [.ref G.2.2.1, .int p1] (mPre D A G M)) (mQi D A G r M') 0 0 A := by
  refine m_head (by decide) rfl (Nat.le_of_ble_eq_true rfl) ?_
  intro p e s m args below meth c ls B hW hl
  have hx := B.1
  have hb := B.2.1
  have hl : lv_has ls 2 [(0, .ref G.2.2.1), (1, .int p1)] := hl
  unfold q_item at hq
  refine lv_aload_n hx hb dX12_item_0 rfl (lv_at hl 0 rfl) ?_
  refine lv_iconst (v := 0) hx hb dX12_item_1 (by decide) ?_
  refine m_put B hW 0 (by decide) u_842 mS_0 rfl (ty := .int) (tyX12_ok 0 (by decide)) rfl rfl (Nat.le_of_ble_eq_true rfl) dX12_item_2 (fun H locs M1 eM hW => ?_)
  replace hq := lt9_u eM hq
  clear eM
  refine lv_aload_n hx hb dX12_item_5 rfl (lv_at hl 0 rfl) ?_
  refine lv_iload_n hx hb dX12_item_6 rfl (lv_at hl 1 rfl) ?_
  obtain ⟨r3, M2, hg, hq⟩ := bnd2_e hq
  refine m_calli (As := [.int p1]) (rest := []) B hW hl.1 (c_isValue M1 p1 hg) mC_isValue rfl ⟨by decide, by decide⟩ rfl (Nat.le_of_ble_eq_true rfl) dX12_item_7 (fun H locs hW => ?_)
  clear hg
  refine lv_if_ne (tgt := 19) hx hb dX12_item_10 (by decide) (fun hc => ?_) (fun hc => ?_)
  · replace hq := if_n hc hq
    refine lv_aload_n hx hb dX12_item_19 rfl (lv_at hl 0 rfl) ?_
    refine m_get B hW 38 (by decide) u_880 (v := .int (M2 38 0)) rfl dX12_item_20 ?_
    refine lv_sipush (v := 200) hx hb dX12_item_23 (by decide) ?_
    refine lv_icmp_ne (tgt := 35) hx hb dX12_item_26 (by decide) (fun hc => ?_) (fun hc => ?_)
    · replace hq := if_n hc hq
      refine lv_aload_n hx hb dX12_item_35 rfl (lv_at hl 0 rfl) ?_
      refine m_get B hW 37 (by decide) u_879 (v := .ref (G.2.2.2 37)) rfl dX12_item_36 ?_
      refine lv_aload_n hx hb dX12_item_39 rfl (lv_at hl 0 rfl) ?_
      refine m_get B hW 38 (by decide) u_880 (v := .int (M2 38 0)) rfl dX12_item_40 ?_
      refine lv_iload_n hx hb dX12_item_43 rfl (lv_at hl 1 rfl) ?_
      obtain ⟨hc, hq⟩ := chk_e hq
      refine m_iast B hW mA_37 hc dX12_item_44 (fun H locs M4 eM hW => ?_)
      replace hq := lt9_u eM hq
      clear eM
      refine lv_aload_n hx hb dX12_item_45 rfl (lv_at hl 0 rfl) ?_
      refine lv_dup hx hb dX12_item_46 rfl ?_
      refine m_get B hW 38 (by decide) u_880 (v := .int (M4 38 0)) rfl dX12_item_47 ?_
      refine lv_iconst (v := 1) hx hb dX12_item_50 (by decide) ?_
      refine lv_iadd hx hb dX12_item_51 ?_
      refine m_put B hW 38 (by decide) u_880 mS_38 rfl (ty := .int) (tyX12_ok 38 (by decide)) rfl rfl (Nat.le_of_ble_eq_true rfl) dX12_item_52 (fun H locs M5 eM hW => ?_)
      replace hq := lt9_u eM hq
      clear eM
      refine lv_aload_n hx hb dX12_item_55 rfl (lv_at hl 0 rfl) ?_
      refine m_get B hW 38 (by decide) u_880 (v := .int (M5 38 0)) rfl dX12_item_56 ?_
      exact m_iret B hW hq dX12_item_59
    · replace hq := if_y hc hq
      refine lv_aload_n hx hb dX12_item_29 rfl (lv_at hl 0 rfl) ?_
      refine lv_iconst (v := 2) hx hb dX12_item_30 (by decide) ?_
      obtain ⟨r7, M6, hg, hq⟩ := bnd2_e hq
      refine m_calli (As := [.int 2]) (rest := []) B hW hl.1 (c_fails M2 2 hg) mC_fails rfl ⟨by decide, by decide⟩ rfl (Nat.le_of_ble_eq_true rfl) dX12_item_31 (fun H locs hW => ?_)
      clear hg
      exact m_iret B hW hq dX12_item_34
  · replace hq := if_y hc hq
    refine lv_aload_n hx hb dX12_item_13 rfl (lv_at hl 0 rfl) ?_
    refine lv_iconst (v := 1) hx hb dX12_item_14 (by decide) ?_
    obtain ⟨r9, M8, hg, hq⟩ := bnd2_e hq
    refine m_calli (As := [.int 1]) (rest := []) B hW hl.1 (c_fails M2 1 hg) mC_fails rfl ⟨by decide, by decide⟩ rfl (Nat.le_of_ble_eq_true rfl) dX12_item_15 (fun H locs hW => ?_)
    clear hg
    exact m_iret B hW hq dX12_item_18
set_option maxHeartbeats 4000000 in
set_option maxRecDepth 100000 in
theorem c_array {l : Launch} {D : va_G} {A : Nat → Prop} {G : MG} (M : MS) (p1 p2 : Int32) {r : Int32} {M' : MS} (hq : q_array M p1 p2 = some (r, M')) : Met l yX12_array (wM yX12_array prog_14_method_24_code 4 (some .int)) (rM 1 22) (va_Pc [.ref G.2.2.1, .int p1, .int p2] (mPre D A G M)) (mQi D A G r M') 0 0 A := by
  refine m_head (by decide) rfl (Nat.le_of_ble_eq_true rfl) ?_
  intro p e s m args below meth c ls B hW hl
  have hx := B.1
  have hb := B.2.1
  have hl : lv_has ls 4 [(0, .ref G.2.2.1), (1, .int p1), (2, .int p2)] := hl
  unfold q_array at hq
  refine lv_aload_n hx hb dX12_array_0 rfl (lv_at hl 0 rfl) ?_
  refine lv_iload_n hx hb dX12_array_1 rfl (lv_at hl 2 rfl) ?_
  obtain ⟨r2, M1, hg, hq⟩ := bnd2_e hq
  refine m_calli (As := [.int p2]) (rest := []) B hW hl.1 (c_newObject M p2 hg) mC_newObject rfl ⟨by decide, by decide⟩ rfl (Nat.le_of_ble_eq_true rfl) dX12_array_2 (fun H locs hW => ?_)
  clear hg
  refine lv_istore_n (lv' := [(3, .int r2), (0, .ref G.2.2.1), (1, .int p1), (2, .int p2)]) hx hb dX12_array_5 rfl hl (by decide) rfl (fun ls hl => ?_)
  refine lv_aload_n hx hb dX12_array_6 rfl (lv_at hl 1 rfl) ?_
  refine m_get B hW 8 (by decide) u_850 (v := .ref (G.2.2.2 8)) rfl dX12_array_7 ?_
  refine lv_iload_n hx hb dX12_array_10 rfl (lv_at hl 0 rfl) ?_
  refine lv_aload_n hx hb dX12_array_11 rfl (lv_at hl 1 rfl) ?_
  refine m_get B hW 43 (by decide) u_885 (v := .ref (G.2.2.2 43)) rfl dX12_array_12 ?_
  refine lv_iload_n hx hb dX12_array_15 rfl (lv_at hl 2 rfl) ?_
  obtain ⟨hc, hq⟩ := chk_e hq
  refine m_iald B hW mA_43 hc dX12_array_16 ?_
  obtain ⟨hc, hq⟩ := chk_e hq
  refine m_iast B hW mA_8 hc dX12_array_17 (fun H locs M3 eM hW => ?_)
  replace hq := lt9_u eM hq
  clear eM
  refine lv_aload_n hx hb dX12_array_18 rfl (lv_at hl 1 rfl) ?_
  refine m_get B hW 9 (by decide) u_851 (v := .ref (G.2.2.2 9)) rfl dX12_array_19 ?_
  refine lv_iload_n hx hb dX12_array_22 rfl (lv_at hl 0 rfl) ?_
  refine lv_aload_n hx hb dX12_array_23 rfl (lv_at hl 1 rfl) ?_
  refine m_get B hW 44 (by decide) u_886 (v := .ref (G.2.2.2 44)) rfl dX12_array_24 ?_
  refine lv_iload_n hx hb dX12_array_27 rfl (lv_at hl 2 rfl) ?_
  obtain ⟨hc, hq⟩ := chk_e hq
  refine m_iald B hW mA_44 hc dX12_array_28 ?_
  obtain ⟨hc, hq⟩ := chk_e hq
  refine m_iast B hW mA_9 hc dX12_array_29 (fun H locs M4 eM hW => ?_)
  replace hq := lt9_u eM hq
  clear eM
  refine lv_iload_n hx hb dX12_array_30 rfl (lv_at hl 0 rfl) ?_
  refine m_valueOf (rest := []) B hW hl.1 ⟨by decide, by decide⟩ (Nat.le_of_ble_eq_true rfl) dX12_array_31 (fun H locs hW => ?_)
  exact m_iret B hW hq dX12_array_34
theorem mC_array : mC yX12_array prog_14_method_24_code 4 (some .int) 228 2 := ⟨fun _ => g_V u_1127 u_1129 us_58 u_5 u_1130, by decide +kernel⟩
set_option maxHeartbeats 4000000 in
set_option maxRecDepth 100000 in
theorem c_finish {l : Launch} {D : va_G} {A : Nat → Prop} {G : MG} (n : Nat) (M : MS) (p1 p2 : Int32) {M' : MS} (hq : q_finish n M p1 p2 = some M') : Met l yX12_finish (wM yX12_finish prog_14_method_26_code 4 none) (rM 3 71) (va_Pc [.ref G.2.2.1, .int p1, .int p2] (mPre D A G M)) (mQv D A G M') 0 0 A := by
  refine m_head (by decide) rfl (Nat.le_of_ble_eq_true rfl) ?_
  intro p e s m args below meth c ls B hW hl
  have hx := B.1
  have hb := B.2.1
  have hl : lv_has ls 4 [(0, .ref G.2.2.1), (1, .int p1), (2, .int p2)] := hl
  unfold q_finish at hq
  refine lv_iload_n hx hb dX12_finish_0 rfl (lv_at hl 2 rfl) ?_
  refine lv_if_eq (tgt := 32) hx hb dX12_finish_1 (by decide) (fun hc => ?_) (fun hc => ?_)
  · replace hq := if_y hc hq
    refine lv_aload_n hx hb dX12_finish_32 rfl (lv_at hl 0 rfl) ?_
    refine lv_aload_n hx hb dX12_finish_33 rfl (lv_at hl 0 rfl) ?_
    refine m_get B hW 46 (by decide) u_888 (v := .ref (G.2.2.2 46)) rfl dX12_finish_34 ?_
    refine lv_iload_n hx hb dX12_finish_37 rfl (lv_at hl 1 rfl) ?_
    obtain ⟨hc, hq⟩ := chk_e hq
    refine m_iald B hW mA_46 hc dX12_finish_38 ?_
    refine lv_aload_n hx hb dX12_finish_39 rfl (lv_at hl 0 rfl) ?_
    refine lv_iload_n hx hb dX12_finish_40 rfl (lv_at hl 1 rfl) ?_
    refine lv_iconst (v := 4) hx hb dX12_finish_41 (by decide) ?_
    obtain ⟨r2, M1, hg, hq⟩ := bnd2_e hq
    refine m_calli (As := [.int p1, .int 4]) (rest := [.int (M 46 p1.toNatClampNeg), .ref G.2.2.1]) B hW hl.1 (c_array M p1 4 hg) mC_array rfl ⟨by decide, by decide⟩ rfl (Nat.le_of_ble_eq_true rfl) dX12_finish_42 (fun H locs hW => ?_)
    clear hg
    obtain ⟨M3, hg, hq⟩ := bnd_e hq
    refine m_callv (As := [.int (M 46 p1.toNatClampNeg), .int r2]) (rest := []) B hW hl.1 (c_resolve n M1 (M 46 p1.toNatClampNeg) r2 hg) mC_resolve rfl ⟨by decide, by decide⟩ rfl (Nat.le_of_ble_eq_true rfl) dX12_finish_45 (fun H locs hW => ?_)
    clear hg
    exact m_vret B hW hq dX12_finish_48
  · replace hq := if_n hc hq
    refine lv_aload_n hx hb dX12_finish_4 rfl (lv_at hl 0 rfl) ?_
    refine lv_iload_n hx hb dX12_finish_5 rfl (lv_at hl 1 rfl) ?_
    refine lv_iconst (v := 3) hx hb dX12_finish_6 (by decide) ?_
    obtain ⟨r5, M4, hg, hq⟩ := bnd2_e hq
    refine m_calli (As := [.int p1, .int 3]) (rest := []) B hW hl.1 (c_array M p1 3 hg) mC_array rfl ⟨by decide, by decide⟩ rfl (Nat.le_of_ble_eq_true rfl) dX12_finish_7 (fun H locs hW => ?_)
    clear hg
    refine lv_istore_n (lv' := [(3, .int r5), (0, .ref G.2.2.1), (1, .int p1), (2, .int p2)]) hx hb dX12_finish_10 rfl hl (by decide) rfl (fun ls hl => ?_)
    refine lv_aload_n hx hb dX12_finish_11 rfl (lv_at hl 1 rfl) ?_
    refine lv_iload_n hx hb dX12_finish_12 rfl (lv_at hl 2 rfl) ?_
    refine lv_iconst (v := 4) hx hb dX12_finish_13 (by decide) ?_
    obtain ⟨r7, M6, hg, hq⟩ := bnd2_e hq
    refine m_calli (As := [.int p1, .int 4]) (rest := []) B hW hl.1 (c_array M4 p1 4 hg) mC_array rfl ⟨by decide, by decide⟩ rfl (Nat.le_of_ble_eq_true rfl) dX12_finish_14 (fun H locs hW => ?_)
    clear hg
    refine lv_pop hx hb dX12_finish_17 rfl ?_
    refine lv_aload_n hx hb dX12_finish_18 rfl (lv_at hl 1 rfl) ?_
    refine lv_aload_n hx hb dX12_finish_19 rfl (lv_at hl 1 rfl) ?_
    refine m_get B hW 46 (by decide) u_888 (v := .ref (G.2.2.2 46)) rfl dX12_finish_20 ?_
    refine lv_iload_n hx hb dX12_finish_23 rfl (lv_at hl 2 rfl) ?_
    obtain ⟨hc, hq⟩ := chk_e hq
    refine m_iald B hW mA_46 hc dX12_finish_24 ?_
    refine lv_iload_n hx hb dX12_finish_25 rfl (lv_at hl 0 rfl) ?_
    obtain ⟨M8, hg, hq⟩ := bnd_e hq
    refine m_callv (As := [.int (M6 46 p1.toNatClampNeg), .int r5]) (rest := []) B hW hl.1 (c_reject n M6 (M6 46 p1.toNatClampNeg) r5 hg) mC_reject rfl ⟨by decide, by decide⟩ rfl (Nat.le_of_ble_eq_true rfl) dX12_finish_26 (fun H locs hW => ?_)
    clear hg
    refine lv_goto (tgt := 48) hx hb dX12_finish_29 (by decide) ?_
    exact m_vret B hW hq dX12_finish_48
theorem mC_finish : mC yX12_finish prog_14_method_26_code 4 none 224 2 := ⟨fun _ => g_V u_1123 u_1125 us_57 u_5 u_1126, by decide +kernel⟩
set_option maxHeartbeats 4000000 in
set_option maxRecDepth 100000 in
theorem k_group_37 {p : Program} {l : Launch} {e : Env} {s : State} {m : MethodId} {args : Array Value} {below : List Frame} {meth : Method} {c : Code} {D : va_G} {A : Nat → Prop} {G : MG} {r : Int32} {M' : MS} (B : mB p s m args meth c D G prog_14_method_32_code 3 (some .int) (Cond.code yX12_group prog_14_method_32_code 3 (some .int))) :
    ∀ (n : Nat) (M : MS) (v1 v2 : Int32), q_group_37 n M v1 v2 = some (r, M') → ∀ (H : Heap) (locs : List Loc) (ls : Array Slot), mOK D A G M s.heap H locs → lv_has ls 3 [(0, .ref G.2.2.1), (1, .int v1), (2, .int v2)] → W p l e (rM 0 0) s m args below meth c H locs 0 0 (MQ below (mQi D A G r M') args s 0 0 A) (F0 m 37 ls []) := by
  have hx := B.1
  have hb := B.2.1
  intro n
  induction n with
  | zero => intro M v1 v2 hq; cases hq
  | succ n ih =>
    intro M v1 v2 hq _ _ ls hW hl
    replace hq : (if (M 38 0) ≤ v2 then lt9 (mput M 38 0 0) (fun M4 => some (v1, M4)) else chk (inb v2 200) (chk (inb (M 42 0) 20000) (lt9 (mput M 39 (M 42 0).toNatClampNeg (M 37 v2.toNatClampNeg)) (fun M5 => chk (inb (M5 42 0) 20000) (lt9 (mput M5 40 (M5 42 0).toNatClampNeg v1) (fun M6 => chk (inb (M6 42 0) 20000) (chk (isB 0) (lt9 (mput M6 41 (M6 42 0).toNatClampNeg 0) (fun M7 => lt9 (mput M7 42 0 ((M7 42 0) + 1)) (fun M8 => q_group_37 n M8 v1 (v2 + 1))))))))))) = some (r, M') := hq
    refine lv_iload_n hx hb dX12_group_37 rfl (lv_at hl 2 rfl) ?_
    refine lv_aload_n hx hb dX12_group_38 rfl (lv_at hl 0 rfl) ?_
    refine m_get B hW 38 (by decide) u_880 (v := .int (M 38 0)) rfl dX12_group_39 ?_
    refine lv_icmp_ge (tgt := 96) hx hb dX12_group_42 (by decide) (fun hc => ?_) (fun hc => ?_)
    · replace hq := if_y hc hq
      refine lv_aload_n hx hb dX12_group_96 rfl (lv_at hl 0 rfl) ?_
      refine lv_iconst (v := 0) hx hb dX12_group_97 (by decide) ?_
      refine m_put B hW 38 (by decide) u_880 mS_38 rfl (ty := .int) (tyX12_ok 38 (by decide)) rfl rfl (Nat.le_of_ble_eq_true rfl) dX12_group_98 (fun H locs M4 eM hW => ?_)
      replace hq := lt9_u eM hq
      clear eM
      refine lv_iload_n hx hb dX12_group_101 rfl (lv_at hl 1 rfl) ?_
      exact m_iret B hW hq dX12_group_102
    · replace hq := if_n hc hq
      refine lv_aload_n hx hb dX12_group_45 rfl (lv_at hl 0 rfl) ?_
      refine m_get B hW 39 (by decide) u_881 (v := .ref (G.2.2.2 39)) rfl dX12_group_46 ?_
      refine lv_aload_n hx hb dX12_group_49 rfl (lv_at hl 0 rfl) ?_
      refine m_get B hW 42 (by decide) u_884 (v := .int (M 42 0)) rfl dX12_group_50 ?_
      refine lv_aload_n hx hb dX12_group_53 rfl (lv_at hl 0 rfl) ?_
      refine m_get B hW 37 (by decide) u_879 (v := .ref (G.2.2.2 37)) rfl dX12_group_54 ?_
      refine lv_iload_n hx hb dX12_group_57 rfl (lv_at hl 2 rfl) ?_
      obtain ⟨hc, hq⟩ := chk_e hq
      refine m_iald B hW mA_37 hc dX12_group_58 ?_
      obtain ⟨hc, hq⟩ := chk_e hq
      refine m_iast B hW mA_39 hc dX12_group_59 (fun H locs M5 eM hW => ?_)
      replace hq := lt9_u eM hq
      clear eM
      refine lv_aload_n hx hb dX12_group_60 rfl (lv_at hl 0 rfl) ?_
      refine m_get B hW 40 (by decide) u_882 (v := .ref (G.2.2.2 40)) rfl dX12_group_61 ?_
      refine lv_aload_n hx hb dX12_group_64 rfl (lv_at hl 0 rfl) ?_
      refine m_get B hW 42 (by decide) u_884 (v := .int (M5 42 0)) rfl dX12_group_65 ?_
      refine lv_iload_n hx hb dX12_group_68 rfl (lv_at hl 1 rfl) ?_
      obtain ⟨hc, hq⟩ := chk_e hq
      refine m_iast B hW mA_40 hc dX12_group_69 (fun H locs M6 eM hW => ?_)
      replace hq := lt9_u eM hq
      clear eM
      refine lv_aload_n hx hb dX12_group_70 rfl (lv_at hl 0 rfl) ?_
      refine m_get B hW 41 (by decide) u_883 (v := .ref (G.2.2.2 41)) rfl dX12_group_71 ?_
      refine lv_aload_n hx hb dX12_group_74 rfl (lv_at hl 0 rfl) ?_
      refine m_get B hW 42 (by decide) u_884 (v := .int (M6 42 0)) rfl dX12_group_75 ?_
      refine lv_iconst (v := 0) hx hb dX12_group_78 (by decide) ?_
      obtain ⟨hc, hq⟩ := chk_e hq
      obtain ⟨hc2, hq⟩ := chk_e hq
      refine m_zast B hW mA_41 hc2 hc dX12_group_79 (fun H locs M7 eM hW => ?_)
      replace hq := lt9_u eM hq
      clear eM
      refine lv_aload_n hx hb dX12_group_80 rfl (lv_at hl 0 rfl) ?_
      refine lv_dup hx hb dX12_group_81 rfl ?_
      refine m_get B hW 42 (by decide) u_884 (v := .int (M7 42 0)) rfl dX12_group_82 ?_
      refine lv_iconst (v := 1) hx hb dX12_group_85 (by decide) ?_
      refine lv_iadd hx hb dX12_group_86 ?_
      refine m_put B hW 42 (by decide) u_884 mS_42 rfl (ty := .int) (tyX12_ok 42 (by decide)) rfl rfl (Nat.le_of_ble_eq_true rfl) dX12_group_87 (fun H locs M8 eM hW => ?_)
      replace hq := lt9_u eM hq
      clear eM
      refine lv_iinc (v := v2 + 1) (lv' := [(2, .int (v2 + 1)), (0, .ref G.2.2.1), (1, .int v1)]) hx hb dX12_group_90 hl (k := 2) rfl rfl (by decide) rfl (fun ls hl => ?_)
      refine lv_goto (tgt := 37) hx hb dX12_group_93 (by decide) ?_
      exact ih M8 v1 (v2 + 1) hq _ _ ls hW (lv_sub hl [1, 2, 0] rfl)
set_option maxHeartbeats 4000000 in
set_option maxRecDepth 100000 in
theorem c_group {l : Launch} {D : va_G} {A : Nat → Prop} {G : MG} (n : Nat) (M : MS) {r : Int32} {M' : MS} (hq : q_group n M = some (r, M')) : Met l yX12_group (wM yX12_group prog_14_method_32_code 3 (some .int)) (rM 0 0) (va_Pc [.ref G.2.2.1] (mPre D A G M)) (mQi D A G r M') 0 0 A := by
  refine m_head (by decide) rfl (Nat.le_of_ble_eq_true rfl) ?_
  intro p e s m args below meth c ls B hW hl
  have hx := B.1
  have hb := B.2.1
  have hl : lv_has ls 3 [(0, .ref G.2.2.1)] := hl
  unfold q_group at hq
  refine lv_aload_n hx hb dX12_group_0 rfl (lv_at hl 0 rfl) ?_
  refine m_get B hW 50 (by decide) u_892 (v := .int (M 50 0)) rfl dX12_group_1 ?_
  refine lv_istore_n (lv' := [(1, .int (M 50 0)), (0, .ref G.2.2.1)]) hx hb dX12_group_4 rfl hl (by decide) rfl (fun ls hl => ?_)
  refine lv_aload_n hx hb dX12_group_5 rfl (lv_at hl 1 rfl) ?_
  refine lv_dup hx hb dX12_group_6 rfl ?_
  refine m_get B hW 50 (by decide) u_892 (v := .int (M 50 0)) rfl dX12_group_7 ?_
  refine lv_iconst (v := 1) hx hb dX12_group_10 (by decide) ?_
  refine lv_iadd hx hb dX12_group_11 ?_
  refine m_put B hW 50 (by decide) u_892 mS_50 rfl (ty := .int) (tyX12_ok 50 (by decide)) rfl rfl (Nat.le_of_ble_eq_true rfl) dX12_group_12 (fun H locs M1 eM hW => ?_)
  replace hq := lt9_u eM hq
  clear eM
  refine lv_aload_n hx hb dX12_group_15 rfl (lv_at hl 1 rfl) ?_
  refine m_get B hW 43 (by decide) u_885 (v := .ref (G.2.2.2 43)) rfl dX12_group_16 ?_
  refine lv_iload_n hx hb dX12_group_19 rfl (lv_at hl 0 rfl) ?_
  refine lv_aload_n hx hb dX12_group_20 rfl (lv_at hl 1 rfl) ?_
  refine m_get B hW 42 (by decide) u_884 (v := .int (M1 42 0)) rfl dX12_group_21 ?_
  obtain ⟨hc, hq⟩ := chk_e hq
  refine m_iast B hW mA_43 hc dX12_group_24 (fun H locs M2 eM hW => ?_)
  replace hq := lt9_u eM hq
  clear eM
  refine lv_aload_n hx hb dX12_group_25 rfl (lv_at hl 1 rfl) ?_
  refine m_get B hW 44 (by decide) u_886 (v := .ref (G.2.2.2 44)) rfl dX12_group_26 ?_
  refine lv_iload_n hx hb dX12_group_29 rfl (lv_at hl 0 rfl) ?_
  refine lv_aload_n hx hb dX12_group_30 rfl (lv_at hl 1 rfl) ?_
  refine m_get B hW 38 (by decide) u_880 (v := .int (M2 38 0)) rfl dX12_group_31 ?_
  obtain ⟨hc, hq⟩ := chk_e hq
  refine m_iast B hW mA_44 hc dX12_group_34 (fun H locs M3 eM hW => ?_)
  replace hq := lt9_u eM hq
  clear eM
  refine lv_iconst (v := 0) hx hb dX12_group_35 (by decide) ?_
  refine lv_istore_n (lv' := [(2, .int 0), (1, .int (M 50 0)), (0, .ref G.2.2.1)]) hx hb dX12_group_36 rfl hl (by decide) rfl (fun ls hl => ?_)
  exact k_group_37 B n M3 (M 50 0) 0 hq _ _ ls hW (lv_sub hl [2, 1, 0] rfl)
theorem mC_group : mC yX12_group prog_14_method_32_code 3 (some .int) 269 0 := ⟨fun _ => g_V u_1119 u_1121 us_56 u_5 u_1122, by decide +kernel⟩
set_option maxHeartbeats 4000000 in
set_option maxRecDepth 100000 in
theorem k_combine_69 {p : Program} {l : Launch} {e : Env} {s : State} {m : MethodId} {args : Array Value} {below : List Frame} {meth : Method} {c : Code} {D : va_G} {A : Nat → Prop} {G : MG} {r : Int32} {M' : MS} (B : mB p s m args meth c D G prog_14_method_44_code 7 (some .int) (Cond.code yX12_combine prog_14_method_44_code 7 (some .int))) :
    ∀ (n : Nat) (M : MS) (v1 v2 v3 v4 : Int32), q_combine_69 n M v1 v2 v3 v4 = some (r, M') → ∀ (H : Heap) (locs : List Loc) (ls : Array Slot), mOK D A G M s.heap H locs → lv_has ls 7 [(0, .ref G.2.2.1), (1, .int v1), (2, .int v2), (3, .int v3), (4, .int v4)] → W p l e (rM 4 94) s m args below meth c H locs 0 0 (MQ below (mQi D A G r M') args s 0 0 A) (F0 m 69 ls []) := by
  have hx := B.1
  have hb := B.2.1
  intro n
  induction n with
  | zero => intro M v1 v2 v3 v4 hq; cases hq
  | succ n ih =>
    intro M v1 v2 v3 v4 hq _ _ ls hW hl
    replace hq : (chk (inb v3 3000) (if (M 44 v3.toNatClampNeg) ≤ v4 then chk (inb v3 3000) (chk (inb v3 3000) (lt9 (mput M 45 v3.toNatClampNeg ((M 45 v3.toNatClampNeg) - 1)) (fun M12 => if 3 ≤ v1 then chk (inb v2 12000) (some (-2 - (M12 13 v2.toNatClampNeg), M12)) else chk (inb v3 3000) (if (M12 45 v3.toNatClampNeg) = 0 then if v1 = 2 then bnd (q_finish n M12 v3 1) (fun M14 => chk (inb v2 12000) (some (-2 - (M14 13 v2.toNatClampNeg), M14))) else bnd (q_finish n M12 v3 0) (fun M13 => chk (inb v2 12000) (some (-2 - (M13 13 v2.toNatClampNeg), M13))) else chk (inb v2 12000) (some (-2 - (M12 13 v2.toNatClampNeg), M12)))))) else chk (inb v3 3000) (chk (inb ((M 43 v3.toNatClampNeg) + v4) 20000) (bnd2 (q_promiseOf n M (M 39 ((M 43 v3.toNatClampNeg) + v4).toNatClampNeg)) (fun r16 M15 => if 3 ≤ v1 then if v1 = 0 then bnd2 (q_then n M15 r16 4 ((M 43 v3.toNatClampNeg) + v4) 3 v2) (fun r24 M23 => q_combine_69 n M23 v1 v2 v3 (v4 + 1)) else if v1 = 1 then bnd2 (q_then n M15 r16 5 ((M 43 v3.toNatClampNeg) + v4) 6 ((M 43 v3.toNatClampNeg) + v4)) (fun r22 M21 => q_combine_69 n M21 v1 v2 v3 (v4 + 1)) else if v1 = 2 then bnd2 (q_then n M15 r16 2 v2 7 ((M 43 v3.toNatClampNeg) + v4)) (fun r20 M19 => q_combine_69 n M19 v1 v2 v3 (v4 + 1)) else bnd2 (q_then n M15 r16 2 v2 3 v2) (fun r18 M17 => q_combine_69 n M17 v1 v2 v3 (v4 + 1)) else chk (inb ((M 43 v3.toNatClampNeg) + v4) 20000) (lt9 (mput M15 39 ((M 43 v3.toNatClampNeg) + v4).toNatClampNeg (-1)) (fun M25 => chk (inb v3 3000) (chk (inb v3 3000) (lt9 (mput M25 45 v3.toNatClampNeg ((M25 45 v3.toNatClampNeg) + 1)) (fun M26 => if v1 = 0 then bnd2 (q_then n M26 r16 4 ((M 43 v3.toNatClampNeg) + v4) 3 v2) (fun r34 M33 => q_combine_69 n M33 v1 v2 v3 (v4 + 1)) else if v1 = 1 then bnd2 (q_then n M26 r16 5 ((M 43 v3.toNatClampNeg) + v4) 6 ((M 43 v3.toNatClampNeg) + v4)) (fun r32 M31 => q_combine_69 n M31 v1 v2 v3 (v4 + 1)) else if v1 = 2 then bnd2 (q_then n M26 r16 2 v2 7 ((M 43 v3.toNatClampNeg) + v4)) (fun r30 M29 => q_combine_69 n M29 v1 v2 v3 (v4 + 1)) else bnd2 (q_then n M26 r16 2 v2 3 v2) (fun r28 M27 => q_combine_69 n M27 v1 v2 v3 (v4 + 1)))))))))))) = some (r, M') := hq
    refine lv_iload hx hb dX12_combine_69 (lv_at hl 4 rfl) ?_
    refine lv_aload_n hx hb dX12_combine_71 rfl (lv_at hl 0 rfl) ?_
    refine m_get B hW 44 (by decide) u_886 (v := .ref (G.2.2.2 44)) rfl dX12_combine_72 ?_
    refine lv_iload_n hx hb dX12_combine_75 rfl (lv_at hl 3 rfl) ?_
    obtain ⟨hc, hq⟩ := chk_e hq
    refine m_iald B hW mA_44 hc dX12_combine_76 ?_
    refine lv_icmp_ge (tgt := 206) hx hb dX12_combine_77 (by decide) (fun hc => ?_) (fun hc => ?_)
    · replace hq := if_y hc hq
      refine lv_aload_n hx hb dX12_combine_206 rfl (lv_at hl 0 rfl) ?_
      refine m_get B hW 45 (by decide) u_887 (v := .ref (G.2.2.2 45)) rfl dX12_combine_207 ?_
      refine lv_iload_n hx hb dX12_combine_210 rfl (lv_at hl 3 rfl) ?_
      refine lv_dup2_11 hx hb dX12_combine_211 rfl rfl ?_
      obtain ⟨hc, hq⟩ := chk_e hq
      refine m_iald B hW mA_45 hc dX12_combine_212 ?_
      refine lv_iconst (v := 1) hx hb dX12_combine_213 (by decide) ?_
      refine lv_isub hx hb dX12_combine_214 ?_
      obtain ⟨hc, hq⟩ := chk_e hq
      refine m_iast B hW mA_45 hc dX12_combine_215 (fun H locs M12 eM hW => ?_)
      replace hq := lt9_u eM hq
      clear eM
      refine lv_iload_n hx hb dX12_combine_216 rfl (lv_at hl 1 rfl) ?_
      refine lv_iconst (v := 3) hx hb dX12_combine_217 (by decide) ?_
      refine lv_icmp_ge (tgt := 245) hx hb dX12_combine_218 (by decide) (fun hc => ?_) (fun hc => ?_)
      · replace hq := if_y hc hq
        refine lv_aload_n hx hb dX12_combine_245 rfl (lv_at hl 0 rfl) ?_
        refine m_get B hW 13 (by decide) u_855 (v := .ref (G.2.2.2 13)) rfl dX12_combine_246 ?_
        refine lv_iload_n hx hb dX12_combine_249 rfl (lv_at hl 2 rfl) ?_
        obtain ⟨hc, hq⟩ := chk_e hq
        refine m_iald B hW mA_13 hc dX12_combine_250 ?_
        refine m_valueOf (rest := []) B hW hl.1 ⟨by decide, by decide⟩ (Nat.le_of_ble_eq_true rfl) dX12_combine_251 (fun H locs hW => ?_)
        exact m_iret B hW hq dX12_combine_254
      · replace hq := if_n hc hq
        refine lv_aload_n hx hb dX12_combine_221 rfl (lv_at hl 0 rfl) ?_
        refine m_get B hW 45 (by decide) u_887 (v := .ref (G.2.2.2 45)) rfl dX12_combine_222 ?_
        refine lv_iload_n hx hb dX12_combine_225 rfl (lv_at hl 3 rfl) ?_
        obtain ⟨hc, hq⟩ := chk_e hq
        refine m_iald B hW mA_45 hc dX12_combine_226 ?_
        refine lv_if_ne (tgt := 245) hx hb dX12_combine_227 (by decide) (fun hc => ?_) (fun hc => ?_)
        · replace hq := if_n hc hq
          refine lv_aload_n hx hb dX12_combine_245 rfl (lv_at hl 0 rfl) ?_
          refine m_get B hW 13 (by decide) u_855 (v := .ref (G.2.2.2 13)) rfl dX12_combine_246 ?_
          refine lv_iload_n hx hb dX12_combine_249 rfl (lv_at hl 2 rfl) ?_
          obtain ⟨hc, hq⟩ := chk_e hq
          refine m_iald B hW mA_13 hc dX12_combine_250 ?_
          refine m_valueOf (rest := []) B hW hl.1 ⟨by decide, by decide⟩ (Nat.le_of_ble_eq_true rfl) dX12_combine_251 (fun H locs hW => ?_)
          exact m_iret B hW hq dX12_combine_254
        · replace hq := if_y hc hq
          refine lv_aload_n hx hb dX12_combine_230 rfl (lv_at hl 0 rfl) ?_
          refine lv_iload_n hx hb dX12_combine_231 rfl (lv_at hl 3 rfl) ?_
          refine lv_iload_n hx hb dX12_combine_232 rfl (lv_at hl 1 rfl) ?_
          refine lv_iconst (v := 2) hx hb dX12_combine_233 (by decide) ?_
          refine lv_icmp_ne (tgt := 241) hx hb dX12_combine_234 (by decide) (fun hc => ?_) (fun hc => ?_)
          · replace hq := if_n hc hq
            refine lv_iconst (v := 0) hx hb dX12_combine_241 (by decide) ?_
            obtain ⟨M13, hg, hq⟩ := bnd_e hq
            refine m_callv (As := [.int v3, .int 0]) (rest := []) B hW hl.1 (c_finish n M12 v3 0 hg) mC_finish rfl ⟨by decide, by decide⟩ rfl (Nat.le_of_ble_eq_true rfl) dX12_combine_242 (fun H locs hW => ?_)
            clear hg
            refine lv_aload_n hx hb dX12_combine_245 rfl (lv_at hl 0 rfl) ?_
            refine m_get B hW 13 (by decide) u_855 (v := .ref (G.2.2.2 13)) rfl dX12_combine_246 ?_
            refine lv_iload_n hx hb dX12_combine_249 rfl (lv_at hl 2 rfl) ?_
            obtain ⟨hc, hq⟩ := chk_e hq
            refine m_iald B hW mA_13 hc dX12_combine_250 ?_
            refine m_valueOf (rest := []) B hW hl.1 ⟨by decide, by decide⟩ (Nat.le_of_ble_eq_true rfl) dX12_combine_251 (fun H locs hW => ?_)
            exact m_iret B hW hq dX12_combine_254
          · replace hq := if_y hc hq
            refine lv_iconst (v := 1) hx hb dX12_combine_237 (by decide) ?_
            refine lv_goto (tgt := 242) hx hb dX12_combine_238 (by decide) ?_
            obtain ⟨M14, hg, hq⟩ := bnd_e hq
            refine m_callv (As := [.int v3, .int 1]) (rest := []) B hW hl.1 (c_finish n M12 v3 1 hg) mC_finish rfl ⟨by decide, by decide⟩ rfl (Nat.le_of_ble_eq_true rfl) dX12_combine_242 (fun H locs hW => ?_)
            clear hg
            refine lv_aload_n hx hb dX12_combine_245 rfl (lv_at hl 0 rfl) ?_
            refine m_get B hW 13 (by decide) u_855 (v := .ref (G.2.2.2 13)) rfl dX12_combine_246 ?_
            refine lv_iload_n hx hb dX12_combine_249 rfl (lv_at hl 2 rfl) ?_
            obtain ⟨hc, hq⟩ := chk_e hq
            refine m_iald B hW mA_13 hc dX12_combine_250 ?_
            refine m_valueOf (rest := []) B hW hl.1 ⟨by decide, by decide⟩ (Nat.le_of_ble_eq_true rfl) dX12_combine_251 (fun H locs hW => ?_)
            exact m_iret B hW hq dX12_combine_254
    · replace hq := if_n hc hq
      refine lv_aload_n hx hb dX12_combine_80 rfl (lv_at hl 0 rfl) ?_
      refine m_get B hW 43 (by decide) u_885 (v := .ref (G.2.2.2 43)) rfl dX12_combine_81 ?_
      refine lv_iload_n hx hb dX12_combine_84 rfl (lv_at hl 3 rfl) ?_
      obtain ⟨hc, hq⟩ := chk_e hq
      refine m_iald B hW mA_43 hc dX12_combine_85 ?_
      refine lv_iload hx hb dX12_combine_86 (lv_at hl 4 rfl) ?_
      refine lv_iadd hx hb dX12_combine_88 ?_
      refine lv_istore (lv' := [(5, .int ((M 43 v3.toNatClampNeg) + v4)), (0, .ref G.2.2.1), (1, .int v1), (2, .int v2), (3, .int v3), (4, .int v4)]) hx hb dX12_combine_89 hl (by decide) rfl (fun ls hl => ?_)
      refine lv_aload_n hx hb dX12_combine_91 rfl (lv_at hl 1 rfl) ?_
      refine lv_aload_n hx hb dX12_combine_92 rfl (lv_at hl 1 rfl) ?_
      refine m_get B hW 39 (by decide) u_881 (v := .ref (G.2.2.2 39)) rfl dX12_combine_93 ?_
      refine lv_iload hx hb dX12_combine_96 (lv_at hl 0 rfl) ?_
      obtain ⟨hc, hq⟩ := chk_e hq
      refine m_iald B hW mA_39 hc dX12_combine_98 ?_
      obtain ⟨r16, M15, hg, hq⟩ := bnd2_e hq
      refine m_calli (As := [.int (M 39 ((M 43 v3.toNatClampNeg) + v4).toNatClampNeg)]) (rest := []) B hW hl.1 (c_promiseOf n M (M 39 ((M 43 v3.toNatClampNeg) + v4).toNatClampNeg) hg) mC_promiseOf rfl ⟨by decide, by decide⟩ rfl (Nat.le_of_ble_eq_true rfl) dX12_combine_99 (fun H locs hW => ?_)
      clear hg
      refine lv_istore (lv' := [(6, .int r16), (5, .int ((M 43 v3.toNatClampNeg) + v4)), (0, .ref G.2.2.1), (1, .int v1), (2, .int v2), (3, .int v3), (4, .int v4)]) hx hb dX12_combine_102 hl (by decide) rfl (fun ls hl => ?_)
      refine lv_iload_n hx hb dX12_combine_104 rfl (lv_at hl 3 rfl) ?_
      refine lv_iconst (v := 3) hx hb dX12_combine_105 (by decide) ?_
      refine lv_icmp_ge (tgt := 127) hx hb dX12_combine_106 (by decide) (fun hc => ?_) (fun hc => ?_)
      · replace hq := if_y hc hq
        refine lv_iload_n hx hb dX12_combine_127 rfl (lv_at hl 3 rfl) ?_
        refine lv_if_ne (tgt := 146) hx hb dX12_combine_128 (by decide) (fun hc => ?_) (fun hc => ?_)
        · replace hq := if_n hc hq
          refine lv_iload_n hx hb dX12_combine_146 rfl (lv_at hl 3 rfl) ?_
          refine lv_iconst (v := 1) hx hb dX12_combine_147 (by decide) ?_
          refine lv_icmp_ne (tgt := 168) hx hb dX12_combine_148 (by decide) (fun hc => ?_) (fun hc => ?_)
          · replace hq := if_n hc hq
            refine lv_iload_n hx hb dX12_combine_168 rfl (lv_at hl 3 rfl) ?_
            refine lv_iconst (v := 2) hx hb dX12_combine_169 (by decide) ?_
            refine lv_icmp_ne (tgt := 189) hx hb dX12_combine_170 (by decide) (fun hc => ?_) (fun hc => ?_)
            · replace hq := if_n hc hq
              refine lv_aload_n hx hb dX12_combine_189 rfl (lv_at hl 2 rfl) ?_
              refine lv_iload hx hb dX12_combine_190 (lv_at hl 0 rfl) ?_
              refine lv_iconst (v := 2) hx hb dX12_combine_192 (by decide) ?_
              refine lv_iload_n hx hb dX12_combine_193 rfl (lv_at hl 4 rfl) ?_
              refine lv_iconst (v := 3) hx hb dX12_combine_194 (by decide) ?_
              refine lv_iload_n hx hb dX12_combine_195 rfl (lv_at hl 4 rfl) ?_
              obtain ⟨r18, M17, hg, hq⟩ := bnd2_e hq
              refine m_calli (As := [.int r16, .int 2, .int v2, .int 3, .int v2]) (rest := []) B hW hl.1 (c_then n M15 r16 2 v2 3 v2 hg) mC_then rfl ⟨by decide, by decide⟩ rfl (Nat.le_of_ble_eq_true rfl) dX12_combine_196 (fun H locs hW => ?_)
              clear hg
              refine lv_pop hx hb dX12_combine_199 rfl ?_
              refine lv_iinc (v := v4 + 1) (lv' := [(4, .int (v4 + 1)), (6, .int r16), (5, .int ((M 43 v3.toNatClampNeg) + v4)), (0, .ref G.2.2.1), (1, .int v1), (2, .int v2), (3, .int v3)]) hx hb dX12_combine_200 hl (k := 6) rfl rfl (by decide) rfl (fun ls hl => ?_)
              refine lv_goto (tgt := 69) hx hb dX12_combine_203 (by decide) ?_
              exact ih M17 v1 v2 v3 (v4 + 1) hq _ _ ls hW (lv_sub hl [3, 4, 5, 6, 0] rfl)
            · replace hq := if_y hc hq
              refine lv_aload_n hx hb dX12_combine_173 rfl (lv_at hl 2 rfl) ?_
              refine lv_iload hx hb dX12_combine_174 (lv_at hl 0 rfl) ?_
              refine lv_iconst (v := 2) hx hb dX12_combine_176 (by decide) ?_
              refine lv_iload_n hx hb dX12_combine_177 rfl (lv_at hl 4 rfl) ?_
              refine lv_bipush (v := 7) hx hb dX12_combine_178 (by decide) ?_
              refine lv_iload hx hb dX12_combine_180 (lv_at hl 1 rfl) ?_
              obtain ⟨r20, M19, hg, hq⟩ := bnd2_e hq
              refine m_calli (As := [.int r16, .int 2, .int v2, .int 7, .int ((M 43 v3.toNatClampNeg) + v4)]) (rest := []) B hW hl.1 (c_then n M15 r16 2 v2 7 ((M 43 v3.toNatClampNeg) + v4) hg) mC_then rfl ⟨by decide, by decide⟩ rfl (Nat.le_of_ble_eq_true rfl) dX12_combine_182 (fun H locs hW => ?_)
              clear hg
              refine lv_pop hx hb dX12_combine_185 rfl ?_
              refine lv_goto (tgt := 200) hx hb dX12_combine_186 (by decide) ?_
              refine lv_iinc (v := v4 + 1) (lv' := [(4, .int (v4 + 1)), (6, .int r16), (5, .int ((M 43 v3.toNatClampNeg) + v4)), (0, .ref G.2.2.1), (1, .int v1), (2, .int v2), (3, .int v3)]) hx hb dX12_combine_200 hl (k := 6) rfl rfl (by decide) rfl (fun ls hl => ?_)
              refine lv_goto (tgt := 69) hx hb dX12_combine_203 (by decide) ?_
              exact ih M19 v1 v2 v3 (v4 + 1) hq _ _ ls hW (lv_sub hl [3, 4, 5, 6, 0] rfl)
          · replace hq := if_y hc hq
            refine lv_aload_n hx hb dX12_combine_151 rfl (lv_at hl 2 rfl) ?_
            refine lv_iload hx hb dX12_combine_152 (lv_at hl 0 rfl) ?_
            refine lv_iconst (v := 5) hx hb dX12_combine_154 (by decide) ?_
            refine lv_iload hx hb dX12_combine_155 (lv_at hl 1 rfl) ?_
            refine lv_bipush (v := 6) hx hb dX12_combine_157 (by decide) ?_
            refine lv_iload hx hb dX12_combine_159 (lv_at hl 1 rfl) ?_
            obtain ⟨r22, M21, hg, hq⟩ := bnd2_e hq
            refine m_calli (As := [.int r16, .int 5, .int ((M 43 v3.toNatClampNeg) + v4), .int 6, .int ((M 43 v3.toNatClampNeg) + v4)]) (rest := []) B hW hl.1 (c_then n M15 r16 5 ((M 43 v3.toNatClampNeg) + v4) 6 ((M 43 v3.toNatClampNeg) + v4) hg) mC_then rfl ⟨by decide, by decide⟩ rfl (Nat.le_of_ble_eq_true rfl) dX12_combine_161 (fun H locs hW => ?_)
            clear hg
            refine lv_pop hx hb dX12_combine_164 rfl ?_
            refine lv_goto (tgt := 200) hx hb dX12_combine_165 (by decide) ?_
            refine lv_iinc (v := v4 + 1) (lv' := [(4, .int (v4 + 1)), (6, .int r16), (5, .int ((M 43 v3.toNatClampNeg) + v4)), (0, .ref G.2.2.1), (1, .int v1), (2, .int v2), (3, .int v3)]) hx hb dX12_combine_200 hl (k := 6) rfl rfl (by decide) rfl (fun ls hl => ?_)
            refine lv_goto (tgt := 69) hx hb dX12_combine_203 (by decide) ?_
            exact ih M21 v1 v2 v3 (v4 + 1) hq _ _ ls hW (lv_sub hl [3, 4, 5, 6, 0] rfl)
        · replace hq := if_y hc hq
          refine lv_aload_n hx hb dX12_combine_131 rfl (lv_at hl 2 rfl) ?_
          refine lv_iload hx hb dX12_combine_132 (lv_at hl 0 rfl) ?_
          refine lv_iconst (v := 4) hx hb dX12_combine_134 (by decide) ?_
          refine lv_iload hx hb dX12_combine_135 (lv_at hl 1 rfl) ?_
          refine lv_iconst (v := 3) hx hb dX12_combine_137 (by decide) ?_
          refine lv_iload_n hx hb dX12_combine_138 rfl (lv_at hl 4 rfl) ?_
          obtain ⟨r24, M23, hg, hq⟩ := bnd2_e hq
          refine m_calli (As := [.int r16, .int 4, .int ((M 43 v3.toNatClampNeg) + v4), .int 3, .int v2]) (rest := []) B hW hl.1 (c_then n M15 r16 4 ((M 43 v3.toNatClampNeg) + v4) 3 v2 hg) mC_then rfl ⟨by decide, by decide⟩ rfl (Nat.le_of_ble_eq_true rfl) dX12_combine_139 (fun H locs hW => ?_)
          clear hg
          refine lv_pop hx hb dX12_combine_142 rfl ?_
          refine lv_goto (tgt := 200) hx hb dX12_combine_143 (by decide) ?_
          refine lv_iinc (v := v4 + 1) (lv' := [(4, .int (v4 + 1)), (6, .int r16), (5, .int ((M 43 v3.toNatClampNeg) + v4)), (0, .ref G.2.2.1), (1, .int v1), (2, .int v2), (3, .int v3)]) hx hb dX12_combine_200 hl (k := 6) rfl rfl (by decide) rfl (fun ls hl => ?_)
          refine lv_goto (tgt := 69) hx hb dX12_combine_203 (by decide) ?_
          exact ih M23 v1 v2 v3 (v4 + 1) hq _ _ ls hW (lv_sub hl [3, 4, 5, 6, 0] rfl)
      · replace hq := if_n hc hq
        refine lv_aload_n hx hb dX12_combine_109 rfl (lv_at hl 2 rfl) ?_
        refine m_get B hW 39 (by decide) u_881 (v := .ref (G.2.2.2 39)) rfl dX12_combine_110 ?_
        refine lv_iload hx hb dX12_combine_113 (lv_at hl 1 rfl) ?_
        refine lv_iconst (v := (-1)) hx hb dX12_combine_115 (by decide) ?_
        obtain ⟨hc, hq⟩ := chk_e hq
        refine m_iast B hW mA_39 hc dX12_combine_116 (fun H locs M25 eM hW => ?_)
        replace hq := lt9_u eM hq
        clear eM
        refine lv_aload_n hx hb dX12_combine_117 rfl (lv_at hl 2 rfl) ?_
        refine m_get B hW 45 (by decide) u_887 (v := .ref (G.2.2.2 45)) rfl dX12_combine_118 ?_
        refine lv_iload_n hx hb dX12_combine_121 rfl (lv_at hl 5 rfl) ?_
        refine lv_dup2_11 hx hb dX12_combine_122 rfl rfl ?_
        obtain ⟨hc, hq⟩ := chk_e hq
        refine m_iald B hW mA_45 hc dX12_combine_123 ?_
        refine lv_iconst (v := 1) hx hb dX12_combine_124 (by decide) ?_
        refine lv_iadd hx hb dX12_combine_125 ?_
        obtain ⟨hc, hq⟩ := chk_e hq
        refine m_iast B hW mA_45 hc dX12_combine_126 (fun H locs M26 eM hW => ?_)
        replace hq := lt9_u eM hq
        clear eM
        refine lv_iload_n hx hb dX12_combine_127 rfl (lv_at hl 3 rfl) ?_
        refine lv_if_ne (tgt := 146) hx hb dX12_combine_128 (by decide) (fun hc => ?_) (fun hc => ?_)
        · replace hq := if_n hc hq
          refine lv_iload_n hx hb dX12_combine_146 rfl (lv_at hl 3 rfl) ?_
          refine lv_iconst (v := 1) hx hb dX12_combine_147 (by decide) ?_
          refine lv_icmp_ne (tgt := 168) hx hb dX12_combine_148 (by decide) (fun hc => ?_) (fun hc => ?_)
          · replace hq := if_n hc hq
            refine lv_iload_n hx hb dX12_combine_168 rfl (lv_at hl 3 rfl) ?_
            refine lv_iconst (v := 2) hx hb dX12_combine_169 (by decide) ?_
            refine lv_icmp_ne (tgt := 189) hx hb dX12_combine_170 (by decide) (fun hc => ?_) (fun hc => ?_)
            · replace hq := if_n hc hq
              refine lv_aload_n hx hb dX12_combine_189 rfl (lv_at hl 2 rfl) ?_
              refine lv_iload hx hb dX12_combine_190 (lv_at hl 0 rfl) ?_
              refine lv_iconst (v := 2) hx hb dX12_combine_192 (by decide) ?_
              refine lv_iload_n hx hb dX12_combine_193 rfl (lv_at hl 4 rfl) ?_
              refine lv_iconst (v := 3) hx hb dX12_combine_194 (by decide) ?_
              refine lv_iload_n hx hb dX12_combine_195 rfl (lv_at hl 4 rfl) ?_
              obtain ⟨r28, M27, hg, hq⟩ := bnd2_e hq
              refine m_calli (As := [.int r16, .int 2, .int v2, .int 3, .int v2]) (rest := []) B hW hl.1 (c_then n M26 r16 2 v2 3 v2 hg) mC_then rfl ⟨by decide, by decide⟩ rfl (Nat.le_of_ble_eq_true rfl) dX12_combine_196 (fun H locs hW => ?_)
              clear hg
              refine lv_pop hx hb dX12_combine_199 rfl ?_
              refine lv_iinc (v := v4 + 1) (lv' := [(4, .int (v4 + 1)), (6, .int r16), (5, .int ((M 43 v3.toNatClampNeg) + v4)), (0, .ref G.2.2.1), (1, .int v1), (2, .int v2), (3, .int v3)]) hx hb dX12_combine_200 hl (k := 6) rfl rfl (by decide) rfl (fun ls hl => ?_)
              refine lv_goto (tgt := 69) hx hb dX12_combine_203 (by decide) ?_
              exact ih M27 v1 v2 v3 (v4 + 1) hq _ _ ls hW (lv_sub hl [3, 4, 5, 6, 0] rfl)
            · replace hq := if_y hc hq
              refine lv_aload_n hx hb dX12_combine_173 rfl (lv_at hl 2 rfl) ?_
              refine lv_iload hx hb dX12_combine_174 (lv_at hl 0 rfl) ?_
              refine lv_iconst (v := 2) hx hb dX12_combine_176 (by decide) ?_
              refine lv_iload_n hx hb dX12_combine_177 rfl (lv_at hl 4 rfl) ?_
              refine lv_bipush (v := 7) hx hb dX12_combine_178 (by decide) ?_
              refine lv_iload hx hb dX12_combine_180 (lv_at hl 1 rfl) ?_
              obtain ⟨r30, M29, hg, hq⟩ := bnd2_e hq
              refine m_calli (As := [.int r16, .int 2, .int v2, .int 7, .int ((M 43 v3.toNatClampNeg) + v4)]) (rest := []) B hW hl.1 (c_then n M26 r16 2 v2 7 ((M 43 v3.toNatClampNeg) + v4) hg) mC_then rfl ⟨by decide, by decide⟩ rfl (Nat.le_of_ble_eq_true rfl) dX12_combine_182 (fun H locs hW => ?_)
              clear hg
              refine lv_pop hx hb dX12_combine_185 rfl ?_
              refine lv_goto (tgt := 200) hx hb dX12_combine_186 (by decide) ?_
              refine lv_iinc (v := v4 + 1) (lv' := [(4, .int (v4 + 1)), (6, .int r16), (5, .int ((M 43 v3.toNatClampNeg) + v4)), (0, .ref G.2.2.1), (1, .int v1), (2, .int v2), (3, .int v3)]) hx hb dX12_combine_200 hl (k := 6) rfl rfl (by decide) rfl (fun ls hl => ?_)
              refine lv_goto (tgt := 69) hx hb dX12_combine_203 (by decide) ?_
              exact ih M29 v1 v2 v3 (v4 + 1) hq _ _ ls hW (lv_sub hl [3, 4, 5, 6, 0] rfl)
          · replace hq := if_y hc hq
            refine lv_aload_n hx hb dX12_combine_151 rfl (lv_at hl 2 rfl) ?_
            refine lv_iload hx hb dX12_combine_152 (lv_at hl 0 rfl) ?_
            refine lv_iconst (v := 5) hx hb dX12_combine_154 (by decide) ?_
            refine lv_iload hx hb dX12_combine_155 (lv_at hl 1 rfl) ?_
            refine lv_bipush (v := 6) hx hb dX12_combine_157 (by decide) ?_
            refine lv_iload hx hb dX12_combine_159 (lv_at hl 1 rfl) ?_
            obtain ⟨r32, M31, hg, hq⟩ := bnd2_e hq
            refine m_calli (As := [.int r16, .int 5, .int ((M 43 v3.toNatClampNeg) + v4), .int 6, .int ((M 43 v3.toNatClampNeg) + v4)]) (rest := []) B hW hl.1 (c_then n M26 r16 5 ((M 43 v3.toNatClampNeg) + v4) 6 ((M 43 v3.toNatClampNeg) + v4) hg) mC_then rfl ⟨by decide, by decide⟩ rfl (Nat.le_of_ble_eq_true rfl) dX12_combine_161 (fun H locs hW => ?_)
            clear hg
            refine lv_pop hx hb dX12_combine_164 rfl ?_
            refine lv_goto (tgt := 200) hx hb dX12_combine_165 (by decide) ?_
            refine lv_iinc (v := v4 + 1) (lv' := [(4, .int (v4 + 1)), (6, .int r16), (5, .int ((M 43 v3.toNatClampNeg) + v4)), (0, .ref G.2.2.1), (1, .int v1), (2, .int v2), (3, .int v3)]) hx hb dX12_combine_200 hl (k := 6) rfl rfl (by decide) rfl (fun ls hl => ?_)
            refine lv_goto (tgt := 69) hx hb dX12_combine_203 (by decide) ?_
            exact ih M31 v1 v2 v3 (v4 + 1) hq _ _ ls hW (lv_sub hl [3, 4, 5, 6, 0] rfl)
        · replace hq := if_y hc hq
          refine lv_aload_n hx hb dX12_combine_131 rfl (lv_at hl 2 rfl) ?_
          refine lv_iload hx hb dX12_combine_132 (lv_at hl 0 rfl) ?_
          refine lv_iconst (v := 4) hx hb dX12_combine_134 (by decide) ?_
          refine lv_iload hx hb dX12_combine_135 (lv_at hl 1 rfl) ?_
          refine lv_iconst (v := 3) hx hb dX12_combine_137 (by decide) ?_
          refine lv_iload_n hx hb dX12_combine_138 rfl (lv_at hl 4 rfl) ?_
          obtain ⟨r34, M33, hg, hq⟩ := bnd2_e hq
          refine m_calli (As := [.int r16, .int 4, .int ((M 43 v3.toNatClampNeg) + v4), .int 3, .int v2]) (rest := []) B hW hl.1 (c_then n M26 r16 4 ((M 43 v3.toNatClampNeg) + v4) 3 v2 hg) mC_then rfl ⟨by decide, by decide⟩ rfl (Nat.le_of_ble_eq_true rfl) dX12_combine_139 (fun H locs hW => ?_)
          clear hg
          refine lv_pop hx hb dX12_combine_142 rfl ?_
          refine lv_goto (tgt := 200) hx hb dX12_combine_143 (by decide) ?_
          refine lv_iinc (v := v4 + 1) (lv' := [(4, .int (v4 + 1)), (6, .int r16), (5, .int ((M 43 v3.toNatClampNeg) + v4)), (0, .ref G.2.2.1), (1, .int v1), (2, .int v2), (3, .int v3)]) hx hb dX12_combine_200 hl (k := 6) rfl rfl (by decide) rfl (fun ls hl => ?_)
          refine lv_goto (tgt := 69) hx hb dX12_combine_203 (by decide) ?_
          exact ih M33 v1 v2 v3 (v4 + 1) hq _ _ ls hW (lv_sub hl [3, 4, 5, 6, 0] rfl)
set_option maxHeartbeats 4000000 in
set_option maxRecDepth 100000 in
theorem c_combine {l : Launch} {D : va_G} {A : Nat → Prop} {G : MG} (n : Nat) (M : MS) (p1 : Int32) {r : Int32} {M' : MS} (hq : q_combine n M p1 = some (r, M')) : Met l yX12_combine (wM yX12_combine prog_14_method_44_code 7 (some .int)) (rM 4 94) (va_Pc [.ref G.2.2.1, .int p1] (mPre D A G M)) (mQi D A G r M') 0 0 A := by
  refine m_head (by decide) rfl (Nat.le_of_ble_eq_true rfl) ?_
  intro p e s m args below meth c ls B hW hl
  have hx := B.1
  have hb := B.2.1
  have hl : lv_has ls 7 [(0, .ref G.2.2.1), (1, .int p1)] := hl
  unfold q_combine at hq
  refine lv_aload_n hx hb dX12_combine_0 rfl (lv_at hl 0 rfl) ?_
  refine lv_iconst (v := 0) hx hb dX12_combine_1 (by decide) ?_
  refine m_put B hW 0 (by decide) u_842 mS_0 rfl (ty := .int) (tyX12_ok 0 (by decide)) rfl rfl (Nat.le_of_ble_eq_true rfl) dX12_combine_2 (fun H locs M1 eM hW => ?_)
  replace hq := lt9_u eM hq
  clear eM
  refine lv_iload_n hx hb dX12_combine_5 rfl (lv_at hl 1 rfl) ?_
  refine lv_if_lt (tgt := 14) hx hb dX12_combine_6 (by decide) (fun hc => ?_) (fun hc => ?_)
  · replace hq := if_y hc hq
    refine lv_aload_n hx hb dX12_combine_14 rfl (lv_at hl 0 rfl) ?_
    refine lv_iconst (v := 1) hx hb dX12_combine_15 (by decide) ?_
    obtain ⟨r3, M2, hg, hq⟩ := bnd2_e hq
    refine m_calli (As := [.int 1]) (rest := []) B hW hl.1 (c_fails M1 1 hg) mC_fails rfl ⟨by decide, by decide⟩ rfl (Nat.le_of_ble_eq_true rfl) dX12_combine_16 (fun H locs hW => ?_)
    clear hg
    exact m_iret B hW hq dX12_combine_19
  · replace hq := if_n hc hq
    refine lv_iload_n hx hb dX12_combine_9 rfl (lv_at hl 1 rfl) ?_
    refine lv_iconst (v := 3) hx hb dX12_combine_10 (by decide) ?_
    refine lv_icmp_le (tgt := 20) hx hb dX12_combine_11 (by decide) (fun hc => ?_) (fun hc => ?_)
    · replace hq := if_y hc hq
      refine lv_aload_n hx hb dX12_combine_20 rfl (lv_at hl 0 rfl) ?_
      refine lv_bipush (v := 8) hx hb dX12_combine_21 (by decide) ?_
      refine lv_iconst (v := 2) hx hb dX12_combine_23 (by decide) ?_
      refine lv_aload_n hx hb dX12_combine_24 rfl (lv_at hl 0 rfl) ?_
      refine m_get B hW 38 (by decide) u_880 (v := .int (M1 38 0)) rfl dX12_combine_25 ?_
      refine lv_imul hx hb dX12_combine_28 ?_
      refine lv_iadd hx hb dX12_combine_29 ?_
      obtain ⟨r5, M4, hg, hq⟩ := bnd2_e hq
      refine m_calli (As := [.int (8 + (2 * (M1 38 0)))]) (rest := []) B hW hl.1 (c_isFull M1 (8 + (2 * (M1 38 0))) hg) mC_isFull rfl ⟨by decide, by decide⟩ rfl (Nat.le_of_ble_eq_true rfl) dX12_combine_30 (fun H locs hW => ?_)
      clear hg
      refine lv_if_eq (tgt := 42) hx hb dX12_combine_33 (by decide) (fun hc => ?_) (fun hc => ?_)
      · replace hq := if_y hc hq
        refine lv_aload_n hx hb dX12_combine_42 rfl (lv_at hl 0 rfl) ?_
        obtain ⟨r7, M6, hg, hq⟩ := bnd2_e hq
        refine m_calli (As := []) (rest := []) B hW hl.1 (c_capability M4 hg) mC_capability rfl ⟨by decide, by decide⟩ rfl (Nat.le_of_ble_eq_true rfl) dX12_combine_43 (fun H locs hW => ?_)
        clear hg
        refine lv_istore_n (lv' := [(2, .int r7), (0, .ref G.2.2.1), (1, .int p1)]) hx hb dX12_combine_46 rfl hl (by decide) rfl (fun ls hl => ?_)
        refine lv_aload_n hx hb dX12_combine_47 rfl (lv_at hl 1 rfl) ?_
        obtain ⟨r9, M8, hg, hq⟩ := bnd2_e hq
        refine m_calli (As := []) (rest := []) B hW hl.1 (c_group n M6 hg) mC_group rfl ⟨by decide, by decide⟩ rfl (Nat.le_of_ble_eq_true rfl) dX12_combine_48 (fun H locs hW => ?_)
        clear hg
        refine lv_istore_n (lv' := [(3, .int r9), (2, .int r7), (0, .ref G.2.2.1), (1, .int p1)]) hx hb dX12_combine_51 rfl hl (by decide) rfl (fun ls hl => ?_)
        refine lv_aload_n hx hb dX12_combine_52 rfl (lv_at hl 2 rfl) ?_
        refine m_get B hW 46 (by decide) u_888 (v := .ref (G.2.2.2 46)) rfl dX12_combine_53 ?_
        refine lv_iload_n hx hb dX12_combine_56 rfl (lv_at hl 0 rfl) ?_
        refine lv_iload_n hx hb dX12_combine_57 rfl (lv_at hl 1 rfl) ?_
        obtain ⟨hc, hq⟩ := chk_e hq
        refine m_iast B hW mA_46 hc dX12_combine_58 (fun H locs M10 eM hW => ?_)
        replace hq := lt9_u eM hq
        clear eM
        refine lv_aload_n hx hb dX12_combine_59 rfl (lv_at hl 2 rfl) ?_
        refine m_get B hW 45 (by decide) u_887 (v := .ref (G.2.2.2 45)) rfl dX12_combine_60 ?_
        refine lv_iload_n hx hb dX12_combine_63 rfl (lv_at hl 0 rfl) ?_
        refine lv_iconst (v := 1) hx hb dX12_combine_64 (by decide) ?_
        obtain ⟨hc, hq⟩ := chk_e hq
        refine m_iast B hW mA_45 hc dX12_combine_65 (fun H locs M11 eM hW => ?_)
        replace hq := lt9_u eM hq
        clear eM
        refine lv_iconst (v := 0) hx hb dX12_combine_66 (by decide) ?_
        refine lv_istore (lv' := [(4, .int 0), (3, .int r9), (2, .int r7), (0, .ref G.2.2.1), (1, .int p1)]) hx hb dX12_combine_67 hl (by decide) rfl (fun ls hl => ?_)
        exact k_combine_69 B n M11 p1 r7 r9 0 hq _ _ ls hW (lv_sub hl [3, 4, 2, 1, 0] rfl)
      · replace hq := if_n hc hq
        refine lv_aload_n hx hb dX12_combine_36 rfl (lv_at hl 0 rfl) ?_
        refine lv_iconst (v := 2) hx hb dX12_combine_37 (by decide) ?_
        obtain ⟨r36, M35, hg, hq⟩ := bnd2_e hq
        refine m_calli (As := [.int 2]) (rest := []) B hW hl.1 (c_fails M4 2 hg) mC_fails rfl ⟨by decide, by decide⟩ rfl (Nat.le_of_ble_eq_true rfl) dX12_combine_38 (fun H locs hW => ?_)
        clear hg
        exact m_iret B hW hq dX12_combine_41
    · replace hq := if_n hc hq
      refine lv_aload_n hx hb dX12_combine_14 rfl (lv_at hl 0 rfl) ?_
      refine lv_iconst (v := 1) hx hb dX12_combine_15 (by decide) ?_
      obtain ⟨r38, M37, hg, hq⟩ := bnd2_e hq
      refine m_calli (As := [.int 1]) (rest := []) B hW hl.1 (c_fails M1 1 hg) mC_fails rfl ⟨by decide, by decide⟩ rfl (Nat.le_of_ble_eq_true rfl) dX12_combine_16 (fun H locs hW => ?_)
      clear hg
      exact m_iret B hW hq dX12_combine_19
