set_option maxHeartbeats 4000000 in
set_option maxRecDepth 100000 in
theorem c_goOn {l : Launch} {D : va_G} {A : Nat → Prop} {G : MG} (n : Nat) (M : MS) (p1 : Int32) {M' : MS} (hq : q_goOn n M p1 = some M') : Met l yX12_goOn (wM yX12_goOn prog_14_method_30_code 3 none) (rM 4 93) (va_Pc [.ref G.2.2.1, .int p1] (mPre D A G M)) (mQv D A G M') 0 0 A := by
  refine m_head (by decide) rfl (Nat.le_of_ble_eq_true rfl) ?_
  intro p e s m args below meth c ls B hW hl
  have hx := B.1
  have hb := B.2.1
  have hl : lv_has ls 3 [(0, .ref G.2.2.1), (1, .int p1)] := hl
  unfold q_goOn at hq
  refine lv_aload_n hx hb dX12_goOn_0 rfl (lv_at hl 0 rfl) ?_
  refine m_get B hW 49 (by decide) u_891 (v := .ref (G.2.2.2 49)) rfl dX12_goOn_1 ?_
  refine lv_iload_n hx hb dX12_goOn_4 rfl (lv_at hl 1 rfl) ?_
  obtain ⟨hc, hq⟩ := chk_e hq
  refine m_iald B hW mA_49 hc dX12_goOn_5 ?_
  refine lv_aload_n hx hb dX12_goOn_6 rfl (lv_at hl 0 rfl) ?_
  refine m_get B hW 44 (by decide) u_886 (v := .ref (G.2.2.2 44)) rfl dX12_goOn_7 ?_
  refine lv_iload_n hx hb dX12_goOn_10 rfl (lv_at hl 1 rfl) ?_
  obtain ⟨hc, hq⟩ := chk_e hq
  refine m_iald B hW mA_44 hc dX12_goOn_11 ?_
  refine lv_icmp_ne (tgt := 32) hx hb dX12_goOn_12 (by decide) (fun hc => ?_) (fun hc => ?_)
  · replace hq := if_n hc hq
    refine lv_aload_n hx hb dX12_goOn_32 rfl (lv_at hl 0 rfl) ?_
    refine m_get B hW 39 (by decide) u_881 (v := .ref (G.2.2.2 39)) rfl dX12_goOn_33 ?_
    refine lv_aload_n hx hb dX12_goOn_36 rfl (lv_at hl 0 rfl) ?_
    refine m_get B hW 43 (by decide) u_885 (v := .ref (G.2.2.2 43)) rfl dX12_goOn_37 ?_
    refine lv_iload_n hx hb dX12_goOn_40 rfl (lv_at hl 1 rfl) ?_
    obtain ⟨hc, hq⟩ := chk_e hq
    refine m_iald B hW mA_43 hc dX12_goOn_41 ?_
    refine lv_aload_n hx hb dX12_goOn_42 rfl (lv_at hl 0 rfl) ?_
    refine m_get B hW 49 (by decide) u_891 (v := .ref (G.2.2.2 49)) rfl dX12_goOn_43 ?_
    refine lv_iload_n hx hb dX12_goOn_46 rfl (lv_at hl 1 rfl) ?_
    obtain ⟨hc, hq⟩ := chk_e hq
    refine m_iald B hW mA_49 hc dX12_goOn_47 ?_
    refine lv_iadd hx hb dX12_goOn_48 ?_
    obtain ⟨hc, hq⟩ := chk_e hq
    refine m_iald B hW mA_39 hc dX12_goOn_49 ?_
    refine lv_istore_n (lv' := [(2, .int (M 39 ((M 43 p1.toNatClampNeg) + (M 49 p1.toNatClampNeg)).toNatClampNeg)), (0, .ref G.2.2.1), (1, .int p1)]) hx hb dX12_goOn_50 rfl hl (by decide) rfl (fun ls hl => ?_)
    refine lv_aload_n hx hb dX12_goOn_51 rfl (lv_at hl 1 rfl) ?_
    refine m_get B hW 49 (by decide) u_891 (v := .ref (G.2.2.2 49)) rfl dX12_goOn_52 ?_
    refine lv_iload_n hx hb dX12_goOn_55 rfl (lv_at hl 2 rfl) ?_
    refine lv_dup2_11 hx hb dX12_goOn_56 rfl rfl ?_
    obtain ⟨hc, hq⟩ := chk_e hq
    refine m_iald B hW mA_49 hc dX12_goOn_57 ?_
    refine lv_iconst (v := 1) hx hb dX12_goOn_58 (by decide) ?_
    refine lv_iadd hx hb dX12_goOn_59 ?_
    obtain ⟨hc, hq⟩ := chk_e hq
    refine m_iast B hW mA_49 hc dX12_goOn_60 (fun H locs M1 eM hW => ?_)
    replace hq := lt9_u eM hq
    clear eM
    refine lv_aload_n hx hb dX12_goOn_61 rfl (lv_at hl 1 rfl) ?_
    refine lv_aload_n hx hb dX12_goOn_62 rfl (lv_at hl 1 rfl) ?_
    refine lv_iload_n hx hb dX12_goOn_63 rfl (lv_at hl 0 rfl) ?_
    obtain ⟨r3, M2, hg, hq⟩ := bnd2_e hq
    refine m_calli (As := [.int (M 39 ((M 43 p1.toNatClampNeg) + (M 49 p1.toNatClampNeg)).toNatClampNeg)]) (rest := [.ref G.2.2.1]) B hW hl.1 (c_promiseOf n M1 (M 39 ((M 43 p1.toNatClampNeg) + (M 49 p1.toNatClampNeg)).toNatClampNeg) hg) mC_promiseOf rfl ⟨by decide, by decide⟩ rfl (Nat.le_of_ble_eq_true rfl) dX12_goOn_64 (fun H locs hW => ?_)
    clear hg
    refine lv_bipush (v := 12) hx hb dX12_goOn_67 (by decide) ?_
    refine lv_iload_n hx hb dX12_goOn_69 rfl (lv_at hl 2 rfl) ?_
    refine lv_bipush (v := 13) hx hb dX12_goOn_70 (by decide) ?_
    refine lv_iload_n hx hb dX12_goOn_72 rfl (lv_at hl 2 rfl) ?_
    refine lv_iconst (v := (-1)) hx hb dX12_goOn_73 (by decide) ?_
    obtain ⟨M4, hg, hq⟩ := bnd_e hq
    refine m_callv (As := [.int r3, .int 12, .int p1, .int 13, .int p1, .int (-1)]) (rest := []) B hW hl.1 (c_performThen n M2 r3 12 p1 13 p1 (-1) hg) mC_performThen rfl ⟨by decide, by decide⟩ rfl (Nat.le_of_ble_eq_true rfl) dX12_goOn_74 (fun H locs hW => ?_)
    clear hg
    exact m_vret B hW hq dX12_goOn_77
  · replace hq := if_y hc hq
    refine lv_aload_n hx hb dX12_goOn_15 rfl (lv_at hl 0 rfl) ?_
    refine lv_aload_n hx hb dX12_goOn_16 rfl (lv_at hl 0 rfl) ?_
    refine m_get B hW 46 (by decide) u_888 (v := .ref (G.2.2.2 46)) rfl dX12_goOn_17 ?_
    refine lv_iload_n hx hb dX12_goOn_20 rfl (lv_at hl 1 rfl) ?_
    obtain ⟨hc, hq⟩ := chk_e hq
    refine m_iald B hW mA_46 hc dX12_goOn_21 ?_
    refine lv_aload_n hx hb dX12_goOn_22 rfl (lv_at hl 0 rfl) ?_
    refine m_get B hW 47 (by decide) u_889 (v := .ref (G.2.2.2 47)) rfl dX12_goOn_23 ?_
    refine lv_iload_n hx hb dX12_goOn_26 rfl (lv_at hl 1 rfl) ?_
    obtain ⟨hc, hq⟩ := chk_e hq
    refine m_iald B hW mA_47 hc dX12_goOn_27 ?_
    obtain ⟨M5, hg, hq⟩ := bnd_e hq
    refine m_callv (As := [.int (M 46 p1.toNatClampNeg), .int (M 47 p1.toNatClampNeg)]) (rest := []) B hW hl.1 (c_resolve n M (M 46 p1.toNatClampNeg) (M 47 p1.toNatClampNeg) hg) mC_resolve rfl ⟨by decide, by decide⟩ rfl (Nat.le_of_ble_eq_true rfl) dX12_goOn_28 (fun H locs hW => ?_)
    clear hg
    exact m_vret B hW hq dX12_goOn_31
theorem mC_goOn : mC yX12_goOn prog_14_method_30_code 3 none 244 1 := ⟨fun _ => g_V u_1135 u_1137 us_59 u_5 u_1138, by decide +kernel⟩
set_option maxHeartbeats 4000000 in
set_option maxRecDepth 100000 in
theorem k_async_32 {p : Program} {l : Launch} {e : Env} {s : State} {m : MethodId} {args : Array Value} {below : List Frame} {meth : Method} {c : Code} {D : va_G} {A : Nat → Prop} {G : MG} {r : Int32} {M' : MS} (B : mB p s m args meth c D G prog_14_method_45_code 5 (some .int) (Cond.code yX12_async prog_14_method_45_code 5 (some .int))) :
    ∀ (n : Nat) (M : MS) (v1 v2 : Int32), q_async_32 n M v1 v2 = some (r, M') → ∀ (H : Heap) (locs : List Loc) (ls : Array Slot), mOK D A G M s.heap H locs → lv_has ls 5 [(0, .ref G.2.2.1), (1, .int v1), (2, .int v2)] → W p l e (rM 5 115) s m args below meth c H locs 0 0 (MQ below (mQi D A G r M') args s 0 0 A) (F0 m 32 ls []) := by
  have hx := B.1
  have hb := B.2.1
  intro n M v1 v2 hq _ _ ls hW hl
  unfold q_async_32 at hq
  refine lv_aload_n hx hb dX12_async_32 rfl (lv_at hl 0 rfl) ?_
  refine lv_bipush (v := 8) hx hb dX12_async_33 (by decide) ?_
  obtain ⟨r7, M6, hg, hq⟩ := bnd2_e hq
  refine m_calli (As := [.int 8]) (rest := []) B hW hl.1 (c_isFull M 8 hg) mC_isFull rfl ⟨by decide, by decide⟩ rfl (Nat.le_of_ble_eq_true rfl) dX12_async_35 (fun H locs hW => ?_)
  clear hg
  refine lv_if_eq (tgt := 47) hx hb dX12_async_38 (by decide) (fun hc => ?_) (fun hc => ?_)
  · replace hq := if_y hc hq
    refine lv_aload_n hx hb dX12_async_47 rfl (lv_at hl 0 rfl) ?_
    obtain ⟨r9, M8, hg, hq⟩ := bnd2_e hq
    refine m_calli (As := []) (rest := []) B hW hl.1 (c_capability M6 hg) mC_capability rfl ⟨by decide, by decide⟩ rfl (Nat.le_of_ble_eq_true rfl) dX12_async_48 (fun H locs hW => ?_)
    clear hg
    refine lv_istore_n (lv' := [(3, .int r9), (0, .ref G.2.2.1), (1, .int v1), (2, .int v2)]) hx hb dX12_async_51 rfl hl (by decide) rfl (fun ls hl => ?_)
    refine lv_aload_n hx hb dX12_async_52 rfl (lv_at hl 1 rfl) ?_
    obtain ⟨r11, M10, hg, hq⟩ := bnd2_e hq
    refine m_calli (As := []) (rest := []) B hW hl.1 (c_group n M8 hg) mC_group rfl ⟨by decide, by decide⟩ rfl (Nat.le_of_ble_eq_true rfl) dX12_async_53 (fun H locs hW => ?_)
    clear hg
    refine lv_istore (lv' := [(4, .int r11), (3, .int r9), (0, .ref G.2.2.1), (1, .int v1), (2, .int v2)]) hx hb dX12_async_56 hl (by decide) rfl (fun ls hl => ?_)
    refine lv_aload_n hx hb dX12_async_58 rfl (lv_at hl 2 rfl) ?_
    refine m_get B hW 46 (by decide) u_888 (v := .ref (G.2.2.2 46)) rfl dX12_async_59 ?_
    refine lv_iload hx hb dX12_async_62 (lv_at hl 0 rfl) ?_
    refine lv_iload_n hx hb dX12_async_64 rfl (lv_at hl 1 rfl) ?_
    obtain ⟨hc, hq⟩ := chk_e hq
    refine m_iast B hW mA_46 hc dX12_async_65 (fun H locs M12 eM hW => ?_)
    replace hq := lt9_u eM hq
    clear eM
    refine lv_aload_n hx hb dX12_async_66 rfl (lv_at hl 2 rfl) ?_
    refine m_get B hW 49 (by decide) u_891 (v := .ref (G.2.2.2 49)) rfl dX12_async_67 ?_
    refine lv_iload hx hb dX12_async_70 (lv_at hl 0 rfl) ?_
    refine lv_iconst (v := 0) hx hb dX12_async_72 (by decide) ?_
    obtain ⟨hc, hq⟩ := chk_e hq
    refine m_iast B hW mA_49 hc dX12_async_73 (fun H locs M13 eM hW => ?_)
    replace hq := lt9_u eM hq
    clear eM
    refine lv_aload_n hx hb dX12_async_74 rfl (lv_at hl 2 rfl) ?_
    refine m_get B hW 47 (by decide) u_889 (v := .ref (G.2.2.2 47)) rfl dX12_async_75 ?_
    refine lv_iload hx hb dX12_async_78 (lv_at hl 0 rfl) ?_
    refine lv_iload_n hx hb dX12_async_80 rfl (lv_at hl 3 rfl) ?_
    obtain ⟨hc, hq⟩ := chk_e hq
    refine m_iast B hW mA_47 hc dX12_async_81 (fun H locs M14 eM hW => ?_)
    replace hq := lt9_u eM hq
    clear eM
    refine lv_aload_n hx hb dX12_async_82 rfl (lv_at hl 2 rfl) ?_
    refine m_get B hW 48 (by decide) u_890 (v := .ref (G.2.2.2 48)) rfl dX12_async_83 ?_
    refine lv_iload hx hb dX12_async_86 (lv_at hl 0 rfl) ?_
    refine lv_iload_n hx hb dX12_async_88 rfl (lv_at hl 4 rfl) ?_
    obtain ⟨hc, hq⟩ := chk_e hq
    refine m_iast B hW mA_48 hc dX12_async_89 (fun H locs M15 eM hW => ?_)
    replace hq := lt9_u eM hq
    clear eM
    refine lv_aload_n hx hb dX12_async_90 rfl (lv_at hl 2 rfl) ?_
    refine lv_iload hx hb dX12_async_91 (lv_at hl 0 rfl) ?_
    obtain ⟨M16, hg, hq⟩ := bnd_e hq
    refine m_callv (As := [.int r11]) (rest := []) B hW hl.1 (c_goOn n M15 r11 hg) mC_goOn rfl ⟨by decide, by decide⟩ rfl (Nat.le_of_ble_eq_true rfl) dX12_async_93 (fun H locs hW => ?_)
    clear hg
    refine lv_aload_n hx hb dX12_async_96 rfl (lv_at hl 2 rfl) ?_
    refine m_get B hW 13 (by decide) u_855 (v := .ref (G.2.2.2 13)) rfl dX12_async_97 ?_
    refine lv_iload_n hx hb dX12_async_100 rfl (lv_at hl 1 rfl) ?_
    obtain ⟨hc, hq⟩ := chk_e hq
    refine m_iald B hW mA_13 hc dX12_async_101 ?_
    refine m_valueOf (rest := []) B hW hl.1 ⟨by decide, by decide⟩ (Nat.le_of_ble_eq_true rfl) dX12_async_102 (fun H locs hW => ?_)
    exact m_iret B hW hq dX12_async_105
  · replace hq := if_n hc hq
    refine lv_aload_n hx hb dX12_async_41 rfl (lv_at hl 0 rfl) ?_
    refine lv_iconst (v := 2) hx hb dX12_async_42 (by decide) ?_
    obtain ⟨r18, M17, hg, hq⟩ := bnd2_e hq
    refine m_calli (As := [.int 2]) (rest := []) B hW hl.1 (c_fails M6 2 hg) mC_fails rfl ⟨by decide, by decide⟩ rfl (Nat.le_of_ble_eq_true rfl) dX12_async_43 (fun H locs hW => ?_)
    clear hg
    exact m_iret B hW hq dX12_async_46
set_option maxHeartbeats 4000000 in
set_option maxRecDepth 100000 in
theorem c_async {l : Launch} {D : va_G} {A : Nat → Prop} {G : MG} (n : Nat) (M : MS) (p1 p2 : Int32) {r : Int32} {M' : MS} (hq : q_async n M p1 p2 = some (r, M')) : Met l yX12_async (wM yX12_async prog_14_method_45_code 5 (some .int)) (rM 5 115) (va_Pc [.ref G.2.2.1, .int p1, .int p2] (mPre D A G M)) (mQi D A G r M') 0 0 A := by
  refine m_head (by decide) rfl (Nat.le_of_ble_eq_true rfl) ?_
  intro p e s m args below meth c ls B hW hl
  have hx := B.1
  have hb := B.2.1
  have hl : lv_has ls 5 [(0, .ref G.2.2.1), (1, .int p1), (2, .int p2)] := hl
  unfold q_async at hq
  refine lv_aload_n hx hb dX12_async_0 rfl (lv_at hl 0 rfl) ?_
  refine lv_iconst (v := 0) hx hb dX12_async_1 (by decide) ?_
  refine m_put B hW 0 (by decide) u_842 mS_0 rfl (ty := .int) (tyX12_ok 0 (by decide)) rfl rfl (Nat.le_of_ble_eq_true rfl) dX12_async_2 (fun H locs M1 eM hW => ?_)
  replace hq := lt9_u eM hq
  clear eM
  refine lv_aload_n hx hb dX12_async_5 rfl (lv_at hl 0 rfl) ?_
  refine lv_iload_n hx hb dX12_async_6 rfl (lv_at hl 1 rfl) ?_
  obtain ⟨r3, M2, hg, hq⟩ := bnd2_e hq
  refine m_calli (As := [.int p1]) (rest := []) B hW hl.1 (c_isValue M1 p1 hg) mC_isValue rfl ⟨by decide, by decide⟩ rfl (Nat.le_of_ble_eq_true rfl) dX12_async_7 (fun H locs hW => ?_)
  clear hg
  refine lv_if_eq (tgt := 26) hx hb dX12_async_10 (by decide) (fun hc => ?_) (fun hc => ?_)
  · replace hq := if_y hc hq
    refine lv_aload_n hx hb dX12_async_26 rfl (lv_at hl 0 rfl) ?_
    refine lv_iconst (v := 1) hx hb dX12_async_27 (by decide) ?_
    obtain ⟨r5, M4, hg, hq⟩ := bnd2_e hq
    refine m_calli (As := [.int 1]) (rest := []) B hW hl.1 (c_fails M2 1 hg) mC_fails rfl ⟨by decide, by decide⟩ rfl (Nat.le_of_ble_eq_true rfl) dX12_async_28 (fun H locs hW => ?_)
    clear hg
    exact m_iret B hW hq dX12_async_31
  · replace hq := if_n hc hq
    refine lv_iload_n hx hb dX12_async_13 rfl (lv_at hl 2 rfl) ?_
    refine lv_iconst (v := (-1)) hx hb dX12_async_14 (by decide) ?_
    refine lv_icmp_eq (tgt := 32) hx hb dX12_async_15 (by decide) (fun hc => ?_) (fun hc => ?_)
    · replace hq := if_y hc hq
      exact k_async_32 B n M2 p1 p2 hq _ _ ls hW (lv_sub hl [0, 1, 2] rfl)
    · replace hq := if_n hc hq
      refine lv_aload_n hx hb dX12_async_18 rfl (lv_at hl 0 rfl) ?_
      refine lv_iload_n hx hb dX12_async_19 rfl (lv_at hl 2 rfl) ?_
      obtain ⟨r20, M19, hg, hq⟩ := bnd2_e hq
      refine m_calli (As := [.int p2]) (rest := []) B hW hl.1 (c_isHandler M2 p2 hg) mC_isHandler rfl ⟨by decide, by decide⟩ rfl (Nat.le_of_ble_eq_true rfl) dX12_async_20 (fun H locs hW => ?_)
      clear hg
      refine lv_if_ne (tgt := 32) hx hb dX12_async_23 (by decide) (fun hc => ?_) (fun hc => ?_)
      · replace hq := if_n hc hq
        exact k_async_32 B n M19 p1 p2 hq _ _ ls hW (lv_sub hl [0, 1, 2] rfl)
      · replace hq := if_y hc hq
        refine lv_aload_n hx hb dX12_async_26 rfl (lv_at hl 0 rfl) ?_
        refine lv_iconst (v := 1) hx hb dX12_async_27 (by decide) ?_
        obtain ⟨r22, M21, hg, hq⟩ := bnd2_e hq
        refine m_calli (As := [.int 1]) (rest := []) B hW hl.1 (c_fails M19 1 hg) mC_fails rfl ⟨by decide, by decide⟩ rfl (Nat.le_of_ble_eq_true rfl) dX12_async_28 (fun H locs hW => ?_)
        clear hg
        exact m_iret B hW hq dX12_async_31
set_option maxHeartbeats 4000000 in
set_option maxRecDepth 100000 in
theorem k_element_86 {p : Program} {l : Launch} {e : Env} {s : State} {m : MethodId} {args : Array Value} {below : List Frame} {meth : Method} {c : Code} {D : va_G} {A : Nat → Prop} {G : MG} {M' : MS} (B : mB p s m args meth c D G prog_14_method_25_code 6 none (Cond.code yX12_element prog_14_method_25_code 6 none)) :
    ∀ (n : Nat) (M : MS) (v1 v4 : Int32), q_element_86 n M v1 v4 = some M' → ∀ (H : Heap) (locs : List Loc) (ls : Array Slot), mOK D A G M s.heap H locs → lv_has ls 6 [(0, .ref G.2.2.1), (1, .int v1), (4, .int v4)] → W p l e (rM 4 94) s m args below meth c H locs 0 0 (MQ below (mQv D A G M') args s 0 0 A) (F0 m 86 ls []) := by
  have hx := B.1
  have hb := B.2.1
  intro n M v1 v4 hq _ _ ls hW hl
  unfold q_element_86 at hq
  refine lv_aload_n hx hb dX12_element_86 rfl (lv_at hl 0 rfl) ?_
  refine m_get B hW 45 (by decide) u_887 (v := .ref (G.2.2.2 45)) rfl dX12_element_87 ?_
  refine lv_iload hx hb dX12_element_90 (lv_at hl 2 rfl) ?_
  refine lv_dup2_11 hx hb dX12_element_92 rfl rfl ?_
  obtain ⟨hc, hq⟩ := chk_e hq
  refine m_iald B hW mA_45 hc dX12_element_93 ?_
  refine lv_iconst (v := 1) hx hb dX12_element_94 (by decide) ?_
  refine lv_isub hx hb dX12_element_95 ?_
  obtain ⟨hc, hq⟩ := chk_e hq
  refine m_iast B hW mA_45 hc dX12_element_96 (fun H locs M8 eM hW => ?_)
  replace hq := lt9_u eM hq
  clear eM
  refine lv_aload_n hx hb dX12_element_97 rfl (lv_at hl 0 rfl) ?_
  refine m_get B hW 45 (by decide) u_887 (v := .ref (G.2.2.2 45)) rfl dX12_element_98 ?_
  refine lv_iload hx hb dX12_element_101 (lv_at hl 2 rfl) ?_
  obtain ⟨hc, hq⟩ := chk_e hq
  refine m_iald B hW mA_45 hc dX12_element_103 ?_
  refine lv_if_ne (tgt := 124) hx hb dX12_element_104 (by decide) (fun hc => ?_) (fun hc => ?_)
  · replace hq := if_n hc hq
    exact m_vret B hW hq dX12_element_124
  · replace hq := if_y hc hq
    refine lv_aload_n hx hb dX12_element_107 rfl (lv_at hl 0 rfl) ?_
    refine lv_iload hx hb dX12_element_108 (lv_at hl 2 rfl) ?_
    refine lv_iload_n hx hb dX12_element_110 rfl (lv_at hl 1 rfl) ?_
    refine lv_bipush (v := 7) hx hb dX12_element_111 (by decide) ?_
    refine lv_icmp_ne (tgt := 120) hx hb dX12_element_113 (by decide) (fun hc => ?_) (fun hc => ?_)
    · replace hq := if_n hc hq
      refine lv_iconst (v := 0) hx hb dX12_element_120 (by decide) ?_
      obtain ⟨M9, hg, hq⟩ := bnd_e hq
      refine m_callv (As := [.int v4, .int 0]) (rest := []) B hW hl.1 (c_finish n M8 v4 0 hg) mC_finish rfl ⟨by decide, by decide⟩ rfl (Nat.le_of_ble_eq_true rfl) dX12_element_121 (fun H locs hW => ?_)
      clear hg
      exact m_vret B hW hq dX12_element_124
    · replace hq := if_y hc hq
      refine lv_iconst (v := 1) hx hb dX12_element_116 (by decide) ?_
      refine lv_goto (tgt := 121) hx hb dX12_element_117 (by decide) ?_
      obtain ⟨M10, hg, hq⟩ := bnd_e hq
      refine m_callv (As := [.int v4, .int 1]) (rest := []) B hW hl.1 (c_finish n M8 v4 1 hg) mC_finish rfl ⟨by decide, by decide⟩ rfl (Nat.le_of_ble_eq_true rfl) dX12_element_121 (fun H locs hW => ?_)
      clear hg
      exact m_vret B hW hq dX12_element_124
set_option maxHeartbeats 4000000 in
set_option maxRecDepth 100000 in
theorem k_element_66 {p : Program} {l : Launch} {e : Env} {s : State} {m : MethodId} {args : Array Value} {below : List Frame} {meth : Method} {c : Code} {D : va_G} {A : Nat → Prop} {G : MG} {M' : MS} (B : mB p s m args meth c D G prog_14_method_25_code 6 none (Cond.code yX12_element prog_14_method_25_code 6 none)) :
    ∀ (n : Nat) (M : MS) (v1 v2 v3 v4 v5 z0 z1 : Int32), q_element_66 n M v1 v2 v3 v4 v5 z0 z1 = some M' → ∀ (H : Heap) (locs : List Loc) (ls : Array Slot), mOK D A G M s.heap H locs → lv_has ls 6 [(0, .ref G.2.2.1), (1, .int v1), (2, .int v2), (3, .int v3), (4, .int v4), (5, .int v5)] → W p l e (rM 4 94) s m args below meth c H locs 0 0 (MQ below (mQv D A G M') args s 0 0 A) (F0 m 66 ls [.int z0, .int z1, .ref (G.2.2.2 8)]) := by
  have hx := B.1
  have hb := B.2.1
  intro n M v1 v2 v3 v4 v5 z0 z1 hq _ _ ls hW hl
  unfold q_element_66 at hq
  obtain ⟨hc, hq⟩ := chk_e hq
  refine m_iast B hW mA_8 hc dX12_element_66 (fun H locs M5 eM hW => ?_)
  replace hq := lt9_u eM hq
  clear eM
  refine lv_aload_n hx hb dX12_element_67 rfl (lv_at hl 0 rfl) ?_
  refine m_get B hW 9 (by decide) u_851 (v := .ref (G.2.2.2 9)) rfl dX12_element_68 ?_
  refine lv_iload hx hb dX12_element_71 (lv_at hl 5 rfl) ?_
  refine lv_iload_n hx hb dX12_element_73 rfl (lv_at hl 3 rfl) ?_
  obtain ⟨hc, hq⟩ := chk_e hq
  refine m_iast B hW mA_9 hc dX12_element_74 (fun H locs M6 eM hW => ?_)
  replace hq := lt9_u eM hq
  clear eM
  refine lv_aload_n hx hb dX12_element_75 rfl (lv_at hl 0 rfl) ?_
  refine m_get B hW 39 (by decide) u_881 (v := .ref (G.2.2.2 39)) rfl dX12_element_76 ?_
  refine lv_iload_n hx hb dX12_element_79 rfl (lv_at hl 2 rfl) ?_
  refine lv_iload hx hb dX12_element_80 (lv_at hl 5 rfl) ?_
  refine m_valueOf (rest := [.int v2, .ref (G.2.2.2 39)]) B hW hl.1 ⟨by decide, by decide⟩ (Nat.le_of_ble_eq_true rfl) dX12_element_82 (fun H locs hW => ?_)
  obtain ⟨hc, hq⟩ := chk_e hq
  refine m_iast B hW mA_39 hc dX12_element_85 (fun H locs M7 eM hW => ?_)
  replace hq := lt9_u eM hq
  clear eM
  exact k_element_86 B n M7 v1 v4 hq _ _ ls hW (lv_sub hl [0, 1, 4] rfl)
set_option maxHeartbeats 4000000 in
set_option maxRecDepth 100000 in
theorem k_element_43 {p : Program} {l : Launch} {e : Env} {s : State} {m : MethodId} {args : Array Value} {below : List Frame} {meth : Method} {c : Code} {D : va_G} {A : Nat → Prop} {G : MG} {M' : MS} (B : mB p s m args meth c D G prog_14_method_25_code 6 none (Cond.code yX12_element prog_14_method_25_code 6 none)) :
    ∀ (n : Nat) (M : MS) (v1 v2 v3 v4 : Int32), q_element_43 n M v1 v2 v3 v4 = some M' → ∀ (H : Heap) (locs : List Loc) (ls : Array Slot), mOK D A G M s.heap H locs → lv_has ls 6 [(0, .ref G.2.2.1), (1, .int v1), (2, .int v2), (3, .int v3), (4, .int v4)] → W p l e (rM 4 94) s m args below meth c H locs 0 0 (MQ below (mQv D A G M') args s 0 0 A) (F0 m 43 ls []) := by
  have hx := B.1
  have hb := B.2.1
  intro n M v1 v2 v3 v4 hq _ _ ls hW hl
  unfold q_element_43 at hq
  refine lv_aload_n hx hb dX12_element_43 rfl (lv_at hl 0 rfl) ?_
  refine lv_iconst (v := 5) hx hb dX12_element_44 (by decide) ?_
  obtain ⟨r4, M3, hg, hq⟩ := bnd2_e hq
  refine m_calli (As := [.int 5]) (rest := []) B hW hl.1 (c_newObject M 5 hg) mC_newObject rfl ⟨by decide, by decide⟩ rfl (Nat.le_of_ble_eq_true rfl) dX12_element_45 (fun H locs hW => ?_)
  clear hg
  refine lv_istore (lv' := [(5, .int r4), (0, .ref G.2.2.1), (1, .int v1), (2, .int v2), (3, .int v3), (4, .int v4)]) hx hb dX12_element_48 hl (by decide) rfl (fun ls hl => ?_)
  refine lv_aload_n hx hb dX12_element_50 rfl (lv_at hl 1 rfl) ?_
  refine m_get B hW 8 (by decide) u_850 (v := .ref (G.2.2.2 8)) rfl dX12_element_51 ?_
  refine lv_iload hx hb dX12_element_54 (lv_at hl 0 rfl) ?_
  refine lv_iload_n hx hb dX12_element_56 rfl (lv_at hl 2 rfl) ?_
  refine lv_iconst (v := 5) hx hb dX12_element_57 (by decide) ?_
  refine lv_icmp_ne (tgt := 65) hx hb dX12_element_58 (by decide) (fun hc => ?_) (fun hc => ?_)
  · replace hq := if_n hc hq
    refine lv_iconst (v := 0) hx hb dX12_element_65 (by decide) ?_
    exact k_element_66 B n M3 v1 v2 v3 v4 r4 0 r4 hq _ _ ls hW (lv_sub hl [1, 2, 3, 4, 5, 0] rfl)
  · replace hq := if_y hc hq
    refine lv_iconst (v := 1) hx hb dX12_element_61 (by decide) ?_
    refine lv_goto (tgt := 66) hx hb dX12_element_62 (by decide) ?_
    exact k_element_66 B n M3 v1 v2 v3 v4 r4 1 r4 hq _ _ ls hW (lv_sub hl [1, 2, 3, 4, 5, 0] rfl)
set_option maxHeartbeats 4000000 in
set_option maxRecDepth 100000 in
theorem c_element {l : Launch} {D : va_G} {A : Nat → Prop} {G : MG} (n : Nat) (M : MS) (p1 p2 p3 : Int32) {M' : MS} (hq : q_element n M p1 p2 p3 = some M') : Met l yX12_element (wM yX12_element prog_14_method_25_code 6 none) (rM 4 94) (va_Pc [.ref G.2.2.1, .int p1, .int p2, .int p3] (mPre D A G M)) (mQv D A G M') 0 0 A := by
  refine m_head (by decide) rfl (Nat.le_of_ble_eq_true rfl) ?_
  intro p e s m args below meth c ls B hW hl
  have hx := B.1
  have hb := B.2.1
  have hl : lv_has ls 6 [(0, .ref G.2.2.1), (1, .int p1), (2, .int p2), (3, .int p3)] := hl
  unfold q_element at hq
  refine lv_aload_n hx hb dX12_element_0 rfl (lv_at hl 0 rfl) ?_
  refine m_get B hW 41 (by decide) u_883 (v := .ref (G.2.2.2 41)) rfl dX12_element_1 ?_
  refine lv_iload_n hx hb dX12_element_4 rfl (lv_at hl 2 rfl) ?_
  obtain ⟨hc, hq⟩ := chk_e hq
  refine m_zald B hW mA_41 hc dX12_element_5 ?_
  refine lv_if_eq (tgt := 10) hx hb dX12_element_6 (by decide) (fun hc => ?_) (fun hc => ?_)
  · replace hq := if_y hc hq
    refine lv_aload_n hx hb dX12_element_10 rfl (lv_at hl 0 rfl) ?_
    refine m_get B hW 41 (by decide) u_883 (v := .ref (G.2.2.2 41)) rfl dX12_element_11 ?_
    refine lv_iload_n hx hb dX12_element_14 rfl (lv_at hl 2 rfl) ?_
    refine lv_iconst (v := 1) hx hb dX12_element_15 (by decide) ?_
    obtain ⟨hc, hq⟩ := chk_e hq
    obtain ⟨hc2, hq⟩ := chk_e hq
    refine m_zast B hW mA_41 hc2 hc dX12_element_16 (fun H locs M1 eM hW => ?_)
    replace hq := lt9_u eM hq
    clear eM
    refine lv_aload_n hx hb dX12_element_17 rfl (lv_at hl 0 rfl) ?_
    refine m_get B hW 40 (by decide) u_882 (v := .ref (G.2.2.2 40)) rfl dX12_element_18 ?_
    refine lv_iload_n hx hb dX12_element_21 rfl (lv_at hl 2 rfl) ?_
    obtain ⟨hc, hq⟩ := chk_e hq
    refine m_iald B hW mA_40 hc dX12_element_22 ?_
    refine lv_istore (lv' := [(4, .int (M1 40 p2.toNatClampNeg)), (0, .ref G.2.2.1), (1, .int p1), (2, .int p2), (3, .int p3)]) hx hb dX12_element_23 hl (by decide) rfl (fun ls hl => ?_)
    refine lv_aload_n hx hb dX12_element_25 rfl (lv_at hl 1 rfl) ?_
    refine m_get B hW 39 (by decide) u_881 (v := .ref (G.2.2.2 39)) rfl dX12_element_26 ?_
    refine lv_iload_n hx hb dX12_element_29 rfl (lv_at hl 3 rfl) ?_
    refine lv_iload_n hx hb dX12_element_30 rfl (lv_at hl 4 rfl) ?_
    obtain ⟨hc, hq⟩ := chk_e hq
    refine m_iast B hW mA_39 hc dX12_element_31 (fun H locs M2 eM hW => ?_)
    replace hq := lt9_u eM hq
    clear eM
    refine lv_iload_n hx hb dX12_element_32 rfl (lv_at hl 2 rfl) ?_
    refine lv_iconst (v := 5) hx hb dX12_element_33 (by decide) ?_
    refine lv_icmp_eq (tgt := 43) hx hb dX12_element_34 (by decide) (fun hc => ?_) (fun hc => ?_)
    · replace hq := if_y hc hq
      exact k_element_43 B n M2 p1 p2 p3 (M1 40 p2.toNatClampNeg) hq _ _ ls hW (lv_sub hl [1, 2, 3, 4, 0] rfl)
    · replace hq := if_n hc hq
      refine lv_iload_n hx hb dX12_element_37 rfl (lv_at hl 2 rfl) ?_
      refine lv_bipush (v := 6) hx hb dX12_element_38 (by decide) ?_
      refine lv_icmp_ne (tgt := 86) hx hb dX12_element_40 (by decide) (fun hc => ?_) (fun hc => ?_)
      · replace hq := if_n hc hq
        exact k_element_86 B n M2 p1 (M1 40 p2.toNatClampNeg) hq _ _ ls hW (lv_sub hl [1, 2, 0] rfl)
      · replace hq := if_y hc hq
        exact k_element_43 B n M2 p1 p2 p3 (M1 40 p2.toNatClampNeg) hq _ _ ls hW (lv_sub hl [1, 2, 3, 4, 0] rfl)
  · replace hq := if_n hc hq
    exact m_vret B hW hq dX12_element_9
theorem mC_element : mC yX12_element prog_14_method_25_code 6 none 204 3 := ⟨fun _ => g_V u_1167 u_1169 us_66 u_5 u_1170, by decide +kernel⟩
set_option maxHeartbeats 4000000 in
set_option maxRecDepth 100000 in
theorem c_note {l : Launch} {D : va_G} {A : Nat → Prop} {G : MG} (M : MS) (p1 p2 : Int32) {M' : MS} (hq : q_note M p1 p2 = some M') : Met l yX12_note (wM yX12_note prog_14_method_20_code 3 none) (rM 0 0) (va_Pc [.ref G.2.2.1, .int p1, .int p2] (mPre D A G M)) (mQv D A G M') 0 0 A := by
  refine m_head (by decide) rfl (Nat.le_of_ble_eq_true rfl) ?_
  intro p e s m args below meth c ls B hW hl
  have hx := B.1
  have hb := B.2.1
  have hl : lv_has ls 3 [(0, .ref G.2.2.1), (1, .int p1), (2, .int p2)] := hl
  unfold q_note at hq
  refine lv_aload_n hx hb dX12_note_0 rfl (lv_at hl 0 rfl) ?_
  refine m_get B hW 34 (by decide) u_876 (v := .ref (G.2.2.2 34)) rfl dX12_note_1 ?_
  refine lv_aload_n hx hb dX12_note_4 rfl (lv_at hl 0 rfl) ?_
  refine m_get B hW 36 (by decide) u_878 (v := .int (M 36 0)) rfl dX12_note_5 ?_
  refine lv_iload_n hx hb dX12_note_8 rfl (lv_at hl 1 rfl) ?_
  obtain ⟨hc, hq⟩ := chk_e hq
  refine m_iast B hW mA_34 hc dX12_note_9 (fun H locs M1 eM hW => ?_)
  replace hq := lt9_u eM hq
  clear eM
  refine lv_aload_n hx hb dX12_note_10 rfl (lv_at hl 0 rfl) ?_
  refine m_get B hW 35 (by decide) u_877 (v := .ref (G.2.2.2 35)) rfl dX12_note_11 ?_
  refine lv_aload_n hx hb dX12_note_14 rfl (lv_at hl 0 rfl) ?_
  refine m_get B hW 36 (by decide) u_878 (v := .int (M1 36 0)) rfl dX12_note_15 ?_
  refine lv_iload_n hx hb dX12_note_18 rfl (lv_at hl 2 rfl) ?_
  obtain ⟨hc, hq⟩ := chk_e hq
  refine m_iast B hW mA_35 hc dX12_note_19 (fun H locs M2 eM hW => ?_)
  replace hq := lt9_u eM hq
  clear eM
  refine lv_aload_n hx hb dX12_note_20 rfl (lv_at hl 0 rfl) ?_
  refine lv_dup hx hb dX12_note_21 rfl ?_
  refine m_get B hW 36 (by decide) u_878 (v := .int (M2 36 0)) rfl dX12_note_22 ?_
  refine lv_iconst (v := 1) hx hb dX12_note_25 (by decide) ?_
  refine lv_iadd hx hb dX12_note_26 ?_
  refine m_put B hW 36 (by decide) u_878 mS_36 rfl (ty := .int) (tyX12_ok 36 (by decide)) rfl rfl (Nat.le_of_ble_eq_true rfl) dX12_note_27 (fun H locs M3 eM hW => ?_)
  replace hq := lt9_u eM hq
  clear eM
  exact m_vret B hW hq dX12_note_30
theorem mC_note : mC yX12_note prog_14_method_20_code 3 none 190 2 := ⟨fun _ => g_V u_1151 u_1153 us_62 u_5 u_1154, by decide +kernel⟩
set_option maxHeartbeats 4000000 in
set_option maxRecDepth 100000 in
theorem k_handle_32 {p : Program} {l : Launch} {e : Env} {s : State} {m : MethodId} {args : Array Value} {below : List Frame} {meth : Method} {c : Code} {D : va_G} {A : Nat → Prop} {G : MG} {r : Int32} {M' : MS} (B : mB p s m args meth c D G prog_14_method_21_code 4 (some .int) (Cond.code yX12_handle prog_14_method_21_code 4 (some .int))) :
    ∀ (n : Nat) (M : MS) (v1 v2 z0 : Int32), q_handle_32 n M v1 v2 z0 = some (r, M') → ∀ (H : Heap) (locs : List Loc) (ls : Array Slot), mOK D A G M s.heap H locs → lv_has ls 4 [(0, .ref G.2.2.1), (1, .int v1), (2, .int v2)] → W p l e (rM 3 71) s m args below meth c H locs 0 0 (MQ below (mQi D A G r M') args s 0 0 A) (F0 m 32 ls [.int z0, .ref G.2.2.1]) := by
  have hx := B.1
  have hb := B.2.1
  intro n M v1 v2 z0 hq _ _ ls hW hl
  unfold q_handle_32 at hq
  obtain ⟨hc, hq⟩ := chk_e hq
  refine m_put B hW 51 (by decide) u_893 mS_51 rfl (ty := .boolean) (tyX12_ok 51 (by decide)) (isB_narrow hc) (isB_fits hc) (Nat.le_of_ble_eq_true rfl) dX12_handle_32 (fun H locs M2 eM hW => ?_)
  replace hq := lt9_u eM hq
  clear eM
  refine lv_aload_n hx hb dX12_handle_35 rfl (lv_at hl 0 rfl) ?_
  refine m_get B hW 31 (by decide) u_873 (v := .ref (G.2.2.2 31)) rfl dX12_handle_36 ?_
  refine lv_iload_n hx hb dX12_handle_39 rfl (lv_at hl 1 rfl) ?_
  obtain ⟨hc, hq⟩ := chk_e hq
  refine m_iald B hW mA_31 hc dX12_handle_40 ?_
  by_cases hc0 : (M2 31 v1.toNatClampNeg) = 0
  · replace hq := if_y hc0 hq
    refine lv_tableIn (off := 31) (tgt := 72) hx hb dX12_handle_41 (by rw [hc0]; decide) (by rw [hc0]; decide) (by rw [hc0]; rfl) (by decide) ?_
    refine lv_aload_n hx hb dX12_handle_72 rfl (lv_at hl 0 rfl) ?_
    refine m_get B hW 32 (by decide) u_874 (v := .ref (G.2.2.2 32)) rfl dX12_handle_73 ?_
    refine lv_iload_n hx hb dX12_handle_76 rfl (lv_at hl 1 rfl) ?_
    obtain ⟨hc, hq⟩ := chk_e hq
    refine m_iald B hW mA_32 hc dX12_handle_77 ?_
    exact m_iret B hW hq dX12_handle_78
  replace hq := if_n hc0 hq
  by_cases hc1 : (M2 31 v1.toNatClampNeg) = 1
  · replace hq := if_y hc1 hq
    refine lv_tableIn (off := 38) (tgt := 79) hx hb dX12_handle_41 (by rw [hc1]; decide) (by rw [hc1]; decide) (by rw [hc1]; rfl) (by decide) ?_
    refine lv_iload_n hx hb dX12_handle_79 rfl (lv_at hl 2 rfl) ?_
    exact m_iret B hW hq dX12_handle_80
  replace hq := if_n hc1 hq
  by_cases hc2 : (M2 31 v1.toNatClampNeg) = 2
  · replace hq := if_y hc2 hq
    refine lv_tableIn (off := 31) (tgt := 72) hx hb dX12_handle_41 (by rw [hc2]; decide) (by rw [hc2]; decide) (by rw [hc2]; rfl) (by decide) ?_
    refine lv_aload_n hx hb dX12_handle_72 rfl (lv_at hl 0 rfl) ?_
    refine m_get B hW 32 (by decide) u_874 (v := .ref (G.2.2.2 32)) rfl dX12_handle_73 ?_
    refine lv_iload_n hx hb dX12_handle_76 rfl (lv_at hl 1 rfl) ?_
    obtain ⟨hc, hq⟩ := chk_e hq
    refine m_iald B hW mA_32 hc dX12_handle_77 ?_
    exact m_iret B hW hq dX12_handle_78
  replace hq := if_n hc2 hq
  by_cases hc3 : (M2 31 v1.toNatClampNeg) = 3
  · replace hq := if_y hc3 hq
    refine lv_tableIn (off := 38) (tgt := 79) hx hb dX12_handle_41 (by rw [hc3]; decide) (by rw [hc3]; decide) (by rw [hc3]; rfl) (by decide) ?_
    refine lv_iload_n hx hb dX12_handle_79 rfl (lv_at hl 2 rfl) ?_
    exact m_iret B hW hq dX12_handle_80
  replace hq := if_n hc3 hq
  have hd0 : ((M2 31 v1.toNatClampNeg)).toInt ≠ 0 := fun e9 => hc0 (Int32.toInt_inj.mp (e9.trans (by decide)))
  have hd1 : ((M2 31 v1.toNatClampNeg)).toInt ≠ 1 := fun e9 => hc1 (Int32.toInt_inj.mp (e9.trans (by decide)))
  have hd2 : ((M2 31 v1.toNatClampNeg)).toInt ≠ 2 := fun e9 => hc2 (Int32.toInt_inj.mp (e9.trans (by decide)))
  have hd3 : ((M2 31 v1.toNatClampNeg)).toInt ≠ 3 := fun e9 => hc3 (Int32.toInt_inj.mp (e9.trans (by decide)))
  refine lv_tableOut (tgt := 81) hx hb dX12_handle_41 (by omega) (by decide) ?_
  refine lv_aload_n hx hb dX12_handle_81 rfl (lv_at hl 0 rfl) ?_
  refine m_get B hW 6 (by decide) u_848 (v := .ref (G.2.2.2 6)) rfl dX12_handle_82 ?_
  refine lv_bipush (v := (-2)) hx hb dX12_handle_85 (by decide) ?_
  refine lv_aload_n hx hb dX12_handle_87 rfl (lv_at hl 0 rfl) ?_
  refine m_get B hW 32 (by decide) u_874 (v := .ref (G.2.2.2 32)) rfl dX12_handle_88 ?_
  refine lv_iload_n hx hb dX12_handle_91 rfl (lv_at hl 1 rfl) ?_
  obtain ⟨hc, hq⟩ := chk_e hq
  refine m_iald B hW mA_32 hc dX12_handle_92 ?_
  refine lv_isub hx hb dX12_handle_93 ?_
  obtain ⟨hc, hq⟩ := chk_e hq
  refine m_iald B hW mA_6 hc dX12_handle_94 ?_
  refine lv_istore_n (lv' := [(3, .int (M2 6 ((-2) - (M2 32 v1.toNatClampNeg)).toNatClampNeg)), (0, .ref G.2.2.1), (1, .int v1), (2, .int v2)]) hx hb dX12_handle_95 rfl hl (by decide) rfl (fun ls hl => ?_)
  refine lv_aload_n hx hb dX12_handle_96 rfl (lv_at hl 1 rfl) ?_
  refine m_get B hW 31 (by decide) u_873 (v := .ref (G.2.2.2 31)) rfl dX12_handle_97 ?_
  refine lv_iload_n hx hb dX12_handle_100 rfl (lv_at hl 2 rfl) ?_
  obtain ⟨hc, hq⟩ := chk_e hq
  refine m_iald B hW mA_31 hc dX12_handle_101 ?_
  refine lv_iconst (v := 4) hx hb dX12_handle_102 (by decide) ?_
  refine lv_icmp_ne (tgt := 115) hx hb dX12_handle_103 (by decide) (fun hc => ?_) (fun hc => ?_)
  · replace hq := if_n hc hq
    refine lv_aload_n hx hb dX12_handle_115 rfl (lv_at hl 1 rfl) ?_
    refine lv_iload_n hx hb dX12_handle_116 rfl (lv_at hl 0 rfl) ?_
    refine lv_iload_n hx hb dX12_handle_117 rfl (lv_at hl 3 rfl) ?_
    obtain ⟨M3, hg, hq⟩ := bnd_e hq
    refine m_callv (As := [.int (M2 6 ((-2) - (M2 32 v1.toNatClampNeg)).toNatClampNeg), .int v2]) (rest := []) B hW hl.1 (c_reject n M2 (M2 6 ((-2) - (M2 32 v1.toNatClampNeg)).toNatClampNeg) v2 hg) mC_reject rfl ⟨by decide, by decide⟩ rfl (Nat.le_of_ble_eq_true rfl) dX12_handle_118 (fun H locs hW => ?_)
    clear hg
    refine lv_aload_n hx hb dX12_handle_121 rfl (lv_at hl 1 rfl) ?_
    refine lv_iconst (v := 0) hx hb dX12_handle_122 (by decide) ?_
    obtain ⟨hc, hq⟩ := chk_e hq
    refine m_put B hW 51 (by decide) u_893 mS_51 rfl (ty := .boolean) (tyX12_ok 51 (by decide)) (isB_narrow hc) (isB_fits hc) (Nat.le_of_ble_eq_true rfl) dX12_handle_123 (fun H locs M4 eM hW => ?_)
    replace hq := lt9_u eM hq
    clear eM
    refine lv_iconst (v := (-1)) hx hb dX12_handle_126 (by decide) ?_
    exact m_iret B hW hq dX12_handle_127
  · replace hq := if_y hc hq
    refine lv_aload_n hx hb dX12_handle_106 rfl (lv_at hl 1 rfl) ?_
    refine lv_iload_n hx hb dX12_handle_107 rfl (lv_at hl 0 rfl) ?_
    refine lv_iload_n hx hb dX12_handle_108 rfl (lv_at hl 3 rfl) ?_
    obtain ⟨M5, hg, hq⟩ := bnd_e hq
    refine m_callv (As := [.int (M2 6 ((-2) - (M2 32 v1.toNatClampNeg)).toNatClampNeg), .int v2]) (rest := []) B hW hl.1 (c_resolve n M2 (M2 6 ((-2) - (M2 32 v1.toNatClampNeg)).toNatClampNeg) v2 hg) mC_resolve rfl ⟨by decide, by decide⟩ rfl (Nat.le_of_ble_eq_true rfl) dX12_handle_109 (fun H locs hW => ?_)
    clear hg
    refine lv_goto (tgt := 121) hx hb dX12_handle_112 (by decide) ?_
    refine lv_aload_n hx hb dX12_handle_121 rfl (lv_at hl 1 rfl) ?_
    refine lv_iconst (v := 0) hx hb dX12_handle_122 (by decide) ?_
    obtain ⟨hc, hq⟩ := chk_e hq
    refine m_put B hW 51 (by decide) u_893 mS_51 rfl (ty := .boolean) (tyX12_ok 51 (by decide)) (isB_narrow hc) (isB_fits hc) (Nat.le_of_ble_eq_true rfl) dX12_handle_123 (fun H locs M6 eM hW => ?_)
    replace hq := lt9_u eM hq
    clear eM
    refine lv_iconst (v := (-1)) hx hb dX12_handle_126 (by decide) ?_
    exact m_iret B hW hq dX12_handle_127
set_option maxHeartbeats 4000000 in
set_option maxRecDepth 100000 in
theorem k_handle_27 {p : Program} {l : Launch} {e : Env} {s : State} {m : MethodId} {args : Array Value} {below : List Frame} {meth : Method} {c : Code} {D : va_G} {A : Nat → Prop} {G : MG} {r : Int32} {M' : MS} (B : mB p s m args meth c D G prog_14_method_21_code 4 (some .int) (Cond.code yX12_handle prog_14_method_21_code 4 (some .int))) :
    ∀ (n : Nat) (M : MS) (v1 v2 : Int32), q_handle_27 n M v1 v2 = some (r, M') → ∀ (H : Heap) (locs : List Loc) (ls : Array Slot), mOK D A G M s.heap H locs → lv_has ls 4 [(0, .ref G.2.2.1), (1, .int v1), (2, .int v2)] → W p l e (rM 3 71) s m args below meth c H locs 0 0 (MQ below (mQi D A G r M') args s 0 0 A) (F0 m 27 ls [.ref G.2.2.1]) := by
  have hx := B.1
  have hb := B.2.1
  intro n M v1 v2 hq _ _ ls hW hl
  unfold q_handle_27 at hq
  refine lv_iconst (v := 1) hx hb dX12_handle_27 (by decide) ?_
  refine lv_goto (tgt := 32) hx hb dX12_handle_28 (by decide) ?_
  exact k_handle_32 B n M v1 v2 1 hq _ _ ls hW (lv_sub hl [0, 1, 2] rfl)
set_option maxHeartbeats 4000000 in
set_option maxRecDepth 100000 in
theorem c_handle {l : Launch} {D : va_G} {A : Nat → Prop} {G : MG} (n : Nat) (M : MS) (p1 p2 : Int32) {r : Int32} {M' : MS} (hq : q_handle n M p1 p2 = some (r, M')) : Met l yX12_handle (wM yX12_handle prog_14_method_21_code 4 (some .int)) (rM 3 71) (va_Pc [.ref G.2.2.1, .int p1, .int p2] (mPre D A G M)) (mQi D A G r M') 0 0 A := by
  refine m_head (by decide) rfl (Nat.le_of_ble_eq_true rfl) ?_
  intro p e s m args below meth c ls B hW hl
  have hx := B.1
  have hb := B.2.1
  have hl : lv_has ls 4 [(0, .ref G.2.2.1), (1, .int p1), (2, .int p2)] := hl
  unfold q_handle at hq
  refine lv_aload_n hx hb dX12_handle_0 rfl (lv_at hl 0 rfl) ?_
  refine lv_iload_n hx hb dX12_handle_1 rfl (lv_at hl 1 rfl) ?_
  refine lv_iload_n hx hb dX12_handle_2 rfl (lv_at hl 2 rfl) ?_
  obtain ⟨M1, hg, hq⟩ := bnd_e hq
  refine m_callv (As := [.int p1, .int p2]) (rest := []) B hW hl.1 (c_note M p1 p2 hg) mC_note rfl ⟨by decide, by decide⟩ rfl (Nat.le_of_ble_eq_true rfl) dX12_handle_3 (fun H locs hW => ?_)
  clear hg
  refine lv_aload_n hx hb dX12_handle_6 rfl (lv_at hl 0 rfl) ?_
  refine lv_aload_n hx hb dX12_handle_7 rfl (lv_at hl 0 rfl) ?_
  refine m_get B hW 31 (by decide) u_873 (v := .ref (G.2.2.2 31)) rfl dX12_handle_8 ?_
  refine lv_iload_n hx hb dX12_handle_11 rfl (lv_at hl 1 rfl) ?_
  obtain ⟨hc, hq⟩ := chk_e hq
  refine m_iald B hW mA_31 hc dX12_handle_12 ?_
  refine lv_iconst (v := 2) hx hb dX12_handle_13 (by decide) ?_
  refine lv_icmp_eq (tgt := 27) hx hb dX12_handle_14 (by decide) (fun hc => ?_) (fun hc => ?_)
  · replace hq := if_y hc hq
    exact k_handle_27 B n M1 p1 p2 hq _ _ ls hW (lv_sub hl [0, 1, 2] rfl)
  · replace hq := if_n hc hq
    refine lv_aload_n hx hb dX12_handle_17 rfl (lv_at hl 0 rfl) ?_
    refine m_get B hW 31 (by decide) u_873 (v := .ref (G.2.2.2 31)) rfl dX12_handle_18 ?_
    refine lv_iload_n hx hb dX12_handle_21 rfl (lv_at hl 1 rfl) ?_
    obtain ⟨hc, hq⟩ := chk_e hq
    refine m_iald B hW mA_31 hc dX12_handle_22 ?_
    refine lv_iconst (v := 3) hx hb dX12_handle_23 (by decide) ?_
    refine lv_icmp_ne (tgt := 31) hx hb dX12_handle_24 (by decide) (fun hc => ?_) (fun hc => ?_)
    · replace hq := if_n hc hq
      refine lv_iconst (v := 0) hx hb dX12_handle_31 (by decide) ?_
      exact k_handle_32 B n M1 p1 p2 0 hq _ _ ls hW (lv_sub hl [0, 1, 2] rfl)
    · replace hq := if_y hc hq
      exact k_handle_27 B n M1 p1 p2 hq _ _ ls hW (lv_sub hl [0, 1, 2] rfl)
theorem mC_handle : mC yX12_handle prog_14_method_21_code 4 (some .int) 200 2 := ⟨fun _ => g_V u_1163 u_1165 us_65 u_5 u_1166, by decide +kernel⟩
set_option maxHeartbeats 4000000 in
set_option maxRecDepth 100000 in
theorem k_last_66 {p : Program} {l : Launch} {e : Env} {s : State} {m : MethodId} {args : Array Value} {below : List Frame} {meth : Method} {c : Code} {D : va_G} {A : Nat → Prop} {G : MG} {r : Int32} {M' : MS} (B : mB p s m args meth c D G prog_14_method_23_code 8 (some .int) (Cond.code yX12_last prog_14_method_23_code 8 (some .int))) :
    ∀ (n : Nat) (M : MS) (v6 z0 z1 : Int32), q_last_66 n M v6 z0 z1 = some (r, M') → ∀ (H : Heap) (locs : List Loc) (ls : Array Slot), mOK D A G M s.heap H locs → lv_has ls 8 [(0, .ref G.2.2.1), (6, .int v6)] → W p l e (rM 4 94) s m args below meth c H locs 0 0 (MQ below (mQi D A G r M') args s 0 0 A) (F0 m 66 ls [.int z0, .int z1, .ref G.2.2.1]) := by
  have hx := B.1
  have hb := B.2.1
  intro n M v6 z0 z1 hq _ _ ls hW hl
  unfold q_last_66 at hq
  refine lv_iload hx hb dX12_last_66 (lv_at hl 1 rfl) ?_
  refine lv_iconst (v := 0) hx hb dX12_last_68 (by decide) ?_
  refine lv_iconst (v := 0) hx hb dX12_last_69 (by decide) ?_
  obtain ⟨r8, M7, hg, hq⟩ := bnd2_e hq
  refine m_calli (As := [.int z1, .int z0, .int v6, .int 0, .int 0]) (rest := []) B hW hl.1 (c_then n M z1 z0 v6 0 0 hg) mC_then rfl ⟨by decide, by decide⟩ rfl (Nat.le_of_ble_eq_true rfl) dX12_last_70 (fun H locs hW => ?_)
  clear hg
  refine m_valueOf (rest := []) B hW hl.1 ⟨by decide, by decide⟩ (Nat.le_of_ble_eq_true rfl) dX12_last_73 (fun H locs hW => ?_)
  refine lv_istore (lv' := [(7, .int (-2 - r8)), (0, .ref G.2.2.1), (6, .int v6)]) hx hb dX12_last_76 hl (by decide) rfl (fun ls hl => ?_)
  refine lv_aload_n hx hb dX12_last_78 rfl (lv_at hl 1 rfl) ?_
  refine lv_iconst (v := 0) hx hb dX12_last_79 (by decide) ?_
  obtain ⟨hc, hq⟩ := chk_e hq
  refine m_put B hW 51 (by decide) u_893 mS_51 rfl (ty := .boolean) (tyX12_ok 51 (by decide)) (isB_narrow hc) (isB_fits hc) (Nat.le_of_ble_eq_true rfl) dX12_last_80 (fun H locs M9 eM hW => ?_)
  replace hq := lt9_u eM hq
  clear eM
  refine lv_iload hx hb dX12_last_83 (lv_at hl 0 rfl) ?_
  exact m_iret B hW hq dX12_last_85
set_option maxHeartbeats 4000000 in
set_option maxRecDepth 100000 in
theorem c_last {l : Launch} {D : va_G} {A : Nat → Prop} {G : MG} (n : Nat) (M : MS) (p1 p2 p3 : Int32) {r : Int32} {M' : MS} (hq : q_last n M p1 p2 p3 = some (r, M')) : Met l yX12_last (wM yX12_last prog_14_method_23_code 8 (some .int)) (rM 4 94) (va_Pc [.ref G.2.2.1, .int p1, .int p2, .int p3] (mPre D A G M)) (mQi D A G r M') 0 0 A := by
  refine m_head (by decide) rfl (Nat.le_of_ble_eq_true rfl) ?_
  intro p e s m args below meth c ls B hW hl
  have hx := B.1
  have hb := B.2.1
  have hl : lv_has ls 8 [(0, .ref G.2.2.1), (1, .int p1), (2, .int p2), (3, .int p3)] := hl
  unfold q_last at hq
  refine lv_aload_n hx hb dX12_last_0 rfl (lv_at hl 0 rfl) ?_
  refine lv_iload_n hx hb dX12_last_1 rfl (lv_at hl 2 rfl) ?_
  refine lv_iconst (v := (-1)) hx hb dX12_last_2 (by decide) ?_
  obtain ⟨r2, M1, hg, hq⟩ := bnd2_e hq
  refine m_calli (As := [.int p2, .int (-1)]) (rest := []) B hW hl.1 (c_handle n M p2 (-1) hg) mC_handle rfl ⟨by decide, by decide⟩ rfl (Nat.le_of_ble_eq_true rfl) dX12_last_3 (fun H locs hW => ?_)
  clear hg
  refine lv_istore (lv' := [(4, .int r2), (0, .ref G.2.2.1), (1, .int p1), (2, .int p2), (3, .int p3)]) hx hb dX12_last_6 hl (by decide) rfl (fun ls hl => ?_)
  refine lv_aload_n hx hb dX12_last_8 rfl (lv_at hl 1 rfl) ?_
  refine m_get B hW 51 (by decide) u_893 (v := .int (M1 51 0)) rfl dX12_last_9 ?_
  refine lv_if_eq (tgt := 18) hx hb dX12_last_12 (by decide) (fun hc => ?_) (fun hc => ?_)
  · replace hq := if_y hc hq
    refine lv_aload_n hx hb dX12_last_18 rfl (lv_at hl 1 rfl) ?_
    refine lv_iload hx hb dX12_last_19 (lv_at hl 0 rfl) ?_
    obtain ⟨r4, M3, hg, hq⟩ := bnd2_e hq
    refine m_calli (As := [.int r2]) (rest := []) B hW hl.1 (c_promiseOf n M1 r2 hg) mC_promiseOf rfl ⟨by decide, by decide⟩ rfl (Nat.le_of_ble_eq_true rfl) dX12_last_21 (fun H locs hW => ?_)
    clear hg
    refine lv_istore (lv' := [(5, .int r4), (4, .int r2), (0, .ref G.2.2.1), (1, .int p1), (2, .int p2), (3, .int p3)]) hx hb dX12_last_24 hl (by decide) rfl (fun ls hl => ?_)
    refine lv_aload_n hx hb dX12_last_26 rfl (lv_at hl 2 rfl) ?_
    refine m_get B hW 42 (by decide) u_884 (v := .int (M3 42 0)) rfl dX12_last_27 ?_
    refine lv_istore (lv' := [(6, .int (M3 42 0)), (5, .int r4), (4, .int r2), (0, .ref G.2.2.1), (1, .int p1), (2, .int p2), (3, .int p3)]) hx hb dX12_last_30 hl (by decide) rfl (fun ls hl => ?_)
    refine lv_aload_n hx hb dX12_last_32 rfl (lv_at hl 3 rfl) ?_
    refine lv_dup hx hb dX12_last_33 rfl ?_
    refine m_get B hW 42 (by decide) u_884 (v := .int (M3 42 0)) rfl dX12_last_34 ?_
    refine lv_iconst (v := 1) hx hb dX12_last_37 (by decide) ?_
    refine lv_iadd hx hb dX12_last_38 ?_
    refine m_put B hW 42 (by decide) u_884 mS_42 rfl (ty := .int) (tyX12_ok 42 (by decide)) rfl rfl (Nat.le_of_ble_eq_true rfl) dX12_last_39 (fun H locs M5 eM hW => ?_)
    replace hq := lt9_u eM hq
    clear eM
    refine lv_aload_n hx hb dX12_last_42 rfl (lv_at hl 3 rfl) ?_
    refine m_get B hW 39 (by decide) u_881 (v := .ref (G.2.2.2 39)) rfl dX12_last_43 ?_
    refine lv_iload hx hb dX12_last_46 (lv_at hl 0 rfl) ?_
    refine lv_iload_n hx hb dX12_last_48 rfl (lv_at hl 6 rfl) ?_
    obtain ⟨hc, hq⟩ := chk_e hq
    refine m_iast B hW mA_39 hc dX12_last_49 (fun H locs M6 eM hW => ?_)
    replace hq := lt9_u eM hq
    clear eM
    refine lv_aload_n hx hb dX12_last_50 rfl (lv_at hl 3 rfl) ?_
    refine lv_iload hx hb dX12_last_51 (lv_at hl 1 rfl) ?_
    refine lv_iload_n hx hb dX12_last_53 rfl (lv_at hl 4 rfl) ?_
    refine lv_bipush (v := 8) hx hb dX12_last_54 (by decide) ?_
    refine lv_icmp_ne (tgt := 64) hx hb dX12_last_56 (by decide) (fun hc => ?_) (fun hc => ?_)
    · replace hq := if_n hc hq
      refine lv_bipush (v := 11) hx hb dX12_last_64 (by decide) ?_
      exact k_last_66 B n M6 (M3 42 0) 11 r4 hq _ _ ls hW (lv_sub hl [3, 0] rfl)
    · replace hq := if_y hc hq
      refine lv_bipush (v := 10) hx hb dX12_last_59 (by decide) ?_
      refine lv_goto (tgt := 66) hx hb dX12_last_61 (by decide) ?_
      exact k_last_66 B n M6 (M3 42 0) 10 r4 hq _ _ ls hW (lv_sub hl [3, 0] rfl)
  · replace hq := if_n hc hq
    refine lv_iload hx hb dX12_last_15 (lv_at hl 0 rfl) ?_
    exact m_iret B hW hq dX12_last_17
theorem mC_last : mC yX12_last prog_14_method_23_code 8 (some .int) 207 3 := ⟨fun _ => g_V u_1171 u_1173 us_67 u_5 u_1174, by decide +kernel⟩
set_option maxHeartbeats 4000000 in
set_option maxRecDepth 100000 in
theorem c_resume {l : Launch} {D : va_G} {A : Nat → Prop} {G : MG} (n : Nat) (M : MS) (p1 p2 : Int32) {M' : MS} (hq : q_resume n M p1 p2 = some M') : Met l yX12_resume (wM yX12_resume prog_14_method_31_code 4 none) (rM 5 115) (va_Pc [.ref G.2.2.1, .int p1, .int p2] (mPre D A G M)) (mQv D A G M') 0 0 A := by
  refine m_head (by decide) rfl (Nat.le_of_ble_eq_true rfl) ?_
  intro p e s m args below meth c ls B hW hl
  have hx := B.1
  have hb := B.2.1
  have hl : lv_has ls 4 [(0, .ref G.2.2.1), (1, .int p1), (2, .int p2)] := hl
  unfold q_resume at hq
  refine lv_aload_n hx hb dX12_resume_0 rfl (lv_at hl 0 rfl) ?_
  refine m_get B hW 48 (by decide) u_890 (v := .ref (G.2.2.2 48)) rfl dX12_resume_1 ?_
  refine lv_iload_n hx hb dX12_resume_4 rfl (lv_at hl 1 rfl) ?_
  obtain ⟨hc, hq⟩ := chk_e hq
  refine m_iald B hW mA_48 hc dX12_resume_5 ?_
  refine lv_if_lt (tgt := 45) hx hb dX12_resume_6 (by decide) (fun hc => ?_) (fun hc => ?_)
  · replace hq := if_y hc hq
    refine lv_aload_n hx hb dX12_resume_45 rfl (lv_at hl 0 rfl) ?_
    refine lv_iload_n hx hb dX12_resume_46 rfl (lv_at hl 1 rfl) ?_
    obtain ⟨M1, hg, hq⟩ := bnd_e hq
    refine m_callv (As := [.int p1]) (rest := []) B hW hl.1 (c_goOn n M p1 hg) mC_goOn rfl ⟨by decide, by decide⟩ rfl (Nat.le_of_ble_eq_true rfl) dX12_resume_47 (fun H locs hW => ?_)
    clear hg
    refine lv_aload_n hx hb dX12_resume_50 rfl (lv_at hl 0 rfl) ?_
    refine lv_iconst (v := 0) hx hb dX12_resume_51 (by decide) ?_
    obtain ⟨hc, hq⟩ := chk_e hq
    refine m_put B hW 51 (by decide) u_893 mS_51 rfl (ty := .boolean) (tyX12_ok 51 (by decide)) (isB_narrow hc) (isB_fits hc) (Nat.le_of_ble_eq_true rfl) dX12_resume_52 (fun H locs M2 eM hW => ?_)
    replace hq := lt9_u eM hq
    clear eM
    exact m_vret B hW hq dX12_resume_55
  · replace hq := if_n hc hq
    refine lv_aload_n hx hb dX12_resume_9 rfl (lv_at hl 0 rfl) ?_
    refine lv_aload_n hx hb dX12_resume_10 rfl (lv_at hl 0 rfl) ?_
    refine m_get B hW 48 (by decide) u_890 (v := .ref (G.2.2.2 48)) rfl dX12_resume_11 ?_
    refine lv_iload_n hx hb dX12_resume_14 rfl (lv_at hl 1 rfl) ?_
    obtain ⟨hc, hq⟩ := chk_e hq
    refine m_iald B hW mA_48 hc dX12_resume_15 ?_
    refine lv_iload_n hx hb dX12_resume_16 rfl (lv_at hl 2 rfl) ?_
    obtain ⟨r4, M3, hg, hq⟩ := bnd2_e hq
    refine m_calli (As := [.int (M 48 p1.toNatClampNeg), .int p2]) (rest := []) B hW hl.1 (c_handle n M (M 48 p1.toNatClampNeg) p2 hg) mC_handle rfl ⟨by decide, by decide⟩ rfl (Nat.le_of_ble_eq_true rfl) dX12_resume_17 (fun H locs hW => ?_)
    clear hg
    refine lv_istore_n (lv' := [(3, .int r4), (0, .ref G.2.2.1), (1, .int p1), (2, .int p2)]) hx hb dX12_resume_20 rfl hl (by decide) rfl (fun ls hl => ?_)
    refine lv_aload_n hx hb dX12_resume_21 rfl (lv_at hl 1 rfl) ?_
    refine m_get B hW 51 (by decide) u_893 (v := .int (M3 51 0)) rfl dX12_resume_22 ?_
    refine lv_if_eq (tgt := 45) hx hb dX12_resume_25 (by decide) (fun hc => ?_) (fun hc => ?_)
    · replace hq := if_y hc hq
      refine lv_aload_n hx hb dX12_resume_45 rfl (lv_at hl 1 rfl) ?_
      refine lv_iload_n hx hb dX12_resume_46 rfl (lv_at hl 2 rfl) ?_
      obtain ⟨M5, hg, hq⟩ := bnd_e hq
      refine m_callv (As := [.int p1]) (rest := []) B hW hl.1 (c_goOn n M3 p1 hg) mC_goOn rfl ⟨by decide, by decide⟩ rfl (Nat.le_of_ble_eq_true rfl) dX12_resume_47 (fun H locs hW => ?_)
      clear hg
      refine lv_aload_n hx hb dX12_resume_50 rfl (lv_at hl 1 rfl) ?_
      refine lv_iconst (v := 0) hx hb dX12_resume_51 (by decide) ?_
      obtain ⟨hc, hq⟩ := chk_e hq
      refine m_put B hW 51 (by decide) u_893 mS_51 rfl (ty := .boolean) (tyX12_ok 51 (by decide)) (isB_narrow hc) (isB_fits hc) (Nat.le_of_ble_eq_true rfl) dX12_resume_52 (fun H locs M6 eM hW => ?_)
      replace hq := lt9_u eM hq
      clear eM
      exact m_vret B hW hq dX12_resume_55
    · replace hq := if_n hc hq
      refine lv_aload_n hx hb dX12_resume_28 rfl (lv_at hl 1 rfl) ?_
      refine lv_iconst (v := 0) hx hb dX12_resume_29 (by decide) ?_
      obtain ⟨hc, hq⟩ := chk_e hq
      refine m_put B hW 51 (by decide) u_893 mS_51 rfl (ty := .boolean) (tyX12_ok 51 (by decide)) (isB_narrow hc) (isB_fits hc) (Nat.le_of_ble_eq_true rfl) dX12_resume_30 (fun H locs M7 eM hW => ?_)
      replace hq := lt9_u eM hq
      clear eM
      refine lv_aload_n hx hb dX12_resume_33 rfl (lv_at hl 1 rfl) ?_
      refine lv_aload_n hx hb dX12_resume_34 rfl (lv_at hl 1 rfl) ?_
      refine m_get B hW 46 (by decide) u_888 (v := .ref (G.2.2.2 46)) rfl dX12_resume_35 ?_
      refine lv_iload_n hx hb dX12_resume_38 rfl (lv_at hl 2 rfl) ?_
      obtain ⟨hc, hq⟩ := chk_e hq
      refine m_iald B hW mA_46 hc dX12_resume_39 ?_
      refine lv_iload_n hx hb dX12_resume_40 rfl (lv_at hl 0 rfl) ?_
      obtain ⟨M8, hg, hq⟩ := bnd_e hq
      refine m_callv (As := [.int (M7 46 p1.toNatClampNeg), .int r4]) (rest := []) B hW hl.1 (c_reject n M7 (M7 46 p1.toNatClampNeg) r4 hg) mC_reject rfl ⟨by decide, by decide⟩ rfl (Nat.le_of_ble_eq_true rfl) dX12_resume_41 (fun H locs hW => ?_)
      clear hg
      exact m_vret B hW hq dX12_resume_44
theorem mC_resume : mC yX12_resume prog_14_method_31_code 4 none 211 2 := ⟨fun _ => g_V u_1175 u_1177 us_68 u_5 u_1178, by decide +kernel⟩
set_option maxHeartbeats 4000000 in
set_option maxRecDepth 100000 in
theorem c_call {l : Launch} {D : va_G} {A : Nat → Prop} {G : MG} (n : Nat) (M : MS) (p1 p2 p3 : Int32) {r : Int32} {M' : MS} (hq : q_call n M p1 p2 p3 = some (r, M')) : Met l yX12_call (wM yX12_call prog_14_method_22_code 4 (some .int)) (rM 6 138) (va_Pc [.ref G.2.2.1, .int p1, .int p2, .int p3] (mPre D A G M)) (mQi D A G r M') 0 0 A := by
  refine m_head (by decide) rfl (Nat.le_of_ble_eq_true rfl) ?_
  intro p e s m args below meth c ls B hW hl
  have hx := B.1
  have hb := B.2.1
  have hl : lv_has ls 4 [(0, .ref G.2.2.1), (1, .int p1), (2, .int p2), (3, .int p3)] := hl
  unfold q_call at hq
  refine lv_aload_n hx hb dX12_call_0 rfl (lv_at hl 0 rfl) ?_
  refine lv_iconst (v := 0) hx hb dX12_call_1 (by decide) ?_
  obtain ⟨hc, hq⟩ := chk_e hq
  refine m_put B hW 51 (by decide) u_893 mS_51 rfl (ty := .boolean) (tyX12_ok 51 (by decide)) (isB_narrow hc) (isB_fits hc) (Nat.le_of_ble_eq_true rfl) dX12_call_2 (fun H locs M1 eM hW => ?_)
  replace hq := lt9_u eM hq
  clear eM
  refine lv_iload_n hx hb dX12_call_5 rfl (lv_at hl 1 rfl) ?_
  by_cases hc1 : p1 = 1
  · replace hq := if_y hc1 hq
    refine lv_tableIn (off := 62) (tgt := 68) hx hb dX12_call_6 (by rw [hc1]; decide) (by rw [hc1]; decide) (by rw [hc1]; rfl) (by decide) ?_
    refine lv_aload_n hx hb dX12_call_68 rfl (lv_at hl 0 rfl) ?_
    refine lv_iload_n hx hb dX12_call_69 rfl (lv_at hl 2 rfl) ?_
    refine lv_iload_n hx hb dX12_call_70 rfl (lv_at hl 3 rfl) ?_
    obtain ⟨r4, M3, hg, hq⟩ := bnd2_e hq
    refine m_calli (As := [.int p2, .int p3]) (rest := []) B hW hl.1 (c_handle n M1 p2 p3 hg) mC_handle rfl ⟨by decide, by decide⟩ rfl (Nat.le_of_ble_eq_true rfl) dX12_call_71 (fun H locs hW => ?_)
    clear hg
    exact m_iret B hW hq dX12_call_74
  replace hq := if_n hc1 hq
  by_cases hc2 : p1 = 2
  · replace hq := if_y hc2 hq
    refine lv_tableIn (off := 69) (tgt := 75) hx hb dX12_call_6 (by rw [hc2]; decide) (by rw [hc2]; decide) (by rw [hc2]; rfl) (by decide) ?_
    refine lv_aload_n hx hb dX12_call_75 rfl (lv_at hl 0 rfl) ?_
    refine lv_iload_n hx hb dX12_call_76 rfl (lv_at hl 2 rfl) ?_
    refine lv_iload_n hx hb dX12_call_77 rfl (lv_at hl 3 rfl) ?_
    obtain ⟨M5, hg, hq⟩ := bnd_e hq
    refine m_callv (As := [.int p2, .int p3]) (rest := []) B hW hl.1 (c_resolve n M1 p2 p3 hg) mC_resolve rfl ⟨by decide, by decide⟩ rfl (Nat.le_of_ble_eq_true rfl) dX12_call_78 (fun H locs hW => ?_)
    clear hg
    refine lv_iconst (v := (-1)) hx hb dX12_call_81 (by decide) ?_
    exact m_iret B hW hq dX12_call_82
  replace hq := if_n hc2 hq
  by_cases hc3 : p1 = 3
  · replace hq := if_y hc3 hq
    refine lv_tableIn (off := 77) (tgt := 83) hx hb dX12_call_6 (by rw [hc3]; decide) (by rw [hc3]; decide) (by rw [hc3]; rfl) (by decide) ?_
    refine lv_aload_n hx hb dX12_call_83 rfl (lv_at hl 0 rfl) ?_
    refine lv_iload_n hx hb dX12_call_84 rfl (lv_at hl 2 rfl) ?_
    refine lv_iload_n hx hb dX12_call_85 rfl (lv_at hl 3 rfl) ?_
    obtain ⟨M6, hg, hq⟩ := bnd_e hq
    refine m_callv (As := [.int p2, .int p3]) (rest := []) B hW hl.1 (c_reject n M1 p2 p3 hg) mC_reject rfl ⟨by decide, by decide⟩ rfl (Nat.le_of_ble_eq_true rfl) dX12_call_86 (fun H locs hW => ?_)
    clear hg
    refine lv_iconst (v := (-1)) hx hb dX12_call_89 (by decide) ?_
    exact m_iret B hW hq dX12_call_90
  replace hq := if_n hc3 hq
  by_cases hc4 : p1 = 4
  · replace hq := if_y hc4 hq
    refine lv_tableIn (off := 85) (tgt := 91) hx hb dX12_call_6 (by rw [hc4]; decide) (by rw [hc4]; decide) (by rw [hc4]; rfl) (by decide) ?_
    refine lv_aload_n hx hb dX12_call_91 rfl (lv_at hl 0 rfl) ?_
    refine lv_iload_n hx hb dX12_call_92 rfl (lv_at hl 1 rfl) ?_
    refine lv_iload_n hx hb dX12_call_93 rfl (lv_at hl 2 rfl) ?_
    refine lv_iload_n hx hb dX12_call_94 rfl (lv_at hl 3 rfl) ?_
    obtain ⟨M7, hg, hq⟩ := bnd_e hq
    refine m_callv (As := [.int p1, .int p2, .int p3]) (rest := []) B hW hl.1 (c_element n M1 p1 p2 p3 hg) mC_element rfl ⟨by decide, by decide⟩ rfl (Nat.le_of_ble_eq_true rfl) dX12_call_95 (fun H locs hW => ?_)
    clear hg
    refine lv_iconst (v := (-1)) hx hb dX12_call_98 (by decide) ?_
    exact m_iret B hW hq dX12_call_99
  replace hq := if_n hc4 hq
  by_cases hc5 : p1 = 5
  · replace hq := if_y hc5 hq
    refine lv_tableIn (off := 85) (tgt := 91) hx hb dX12_call_6 (by rw [hc5]; decide) (by rw [hc5]; decide) (by rw [hc5]; rfl) (by decide) ?_
    refine lv_aload_n hx hb dX12_call_91 rfl (lv_at hl 0 rfl) ?_
    refine lv_iload_n hx hb dX12_call_92 rfl (lv_at hl 1 rfl) ?_
    refine lv_iload_n hx hb dX12_call_93 rfl (lv_at hl 2 rfl) ?_
    refine lv_iload_n hx hb dX12_call_94 rfl (lv_at hl 3 rfl) ?_
    obtain ⟨M8, hg, hq⟩ := bnd_e hq
    refine m_callv (As := [.int p1, .int p2, .int p3]) (rest := []) B hW hl.1 (c_element n M1 p1 p2 p3 hg) mC_element rfl ⟨by decide, by decide⟩ rfl (Nat.le_of_ble_eq_true rfl) dX12_call_95 (fun H locs hW => ?_)
    clear hg
    refine lv_iconst (v := (-1)) hx hb dX12_call_98 (by decide) ?_
    exact m_iret B hW hq dX12_call_99
  replace hq := if_n hc5 hq
  by_cases hc6 : p1 = 6
  · replace hq := if_y hc6 hq
    refine lv_tableIn (off := 85) (tgt := 91) hx hb dX12_call_6 (by rw [hc6]; decide) (by rw [hc6]; decide) (by rw [hc6]; rfl) (by decide) ?_
    refine lv_aload_n hx hb dX12_call_91 rfl (lv_at hl 0 rfl) ?_
    refine lv_iload_n hx hb dX12_call_92 rfl (lv_at hl 1 rfl) ?_
    refine lv_iload_n hx hb dX12_call_93 rfl (lv_at hl 2 rfl) ?_
    refine lv_iload_n hx hb dX12_call_94 rfl (lv_at hl 3 rfl) ?_
    obtain ⟨M9, hg, hq⟩ := bnd_e hq
    refine m_callv (As := [.int p1, .int p2, .int p3]) (rest := []) B hW hl.1 (c_element n M1 p1 p2 p3 hg) mC_element rfl ⟨by decide, by decide⟩ rfl (Nat.le_of_ble_eq_true rfl) dX12_call_95 (fun H locs hW => ?_)
    clear hg
    refine lv_iconst (v := (-1)) hx hb dX12_call_98 (by decide) ?_
    exact m_iret B hW hq dX12_call_99
  replace hq := if_n hc6 hq
  by_cases hc7 : p1 = 7
  · replace hq := if_y hc7 hq
    refine lv_tableIn (off := 85) (tgt := 91) hx hb dX12_call_6 (by rw [hc7]; decide) (by rw [hc7]; decide) (by rw [hc7]; rfl) (by decide) ?_
    refine lv_aload_n hx hb dX12_call_91 rfl (lv_at hl 0 rfl) ?_
    refine lv_iload_n hx hb dX12_call_92 rfl (lv_at hl 1 rfl) ?_
    refine lv_iload_n hx hb dX12_call_93 rfl (lv_at hl 2 rfl) ?_
    refine lv_iload_n hx hb dX12_call_94 rfl (lv_at hl 3 rfl) ?_
    obtain ⟨M10, hg, hq⟩ := bnd_e hq
    refine m_callv (As := [.int p1, .int p2, .int p3]) (rest := []) B hW hl.1 (c_element n M1 p1 p2 p3 hg) mC_element rfl ⟨by decide, by decide⟩ rfl (Nat.le_of_ble_eq_true rfl) dX12_call_95 (fun H locs hW => ?_)
    clear hg
    refine lv_iconst (v := (-1)) hx hb dX12_call_98 (by decide) ?_
    exact m_iret B hW hq dX12_call_99
  replace hq := if_n hc7 hq
  by_cases hc8 : p1 = 8
  · replace hq := if_y hc8 hq
    refine lv_tableIn (off := 94) (tgt := 100) hx hb dX12_call_6 (by rw [hc8]; decide) (by rw [hc8]; decide) (by rw [hc8]; rfl) (by decide) ?_
    refine lv_aload_n hx hb dX12_call_100 rfl (lv_at hl 0 rfl) ?_
    refine lv_iload_n hx hb dX12_call_101 rfl (lv_at hl 1 rfl) ?_
    refine lv_iload_n hx hb dX12_call_102 rfl (lv_at hl 2 rfl) ?_
    refine lv_iload_n hx hb dX12_call_103 rfl (lv_at hl 3 rfl) ?_
    obtain ⟨r12, M11, hg, hq⟩ := bnd2_e hq
    refine m_calli (As := [.int p1, .int p2, .int p3]) (rest := []) B hW hl.1 (c_last n M1 p1 p2 p3 hg) mC_last rfl ⟨by decide, by decide⟩ rfl (Nat.le_of_ble_eq_true rfl) dX12_call_104 (fun H locs hW => ?_)
    clear hg
    exact m_iret B hW hq dX12_call_107
  replace hq := if_n hc8 hq
  by_cases hc9 : p1 = 9
  · replace hq := if_y hc9 hq
    refine lv_tableIn (off := 94) (tgt := 100) hx hb dX12_call_6 (by rw [hc9]; decide) (by rw [hc9]; decide) (by rw [hc9]; rfl) (by decide) ?_
    refine lv_aload_n hx hb dX12_call_100 rfl (lv_at hl 0 rfl) ?_
    refine lv_iload_n hx hb dX12_call_101 rfl (lv_at hl 1 rfl) ?_
    refine lv_iload_n hx hb dX12_call_102 rfl (lv_at hl 2 rfl) ?_
    refine lv_iload_n hx hb dX12_call_103 rfl (lv_at hl 3 rfl) ?_
    obtain ⟨r14, M13, hg, hq⟩ := bnd2_e hq
    refine m_calli (As := [.int p1, .int p2, .int p3]) (rest := []) B hW hl.1 (c_last n M1 p1 p2 p3 hg) mC_last rfl ⟨by decide, by decide⟩ rfl (Nat.le_of_ble_eq_true rfl) dX12_call_104 (fun H locs hW => ?_)
    clear hg
    exact m_iret B hW hq dX12_call_107
  replace hq := if_n hc9 hq
  by_cases hc10 : p1 = 10
  · replace hq := if_y hc10 hq
    refine lv_tableIn (off := 102) (tgt := 108) hx hb dX12_call_6 (by rw [hc10]; decide) (by rw [hc10]; decide) (by rw [hc10]; rfl) (by decide) ?_
    refine lv_aload_n hx hb dX12_call_108 rfl (lv_at hl 0 rfl) ?_
    refine m_get B hW 39 (by decide) u_881 (v := .ref (G.2.2.2 39)) rfl dX12_call_109 ?_
    refine lv_iload_n hx hb dX12_call_112 rfl (lv_at hl 2 rfl) ?_
    obtain ⟨hc, hq⟩ := chk_e hq
    refine m_iald B hW mA_39 hc dX12_call_113 ?_
    exact m_iret B hW hq dX12_call_114
  replace hq := if_n hc10 hq
  by_cases hc11 : p1 = 11
  · replace hq := if_y hc11 hq
    refine lv_tableIn (off := 109) (tgt := 115) hx hb dX12_call_6 (by rw [hc11]; decide) (by rw [hc11]; decide) (by rw [hc11]; rfl) (by decide) ?_
    refine lv_aload_n hx hb dX12_call_115 rfl (lv_at hl 0 rfl) ?_
    refine lv_iconst (v := 1) hx hb dX12_call_116 (by decide) ?_
    obtain ⟨hc, hq⟩ := chk_e hq
    refine m_put B hW 51 (by decide) u_893 mS_51 rfl (ty := .boolean) (tyX12_ok 51 (by decide)) (isB_narrow hc) (isB_fits hc) (Nat.le_of_ble_eq_true rfl) dX12_call_117 (fun H locs M15 eM hW => ?_)
    replace hq := lt9_u eM hq
    clear eM
    refine lv_aload_n hx hb dX12_call_120 rfl (lv_at hl 0 rfl) ?_
    refine m_get B hW 39 (by decide) u_881 (v := .ref (G.2.2.2 39)) rfl dX12_call_121 ?_
    refine lv_iload_n hx hb dX12_call_124 rfl (lv_at hl 2 rfl) ?_
    obtain ⟨hc, hq⟩ := chk_e hq
    refine m_iald B hW mA_39 hc dX12_call_125 ?_
    exact m_iret B hW hq dX12_call_126
  replace hq := if_n hc11 hq
  by_cases hc12 : p1 = 12
  · replace hq := if_y hc12 hq
    refine lv_tableIn (off := 121) (tgt := 127) hx hb dX12_call_6 (by rw [hc12]; decide) (by rw [hc12]; decide) (by rw [hc12]; rfl) (by decide) ?_
    refine lv_aload_n hx hb dX12_call_127 rfl (lv_at hl 0 rfl) ?_
    refine lv_iload_n hx hb dX12_call_128 rfl (lv_at hl 2 rfl) ?_
    refine lv_iload_n hx hb dX12_call_129 rfl (lv_at hl 3 rfl) ?_
    obtain ⟨M16, hg, hq⟩ := bnd_e hq
    refine m_callv (As := [.int p2, .int p3]) (rest := []) B hW hl.1 (c_resume n M1 p2 p3 hg) mC_resume rfl ⟨by decide, by decide⟩ rfl (Nat.le_of_ble_eq_true rfl) dX12_call_130 (fun H locs hW => ?_)
    clear hg
    refine lv_iconst (v := (-1)) hx hb dX12_call_133 (by decide) ?_
    exact m_iret B hW hq dX12_call_134
  replace hq := if_n hc12 hq
  have hd1 : (p1).toInt ≠ 1 := fun e9 => hc1 (Int32.toInt_inj.mp (e9.trans (by decide)))
  have hd2 : (p1).toInt ≠ 2 := fun e9 => hc2 (Int32.toInt_inj.mp (e9.trans (by decide)))
  have hd3 : (p1).toInt ≠ 3 := fun e9 => hc3 (Int32.toInt_inj.mp (e9.trans (by decide)))
  have hd4 : (p1).toInt ≠ 4 := fun e9 => hc4 (Int32.toInt_inj.mp (e9.trans (by decide)))
  have hd5 : (p1).toInt ≠ 5 := fun e9 => hc5 (Int32.toInt_inj.mp (e9.trans (by decide)))
  have hd6 : (p1).toInt ≠ 6 := fun e9 => hc6 (Int32.toInt_inj.mp (e9.trans (by decide)))
  have hd7 : (p1).toInt ≠ 7 := fun e9 => hc7 (Int32.toInt_inj.mp (e9.trans (by decide)))
  have hd8 : (p1).toInt ≠ 8 := fun e9 => hc8 (Int32.toInt_inj.mp (e9.trans (by decide)))
  have hd9 : (p1).toInt ≠ 9 := fun e9 => hc9 (Int32.toInt_inj.mp (e9.trans (by decide)))
  have hd10 : (p1).toInt ≠ 10 := fun e9 => hc10 (Int32.toInt_inj.mp (e9.trans (by decide)))
  have hd11 : (p1).toInt ≠ 11 := fun e9 => hc11 (Int32.toInt_inj.mp (e9.trans (by decide)))
  have hd12 : (p1).toInt ≠ 12 := fun e9 => hc12 (Int32.toInt_inj.mp (e9.trans (by decide)))
  refine lv_tableOut (tgt := 135) hx hb dX12_call_6 (by omega) (by decide) ?_
  refine lv_aload_n hx hb dX12_call_135 rfl (lv_at hl 0 rfl) ?_
  refine lv_aload_n hx hb dX12_call_136 rfl (lv_at hl 0 rfl) ?_
  refine m_get B hW 46 (by decide) u_888 (v := .ref (G.2.2.2 46)) rfl dX12_call_137 ?_
  refine lv_iload_n hx hb dX12_call_140 rfl (lv_at hl 2 rfl) ?_
  obtain ⟨hc, hq⟩ := chk_e hq
  refine m_iald B hW mA_46 hc dX12_call_141 ?_
  refine lv_iload_n hx hb dX12_call_142 rfl (lv_at hl 3 rfl) ?_
  obtain ⟨M2, hg, hq⟩ := bnd_e hq
  refine m_callv (As := [.int (M1 46 p2.toNatClampNeg), .int p3]) (rest := []) B hW hl.1 (c_reject n M1 (M1 46 p2.toNatClampNeg) p3 hg) mC_reject rfl ⟨by decide, by decide⟩ rfl (Nat.le_of_ble_eq_true rfl) dX12_call_143 (fun H locs hW => ?_)
  clear hg
  refine lv_iconst (v := (-1)) hx hb dX12_call_146 (by decide) ?_
  exact m_iret B hW hq dX12_call_147
theorem mC_call : mC yX12_call prog_14_method_22_code 4 (some .int) 237 3 := ⟨fun _ => g_V u_1159 u_1161 us_64 u_5 u_1162, by decide +kernel⟩
