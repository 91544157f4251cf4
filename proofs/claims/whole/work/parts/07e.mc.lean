set_option maxHeartbeats 4000000 in
set_option maxRecDepth 100000 in
theorem k_does_58 {p : Program} {l : Launch} {e : Env} {s : State} {m : MethodId} {args : Array Value} {below : List Frame} {meth : Method} {c : Code} {D : va_G} {A : Nat → Prop} {G : MG} {r : Int32} {M' : MS} (B : mB p s m args meth c D G prog_14_method_29_code 5 (some .boolean) (Cond.code yX12_does prog_14_method_29_code 5 (some .boolean))) :
    ∀ (n : Nat) (M : MS) (v2 : Int32), q_does_58 n M v2 = some (r, M') → ∀ (H : Heap) (locs : List Loc) (ls : Array Slot), mOK D A G M s.heap H locs → lv_has ls 5 [(0, .ref G.2.2.1), (2, .int v2)] → W p l e (rM 3 71) s m args below meth c H locs 0 0 (MQ below (mQi D A G r M') args s 0 0 A) (F0 m 58 ls []) := by
  have hx := B.1
  have hb := B.2.1
  intro n M v2 hq _ _ ls hW hl
  unfold q_does_58 at hq
  refine lv_iload_n hx hb dX12_does_58 rfl (lv_at hl 1 rfl) ?_
  refine lv_iconst (v := 3) hx hb dX12_does_59 (by decide) ?_
  refine lv_icmp_ne (tgt := 67) hx hb dX12_does_60 (by decide) (fun hc => ?_) (fun hc => ?_)
  · replace hq := if_n hc hq
    refine lv_iconst (v := 0) hx hb dX12_does_67 (by decide) ?_
    obtain ⟨hc, hq⟩ := chk_e hq
    exact m_zret B hW hc hq dX12_does_68
  · replace hq := if_y hc hq
    refine lv_iconst (v := 1) hx hb dX12_does_63 (by decide) ?_
    refine lv_goto (tgt := 68) hx hb dX12_does_64 (by decide) ?_
    obtain ⟨hc, hq⟩ := chk_e hq
    exact m_zret B hW hc hq dX12_does_68
set_option maxHeartbeats 4000000 in
set_option maxRecDepth 100000 in
theorem c_does {l : Launch} {D : va_G} {A : Nat → Prop} {G : MG} (n : Nat) (M : MS) (p1 p2 p3 p4 : Int32) {r : Int32} {M' : MS} (hq : q_does n M p1 p2 p3 p4 = some (r, M')) : Met l yX12_does (wM yX12_does prog_14_method_29_code 5 (some .boolean)) (rM 3 71) (va_Pc [.ref G.2.2.1, .int p1, .int p2, .int p3, .int p4] (mPre D A G M)) (mQi D A G r M') 0 0 A := by
  refine m_head (by decide) rfl (Nat.le_of_ble_eq_true rfl) ?_
  intro p e s m args below meth c ls B hW hl
  have hx := B.1
  have hb := B.2.1
  have hl : lv_has ls 5 [(0, .ref G.2.2.1), (1, .int p1), (2, .int p2), (3, .int p3), (4, .int p4)] := hl
  unfold q_does at hq
  refine lv_iload_n hx hb dX12_does_0 rfl (lv_at hl 2 rfl) ?_
  refine lv_iconst (v := 1) hx hb dX12_does_1 (by decide) ?_
  refine lv_icmp_ne (tgt := 15) hx hb dX12_does_2 (by decide) (fun hc => ?_) (fun hc => ?_)
  · replace hq := if_n hc hq
    refine lv_iload_n hx hb dX12_does_15 rfl (lv_at hl 2 rfl) ?_
    refine lv_iconst (v := 2) hx hb dX12_does_16 (by decide) ?_
    refine lv_icmp_ne (tgt := 30) hx hb dX12_does_17 (by decide) (fun hc => ?_) (fun hc => ?_)
    · replace hq := if_n hc hq
      refine lv_iload_n hx hb dX12_does_30 rfl (lv_at hl 2 rfl) ?_
      refine lv_iconst (v := 3) hx hb dX12_does_31 (by decide) ?_
      refine lv_icmp_ne (tgt := 45) hx hb dX12_does_32 (by decide) (fun hc => ?_) (fun hc => ?_)
      · replace hq := if_n hc hq
        refine lv_iload_n hx hb dX12_does_45 rfl (lv_at hl 2 rfl) ?_
        refine lv_iconst (v := 4) hx hb dX12_does_46 (by decide) ?_
        refine lv_icmp_ne (tgt := 58) hx hb dX12_does_47 (by decide) (fun hc => ?_) (fun hc => ?_)
        · replace hq := if_n hc hq
          exact k_does_58 B n M p2 hq _ _ ls hW (lv_sub hl [0, 2] rfl)
        · replace hq := if_y hc hq
          refine lv_aload_n hx hb dX12_does_50 rfl (lv_at hl 0 rfl) ?_
          refine m_get B hW 6 (by decide) u_848 (v := .ref (G.2.2.2 6)) rfl dX12_does_51 ?_
          refine lv_iload_n hx hb dX12_does_54 rfl (lv_at hl 1 rfl) ?_
          refine lv_iload hx hb dX12_does_55 (lv_at hl 4 rfl) ?_
          obtain ⟨hc, hq⟩ := chk_e hq
          refine m_iast B hW mA_6 hc dX12_does_57 (fun H locs M1 eM hW => ?_)
          replace hq := lt9_u eM hq
          clear eM
          exact k_does_58 B n M1 p2 hq _ _ ls hW (lv_sub hl [0, 2] rfl)
      · replace hq := if_y hc hq
        refine lv_aload_n hx hb dX12_does_35 rfl (lv_at hl 0 rfl) ?_
        refine lv_iload hx hb dX12_does_36 (lv_at hl 4 rfl) ?_
        refine lv_iload_n hx hb dX12_does_38 rfl (lv_at hl 3 rfl) ?_
        obtain ⟨M2, hg, hq⟩ := bnd_e hq
        refine m_callv (As := [.int p4, .int p3]) (rest := []) B hW hl.1 (c_reject n M p4 p3 hg) mC_reject rfl ⟨by decide, by decide⟩ rfl (Nat.le_of_ble_eq_true rfl) dX12_does_39 (fun H locs hW => ?_)
        clear hg
        refine lv_goto (tgt := 58) hx hb dX12_does_42 (by decide) ?_
        exact k_does_58 B n M2 p2 hq _ _ ls hW (lv_sub hl [0, 2] rfl)
    · replace hq := if_y hc hq
      refine lv_aload_n hx hb dX12_does_20 rfl (lv_at hl 0 rfl) ?_
      refine lv_iload hx hb dX12_does_21 (lv_at hl 4 rfl) ?_
      refine lv_iload_n hx hb dX12_does_23 rfl (lv_at hl 3 rfl) ?_
      obtain ⟨M3, hg, hq⟩ := bnd_e hq
      refine m_callv (As := [.int p4, .int p3]) (rest := []) B hW hl.1 (c_reject n M p4 p3 hg) mC_reject rfl ⟨by decide, by decide⟩ rfl (Nat.le_of_ble_eq_true rfl) dX12_does_24 (fun H locs hW => ?_)
      clear hg
      refine lv_goto (tgt := 58) hx hb dX12_does_27 (by decide) ?_
      exact k_does_58 B n M3 p2 hq _ _ ls hW (lv_sub hl [0, 2] rfl)
  · replace hq := if_y hc hq
    refine lv_aload_n hx hb dX12_does_5 rfl (lv_at hl 0 rfl) ?_
    refine lv_iload hx hb dX12_does_6 (lv_at hl 4 rfl) ?_
    refine lv_iload_n hx hb dX12_does_8 rfl (lv_at hl 3 rfl) ?_
    obtain ⟨M4, hg, hq⟩ := bnd_e hq
    refine m_callv (As := [.int p4, .int p3]) (rest := []) B hW hl.1 (c_resolve n M p4 p3 hg) mC_resolve rfl ⟨by decide, by decide⟩ rfl (Nat.le_of_ble_eq_true rfl) dX12_does_9 (fun H locs hW => ?_)
    clear hg
    refine lv_goto (tgt := 58) hx hb dX12_does_12 (by decide) ?_
    exact k_does_58 B n M4 p2 hq _ _ ls hW (lv_sub hl [0, 2] rfl)
theorem mC_does : mC yX12_does prog_14_method_29_code 5 (some .boolean) 240 4 := ⟨fun _ => g_V u_1155 u_1157 us_63 u_5 u_1158, by decide +kernel⟩
set_option maxHeartbeats 4000000 in
set_option maxRecDepth 100000 in
theorem c_thenJob {l : Launch} {D : va_G} {A : Nat → Prop} {G : MG} (n : Nat) (M : MS) (p1 p2 : Int32) {M' : MS} (hq : q_thenJob n M p1 p2 = some M') : Met l yX12_thenJob (wM yX12_thenJob prog_14_method_28_code 4 none) (rM 4 95) (va_Pc [.ref G.2.2.1, .int p1, .int p2] (mPre D A G M)) (mQv D A G M') 0 0 A := by
  refine m_head (by decide) rfl (Nat.le_of_ble_eq_true rfl) ?_
  intro p e s m args below meth c ls B hW hl
  have hx := B.1
  have hb := B.2.1
  have hl : lv_has ls 4 [(0, .ref G.2.2.1), (1, .int p1), (2, .int p2)] := hl
  unfold q_thenJob at hq
  refine lv_aload_n hx hb dX12_thenJob_0 rfl (lv_at hl 0 rfl) ?_
  refine lv_iload_n hx hb dX12_thenJob_1 rfl (lv_at hl 2 rfl) ?_
  obtain ⟨r2, M1, hg, hq⟩ := bnd2_e hq
  refine m_calli (As := [.int p2]) (rest := []) B hW hl.1 (c_record M p2 hg) mC_record rfl ⟨by decide, by decide⟩ rfl (Nat.le_of_ble_eq_true rfl) dX12_thenJob_2 (fun H locs hW => ?_)
  clear hg
  refine lv_istore_n (lv' := [(3, .int r2), (0, .ref G.2.2.1), (1, .int p1), (2, .int p2)]) hx hb dX12_thenJob_5 rfl hl (by decide) rfl (fun ls hl => ?_)
  refine lv_aload_n hx hb dX12_thenJob_6 rfl (lv_at hl 1 rfl) ?_
  refine m_get B hW 2 (by decide) u_844 (v := .ref (G.2.2.2 2)) rfl dX12_thenJob_7 ?_
  refine lv_iload_n hx hb dX12_thenJob_10 rfl (lv_at hl 2 rfl) ?_
  obtain ⟨hc, hq⟩ := chk_e hq
  refine m_iald B hW mA_2 hc dX12_thenJob_11 ?_
  refine lv_if_ne (tgt := 26) hx hb dX12_thenJob_12 (by decide) (fun hc => ?_) (fun hc => ?_)
  · replace hq := if_n hc hq
    refine lv_aload_n hx hb dX12_thenJob_26 rfl (lv_at hl 1 rfl) ?_
    refine lv_iload_n hx hb dX12_thenJob_27 rfl (lv_at hl 2 rfl) ?_
    refine m_valueOf (rest := [.ref G.2.2.1]) B hW hl.1 ⟨by decide, by decide⟩ (Nat.le_of_ble_eq_true rfl) dX12_thenJob_28 (fun H locs hW => ?_)
    refine lv_iconst (v := (-1)) hx hb dX12_thenJob_31 (by decide) ?_
    obtain ⟨M3, hg, hq⟩ := bnd_e hq
    refine m_callv (As := [.int (-2 - p1), .int (-1)]) (rest := []) B hW hl.1 (c_note M1 (-2 - p1) (-1) hg) mC_note rfl ⟨by decide, by decide⟩ rfl (Nat.le_of_ble_eq_true rfl) dX12_thenJob_32 (fun H locs hW => ?_)
    clear hg
    refine lv_aload_n hx hb dX12_thenJob_35 rfl (lv_at hl 1 rfl) ?_
    refine lv_iload_n hx hb dX12_thenJob_36 rfl (lv_at hl 2 rfl) ?_
    refine lv_aload_n hx hb dX12_thenJob_37 rfl (lv_at hl 1 rfl) ?_
    refine m_get B hW 9 (by decide) u_851 (v := .ref (G.2.2.2 9)) rfl dX12_thenJob_38 ?_
    refine lv_iload_n hx hb dX12_thenJob_41 rfl (lv_at hl 2 rfl) ?_
    obtain ⟨hc, hq⟩ := chk_e hq
    refine m_iald B hW mA_9 hc dX12_thenJob_42 ?_
    refine lv_aload_n hx hb dX12_thenJob_43 rfl (lv_at hl 1 rfl) ?_
    refine m_get B hW 10 (by decide) u_852 (v := .ref (G.2.2.2 10)) rfl dX12_thenJob_44 ?_
    refine lv_iload_n hx hb dX12_thenJob_47 rfl (lv_at hl 2 rfl) ?_
    obtain ⟨hc, hq⟩ := chk_e hq
    refine m_iald B hW mA_10 hc dX12_thenJob_48 ?_
    refine lv_iload_n hx hb dX12_thenJob_49 rfl (lv_at hl 0 rfl) ?_
    obtain ⟨r5, M4, hg, hq⟩ := bnd2_e hq
    refine m_calli (As := [.int p1, .int (M3 9 p1.toNatClampNeg), .int (M3 10 p1.toNatClampNeg), .int r2]) (rest := []) B hW hl.1 (c_does n M3 p1 (M3 9 p1.toNatClampNeg) (M3 10 p1.toNatClampNeg) r2 hg) mC_does rfl ⟨by decide, by decide⟩ rfl (Nat.le_of_ble_eq_true rfl) dX12_thenJob_50 (fun H locs hW => ?_)
    clear hg
    refine lv_if_ne (tgt := 75) hx hb dX12_thenJob_53 (by decide) (fun hc => ?_) (fun hc => ?_)
    · replace hq := if_n hc hq
      exact m_vret B hW hq dX12_thenJob_75
    · replace hq := if_y hc hq
      refine lv_aload_n hx hb dX12_thenJob_56 rfl (lv_at hl 1 rfl) ?_
      refine lv_iload_n hx hb dX12_thenJob_57 rfl (lv_at hl 2 rfl) ?_
      refine lv_aload_n hx hb dX12_thenJob_58 rfl (lv_at hl 1 rfl) ?_
      refine m_get B hW 11 (by decide) u_853 (v := .ref (G.2.2.2 11)) rfl dX12_thenJob_59 ?_
      refine lv_iload_n hx hb dX12_thenJob_62 rfl (lv_at hl 2 rfl) ?_
      obtain ⟨hc, hq⟩ := chk_e hq
      refine m_iald B hW mA_11 hc dX12_thenJob_63 ?_
      refine lv_aload_n hx hb dX12_thenJob_64 rfl (lv_at hl 1 rfl) ?_
      refine m_get B hW 12 (by decide) u_854 (v := .ref (G.2.2.2 12)) rfl dX12_thenJob_65 ?_
      refine lv_iload_n hx hb dX12_thenJob_68 rfl (lv_at hl 2 rfl) ?_
      obtain ⟨hc, hq⟩ := chk_e hq
      refine m_iald B hW mA_12 hc dX12_thenJob_69 ?_
      refine lv_iload_n hx hb dX12_thenJob_70 rfl (lv_at hl 0 rfl) ?_
      obtain ⟨r7, M6, hg, hq⟩ := bnd2_e hq
      refine m_calli (As := [.int p1, .int (M4 11 p1.toNatClampNeg), .int (M4 12 p1.toNatClampNeg), .int r2]) (rest := []) B hW hl.1 (c_does n M4 p1 (M4 11 p1.toNatClampNeg) (M4 12 p1.toNatClampNeg) r2 hg) mC_does rfl ⟨by decide, by decide⟩ rfl (Nat.le_of_ble_eq_true rfl) dX12_thenJob_71 (fun H locs hW => ?_)
      clear hg
      refine lv_pop hx hb dX12_thenJob_74 rfl ?_
      exact m_vret B hW hq dX12_thenJob_75
  · replace hq := if_y hc hq
    refine lv_aload_n hx hb dX12_thenJob_15 rfl (lv_at hl 1 rfl) ?_
    refine lv_iload_n hx hb dX12_thenJob_16 rfl (lv_at hl 2 rfl) ?_
    refine lv_iconst (v := 2) hx hb dX12_thenJob_17 (by decide) ?_
    refine lv_iload_n hx hb dX12_thenJob_18 rfl (lv_at hl 0 rfl) ?_
    refine lv_iconst (v := 3) hx hb dX12_thenJob_19 (by decide) ?_
    refine lv_iload_n hx hb dX12_thenJob_20 rfl (lv_at hl 0 rfl) ?_
    obtain ⟨r9, M8, hg, hq⟩ := bnd2_e hq
    refine m_calli (As := [.int p1, .int 2, .int r2, .int 3, .int r2]) (rest := []) B hW hl.1 (c_then n M1 p1 2 r2 3 r2 hg) mC_then rfl ⟨by decide, by decide⟩ rfl (Nat.le_of_ble_eq_true rfl) dX12_thenJob_21 (fun H locs hW => ?_)
    clear hg
    refine lv_pop hx hb dX12_thenJob_24 rfl ?_
    exact m_vret B hW hq dX12_thenJob_25
theorem mC_thenJob : mC yX12_thenJob prog_14_method_28_code 4 none 234 2 := ⟨fun _ => g_V u_1147 u_1149 us_61 u_5 u_1150, by decide +kernel⟩
set_option maxHeartbeats 4000000 in
set_option maxRecDepth 100000 in
theorem k_job_85 {p : Program} {l : Launch} {e : Env} {s : State} {m : MethodId} {args : Array Value} {below : List Frame} {meth : Method} {c : Code} {D : va_G} {A : Nat → Prop} {G : MG} {M' : MS} (B : mB p s m args meth c D G prog_14_method_27_code 3 none (Cond.code yX12_job prog_14_method_27_code 3 none)) :
    ∀ (n : Nat) (M : MS) (v1 v2 : Int32), q_job_85 n M v1 v2 = some M' → ∀ (H : Heap) (locs : List Loc) (ls : Array Slot), mOK D A G M s.heap H locs → lv_has ls 3 [(0, .ref G.2.2.1), (1, .int v1), (2, .int v2)] → W p l e (rM 7 161) s m args below meth c H locs 0 0 (MQ below (mQv D A G M') args s 0 0 A) (F0 m 85 ls []) := by
  have hx := B.1
  have hb := B.2.1
  intro n M v1 v2 hq _ _ ls hW hl
  unfold q_job_85 at hq
  refine lv_aload_n hx hb dX12_job_85 rfl (lv_at hl 0 rfl) ?_
  refine m_get B hW 25 (by decide) u_867 (v := .ref (G.2.2.2 25)) rfl dX12_job_86 ?_
  refine lv_iload_n hx hb dX12_job_89 rfl (lv_at hl 1 rfl) ?_
  obtain ⟨hc, hq⟩ := chk_e hq
  refine m_iald B hW mA_25 hc dX12_job_90 ?_
  refine lv_if_ge (tgt := 95) hx hb dX12_job_91 (by decide) (fun hc => ?_) (fun hc => ?_)
  · replace hq := if_y hc hq
    refine lv_aload_n hx hb dX12_job_95 rfl (lv_at hl 0 rfl) ?_
    refine m_get B hW 51 (by decide) u_893 (v := .int (M 51 0)) rfl dX12_job_96 ?_
    refine lv_if_eq (tgt := 116) hx hb dX12_job_99 (by decide) (fun hc => ?_) (fun hc => ?_)
    · replace hq := if_y hc hq
      refine lv_aload_n hx hb dX12_job_116 rfl (lv_at hl 0 rfl) ?_
      refine lv_aload_n hx hb dX12_job_117 rfl (lv_at hl 0 rfl) ?_
      refine m_get B hW 25 (by decide) u_867 (v := .ref (G.2.2.2 25)) rfl dX12_job_118 ?_
      refine lv_iload_n hx hb dX12_job_121 rfl (lv_at hl 1 rfl) ?_
      obtain ⟨hc, hq⟩ := chk_e hq
      refine m_iald B hW mA_25 hc dX12_job_122 ?_
      refine lv_iload_n hx hb dX12_job_123 rfl (lv_at hl 2 rfl) ?_
      obtain ⟨M3, hg, hq⟩ := bnd_e hq
      refine m_callv (As := [.int (M 25 v1.toNatClampNeg), .int v2]) (rest := []) B hW hl.1 (c_resolve n M (M 25 v1.toNatClampNeg) v2 hg) mC_resolve rfl ⟨by decide, by decide⟩ rfl (Nat.le_of_ble_eq_true rfl) dX12_job_124 (fun H locs hW => ?_)
      clear hg
      exact m_vret B hW hq dX12_job_127
    · replace hq := if_n hc hq
      refine lv_aload_n hx hb dX12_job_102 rfl (lv_at hl 0 rfl) ?_
      refine lv_aload_n hx hb dX12_job_103 rfl (lv_at hl 0 rfl) ?_
      refine m_get B hW 25 (by decide) u_867 (v := .ref (G.2.2.2 25)) rfl dX12_job_104 ?_
      refine lv_iload_n hx hb dX12_job_107 rfl (lv_at hl 1 rfl) ?_
      obtain ⟨hc, hq⟩ := chk_e hq
      refine m_iald B hW mA_25 hc dX12_job_108 ?_
      refine lv_iload_n hx hb dX12_job_109 rfl (lv_at hl 2 rfl) ?_
      obtain ⟨M4, hg, hq⟩ := bnd_e hq
      refine m_callv (As := [.int (M 25 v1.toNatClampNeg), .int v2]) (rest := []) B hW hl.1 (c_reject n M (M 25 v1.toNatClampNeg) v2 hg) mC_reject rfl ⟨by decide, by decide⟩ rfl (Nat.le_of_ble_eq_true rfl) dX12_job_110 (fun H locs hW => ?_)
      clear hg
      refine lv_goto (tgt := 127) hx hb dX12_job_113 (by decide) ?_
      exact m_vret B hW hq dX12_job_127
  · replace hq := if_n hc hq
    exact m_vret B hW hq dX12_job_94
set_option maxHeartbeats 4000000 in
set_option maxRecDepth 100000 in
theorem c_job {l : Launch} {D : va_G} {A : Nat → Prop} {G : MG} (n : Nat) (M : MS) {M' : MS} (hq : q_job n M = some M') : Met l yX12_job (wM yX12_job prog_14_method_27_code 3 none) (rM 7 161) (va_Pc [.ref G.2.2.1] (mPre D A G M)) (mQv D A G M') 0 0 A := by
  refine m_head (by decide) rfl (Nat.le_of_ble_eq_true rfl) ?_
  intro p e s m args below meth c ls B hW hl
  have hx := B.1
  have hb := B.2.1
  have hl : lv_has ls 3 [(0, .ref G.2.2.1)] := hl
  unfold q_job at hq
  refine lv_aload_n hx hb dX12_job_0 rfl (lv_at hl 0 rfl) ?_
  refine m_get B hW 29 (by decide) u_871 (v := .int (M 29 0)) rfl dX12_job_1 ?_
  refine lv_istore_n (lv' := [(1, .int (M 29 0)), (0, .ref G.2.2.1)]) hx hb dX12_job_4 rfl hl (by decide) rfl (fun ls hl => ?_)
  refine lv_aload_n hx hb dX12_job_5 rfl (lv_at hl 1 rfl) ?_
  refine lv_dup hx hb dX12_job_6 rfl ?_
  refine m_get B hW 29 (by decide) u_871 (v := .int (M 29 0)) rfl dX12_job_7 ?_
  refine lv_iconst (v := 1) hx hb dX12_job_10 (by decide) ?_
  refine lv_iadd hx hb dX12_job_11 ?_
  refine m_put B hW 29 (by decide) u_871 mS_29 rfl (ty := .int) (tyX12_ok 29 (by decide)) rfl rfl (Nat.le_of_ble_eq_true rfl) dX12_job_12 (fun H locs M1 eM hW => ?_)
  replace hq := lt9_u eM hq
  clear eM
  refine lv_aload_n hx hb dX12_job_15 rfl (lv_at hl 1 rfl) ?_
  refine m_get B hW 28 (by decide) u_870 (v := .ref (G.2.2.2 28)) rfl dX12_job_16 ?_
  refine lv_iload_n hx hb dX12_job_19 rfl (lv_at hl 0 rfl) ?_
  obtain ⟨hc, hq⟩ := chk_e hq
  refine m_zald B hW mA_28 hc dX12_job_20 ?_
  refine lv_if_eq (tgt := 41) hx hb dX12_job_21 (by decide) (fun hc => ?_) (fun hc => ?_)
  · replace hq := if_y hc hq
    refine lv_aload_n hx hb dX12_job_41 rfl (lv_at hl 1 rfl) ?_
    refine lv_aload_n hx hb dX12_job_42 rfl (lv_at hl 1 rfl) ?_
    refine m_get B hW 27 (by decide) u_869 (v := .ref (G.2.2.2 27)) rfl dX12_job_43 ?_
    refine lv_iload_n hx hb dX12_job_46 rfl (lv_at hl 0 rfl) ?_
    obtain ⟨hc, hq⟩ := chk_e hq
    refine m_zald B hW mA_27 hc dX12_job_47 ?_
    obtain ⟨hc, hq⟩ := chk_e hq
    refine m_put B hW 51 (by decide) u_893 mS_51 rfl (ty := .boolean) (tyX12_ok 51 (by decide)) (isB_narrow hc) (isB_fits hc) (Nat.le_of_ble_eq_true rfl) dX12_job_48 (fun H locs M2 eM hW => ?_)
    replace hq := lt9_u eM hq
    clear eM
    refine lv_aload_n hx hb dX12_job_51 rfl (lv_at hl 1 rfl) ?_
    refine m_get B hW 26 (by decide) u_868 (v := .ref (G.2.2.2 26)) rfl dX12_job_52 ?_
    refine lv_iload_n hx hb dX12_job_55 rfl (lv_at hl 0 rfl) ?_
    obtain ⟨hc, hq⟩ := chk_e hq
    refine m_iald B hW mA_26 hc dX12_job_56 ?_
    refine lv_istore_n (lv' := [(2, .int (M2 26 (M 29 0).toNatClampNeg)), (1, .int (M 29 0)), (0, .ref G.2.2.1)]) hx hb dX12_job_57 rfl hl (by decide) rfl (fun ls hl => ?_)
    refine lv_aload_n hx hb dX12_job_58 rfl (lv_at hl 2 rfl) ?_
    refine m_get B hW 23 (by decide) u_865 (v := .ref (G.2.2.2 23)) rfl dX12_job_59 ?_
    refine lv_iload_n hx hb dX12_job_62 rfl (lv_at hl 1 rfl) ?_
    obtain ⟨hc, hq⟩ := chk_e hq
    refine m_iald B hW mA_23 hc dX12_job_63 ?_
    refine lv_if_eq (tgt := 85) hx hb dX12_job_64 (by decide) (fun hc => ?_) (fun hc => ?_)
    · replace hq := if_y hc hq
      exact k_job_85 B n M2 (M 29 0) (M2 26 (M 29 0).toNatClampNeg) hq _ _ ls hW (lv_sub hl [2, 1, 0] rfl)
    · replace hq := if_n hc hq
      refine lv_aload_n hx hb dX12_job_67 rfl (lv_at hl 2 rfl) ?_
      refine lv_aload_n hx hb dX12_job_68 rfl (lv_at hl 2 rfl) ?_
      refine m_get B hW 23 (by decide) u_865 (v := .ref (G.2.2.2 23)) rfl dX12_job_69 ?_
      refine lv_iload_n hx hb dX12_job_72 rfl (lv_at hl 1 rfl) ?_
      obtain ⟨hc, hq⟩ := chk_e hq
      refine m_iald B hW mA_23 hc dX12_job_73 ?_
      refine lv_aload_n hx hb dX12_job_74 rfl (lv_at hl 2 rfl) ?_
      refine m_get B hW 24 (by decide) u_866 (v := .ref (G.2.2.2 24)) rfl dX12_job_75 ?_
      refine lv_iload_n hx hb dX12_job_78 rfl (lv_at hl 1 rfl) ?_
      obtain ⟨hc, hq⟩ := chk_e hq
      refine m_iald B hW mA_24 hc dX12_job_79 ?_
      refine lv_iload_n hx hb dX12_job_80 rfl (lv_at hl 0 rfl) ?_
      obtain ⟨r6, M5, hg, hq⟩ := bnd2_e hq
      refine m_calli (As := [.int (M2 23 (M 29 0).toNatClampNeg), .int (M2 24 (M 29 0).toNatClampNeg), .int (M2 26 (M 29 0).toNatClampNeg)]) (rest := []) B hW hl.1 (c_call n M2 (M2 23 (M 29 0).toNatClampNeg) (M2 24 (M 29 0).toNatClampNeg) (M2 26 (M 29 0).toNatClampNeg) hg) mC_call rfl ⟨by decide, by decide⟩ rfl (Nat.le_of_ble_eq_true rfl) dX12_job_81 (fun H locs hW => ?_)
      clear hg
      refine lv_istore_n (lv' := [(2, .int r6), (1, .int (M 29 0)), (0, .ref G.2.2.1)]) hx hb dX12_job_84 rfl hl (by decide) rfl (fun ls hl => ?_)
      exact k_job_85 B n M5 (M 29 0) r6 hq _ _ ls hW (lv_sub hl [2, 1, 0] rfl)
  · replace hq := if_n hc hq
    refine lv_aload_n hx hb dX12_job_24 rfl (lv_at hl 1 rfl) ?_
    refine lv_aload_n hx hb dX12_job_25 rfl (lv_at hl 1 rfl) ?_
    refine m_get B hW 24 (by decide) u_866 (v := .ref (G.2.2.2 24)) rfl dX12_job_26 ?_
    refine lv_iload_n hx hb dX12_job_29 rfl (lv_at hl 0 rfl) ?_
    obtain ⟨hc, hq⟩ := chk_e hq
    refine m_iald B hW mA_24 hc dX12_job_30 ?_
    refine lv_aload_n hx hb dX12_job_31 rfl (lv_at hl 1 rfl) ?_
    refine m_get B hW 25 (by decide) u_867 (v := .ref (G.2.2.2 25)) rfl dX12_job_32 ?_
    refine lv_iload_n hx hb dX12_job_35 rfl (lv_at hl 0 rfl) ?_
    obtain ⟨hc, hq⟩ := chk_e hq
    refine m_iald B hW mA_25 hc dX12_job_36 ?_
    obtain ⟨M7, hg, hq⟩ := bnd_e hq
    refine m_callv (As := [.int (M1 24 (M 29 0).toNatClampNeg), .int (M1 25 (M 29 0).toNatClampNeg)]) (rest := []) B hW hl.1 (c_thenJob n M1 (M1 24 (M 29 0).toNatClampNeg) (M1 25 (M 29 0).toNatClampNeg) hg) mC_thenJob rfl ⟨by decide, by decide⟩ rfl (Nat.le_of_ble_eq_true rfl) dX12_job_37 (fun H locs hW => ?_)
    clear hg
    exact m_vret B hW hq dX12_job_40
theorem mC_job : mC yX12_job prog_14_method_27_code 3 none 272 0 := ⟨fun _ => g_V u_1143 u_1145 us_60 u_5 u_1146, by decide +kernel⟩
set_option maxHeartbeats 4000000 in
set_option maxRecDepth 100000 in
theorem k_jobs_7 {p : Program} {l : Launch} {e : Env} {s : State} {m : MethodId} {args : Array Value} {below : List Frame} {meth : Method} {c : Code} {D : va_G} {A : Nat → Prop} {G : MG} {r : Int32} {M' : MS} (B : mB p s m args meth c D G prog_14_method_46_code 3 (some .int) (Cond.code yX12_jobs prog_14_method_46_code 3 (some .int))) :
    ∀ (n : Nat) (M : MS) (v1 v2 : Int32), q_jobs_7 n M v1 v2 = some (r, M') → ∀ (H : Heap) (locs : List Loc) (ls : Array Slot), mOK D A G M s.heap H locs → lv_has ls 3 [(0, .ref G.2.2.1), (1, .int v1), (2, .int v2)] → W p l e (rM 8 183) s m args below meth c H locs 0 0 (MQ below (mQi D A G r M') args s 0 0 A) (F0 m 7 ls []) := by
  have hx := B.1
  have hb := B.2.1
  intro n
  induction n with
  | zero => intro M v1 v2 hq; cases hq
  | succ n ih =>
    intro M v1 v2 hq _ _ ls hW hl
    replace hq : (if v1 ≤ v2 then some (v2, M) else if (M 30 0) ≤ (M 29 0) then some (v2, M) else bnd2 (q_isFull M 8) (fun r3 M2 => if r3 = 0 then if (M2 36 0) < 4000 then bnd (q_job n M2 ) (fun M6 => q_jobs_7 n M6 v1 (v2 + 1)) else bnd2 (q_fails M2 1) (fun r8 M7 => some (r8, M7)) else bnd2 (q_fails M2 1) (fun r5 M4 => some (r5, M4)))) = some (r, M') := hq
    refine lv_iload_n hx hb dX12_jobs_7 rfl (lv_at hl 2 rfl) ?_
    refine lv_iload_n hx hb dX12_jobs_8 rfl (lv_at hl 1 rfl) ?_
    refine lv_icmp_ge (tgt := 58) hx hb dX12_jobs_9 (by decide) (fun hc => ?_) (fun hc => ?_)
    · replace hq := if_y hc hq
      refine lv_iload_n hx hb dX12_jobs_58 rfl (lv_at hl 2 rfl) ?_
      exact m_iret B hW hq dX12_jobs_59
    · replace hq := if_n hc hq
      refine lv_aload_n hx hb dX12_jobs_12 rfl (lv_at hl 0 rfl) ?_
      refine m_get B hW 29 (by decide) u_871 (v := .int (M 29 0)) rfl dX12_jobs_13 ?_
      refine lv_aload_n hx hb dX12_jobs_16 rfl (lv_at hl 0 rfl) ?_
      refine m_get B hW 30 (by decide) u_872 (v := .int (M 30 0)) rfl dX12_jobs_17 ?_
      refine lv_icmp_ge (tgt := 58) hx hb dX12_jobs_20 (by decide) (fun hc => ?_) (fun hc => ?_)
      · replace hq := if_y hc hq
        refine lv_iload_n hx hb dX12_jobs_58 rfl (lv_at hl 2 rfl) ?_
        exact m_iret B hW hq dX12_jobs_59
      · replace hq := if_n hc hq
        refine lv_aload_n hx hb dX12_jobs_23 rfl (lv_at hl 0 rfl) ?_
        refine lv_bipush (v := 8) hx hb dX12_jobs_24 (by decide) ?_
        obtain ⟨r3, M2, hg, hq⟩ := bnd2_e hq
        refine m_calli (As := [.int 8]) (rest := []) B hW hl.1 (c_isFull M 8 hg) mC_isFull rfl ⟨by decide, by decide⟩ rfl (Nat.le_of_ble_eq_true rfl) dX12_jobs_26 (fun H locs hW => ?_)
        clear hg
        refine lv_if_ne (tgt := 42) hx hb dX12_jobs_29 (by decide) (fun hc => ?_) (fun hc => ?_)
        · replace hq := if_n hc hq
          refine lv_aload_n hx hb dX12_jobs_42 rfl (lv_at hl 0 rfl) ?_
          refine lv_iconst (v := 1) hx hb dX12_jobs_43 (by decide) ?_
          obtain ⟨r5, M4, hg, hq⟩ := bnd2_e hq
          refine m_calli (As := [.int 1]) (rest := []) B hW hl.1 (c_fails M2 1 hg) mC_fails rfl ⟨by decide, by decide⟩ rfl (Nat.le_of_ble_eq_true rfl) dX12_jobs_44 (fun H locs hW => ?_)
          clear hg
          exact m_iret B hW hq dX12_jobs_47
        · replace hq := if_y hc hq
          refine lv_aload_n hx hb dX12_jobs_32 rfl (lv_at hl 0 rfl) ?_
          refine m_get B hW 36 (by decide) u_878 (v := .int (M2 36 0)) rfl dX12_jobs_33 ?_
          refine lv_sipush (v := 4000) hx hb dX12_jobs_36 (by decide) ?_
          refine lv_icmp_lt (tgt := 48) hx hb dX12_jobs_39 (by decide) (fun hc => ?_) (fun hc => ?_)
          · replace hq := if_y hc hq
            refine lv_aload_n hx hb dX12_jobs_48 rfl (lv_at hl 0 rfl) ?_
            obtain ⟨M6, hg, hq⟩ := bnd_e hq
            refine m_callv (As := []) (rest := []) B hW hl.1 (c_job n M2 hg) mC_job rfl ⟨by decide, by decide⟩ rfl (Nat.le_of_ble_eq_true rfl) dX12_jobs_49 (fun H locs hW => ?_)
            clear hg
            refine lv_iinc (v := v2 + 1) (lv' := [(2, .int (v2 + 1)), (0, .ref G.2.2.1), (1, .int v1)]) hx hb dX12_jobs_52 hl (k := 2) rfl rfl (by decide) rfl (fun ls hl => ?_)
            refine lv_goto (tgt := 7) hx hb dX12_jobs_55 (by decide) ?_
            exact ih M6 v1 (v2 + 1) hq _ _ ls hW (lv_sub hl [1, 2, 0] rfl)
          · replace hq := if_n hc hq
            refine lv_aload_n hx hb dX12_jobs_42 rfl (lv_at hl 0 rfl) ?_
            refine lv_iconst (v := 1) hx hb dX12_jobs_43 (by decide) ?_
            obtain ⟨r8, M7, hg, hq⟩ := bnd2_e hq
            refine m_calli (As := [.int 1]) (rest := []) B hW hl.1 (c_fails M2 1 hg) mC_fails rfl ⟨by decide, by decide⟩ rfl (Nat.le_of_ble_eq_true rfl) dX12_jobs_44 (fun H locs hW => ?_)
            clear hg
            exact m_iret B hW hq dX12_jobs_47
set_option maxHeartbeats 4000000 in
set_option maxRecDepth 100000 in
theorem c_jobs {l : Launch} {D : va_G} {A : Nat → Prop} {G : MG} (n : Nat) (M : MS) (p1 : Int32) {r : Int32} {M' : MS} (hq : q_jobs n M p1 = some (r, M')) : Met l yX12_jobs (wM yX12_jobs prog_14_method_46_code 3 (some .int)) (rM 8 183) (va_Pc [.ref G.2.2.1, .int p1] (mPre D A G M)) (mQi D A G r M') 0 0 A := by
  refine m_head (by decide) rfl (Nat.le_of_ble_eq_true rfl) ?_
  intro p e s m args below meth c ls B hW hl
  have hx := B.1
  have hb := B.2.1
  have hl : lv_has ls 3 [(0, .ref G.2.2.1), (1, .int p1)] := hl
  unfold q_jobs at hq
  refine lv_aload_n hx hb dX12_jobs_0 rfl (lv_at hl 0 rfl) ?_
  refine lv_iconst (v := 0) hx hb dX12_jobs_1 (by decide) ?_
  refine m_put B hW 0 (by decide) u_842 mS_0 rfl (ty := .int) (tyX12_ok 0 (by decide)) rfl rfl (Nat.le_of_ble_eq_true rfl) dX12_jobs_2 (fun H locs M1 eM hW => ?_)
  replace hq := lt9_u eM hq
  clear eM
  refine lv_iconst (v := 0) hx hb dX12_jobs_5 (by decide) ?_
  refine lv_istore_n (lv' := [(2, .int 0), (0, .ref G.2.2.1), (1, .int p1)]) hx hb dX12_jobs_6 rfl hl (by decide) rfl (fun ls hl => ?_)
  exact k_jobs_7 B n M1 p1 0 hq _ _ ls hW (lv_sub hl [1, 2, 0] rfl)
set_option maxHeartbeats 4000000 in
set_option maxRecDepth 100000 in
theorem c_state {l : Launch} {D : va_G} {A : Nat → Prop} {G : MG} (M : MS) (p1 : Int32) {r : Int32} {M' : MS} (hq : q_state M p1 = some (r, M')) : Met l yX12_state (wM yX12_state prog_14_method_47_code 2 (some .int)) (rM 2 43) (va_Pc [.ref G.2.2.1, .int p1] (mPre D A G M)) (mQi D A G r M') 0 0 A := by
  refine m_head (by decide) rfl (Nat.le_of_ble_eq_true rfl) ?_
  intro p e s m args below meth c ls B hW hl
  have hx := B.1
  have hb := B.2.1
  have hl : lv_has ls 2 [(0, .ref G.2.2.1), (1, .int p1)] := hl
  unfold q_state at hq
  refine lv_aload_n hx hb dX12_state_0 rfl (lv_at hl 0 rfl) ?_
  refine lv_iconst (v := 0) hx hb dX12_state_1 (by decide) ?_
  refine m_put B hW 0 (by decide) u_842 mS_0 rfl (ty := .int) (tyX12_ok 0 (by decide)) rfl rfl (Nat.le_of_ble_eq_true rfl) dX12_state_2 (fun H locs M1 eM hW => ?_)
  replace hq := lt9_u eM hq
  clear eM
  refine lv_aload_n hx hb dX12_state_5 rfl (lv_at hl 0 rfl) ?_
  refine lv_iload_n hx hb dX12_state_6 rfl (lv_at hl 1 rfl) ?_
  refine lv_iconst (v := 0) hx hb dX12_state_7 (by decide) ?_
  obtain ⟨r3, M2, hg, hq⟩ := bnd2_e hq
  refine m_calli (As := [.int p1, .int 0]) (rest := []) B hW hl.1 (c_isKind M1 p1 0 hg) mC_isKind rfl ⟨by decide, by decide⟩ rfl (Nat.le_of_ble_eq_true rfl) dX12_state_8 (fun H locs hW => ?_)
  clear hg
  refine lv_if_ne (tgt := 20) hx hb dX12_state_11 (by decide) (fun hc => ?_) (fun hc => ?_)
  · replace hq := if_n hc hq
    refine lv_aload_n hx hb dX12_state_20 rfl (lv_at hl 0 rfl) ?_
    refine m_get B hW 3 (by decide) u_845 (v := .ref (G.2.2.2 3)) rfl dX12_state_21 ?_
    refine lv_bipush (v := (-2)) hx hb dX12_state_24 (by decide) ?_
    refine lv_iload_n hx hb dX12_state_26 rfl (lv_at hl 1 rfl) ?_
    refine lv_isub hx hb dX12_state_27 ?_
    obtain ⟨hc, hq⟩ := chk_e hq
    refine m_iald B hW mA_3 hc dX12_state_28 ?_
    refine lv_aload_n hx hb dX12_state_29 rfl (lv_at hl 0 rfl) ?_
    refine m_get B hW 7 (by decide) u_849 (v := .ref (G.2.2.2 7)) rfl dX12_state_30 ?_
    refine lv_bipush (v := (-2)) hx hb dX12_state_33 (by decide) ?_
    refine lv_iload_n hx hb dX12_state_35 rfl (lv_at hl 1 rfl) ?_
    refine lv_isub hx hb dX12_state_36 ?_
    obtain ⟨hc, hq⟩ := chk_e hq
    refine m_zald B hW mA_7 hc dX12_state_37 ?_
    refine lv_if_eq (tgt := 45) hx hb dX12_state_38 (by decide) (fun hc => ?_) (fun hc => ?_)
    · replace hq := if_y hc hq
      refine lv_iconst (v := 0) hx hb dX12_state_45 (by decide) ?_
      refine lv_iadd hx hb dX12_state_46 ?_
      exact m_iret B hW hq dX12_state_47
    · replace hq := if_n hc hq
      refine lv_iconst (v := 4) hx hb dX12_state_41 (by decide) ?_
      refine lv_goto (tgt := 46) hx hb dX12_state_42 (by decide) ?_
      refine lv_iadd hx hb dX12_state_46 ?_
      exact m_iret B hW hq dX12_state_47
  · replace hq := if_y hc hq
    refine lv_aload_n hx hb dX12_state_14 rfl (lv_at hl 0 rfl) ?_
    refine lv_iconst (v := 1) hx hb dX12_state_15 (by decide) ?_
    obtain ⟨r5, M4, hg, hq⟩ := bnd2_e hq
    refine m_calli (As := [.int 1]) (rest := []) B hW hl.1 (c_fails M2 1 hg) mC_fails rfl ⟨by decide, by decide⟩ rfl (Nat.le_of_ble_eq_true rfl) dX12_state_16 (fun H locs hW => ?_)
    clear hg
    exact m_iret B hW hq dX12_state_19
set_option maxHeartbeats 4000000 in
set_option maxRecDepth 100000 in
theorem c_result {l : Launch} {D : va_G} {A : Nat → Prop} {G : MG} (M : MS) (p1 : Int32) {r : Int32} {M' : MS} (hq : q_result M p1 = some (r, M')) : Met l yX12_result (wM yX12_result prog_14_method_48_code 2 (some .int)) (rM 2 43) (va_Pc [.ref G.2.2.1, .int p1] (mPre D A G M)) (mQi D A G r M') 0 0 A := by
  refine m_head (by decide) rfl (Nat.le_of_ble_eq_true rfl) ?_
  intro p e s m args below meth c ls B hW hl
  have hx := B.1
  have hb := B.2.1
  have hl : lv_has ls 2 [(0, .ref G.2.2.1), (1, .int p1)] := hl
  unfold q_result at hq
  refine lv_aload_n hx hb dX12_result_0 rfl (lv_at hl 0 rfl) ?_
  refine lv_iconst (v := 0) hx hb dX12_result_1 (by decide) ?_
  refine m_put B hW 0 (by decide) u_842 mS_0 rfl (ty := .int) (tyX12_ok 0 (by decide)) rfl rfl (Nat.le_of_ble_eq_true rfl) dX12_result_2 (fun H locs M1 eM hW => ?_)
  replace hq := lt9_u eM hq
  clear eM
  refine lv_aload_n hx hb dX12_result_5 rfl (lv_at hl 0 rfl) ?_
  refine lv_iload_n hx hb dX12_result_6 rfl (lv_at hl 1 rfl) ?_
  refine lv_iconst (v := 0) hx hb dX12_result_7 (by decide) ?_
  obtain ⟨r3, M2, hg, hq⟩ := bnd2_e hq
  refine m_calli (As := [.int p1, .int 0]) (rest := []) B hW hl.1 (c_isKind M1 p1 0 hg) mC_isKind rfl ⟨by decide, by decide⟩ rfl (Nat.le_of_ble_eq_true rfl) dX12_result_8 (fun H locs hW => ?_)
  clear hg
  refine lv_if_eq (tgt := 26) hx hb dX12_result_11 (by decide) (fun hc => ?_) (fun hc => ?_)
  · replace hq := if_y hc hq
    refine lv_aload_n hx hb dX12_result_26 rfl (lv_at hl 0 rfl) ?_
    refine lv_iconst (v := 1) hx hb dX12_result_27 (by decide) ?_
    obtain ⟨r5, M4, hg, hq⟩ := bnd2_e hq
    refine m_calli (As := [.int 1]) (rest := []) B hW hl.1 (c_fails M2 1 hg) mC_fails rfl ⟨by decide, by decide⟩ rfl (Nat.le_of_ble_eq_true rfl) dX12_result_28 (fun H locs hW => ?_)
    clear hg
    exact m_iret B hW hq dX12_result_31
  · replace hq := if_n hc hq
    refine lv_aload_n hx hb dX12_result_14 rfl (lv_at hl 0 rfl) ?_
    refine m_get B hW 4 (by decide) u_846 (v := .ref (G.2.2.2 4)) rfl dX12_result_15 ?_
    refine lv_bipush (v := (-2)) hx hb dX12_result_18 (by decide) ?_
    refine lv_iload_n hx hb dX12_result_20 rfl (lv_at hl 1 rfl) ?_
    refine lv_isub hx hb dX12_result_21 ?_
    obtain ⟨hc, hq⟩ := chk_e hq
    refine m_iald B hW mA_4 hc dX12_result_22 ?_
    refine lv_goto (tgt := 31) hx hb dX12_result_23 (by decide) ?_
    exact m_iret B hW hq dX12_result_31
set_option maxHeartbeats 4000000 in
set_option maxRecDepth 100000 in
theorem c_kind {l : Launch} {D : va_G} {A : Nat → Prop} {G : MG} (M : MS) (p1 : Int32) {r : Int32} {M' : MS} (hq : q_kind M p1 = some (r, M')) : Met l yX12_kind (wM yX12_kind prog_14_method_49_code 2 (some .int)) (rM 1 21) (va_Pc [.ref G.2.2.1, .int p1] (mPre D A G M)) (mQi D A G r M') 0 0 A := by
  refine m_head (by decide) rfl (Nat.le_of_ble_eq_true rfl) ?_
  intro p e s m args below meth c ls B hW hl
  have hx := B.1
  have hb := B.2.1
  have hl : lv_has ls 2 [(0, .ref G.2.2.1), (1, .int p1)] := hl
  unfold q_kind at hq
  refine lv_aload_n hx hb dX12_kind_0 rfl (lv_at hl 0 rfl) ?_
  refine lv_iconst (v := 0) hx hb dX12_kind_1 (by decide) ?_
  refine m_put B hW 0 (by decide) u_842 mS_0 rfl (ty := .int) (tyX12_ok 0 (by decide)) rfl rfl (Nat.le_of_ble_eq_true rfl) dX12_kind_2 (fun H locs M1 eM hW => ?_)
  replace hq := lt9_u eM hq
  clear eM
  refine lv_aload_n hx hb dX12_kind_5 rfl (lv_at hl 0 rfl) ?_
  refine lv_iload_n hx hb dX12_kind_6 rfl (lv_at hl 1 rfl) ?_
  obtain ⟨r3, M2, hg, hq⟩ := bnd2_e hq
  refine m_calli (As := [.int p1]) (rest := []) B hW hl.1 (c_isObject M1 p1 hg) mC_isObject rfl ⟨by decide, by decide⟩ rfl (Nat.le_of_ble_eq_true rfl) dX12_kind_7 (fun H locs hW => ?_)
  clear hg
  refine lv_if_eq (tgt := 25) hx hb dX12_kind_10 (by decide) (fun hc => ?_) (fun hc => ?_)
  · replace hq := if_y hc hq
    refine lv_aload_n hx hb dX12_kind_25 rfl (lv_at hl 0 rfl) ?_
    refine lv_iconst (v := 1) hx hb dX12_kind_26 (by decide) ?_
    obtain ⟨r5, M4, hg, hq⟩ := bnd2_e hq
    refine m_calli (As := [.int 1]) (rest := []) B hW hl.1 (c_fails M2 1 hg) mC_fails rfl ⟨by decide, by decide⟩ rfl (Nat.le_of_ble_eq_true rfl) dX12_kind_27 (fun H locs hW => ?_)
    clear hg
    exact m_iret B hW hq dX12_kind_30
  · replace hq := if_n hc hq
    refine lv_aload_n hx hb dX12_kind_13 rfl (lv_at hl 0 rfl) ?_
    refine m_get B hW 2 (by decide) u_844 (v := .ref (G.2.2.2 2)) rfl dX12_kind_14 ?_
    refine lv_bipush (v := (-2)) hx hb dX12_kind_17 (by decide) ?_
    refine lv_iload_n hx hb dX12_kind_19 rfl (lv_at hl 1 rfl) ?_
    refine lv_isub hx hb dX12_kind_20 ?_
    obtain ⟨hc, hq⟩ := chk_e hq
    refine m_iald B hW mA_2 hc dX12_kind_21 ?_
    refine lv_goto (tgt := 30) hx hb dX12_kind_22 (by decide) ?_
    exact m_iret B hW hq dX12_kind_30
set_option maxHeartbeats 4000000 in
set_option maxRecDepth 100000 in
theorem k_part_96 {p : Program} {l : Launch} {e : Env} {s : State} {m : MethodId} {args : Array Value} {below : List Frame} {meth : Method} {c : Code} {D : va_G} {A : Nat → Prop} {G : MG} {r : Int32} {M' : MS} (B : mB p s m args meth c D G prog_14_method_50_code 4 (some .int) (Cond.code yX12_part prog_14_method_50_code 4 (some .int))) :
    ∀ (M : MS) (v2 v3 : Int32), q_part_96 M v2 v3 = some (r, M') → ∀ (H : Heap) (locs : List Loc) (ls : Array Slot), mOK D A G M s.heap H locs → lv_has ls 4 [(0, .ref G.2.2.1), (2, .int v2), (3, .int v3)] → W p l e (rM 1 21) s m args below meth c H locs 0 0 (MQ below (mQi D A G r M') args s 0 0 A) (F0 m 96 ls []) := by
  have hx := B.1
  have hb := B.2.1
  intro M v2 v3 hq _ _ ls hW hl
  unfold q_part_96 at hq
  refine lv_iload_n hx hb dX12_part_96 rfl (lv_at hl 1 rfl) ?_
  refine lv_iconst (v := (-1)) hx hb dX12_part_97 (by decide) ?_
  refine lv_icmp_lt (tgt := 111) hx hb dX12_part_98 (by decide) (fun hc => ?_) (fun hc => ?_)
  · replace hq := if_y hc hq
    refine lv_aload_n hx hb dX12_part_111 rfl (lv_at hl 0 rfl) ?_
    refine lv_iconst (v := 1) hx hb dX12_part_112 (by decide) ?_
    obtain ⟨r5, M4, hg, hq⟩ := bnd2_e hq
    refine m_calli (As := [.int 1]) (rest := []) B hW hl.1 (c_fails M 1 hg) mC_fails rfl ⟨by decide, by decide⟩ rfl (Nat.le_of_ble_eq_true rfl) dX12_part_113 (fun H locs hW => ?_)
    clear hg
    exact m_iret B hW hq dX12_part_116
  · replace hq := if_n hc hq
    refine lv_iload_n hx hb dX12_part_101 rfl (lv_at hl 1 rfl) ?_
    refine lv_aload_n hx hb dX12_part_102 rfl (lv_at hl 0 rfl) ?_
    refine m_get B hW 9 (by decide) u_851 (v := .ref (G.2.2.2 9)) rfl dX12_part_103 ?_
    refine lv_iload_n hx hb dX12_part_106 rfl (lv_at hl 2 rfl) ?_
    obtain ⟨hc, hq⟩ := chk_e hq
    refine m_iald B hW mA_9 hc dX12_part_107 ?_
    refine lv_icmp_lt (tgt := 117) hx hb dX12_part_108 (by decide) (fun hc => ?_) (fun hc => ?_)
    · replace hq := if_y hc hq
      refine lv_iload_n hx hb dX12_part_117 rfl (lv_at hl 1 rfl) ?_
      refine lv_iconst (v := (-1)) hx hb dX12_part_118 (by decide) ?_
      refine lv_icmp_ne (tgt := 131) hx hb dX12_part_119 (by decide) (fun hc => ?_) (fun hc => ?_)
      · replace hq := if_n hc hq
        refine lv_aload_n hx hb dX12_part_131 rfl (lv_at hl 0 rfl) ?_
        refine m_get B hW 39 (by decide) u_881 (v := .ref (G.2.2.2 39)) rfl dX12_part_132 ?_
        refine lv_aload_n hx hb dX12_part_135 rfl (lv_at hl 0 rfl) ?_
        refine m_get B hW 8 (by decide) u_850 (v := .ref (G.2.2.2 8)) rfl dX12_part_136 ?_
        refine lv_iload_n hx hb dX12_part_139 rfl (lv_at hl 2 rfl) ?_
        obtain ⟨hc, hq⟩ := chk_e hq
        refine m_iald B hW mA_8 hc dX12_part_140 ?_
        refine lv_iload_n hx hb dX12_part_141 rfl (lv_at hl 1 rfl) ?_
        refine lv_iadd hx hb dX12_part_142 ?_
        obtain ⟨hc, hq⟩ := chk_e hq
        refine m_iald B hW mA_39 hc dX12_part_143 ?_
        exact m_iret B hW hq dX12_part_144
      · replace hq := if_y hc hq
        refine lv_aload_n hx hb dX12_part_122 rfl (lv_at hl 0 rfl) ?_
        refine m_get B hW 9 (by decide) u_851 (v := .ref (G.2.2.2 9)) rfl dX12_part_123 ?_
        refine lv_iload_n hx hb dX12_part_126 rfl (lv_at hl 2 rfl) ?_
        obtain ⟨hc, hq⟩ := chk_e hq
        refine m_iald B hW mA_9 hc dX12_part_127 ?_
        refine lv_goto (tgt := 144) hx hb dX12_part_128 (by decide) ?_
        exact m_iret B hW hq dX12_part_144
    · replace hq := if_n hc hq
      refine lv_aload_n hx hb dX12_part_111 rfl (lv_at hl 0 rfl) ?_
      refine lv_iconst (v := 1) hx hb dX12_part_112 (by decide) ?_
      obtain ⟨r7, M6, hg, hq⟩ := bnd2_e hq
      refine m_calli (As := [.int 1]) (rest := []) B hW hl.1 (c_fails M 1 hg) mC_fails rfl ⟨by decide, by decide⟩ rfl (Nat.le_of_ble_eq_true rfl) dX12_part_113 (fun H locs hW => ?_)
      clear hg
      exact m_iret B hW hq dX12_part_116
set_option maxHeartbeats 4000000 in
set_option maxRecDepth 100000 in
theorem c_part {l : Launch} {D : va_G} {A : Nat → Prop} {G : MG} (M : MS) (p1 p2 : Int32) {r : Int32} {M' : MS} (hq : q_part M p1 p2 = some (r, M')) : Met l yX12_part (wM yX12_part prog_14_method_50_code 4 (some .int)) (rM 1 21) (va_Pc [.ref G.2.2.1, .int p1, .int p2] (mPre D A G M)) (mQi D A G r M') 0 0 A := by
  refine m_head (by decide) rfl (Nat.le_of_ble_eq_true rfl) ?_
  intro p e s m args below meth c ls B hW hl
  have hx := B.1
  have hb := B.2.1
  have hl : lv_has ls 4 [(0, .ref G.2.2.1), (1, .int p1), (2, .int p2)] := hl
  unfold q_part at hq
  refine lv_aload_n hx hb dX12_part_0 rfl (lv_at hl 0 rfl) ?_
  refine lv_iconst (v := 0) hx hb dX12_part_1 (by decide) ?_
  refine m_put B hW 0 (by decide) u_842 mS_0 rfl (ty := .int) (tyX12_ok 0 (by decide)) rfl rfl (Nat.le_of_ble_eq_true rfl) dX12_part_2 (fun H locs M1 eM hW => ?_)
  replace hq := lt9_u eM hq
  clear eM
  refine lv_aload_n hx hb dX12_part_5 rfl (lv_at hl 0 rfl) ?_
  refine lv_iload_n hx hb dX12_part_6 rfl (lv_at hl 1 rfl) ?_
  obtain ⟨r3, M2, hg, hq⟩ := bnd2_e hq
  refine m_calli (As := [.int p1]) (rest := []) B hW hl.1 (c_isObject M1 p1 hg) mC_isObject rfl ⟨by decide, by decide⟩ rfl (Nat.le_of_ble_eq_true rfl) dX12_part_7 (fun H locs hW => ?_)
  clear hg
  refine lv_if_ne (tgt := 19) hx hb dX12_part_10 (by decide) (fun hc => ?_) (fun hc => ?_)
  · replace hq := if_n hc hq
    refine lv_bipush (v := (-2)) hx hb dX12_part_19 (by decide) ?_
    refine lv_iload_n hx hb dX12_part_21 rfl (lv_at hl 1 rfl) ?_
    refine lv_isub hx hb dX12_part_22 ?_
    refine lv_istore_n (lv' := [(3, .int ((-2) - p1)), (0, .ref G.2.2.1), (1, .int p1), (2, .int p2)]) hx hb dX12_part_23 rfl hl (by decide) rfl (fun ls hl => ?_)
    refine lv_aload_n hx hb dX12_part_24 rfl (lv_at hl 1 rfl) ?_
    refine m_get B hW 2 (by decide) u_844 (v := .ref (G.2.2.2 2)) rfl dX12_part_25 ?_
    refine lv_iload_n hx hb dX12_part_28 rfl (lv_at hl 0 rfl) ?_
    obtain ⟨hc, hq⟩ := chk_e hq
    refine m_iald B hW mA_2 hc dX12_part_29 ?_
    refine lv_iconst (v := 5) hx hb dX12_part_30 (by decide) ?_
    refine lv_icmp_ne (tgt := 76) hx hb dX12_part_31 (by decide) (fun hc => ?_) (fun hc => ?_)
    · replace hq := if_n hc hq
      refine lv_aload_n hx hb dX12_part_76 rfl (lv_at hl 1 rfl) ?_
      refine m_get B hW 2 (by decide) u_844 (v := .ref (G.2.2.2 2)) rfl dX12_part_77 ?_
      refine lv_iload_n hx hb dX12_part_80 rfl (lv_at hl 0 rfl) ?_
      obtain ⟨hc, hq⟩ := chk_e hq
      refine m_iald B hW mA_2 hc dX12_part_81 ?_
      refine lv_iconst (v := 4) hx hb dX12_part_82 (by decide) ?_
      refine lv_icmp_eq (tgt := 96) hx hb dX12_part_83 (by decide) (fun hc => ?_) (fun hc => ?_)
      · replace hq := if_y hc hq
        exact k_part_96 B M2 p2 ((-2) - p1) hq _ _ ls hW (lv_sub hl [1, 3, 0] rfl)
      · replace hq := if_n hc hq
        refine lv_aload_n hx hb dX12_part_86 rfl (lv_at hl 1 rfl) ?_
        refine m_get B hW 2 (by decide) u_844 (v := .ref (G.2.2.2 2)) rfl dX12_part_87 ?_
        refine lv_iload_n hx hb dX12_part_90 rfl (lv_at hl 0 rfl) ?_
        obtain ⟨hc, hq⟩ := chk_e hq
        refine m_iald B hW mA_2 hc dX12_part_91 ?_
        refine lv_iconst (v := 3) hx hb dX12_part_92 (by decide) ?_
        refine lv_icmp_ne (tgt := 111) hx hb dX12_part_93 (by decide) (fun hc => ?_) (fun hc => ?_)
        · replace hq := if_n hc hq
          refine lv_aload_n hx hb dX12_part_111 rfl (lv_at hl 1 rfl) ?_
          refine lv_iconst (v := 1) hx hb dX12_part_112 (by decide) ?_
          obtain ⟨r9, M8, hg, hq⟩ := bnd2_e hq
          refine m_calli (As := [.int 1]) (rest := []) B hW hl.1 (c_fails M2 1 hg) mC_fails rfl ⟨by decide, by decide⟩ rfl (Nat.le_of_ble_eq_true rfl) dX12_part_113 (fun H locs hW => ?_)
          clear hg
          exact m_iret B hW hq dX12_part_116
        · replace hq := if_y hc hq
          exact k_part_96 B M2 p2 ((-2) - p1) hq _ _ ls hW (lv_sub hl [1, 3, 0] rfl)
    · replace hq := if_y hc hq
      refine lv_iload_n hx hb dX12_part_34 rfl (lv_at hl 3 rfl) ?_
      refine lv_iconst (v := (-1)) hx hb dX12_part_35 (by decide) ?_
      refine lv_icmp_ne (tgt := 43) hx hb dX12_part_36 (by decide) (fun hc => ?_) (fun hc => ?_)
      · replace hq := if_n hc hq
        refine lv_iload_n hx hb dX12_part_43 rfl (lv_at hl 3 rfl) ?_
        refine lv_if_ne (tgt := 56) hx hb dX12_part_44 (by decide) (fun hc => ?_) (fun hc => ?_)
        · replace hq := if_n hc hq
          refine lv_iload_n hx hb dX12_part_56 rfl (lv_at hl 3 rfl) ?_
          refine lv_iconst (v := 1) hx hb dX12_part_57 (by decide) ?_
          refine lv_icmp_ne (tgt := 70) hx hb dX12_part_58 (by decide) (fun hc => ?_) (fun hc => ?_)
          · replace hq := if_n hc hq
            refine lv_aload_n hx hb dX12_part_70 rfl (lv_at hl 1 rfl) ?_
            refine lv_iconst (v := 1) hx hb dX12_part_71 (by decide) ?_
            obtain ⟨r11, M10, hg, hq⟩ := bnd2_e hq
            refine m_calli (As := [.int 1]) (rest := []) B hW hl.1 (c_fails M2 1 hg) mC_fails rfl ⟨by decide, by decide⟩ rfl (Nat.le_of_ble_eq_true rfl) dX12_part_72 (fun H locs hW => ?_)
            clear hg
            exact m_iret B hW hq dX12_part_75
          · replace hq := if_y hc hq
            refine lv_aload_n hx hb dX12_part_61 rfl (lv_at hl 1 rfl) ?_
            refine m_get B hW 9 (by decide) u_851 (v := .ref (G.2.2.2 9)) rfl dX12_part_62 ?_
            refine lv_iload_n hx hb dX12_part_65 rfl (lv_at hl 0 rfl) ?_
            obtain ⟨hc, hq⟩ := chk_e hq
            refine m_iald B hW mA_9 hc dX12_part_66 ?_
            refine lv_goto (tgt := 75) hx hb dX12_part_67 (by decide) ?_
            exact m_iret B hW hq dX12_part_75
        · replace hq := if_y hc hq
          refine lv_aload_n hx hb dX12_part_47 rfl (lv_at hl 1 rfl) ?_
          refine m_get B hW 8 (by decide) u_850 (v := .ref (G.2.2.2 8)) rfl dX12_part_48 ?_
          refine lv_iload_n hx hb dX12_part_51 rfl (lv_at hl 0 rfl) ?_
          obtain ⟨hc, hq⟩ := chk_e hq
          refine m_iald B hW mA_8 hc dX12_part_52 ?_
          refine lv_goto (tgt := 75) hx hb dX12_part_53 (by decide) ?_
          exact m_iret B hW hq dX12_part_75
      · replace hq := if_y hc hq
        refine lv_iconst (v := 2) hx hb dX12_part_39 (by decide) ?_
        refine lv_goto (tgt := 75) hx hb dX12_part_40 (by decide) ?_
        exact m_iret B hW hq dX12_part_75
  · replace hq := if_y hc hq
    refine lv_aload_n hx hb dX12_part_13 rfl (lv_at hl 0 rfl) ?_
    refine lv_iconst (v := 1) hx hb dX12_part_14 (by decide) ?_
    obtain ⟨r13, M12, hg, hq⟩ := bnd2_e hq
    refine m_calli (As := [.int 1]) (rest := []) B hW hl.1 (c_fails M2 1 hg) mC_fails rfl ⟨by decide, by decide⟩ rfl (Nat.le_of_ble_eq_true rfl) dX12_part_15 (fun H locs hW => ?_)
    clear hg
    exact m_iret B hW hq dX12_part_18
set_option maxHeartbeats 4000000 in
set_option maxRecDepth 100000 in
theorem c_log {l : Launch} {D : va_G} {A : Nat → Prop} {G : MG} (M : MS) (p1 p2 : Int32) {r : Int32} {M' : MS} (hq : q_log M p1 p2 = some (r, M')) : Met l yX12_log (wM yX12_log prog_14_method_51_code 3 (some .int)) (rM 0 0) (va_Pc [.ref G.2.2.1, .int p1, .int p2] (mPre D A G M)) (mQi D A G r M') 0 0 A := by
  refine m_head (by decide) rfl (Nat.le_of_ble_eq_true rfl) ?_
  intro p e s m args below meth c ls B hW hl
  have hx := B.1
  have hb := B.2.1
  have hl : lv_has ls 3 [(0, .ref G.2.2.1), (1, .int p1), (2, .int p2)] := hl
  unfold q_log at hq
  refine lv_aload_n hx hb dX12_log_0 rfl (lv_at hl 0 rfl) ?_
  refine lv_iconst (v := 0) hx hb dX12_log_1 (by decide) ?_
  refine m_put B hW 0 (by decide) u_842 mS_0 rfl (ty := .int) (tyX12_ok 0 (by decide)) rfl rfl (Nat.le_of_ble_eq_true rfl) dX12_log_2 (fun H locs M1 eM hW => ?_)
  replace hq := lt9_u eM hq
  clear eM
  refine lv_iload_n hx hb dX12_log_5 rfl (lv_at hl 1 rfl) ?_
  refine lv_if_lt (tgt := 17) hx hb dX12_log_6 (by decide) (fun hc => ?_) (fun hc => ?_)
  · replace hq := if_y hc hq
    refine lv_ldcw (v := (-1000000)) hx hb B.2.2.2.2.1 (B.2.2.2.2.2.1 _ (List.mem_cons_of_mem _ u_1199)) dX12_log_17 ?_
    exact m_iret B hW hq dX12_log_20
  · replace hq := if_n hc hq
    refine lv_iload_n hx hb dX12_log_9 rfl (lv_at hl 1 rfl) ?_
    refine lv_aload_n hx hb dX12_log_10 rfl (lv_at hl 0 rfl) ?_
    refine m_get B hW 36 (by decide) u_878 (v := .int (M1 36 0)) rfl dX12_log_11 ?_
    refine lv_icmp_lt (tgt := 21) hx hb dX12_log_14 (by decide) (fun hc => ?_) (fun hc => ?_)
    · replace hq := if_y hc hq
      refine lv_iload_n hx hb dX12_log_21 rfl (lv_at hl 2 rfl) ?_
      refine lv_if_eq (tgt := 34) hx hb dX12_log_22 (by decide) (fun hc => ?_) (fun hc => ?_)
      · replace hq := if_y hc hq
        refine lv_aload_n hx hb dX12_log_34 rfl (lv_at hl 0 rfl) ?_
        refine m_get B hW 34 (by decide) u_876 (v := .ref (G.2.2.2 34)) rfl dX12_log_35 ?_
        refine lv_iload_n hx hb dX12_log_38 rfl (lv_at hl 1 rfl) ?_
        obtain ⟨hc, hq⟩ := chk_e hq
        refine m_iald B hW mA_34 hc dX12_log_39 ?_
        exact m_iret B hW hq dX12_log_40
      · replace hq := if_n hc hq
        refine lv_aload_n hx hb dX12_log_25 rfl (lv_at hl 0 rfl) ?_
        refine m_get B hW 35 (by decide) u_877 (v := .ref (G.2.2.2 35)) rfl dX12_log_26 ?_
        refine lv_iload_n hx hb dX12_log_29 rfl (lv_at hl 1 rfl) ?_
        obtain ⟨hc, hq⟩ := chk_e hq
        refine m_iald B hW mA_35 hc dX12_log_30 ?_
        refine lv_goto (tgt := 40) hx hb dX12_log_31 (by decide) ?_
        exact m_iret B hW hq dX12_log_40
    · replace hq := if_n hc hq
      refine lv_ldcw (v := (-1000000)) hx hb B.2.2.2.2.1 (B.2.2.2.2.2.1 _ (List.mem_cons_of_mem _ u_1199)) dX12_log_17 ?_
      exact m_iret B hW hq dX12_log_20
set_option maxHeartbeats 4000000 in
set_option maxRecDepth 100000 in
theorem c_count {l : Launch} {D : va_G} {A : Nat → Prop} {G : MG} (M : MS) (p1 : Int32) {r : Int32} {M' : MS} (hq : q_count M p1 = some (r, M')) : Met l yX12_count (wM yX12_count prog_14_method_52_code 2 (some .int)) (rM 1 21) (va_Pc [.ref G.2.2.1, .int p1] (mPre D A G M)) (mQi D A G r M') 0 0 A := by
  refine m_head (by decide) rfl (Nat.le_of_ble_eq_true rfl) ?_
  intro p e s m args below meth c ls B hW hl
  have hx := B.1
  have hb := B.2.1
  have hl : lv_has ls 2 [(0, .ref G.2.2.1), (1, .int p1)] := hl
  unfold q_count at hq
  refine lv_aload_n hx hb dX12_count_0 rfl (lv_at hl 0 rfl) ?_
  refine lv_iconst (v := 0) hx hb dX12_count_1 (by decide) ?_
  refine m_put B hW 0 (by decide) u_842 mS_0 rfl (ty := .int) (tyX12_ok 0 (by decide)) rfl rfl (Nat.le_of_ble_eq_true rfl) dX12_count_2 (fun H locs M1 eM hW => ?_)
  replace hq := lt9_u eM hq
  clear eM
  refine lv_iload_n hx hb dX12_count_5 rfl (lv_at hl 1 rfl) ?_
  by_cases hc0 : p1 = 0
  · replace hq := if_y hc0 hq
    refine lv_tableIn (off := 34) (tgt := 40) hx hb dX12_count_6 (by rw [hc0]; decide) (by rw [hc0]; decide) (by rw [hc0]; rfl) (by decide) ?_
    refine lv_aload_n hx hb dX12_count_40 rfl (lv_at hl 0 rfl) ?_
    refine m_get B hW 1 (by decide) u_843 (v := .int (M1 1 0)) rfl dX12_count_41 ?_
    exact m_iret B hW hq dX12_count_44
  replace hq := if_n hc0 hq
  by_cases hc1 : p1 = 1
  · replace hq := if_y hc1 hq
    refine lv_tableIn (off := 39) (tgt := 45) hx hb dX12_count_6 (by rw [hc1]; decide) (by rw [hc1]; decide) (by rw [hc1]; rfl) (by decide) ?_
    refine lv_aload_n hx hb dX12_count_45 rfl (lv_at hl 0 rfl) ?_
    refine m_get B hW 30 (by decide) u_872 (v := .int (M1 30 0)) rfl dX12_count_46 ?_
    refine lv_aload_n hx hb dX12_count_49 rfl (lv_at hl 0 rfl) ?_
    refine m_get B hW 29 (by decide) u_871 (v := .int (M1 29 0)) rfl dX12_count_50 ?_
    refine lv_isub hx hb dX12_count_53 ?_
    exact m_iret B hW hq dX12_count_54
  replace hq := if_n hc1 hq
  by_cases hc2 : p1 = 2
  · replace hq := if_y hc2 hq
    refine lv_tableIn (off := 49) (tgt := 55) hx hb dX12_count_6 (by rw [hc2]; decide) (by rw [hc2]; decide) (by rw [hc2]; rfl) (by decide) ?_
    refine lv_aload_n hx hb dX12_count_55 rfl (lv_at hl 0 rfl) ?_
    refine m_get B hW 36 (by decide) u_878 (v := .int (M1 36 0)) rfl dX12_count_56 ?_
    exact m_iret B hW hq dX12_count_59
  replace hq := if_n hc2 hq
  by_cases hc3 : p1 = 3
  · replace hq := if_y hc3 hq
    refine lv_tableIn (off := 54) (tgt := 60) hx hb dX12_count_6 (by rw [hc3]; decide) (by rw [hc3]; decide) (by rw [hc3]; rfl) (by decide) ?_
    refine lv_aload_n hx hb dX12_count_60 rfl (lv_at hl 0 rfl) ?_
    refine m_get B hW 38 (by decide) u_880 (v := .int (M1 38 0)) rfl dX12_count_61 ?_
    exact m_iret B hW hq dX12_count_64
  replace hq := if_n hc3 hq
  by_cases hc4 : p1 = 4
  · replace hq := if_y hc4 hq
    refine lv_tableIn (off := 59) (tgt := 65) hx hb dX12_count_6 (by rw [hc4]; decide) (by rw [hc4]; decide) (by rw [hc4]; rfl) (by decide) ?_
    refine lv_aload_n hx hb dX12_count_65 rfl (lv_at hl 0 rfl) ?_
    refine m_get B hW 33 (by decide) u_875 (v := .int (M1 33 0)) rfl dX12_count_66 ?_
    exact m_iret B hW hq dX12_count_69
  replace hq := if_n hc4 hq
  have hd0 : (p1).toInt ≠ 0 := fun e9 => hc0 (Int32.toInt_inj.mp (e9.trans (by decide)))
  have hd1 : (p1).toInt ≠ 1 := fun e9 => hc1 (Int32.toInt_inj.mp (e9.trans (by decide)))
  have hd2 : (p1).toInt ≠ 2 := fun e9 => hc2 (Int32.toInt_inj.mp (e9.trans (by decide)))
  have hd3 : (p1).toInt ≠ 3 := fun e9 => hc3 (Int32.toInt_inj.mp (e9.trans (by decide)))
  have hd4 : (p1).toInt ≠ 4 := fun e9 => hc4 (Int32.toInt_inj.mp (e9.trans (by decide)))
  refine lv_tableOut (tgt := 70) hx hb dX12_count_6 (by omega) (by decide) ?_
  refine lv_aload_n hx hb dX12_count_70 rfl (lv_at hl 0 rfl) ?_
  refine lv_iconst (v := 1) hx hb dX12_count_71 (by decide) ?_
  obtain ⟨r3, M2, hg, hq⟩ := bnd2_e hq
  refine m_calli (As := [.int 1]) (rest := []) B hW hl.1 (c_fails M1 1 hg) mC_fails rfl ⟨by decide, by decide⟩ rfl (Nat.le_of_ble_eq_true rfl) dX12_count_72 (fun H locs hW => ?_)
  clear hg
  exact m_iret B hW hq dX12_count_75
