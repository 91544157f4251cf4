set_option maxHeartbeats 4000000 in
set_option maxRecDepth 100000 in
theorem c_reject {l : Launch} {D : va_G} {A : Nat → Prop} {G : MG} (n : Nat) (M : MS) (p1 p2 : Int32) {M' : MS} (hq : q_reject n M p1 p2 = some M') : Met l yX12_reject (wM yX12_reject prog_14_method_14_code 3 none) (rM 2 47) (va_Pc [.ref G.2.2.1, .int p1, .int p2] (mPre D A G M)) (mQv D A G M') 0 0 A := by
  refine m_head (by decide) rfl (Nat.le_of_ble_eq_true rfl) ?_
  intro p e s m args below meth c ls B hW hl
  have hx := B.1
  have hb := B.2.1
  have hl : lv_has ls 3 [(0, .ref G.2.2.1), (1, .int p1), (2, .int p2)] := hl
  unfold q_reject at hq
  refine lv_aload_n hx hb dX12_reject_0 rfl (lv_at hl 0 rfl) ?_
  refine m_get B hW 14 (by decide) u_856 (v := .ref (G.2.2.2 14)) rfl dX12_reject_1 ?_
  refine lv_iload_n hx hb dX12_reject_4 rfl (lv_at hl 1 rfl) ?_
  obtain ⟨hc, hq⟩ := chk_e hq
  refine m_zald B hW mA_14 hc dX12_reject_5 ?_
  refine lv_if_eq (tgt := 10) hx hb dX12_reject_6 (by decide) (fun hc => ?_) (fun hc => ?_)
  · replace hq := if_y hc hq
    refine lv_aload_n hx hb dX12_reject_10 rfl (lv_at hl 0 rfl) ?_
    refine m_get B hW 14 (by decide) u_856 (v := .ref (G.2.2.2 14)) rfl dX12_reject_11 ?_
    refine lv_iload_n hx hb dX12_reject_14 rfl (lv_at hl 1 rfl) ?_
    refine lv_iconst (v := 1) hx hb dX12_reject_15 (by decide) ?_
    obtain ⟨hc, hq⟩ := chk_e hq
    obtain ⟨hc2, hq⟩ := chk_e hq
    refine m_zast B hW mA_14 hc2 hc dX12_reject_16 (fun H locs M1 eM hW => ?_)
    replace hq := lt9_u eM hq
    clear eM
    refine lv_aload_n hx hb dX12_reject_17 rfl (lv_at hl 0 rfl) ?_
    refine lv_aload_n hx hb dX12_reject_18 rfl (lv_at hl 0 rfl) ?_
    refine m_get B hW 13 (by decide) u_855 (v := .ref (G.2.2.2 13)) rfl dX12_reject_19 ?_
    refine lv_iload_n hx hb dX12_reject_22 rfl (lv_at hl 1 rfl) ?_
    obtain ⟨hc, hq⟩ := chk_e hq
    refine m_iald B hW mA_13 hc dX12_reject_23 ?_
    refine lv_iconst (v := 2) hx hb dX12_reject_24 (by decide) ?_
    refine lv_iload_n hx hb dX12_reject_25 rfl (lv_at hl 2 rfl) ?_
    obtain ⟨M2, hg, hq⟩ := bnd_e hq
    refine m_callv (As := [.int (M1 13 p1.toNatClampNeg), .int 2, .int p2]) (rest := []) B hW hl.1 (c_settle n M1 (M1 13 p1.toNatClampNeg) 2 p2 hg) mC_settle rfl ⟨by decide, by decide⟩ rfl (Nat.le_of_ble_eq_true rfl) dX12_reject_26 (fun H locs hW => ?_)
    clear hg
    exact m_vret B hW hq dX12_reject_29
  · replace hq := if_n hc hq
    exact m_vret B hW hq dX12_reject_9
theorem mC_reject : mC yX12_reject prog_14_method_14_code 3 none 197 2 := ⟨fun _ => g_V u_1059 u_1061 us_48 u_5 u_1062, by decide +kernel⟩
set_option maxHeartbeats 4000000 in
set_option maxRecDepth 100000 in
theorem k_resolve_138 {p : Program} {l : Launch} {e : Env} {s : State} {m : MethodId} {args : Array Value} {below : List Frame} {meth : Method} {c : Code} {D : va_G} {A : Nat → Prop} {G : MG} {M' : MS} (B : mB p s m args meth c D G prog_14_method_13_code 5 none (Cond.code yX12_resolve prog_14_method_13_code 5 none)) :
    ∀ (n : Nat) (M : MS) (v3 v4 : Int32), q_resolve_138 n M v3 v4 = some M' → ∀ (H : Heap) (locs : List Loc) (ls : Array Slot), mOK D A G M s.heap H locs → lv_has ls 5 [(0, .ref G.2.2.1), (3, .int v3), (4, .int v4)] → W p l e (rM 2 47) s m args below meth c H locs 0 0 (MQ below (mQv D A G M') args s 0 0 A) (F0 m 138 ls []) := by
  have hx := B.1
  have hb := B.2.1
  intro n M v3 v4 hq _ _ ls hW hl
  unfold q_resolve_138 at hq
  refine lv_aload_n hx hb dX12_resolve_138 rfl (lv_at hl 0 rfl) ?_
  refine m_get B hW 28 (by decide) u_870 (v := .ref (G.2.2.2 28)) rfl dX12_resolve_139 ?_
  refine lv_aload_n hx hb dX12_resolve_142 rfl (lv_at hl 0 rfl) ?_
  refine m_get B hW 30 (by decide) u_872 (v := .int (M 30 0)) rfl dX12_resolve_143 ?_
  refine lv_iconst (v := 1) hx hb dX12_resolve_146 (by decide) ?_
  obtain ⟨hc, hq⟩ := chk_e hq
  obtain ⟨hc2, hq⟩ := chk_e hq
  refine m_zast B hW mA_28 hc2 hc dX12_resolve_147 (fun H locs M4 eM hW => ?_)
  replace hq := lt9_u eM hq
  clear eM
  refine lv_aload_n hx hb dX12_resolve_148 rfl (lv_at hl 0 rfl) ?_
  refine m_get B hW 24 (by decide) u_866 (v := .ref (G.2.2.2 24)) rfl dX12_resolve_149 ?_
  refine lv_aload_n hx hb dX12_resolve_152 rfl (lv_at hl 0 rfl) ?_
  refine m_get B hW 30 (by decide) u_872 (v := .int (M4 30 0)) rfl dX12_resolve_153 ?_
  refine lv_iload hx hb dX12_resolve_156 (lv_at hl 2 rfl) ?_
  obtain ⟨hc, hq⟩ := chk_e hq
  refine m_iast B hW mA_24 hc dX12_resolve_158 (fun H locs M5 eM hW => ?_)
  replace hq := lt9_u eM hq
  clear eM
  refine lv_aload_n hx hb dX12_resolve_159 rfl (lv_at hl 0 rfl) ?_
  refine m_get B hW 25 (by decide) u_867 (v := .ref (G.2.2.2 25)) rfl dX12_resolve_160 ?_
  refine lv_aload_n hx hb dX12_resolve_163 rfl (lv_at hl 0 rfl) ?_
  refine m_get B hW 30 (by decide) u_872 (v := .int (M5 30 0)) rfl dX12_resolve_164 ?_
  refine lv_iload_n hx hb dX12_resolve_167 rfl (lv_at hl 1 rfl) ?_
  obtain ⟨hc, hq⟩ := chk_e hq
  refine m_iast B hW mA_25 hc dX12_resolve_168 (fun H locs M6 eM hW => ?_)
  replace hq := lt9_u eM hq
  clear eM
  refine lv_aload_n hx hb dX12_resolve_169 rfl (lv_at hl 0 rfl) ?_
  refine lv_dup hx hb dX12_resolve_170 rfl ?_
  refine m_get B hW 30 (by decide) u_872 (v := .int (M6 30 0)) rfl dX12_resolve_171 ?_
  refine lv_iconst (v := 1) hx hb dX12_resolve_174 (by decide) ?_
  refine lv_iadd hx hb dX12_resolve_175 ?_
  refine m_put B hW 30 (by decide) u_872 mS_30 rfl (ty := .int) (tyX12_ok 30 (by decide)) rfl rfl (Nat.le_of_ble_eq_true rfl) dX12_resolve_176 (fun H locs M7 eM hW => ?_)
  replace hq := lt9_u eM hq
  clear eM
  refine lv_goto (tgt := 189) hx hb dX12_resolve_179 (by decide) ?_
  exact m_vret B hW hq dX12_resolve_189
set_option maxHeartbeats 4000000 in
set_option maxRecDepth 100000 in
theorem k_resolve_107 {p : Program} {l : Launch} {e : Env} {s : State} {m : MethodId} {args : Array Value} {below : List Frame} {meth : Method} {c : Code} {D : va_G} {A : Nat → Prop} {G : MG} {M' : MS} (B : mB p s m args meth c D G prog_14_method_13_code 5 none (Cond.code yX12_resolve prog_14_method_13_code 5 none)) :
    ∀ (n : Nat) (M : MS) (v2 v3 v4 : Int32), q_resolve_107 n M v2 v3 v4 = some M' → ∀ (H : Heap) (locs : List Loc) (ls : Array Slot), mOK D A G M s.heap H locs → lv_has ls 5 [(0, .ref G.2.2.1), (2, .int v2), (3, .int v3), (4, .int v4)] → W p l e (rM 2 47) s m args below meth c H locs 0 0 (MQ below (mQv D A G M') args s 0 0 A) (F0 m 107 ls []) := by
  have hx := B.1
  have hb := B.2.1
  intro n M v2 v3 v4 hq _ _ ls hW hl
  unfold q_resolve_107 at hq
  refine lv_aload_n hx hb dX12_resolve_107 rfl (lv_at hl 0 rfl) ?_
  refine m_get B hW 2 (by decide) u_844 (v := .ref (G.2.2.2 2)) rfl dX12_resolve_108 ?_
  refine lv_iload hx hb dX12_resolve_111 (lv_at hl 3 rfl) ?_
  obtain ⟨hc, hq⟩ := chk_e hq
  refine m_iald B hW mA_2 hc dX12_resolve_113 ?_
  refine lv_if_eq (tgt := 138) hx hb dX12_resolve_114 (by decide) (fun hc => ?_) (fun hc => ?_)
  · replace hq := if_y hc hq
    exact k_resolve_138 B n M v3 v4 hq _ _ ls hW (lv_sub hl [0, 2, 3] rfl)
  · replace hq := if_n hc hq
    refine lv_aload_n hx hb dX12_resolve_117 rfl (lv_at hl 0 rfl) ?_
    refine m_get B hW 2 (by decide) u_844 (v := .ref (G.2.2.2 2)) rfl dX12_resolve_118 ?_
    refine lv_iload hx hb dX12_resolve_121 (lv_at hl 3 rfl) ?_
    obtain ⟨hc, hq⟩ := chk_e hq
    refine m_iald B hW mA_2 hc dX12_resolve_123 ?_
    refine lv_iconst (v := 1) hx hb dX12_resolve_124 (by decide) ?_
    refine lv_icmp_ne (tgt := 182) hx hb dX12_resolve_125 (by decide) (fun hc => ?_) (fun hc => ?_)
    · replace hq := if_n hc hq
      refine lv_aload_n hx hb dX12_resolve_182 rfl (lv_at hl 0 rfl) ?_
      refine lv_iload_n hx hb dX12_resolve_183 rfl (lv_at hl 2 rfl) ?_
      refine lv_iconst (v := 1) hx hb dX12_resolve_184 (by decide) ?_
      refine lv_iload_n hx hb dX12_resolve_185 rfl (lv_at hl 1 rfl) ?_
      obtain ⟨M8, hg, hq⟩ := bnd_e hq
      refine m_callv (As := [.int v3, .int 1, .int v2]) (rest := []) B hW hl.1 (c_settle n M v3 1 v2 hg) mC_settle rfl ⟨by decide, by decide⟩ rfl (Nat.le_of_ble_eq_true rfl) dX12_resolve_186 (fun H locs hW => ?_)
      clear hg
      exact m_vret B hW hq dX12_resolve_189
    · replace hq := if_y hc hq
      refine lv_aload_n hx hb dX12_resolve_128 rfl (lv_at hl 0 rfl) ?_
      refine m_get B hW 8 (by decide) u_850 (v := .ref (G.2.2.2 8)) rfl dX12_resolve_129 ?_
      refine lv_iload hx hb dX12_resolve_132 (lv_at hl 3 rfl) ?_
      obtain ⟨hc, hq⟩ := chk_e hq
      refine m_iald B hW mA_8 hc dX12_resolve_134 ?_
      refine lv_if_ne (tgt := 182) hx hb dX12_resolve_135 (by decide) (fun hc => ?_) (fun hc => ?_)
      · replace hq := if_n hc hq
        refine lv_aload_n hx hb dX12_resolve_182 rfl (lv_at hl 0 rfl) ?_
        refine lv_iload_n hx hb dX12_resolve_183 rfl (lv_at hl 2 rfl) ?_
        refine lv_iconst (v := 1) hx hb dX12_resolve_184 (by decide) ?_
        refine lv_iload_n hx hb dX12_resolve_185 rfl (lv_at hl 1 rfl) ?_
        obtain ⟨M9, hg, hq⟩ := bnd_e hq
        refine m_callv (As := [.int v3, .int 1, .int v2]) (rest := []) B hW hl.1 (c_settle n M v3 1 v2 hg) mC_settle rfl ⟨by decide, by decide⟩ rfl (Nat.le_of_ble_eq_true rfl) dX12_resolve_186 (fun H locs hW => ?_)
        clear hg
        exact m_vret B hW hq dX12_resolve_189
      · replace hq := if_y hc hq
        exact k_resolve_138 B n M v3 v4 hq _ _ ls hW (lv_sub hl [0, 2, 3] rfl)
set_option maxHeartbeats 4000000 in
set_option maxRecDepth 100000 in
theorem c_resolve {l : Launch} {D : va_G} {A : Nat → Prop} {G : MG} (n : Nat) (M : MS) (p1 p2 : Int32) {M' : MS} (hq : q_resolve n M p1 p2 = some M') : Met l yX12_resolve (wM yX12_resolve prog_14_method_13_code 5 none) (rM 2 47) (va_Pc [.ref G.2.2.1, .int p1, .int p2] (mPre D A G M)) (mQv D A G M') 0 0 A := by
  refine m_head (by decide) rfl (Nat.le_of_ble_eq_true rfl) ?_
  intro p e s m args below meth c ls B hW hl
  have hx := B.1
  have hb := B.2.1
  have hl : lv_has ls 5 [(0, .ref G.2.2.1), (1, .int p1), (2, .int p2)] := hl
  unfold q_resolve at hq
  refine lv_aload_n hx hb dX12_resolve_0 rfl (lv_at hl 0 rfl) ?_
  refine m_get B hW 14 (by decide) u_856 (v := .ref (G.2.2.2 14)) rfl dX12_resolve_1 ?_
  refine lv_iload_n hx hb dX12_resolve_4 rfl (lv_at hl 1 rfl) ?_
  obtain ⟨hc, hq⟩ := chk_e hq
  refine m_zald B hW mA_14 hc dX12_resolve_5 ?_
  refine lv_if_eq (tgt := 10) hx hb dX12_resolve_6 (by decide) (fun hc => ?_) (fun hc => ?_)
  · replace hq := if_y hc hq
    refine lv_aload_n hx hb dX12_resolve_10 rfl (lv_at hl 0 rfl) ?_
    refine m_get B hW 14 (by decide) u_856 (v := .ref (G.2.2.2 14)) rfl dX12_resolve_11 ?_
    refine lv_iload_n hx hb dX12_resolve_14 rfl (lv_at hl 1 rfl) ?_
    refine lv_iconst (v := 1) hx hb dX12_resolve_15 (by decide) ?_
    obtain ⟨hc, hq⟩ := chk_e hq
    obtain ⟨hc2, hq⟩ := chk_e hq
    refine m_zast B hW mA_14 hc2 hc dX12_resolve_16 (fun H locs M1 eM hW => ?_)
    replace hq := lt9_u eM hq
    clear eM
    refine lv_aload_n hx hb dX12_resolve_17 rfl (lv_at hl 0 rfl) ?_
    refine m_get B hW 13 (by decide) u_855 (v := .ref (G.2.2.2 13)) rfl dX12_resolve_18 ?_
    refine lv_iload_n hx hb dX12_resolve_21 rfl (lv_at hl 1 rfl) ?_
    obtain ⟨hc, hq⟩ := chk_e hq
    refine m_iald B hW mA_13 hc dX12_resolve_22 ?_
    refine lv_istore_n (lv' := [(3, .int (M1 13 p1.toNatClampNeg)), (0, .ref G.2.2.1), (1, .int p1), (2, .int p2)]) hx hb dX12_resolve_23 rfl hl (by decide) rfl (fun ls hl => ?_)
    refine lv_iload_n hx hb dX12_resolve_24 rfl (lv_at hl 3 rfl) ?_
    refine lv_iload_n hx hb dX12_resolve_25 rfl (lv_at hl 0 rfl) ?_
    refine m_valueOf (rest := [.int p2]) B hW hl.1 ⟨by decide, by decide⟩ (Nat.le_of_ble_eq_true rfl) dX12_resolve_26 (fun H locs hW => ?_)
    refine lv_icmp_ne (tgt := 47) hx hb dX12_resolve_29 (by decide) (fun hc => ?_) (fun hc => ?_)
    · replace hq := if_n hc hq
      refine lv_aload_n hx hb dX12_resolve_47 rfl (lv_at hl 1 rfl) ?_
      refine lv_iload_n hx hb dX12_resolve_48 rfl (lv_at hl 3 rfl) ?_
      obtain ⟨r3, M2, hg, hq⟩ := bnd2_e hq
      refine m_calli (As := [.int p2]) (rest := []) B hW hl.1 (c_isObject M1 p2 hg) mC_isObject rfl ⟨by decide, by decide⟩ rfl (Nat.le_of_ble_eq_true rfl) dX12_resolve_49 (fun H locs hW => ?_)
      clear hg
      refine lv_if_ne (tgt := 63) hx hb dX12_resolve_52 (by decide) (fun hc => ?_) (fun hc => ?_)
      · replace hq := if_n hc hq
        refine lv_bipush (v := (-2)) hx hb dX12_resolve_63 (by decide) ?_
        refine lv_iload_n hx hb dX12_resolve_65 rfl (lv_at hl 3 rfl) ?_
        refine lv_isub hx hb dX12_resolve_66 ?_
        refine lv_istore (lv' := [(4, .int ((-2) - p2)), (3, .int (M1 13 p1.toNatClampNeg)), (0, .ref G.2.2.1), (1, .int p1), (2, .int p2)]) hx hb dX12_resolve_67 hl (by decide) rfl (fun ls hl => ?_)
        refine lv_aload_n hx hb dX12_resolve_69 rfl (lv_at hl 2 rfl) ?_
        refine m_get B hW 2 (by decide) u_844 (v := .ref (G.2.2.2 2)) rfl dX12_resolve_70 ?_
        refine lv_iload hx hb dX12_resolve_73 (lv_at hl 0 rfl) ?_
        obtain ⟨hc, hq⟩ := chk_e hq
        refine m_iald B hW mA_2 hc dX12_resolve_75 ?_
        refine lv_iconst (v := 1) hx hb dX12_resolve_76 (by decide) ?_
        refine lv_icmp_ne (tgt := 107) hx hb dX12_resolve_77 (by decide) (fun hc => ?_) (fun hc => ?_)
        · replace hq := if_n hc hq
          exact k_resolve_107 B n M2 p2 (M1 13 p1.toNatClampNeg) ((-2) - p2) hq _ _ ls hW (lv_sub hl [2, 4, 1, 0] rfl)
        · replace hq := if_y hc hq
          refine lv_aload_n hx hb dX12_resolve_80 rfl (lv_at hl 2 rfl) ?_
          refine m_get B hW 8 (by decide) u_850 (v := .ref (G.2.2.2 8)) rfl dX12_resolve_81 ?_
          refine lv_iload hx hb dX12_resolve_84 (lv_at hl 0 rfl) ?_
          obtain ⟨hc, hq⟩ := chk_e hq
          refine m_iald B hW mA_8 hc dX12_resolve_86 ?_
          refine lv_iconst (v := 1) hx hb dX12_resolve_87 (by decide) ?_
          refine lv_icmp_ne (tgt := 107) hx hb dX12_resolve_88 (by decide) (fun hc => ?_) (fun hc => ?_)
          · replace hq := if_n hc hq
            exact k_resolve_107 B n M2 p2 (M1 13 p1.toNatClampNeg) ((-2) - p2) hq _ _ ls hW (lv_sub hl [2, 4, 1, 0] rfl)
          · replace hq := if_y hc hq
            refine lv_aload_n hx hb dX12_resolve_91 rfl (lv_at hl 2 rfl) ?_
            refine lv_iload_n hx hb dX12_resolve_92 rfl (lv_at hl 1 rfl) ?_
            refine lv_iconst (v := 2) hx hb dX12_resolve_93 (by decide) ?_
            refine lv_aload_n hx hb dX12_resolve_94 rfl (lv_at hl 2 rfl) ?_
            refine m_get B hW 10 (by decide) u_852 (v := .ref (G.2.2.2 10)) rfl dX12_resolve_95 ?_
            refine lv_iload hx hb dX12_resolve_98 (lv_at hl 0 rfl) ?_
            obtain ⟨hc, hq⟩ := chk_e hq
            refine m_iald B hW mA_10 hc dX12_resolve_100 ?_
            obtain ⟨M10, hg, hq⟩ := bnd_e hq
            refine m_callv (As := [.int (M1 13 p1.toNatClampNeg), .int 2, .int (M2 10 ((-2) - p2).toNatClampNeg)]) (rest := []) B hW hl.1 (c_settle n M2 (M1 13 p1.toNatClampNeg) 2 (M2 10 ((-2) - p2).toNatClampNeg) hg) mC_settle rfl ⟨by decide, by decide⟩ rfl (Nat.le_of_ble_eq_true rfl) dX12_resolve_101 (fun H locs hW => ?_)
            clear hg
            refine lv_goto (tgt := 189) hx hb dX12_resolve_104 (by decide) ?_
            exact m_vret B hW hq dX12_resolve_189
      · replace hq := if_y hc hq
        refine lv_aload_n hx hb dX12_resolve_55 rfl (lv_at hl 1 rfl) ?_
        refine lv_iload_n hx hb dX12_resolve_56 rfl (lv_at hl 0 rfl) ?_
        refine lv_iconst (v := 1) hx hb dX12_resolve_57 (by decide) ?_
        refine lv_iload_n hx hb dX12_resolve_58 rfl (lv_at hl 3 rfl) ?_
        obtain ⟨M11, hg, hq⟩ := bnd_e hq
        refine m_callv (As := [.int (M1 13 p1.toNatClampNeg), .int 1, .int p2]) (rest := []) B hW hl.1 (c_settle n M2 (M1 13 p1.toNatClampNeg) 1 p2 hg) mC_settle rfl ⟨by decide, by decide⟩ rfl (Nat.le_of_ble_eq_true rfl) dX12_resolve_59 (fun H locs hW => ?_)
        clear hg
        exact m_vret B hW hq dX12_resolve_62
    · replace hq := if_y hc hq
      refine lv_aload_n hx hb dX12_resolve_32 rfl (lv_at hl 1 rfl) ?_
      refine lv_iload_n hx hb dX12_resolve_33 rfl (lv_at hl 0 rfl) ?_
      refine lv_iconst (v := 2) hx hb dX12_resolve_34 (by decide) ?_
      refine lv_aload_n hx hb dX12_resolve_35 rfl (lv_at hl 1 rfl) ?_
      refine lv_iconst (v := 2) hx hb dX12_resolve_36 (by decide) ?_
      obtain ⟨r13, M12, hg, hq⟩ := bnd2_e hq
      refine m_calli (As := [.int 2]) (rest := [.int 2, .int (M1 13 p1.toNatClampNeg), .ref G.2.2.1]) B hW hl.1 (c_newObject M1 2 hg) mC_newObject rfl ⟨by decide, by decide⟩ rfl (Nat.le_of_ble_eq_true rfl) dX12_resolve_37 (fun H locs hW => ?_)
      clear hg
      refine m_valueOf (rest := [.int 2, .int (M1 13 p1.toNatClampNeg), .ref G.2.2.1]) B hW hl.1 ⟨by decide, by decide⟩ (Nat.le_of_ble_eq_true rfl) dX12_resolve_40 (fun H locs hW => ?_)
      obtain ⟨M14, hg, hq⟩ := bnd_e hq
      refine m_callv (As := [.int (M1 13 p1.toNatClampNeg), .int 2, .int (-2 - r13)]) (rest := []) B hW hl.1 (c_settle n M12 (M1 13 p1.toNatClampNeg) 2 (-2 - r13) hg) mC_settle rfl ⟨by decide, by decide⟩ rfl (Nat.le_of_ble_eq_true rfl) dX12_resolve_43 (fun H locs hW => ?_)
      clear hg
      exact m_vret B hW hq dX12_resolve_46
  · replace hq := if_n hc hq
    exact m_vret B hW hq dX12_resolve_9
theorem mC_resolve : mC yX12_resolve prog_14_method_13_code 5 none 183 2 := ⟨fun _ => g_V u_1071 u_1073 us_51 u_5 u_1074, by decide +kernel⟩
set_option maxHeartbeats 4000000 in
set_option maxRecDepth 100000 in
theorem k_settle__73 {p : Program} {l : Launch} {e : Env} {s : State} {m : MethodId} {args : Array Value} {below : List Frame} {meth : Method} {c : Code} {D : va_G} {A : Nat → Prop} {G : MG} {r : Int32} {M' : MS} (B : mB p s m args meth c D G prog_14_method_37_code 6 (some .boolean) (Cond.code yX12_settle_ prog_14_method_37_code 6 (some .boolean))) :
    ∀ (n : Nat) (M : MS) (v2 v3 v4 z0 : Int32), q_settle__73 n M v2 v3 v4 z0 = some (r, M') → ∀ (H : Heap) (locs : List Loc) (ls : Array Slot), mOK D A G M s.heap H locs → lv_has ls 6 [(0, .ref G.2.2.1), (2, .int v2), (3, .int v3), (4, .int v4)] → W p l e (rM 3 71) s m args below meth c H locs 0 0 (MQ below (mQi D A G r M') args s 0 0 A) (F0 m 73 ls [.int z0]) := by
  have hx := B.1
  have hb := B.2.1
  intro n M v2 v3 v4 z0 hq _ _ ls hW hl
  unfold q_settle__73 at hq
  refine lv_istore (lv' := [(5, .int z0), (0, .ref G.2.2.1), (2, .int v2), (3, .int v3), (4, .int v4)]) hx hb dX12_settle__73 hl (by decide) rfl (fun ls hl => ?_)
  refine lv_iload_n hx hb dX12_settle__75 rfl (lv_at hl 2 rfl) ?_
  refine lv_if_eq (tgt := 89) hx hb dX12_settle__76 (by decide) (fun hc => ?_) (fun hc => ?_)
  · replace hq := if_y hc hq
    refine lv_aload_n hx hb dX12_settle__89 rfl (lv_at hl 1 rfl) ?_
    refine lv_iload hx hb dX12_settle__90 (lv_at hl 4 rfl) ?_
    refine lv_iload_n hx hb dX12_settle__92 rfl (lv_at hl 3 rfl) ?_
    obtain ⟨M4, hg, hq⟩ := bnd_e hq
    refine m_callv (As := [.int v4, .int v3]) (rest := []) B hW hl.1 (c_resolve n M v4 v3 hg) mC_resolve rfl ⟨by decide, by decide⟩ rfl (Nat.le_of_ble_eq_true rfl) dX12_settle__93 (fun H locs hW => ?_)
    clear hg
    refine lv_iload hx hb dX12_settle__96 (lv_at hl 0 rfl) ?_
    obtain ⟨hc, hq⟩ := chk_e hq
    exact m_zret B hW hc hq dX12_settle__98
  · replace hq := if_n hc hq
    refine lv_aload_n hx hb dX12_settle__79 rfl (lv_at hl 1 rfl) ?_
    refine lv_iload hx hb dX12_settle__80 (lv_at hl 4 rfl) ?_
    refine lv_iload_n hx hb dX12_settle__82 rfl (lv_at hl 3 rfl) ?_
    obtain ⟨M5, hg, hq⟩ := bnd_e hq
    refine m_callv (As := [.int v4, .int v3]) (rest := []) B hW hl.1 (c_reject n M v4 v3 hg) mC_reject rfl ⟨by decide, by decide⟩ rfl (Nat.le_of_ble_eq_true rfl) dX12_settle__83 (fun H locs hW => ?_)
    clear hg
    refine lv_goto (tgt := 96) hx hb dX12_settle__86 (by decide) ?_
    refine lv_iload hx hb dX12_settle__96 (lv_at hl 0 rfl) ?_
    obtain ⟨hc, hq⟩ := chk_e hq
    exact m_zret B hW hc hq dX12_settle__98
set_option maxHeartbeats 4000000 in
set_option maxRecDepth 100000 in
theorem k_settle__35 {p : Program} {l : Launch} {e : Env} {s : State} {m : MethodId} {args : Array Value} {below : List Frame} {meth : Method} {c : Code} {D : va_G} {A : Nat → Prop} {G : MG} {r : Int32} {M' : MS} (B : mB p s m args meth c D G prog_14_method_37_code 6 (some .boolean) (Cond.code yX12_settle_ prog_14_method_37_code 6 (some .boolean))) :
    ∀ (n : Nat) (M : MS) (v1 v2 v3 z0 : Int32), q_settle__35 n M v1 v2 v3 z0 = some (r, M') → ∀ (H : Heap) (locs : List Loc) (ls : Array Slot), mOK D A G M s.heap H locs → lv_has ls 6 [(0, .ref G.2.2.1), (1, .int v1), (2, .int v2), (3, .int v3)] → W p l e (rM 3 71) s m args below meth c H locs 0 0 (MQ below (mQi D A G r M') args s 0 0 A) (F0 m 35 ls [.int z0, .ref G.2.2.1]) := by
  have hx := B.1
  have hb := B.2.1
  intro n M v1 v2 v3 z0 hq _ _ ls hW hl
  unfold q_settle__35 at hq
  refine m_put B hW 0 (by decide) u_842 mS_0 rfl (ty := .int) (tyX12_ok 0 (by decide)) rfl rfl (Nat.le_of_ble_eq_true rfl) dX12_settle__35 (fun H locs M3 eM hW => ?_)
  replace hq := lt9_u eM hq
  clear eM
  refine lv_aload_n hx hb dX12_settle__38 rfl (lv_at hl 0 rfl) ?_
  refine m_get B hW 0 (by decide) u_842 (v := .int (M3 0 0)) rfl dX12_settle__39 ?_
  refine lv_if_le (tgt := 47) hx hb dX12_settle__42 (by decide) (fun hc => ?_) (fun hc => ?_)
  · replace hq := if_y hc hq
    refine lv_aload_n hx hb dX12_settle__47 rfl (lv_at hl 0 rfl) ?_
    refine m_get B hW 6 (by decide) u_848 (v := .ref (G.2.2.2 6)) rfl dX12_settle__48 ?_
    refine lv_bipush (v := (-2)) hx hb dX12_settle__51 (by decide) ?_
    refine lv_iload_n hx hb dX12_settle__53 rfl (lv_at hl 1 rfl) ?_
    refine lv_isub hx hb dX12_settle__54 ?_
    obtain ⟨hc, hq⟩ := chk_e hq
    refine m_iald B hW mA_6 hc dX12_settle__55 ?_
    refine lv_istore (lv' := [(4, .int (M3 6 ((-2) - v1).toNatClampNeg)), (0, .ref G.2.2.1), (1, .int v1), (2, .int v2), (3, .int v3)]) hx hb dX12_settle__56 hl (by decide) rfl (fun ls hl => ?_)
    refine lv_aload_n hx hb dX12_settle__58 rfl (lv_at hl 1 rfl) ?_
    refine m_get B hW 14 (by decide) u_856 (v := .ref (G.2.2.2 14)) rfl dX12_settle__59 ?_
    refine lv_iload hx hb dX12_settle__62 (lv_at hl 0 rfl) ?_
    obtain ⟨hc, hq⟩ := chk_e hq
    refine m_zald B hW mA_14 hc dX12_settle__64 ?_
    refine lv_if_ne (tgt := 72) hx hb dX12_settle__65 (by decide) (fun hc => ?_) (fun hc => ?_)
    · replace hq := if_n hc hq
      refine lv_iconst (v := 0) hx hb dX12_settle__72 (by decide) ?_
      exact k_settle__73 B n M3 v2 v3 (M3 6 ((-2) - v1).toNatClampNeg) 0 hq _ _ ls hW (lv_sub hl [1, 3, 4, 0] rfl)
    · replace hq := if_y hc hq
      refine lv_iconst (v := 1) hx hb dX12_settle__68 (by decide) ?_
      refine lv_goto (tgt := 73) hx hb dX12_settle__69 (by decide) ?_
      exact k_settle__73 B n M3 v2 v3 (M3 6 ((-2) - v1).toNatClampNeg) 1 hq _ _ ls hW (lv_sub hl [1, 3, 4, 0] rfl)
  · replace hq := if_n hc hq
    refine lv_iconst (v := 0) hx hb dX12_settle__45 (by decide) ?_
    obtain ⟨hc, hq⟩ := chk_e hq
    exact m_zret B hW hc hq dX12_settle__46
set_option maxHeartbeats 4000000 in
set_option maxRecDepth 100000 in
theorem k_settle__17 {p : Program} {l : Launch} {e : Env} {s : State} {m : MethodId} {args : Array Value} {below : List Frame} {meth : Method} {c : Code} {D : va_G} {A : Nat → Prop} {G : MG} {r : Int32} {M' : MS} (B : mB p s m args meth c D G prog_14_method_37_code 6 (some .boolean) (Cond.code yX12_settle_ prog_14_method_37_code 6 (some .boolean))) :
    ∀ (n : Nat) (M : MS) (v1 v2 v3 : Int32), q_settle__17 n M v1 v2 v3 = some (r, M') → ∀ (H : Heap) (locs : List Loc) (ls : Array Slot), mOK D A G M s.heap H locs → lv_has ls 6 [(0, .ref G.2.2.1), (1, .int v1), (2, .int v2), (3, .int v3)] → W p l e (rM 3 71) s m args below meth c H locs 0 0 (MQ below (mQi D A G r M') args s 0 0 A) (F0 m 17 ls [.ref G.2.2.1]) := by
  have hx := B.1
  have hb := B.2.1
  intro n M v1 v2 v3 hq _ _ ls hW hl
  unfold q_settle__17 at hq
  refine lv_iconst (v := 1) hx hb dX12_settle__17 (by decide) ?_
  refine lv_goto (tgt := 35) hx hb dX12_settle__18 (by decide) ?_
  exact k_settle__35 B n M v1 v2 v3 1 hq _ _ ls hW (lv_sub hl [0, 1, 2, 3] rfl)
set_option maxHeartbeats 4000000 in
set_option maxRecDepth 100000 in
theorem c_settle_ {l : Launch} {D : va_G} {A : Nat → Prop} {G : MG} (n : Nat) (M : MS) (p1 p2 p3 : Int32) {r : Int32} {M' : MS} (hq : q_settle_ n M p1 p2 p3 = some (r, M')) : Met l yX12_settle_ (wM yX12_settle_ prog_14_method_37_code 6 (some .boolean)) (rM 3 71) (va_Pc [.ref G.2.2.1, .int p1, .int p2, .int p3] (mPre D A G M)) (mQi D A G r M') 0 0 A := by
  refine m_head (by decide) rfl (Nat.le_of_ble_eq_true rfl) ?_
  intro p e s m args below meth c ls B hW hl
  have hx := B.1
  have hb := B.2.1
  have hl : lv_has ls 6 [(0, .ref G.2.2.1), (1, .int p1), (2, .int p2), (3, .int p3)] := hl
  unfold q_settle_ at hq
  refine lv_aload_n hx hb dX12_settle__0 rfl (lv_at hl 0 rfl) ?_
  refine lv_aload_n hx hb dX12_settle__1 rfl (lv_at hl 0 rfl) ?_
  refine lv_iload_n hx hb dX12_settle__2 rfl (lv_at hl 1 rfl) ?_
  obtain ⟨r2, M1, hg, hq⟩ := bnd2_e hq
  refine m_calli (As := [.int p1]) (rest := [.ref G.2.2.1]) B hW hl.1 (c_isKept M p1 hg) mC_isKept rfl ⟨by decide, by decide⟩ rfl (Nat.le_of_ble_eq_true rfl) dX12_settle__3 (fun H locs hW => ?_)
  clear hg
  refine lv_if_eq (tgt := 17) hx hb dX12_settle__6 (by decide) (fun hc => ?_) (fun hc => ?_)
  · replace hq := if_y hc hq
    exact k_settle__17 B n M1 p1 p2 p3 hq _ _ ls hW (lv_sub hl [0, 1, 2, 3] rfl)
  · replace hq := if_n hc hq
    refine lv_aload_n hx hb dX12_settle__9 rfl (lv_at hl 0 rfl) ?_
    refine lv_iload_n hx hb dX12_settle__10 rfl (lv_at hl 3 rfl) ?_
    obtain ⟨r7, M6, hg, hq⟩ := bnd2_e hq
    refine m_calli (As := [.int p3]) (rest := [.ref G.2.2.1]) B hW hl.1 (c_isValue M1 p3 hg) mC_isValue rfl ⟨by decide, by decide⟩ rfl (Nat.le_of_ble_eq_true rfl) dX12_settle__11 (fun H locs hW => ?_)
    clear hg
    refine lv_if_ne (tgt := 21) hx hb dX12_settle__14 (by decide) (fun hc => ?_) (fun hc => ?_)
    · replace hq := if_n hc hq
      refine lv_aload_n hx hb dX12_settle__21 rfl (lv_at hl 0 rfl) ?_
      refine lv_bipush (v := 8) hx hb dX12_settle__22 (by decide) ?_
      obtain ⟨r9, M8, hg, hq⟩ := bnd2_e hq
      refine m_calli (As := [.int 8]) (rest := [.ref G.2.2.1]) B hW hl.1 (c_isFull M6 8 hg) mC_isFull rfl ⟨by decide, by decide⟩ rfl (Nat.le_of_ble_eq_true rfl) dX12_settle__24 (fun H locs hW => ?_)
      clear hg
      refine lv_if_eq (tgt := 34) hx hb dX12_settle__27 (by decide) (fun hc => ?_) (fun hc => ?_)
      · replace hq := if_y hc hq
        refine lv_iconst (v := 0) hx hb dX12_settle__34 (by decide) ?_
        exact k_settle__35 B n M8 p1 p2 p3 0 hq _ _ ls hW (lv_sub hl [0, 1, 2, 3] rfl)
      · replace hq := if_n hc hq
        refine lv_iconst (v := 2) hx hb dX12_settle__30 (by decide) ?_
        refine lv_goto (tgt := 35) hx hb dX12_settle__31 (by decide) ?_
        exact k_settle__35 B n M8 p1 p2 p3 2 hq _ _ ls hW (lv_sub hl [0, 1, 2, 3] rfl)
    · replace hq := if_y hc hq
      exact k_settle__17 B n M6 p1 p2 p3 hq _ _ ls hW (lv_sub hl [0, 1, 2, 3] rfl)
set_option maxHeartbeats 4000000 in
set_option maxRecDepth 100000 in
theorem k_later_99 {p : Program} {l : Launch} {e : Env} {s : State} {m : MethodId} {args : Array Value} {below : List Frame} {meth : Method} {c : Code} {D : va_G} {A : Nat → Prop} {G : MG} {r : Int32} {M' : MS} (B : mB p s m args meth c D G prog_14_method_38_code 6 (some .int) (Cond.code yX12_later prog_14_method_38_code 6 (some .int))) :
    ∀ (n : Nat) (M : MS) (v5 : Int32), q_later_99 n M v5 = some (r, M') → ∀ (H : Heap) (locs : List Loc) (ls : Array Slot), mOK D A G M s.heap H locs → lv_has ls 6 [(0, .ref G.2.2.1), (5, .int v5)] → W p l e (rM 3 71) s m args below meth c H locs 0 0 (MQ below (mQi D A G r M') args s 0 0 A) (F0 m 99 ls []) := by
  have hx := B.1
  have hb := B.2.1
  intro n M v5 hq _ _ ls hW hl
  unfold q_later_99 at hq
  refine lv_iload hx hb dX12_later_99 (lv_at hl 1 rfl) ?_
  refine lv_if_eq (tgt := 108) hx hb dX12_later_101 (by decide) (fun hc => ?_) (fun hc => ?_)
  · replace hq := if_y hc hq
    refine lv_iconst (v := 0) hx hb dX12_later_108 (by decide) ?_
    exact m_iret B hW hq dX12_later_109
  · replace hq := if_n hc hq
    refine lv_iconst (v := 1) hx hb dX12_later_104 (by decide) ?_
    refine lv_goto (tgt := 109) hx hb dX12_later_105 (by decide) ?_
    exact m_iret B hW hq dX12_later_109
set_option maxHeartbeats 4000000 in
set_option maxRecDepth 100000 in
theorem k_later_76 {p : Program} {l : Launch} {e : Env} {s : State} {m : MethodId} {args : Array Value} {below : List Frame} {meth : Method} {c : Code} {D : va_G} {A : Nat → Prop} {G : MG} {r : Int32} {M' : MS} (B : mB p s m args meth c D G prog_14_method_38_code 6 (some .int) (Cond.code yX12_later prog_14_method_38_code 6 (some .int))) :
    ∀ (n : Nat) (M : MS) (v2 v3 v4 z0 : Int32), q_later_76 n M v2 v3 v4 z0 = some (r, M') → ∀ (H : Heap) (locs : List Loc) (ls : Array Slot), mOK D A G M s.heap H locs → lv_has ls 6 [(0, .ref G.2.2.1), (2, .int v2), (3, .int v3), (4, .int v4)] → W p l e (rM 3 71) s m args below meth c H locs 0 0 (MQ below (mQi D A G r M') args s 0 0 A) (F0 m 76 ls [.int z0]) := by
  have hx := B.1
  have hb := B.2.1
  intro n M v2 v3 v4 z0 hq _ _ ls hW hl
  unfold q_later_76 at hq
  refine lv_istore (lv' := [(5, .int z0), (0, .ref G.2.2.1), (2, .int v2), (3, .int v3), (4, .int v4)]) hx hb dX12_later_76 hl (by decide) rfl (fun ls hl => ?_)
  refine lv_iload_n hx hb dX12_later_78 rfl (lv_at hl 2 rfl) ?_
  refine lv_if_eq (tgt := 92) hx hb dX12_later_79 (by decide) (fun hc => ?_) (fun hc => ?_)
  · replace hq := if_y hc hq
    refine lv_aload_n hx hb dX12_later_92 rfl (lv_at hl 1 rfl) ?_
    refine lv_iload hx hb dX12_later_93 (lv_at hl 4 rfl) ?_
    refine lv_iload_n hx hb dX12_later_95 rfl (lv_at hl 3 rfl) ?_
    obtain ⟨M10, hg, hq⟩ := bnd_e hq
    refine m_callv (As := [.int v4, .int v3]) (rest := []) B hW hl.1 (c_resolve n M v4 v3 hg) mC_resolve rfl ⟨by decide, by decide⟩ rfl (Nat.le_of_ble_eq_true rfl) dX12_later_96 (fun H locs hW => ?_)
    clear hg
    exact k_later_99 B n M10 z0 hq _ _ ls hW (lv_sub hl [1, 0] rfl)
  · replace hq := if_n hc hq
    refine lv_aload_n hx hb dX12_later_82 rfl (lv_at hl 1 rfl) ?_
    refine lv_iload hx hb dX12_later_83 (lv_at hl 4 rfl) ?_
    refine lv_iload_n hx hb dX12_later_85 rfl (lv_at hl 3 rfl) ?_
    obtain ⟨M11, hg, hq⟩ := bnd_e hq
    refine m_callv (As := [.int v4, .int v3]) (rest := []) B hW hl.1 (c_reject n M v4 v3 hg) mC_reject rfl ⟨by decide, by decide⟩ rfl (Nat.le_of_ble_eq_true rfl) dX12_later_86 (fun H locs hW => ?_)
    clear hg
    refine lv_goto (tgt := 99) hx hb dX12_later_89 (by decide) ?_
    exact k_later_99 B n M11 z0 hq _ _ ls hW (lv_sub hl [1, 0] rfl)
set_option maxHeartbeats 4000000 in
set_option maxRecDepth 100000 in
theorem c_later {l : Launch} {D : va_G} {A : Nat → Prop} {G : MG} (n : Nat) (M : MS) (p1 p2 p3 : Int32) {r : Int32} {M' : MS} (hq : q_later n M p1 p2 p3 = some (r, M')) : Met l yX12_later (wM yX12_later prog_14_method_38_code 6 (some .int)) (rM 3 71) (va_Pc [.ref G.2.2.1, .int p1, .int p2, .int p3] (mPre D A G M)) (mQi D A G r M') 0 0 A := by
  refine m_head (by decide) rfl (Nat.le_of_ble_eq_true rfl) ?_
  intro p e s m args below meth c ls B hW hl
  have hx := B.1
  have hb := B.2.1
  have hl : lv_has ls 6 [(0, .ref G.2.2.1), (1, .int p1), (2, .int p2), (3, .int p3)] := hl
  unfold q_later at hq
  refine lv_aload_n hx hb dX12_later_0 rfl (lv_at hl 0 rfl) ?_
  refine lv_iconst (v := 0) hx hb dX12_later_1 (by decide) ?_
  refine m_put B hW 0 (by decide) u_842 mS_0 rfl (ty := .int) (tyX12_ok 0 (by decide)) rfl rfl (Nat.le_of_ble_eq_true rfl) dX12_later_2 (fun H locs M1 eM hW => ?_)
  replace hq := lt9_u eM hq
  clear eM
  refine lv_aload_n hx hb dX12_later_5 rfl (lv_at hl 0 rfl) ?_
  refine lv_iload_n hx hb dX12_later_6 rfl (lv_at hl 1 rfl) ?_
  refine lv_iconst (v := 1) hx hb dX12_later_7 (by decide) ?_
  obtain ⟨r3, M2, hg, hq⟩ := bnd2_e hq
  refine m_calli (As := [.int p1, .int 1]) (rest := []) B hW hl.1 (c_isKind M1 p1 1 hg) mC_isKind rfl ⟨by decide, by decide⟩ rfl (Nat.le_of_ble_eq_true rfl) dX12_later_8 (fun H locs hW => ?_)
  clear hg
  refine lv_if_eq (tgt := 22) hx hb dX12_later_11 (by decide) (fun hc => ?_) (fun hc => ?_)
  · replace hq := if_y hc hq
    refine lv_aload_n hx hb dX12_later_22 rfl (lv_at hl 0 rfl) ?_
    refine lv_iconst (v := 1) hx hb dX12_later_23 (by decide) ?_
    obtain ⟨r5, M4, hg, hq⟩ := bnd2_e hq
    refine m_calli (As := [.int 1]) (rest := []) B hW hl.1 (c_fails M2 1 hg) mC_fails rfl ⟨by decide, by decide⟩ rfl (Nat.le_of_ble_eq_true rfl) dX12_later_24 (fun H locs hW => ?_)
    clear hg
    exact m_iret B hW hq dX12_later_27
  · replace hq := if_n hc hq
    refine lv_aload_n hx hb dX12_later_14 rfl (lv_at hl 0 rfl) ?_
    refine lv_iload_n hx hb dX12_later_15 rfl (lv_at hl 3 rfl) ?_
    obtain ⟨r7, M6, hg, hq⟩ := bnd2_e hq
    refine m_calli (As := [.int p3]) (rest := []) B hW hl.1 (c_isValue M2 p3 hg) mC_isValue rfl ⟨by decide, by decide⟩ rfl (Nat.le_of_ble_eq_true rfl) dX12_later_16 (fun H locs hW => ?_)
    clear hg
    refine lv_if_ne (tgt := 28) hx hb dX12_later_19 (by decide) (fun hc => ?_) (fun hc => ?_)
    · replace hq := if_n hc hq
      refine lv_aload_n hx hb dX12_later_28 rfl (lv_at hl 0 rfl) ?_
      refine lv_bipush (v := 8) hx hb dX12_later_29 (by decide) ?_
      obtain ⟨r9, M8, hg, hq⟩ := bnd2_e hq
      refine m_calli (As := [.int 8]) (rest := []) B hW hl.1 (c_isFull M6 8 hg) mC_isFull rfl ⟨by decide, by decide⟩ rfl (Nat.le_of_ble_eq_true rfl) dX12_later_31 (fun H locs hW => ?_)
      clear hg
      refine lv_if_eq (tgt := 43) hx hb dX12_later_34 (by decide) (fun hc => ?_) (fun hc => ?_)
      · replace hq := if_y hc hq
        refine lv_aload_n hx hb dX12_later_43 rfl (lv_at hl 0 rfl) ?_
        refine m_get B hW 6 (by decide) u_848 (v := .ref (G.2.2.2 6)) rfl dX12_later_44 ?_
        refine lv_bipush (v := (-2)) hx hb dX12_later_47 (by decide) ?_
        refine lv_iload_n hx hb dX12_later_49 rfl (lv_at hl 1 rfl) ?_
        refine lv_isub hx hb dX12_later_50 ?_
        obtain ⟨hc, hq⟩ := chk_e hq
        refine m_iald B hW mA_6 hc dX12_later_51 ?_
        refine lv_istore (lv' := [(4, .int (M8 6 ((-2) - p1).toNatClampNeg)), (0, .ref G.2.2.1), (1, .int p1), (2, .int p2), (3, .int p3)]) hx hb dX12_later_52 hl (by decide) rfl (fun ls hl => ?_)
        refine lv_iload hx hb dX12_later_54 (lv_at hl 0 rfl) ?_
        refine lv_if_ge (tgt := 61) hx hb dX12_later_56 (by decide) (fun hc => ?_) (fun hc => ?_)
        · replace hq := if_y hc hq
          refine lv_aload_n hx hb dX12_later_61 rfl (lv_at hl 1 rfl) ?_
          refine m_get B hW 14 (by decide) u_856 (v := .ref (G.2.2.2 14)) rfl dX12_later_62 ?_
          refine lv_iload hx hb dX12_later_65 (lv_at hl 0 rfl) ?_
          obtain ⟨hc, hq⟩ := chk_e hq
          refine m_zald B hW mA_14 hc dX12_later_67 ?_
          refine lv_if_ne (tgt := 75) hx hb dX12_later_68 (by decide) (fun hc => ?_) (fun hc => ?_)
          · replace hq := if_n hc hq
            refine lv_iconst (v := 0) hx hb dX12_later_75 (by decide) ?_
            exact k_later_76 B n M8 p2 p3 (M8 6 ((-2) - p1).toNatClampNeg) 0 hq _ _ ls hW (lv_sub hl [1, 3, 4, 0] rfl)
          · replace hq := if_y hc hq
            refine lv_iconst (v := 1) hx hb dX12_later_71 (by decide) ?_
            refine lv_goto (tgt := 76) hx hb dX12_later_72 (by decide) ?_
            exact k_later_76 B n M8 p2 p3 (M8 6 ((-2) - p1).toNatClampNeg) 1 hq _ _ ls hW (lv_sub hl [1, 3, 4, 0] rfl)
        · replace hq := if_n hc hq
          refine lv_iconst (v := (-1)) hx hb dX12_later_59 (by decide) ?_
          exact m_iret B hW hq dX12_later_60
      · replace hq := if_n hc hq
        refine lv_aload_n hx hb dX12_later_37 rfl (lv_at hl 0 rfl) ?_
        refine lv_iconst (v := 2) hx hb dX12_later_38 (by decide) ?_
        obtain ⟨r13, M12, hg, hq⟩ := bnd2_e hq
        refine m_calli (As := [.int 2]) (rest := []) B hW hl.1 (c_fails M8 2 hg) mC_fails rfl ⟨by decide, by decide⟩ rfl (Nat.le_of_ble_eq_true rfl) dX12_later_39 (fun H locs hW => ?_)
        clear hg
        exact m_iret B hW hq dX12_later_42
    · replace hq := if_y hc hq
      refine lv_aload_n hx hb dX12_later_22 rfl (lv_at hl 0 rfl) ?_
      refine lv_iconst (v := 1) hx hb dX12_later_23 (by decide) ?_
      obtain ⟨r15, M14, hg, hq⟩ := bnd2_e hq
      refine m_calli (As := [.int 1]) (rest := []) B hW hl.1 (c_fails M6 1 hg) mC_fails rfl ⟨by decide, by decide⟩ rfl (Nat.le_of_ble_eq_true rfl) dX12_later_24 (fun H locs hW => ?_)
      clear hg
      exact m_iret B hW hq dX12_later_27
set_option maxHeartbeats 4000000 in
set_option maxRecDepth 100000 in
theorem c_isHandler {l : Launch} {D : va_G} {A : Nat → Prop} {G : MG} (M : MS) (p1 : Int32) {r : Int32} {M' : MS} (hq : q_isHandler M p1 = some (r, M')) : Met l yX12_isHandler (wM yX12_isHandler prog_14_method_8_code 2 (some .boolean)) (rM 0 0) (va_Pc [.ref G.2.2.1, .int p1] (mPre D A G M)) (mQi D A G r M') 0 0 A := by
  refine m_head (by decide) rfl (Nat.le_of_ble_eq_true rfl) ?_
  intro p e s m args below meth c ls B hW hl
  have hx := B.1
  have hb := B.2.1
  have hl : lv_has ls 2 [(0, .ref G.2.2.1), (1, .int p1)] := hl
  unfold q_isHandler at hq
  refine lv_iload_n hx hb dX12_isHandler_0 rfl (lv_at hl 1 rfl) ?_
  refine lv_if_lt (tgt := 16) hx hb dX12_isHandler_1 (by decide) (fun hc => ?_) (fun hc => ?_)
  · replace hq := if_y hc hq
    refine lv_iconst (v := 0) hx hb dX12_isHandler_16 (by decide) ?_
    obtain ⟨hc, hq⟩ := chk_e hq
    exact m_zret B hW hc hq dX12_isHandler_17
  · replace hq := if_n hc hq
    refine lv_iload_n hx hb dX12_isHandler_4 rfl (lv_at hl 1 rfl) ?_
    refine lv_aload_n hx hb dX12_isHandler_5 rfl (lv_at hl 0 rfl) ?_
    refine m_get B hW 33 (by decide) u_875 (v := .int (M 33 0)) rfl dX12_isHandler_6 ?_
    refine lv_icmp_ge (tgt := 16) hx hb dX12_isHandler_9 (by decide) (fun hc => ?_) (fun hc => ?_)
    · replace hq := if_y hc hq
      refine lv_iconst (v := 0) hx hb dX12_isHandler_16 (by decide) ?_
      obtain ⟨hc, hq⟩ := chk_e hq
      exact m_zret B hW hc hq dX12_isHandler_17
    · replace hq := if_n hc hq
      refine lv_iconst (v := 1) hx hb dX12_isHandler_12 (by decide) ?_
      refine lv_goto (tgt := 17) hx hb dX12_isHandler_13 (by decide) ?_
      obtain ⟨hc, hq⟩ := chk_e hq
      exact m_zret B hW hc hq dX12_isHandler_17
theorem mC_isHandler : mC yX12_isHandler prog_14_method_8_code 2 (some .boolean) 266 1 := ⟨fun _ => g_V u_1083 u_1085 us_52 u_5 u_1086, by decide +kernel⟩
set_option maxHeartbeats 4000000 in
set_option maxRecDepth 100000 in
theorem k_performThen_125 {p : Program} {l : Launch} {e : Env} {s : State} {m : MethodId} {args : Array Value} {below : List Frame} {meth : Method} {c : Code} {D : va_G} {A : Nat → Prop} {G : MG} {M' : MS} (B : mB p s m args meth c D G prog_14_method_17_code 9 none (Cond.code yX12_performThen prog_14_method_17_code 9 none)) :
    ∀ (n : Nat) (M : MS) (v1 v7 v8 : Int32), q_performThen_125 n M v1 v7 v8 = some M' → ∀ (H : Heap) (locs : List Loc) (ls : Array Slot), mOK D A G M s.heap H locs → lv_has ls 9 [(0, .ref G.2.2.1), (1, .int v1), (7, .int v7), (8, .int v8)] → W p l e (rM 1 23) s m args below meth c H locs 0 0 (MQ below (mQv D A G M') args s 0 0 A) (F0 m 125 ls []) := by
  have hx := B.1
  have hb := B.2.1
  intro n
  induction n with
  | zero => intro M v1 v7 v8 hq; cases hq
  | succ n ih =>
    intro M v1 v7 v8 hq _ _ ls hW hl
    replace hq : (chk (inb v8 12000) (if (M 16 v8.toNatClampNeg) < 0 then chk (inb v8 12000) (lt9 (mput M 16 v8.toNatClampNeg v7) (fun M8 => chk (inb v1 3000) (chk (isB 1) (lt9 (mput M8 7 v1.toNatClampNeg 1) (fun M9 => some M9))))) else chk (inb v8 12000) (q_performThen_125 n M v1 v7 (M 16 v8.toNatClampNeg)))) = some M' := hq
    refine lv_aload_n hx hb dX12_performThen_125 rfl (lv_at hl 0 rfl) ?_
    refine m_get B hW 16 (by decide) u_858 (v := .ref (G.2.2.2 16)) rfl dX12_performThen_126 ?_
    refine lv_iload hx hb dX12_performThen_129 (lv_at hl 3 rfl) ?_
    obtain ⟨hc, hq⟩ := chk_e hq
    refine m_iald B hW mA_16 hc dX12_performThen_131 ?_
    refine lv_if_lt (tgt := 147) hx hb dX12_performThen_132 (by decide) (fun hc => ?_) (fun hc => ?_)
    · replace hq := if_y hc hq
      refine lv_aload_n hx hb dX12_performThen_147 rfl (lv_at hl 0 rfl) ?_
      refine m_get B hW 16 (by decide) u_858 (v := .ref (G.2.2.2 16)) rfl dX12_performThen_148 ?_
      refine lv_iload hx hb dX12_performThen_151 (lv_at hl 3 rfl) ?_
      refine lv_iload hx hb dX12_performThen_153 (lv_at hl 2 rfl) ?_
      obtain ⟨hc, hq⟩ := chk_e hq
      refine m_iast B hW mA_16 hc dX12_performThen_155 (fun H locs M8 eM hW => ?_)
      replace hq := lt9_u eM hq
      clear eM
      refine lv_aload_n hx hb dX12_performThen_156 rfl (lv_at hl 0 rfl) ?_
      refine m_get B hW 7 (by decide) u_849 (v := .ref (G.2.2.2 7)) rfl dX12_performThen_157 ?_
      refine lv_iload_n hx hb dX12_performThen_160 rfl (lv_at hl 1 rfl) ?_
      refine lv_iconst (v := 1) hx hb dX12_performThen_161 (by decide) ?_
      obtain ⟨hc, hq⟩ := chk_e hq
      obtain ⟨hc2, hq⟩ := chk_e hq
      refine m_zast B hW mA_7 hc2 hc dX12_performThen_162 (fun H locs M9 eM hW => ?_)
      replace hq := lt9_u eM hq
      clear eM
      exact m_vret B hW hq dX12_performThen_163
    · replace hq := if_n hc hq
      refine lv_aload_n hx hb dX12_performThen_135 rfl (lv_at hl 0 rfl) ?_
      refine m_get B hW 16 (by decide) u_858 (v := .ref (G.2.2.2 16)) rfl dX12_performThen_136 ?_
      refine lv_iload hx hb dX12_performThen_139 (lv_at hl 3 rfl) ?_
      obtain ⟨hc, hq⟩ := chk_e hq
      refine m_iald B hW mA_16 hc dX12_performThen_141 ?_
      refine lv_istore (lv' := [(8, .int (M 16 v8.toNatClampNeg)), (0, .ref G.2.2.1), (1, .int v1), (7, .int v7)]) hx hb dX12_performThen_142 hl (by decide) rfl (fun ls hl => ?_)
      refine lv_goto (tgt := 125) hx hb dX12_performThen_144 (by decide) ?_
      exact ih M v1 v7 (M 16 v8.toNatClampNeg) hq _ _ ls hW (lv_sub hl [1, 2, 3, 0] rfl)
set_option maxHeartbeats 4000000 in
set_option maxRecDepth 100000 in
theorem c_performThen {l : Launch} {D : va_G} {A : Nat → Prop} {G : MG} (n : Nat) (M : MS) (p1 p2 p3 p4 p5 p6 : Int32) {M' : MS} (hq : q_performThen n M p1 p2 p3 p4 p5 p6 = some M') : Met l yX12_performThen (wM yX12_performThen prog_14_method_17_code 9 none) (rM 1 23) (va_Pc [.ref G.2.2.1, .int p1, .int p2, .int p3, .int p4, .int p5, .int p6] (mPre D A G M)) (mQv D A G M') 0 0 A := by
  refine m_head (by decide) rfl (Nat.le_of_ble_eq_true rfl) ?_
  intro p e s m args below meth c ls B hW hl
  have hx := B.1
  have hb := B.2.1
  have hl : lv_has ls 9 [(0, .ref G.2.2.1), (1, .int p1), (2, .int p2), (3, .int p3), (4, .int p4), (5, .int p5), (6, .int p6)] := hl
  unfold q_performThen at hq
  refine lv_aload_n hx hb dX12_performThen_0 rfl (lv_at hl 0 rfl) ?_
  refine m_get B hW 22 (by decide) u_864 (v := .int (M 22 0)) rfl dX12_performThen_1 ?_
  refine lv_istore (lv' := [(7, .int (M 22 0)), (0, .ref G.2.2.1), (1, .int p1), (2, .int p2), (3, .int p3), (4, .int p4), (5, .int p5), (6, .int p6)]) hx hb dX12_performThen_4 hl (by decide) rfl (fun ls hl => ?_)
  refine lv_aload_n hx hb dX12_performThen_6 rfl (lv_at hl 1 rfl) ?_
  refine lv_dup hx hb dX12_performThen_7 rfl ?_
  refine m_get B hW 22 (by decide) u_864 (v := .int (M 22 0)) rfl dX12_performThen_8 ?_
  refine lv_iconst (v := 1) hx hb dX12_performThen_11 (by decide) ?_
  refine lv_iadd hx hb dX12_performThen_12 ?_
  refine m_put B hW 22 (by decide) u_864 mS_22 rfl (ty := .int) (tyX12_ok 22 (by decide)) rfl rfl (Nat.le_of_ble_eq_true rfl) dX12_performThen_13 (fun H locs M1 eM hW => ?_)
  replace hq := lt9_u eM hq
  clear eM
  refine lv_aload_n hx hb dX12_performThen_16 rfl (lv_at hl 1 rfl) ?_
  refine m_get B hW 16 (by decide) u_858 (v := .ref (G.2.2.2 16)) rfl dX12_performThen_17 ?_
  refine lv_iload hx hb dX12_performThen_20 (lv_at hl 0 rfl) ?_
  refine lv_iconst (v := (-1)) hx hb dX12_performThen_22 (by decide) ?_
  obtain ⟨hc, hq⟩ := chk_e hq
  refine m_iast B hW mA_16 hc dX12_performThen_23 (fun H locs M2 eM hW => ?_)
  replace hq := lt9_u eM hq
  clear eM
  refine lv_aload_n hx hb dX12_performThen_24 rfl (lv_at hl 1 rfl) ?_
  refine m_get B hW 17 (by decide) u_859 (v := .ref (G.2.2.2 17)) rfl dX12_performThen_25 ?_
  refine lv_iload hx hb dX12_performThen_28 (lv_at hl 0 rfl) ?_
  refine lv_iload hx hb dX12_performThen_30 (lv_at hl 7 rfl) ?_
  obtain ⟨hc, hq⟩ := chk_e hq
  refine m_iast B hW mA_17 hc dX12_performThen_32 (fun H locs M3 eM hW => ?_)
  replace hq := lt9_u eM hq
  clear eM
  refine lv_aload_n hx hb dX12_performThen_33 rfl (lv_at hl 1 rfl) ?_
  refine m_get B hW 18 (by decide) u_860 (v := .ref (G.2.2.2 18)) rfl dX12_performThen_34 ?_
  refine lv_iload hx hb dX12_performThen_37 (lv_at hl 0 rfl) ?_
  refine lv_iload_n hx hb dX12_performThen_39 rfl (lv_at hl 3 rfl) ?_
  obtain ⟨hc, hq⟩ := chk_e hq
  refine m_iast B hW mA_18 hc dX12_performThen_40 (fun H locs M4 eM hW => ?_)
  replace hq := lt9_u eM hq
  clear eM
  refine lv_aload_n hx hb dX12_performThen_41 rfl (lv_at hl 1 rfl) ?_
  refine m_get B hW 19 (by decide) u_861 (v := .ref (G.2.2.2 19)) rfl dX12_performThen_42 ?_
  refine lv_iload hx hb dX12_performThen_45 (lv_at hl 0 rfl) ?_
  refine lv_iload_n hx hb dX12_performThen_47 rfl (lv_at hl 4 rfl) ?_
  obtain ⟨hc, hq⟩ := chk_e hq
  refine m_iast B hW mA_19 hc dX12_performThen_48 (fun H locs M5 eM hW => ?_)
  replace hq := lt9_u eM hq
  clear eM
  refine lv_aload_n hx hb dX12_performThen_49 rfl (lv_at hl 1 rfl) ?_
  refine m_get B hW 20 (by decide) u_862 (v := .ref (G.2.2.2 20)) rfl dX12_performThen_50 ?_
  refine lv_iload hx hb dX12_performThen_53 (lv_at hl 0 rfl) ?_
  refine lv_iload hx hb dX12_performThen_55 (lv_at hl 5 rfl) ?_
  obtain ⟨hc, hq⟩ := chk_e hq
  refine m_iast B hW mA_20 hc dX12_performThen_57 (fun H locs M6 eM hW => ?_)
  replace hq := lt9_u eM hq
  clear eM
  refine lv_aload_n hx hb dX12_performThen_58 rfl (lv_at hl 1 rfl) ?_
  refine m_get B hW 21 (by decide) u_863 (v := .ref (G.2.2.2 21)) rfl dX12_performThen_59 ?_
  refine lv_iload hx hb dX12_performThen_62 (lv_at hl 0 rfl) ?_
  refine lv_iload hx hb dX12_performThen_64 (lv_at hl 6 rfl) ?_
  obtain ⟨hc, hq⟩ := chk_e hq
  refine m_iast B hW mA_21 hc dX12_performThen_66 (fun H locs M7 eM hW => ?_)
  replace hq := lt9_u eM hq
  clear eM
  refine lv_aload_n hx hb dX12_performThen_67 rfl (lv_at hl 1 rfl) ?_
  refine m_get B hW 3 (by decide) u_845 (v := .ref (G.2.2.2 3)) rfl dX12_performThen_68 ?_
  refine lv_iload_n hx hb dX12_performThen_71 rfl (lv_at hl 2 rfl) ?_
  obtain ⟨hc, hq⟩ := chk_e hq
  refine m_iald B hW mA_3 hc dX12_performThen_72 ?_
  refine lv_if_eq (tgt := 97) hx hb dX12_performThen_73 (by decide) (fun hc => ?_) (fun hc => ?_)
  · replace hq := if_y hc hq
    refine lv_aload_n hx hb dX12_performThen_97 rfl (lv_at hl 1 rfl) ?_
    refine m_get B hW 5 (by decide) u_847 (v := .ref (G.2.2.2 5)) rfl dX12_performThen_98 ?_
    refine lv_iload_n hx hb dX12_performThen_101 rfl (lv_at hl 2 rfl) ?_
    obtain ⟨hc, hq⟩ := chk_e hq
    refine m_iald B hW mA_5 hc dX12_performThen_102 ?_
    refine lv_if_ge (tgt := 117) hx hb dX12_performThen_103 (by decide) (fun hc => ?_) (fun hc => ?_)
    · replace hq := if_y hc hq
      refine lv_aload_n hx hb dX12_performThen_117 rfl (lv_at hl 1 rfl) ?_
      refine m_get B hW 5 (by decide) u_847 (v := .ref (G.2.2.2 5)) rfl dX12_performThen_118 ?_
      refine lv_iload_n hx hb dX12_performThen_121 rfl (lv_at hl 2 rfl) ?_
      obtain ⟨hc, hq⟩ := chk_e hq
      refine m_iald B hW mA_5 hc dX12_performThen_122 ?_
      refine lv_istore (lv' := [(8, .int (M7 5 p1.toNatClampNeg)), (7, .int (M 22 0)), (0, .ref G.2.2.1), (1, .int p1), (2, .int p2), (3, .int p3), (4, .int p4), (5, .int p5), (6, .int p6)]) hx hb dX12_performThen_123 hl (by decide) rfl (fun ls hl => ?_)
      exact k_performThen_125 B n M7 p1 (M 22 0) (M7 5 p1.toNatClampNeg) hq _ _ ls hW (lv_sub hl [2, 3, 1, 0] rfl)
    · replace hq := if_n hc hq
      refine lv_aload_n hx hb dX12_performThen_106 rfl (lv_at hl 1 rfl) ?_
      refine m_get B hW 5 (by decide) u_847 (v := .ref (G.2.2.2 5)) rfl dX12_performThen_107 ?_
      refine lv_iload_n hx hb dX12_performThen_110 rfl (lv_at hl 2 rfl) ?_
      refine lv_iload hx hb dX12_performThen_111 (lv_at hl 0 rfl) ?_
      obtain ⟨hc, hq⟩ := chk_e hq
      refine m_iast B hW mA_5 hc dX12_performThen_113 (fun H locs M10 eM hW => ?_)
      replace hq := lt9_u eM hq
      clear eM
      refine lv_goto (tgt := 156) hx hb dX12_performThen_114 (by decide) ?_
      refine lv_aload_n hx hb dX12_performThen_156 rfl (lv_at hl 1 rfl) ?_
      refine m_get B hW 7 (by decide) u_849 (v := .ref (G.2.2.2 7)) rfl dX12_performThen_157 ?_
      refine lv_iload_n hx hb dX12_performThen_160 rfl (lv_at hl 2 rfl) ?_
      refine lv_iconst (v := 1) hx hb dX12_performThen_161 (by decide) ?_
      obtain ⟨hc, hq⟩ := chk_e hq
      obtain ⟨hc2, hq⟩ := chk_e hq
      refine m_zast B hW mA_7 hc2 hc dX12_performThen_162 (fun H locs M11 eM hW => ?_)
      replace hq := lt9_u eM hq
      clear eM
      exact m_vret B hW hq dX12_performThen_163
  · replace hq := if_n hc hq
    refine lv_aload_n hx hb dX12_performThen_76 rfl (lv_at hl 1 rfl) ?_
    refine lv_iload hx hb dX12_performThen_77 (lv_at hl 0 rfl) ?_
    refine lv_aload_n hx hb dX12_performThen_79 rfl (lv_at hl 1 rfl) ?_
    refine m_get B hW 3 (by decide) u_845 (v := .ref (G.2.2.2 3)) rfl dX12_performThen_80 ?_
    refine lv_iload_n hx hb dX12_performThen_83 rfl (lv_at hl 2 rfl) ?_
    obtain ⟨hc, hq⟩ := chk_e hq
    refine m_iald B hW mA_3 hc dX12_performThen_84 ?_
    refine lv_aload_n hx hb dX12_performThen_85 rfl (lv_at hl 1 rfl) ?_
    refine m_get B hW 4 (by decide) u_846 (v := .ref (G.2.2.2 4)) rfl dX12_performThen_86 ?_
    refine lv_iload_n hx hb dX12_performThen_89 rfl (lv_at hl 2 rfl) ?_
    obtain ⟨hc, hq⟩ := chk_e hq
    refine m_iald B hW mA_4 hc dX12_performThen_90 ?_
    obtain ⟨M12, hg, hq⟩ := bnd_e hq
    refine m_callv (As := [.int (M 22 0), .int (M7 3 p1.toNatClampNeg), .int (M7 4 p1.toNatClampNeg)]) (rest := []) B hW hl.1 (c_react M7 (M 22 0) (M7 3 p1.toNatClampNeg) (M7 4 p1.toNatClampNeg) hg) mC_react rfl ⟨by decide, by decide⟩ rfl (Nat.le_of_ble_eq_true rfl) dX12_performThen_91 (fun H locs hW => ?_)
    clear hg
    refine lv_goto (tgt := 156) hx hb dX12_performThen_94 (by decide) ?_
    refine lv_aload_n hx hb dX12_performThen_156 rfl (lv_at hl 1 rfl) ?_
    refine m_get B hW 7 (by decide) u_849 (v := .ref (G.2.2.2 7)) rfl dX12_performThen_157 ?_
    refine lv_iload_n hx hb dX12_performThen_160 rfl (lv_at hl 2 rfl) ?_
    refine lv_iconst (v := 1) hx hb dX12_performThen_161 (by decide) ?_
    obtain ⟨hc, hq⟩ := chk_e hq
    obtain ⟨hc2, hq⟩ := chk_e hq
    refine m_zast B hW mA_7 hc2 hc dX12_performThen_162 (fun H locs M13 eM hW => ?_)
    replace hq := lt9_u eM hq
    clear eM
    exact m_vret B hW hq dX12_performThen_163
theorem mC_performThen : mC yX12_performThen prog_14_method_17_code 9 none 175 6 := ⟨fun _ => g_V u_1091 u_1093 us_54 u_5 u_1094, by decide +kernel⟩
set_option maxHeartbeats 4000000 in
set_option maxRecDepth 100000 in
theorem c_then {l : Launch} {D : va_G} {A : Nat → Prop} {G : MG} (n : Nat) (M : MS) (p1 p2 p3 p4 p5 : Int32) {r : Int32} {M' : MS} (hq : q_then n M p1 p2 p3 p4 p5 = some (r, M')) : Met l yX12_then (wM yX12_then prog_14_method_18_code 7 (some .int)) (rM 2 51) (va_Pc [.ref G.2.2.1, .int p1, .int p2, .int p3, .int p4, .int p5] (mPre D A G M)) (mQi D A G r M') 0 0 A := by
  refine m_head (by decide) rfl (Nat.le_of_ble_eq_true rfl) ?_
  intro p e s m args below meth c ls B hW hl
  have hx := B.1
  have hb := B.2.1
  have hl : lv_has ls 7 [(0, .ref G.2.2.1), (1, .int p1), (2, .int p2), (3, .int p3), (4, .int p4), (5, .int p5)] := hl
  unfold q_then at hq
  refine lv_aload_n hx hb dX12_then_0 rfl (lv_at hl 0 rfl) ?_
  obtain ⟨r2, M1, hg, hq⟩ := bnd2_e hq
  refine m_calli (As := []) (rest := []) B hW hl.1 (c_capability M hg) mC_capability rfl ⟨by decide, by decide⟩ rfl (Nat.le_of_ble_eq_true rfl) dX12_then_1 (fun H locs hW => ?_)
  clear hg
  refine lv_istore (lv' := [(6, .int r2), (0, .ref G.2.2.1), (1, .int p1), (2, .int p2), (3, .int p3), (4, .int p4), (5, .int p5)]) hx hb dX12_then_4 hl (by decide) rfl (fun ls hl => ?_)
  refine lv_aload_n hx hb dX12_then_6 rfl (lv_at hl 1 rfl) ?_
  refine lv_iload_n hx hb dX12_then_7 rfl (lv_at hl 2 rfl) ?_
  refine lv_iload_n hx hb dX12_then_8 rfl (lv_at hl 3 rfl) ?_
  refine lv_iload_n hx hb dX12_then_9 rfl (lv_at hl 4 rfl) ?_
  refine lv_iload hx hb dX12_then_10 (lv_at hl 5 rfl) ?_
  refine lv_iload hx hb dX12_then_12 (lv_at hl 6 rfl) ?_
  refine lv_iload hx hb dX12_then_14 (lv_at hl 0 rfl) ?_
  obtain ⟨M3, hg, hq⟩ := bnd_e hq
  refine m_callv (As := [.int p1, .int p2, .int p3, .int p4, .int p5, .int r2]) (rest := []) B hW hl.1 (c_performThen n M1 p1 p2 p3 p4 p5 r2 hg) mC_performThen rfl ⟨by decide, by decide⟩ rfl (Nat.le_of_ble_eq_true rfl) dX12_then_16 (fun H locs hW => ?_)
  clear hg
  refine lv_aload_n hx hb dX12_then_19 rfl (lv_at hl 1 rfl) ?_
  refine m_get B hW 13 (by decide) u_855 (v := .ref (G.2.2.2 13)) rfl dX12_then_20 ?_
  refine lv_iload hx hb dX12_then_23 (lv_at hl 0 rfl) ?_
  obtain ⟨hc, hq⟩ := chk_e hq
  refine m_iald B hW mA_13 hc dX12_then_25 ?_
  exact m_iret B hW hq dX12_then_26
theorem mC_then : mC yX12_then prog_14_method_18_code 7 (some .int) 220 5 := ⟨fun _ => g_V u_1087 u_1089 us_53 u_5 u_1090, by decide +kernel⟩
set_option maxHeartbeats 4000000 in
set_option maxRecDepth 100000 in
theorem k_then__98 {p : Program} {l : Launch} {e : Env} {s : State} {m : MethodId} {args : Array Value} {below : List Frame} {meth : Method} {c : Code} {D : va_G} {A : Nat → Prop} {G : MG} {r : Int32} {M' : MS} (B : mB p s m args meth c D G prog_14_method_39_code 6 (some .int) (Cond.code yX12_then_ prog_14_method_39_code 6 (some .int))) :
    ∀ (n : Nat) (M : MS) (v2 v3 v5 z0 z1 : Int32), q_then__98 n M v2 v3 v5 z0 z1 = some (r, M') → ∀ (H : Heap) (locs : List Loc) (ls : Array Slot), mOK D A G M s.heap H locs → lv_has ls 6 [(0, .ref G.2.2.1), (2, .int v2), (3, .int v3), (5, .int v5)] → W p l e (rM 3 77) s m args below meth c H locs 0 0 (MQ below (mQi D A G r M') args s 0 0 A) (F0 m 98 ls [.int z0, .int z1, .ref G.2.2.1]) := by
  have hx := B.1
  have hb := B.2.1
  intro n M v2 v3 v5 z0 z1 hq _ _ ls hW hl
  unfold q_then__98 at hq
  refine lv_iload_n hx hb dX12_then__98 rfl (lv_at hl 1 rfl) ?_
  refine lv_iload hx hb dX12_then__99 (lv_at hl 3 rfl) ?_
  refine lv_if_eq (tgt := 108) hx hb dX12_then__101 (by decide) (fun hc => ?_) (fun hc => ?_)
  · replace hq := if_y hc hq
    refine lv_iconst (v := 0) hx hb dX12_then__108 (by decide) ?_
    refine lv_iload_n hx hb dX12_then__109 rfl (lv_at hl 2 rfl) ?_
    obtain ⟨r9, M8, hg, hq⟩ := bnd2_e hq
    refine m_calli (As := [.int z1, .int z0, .int v2, .int 0, .int v3]) (rest := []) B hW hl.1 (c_then n M z1 z0 v2 0 v3 hg) mC_then rfl ⟨by decide, by decide⟩ rfl (Nat.le_of_ble_eq_true rfl) dX12_then__110 (fun H locs hW => ?_)
    clear hg
    refine m_valueOf (rest := []) B hW hl.1 ⟨by decide, by decide⟩ (Nat.le_of_ble_eq_true rfl) dX12_then__113 (fun H locs hW => ?_)
    exact m_iret B hW hq dX12_then__116
  · replace hq := if_n hc hq
    refine lv_iconst (v := 1) hx hb dX12_then__104 (by decide) ?_
    refine lv_goto (tgt := 109) hx hb dX12_then__105 (by decide) ?_
    refine lv_iload_n hx hb dX12_then__109 rfl (lv_at hl 2 rfl) ?_
    obtain ⟨r11, M10, hg, hq⟩ := bnd2_e hq
    refine m_calli (As := [.int z1, .int z0, .int v2, .int 1, .int v3]) (rest := []) B hW hl.1 (c_then n M z1 z0 v2 1 v3 hg) mC_then rfl ⟨by decide, by decide⟩ rfl (Nat.le_of_ble_eq_true rfl) dX12_then__110 (fun H locs hW => ?_)
    clear hg
    refine m_valueOf (rest := []) B hW hl.1 ⟨by decide, by decide⟩ (Nat.le_of_ble_eq_true rfl) dX12_then__113 (fun H locs hW => ?_)
    exact m_iret B hW hq dX12_then__116
set_option maxHeartbeats 4000000 in
set_option maxRecDepth 100000 in
theorem k_then__81 {p : Program} {l : Launch} {e : Env} {s : State} {m : MethodId} {args : Array Value} {below : List Frame} {meth : Method} {c : Code} {D : va_G} {A : Nat → Prop} {G : MG} {r : Int32} {M' : MS} (B : mB p s m args meth c D G prog_14_method_39_code 6 (some .int) (Cond.code yX12_then_ prog_14_method_39_code 6 (some .int))) :
    ∀ (n : Nat) (M : MS) (v1 v2 v3 z0 : Int32), q_then__81 n M v1 v2 v3 z0 = some (r, M') → ∀ (H : Heap) (locs : List Loc) (ls : Array Slot), mOK D A G M s.heap H locs → lv_has ls 6 [(0, .ref G.2.2.1), (1, .int v1), (2, .int v2), (3, .int v3)] → W p l e (rM 3 77) s m args below meth c H locs 0 0 (MQ below (mQi D A G r M') args s 0 0 A) (F0 m 81 ls [.int z0]) := by
  have hx := B.1
  have hb := B.2.1
  intro n M v1 v2 v3 z0 hq _ _ ls hW hl
  unfold q_then__81 at hq
  refine lv_istore (lv' := [(5, .int z0), (0, .ref G.2.2.1), (1, .int v1), (2, .int v2), (3, .int v3)]) hx hb dX12_then__81 hl (by decide) rfl (fun ls hl => ?_)
  refine lv_aload_n hx hb dX12_then__83 rfl (lv_at hl 1 rfl) ?_
  refine lv_bipush (v := (-2)) hx hb dX12_then__84 (by decide) ?_
  refine lv_iload_n hx hb dX12_then__86 rfl (lv_at hl 2 rfl) ?_
  refine lv_isub hx hb dX12_then__87 ?_
  refine lv_iload_n hx hb dX12_then__88 rfl (lv_at hl 3 rfl) ?_
  refine lv_iconst (v := (-1)) hx hb dX12_then__89 (by decide) ?_
  refine lv_icmp_ne (tgt := 97) hx hb dX12_then__90 (by decide) (fun hc => ?_) (fun hc => ?_)
  · replace hq := if_n hc hq
    refine lv_iconst (v := 1) hx hb dX12_then__97 (by decide) ?_
    exact k_then__98 B n M v2 v3 z0 1 ((-2) - v1) hq _ _ ls hW (lv_sub hl [1, 3, 4, 0] rfl)
  · replace hq := if_y hc hq
    refine lv_iconst (v := 0) hx hb dX12_then__93 (by decide) ?_
    refine lv_goto (tgt := 98) hx hb dX12_then__94 (by decide) ?_
    exact k_then__98 B n M v2 v3 z0 0 ((-2) - v1) hq _ _ ls hW (lv_sub hl [1, 3, 4, 0] rfl)
set_option maxHeartbeats 4000000 in
set_option maxRecDepth 100000 in
theorem k_then__80 {p : Program} {l : Launch} {e : Env} {s : State} {m : MethodId} {args : Array Value} {below : List Frame} {meth : Method} {c : Code} {D : va_G} {A : Nat → Prop} {G : MG} {r : Int32} {M' : MS} (B : mB p s m args meth c D G prog_14_method_39_code 6 (some .int) (Cond.code yX12_then_ prog_14_method_39_code 6 (some .int))) :
    ∀ (n : Nat) (M : MS) (v1 v2 v3 : Int32), q_then__80 n M v1 v2 v3 = some (r, M') → ∀ (H : Heap) (locs : List Loc) (ls : Array Slot), mOK D A G M s.heap H locs → lv_has ls 6 [(0, .ref G.2.2.1), (1, .int v1), (2, .int v2), (3, .int v3)] → W p l e (rM 3 77) s m args below meth c H locs 0 0 (MQ below (mQi D A G r M') args s 0 0 A) (F0 m 80 ls []) := by
  have hx := B.1
  have hb := B.2.1
  intro n M v1 v2 v3 hq _ _ ls hW hl
  unfold q_then__80 at hq
  refine lv_iconst (v := 0) hx hb dX12_then__80 (by decide) ?_
  exact k_then__81 B n M v1 v2 v3 0 hq _ _ ls hW (lv_sub hl [0, 1, 2, 3] rfl)
set_option maxHeartbeats 4000000 in
set_option maxRecDepth 100000 in
theorem k_then__51 {p : Program} {l : Launch} {e : Env} {s : State} {m : MethodId} {args : Array Value} {below : List Frame} {meth : Method} {c : Code} {D : va_G} {A : Nat → Prop} {G : MG} {r : Int32} {M' : MS} (B : mB p s m args meth c D G prog_14_method_39_code 6 (some .int) (Cond.code yX12_then_ prog_14_method_39_code 6 (some .int))) :
    ∀ (n : Nat) (M : MS) (v1 v2 v3 v4 : Int32), q_then__51 n M v1 v2 v3 v4 = some (r, M') → ∀ (H : Heap) (locs : List Loc) (ls : Array Slot), mOK D A G M s.heap H locs → lv_has ls 6 [(0, .ref G.2.2.1), (1, .int v1), (2, .int v2), (3, .int v3), (4, .int v4)] → W p l e (rM 3 77) s m args below meth c H locs 0 0 (MQ below (mQi D A G r M') args s 0 0 A) (F0 m 51 ls []) := by
  have hx := B.1
  have hb := B.2.1
  intro n M v1 v2 v3 v4 hq _ _ ls hW hl
  unfold q_then__51 at hq
  refine lv_aload_n hx hb dX12_then__51 rfl (lv_at hl 0 rfl) ?_
  refine lv_bipush (v := 8) hx hb dX12_then__52 (by decide) ?_
  obtain ⟨r7, M6, hg, hq⟩ := bnd2_e hq
  refine m_calli (As := [.int 8]) (rest := []) B hW hl.1 (c_isFull M 8 hg) mC_isFull rfl ⟨by decide, by decide⟩ rfl (Nat.le_of_ble_eq_true rfl) dX12_then__54 (fun H locs hW => ?_)
  clear hg
  refine lv_if_eq (tgt := 66) hx hb dX12_then__57 (by decide) (fun hc => ?_) (fun hc => ?_)
  · replace hq := if_y hc hq
    refine lv_iload hx hb dX12_then__66 (lv_at hl 4 rfl) ?_
    refine lv_if_eq (tgt := 80) hx hb dX12_then__68 (by decide) (fun hc => ?_) (fun hc => ?_)
    · replace hq := if_y hc hq
      exact k_then__80 B n M6 v1 v2 v3 hq _ _ ls hW (lv_sub hl [0, 1, 2, 3] rfl)
    · replace hq := if_n hc hq
      refine lv_iload_n hx hb dX12_then__71 rfl (lv_at hl 3 rfl) ?_
      refine lv_iconst (v := (-1)) hx hb dX12_then__72 (by decide) ?_
      refine lv_icmp_eq (tgt := 80) hx hb dX12_then__73 (by decide) (fun hc => ?_) (fun hc => ?_)
      · replace hq := if_y hc hq
        exact k_then__80 B n M6 v1 v2 v3 hq _ _ ls hW (lv_sub hl [0, 1, 2, 3] rfl)
      · replace hq := if_n hc hq
        refine lv_iconst (v := 1) hx hb dX12_then__76 (by decide) ?_
        refine lv_goto (tgt := 81) hx hb dX12_then__77 (by decide) ?_
        exact k_then__81 B n M6 v1 v2 v3 1 hq _ _ ls hW (lv_sub hl [0, 1, 2, 3] rfl)
  · replace hq := if_n hc hq
    refine lv_aload_n hx hb dX12_then__60 rfl (lv_at hl 0 rfl) ?_
    refine lv_iconst (v := 2) hx hb dX12_then__61 (by decide) ?_
    obtain ⟨r13, M12, hg, hq⟩ := bnd2_e hq
    refine m_calli (As := [.int 2]) (rest := []) B hW hl.1 (c_fails M6 2 hg) mC_fails rfl ⟨by decide, by decide⟩ rfl (Nat.le_of_ble_eq_true rfl) dX12_then__62 (fun H locs hW => ?_)
    clear hg
    exact m_iret B hW hq dX12_then__65
set_option maxHeartbeats 4000000 in
set_option maxRecDepth 100000 in
theorem k_then__27 {p : Program} {l : Launch} {e : Env} {s : State} {m : MethodId} {args : Array Value} {below : List Frame} {meth : Method} {c : Code} {D : va_G} {A : Nat → Prop} {G : MG} {r : Int32} {M' : MS} (B : mB p s m args meth c D G prog_14_method_39_code 6 (some .int) (Cond.code yX12_then_ prog_14_method_39_code 6 (some .int))) :
    ∀ (n : Nat) (M : MS) (v1 v2 v3 v4 : Int32), q_then__27 n M v1 v2 v3 v4 = some (r, M') → ∀ (H : Heap) (locs : List Loc) (ls : Array Slot), mOK D A G M s.heap H locs → lv_has ls 6 [(0, .ref G.2.2.1), (1, .int v1), (2, .int v2), (3, .int v3), (4, .int v4)] → W p l e (rM 3 77) s m args below meth c H locs 0 0 (MQ below (mQi D A G r M') args s 0 0 A) (F0 m 27 ls []) := by
  have hx := B.1
  have hb := B.2.1
  intro n M v1 v2 v3 v4 hq _ _ ls hW hl
  unfold q_then__27 at hq
  refine lv_iload hx hb dX12_then__27 (lv_at hl 4 rfl) ?_
  refine lv_if_eq (tgt := 51) hx hb dX12_then__29 (by decide) (fun hc => ?_) (fun hc => ?_)
  · replace hq := if_y hc hq
    exact k_then__51 B n M v1 v2 v3 v4 hq _ _ ls hW (lv_sub hl [0, 1, 2, 3, 4] rfl)
  · replace hq := if_n hc hq
    refine lv_iload_n hx hb dX12_then__32 rfl (lv_at hl 3 rfl) ?_
    refine lv_iconst (v := (-1)) hx hb dX12_then__33 (by decide) ?_
    refine lv_icmp_eq (tgt := 51) hx hb dX12_then__34 (by decide) (fun hc => ?_) (fun hc => ?_)
    · replace hq := if_y hc hq
      exact k_then__51 B n M v1 v2 v3 v4 hq _ _ ls hW (lv_sub hl [0, 1, 2, 3, 4] rfl)
    · replace hq := if_n hc hq
      refine lv_aload_n hx hb dX12_then__37 rfl (lv_at hl 0 rfl) ?_
      refine lv_iload_n hx hb dX12_then__38 rfl (lv_at hl 3 rfl) ?_
      obtain ⟨r15, M14, hg, hq⟩ := bnd2_e hq
      refine m_calli (As := [.int v3]) (rest := []) B hW hl.1 (c_isHandler M v3 hg) mC_isHandler rfl ⟨by decide, by decide⟩ rfl (Nat.le_of_ble_eq_true rfl) dX12_then__39 (fun H locs hW => ?_)
      clear hg
      refine lv_if_ne (tgt := 51) hx hb dX12_then__42 (by decide) (fun hc => ?_) (fun hc => ?_)
      · replace hq := if_n hc hq
        exact k_then__51 B n M14 v1 v2 v3 v4 hq _ _ ls hW (lv_sub hl [0, 1, 2, 3, 4] rfl)
      · replace hq := if_y hc hq
        refine lv_aload_n hx hb dX12_then__45 rfl (lv_at hl 0 rfl) ?_
        refine lv_iconst (v := 1) hx hb dX12_then__46 (by decide) ?_
        obtain ⟨r17, M16, hg, hq⟩ := bnd2_e hq
        refine m_calli (As := [.int 1]) (rest := []) B hW hl.1 (c_fails M14 1 hg) mC_fails rfl ⟨by decide, by decide⟩ rfl (Nat.le_of_ble_eq_true rfl) dX12_then__47 (fun H locs hW => ?_)
        clear hg
        exact m_iret B hW hq dX12_then__50
set_option maxHeartbeats 4000000 in
set_option maxRecDepth 100000 in
theorem c_then_ {l : Launch} {D : va_G} {A : Nat → Prop} {G : MG} (n : Nat) (M : MS) (p1 p2 p3 p4 : Int32) {r : Int32} {M' : MS} (hq : q_then_ n M p1 p2 p3 p4 = some (r, M')) : Met l yX12_then_ (wM yX12_then_ prog_14_method_39_code 6 (some .int)) (rM 3 77) (va_Pc [.ref G.2.2.1, .int p1, .int p2, .int p3, .int p4] (mPre D A G M)) (mQi D A G r M') 0 0 A := by
  refine m_head (by decide) rfl (Nat.le_of_ble_eq_true rfl) ?_
  intro p e s m args below meth c ls B hW hl
  have hx := B.1
  have hb := B.2.1
  have hl : lv_has ls 6 [(0, .ref G.2.2.1), (1, .int p1), (2, .int p2), (3, .int p3), (4, .int p4)] := hl
  unfold q_then_ at hq
  refine lv_aload_n hx hb dX12_then__0 rfl (lv_at hl 0 rfl) ?_
  refine lv_iconst (v := 0) hx hb dX12_then__1 (by decide) ?_
  refine m_put B hW 0 (by decide) u_842 mS_0 rfl (ty := .int) (tyX12_ok 0 (by decide)) rfl rfl (Nat.le_of_ble_eq_true rfl) dX12_then__2 (fun H locs M1 eM hW => ?_)
  replace hq := lt9_u eM hq
  clear eM
  refine lv_aload_n hx hb dX12_then__5 rfl (lv_at hl 0 rfl) ?_
  refine lv_iload_n hx hb dX12_then__6 rfl (lv_at hl 1 rfl) ?_
  refine lv_iconst (v := 0) hx hb dX12_then__7 (by decide) ?_
  obtain ⟨r3, M2, hg, hq⟩ := bnd2_e hq
  refine m_calli (As := [.int p1, .int 0]) (rest := []) B hW hl.1 (c_isKind M1 p1 0 hg) mC_isKind rfl ⟨by decide, by decide⟩ rfl (Nat.le_of_ble_eq_true rfl) dX12_then__8 (fun H locs hW => ?_)
  clear hg
  refine lv_if_eq (tgt := 45) hx hb dX12_then__11 (by decide) (fun hc => ?_) (fun hc => ?_)
  · replace hq := if_y hc hq
    refine lv_aload_n hx hb dX12_then__45 rfl (lv_at hl 0 rfl) ?_
    refine lv_iconst (v := 1) hx hb dX12_then__46 (by decide) ?_
    obtain ⟨r5, M4, hg, hq⟩ := bnd2_e hq
    refine m_calli (As := [.int 1]) (rest := []) B hW hl.1 (c_fails M2 1 hg) mC_fails rfl ⟨by decide, by decide⟩ rfl (Nat.le_of_ble_eq_true rfl) dX12_then__47 (fun H locs hW => ?_)
    clear hg
    exact m_iret B hW hq dX12_then__50
  · replace hq := if_n hc hq
    refine lv_iload_n hx hb dX12_then__14 rfl (lv_at hl 2 rfl) ?_
    refine lv_iconst (v := (-1)) hx hb dX12_then__15 (by decide) ?_
    refine lv_icmp_eq (tgt := 27) hx hb dX12_then__16 (by decide) (fun hc => ?_) (fun hc => ?_)
    · replace hq := if_y hc hq
      exact k_then__27 B n M2 p1 p2 p3 p4 hq _ _ ls hW (lv_sub hl [0, 1, 2, 3, 4] rfl)
    · replace hq := if_n hc hq
      refine lv_aload_n hx hb dX12_then__19 rfl (lv_at hl 0 rfl) ?_
      refine lv_iload_n hx hb dX12_then__20 rfl (lv_at hl 2 rfl) ?_
      obtain ⟨r19, M18, hg, hq⟩ := bnd2_e hq
      refine m_calli (As := [.int p2]) (rest := []) B hW hl.1 (c_isHandler M2 p2 hg) mC_isHandler rfl ⟨by decide, by decide⟩ rfl (Nat.le_of_ble_eq_true rfl) dX12_then__21 (fun H locs hW => ?_)
      clear hg
      refine lv_if_eq (tgt := 45) hx hb dX12_then__24 (by decide) (fun hc => ?_) (fun hc => ?_)
      · replace hq := if_y hc hq
        refine lv_aload_n hx hb dX12_then__45 rfl (lv_at hl 0 rfl) ?_
        refine lv_iconst (v := 1) hx hb dX12_then__46 (by decide) ?_
        obtain ⟨r21, M20, hg, hq⟩ := bnd2_e hq
        refine m_calli (As := [.int 1]) (rest := []) B hW hl.1 (c_fails M18 1 hg) mC_fails rfl ⟨by decide, by decide⟩ rfl (Nat.le_of_ble_eq_true rfl) dX12_then__47 (fun H locs hW => ?_)
        clear hg
        exact m_iret B hW hq dX12_then__50
      · replace hq := if_n hc hq
        exact k_then__27 B n M18 p1 p2 p3 p4 hq _ _ ls hW (lv_sub hl [0, 1, 2, 3, 4] rfl)
