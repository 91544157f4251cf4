theorem c_valueOf {l : Launch} {D : va_G} {A : Nat → Prop} {G : MG} (M : MS) (p1 : Int32) : Met l yX12_valueOf (wM yX12_valueOf cX12_valueOf 1 (some .int)) (rM 0 0) (va_Pc [.int p1] (mPre D A G M)) (mQi D A G (-2 - p1) M) 0 0 A := by
  refine m_head (by decide) rfl (Nat.le_of_ble_eq_true rfl) ?_
  intro p e s m args below meth c ls B hW hl
  have hx := B.1
  have hb := B.2.1
  have hl : lv_has ls 1 [(0, .int p1)] := hl
  refine lv_bipush (v := (-2)) hx hb dX12_valueOf_0 (by decide) ?_
  refine lv_iload_n hx hb dX12_valueOf_2 rfl (lv_at hl 0 rfl) ?_
  refine lv_isub hx hb dX12_valueOf_3 ?_
  exact m_iret B hW rfl dX12_valueOf_4
theorem m_valueOf {p : Program} {l : Launch} {e : Env} {R : Room} {s : State} {m : MethodId} {args : Array Value} {below : List Frame} {meth : Method} {c : Code} {H : Heap} {locs : List Loc} {Q : State → Prop} {cc : ByteArray} {pc : Nat} {ls : Array Slot} {rest : List Value} {D : va_G} {A : Nat → Prop} {G : MG} {M : MS} {H0 : Heap} {w0 : Cond} {nL : Nat} {ret : Option FieldType} {p1 : Int32} (B : mB p s m args meth c D G cc nL ret w0) (hW : mOK D A G M H0 H locs) (hl : ls.size = nL) (hR : 1 ≤ R.frames ∧ 20 ≤ R.locals) (hr8 : (rest.map fun v => v.category).sum ≤ 8) (hdg : decode cc pc = .ok (.invokestatic 155, 3))
    (kk : ∀ (H1 : Heap) (locs1 : List Loc), mOK D A G M H0 H1 locs1 → W p l e R s m args below meth c H1 locs1 0 0 Q (F0 m (pc + 3) ls (.int (-2 - p1) :: rest))) : W p l e R s m args below meth c H locs 0 0 Q (F0 m pc ls (.int p1 :: rest)) := by
  obtain ⟨hx, hb, -, hml, hown, hts, -, hK⟩ := B
  refine va_calli (va_runS (As := [.int p1]) (rest := rest) ⟨hx, hb, hml, hown, hts⟩ (c_valueOf (l := l) (D := D) (A := A) (G := G) M p1) (va_cwS 1 hts (g_S u_1028 u_1029 u_5 u_1030) rfl rfl rfl (by decide +kernel) hR) ⟨fun a U g mk q => by obtain ⟨q0, qP, qK, qD⟩ := q; exact ⟨q0, qP, va_K.moved (u := U) (U := U.calling g mk a) (Vm.Alike.refl U.vm) qK, qD⟩, fun U hU hWm => ⟨rfl, by rw [hU]; exact hW.1, va_K.moved hWm.alike hK, hW.2.1⟩⟩ rfl rfl hl rfl (lv_room (m := m) (pc := pc) (ls := ls) (rest := rest) hr8) hdg ⟨Nat.zero_le _, Nat.zero_le _⟩) hW.2.2 (fun _ _ h => h) (fun _ h => h) (fun r1 u t H1 locs1 ht hvm hw hB hz1 hk1 hS => ?_)
  obtain ⟨rfl, rfl⟩ := hw
  obtain ⟨hP1, -, hD1⟩ := hB
  rw [ht] at hP1
  exact kk H1 locs1 ⟨hP1, hD1, hS⟩
set_option maxHeartbeats 4000000 in
set_option maxRecDepth 100000 in
theorem c_thrown {l : Launch} {D : va_G} {A : Nat → Prop} {G : MG} (M : MS) {r : Int32} {M' : MS} (hq : q_thrown M = some (r, M')) : Met l yX12_thrown (wM yX12_thrown prog_14_method_2_code 1 (some .int)) (rM 0 0) (va_Pc [.ref G.2.2.1] (mPre D A G M)) (mQi D A G r M') 0 0 A := by
  refine m_head (by decide) rfl (Nat.le_of_ble_eq_true rfl) ?_
  intro p e s m args below meth c ls B hW hl
  have hx := B.1
  have hb := B.2.1
  have hl : lv_has ls 1 [(0, .ref G.2.2.1)] := hl
  unfold q_thrown at hq
  refine lv_aload_n hx hb dX12_thrown_0 rfl (lv_at hl 0 rfl) ?_
  refine m_get B hW 0 (by decide) u_842 (v := .int (M 0 0)) rfl dX12_thrown_1 ?_
  exact m_iret B hW hq dX12_thrown_4
set_option maxHeartbeats 4000000 in
set_option maxRecDepth 100000 in
theorem c_newObject {l : Launch} {D : va_G} {A : Nat → Prop} {G : MG} (M : MS) (p1 : Int32) {r : Int32} {M' : MS} (hq : q_newObject M p1 = some (r, M')) : Met l yX12_newObject (wM yX12_newObject prog_14_method_10_code 3 (some .int)) (rM 0 0) (va_Pc [.ref G.2.2.1, .int p1] (mPre D A G M)) (mQi D A G r M') 0 0 A := by
  refine m_head (by decide) rfl (Nat.le_of_ble_eq_true rfl) ?_
  intro p e s m args below meth c ls B hW hl
  have hx := B.1
  have hb := B.2.1
  have hl : lv_has ls 3 [(0, .ref G.2.2.1), (1, .int p1)] := hl
  unfold q_newObject at hq
  refine lv_aload_n hx hb dX12_newObject_0 rfl (lv_at hl 0 rfl) ?_
  refine m_get B hW 1 (by decide) u_843 (v := .int (M 1 0)) rfl dX12_newObject_1 ?_
  refine lv_istore_n (lv' := [(2, .int (M 1 0)), (0, .ref G.2.2.1), (1, .int p1)]) hx hb dX12_newObject_4 rfl hl (by decide) rfl (fun ls hl => ?_)
  refine lv_aload_n hx hb dX12_newObject_5 rfl (lv_at hl 1 rfl) ?_
  refine lv_dup hx hb dX12_newObject_6 rfl ?_
  refine m_get B hW 1 (by decide) u_843 (v := .int (M 1 0)) rfl dX12_newObject_7 ?_
  refine lv_iconst (v := 1) hx hb dX12_newObject_10 (by decide) ?_
  refine lv_iadd hx hb dX12_newObject_11 ?_
  refine m_put B hW 1 (by decide) u_843 mS_1 rfl (ty := .int) (tyX12_ok 1 (by decide)) rfl rfl (Nat.le_of_ble_eq_true rfl) dX12_newObject_12 (fun H locs M1 eM hW => ?_)
  replace hq := lt9_u eM hq
  clear eM
  refine lv_aload_n hx hb dX12_newObject_15 rfl (lv_at hl 1 rfl) ?_
  refine m_get B hW 2 (by decide) u_844 (v := .ref (G.2.2.2 2)) rfl dX12_newObject_16 ?_
  refine lv_iload_n hx hb dX12_newObject_19 rfl (lv_at hl 0 rfl) ?_
  refine lv_iload_n hx hb dX12_newObject_20 rfl (lv_at hl 2 rfl) ?_
  obtain ⟨hc, hq⟩ := chk_e hq
  refine m_iast B hW mA_2 hc dX12_newObject_21 (fun H locs M2 eM hW => ?_)
  replace hq := lt9_u eM hq
  clear eM
  refine lv_aload_n hx hb dX12_newObject_22 rfl (lv_at hl 1 rfl) ?_
  refine m_get B hW 3 (by decide) u_845 (v := .ref (G.2.2.2 3)) rfl dX12_newObject_23 ?_
  refine lv_iload_n hx hb dX12_newObject_26 rfl (lv_at hl 0 rfl) ?_
  refine lv_iconst (v := 0) hx hb dX12_newObject_27 (by decide) ?_
  obtain ⟨hc, hq⟩ := chk_e hq
  refine m_iast B hW mA_3 hc dX12_newObject_28 (fun H locs M3 eM hW => ?_)
  replace hq := lt9_u eM hq
  clear eM
  refine lv_aload_n hx hb dX12_newObject_29 rfl (lv_at hl 1 rfl) ?_
  refine m_get B hW 4 (by decide) u_846 (v := .ref (G.2.2.2 4)) rfl dX12_newObject_30 ?_
  refine lv_iload_n hx hb dX12_newObject_33 rfl (lv_at hl 0 rfl) ?_
  refine lv_iconst (v := (-1)) hx hb dX12_newObject_34 (by decide) ?_
  obtain ⟨hc, hq⟩ := chk_e hq
  refine m_iast B hW mA_4 hc dX12_newObject_35 (fun H locs M4 eM hW => ?_)
  replace hq := lt9_u eM hq
  clear eM
  refine lv_aload_n hx hb dX12_newObject_36 rfl (lv_at hl 1 rfl) ?_
  refine m_get B hW 5 (by decide) u_847 (v := .ref (G.2.2.2 5)) rfl dX12_newObject_37 ?_
  refine lv_iload_n hx hb dX12_newObject_40 rfl (lv_at hl 0 rfl) ?_
  refine lv_iconst (v := (-1)) hx hb dX12_newObject_41 (by decide) ?_
  obtain ⟨hc, hq⟩ := chk_e hq
  refine m_iast B hW mA_5 hc dX12_newObject_42 (fun H locs M5 eM hW => ?_)
  replace hq := lt9_u eM hq
  clear eM
  refine lv_aload_n hx hb dX12_newObject_43 rfl (lv_at hl 1 rfl) ?_
  refine m_get B hW 6 (by decide) u_848 (v := .ref (G.2.2.2 6)) rfl dX12_newObject_44 ?_
  refine lv_iload_n hx hb dX12_newObject_47 rfl (lv_at hl 0 rfl) ?_
  refine lv_iconst (v := (-1)) hx hb dX12_newObject_48 (by decide) ?_
  obtain ⟨hc, hq⟩ := chk_e hq
  refine m_iast B hW mA_6 hc dX12_newObject_49 (fun H locs M6 eM hW => ?_)
  replace hq := lt9_u eM hq
  clear eM
  refine lv_iload_n hx hb dX12_newObject_50 rfl (lv_at hl 0 rfl) ?_
  exact m_iret B hW hq dX12_newObject_51
theorem mC_newObject : mC yX12_newObject prog_14_method_10_code 3 (some .int) 148 1 := ⟨fun _ => g_V u_1020 u_1022 us_42 u_5 u_1023, by decide +kernel⟩
set_option maxHeartbeats 4000000 in
set_option maxRecDepth 100000 in
theorem c_record {l : Launch} {D : va_G} {A : Nat → Prop} {G : MG} (M : MS) (p1 : Int32) {r : Int32} {M' : MS} (hq : q_record M p1 = some (r, M')) : Met l yX12_record (wM yX12_record prog_14_method_11_code 3 (some .int)) (rM 0 0) (va_Pc [.ref G.2.2.1, .int p1] (mPre D A G M)) (mQi D A G r M') 0 0 A := by
  refine m_head (by decide) rfl (Nat.le_of_ble_eq_true rfl) ?_
  intro p e s m args below meth c ls B hW hl
  have hx := B.1
  have hb := B.2.1
  have hl : lv_has ls 3 [(0, .ref G.2.2.1), (1, .int p1)] := hl
  unfold q_record at hq
  refine lv_aload_n hx hb dX12_record_0 rfl (lv_at hl 0 rfl) ?_
  refine m_get B hW 15 (by decide) u_857 (v := .int (M 15 0)) rfl dX12_record_1 ?_
  refine lv_istore_n (lv' := [(2, .int (M 15 0)), (0, .ref G.2.2.1), (1, .int p1)]) hx hb dX12_record_4 rfl hl (by decide) rfl (fun ls hl => ?_)
  refine lv_aload_n hx hb dX12_record_5 rfl (lv_at hl 1 rfl) ?_
  refine lv_dup hx hb dX12_record_6 rfl ?_
  refine m_get B hW 15 (by decide) u_857 (v := .int (M 15 0)) rfl dX12_record_7 ?_
  refine lv_iconst (v := 1) hx hb dX12_record_10 (by decide) ?_
  refine lv_iadd hx hb dX12_record_11 ?_
  refine m_put B hW 15 (by decide) u_857 mS_15 rfl (ty := .int) (tyX12_ok 15 (by decide)) rfl rfl (Nat.le_of_ble_eq_true rfl) dX12_record_12 (fun H locs M1 eM hW => ?_)
  replace hq := lt9_u eM hq
  clear eM
  refine lv_aload_n hx hb dX12_record_15 rfl (lv_at hl 1 rfl) ?_
  refine m_get B hW 13 (by decide) u_855 (v := .ref (G.2.2.2 13)) rfl dX12_record_16 ?_
  refine lv_iload_n hx hb dX12_record_19 rfl (lv_at hl 0 rfl) ?_
  refine lv_iload_n hx hb dX12_record_20 rfl (lv_at hl 2 rfl) ?_
  obtain ⟨hc, hq⟩ := chk_e hq
  refine m_iast B hW mA_13 hc dX12_record_21 (fun H locs M2 eM hW => ?_)
  replace hq := lt9_u eM hq
  clear eM
  refine lv_aload_n hx hb dX12_record_22 rfl (lv_at hl 1 rfl) ?_
  refine m_get B hW 14 (by decide) u_856 (v := .ref (G.2.2.2 14)) rfl dX12_record_23 ?_
  refine lv_iload_n hx hb dX12_record_26 rfl (lv_at hl 0 rfl) ?_
  refine lv_iconst (v := 0) hx hb dX12_record_27 (by decide) ?_
  obtain ⟨hc, hq⟩ := chk_e hq
  obtain ⟨hc2, hq⟩ := chk_e hq
  refine m_zast B hW mA_14 hc2 hc dX12_record_28 (fun H locs M3 eM hW => ?_)
  replace hq := lt9_u eM hq
  clear eM
  refine lv_iload_n hx hb dX12_record_29 rfl (lv_at hl 0 rfl) ?_
  exact m_iret B hW hq dX12_record_30
theorem mC_record : mC yX12_record prog_14_method_11_code 3 (some .int) 152 1 := ⟨fun _ => g_V u_1024 u_1026 us_43 u_5 u_1027, by decide +kernel⟩
set_option maxHeartbeats 4000000 in
set_option maxRecDepth 100000 in
theorem c_capability {l : Launch} {D : va_G} {A : Nat → Prop} {G : MG} (M : MS) {r : Int32} {M' : MS} (hq : q_capability M = some (r, M')) : Met l yX12_capability (wM yX12_capability prog_14_method_12_code 1 (some .int)) (rM 1 22) (va_Pc [.ref G.2.2.1] (mPre D A G M)) (mQi D A G r M') 0 0 A := by
  refine m_head (by decide) rfl (Nat.le_of_ble_eq_true rfl) ?_
  intro p e s m args below meth c ls B hW hl
  have hx := B.1
  have hb := B.2.1
  have hl : lv_has ls 1 [(0, .ref G.2.2.1)] := hl
  unfold q_capability at hq
  refine lv_aload_n hx hb dX12_capability_0 rfl (lv_at hl 0 rfl) ?_
  refine lv_aload_n hx hb dX12_capability_1 rfl (lv_at hl 0 rfl) ?_
  refine lv_iconst (v := 0) hx hb dX12_capability_2 (by decide) ?_
  obtain ⟨r2, M1, hg, hq⟩ := bnd2_e hq
  refine m_calli (As := [.int 0]) (rest := [.ref G.2.2.1]) B hW hl.1 (c_newObject M 0 hg) mC_newObject rfl ⟨by decide, by decide⟩ rfl (Nat.le_of_ble_eq_true rfl) dX12_capability_3 (fun H locs hW => ?_)
  clear hg
  obtain ⟨r4, M3, hg, hq⟩ := bnd2_e hq
  refine m_calli (As := [.int r2]) (rest := []) B hW hl.1 (c_record M1 r2 hg) mC_record rfl ⟨by decide, by decide⟩ rfl (Nat.le_of_ble_eq_true rfl) dX12_capability_6 (fun H locs hW => ?_)
  clear hg
  exact m_iret B hW hq dX12_capability_9
theorem mC_capability : mC yX12_capability prog_14_method_12_code 1 (some .int) 171 0 := ⟨fun _ => g_V u_1016 u_1018 us_41 u_5 u_1019, by decide +kernel⟩
set_option maxHeartbeats 4000000 in
set_option maxRecDepth 100000 in
theorem c_fails {l : Launch} {D : va_G} {A : Nat → Prop} {G : MG} (M : MS) (p1 : Int32) {r : Int32} {M' : MS} (hq : q_fails M p1 = some (r, M')) : Met l yX12_fails (wM yX12_fails prog_14_method_3_code 2 (some .int)) (rM 0 0) (va_Pc [.ref G.2.2.1, .int p1] (mPre D A G M)) (mQi D A G r M') 0 0 A := by
  refine m_head (by decide) rfl (Nat.le_of_ble_eq_true rfl) ?_
  intro p e s m args below meth c ls B hW hl
  have hx := B.1
  have hb := B.2.1
  have hl : lv_has ls 2 [(0, .ref G.2.2.1), (1, .int p1)] := hl
  unfold q_fails at hq
  refine lv_aload_n hx hb dX12_fails_0 rfl (lv_at hl 0 rfl) ?_
  refine lv_iload_n hx hb dX12_fails_1 rfl (lv_at hl 1 rfl) ?_
  refine m_put B hW 0 (by decide) u_842 mS_0 rfl (ty := .int) (tyX12_ok 0 (by decide)) rfl rfl (Nat.le_of_ble_eq_true rfl) dX12_fails_2 (fun H locs M1 eM hW => ?_)
  replace hq := lt9_u eM hq
  clear eM
  refine lv_iconst (v := 0) hx hb dX12_fails_5 (by decide) ?_
  exact m_iret B hW hq dX12_fails_6
theorem mC_fails : mC yX12_fails prog_14_method_3_code 2 (some .int) 257 1 := ⟨fun _ => g_V u_1012 u_1014 us_40 u_5 u_1015, by decide +kernel⟩
set_option maxHeartbeats 4000000 in
set_option maxRecDepth 100000 in
theorem c_isFull {l : Launch} {D : va_G} {A : Nat → Prop} {G : MG} (M : MS) (p1 : Int32) {r : Int32} {M' : MS} (hq : q_isFull M p1 = some (r, M')) : Met l yX12_isFull (wM yX12_isFull prog_14_method_9_code 2 (some .boolean)) (rM 0 0) (va_Pc [.ref G.2.2.1, .int p1] (mPre D A G M)) (mQi D A G r M') 0 0 A := by
  refine m_head (by decide) rfl (Nat.le_of_ble_eq_true rfl) ?_
  intro p e s m args below meth c ls B hW hl
  have hx := B.1
  have hb := B.2.1
  have hl : lv_has ls 2 [(0, .ref G.2.2.1), (1, .int p1)] := hl
  unfold q_isFull at hq
  refine lv_sipush (v := 3000) hx hb dX12_isFull_0 (by decide) ?_
  refine lv_aload_n hx hb dX12_isFull_3 rfl (lv_at hl 0 rfl) ?_
  refine m_get B hW 1 (by decide) u_843 (v := .int (M 1 0)) rfl dX12_isFull_4 ?_
  refine lv_isub hx hb dX12_isFull_7 ?_
  refine lv_iload_n hx hb dX12_isFull_8 rfl (lv_at hl 1 rfl) ?_
  refine lv_icmp_ge (tgt := 16) hx hb dX12_isFull_9 (by decide) (fun hc => ?_) (fun hc => ?_)
  · replace hq := if_y hc hq
    refine lv_iconst (v := 0) hx hb dX12_isFull_16 (by decide) ?_
    obtain ⟨hc, hq⟩ := chk_e hq
    exact m_zret B hW hc hq dX12_isFull_17
  · replace hq := if_n hc hq
    refine lv_iconst (v := 1) hx hb dX12_isFull_12 (by decide) ?_
    refine lv_goto (tgt := 17) hx hb dX12_isFull_13 (by decide) ?_
    obtain ⟨hc, hq⟩ := chk_e hq
    exact m_zret B hW hc hq dX12_isFull_17
theorem mC_isFull : mC yX12_isFull prog_14_method_9_code 2 (some .boolean) 254 1 := ⟨fun _ => g_V u_1008 u_1010 us_39 u_5 u_1011, by decide +kernel⟩
set_option maxHeartbeats 4000000 in
set_option maxRecDepth 100000 in
theorem c_promise {l : Launch} {D : va_G} {A : Nat → Prop} {G : MG} (M : MS) {r : Int32} {M' : MS} (hq : q_promise M = some (r, M')) : Met l yX12_promise (wM yX12_promise prog_14_method_33_code 3 (some .int)) (rM 2 42) (va_Pc [.ref G.2.2.1] (mPre D A G M)) (mQi D A G r M') 0 0 A := by
  refine m_head (by decide) rfl (Nat.le_of_ble_eq_true rfl) ?_
  intro p e s m args below meth c ls B hW hl
  have hx := B.1
  have hb := B.2.1
  have hl : lv_has ls 3 [(0, .ref G.2.2.1)] := hl
  unfold q_promise at hq
  refine lv_aload_n hx hb dX12_promise_0 rfl (lv_at hl 0 rfl) ?_
  refine lv_iconst (v := 0) hx hb dX12_promise_1 (by decide) ?_
  refine m_put B hW 0 (by decide) u_842 mS_0 rfl (ty := .int) (tyX12_ok 0 (by decide)) rfl rfl (Nat.le_of_ble_eq_true rfl) dX12_promise_2 (fun H locs M1 eM hW => ?_)
  replace hq := lt9_u eM hq
  clear eM
  refine lv_aload_n hx hb dX12_promise_5 rfl (lv_at hl 0 rfl) ?_
  refine lv_bipush (v := 8) hx hb dX12_promise_6 (by decide) ?_
  obtain ⟨r3, M2, hg, hq⟩ := bnd2_e hq
  refine m_calli (As := [.int 8]) (rest := []) B hW hl.1 (c_isFull M1 8 hg) mC_isFull rfl ⟨by decide, by decide⟩ rfl (Nat.le_of_ble_eq_true rfl) dX12_promise_8 (fun H locs hW => ?_)
  clear hg
  refine lv_if_eq (tgt := 20) hx hb dX12_promise_11 (by decide) (fun hc => ?_) (fun hc => ?_)
  · replace hq := if_y hc hq
    refine lv_aload_n hx hb dX12_promise_20 rfl (lv_at hl 0 rfl) ?_
    obtain ⟨r5, M4, hg, hq⟩ := bnd2_e hq
    refine m_calli (As := []) (rest := []) B hW hl.1 (c_capability M2 hg) mC_capability rfl ⟨by decide, by decide⟩ rfl (Nat.le_of_ble_eq_true rfl) dX12_promise_21 (fun H locs hW => ?_)
    clear hg
    refine lv_istore_n (lv' := [(1, .int r5), (0, .ref G.2.2.1)]) hx hb dX12_promise_24 rfl hl (by decide) rfl (fun ls hl => ?_)
    refine lv_aload_n hx hb dX12_promise_25 rfl (lv_at hl 1 rfl) ?_
    refine m_get B hW 13 (by decide) u_855 (v := .ref (G.2.2.2 13)) rfl dX12_promise_26 ?_
    refine lv_iload_n hx hb dX12_promise_29 rfl (lv_at hl 0 rfl) ?_
    obtain ⟨hc, hq⟩ := chk_e hq
    refine m_iald B hW mA_13 hc dX12_promise_30 ?_
    refine lv_istore_n (lv' := [(2, .int (M4 13 r5.toNatClampNeg)), (1, .int r5), (0, .ref G.2.2.1)]) hx hb dX12_promise_31 rfl hl (by decide) rfl (fun ls hl => ?_)
    refine lv_aload_n hx hb dX12_promise_32 rfl (lv_at hl 2 rfl) ?_
    refine m_get B hW 6 (by decide) u_848 (v := .ref (G.2.2.2 6)) rfl dX12_promise_33 ?_
    refine lv_iload_n hx hb dX12_promise_36 rfl (lv_at hl 0 rfl) ?_
    refine lv_iload_n hx hb dX12_promise_37 rfl (lv_at hl 1 rfl) ?_
    obtain ⟨hc, hq⟩ := chk_e hq
    refine m_iast B hW mA_6 hc dX12_promise_38 (fun H locs M6 eM hW => ?_)
    replace hq := lt9_u eM hq
    clear eM
    refine lv_iload_n hx hb dX12_promise_39 rfl (lv_at hl 0 rfl) ?_
    refine m_valueOf (rest := []) B hW hl.1 ⟨by decide, by decide⟩ (Nat.le_of_ble_eq_true rfl) dX12_promise_40 (fun H locs hW => ?_)
    exact m_iret B hW hq dX12_promise_43
  · replace hq := if_n hc hq
    refine lv_aload_n hx hb dX12_promise_14 rfl (lv_at hl 0 rfl) ?_
    refine lv_iconst (v := 1) hx hb dX12_promise_15 (by decide) ?_
    obtain ⟨r8, M7, hg, hq⟩ := bnd2_e hq
    refine m_calli (As := [.int 1]) (rest := []) B hW hl.1 (c_fails M2 1 hg) mC_fails rfl ⟨by decide, by decide⟩ rfl (Nat.le_of_ble_eq_true rfl) dX12_promise_16 (fun H locs hW => ?_)
    clear hg
    exact m_iret B hW hq dX12_promise_19
set_option maxHeartbeats 4000000 in
set_option maxRecDepth 100000 in
theorem c_isObject {l : Launch} {D : va_G} {A : Nat → Prop} {G : MG} (M : MS) (p1 : Int32) {r : Int32} {M' : MS} (hq : q_isObject M p1 = some (r, M')) : Met l yX12_isObject (wM yX12_isObject prog_14_method_5_code 2 (some .boolean)) (rM 0 0) (va_Pc [.ref G.2.2.1, .int p1] (mPre D A G M)) (mQi D A G r M') 0 0 A := by
  refine m_head (by decide) rfl (Nat.le_of_ble_eq_true rfl) ?_
  intro p e s m args below meth c ls B hW hl
  have hx := B.1
  have hb := B.2.1
  have hl : lv_has ls 2 [(0, .ref G.2.2.1), (1, .int p1)] := hl
  unfold q_isObject at hq
  refine lv_iload_n hx hb dX12_isObject_0 rfl (lv_at hl 1 rfl) ?_
  refine lv_bipush (v := (-2)) hx hb dX12_isObject_1 (by decide) ?_
  refine lv_icmp_gt (tgt := 28) hx hb dX12_isObject_3 (by decide) (fun hc => ?_) (fun hc => ?_)
  · replace hq := if_y hc hq
    refine lv_iconst (v := 0) hx hb dX12_isObject_28 (by decide) ?_
    obtain ⟨hc, hq⟩ := chk_e hq
    exact m_zret B hW hc hq dX12_isObject_29
  · replace hq := if_n hc hq
    refine lv_bipush (v := (-2)) hx hb dX12_isObject_6 (by decide) ?_
    refine lv_iload_n hx hb dX12_isObject_8 rfl (lv_at hl 1 rfl) ?_
    refine lv_isub hx hb dX12_isObject_9 ?_
    refine lv_aload_n hx hb dX12_isObject_10 rfl (lv_at hl 0 rfl) ?_
    refine m_get B hW 1 (by decide) u_843 (v := .int (M 1 0)) rfl dX12_isObject_11 ?_
    refine lv_icmp_ge (tgt := 28) hx hb dX12_isObject_14 (by decide) (fun hc => ?_) (fun hc => ?_)
    · replace hq := if_y hc hq
      refine lv_iconst (v := 0) hx hb dX12_isObject_28 (by decide) ?_
      obtain ⟨hc, hq⟩ := chk_e hq
      exact m_zret B hW hc hq dX12_isObject_29
    · replace hq := if_n hc hq
      refine lv_bipush (v := (-2)) hx hb dX12_isObject_17 (by decide) ?_
      refine lv_iload_n hx hb dX12_isObject_19 rfl (lv_at hl 1 rfl) ?_
      refine lv_isub hx hb dX12_isObject_20 ?_
      refine lv_if_lt (tgt := 28) hx hb dX12_isObject_21 (by decide) (fun hc => ?_) (fun hc => ?_)
      · replace hq := if_y hc hq
        refine lv_iconst (v := 0) hx hb dX12_isObject_28 (by decide) ?_
        obtain ⟨hc, hq⟩ := chk_e hq
        exact m_zret B hW hc hq dX12_isObject_29
      · replace hq := if_n hc hq
        refine lv_iconst (v := 1) hx hb dX12_isObject_24 (by decide) ?_
        refine lv_goto (tgt := 29) hx hb dX12_isObject_25 (by decide) ?_
        obtain ⟨hc, hq⟩ := chk_e hq
        exact m_zret B hW hc hq dX12_isObject_29
theorem mC_isObject : mC yX12_isObject prog_14_method_5_code 2 (some .boolean) 138 1 := ⟨fun _ => g_V u_1039 u_1041 us_45 u_5 u_1042, by decide +kernel⟩
set_option maxHeartbeats 4000000 in
set_option maxRecDepth 100000 in
theorem c_isKind {l : Launch} {D : va_G} {A : Nat → Prop} {G : MG} (M : MS) (p1 p2 : Int32) {r : Int32} {M' : MS} (hq : q_isKind M p1 p2 = some (r, M')) : Met l yX12_isKind (wM yX12_isKind prog_14_method_7_code 3 (some .boolean)) (rM 1 21) (va_Pc [.ref G.2.2.1, .int p1, .int p2] (mPre D A G M)) (mQi D A G r M') 0 0 A := by
  refine m_head (by decide) rfl (Nat.le_of_ble_eq_true rfl) ?_
  intro p e s m args below meth c ls B hW hl
  have hx := B.1
  have hb := B.2.1
  have hl : lv_has ls 3 [(0, .ref G.2.2.1), (1, .int p1), (2, .int p2)] := hl
  unfold q_isKind at hq
  refine lv_aload_n hx hb dX12_isKind_0 rfl (lv_at hl 0 rfl) ?_
  refine lv_iload_n hx hb dX12_isKind_1 rfl (lv_at hl 1 rfl) ?_
  obtain ⟨r2, M1, hg, hq⟩ := bnd2_e hq
  refine m_calli (As := [.int p1]) (rest := []) B hW hl.1 (c_isObject M p1 hg) mC_isObject rfl ⟨by decide, by decide⟩ rfl (Nat.le_of_ble_eq_true rfl) dX12_isKind_2 (fun H locs hW => ?_)
  clear hg
  refine lv_if_eq (tgt := 25) hx hb dX12_isKind_5 (by decide) (fun hc => ?_) (fun hc => ?_)
  · replace hq := if_y hc hq
    refine lv_iconst (v := 0) hx hb dX12_isKind_25 (by decide) ?_
    obtain ⟨hc, hq⟩ := chk_e hq
    exact m_zret B hW hc hq dX12_isKind_26
  · replace hq := if_n hc hq
    refine lv_aload_n hx hb dX12_isKind_8 rfl (lv_at hl 0 rfl) ?_
    refine m_get B hW 2 (by decide) u_844 (v := .ref (G.2.2.2 2)) rfl dX12_isKind_9 ?_
    refine lv_bipush (v := (-2)) hx hb dX12_isKind_12 (by decide) ?_
    refine lv_iload_n hx hb dX12_isKind_14 rfl (lv_at hl 1 rfl) ?_
    refine lv_isub hx hb dX12_isKind_15 ?_
    obtain ⟨hc, hq⟩ := chk_e hq
    refine m_iald B hW mA_2 hc dX12_isKind_16 ?_
    refine lv_iload_n hx hb dX12_isKind_17 rfl (lv_at hl 2 rfl) ?_
    refine lv_icmp_ne (tgt := 25) hx hb dX12_isKind_18 (by decide) (fun hc => ?_) (fun hc => ?_)
    · replace hq := if_n hc hq
      refine lv_iconst (v := 0) hx hb dX12_isKind_25 (by decide) ?_
      obtain ⟨hc, hq⟩ := chk_e hq
      exact m_zret B hW hc hq dX12_isKind_26
    · replace hq := if_y hc hq
      refine lv_iconst (v := 1) hx hb dX12_isKind_21 (by decide) ?_
      refine lv_goto (tgt := 26) hx hb dX12_isKind_22 (by decide) ?_
      obtain ⟨hc, hq⟩ := chk_e hq
      exact m_zret B hW hc hq dX12_isKind_26
theorem mC_isKind : mC yX12_isKind prog_14_method_7_code 3 (some .boolean) 179 2 := ⟨fun _ => g_V u_1047 u_1049 us_47 u_5 u_1050, by decide +kernel⟩
set_option maxHeartbeats 4000000 in
set_option maxRecDepth 100000 in
theorem c_isKept {l : Launch} {D : va_G} {A : Nat → Prop} {G : MG} (M : MS) (p1 : Int32) {r : Int32} {M' : MS} (hq : q_isKept M p1 = some (r, M')) : Met l yX12_isKept (wM yX12_isKept prog_14_method_34_code 2 (some .boolean)) (rM 2 43) (va_Pc [.ref G.2.2.1, .int p1] (mPre D A G M)) (mQi D A G r M') 0 0 A := by
  refine m_head (by decide) rfl (Nat.le_of_ble_eq_true rfl) ?_
  intro p e s m args below meth c ls B hW hl
  have hx := B.1
  have hb := B.2.1
  have hl : lv_has ls 2 [(0, .ref G.2.2.1), (1, .int p1)] := hl
  unfold q_isKept at hq
  refine lv_aload_n hx hb dX12_isKept_0 rfl (lv_at hl 0 rfl) ?_
  refine lv_iload_n hx hb dX12_isKept_1 rfl (lv_at hl 1 rfl) ?_
  refine lv_iconst (v := 0) hx hb dX12_isKept_2 (by decide) ?_
  obtain ⟨r2, M1, hg, hq⟩ := bnd2_e hq
  refine m_calli (As := [.int p1, .int 0]) (rest := []) B hW hl.1 (c_isKind M p1 0 hg) mC_isKind rfl ⟨by decide, by decide⟩ rfl (Nat.le_of_ble_eq_true rfl) dX12_isKept_3 (fun H locs hW => ?_)
  clear hg
  refine lv_if_eq (tgt := 25) hx hb dX12_isKept_6 (by decide) (fun hc => ?_) (fun hc => ?_)
  · replace hq := if_y hc hq
    refine lv_iconst (v := 0) hx hb dX12_isKept_25 (by decide) ?_
    obtain ⟨hc, hq⟩ := chk_e hq
    exact m_zret B hW hc hq dX12_isKept_26
  · replace hq := if_n hc hq
    refine lv_aload_n hx hb dX12_isKept_9 rfl (lv_at hl 0 rfl) ?_
    refine m_get B hW 6 (by decide) u_848 (v := .ref (G.2.2.2 6)) rfl dX12_isKept_10 ?_
    refine lv_bipush (v := (-2)) hx hb dX12_isKept_13 (by decide) ?_
    refine lv_iload_n hx hb dX12_isKept_15 rfl (lv_at hl 1 rfl) ?_
    refine lv_isub hx hb dX12_isKept_16 ?_
    obtain ⟨hc, hq⟩ := chk_e hq
    refine m_iald B hW mA_6 hc dX12_isKept_17 ?_
    refine lv_if_lt (tgt := 25) hx hb dX12_isKept_18 (by decide) (fun hc => ?_) (fun hc => ?_)
    · replace hq := if_y hc hq
      refine lv_iconst (v := 0) hx hb dX12_isKept_25 (by decide) ?_
      obtain ⟨hc, hq⟩ := chk_e hq
      exact m_zret B hW hc hq dX12_isKept_26
    · replace hq := if_n hc hq
      refine lv_iconst (v := 1) hx hb dX12_isKept_21 (by decide) ?_
      refine lv_goto (tgt := 26) hx hb dX12_isKept_22 (by decide) ?_
      obtain ⟨hc, hq⟩ := chk_e hq
      exact m_zret B hW hc hq dX12_isKept_26
theorem mC_isKept : mC yX12_isKept prog_14_method_34_code 2 (some .boolean) 263 1 := ⟨fun _ => g_V u_1043 u_1045 us_46 u_5 u_1046, by decide +kernel⟩
set_option maxHeartbeats 4000000 in
set_option maxRecDepth 100000 in
theorem k_isValue_12 {p : Program} {l : Launch} {e : Env} {s : State} {m : MethodId} {args : Array Value} {below : List Frame} {meth : Method} {c : Code} {D : va_G} {A : Nat → Prop} {G : MG} {r : Int32} {M' : MS} (B : mB p s m args meth c D G prog_14_method_6_code 2 (some .boolean) (Cond.code yX12_isValue prog_14_method_6_code 2 (some .boolean))) :
    ∀ (M : MS) (v1 : Int32), q_isValue_12 M v1 = some (r, M') → ∀ (H : Heap) (locs : List Loc) (ls : Array Slot), mOK D A G M s.heap H locs → lv_has ls 2 [(0, .ref G.2.2.1), (1, .int v1)] → W p l e (rM 1 21) s m args below meth c H locs 0 0 (MQ below (mQi D A G r M') args s 0 0 A) (F0 m 12 ls []) := by
  have hx := B.1
  have hb := B.2.1
  intro M v1 hq _ _ ls hW hl
  unfold q_isValue_12 at hq
  refine lv_aload_n hx hb dX12_isValue_12 rfl (lv_at hl 0 rfl) ?_
  refine lv_iload_n hx hb dX12_isValue_13 rfl (lv_at hl 1 rfl) ?_
  obtain ⟨r2, M1, hg, hq⟩ := bnd2_e hq
  refine m_calli (As := [.int v1]) (rest := []) B hW hl.1 (c_isObject M v1 hg) mC_isObject rfl ⟨by decide, by decide⟩ rfl (Nat.le_of_ble_eq_true rfl) dX12_isValue_14 (fun H locs hW => ?_)
  clear hg
  refine lv_if_eq (tgt := 24) hx hb dX12_isValue_17 (by decide) (fun hc => ?_) (fun hc => ?_)
  · replace hq := if_y hc hq
    refine lv_iconst (v := 0) hx hb dX12_isValue_24 (by decide) ?_
    obtain ⟨hc, hq⟩ := chk_e hq
    exact m_zret B hW hc hq dX12_isValue_25
  · replace hq := if_n hc hq
    refine lv_iconst (v := 1) hx hb dX12_isValue_20 (by decide) ?_
    refine lv_goto (tgt := 25) hx hb dX12_isValue_21 (by decide) ?_
    obtain ⟨hc, hq⟩ := chk_e hq
    exact m_zret B hW hc hq dX12_isValue_25
set_option maxHeartbeats 4000000 in
set_option maxRecDepth 100000 in
theorem c_isValue {l : Launch} {D : va_G} {A : Nat → Prop} {G : MG} (M : MS) (p1 : Int32) {r : Int32} {M' : MS} (hq : q_isValue M p1 = some (r, M')) : Met l yX12_isValue (wM yX12_isValue prog_14_method_6_code 2 (some .boolean)) (rM 1 21) (va_Pc [.ref G.2.2.1, .int p1] (mPre D A G M)) (mQi D A G r M') 0 0 A := by
  refine m_head (by decide) rfl (Nat.le_of_ble_eq_true rfl) ?_
  intro p e s m args below meth c ls B hW hl
  have hx := B.1
  have hb := B.2.1
  have hl : lv_has ls 2 [(0, .ref G.2.2.1), (1, .int p1)] := hl
  unfold q_isValue at hq
  refine lv_iload_n hx hb dX12_isValue_0 rfl (lv_at hl 1 rfl) ?_
  refine lv_iconst (v := (-1)) hx hb dX12_isValue_1 (by decide) ?_
  refine lv_icmp_lt (tgt := 12) hx hb dX12_isValue_2 (by decide) (fun hc => ?_) (fun hc => ?_)
  · replace hq := if_y hc hq
    exact k_isValue_12 B M p1 hq _ _ ls hW (lv_sub hl [0, 1] rfl)
  · replace hq := if_n hc hq
    refine lv_iload_n hx hb dX12_isValue_5 rfl (lv_at hl 1 rfl) ?_
    refine lv_sipush (v := 1000) hx hb dX12_isValue_6 (by decide) ?_
    refine lv_icmp_lt (tgt := 20) hx hb dX12_isValue_9 (by decide) (fun hc => ?_) (fun hc => ?_)
    · replace hq := if_y hc hq
      refine lv_iconst (v := 1) hx hb dX12_isValue_20 (by decide) ?_
      refine lv_goto (tgt := 25) hx hb dX12_isValue_21 (by decide) ?_
      obtain ⟨hc, hq⟩ := chk_e hq
      exact m_zret B hW hc hq dX12_isValue_25
    · replace hq := if_n hc hq
      exact k_isValue_12 B M p1 hq _ _ ls hW (lv_sub hl [0, 1] rfl)
theorem mC_isValue : mC yX12_isValue prog_14_method_6_code 2 (some .boolean) 260 1 := ⟨fun _ => g_V u_1035 u_1037 us_44 u_5 u_1038, by decide +kernel⟩
set_option maxHeartbeats 4000000 in
set_option maxRecDepth 100000 in
theorem k_handler_41 {p : Program} {l : Launch} {e : Env} {s : State} {m : MethodId} {args : Array Value} {below : List Frame} {meth : Method} {c : Code} {D : va_G} {A : Nat → Prop} {G : MG} {r : Int32} {M' : MS} (B : mB p s m args meth c D G prog_14_method_35_code 3 (some .int) (Cond.code yX12_handler prog_14_method_35_code 3 (some .int))) :
    ∀ (M : MS) (v1 v2 : Int32), q_handler_41 M v1 v2 = some (r, M') → ∀ (H : Heap) (locs : List Loc) (ls : Array Slot), mOK D A G M s.heap H locs → lv_has ls 3 [(0, .ref G.2.2.1), (1, .int v1), (2, .int v2)] → W p l e (rM 3 64) s m args below meth c H locs 0 0 (MQ below (mQi D A G r M') args s 0 0 A) (F0 m 41 ls []) := by
  have hx := B.1
  have hb := B.2.1
  intro M v1 v2 hq _ _ ls hW hl
  unfold q_handler_41 at hq
  refine lv_aload_n hx hb dX12_handler_41 rfl (lv_at hl 0 rfl) ?_
  refine m_get B hW 33 (by decide) u_875 (v := .int (M 33 0)) rfl dX12_handler_42 ?_
  refine lv_sipush (v := 1000) hx hb dX12_handler_45 (by decide) ?_
  refine lv_icmp_ne (tgt := 57) hx hb dX12_handler_48 (by decide) (fun hc => ?_) (fun hc => ?_)
  · replace hq := if_n hc hq
    refine lv_aload_n hx hb dX12_handler_57 rfl (lv_at hl 0 rfl) ?_
    refine m_get B hW 31 (by decide) u_873 (v := .ref (G.2.2.2 31)) rfl dX12_handler_58 ?_
    refine lv_aload_n hx hb dX12_handler_61 rfl (lv_at hl 0 rfl) ?_
    refine m_get B hW 33 (by decide) u_875 (v := .int (M 33 0)) rfl dX12_handler_62 ?_
    refine lv_iload_n hx hb dX12_handler_65 rfl (lv_at hl 1 rfl) ?_
    obtain ⟨hc, hq⟩ := chk_e hq
    refine m_iast B hW mA_31 hc dX12_handler_66 (fun H locs M10 eM hW => ?_)
    replace hq := lt9_u eM hq
    clear eM
    refine lv_aload_n hx hb dX12_handler_67 rfl (lv_at hl 0 rfl) ?_
    refine m_get B hW 32 (by decide) u_874 (v := .ref (G.2.2.2 32)) rfl dX12_handler_68 ?_
    refine lv_aload_n hx hb dX12_handler_71 rfl (lv_at hl 0 rfl) ?_
    refine m_get B hW 33 (by decide) u_875 (v := .int (M10 33 0)) rfl dX12_handler_72 ?_
    refine lv_iload_n hx hb dX12_handler_75 rfl (lv_at hl 2 rfl) ?_
    obtain ⟨hc, hq⟩ := chk_e hq
    refine m_iast B hW mA_32 hc dX12_handler_76 (fun H locs M11 eM hW => ?_)
    replace hq := lt9_u eM hq
    clear eM
    refine lv_aload_n hx hb dX12_handler_77 rfl (lv_at hl 0 rfl) ?_
    refine lv_dup hx hb dX12_handler_78 rfl ?_
    refine m_get B hW 33 (by decide) u_875 (v := .int (M11 33 0)) rfl dX12_handler_79 ?_
    refine lv_iconst (v := 1) hx hb dX12_handler_82 (by decide) ?_
    refine lv_iadd hx hb dX12_handler_83 ?_
    refine m_put B hW 33 (by decide) u_875 mS_33 rfl (ty := .int) (tyX12_ok 33 (by decide)) rfl rfl (Nat.le_of_ble_eq_true rfl) dX12_handler_84 (fun H locs M12 eM hW => ?_)
    replace hq := lt9_u eM hq
    clear eM
    refine lv_aload_n hx hb dX12_handler_87 rfl (lv_at hl 0 rfl) ?_
    refine m_get B hW 33 (by decide) u_875 (v := .int (M12 33 0)) rfl dX12_handler_88 ?_
    refine lv_iconst (v := 1) hx hb dX12_handler_91 (by decide) ?_
    refine lv_isub hx hb dX12_handler_92 ?_
    exact m_iret B hW hq dX12_handler_93
  · replace hq := if_y hc hq
    refine lv_aload_n hx hb dX12_handler_51 rfl (lv_at hl 0 rfl) ?_
    refine lv_iconst (v := 2) hx hb dX12_handler_52 (by decide) ?_
    obtain ⟨r14, M13, hg, hq⟩ := bnd2_e hq
    refine m_calli (As := [.int 2]) (rest := []) B hW hl.1 (c_fails M 2 hg) mC_fails rfl ⟨by decide, by decide⟩ rfl (Nat.le_of_ble_eq_true rfl) dX12_handler_53 (fun H locs hW => ?_)
    clear hg
    exact m_iret B hW hq dX12_handler_56
set_option maxHeartbeats 4000000 in
set_option maxRecDepth 100000 in
theorem c_handler {l : Launch} {D : va_G} {A : Nat → Prop} {G : MG} (M : MS) (p1 p2 : Int32) {r : Int32} {M' : MS} (hq : q_handler M p1 p2 = some (r, M')) : Met l yX12_handler (wM yX12_handler prog_14_method_35_code 3 (some .int)) (rM 3 64) (va_Pc [.ref G.2.2.1, .int p1, .int p2] (mPre D A G M)) (mQi D A G r M') 0 0 A := by
  refine m_head (by decide) rfl (Nat.le_of_ble_eq_true rfl) ?_
  intro p e s m args below meth c ls B hW hl
  have hx := B.1
  have hb := B.2.1
  have hl : lv_has ls 3 [(0, .ref G.2.2.1), (1, .int p1), (2, .int p2)] := hl
  unfold q_handler at hq
  refine lv_aload_n hx hb dX12_handler_0 rfl (lv_at hl 0 rfl) ?_
  refine lv_iconst (v := 0) hx hb dX12_handler_1 (by decide) ?_
  refine m_put B hW 0 (by decide) u_842 mS_0 rfl (ty := .int) (tyX12_ok 0 (by decide)) rfl rfl (Nat.le_of_ble_eq_true rfl) dX12_handler_2 (fun H locs M1 eM hW => ?_)
  replace hq := lt9_u eM hq
  clear eM
  refine lv_iload_n hx hb dX12_handler_5 rfl (lv_at hl 1 rfl) ?_
  refine lv_if_lt (tgt := 35) hx hb dX12_handler_6 (by decide) (fun hc => ?_) (fun hc => ?_)
  · replace hq := if_y hc hq
    refine lv_aload_n hx hb dX12_handler_35 rfl (lv_at hl 0 rfl) ?_
    refine lv_iconst (v := 1) hx hb dX12_handler_36 (by decide) ?_
    obtain ⟨r3, M2, hg, hq⟩ := bnd2_e hq
    refine m_calli (As := [.int 1]) (rest := []) B hW hl.1 (c_fails M1 1 hg) mC_fails rfl ⟨by decide, by decide⟩ rfl (Nat.le_of_ble_eq_true rfl) dX12_handler_37 (fun H locs hW => ?_)
    clear hg
    exact m_iret B hW hq dX12_handler_40
  · replace hq := if_n hc hq
    refine lv_iload_n hx hb dX12_handler_9 rfl (lv_at hl 1 rfl) ?_
    refine lv_iconst (v := 5) hx hb dX12_handler_10 (by decide) ?_
    refine lv_icmp_gt (tgt := 35) hx hb dX12_handler_11 (by decide) (fun hc => ?_) (fun hc => ?_)
    · replace hq := if_y hc hq
      refine lv_aload_n hx hb dX12_handler_35 rfl (lv_at hl 0 rfl) ?_
      refine lv_iconst (v := 1) hx hb dX12_handler_36 (by decide) ?_
      obtain ⟨r5, M4, hg, hq⟩ := bnd2_e hq
      refine m_calli (As := [.int 1]) (rest := []) B hW hl.1 (c_fails M1 1 hg) mC_fails rfl ⟨by decide, by decide⟩ rfl (Nat.le_of_ble_eq_true rfl) dX12_handler_37 (fun H locs hW => ?_)
      clear hg
      exact m_iret B hW hq dX12_handler_40
    · replace hq := if_n hc hq
      refine lv_aload_n hx hb dX12_handler_14 rfl (lv_at hl 0 rfl) ?_
      refine lv_iload_n hx hb dX12_handler_15 rfl (lv_at hl 2 rfl) ?_
      obtain ⟨r7, M6, hg, hq⟩ := bnd2_e hq
      refine m_calli (As := [.int p2]) (rest := []) B hW hl.1 (c_isValue M1 p2 hg) mC_isValue rfl ⟨by decide, by decide⟩ rfl (Nat.le_of_ble_eq_true rfl) dX12_handler_16 (fun H locs hW => ?_)
      clear hg
      refine lv_if_eq (tgt := 35) hx hb dX12_handler_19 (by decide) (fun hc => ?_) (fun hc => ?_)
      · replace hq := if_y hc hq
        refine lv_aload_n hx hb dX12_handler_35 rfl (lv_at hl 0 rfl) ?_
        refine lv_iconst (v := 1) hx hb dX12_handler_36 (by decide) ?_
        obtain ⟨r9, M8, hg, hq⟩ := bnd2_e hq
        refine m_calli (As := [.int 1]) (rest := []) B hW hl.1 (c_fails M6 1 hg) mC_fails rfl ⟨by decide, by decide⟩ rfl (Nat.le_of_ble_eq_true rfl) dX12_handler_37 (fun H locs hW => ?_)
        clear hg
        exact m_iret B hW hq dX12_handler_40
      · replace hq := if_n hc hq
        refine lv_iload_n hx hb dX12_handler_22 rfl (lv_at hl 1 rfl) ?_
        refine lv_iconst (v := 3) hx hb dX12_handler_23 (by decide) ?_
        refine lv_icmp_le (tgt := 41) hx hb dX12_handler_24 (by decide) (fun hc => ?_) (fun hc => ?_)
        · replace hq := if_y hc hq
          exact k_handler_41 B M6 p1 p2 hq _ _ ls hW (lv_sub hl [0, 1, 2] rfl)
        · replace hq := if_n hc hq
          refine lv_aload_n hx hb dX12_handler_27 rfl (lv_at hl 0 rfl) ?_
          refine lv_iload_n hx hb dX12_handler_28 rfl (lv_at hl 2 rfl) ?_
          obtain ⟨r16, M15, hg, hq⟩ := bnd2_e hq
          refine m_calli (As := [.int p2]) (rest := []) B hW hl.1 (c_isKept M6 p2 hg) mC_isKept rfl ⟨by decide, by decide⟩ rfl (Nat.le_of_ble_eq_true rfl) dX12_handler_29 (fun H locs hW => ?_)
          clear hg
          refine lv_if_ne (tgt := 41) hx hb dX12_handler_32 (by decide) (fun hc => ?_) (fun hc => ?_)
          · replace hq := if_n hc hq
            exact k_handler_41 B M15 p1 p2 hq _ _ ls hW (lv_sub hl [0, 1, 2] rfl)
          · replace hq := if_y hc hq
            refine lv_aload_n hx hb dX12_handler_35 rfl (lv_at hl 0 rfl) ?_
            refine lv_iconst (v := 1) hx hb dX12_handler_36 (by decide) ?_
            obtain ⟨r18, M17, hg, hq⟩ := bnd2_e hq
            refine m_calli (As := [.int 1]) (rest := []) B hW hl.1 (c_fails M15 1 hg) mC_fails rfl ⟨by decide, by decide⟩ rfl (Nat.le_of_ble_eq_true rfl) dX12_handler_37 (fun H locs hW => ?_)
            clear hg
            exact m_iret B hW hq dX12_handler_40
set_option maxHeartbeats 4000000 in
set_option maxRecDepth 100000 in
theorem c_thenable {l : Launch} {D : va_G} {A : Nat → Prop} {G : MG} (M : MS) (p1 p2 p3 p4 p5 : Int32) {r : Int32} {M' : MS} (hq : q_thenable M p1 p2 p3 p4 p5 = some (r, M')) : Met l yX12_thenable (wM yX12_thenable prog_14_method_36_code 7 (some .int)) (rM 2 42) (va_Pc [.ref G.2.2.1, .int p1, .int p2, .int p3, .int p4, .int p5] (mPre D A G M)) (mQi D A G r M') 0 0 A := by
  refine m_head (by decide) rfl (Nat.le_of_ble_eq_true rfl) ?_
  intro p e s m args below meth c ls B hW hl
  have hx := B.1
  have hb := B.2.1
  have hl : lv_has ls 7 [(0, .ref G.2.2.1), (1, .int p1), (2, .int p2), (3, .int p3), (4, .int p4), (5, .int p5)] := hl
  unfold q_thenable at hq
  refine lv_aload_n hx hb dX12_thenable_0 rfl (lv_at hl 0 rfl) ?_
  refine lv_iconst (v := 0) hx hb dX12_thenable_1 (by decide) ?_
  refine m_put B hW 0 (by decide) u_842 mS_0 rfl (ty := .int) (tyX12_ok 0 (by decide)) rfl rfl (Nat.le_of_ble_eq_true rfl) dX12_thenable_2 (fun H locs M1 eM hW => ?_)
  replace hq := lt9_u eM hq
  clear eM
  refine lv_iload_n hx hb dX12_thenable_5 rfl (lv_at hl 1 rfl) ?_
  refine lv_if_lt (tgt := 51) hx hb dX12_thenable_6 (by decide) (fun hc => ?_) (fun hc => ?_)
  · replace hq := if_y hc hq
    refine lv_aload_n hx hb dX12_thenable_51 rfl (lv_at hl 0 rfl) ?_
    refine lv_iconst (v := 1) hx hb dX12_thenable_52 (by decide) ?_
    obtain ⟨r3, M2, hg, hq⟩ := bnd2_e hq
    refine m_calli (As := [.int 1]) (rest := []) B hW hl.1 (c_fails M1 1 hg) mC_fails rfl ⟨by decide, by decide⟩ rfl (Nat.le_of_ble_eq_true rfl) dX12_thenable_53 (fun H locs hW => ?_)
    clear hg
    exact m_iret B hW hq dX12_thenable_56
  · replace hq := if_n hc hq
    refine lv_iload_n hx hb dX12_thenable_9 rfl (lv_at hl 1 rfl) ?_
    refine lv_iconst (v := 2) hx hb dX12_thenable_10 (by decide) ?_
    refine lv_icmp_gt (tgt := 51) hx hb dX12_thenable_11 (by decide) (fun hc => ?_) (fun hc => ?_)
    · replace hq := if_y hc hq
      refine lv_aload_n hx hb dX12_thenable_51 rfl (lv_at hl 0 rfl) ?_
      refine lv_iconst (v := 1) hx hb dX12_thenable_52 (by decide) ?_
      obtain ⟨r5, M4, hg, hq⟩ := bnd2_e hq
      refine m_calli (As := [.int 1]) (rest := []) B hW hl.1 (c_fails M1 1 hg) mC_fails rfl ⟨by decide, by decide⟩ rfl (Nat.le_of_ble_eq_true rfl) dX12_thenable_53 (fun H locs hW => ?_)
      clear hg
      exact m_iret B hW hq dX12_thenable_56
    · replace hq := if_n hc hq
      refine lv_iload_n hx hb dX12_thenable_14 rfl (lv_at hl 2 rfl) ?_
      refine lv_if_lt (tgt := 51) hx hb dX12_thenable_15 (by decide) (fun hc => ?_) (fun hc => ?_)
      · replace hq := if_y hc hq
        refine lv_aload_n hx hb dX12_thenable_51 rfl (lv_at hl 0 rfl) ?_
        refine lv_iconst (v := 1) hx hb dX12_thenable_52 (by decide) ?_
        obtain ⟨r7, M6, hg, hq⟩ := bnd2_e hq
        refine m_calli (As := [.int 1]) (rest := []) B hW hl.1 (c_fails M1 1 hg) mC_fails rfl ⟨by decide, by decide⟩ rfl (Nat.le_of_ble_eq_true rfl) dX12_thenable_53 (fun H locs hW => ?_)
        clear hg
        exact m_iret B hW hq dX12_thenable_56
      · replace hq := if_n hc hq
        refine lv_iload_n hx hb dX12_thenable_18 rfl (lv_at hl 2 rfl) ?_
        refine lv_iconst (v := 4) hx hb dX12_thenable_19 (by decide) ?_
        refine lv_icmp_gt (tgt := 51) hx hb dX12_thenable_20 (by decide) (fun hc => ?_) (fun hc => ?_)
        · replace hq := if_y hc hq
          refine lv_aload_n hx hb dX12_thenable_51 rfl (lv_at hl 0 rfl) ?_
          refine lv_iconst (v := 1) hx hb dX12_thenable_52 (by decide) ?_
          obtain ⟨r9, M8, hg, hq⟩ := bnd2_e hq
          refine m_calli (As := [.int 1]) (rest := []) B hW hl.1 (c_fails M1 1 hg) mC_fails rfl ⟨by decide, by decide⟩ rfl (Nat.le_of_ble_eq_true rfl) dX12_thenable_53 (fun H locs hW => ?_)
          clear hg
          exact m_iret B hW hq dX12_thenable_56
        · replace hq := if_n hc hq
          refine lv_iload hx hb dX12_thenable_23 (lv_at hl 4 rfl) ?_
          refine lv_if_lt (tgt := 51) hx hb dX12_thenable_25 (by decide) (fun hc => ?_) (fun hc => ?_)
          · replace hq := if_y hc hq
            refine lv_aload_n hx hb dX12_thenable_51 rfl (lv_at hl 0 rfl) ?_
            refine lv_iconst (v := 1) hx hb dX12_thenable_52 (by decide) ?_
            obtain ⟨r11, M10, hg, hq⟩ := bnd2_e hq
            refine m_calli (As := [.int 1]) (rest := []) B hW hl.1 (c_fails M1 1 hg) mC_fails rfl ⟨by decide, by decide⟩ rfl (Nat.le_of_ble_eq_true rfl) dX12_thenable_53 (fun H locs hW => ?_)
            clear hg
            exact m_iret B hW hq dX12_thenable_56
          · replace hq := if_n hc hq
            refine lv_iload hx hb dX12_thenable_28 (lv_at hl 4 rfl) ?_
            refine lv_iconst (v := 4) hx hb dX12_thenable_30 (by decide) ?_
            refine lv_icmp_gt (tgt := 51) hx hb dX12_thenable_31 (by decide) (fun hc => ?_) (fun hc => ?_)
            · replace hq := if_y hc hq
              refine lv_aload_n hx hb dX12_thenable_51 rfl (lv_at hl 0 rfl) ?_
              refine lv_iconst (v := 1) hx hb dX12_thenable_52 (by decide) ?_
              obtain ⟨r13, M12, hg, hq⟩ := bnd2_e hq
              refine m_calli (As := [.int 1]) (rest := []) B hW hl.1 (c_fails M1 1 hg) mC_fails rfl ⟨by decide, by decide⟩ rfl (Nat.le_of_ble_eq_true rfl) dX12_thenable_53 (fun H locs hW => ?_)
              clear hg
              exact m_iret B hW hq dX12_thenable_56
            · replace hq := if_n hc hq
              refine lv_aload_n hx hb dX12_thenable_34 rfl (lv_at hl 0 rfl) ?_
              refine lv_iload_n hx hb dX12_thenable_35 rfl (lv_at hl 3 rfl) ?_
              obtain ⟨r15, M14, hg, hq⟩ := bnd2_e hq
              refine m_calli (As := [.int p3]) (rest := []) B hW hl.1 (c_isValue M1 p3 hg) mC_isValue rfl ⟨by decide, by decide⟩ rfl (Nat.le_of_ble_eq_true rfl) dX12_thenable_36 (fun H locs hW => ?_)
              clear hg
              refine lv_if_eq (tgt := 51) hx hb dX12_thenable_39 (by decide) (fun hc => ?_) (fun hc => ?_)
              · replace hq := if_y hc hq
                refine lv_aload_n hx hb dX12_thenable_51 rfl (lv_at hl 0 rfl) ?_
                refine lv_iconst (v := 1) hx hb dX12_thenable_52 (by decide) ?_
                obtain ⟨r17, M16, hg, hq⟩ := bnd2_e hq
                refine m_calli (As := [.int 1]) (rest := []) B hW hl.1 (c_fails M14 1 hg) mC_fails rfl ⟨by decide, by decide⟩ rfl (Nat.le_of_ble_eq_true rfl) dX12_thenable_53 (fun H locs hW => ?_)
                clear hg
                exact m_iret B hW hq dX12_thenable_56
              · replace hq := if_n hc hq
                refine lv_aload_n hx hb dX12_thenable_42 rfl (lv_at hl 0 rfl) ?_
                refine lv_iload hx hb dX12_thenable_43 (lv_at hl 5 rfl) ?_
                obtain ⟨r19, M18, hg, hq⟩ := bnd2_e hq
                refine m_calli (As := [.int p5]) (rest := []) B hW hl.1 (c_isValue M14 p5 hg) mC_isValue rfl ⟨by decide, by decide⟩ rfl (Nat.le_of_ble_eq_true rfl) dX12_thenable_45 (fun H locs hW => ?_)
                clear hg
                refine lv_if_ne (tgt := 57) hx hb dX12_thenable_48 (by decide) (fun hc => ?_) (fun hc => ?_)
                · replace hq := if_n hc hq
                  refine lv_aload_n hx hb dX12_thenable_57 rfl (lv_at hl 0 rfl) ?_
                  refine lv_bipush (v := 8) hx hb dX12_thenable_58 (by decide) ?_
                  obtain ⟨r21, M20, hg, hq⟩ := bnd2_e hq
                  refine m_calli (As := [.int 8]) (rest := []) B hW hl.1 (c_isFull M18 8 hg) mC_isFull rfl ⟨by decide, by decide⟩ rfl (Nat.le_of_ble_eq_true rfl) dX12_thenable_60 (fun H locs hW => ?_)
                  clear hg
                  refine lv_if_eq (tgt := 72) hx hb dX12_thenable_63 (by decide) (fun hc => ?_) (fun hc => ?_)
                  · replace hq := if_y hc hq
                    refine lv_aload_n hx hb dX12_thenable_72 rfl (lv_at hl 0 rfl) ?_
                    refine lv_iconst (v := 1) hx hb dX12_thenable_73 (by decide) ?_
                    obtain ⟨r23, M22, hg, hq⟩ := bnd2_e hq
                    refine m_calli (As := [.int 1]) (rest := []) B hW hl.1 (c_newObject M20 1 hg) mC_newObject rfl ⟨by decide, by decide⟩ rfl (Nat.le_of_ble_eq_true rfl) dX12_thenable_74 (fun H locs hW => ?_)
                    clear hg
                    refine lv_istore (lv' := [(6, .int r23), (0, .ref G.2.2.1), (1, .int p1), (2, .int p2), (3, .int p3), (4, .int p4), (5, .int p5)]) hx hb dX12_thenable_77 hl (by decide) rfl (fun ls hl => ?_)
                    refine lv_aload_n hx hb dX12_thenable_79 rfl (lv_at hl 1 rfl) ?_
                    refine m_get B hW 8 (by decide) u_850 (v := .ref (G.2.2.2 8)) rfl dX12_thenable_80 ?_
                    refine lv_iload hx hb dX12_thenable_83 (lv_at hl 0 rfl) ?_
                    refine lv_iload_n hx hb dX12_thenable_85 rfl (lv_at hl 2 rfl) ?_
                    obtain ⟨hc, hq⟩ := chk_e hq
                    refine m_iast B hW mA_8 hc dX12_thenable_86 (fun H locs M24 eM hW => ?_)
                    replace hq := lt9_u eM hq
                    clear eM
                    refine lv_aload_n hx hb dX12_thenable_87 rfl (lv_at hl 1 rfl) ?_
                    refine m_get B hW 9 (by decide) u_851 (v := .ref (G.2.2.2 9)) rfl dX12_thenable_88 ?_
                    refine lv_iload hx hb dX12_thenable_91 (lv_at hl 0 rfl) ?_
                    refine lv_iload_n hx hb dX12_thenable_93 rfl (lv_at hl 3 rfl) ?_
                    obtain ⟨hc, hq⟩ := chk_e hq
                    refine m_iast B hW mA_9 hc dX12_thenable_94 (fun H locs M25 eM hW => ?_)
                    replace hq := lt9_u eM hq
                    clear eM
                    refine lv_aload_n hx hb dX12_thenable_95 rfl (lv_at hl 1 rfl) ?_
                    refine m_get B hW 10 (by decide) u_852 (v := .ref (G.2.2.2 10)) rfl dX12_thenable_96 ?_
                    refine lv_iload hx hb dX12_thenable_99 (lv_at hl 0 rfl) ?_
                    refine lv_iload_n hx hb dX12_thenable_101 rfl (lv_at hl 4 rfl) ?_
                    obtain ⟨hc, hq⟩ := chk_e hq
                    refine m_iast B hW mA_10 hc dX12_thenable_102 (fun H locs M26 eM hW => ?_)
                    replace hq := lt9_u eM hq
                    clear eM
                    refine lv_aload_n hx hb dX12_thenable_103 rfl (lv_at hl 1 rfl) ?_
                    refine m_get B hW 11 (by decide) u_853 (v := .ref (G.2.2.2 11)) rfl dX12_thenable_104 ?_
                    refine lv_iload hx hb dX12_thenable_107 (lv_at hl 0 rfl) ?_
                    refine lv_iload hx hb dX12_thenable_109 (lv_at hl 5 rfl) ?_
                    obtain ⟨hc, hq⟩ := chk_e hq
                    refine m_iast B hW mA_11 hc dX12_thenable_111 (fun H locs M27 eM hW => ?_)
                    replace hq := lt9_u eM hq
                    clear eM
                    refine lv_aload_n hx hb dX12_thenable_112 rfl (lv_at hl 1 rfl) ?_
                    refine m_get B hW 12 (by decide) u_854 (v := .ref (G.2.2.2 12)) rfl dX12_thenable_113 ?_
                    refine lv_iload hx hb dX12_thenable_116 (lv_at hl 0 rfl) ?_
                    refine lv_iload hx hb dX12_thenable_118 (lv_at hl 6 rfl) ?_
                    obtain ⟨hc, hq⟩ := chk_e hq
                    refine m_iast B hW mA_12 hc dX12_thenable_120 (fun H locs M28 eM hW => ?_)
                    replace hq := lt9_u eM hq
                    clear eM
                    refine lv_iload hx hb dX12_thenable_121 (lv_at hl 0 rfl) ?_
                    refine m_valueOf (rest := []) B hW hl.1 ⟨by decide, by decide⟩ (Nat.le_of_ble_eq_true rfl) dX12_thenable_123 (fun H locs hW => ?_)
                    exact m_iret B hW hq dX12_thenable_126
                  · replace hq := if_n hc hq
                    refine lv_aload_n hx hb dX12_thenable_66 rfl (lv_at hl 0 rfl) ?_
                    refine lv_iconst (v := 2) hx hb dX12_thenable_67 (by decide) ?_
                    obtain ⟨r30, M29, hg, hq⟩ := bnd2_e hq
                    refine m_calli (As := [.int 2]) (rest := []) B hW hl.1 (c_fails M20 2 hg) mC_fails rfl ⟨by decide, by decide⟩ rfl (Nat.le_of_ble_eq_true rfl) dX12_thenable_68 (fun H locs hW => ?_)
                    clear hg
                    exact m_iret B hW hq dX12_thenable_71
                · replace hq := if_y hc hq
                  refine lv_aload_n hx hb dX12_thenable_51 rfl (lv_at hl 0 rfl) ?_
                  refine lv_iconst (v := 1) hx hb dX12_thenable_52 (by decide) ?_
                  obtain ⟨r32, M31, hg, hq⟩ := bnd2_e hq
                  refine m_calli (As := [.int 1]) (rest := []) B hW hl.1 (c_fails M18 1 hg) mC_fails rfl ⟨by decide, by decide⟩ rfl (Nat.le_of_ble_eq_true rfl) dX12_thenable_53 (fun H locs hW => ?_)
                  clear hg
                  exact m_iret B hW hq dX12_thenable_56
set_option maxHeartbeats 4000000 in
set_option maxRecDepth 100000 in
theorem k_react_86 {p : Program} {l : Launch} {e : Env} {s : State} {m : MethodId} {args : Array Value} {below : List Frame} {meth : Method} {c : Code} {D : va_G} {A : Nat → Prop} {G : MG} {M' : MS} (B : mB p s m args meth c D G prog_14_method_16_code 4 none (Cond.code yX12_react prog_14_method_16_code 4 none)) :
    ∀ (M : MS) (v1 v3 z0 z1 : Int32), q_react_86 M v1 v3 z0 z1 = some M' → ∀ (H : Heap) (locs : List Loc) (ls : Array Slot), mOK D A G M s.heap H locs → lv_has ls 4 [(0, .ref G.2.2.1), (1, .int v1), (3, .int v3)] → W p l e (rM 0 0) s m args below meth c H locs 0 0 (MQ below (mQv D A G M') args s 0 0 A) (F0 m 86 ls [.int z0, .int z1, .ref (G.2.2.2 24)]) := by
  have hx := B.1
  have hb := B.2.1
  intro M v1 v3 z0 z1 hq _ _ ls hW hl
  unfold q_react_86 at hq
  obtain ⟨hc, hq⟩ := chk_e hq
  refine m_iast B hW mA_24 hc dX12_react_86 (fun H locs M4 eM hW => ?_)
  replace hq := lt9_u eM hq
  clear eM
  refine lv_aload_n hx hb dX12_react_87 rfl (lv_at hl 0 rfl) ?_
  refine m_get B hW 25 (by decide) u_867 (v := .ref (G.2.2.2 25)) rfl dX12_react_88 ?_
  refine lv_aload_n hx hb dX12_react_91 rfl (lv_at hl 0 rfl) ?_
  refine m_get B hW 30 (by decide) u_872 (v := .int (M4 30 0)) rfl dX12_react_92 ?_
  refine lv_aload_n hx hb dX12_react_95 rfl (lv_at hl 0 rfl) ?_
  refine m_get B hW 17 (by decide) u_859 (v := .ref (G.2.2.2 17)) rfl dX12_react_96 ?_
  refine lv_iload_n hx hb dX12_react_99 rfl (lv_at hl 1 rfl) ?_
  obtain ⟨hc, hq⟩ := chk_e hq
  refine m_iald B hW mA_17 hc dX12_react_100 ?_
  obtain ⟨hc, hq⟩ := chk_e hq
  refine m_iast B hW mA_25 hc dX12_react_101 (fun H locs M5 eM hW => ?_)
  replace hq := lt9_u eM hq
  clear eM
  refine lv_aload_n hx hb dX12_react_102 rfl (lv_at hl 0 rfl) ?_
  refine m_get B hW 26 (by decide) u_868 (v := .ref (G.2.2.2 26)) rfl dX12_react_103 ?_
  refine lv_aload_n hx hb dX12_react_106 rfl (lv_at hl 0 rfl) ?_
  refine m_get B hW 30 (by decide) u_872 (v := .int (M5 30 0)) rfl dX12_react_107 ?_
  refine lv_iload_n hx hb dX12_react_110 rfl (lv_at hl 2 rfl) ?_
  obtain ⟨hc, hq⟩ := chk_e hq
  refine m_iast B hW mA_26 hc dX12_react_111 (fun H locs M6 eM hW => ?_)
  replace hq := lt9_u eM hq
  clear eM
  refine lv_aload_n hx hb dX12_react_112 rfl (lv_at hl 0 rfl) ?_
  refine lv_dup hx hb dX12_react_113 rfl ?_
  refine m_get B hW 30 (by decide) u_872 (v := .int (M6 30 0)) rfl dX12_react_114 ?_
  refine lv_iconst (v := 1) hx hb dX12_react_117 (by decide) ?_
  refine lv_iadd hx hb dX12_react_118 ?_
  refine m_put B hW 30 (by decide) u_872 mS_30 rfl (ty := .int) (tyX12_ok 30 (by decide)) rfl rfl (Nat.le_of_ble_eq_true rfl) dX12_react_119 (fun H locs M7 eM hW => ?_)
  replace hq := lt9_u eM hq
  clear eM
  exact m_vret B hW hq dX12_react_122
set_option maxHeartbeats 4000000 in
set_option maxRecDepth 100000 in
theorem k_react_57 {p : Program} {l : Launch} {e : Env} {s : State} {m : MethodId} {args : Array Value} {below : List Frame} {meth : Method} {c : Code} {D : va_G} {A : Nat → Prop} {G : MG} {M' : MS} (B : mB p s m args meth c D G prog_14_method_16_code 4 none (Cond.code yX12_react prog_14_method_16_code 4 none)) :
    ∀ (M : MS) (v1 v2 v3 z0 z1 : Int32), q_react_57 M v1 v2 v3 z0 z1 = some M' → ∀ (H : Heap) (locs : List Loc) (ls : Array Slot), mOK D A G M s.heap H locs → lv_has ls 4 [(0, .ref G.2.2.1), (1, .int v1), (2, .int v2), (3, .int v3)] → W p l e (rM 0 0) s m args below meth c H locs 0 0 (MQ below (mQv D A G M') args s 0 0 A) (F0 m 57 ls [.int z0, .int z1, .ref (G.2.2.2 23)]) := by
  have hx := B.1
  have hb := B.2.1
  intro M v1 v2 v3 z0 z1 hq _ _ ls hW hl
  unfold q_react_57 at hq
  obtain ⟨hc, hq⟩ := chk_e hq
  refine m_iast B hW mA_23 hc dX12_react_57 (fun H locs M3 eM hW => ?_)
  replace hq := lt9_u eM hq
  clear eM
  refine lv_aload_n hx hb dX12_react_58 rfl (lv_at hl 0 rfl) ?_
  refine m_get B hW 24 (by decide) u_866 (v := .ref (G.2.2.2 24)) rfl dX12_react_59 ?_
  refine lv_aload_n hx hb dX12_react_62 rfl (lv_at hl 0 rfl) ?_
  refine m_get B hW 30 (by decide) u_872 (v := .int (M3 30 0)) rfl dX12_react_63 ?_
  refine lv_iload_n hx hb dX12_react_66 rfl (lv_at hl 2 rfl) ?_
  refine lv_iconst (v := 2) hx hb dX12_react_67 (by decide) ?_
  refine lv_icmp_ne (tgt := 80) hx hb dX12_react_68 (by decide) (fun hc => ?_) (fun hc => ?_)
  · replace hq := if_n hc hq
    refine lv_aload_n hx hb dX12_react_80 rfl (lv_at hl 0 rfl) ?_
    refine m_get B hW 19 (by decide) u_861 (v := .ref (G.2.2.2 19)) rfl dX12_react_81 ?_
    refine lv_iload_n hx hb dX12_react_84 rfl (lv_at hl 1 rfl) ?_
    obtain ⟨hc, hq⟩ := chk_e hq
    refine m_iald B hW mA_19 hc dX12_react_85 ?_
    exact k_react_86 B M3 v1 v3 (M3 19 v1.toNatClampNeg) (M3 30 0) hq _ _ ls hW (lv_sub hl [0, 1, 3] rfl)
  · replace hq := if_y hc hq
    refine lv_aload_n hx hb dX12_react_71 rfl (lv_at hl 0 rfl) ?_
    refine m_get B hW 21 (by decide) u_863 (v := .ref (G.2.2.2 21)) rfl dX12_react_72 ?_
    refine lv_iload_n hx hb dX12_react_75 rfl (lv_at hl 1 rfl) ?_
    obtain ⟨hc, hq⟩ := chk_e hq
    refine m_iald B hW mA_21 hc dX12_react_76 ?_
    refine lv_goto (tgt := 86) hx hb dX12_react_77 (by decide) ?_
    exact k_react_86 B M3 v1 v3 (M3 21 v1.toNatClampNeg) (M3 30 0) hq _ _ ls hW (lv_sub hl [0, 1, 3] rfl)
set_option maxHeartbeats 4000000 in
set_option maxRecDepth 100000 in
theorem k_react_28 {p : Program} {l : Launch} {e : Env} {s : State} {m : MethodId} {args : Array Value} {below : List Frame} {meth : Method} {c : Code} {D : va_G} {A : Nat → Prop} {G : MG} {M' : MS} (B : mB p s m args meth c D G prog_14_method_16_code 4 none (Cond.code yX12_react prog_14_method_16_code 4 none)) :
    ∀ (M : MS) (v1 v2 v3 z0 z1 : Int32), q_react_28 M v1 v2 v3 z0 z1 = some M' → ∀ (H : Heap) (locs : List Loc) (ls : Array Slot), mOK D A G M s.heap H locs → lv_has ls 4 [(0, .ref G.2.2.1), (1, .int v1), (2, .int v2), (3, .int v3)] → W p l e (rM 0 0) s m args below meth c H locs 0 0 (MQ below (mQv D A G M') args s 0 0 A) (F0 m 28 ls [.int z0, .int z1, .ref (G.2.2.2 27)]) := by
  have hx := B.1
  have hb := B.2.1
  intro M v1 v2 v3 z0 z1 hq _ _ ls hW hl
  unfold q_react_28 at hq
  obtain ⟨hc, hq⟩ := chk_e hq
  obtain ⟨hc2, hq⟩ := chk_e hq
  refine m_zast B hW mA_27 hc2 hc dX12_react_28 (fun H locs M2 eM hW => ?_)
  replace hq := lt9_u eM hq
  clear eM
  refine lv_aload_n hx hb dX12_react_29 rfl (lv_at hl 0 rfl) ?_
  refine m_get B hW 23 (by decide) u_865 (v := .ref (G.2.2.2 23)) rfl dX12_react_30 ?_
  refine lv_aload_n hx hb dX12_react_33 rfl (lv_at hl 0 rfl) ?_
  refine m_get B hW 30 (by decide) u_872 (v := .int (M2 30 0)) rfl dX12_react_34 ?_
  refine lv_iload_n hx hb dX12_react_37 rfl (lv_at hl 2 rfl) ?_
  refine lv_iconst (v := 2) hx hb dX12_react_38 (by decide) ?_
  refine lv_icmp_ne (tgt := 51) hx hb dX12_react_39 (by decide) (fun hc => ?_) (fun hc => ?_)
  · replace hq := if_n hc hq
    refine lv_aload_n hx hb dX12_react_51 rfl (lv_at hl 0 rfl) ?_
    refine m_get B hW 18 (by decide) u_860 (v := .ref (G.2.2.2 18)) rfl dX12_react_52 ?_
    refine lv_iload_n hx hb dX12_react_55 rfl (lv_at hl 1 rfl) ?_
    obtain ⟨hc, hq⟩ := chk_e hq
    refine m_iald B hW mA_18 hc dX12_react_56 ?_
    exact k_react_57 B M2 v1 v2 v3 (M2 18 v1.toNatClampNeg) (M2 30 0) hq _ _ ls hW (lv_sub hl [0, 1, 2, 3] rfl)
  · replace hq := if_y hc hq
    refine lv_aload_n hx hb dX12_react_42 rfl (lv_at hl 0 rfl) ?_
    refine m_get B hW 20 (by decide) u_862 (v := .ref (G.2.2.2 20)) rfl dX12_react_43 ?_
    refine lv_iload_n hx hb dX12_react_46 rfl (lv_at hl 1 rfl) ?_
    obtain ⟨hc, hq⟩ := chk_e hq
    refine m_iald B hW mA_20 hc dX12_react_47 ?_
    refine lv_goto (tgt := 57) hx hb dX12_react_48 (by decide) ?_
    exact k_react_57 B M2 v1 v2 v3 (M2 20 v1.toNatClampNeg) (M2 30 0) hq _ _ ls hW (lv_sub hl [0, 1, 2, 3] rfl)
set_option maxHeartbeats 4000000 in
set_option maxRecDepth 100000 in
theorem c_react {l : Launch} {D : va_G} {A : Nat → Prop} {G : MG} (M : MS) (p1 p2 p3 : Int32) {M' : MS} (hq : q_react M p1 p2 p3 = some M') : Met l yX12_react (wM yX12_react prog_14_method_16_code 4 none) (rM 0 0) (va_Pc [.ref G.2.2.1, .int p1, .int p2, .int p3] (mPre D A G M)) (mQv D A G M') 0 0 A := by
  refine m_head (by decide) rfl (Nat.le_of_ble_eq_true rfl) ?_
  intro p e s m args below meth c ls B hW hl
  have hx := B.1
  have hb := B.2.1
  have hl : lv_has ls 4 [(0, .ref G.2.2.1), (1, .int p1), (2, .int p2), (3, .int p3)] := hl
  unfold q_react at hq
  refine lv_aload_n hx hb dX12_react_0 rfl (lv_at hl 0 rfl) ?_
  refine m_get B hW 28 (by decide) u_870 (v := .ref (G.2.2.2 28)) rfl dX12_react_1 ?_
  refine lv_aload_n hx hb dX12_react_4 rfl (lv_at hl 0 rfl) ?_
  refine m_get B hW 30 (by decide) u_872 (v := .int (M 30 0)) rfl dX12_react_5 ?_
  refine lv_iconst (v := 0) hx hb dX12_react_8 (by decide) ?_
  obtain ⟨hc, hq⟩ := chk_e hq
  obtain ⟨hc2, hq⟩ := chk_e hq
  refine m_zast B hW mA_28 hc2 hc dX12_react_9 (fun H locs M1 eM hW => ?_)
  replace hq := lt9_u eM hq
  clear eM
  refine lv_aload_n hx hb dX12_react_10 rfl (lv_at hl 0 rfl) ?_
  refine m_get B hW 27 (by decide) u_869 (v := .ref (G.2.2.2 27)) rfl dX12_react_11 ?_
  refine lv_aload_n hx hb dX12_react_14 rfl (lv_at hl 0 rfl) ?_
  refine m_get B hW 30 (by decide) u_872 (v := .int (M1 30 0)) rfl dX12_react_15 ?_
  refine lv_iload_n hx hb dX12_react_18 rfl (lv_at hl 2 rfl) ?_
  refine lv_iconst (v := 2) hx hb dX12_react_19 (by decide) ?_
  refine lv_icmp_ne (tgt := 27) hx hb dX12_react_20 (by decide) (fun hc => ?_) (fun hc => ?_)
  · replace hq := if_n hc hq
    refine lv_iconst (v := 0) hx hb dX12_react_27 (by decide) ?_
    exact k_react_28 B M1 p1 p2 p3 0 (M1 30 0) hq _ _ ls hW (lv_sub hl [0, 1, 2, 3] rfl)
  · replace hq := if_y hc hq
    refine lv_iconst (v := 1) hx hb dX12_react_23 (by decide) ?_
    refine lv_goto (tgt := 28) hx hb dX12_react_24 (by decide) ?_
    exact k_react_28 B M1 p1 p2 p3 1 (M1 30 0) hq _ _ ls hW (lv_sub hl [0, 1, 2, 3] rfl)
theorem mC_react : mC yX12_react prog_14_method_16_code 4 none 165 3 := ⟨fun _ => g_V u_1067 u_1069 us_50 u_5 u_1070, by decide +kernel⟩
set_option maxHeartbeats 4000000 in
set_option maxRecDepth 100000 in
theorem k_settle_22 {p : Program} {l : Launch} {e : Env} {s : State} {m : MethodId} {args : Array Value} {below : List Frame} {meth : Method} {c : Code} {D : va_G} {A : Nat → Prop} {G : MG} {M' : MS} (B : mB p s m args meth c D G prog_14_method_15_code 5 none (Cond.code yX12_settle prog_14_method_15_code 5 none)) :
    ∀ (n : Nat) (M : MS) (v1 v2 v3 v4 : Int32), q_settle_22 n M v1 v2 v3 v4 = some M' → ∀ (H : Heap) (locs : List Loc) (ls : Array Slot), mOK D A G M s.heap H locs → lv_has ls 5 [(0, .ref G.2.2.1), (1, .int v1), (2, .int v2), (3, .int v3), (4, .int v4)] → W p l e (rM 1 23) s m args below meth c H locs 0 0 (MQ below (mQv D A G M') args s 0 0 A) (F0 m 22 ls []) := by
  have hx := B.1
  have hb := B.2.1
  intro n
  induction n with
  | zero => intro M v1 v2 v3 v4 hq; cases hq
  | succ n ih =>
    intro M v1 v2 v3 v4 hq _ _ ls hW hl
    replace hq : (if v4 < 0 then chk (inb v1 3000) (lt9 (mput M 5 v1.toNatClampNeg (-1)) (fun M3 => some M3)) else bnd (q_react M v4 v2 v3) (fun M4 => chk (inb v4 12000) (q_settle_22 n M4 v1 v2 v3 (M4 16 v4.toNatClampNeg)))) = some M' := hq
    refine lv_iload hx hb dX12_settle_22 (lv_at hl 4 rfl) ?_
    refine lv_if_lt (tgt := 47) hx hb dX12_settle_24 (by decide) (fun hc => ?_) (fun hc => ?_)
    · replace hq := if_y hc hq
      refine lv_aload_n hx hb dX12_settle_47 rfl (lv_at hl 0 rfl) ?_
      refine m_get B hW 5 (by decide) u_847 (v := .ref (G.2.2.2 5)) rfl dX12_settle_48 ?_
      refine lv_iload_n hx hb dX12_settle_51 rfl (lv_at hl 1 rfl) ?_
      refine lv_iconst (v := (-1)) hx hb dX12_settle_52 (by decide) ?_
      obtain ⟨hc, hq⟩ := chk_e hq
      refine m_iast B hW mA_5 hc dX12_settle_53 (fun H locs M3 eM hW => ?_)
      replace hq := lt9_u eM hq
      clear eM
      exact m_vret B hW hq dX12_settle_54
    · replace hq := if_n hc hq
      refine lv_aload_n hx hb dX12_settle_27 rfl (lv_at hl 0 rfl) ?_
      refine lv_iload hx hb dX12_settle_28 (lv_at hl 4 rfl) ?_
      refine lv_iload_n hx hb dX12_settle_30 rfl (lv_at hl 2 rfl) ?_
      refine lv_iload_n hx hb dX12_settle_31 rfl (lv_at hl 3 rfl) ?_
      obtain ⟨M4, hg, hq⟩ := bnd_e hq
      refine m_callv (As := [.int v4, .int v2, .int v3]) (rest := []) B hW hl.1 (c_react M v4 v2 v3 hg) mC_react rfl ⟨by decide, by decide⟩ rfl (Nat.le_of_ble_eq_true rfl) dX12_settle_32 (fun H locs hW => ?_)
      clear hg
      refine lv_aload_n hx hb dX12_settle_35 rfl (lv_at hl 0 rfl) ?_
      refine m_get B hW 16 (by decide) u_858 (v := .ref (G.2.2.2 16)) rfl dX12_settle_36 ?_
      refine lv_iload hx hb dX12_settle_39 (lv_at hl 4 rfl) ?_
      obtain ⟨hc, hq⟩ := chk_e hq
      refine m_iald B hW mA_16 hc dX12_settle_41 ?_
      refine lv_istore (lv' := [(4, .int (M4 16 v4.toNatClampNeg)), (0, .ref G.2.2.1), (1, .int v1), (2, .int v2), (3, .int v3)]) hx hb dX12_settle_42 hl (by decide) rfl (fun ls hl => ?_)
      refine lv_goto (tgt := 22) hx hb dX12_settle_44 (by decide) ?_
      exact ih M4 v1 v2 v3 (M4 16 v4.toNatClampNeg) hq _ _ ls hW (lv_sub hl [1, 2, 3, 4, 0] rfl)
set_option maxHeartbeats 4000000 in
set_option maxRecDepth 100000 in
theorem c_settle {l : Launch} {D : va_G} {A : Nat → Prop} {G : MG} (n : Nat) (M : MS) (p1 p2 p3 : Int32) {M' : MS} (hq : q_settle n M p1 p2 p3 = some M') : Met l yX12_settle (wM yX12_settle prog_14_method_15_code 5 none) (rM 1 23) (va_Pc [.ref G.2.2.1, .int p1, .int p2, .int p3] (mPre D A G M)) (mQv D A G M') 0 0 A := by
  refine m_head (by decide) rfl (Nat.le_of_ble_eq_true rfl) ?_
  intro p e s m args below meth c ls B hW hl
  have hx := B.1
  have hb := B.2.1
  have hl : lv_has ls 5 [(0, .ref G.2.2.1), (1, .int p1), (2, .int p2), (3, .int p3)] := hl
  unfold q_settle at hq
  refine lv_aload_n hx hb dX12_settle_0 rfl (lv_at hl 0 rfl) ?_
  refine m_get B hW 3 (by decide) u_845 (v := .ref (G.2.2.2 3)) rfl dX12_settle_1 ?_
  refine lv_iload_n hx hb dX12_settle_4 rfl (lv_at hl 1 rfl) ?_
  refine lv_iload_n hx hb dX12_settle_5 rfl (lv_at hl 2 rfl) ?_
  obtain ⟨hc, hq⟩ := chk_e hq
  refine m_iast B hW mA_3 hc dX12_settle_6 (fun H locs M1 eM hW => ?_)
  replace hq := lt9_u eM hq
  clear eM
  refine lv_aload_n hx hb dX12_settle_7 rfl (lv_at hl 0 rfl) ?_
  refine m_get B hW 4 (by decide) u_846 (v := .ref (G.2.2.2 4)) rfl dX12_settle_8 ?_
  refine lv_iload_n hx hb dX12_settle_11 rfl (lv_at hl 1 rfl) ?_
  refine lv_iload_n hx hb dX12_settle_12 rfl (lv_at hl 3 rfl) ?_
  obtain ⟨hc, hq⟩ := chk_e hq
  refine m_iast B hW mA_4 hc dX12_settle_13 (fun H locs M2 eM hW => ?_)
  replace hq := lt9_u eM hq
  clear eM
  refine lv_aload_n hx hb dX12_settle_14 rfl (lv_at hl 0 rfl) ?_
  refine m_get B hW 5 (by decide) u_847 (v := .ref (G.2.2.2 5)) rfl dX12_settle_15 ?_
  refine lv_iload_n hx hb dX12_settle_18 rfl (lv_at hl 1 rfl) ?_
  obtain ⟨hc, hq⟩ := chk_e hq
  refine m_iald B hW mA_5 hc dX12_settle_19 ?_
  refine lv_istore (lv' := [(4, .int (M2 5 p1.toNatClampNeg)), (0, .ref G.2.2.1), (1, .int p1), (2, .int p2), (3, .int p3)]) hx hb dX12_settle_20 hl (by decide) rfl (fun ls hl => ?_)
  exact k_settle_22 B n M2 p1 p2 p3 (M2 5 p1.toNatClampNeg) hq _ _ ls hW (lv_sub hl [1, 2, 3, 4, 0] rfl)
theorem mC_settle : mC yX12_settle prog_14_method_15_code 5 none 158 3 := ⟨fun _ => g_V u_1063 u_1065 us_49 u_5 u_1066, by decide +kernel⟩
