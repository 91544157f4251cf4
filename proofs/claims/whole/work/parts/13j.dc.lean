set_option maxHeartbeats 4000000 in
set_option maxRecDepth 100000 in
theorem k_X11_doJob_155 {p : Program} {l : Launch} {e : Env} {s : State} {m : MethodId} {args : Array Value} {below : List Frame} {meth : Method} {c : Code} {D : va_G} {A : Nat → Prop} {G : DG} {d : Nat} {r : Int32} {S' : DS} {TC TZ : Nat} (B : dB p l s m args meth c D A G yX11_doJob.cls yX11_doJob.name cX11_doJob 6 none (Cond.code yX11_doJob cX11_doJob 6 none)) :
    ∀ (n : Nat) (S : DS) (v1 : Option Nat) (z0 : Int32) (C Z : Nat), q_X11_doJob_155 G.2.2 n S d v1 z0 = some (r, S', C, Z) → ∀ (H : Heap) (locs : List Loc) (ls : Array Slot) (cells slots : Nat), dOK D A G S s.heap H locs → lv_has ls 6 [(0, .ref d), (1, va_rf v1)] → cells + C = (rD 11 303 TC TZ).cells ∧ slots + Z = (rD 11 303 TC TZ).slots → W p l e (rD 11 303 TC TZ) s m args below meth c H locs cells slots (MQ below (dQv D A G S') args s (rD 11 303 TC TZ).cells (rD 11 303 TC TZ).slots A) (F0 m 155 ls [.int z0]) := by
  have hx := B.1
  have hb := B.2.1
  intro n S v1 z0 C Z hq H locs ls cells slots hW hl hT
  unfold q_X11_doJob_155 at hq
  refine e_istore (lv' := [(5, .int z0), (0, .ref d), (1, va_rf v1)]) hx hb dX11_doJob_155 hl (by decide) (catc rfl (catc rf_cat catn)) rfl (fun ls hl => ?_)
  refine lv_aload_n hx hb dX11_doJob_157 rfl (lv_at hl 1 rfl) ?_
  refine d_aload_n hx hb dX11_doJob_158 rfl (lv_at hl 2 rfl) ?_
  obtain ⟨b12, hb12, hq⟩ := bnd_e hq
  refine W.eq (g2 := F0 m 159 ls [.ref b12, .ref d]) (by rw [hb12]; rfl) ?_
  obtain ⟨hk13, hq⟩ := chk_e hq
  refine d_get B hW (ci := 4) inT_4 rfl (dF_4 hk13) (by rw [hk13]; decide) 2 (by decide) u_497 (Or.inl rfl) (v := va_rf (dP S 402 b12)) rfl dX11_doJob_159 ?_
  refine lv_iload hx hb dX11_doJob_162 (lv_at hl 0 rfl) ?_
  obtain ⟨hk14, hq⟩ := chk_e hq
  obtain ⟨r15, S16, C1, Z1, C2, Z2, hg, hq2, rfl, rfl⟩ := bndc_e hq
  replace hq := hq2
  clear hq2
  refine d_rv (d_runV (As := [va_rf (dP S 402 b12), .int z0]) (rest := []) B hW hl.1 (d_recv B hW (ci := 11) rfl (dF_11 hk14) (by rw [hk14]; decide)) (c_X11_finish B.2.2.2.2.2.2.2.2.2.2 n S d (dP S 402 b12) z0 hg) (g_V u_786 u_788 us_36 u_1 u_789) y1_X11_finish rfl ⟨Nat.le_of_ble_eq_true rfl, Nat.le_of_ble_eq_true rfl⟩ hT rfl (Nat.le_of_ble_eq_true rfl) dX11_doJob_164) hW hT (fun H locs cells slots hW hT => ?_)
  clear hg
  exact d_vret B hW hq hT dX11_doJob_167
set_option maxHeartbeats 4000000 in
set_option maxRecDepth 100000 in
theorem k_X11_doJob_123 {p : Program} {l : Launch} {e : Env} {s : State} {m : MethodId} {args : Array Value} {below : List Frame} {meth : Method} {c : Code} {D : va_G} {A : Nat → Prop} {G : DG} {d : Nat} {r : Int32} {S' : DS} {TC TZ : Nat} (B : dB p l s m args meth c D A G yX11_doJob.cls yX11_doJob.name cX11_doJob 6 none (Cond.code yX11_doJob cX11_doJob 6 none)) :
    ∀ (n : Nat) (S : DS) (v1 : Option Nat) (z0 : Option Nat) (C Z : Nat), q_X11_doJob_123 G.2.2 n S d v1 z0 = some (r, S', C, Z) → ∀ (H : Heap) (locs : List Loc) (ls : Array Slot) (cells slots : Nat), dOK D A G S s.heap H locs → lv_has ls 6 [(0, .ref d), (1, va_rf v1)] → cells + C = (rD 11 303 TC TZ).cells ∧ slots + Z = (rD 11 303 TC TZ).slots → W p l e (rD 11 303 TC TZ) s m args below meth c H locs cells slots (MQ below (dQv D A G S') args s (rD 11 303 TC TZ).cells (rD 11 303 TC TZ).slots A) (F0 m 123 ls [va_rf z0]) := by
  have hx := B.1
  have hb := B.2.1
  intro n S v1 z0 C Z hq H locs ls cells slots hW hl hT
  unfold q_X11_doJob_123 at hq
  refine e_astore (x := z0) (lv' := [(4, va_rf z0), (0, .ref d), (1, va_rf v1)]) hx hb dX11_doJob_123 hl (by decide) (catc rfl (catc rf_cat catn)) rfl (fun ls hl => ?_)
  refine lv_aload_n hx hb dX11_doJob_125 rfl (lv_at hl 1 rfl) ?_
  refine d_aload_n hx hb dX11_doJob_126 rfl (lv_at hl 2 rfl) ?_
  obtain ⟨b3, hb3, hq⟩ := bnd_e hq
  refine W.eq (g2 := F0 m 127 ls [.ref b3, .ref d]) (by rw [hb3]; rfl) ?_
  obtain ⟨hk4, hq⟩ := chk_e hq
  refine d_get B hW (ci := 4) inT_4 rfl (dF_4 hk4) (by rw [hk4]; decide) 5 (by decide) u_503 (Or.inl rfl) (v := .int (dI S 405 b3)) rfl dX11_doJob_127 ?_
  obtain ⟨hk5, hq⟩ := chk_e hq
  obtain ⟨hz, hq⟩ := chk_e hq
  refine d_put B hW (ci := 11) inT_11 tyX11 tyX11_ok nmX11 rfl (dF_11 hk5) (by rw [hk5]; decide) (by rw [hk5]; decide) 9 (by decide) u_74 (Or.inl rfl) (Or.inl rfl) (ty := .boolean) (tyX11_ok 9 (by decide)) (isB_narrow hz) (isB_fits hz) (Nat.le_of_ble_eq_true rfl) (S1 := sI S 1109 d (dI S 405 b3)) (ds_11_9 hk5 (dI S 405 b3)) ⟨rfl, rfl, rfl⟩ (fun b hb => dF_sI hb) dX11_doJob_130 (fun H locs hW => ?_)
  obtain ⟨S6, eS⟩ : ∃ z, z = sI S 1109 d (dI S 405 b3) := ⟨_, rfl⟩
  rw [← eS] at hW
  replace hq := lt9_u eS hq
  have hk7 : dK S6 b3 = 5 := by rw [eS]; exact hk4
  have hk8 : dK S6 d = 12 := by rw [eS]; exact hk5
  clear eS
  refine d_aload hx hb dX11_doJob_133 (lv_at hl 0 rfl) ?_
  refine d_ifnonnull (tgt := 145) hx hb dX11_doJob_135 (by decide) (fun hc => ?_) (fun hc => ?_)
  · replace hq := if_n hc hq
    refine d_aload hx hb dX11_doJob_145 (lv_at hl 0 rfl) ?_
    refine lv_aload_n hx hb dX11_doJob_147 rfl (lv_at hl 1 rfl) ?_
    refine d_aload_n hx hb dX11_doJob_148 rfl (lv_at hl 2 rfl) ?_
    refine W.eq (g2 := F0 m 149 ls [.ref b3, .ref d, va_rf z0]) (by rw [hb3]; rfl) ?_
    refine d_get B hW (ci := 4) inT_4 rfl (dF_4 hk7) (by rw [hk7]; decide) 6 (by decide) u_505 (Or.inl rfl) (v := .int (dI S6 406 b3)) rfl dX11_doJob_149 ?_
    obtain ⟨b9, hb9, hq⟩ := bnd_e hq
    refine W.eq (g2 := F0 m 152 ls [.int (dI S6 406 b3), .ref d, .ref b9]) (by rw [hb9]; rfl) ?_
    by_cases hkf : dK S6 b9 = 9
    · replace hq := if_y hkf hq
      obtain ⟨r10, S11, C1, Z1, C2, Z2, hg, hq2, rfl, rfl⟩ := bndc_e hq
      replace hq := hq2
      clear hq2
      refine d_ri (d_runU (n := 2) (y := ⟨"PromiseDesk$Function", "callIn", "(LPromiseDesk;I)I"⟩) (As := [.ref d, .int (dI S6 406 b3)]) (rest := []) B hW hl.1 (d_recv B hW (ci := 8) rfl (dF_8 hkf) (by rw [hkf]; decide)) (c_X8_callIn B.2.2.2.2.2.2.2.2.2.2 n S6 b9 (some d) (dI S6 406 b3) hg) u_769 u_771 u_785 u_751 u_21 u_753 un_15 (by decide +kernel) rfl ⟨Nat.le_of_ble_eq_true rfl, Nat.le_of_ble_eq_true rfl⟩ hT rfl (Nat.le_of_ble_eq_true rfl) dX11_doJob_152) hW hT (fun H locs cells slots hW hT => ?_)
      exact k_X11_doJob_155 B n S11 v1 r10 _ _ hq _ _ ls _ _ hW (lv_sub hl [1, 2] rfl) hT
    replace hq := if_n hkf hq
    clear hkf
    by_cases hkf : dK S6 b9 = 6
    · replace hq := if_y hkf hq
      obtain ⟨r17, S18, C1, Z1, C2, Z2, hg, hq2, rfl, rfl⟩ := bndc_e hq
      replace hq := hq2
      clear hq2
      refine d_ri (d_runU (n := 2) (y := ⟨"PromiseDesk$Function", "callIn", "(LPromiseDesk;I)I"⟩) (As := [.ref d, .int (dI S6 406 b3)]) (rest := []) B hW hl.1 (d_recv B hW (ci := 5) rfl (dF_5 hkf) (by rw [hkf]; decide)) (c_X5_callIn B.2.2.2.2.2.2.2.2.2.2 n S6 b9 (some d) (dI S6 406 b3) hg) u_769 u_771 u_777 u_778 u_24 u_779 un_15 (by decide +kernel) rfl ⟨Nat.le_of_ble_eq_true rfl, Nat.le_of_ble_eq_true rfl⟩ hT rfl (Nat.le_of_ble_eq_true rfl) dX11_doJob_152) hW hT (fun H locs cells slots hW hT => ?_)
      exact k_X11_doJob_155 B n S18 v1 r17 _ _ hq _ _ ls _ _ hW (lv_sub hl [1, 2] rfl) hT
    replace hq := if_n hkf hq
    clear hkf
    obtain ⟨hkf, hq⟩ := chk_e hq
    obtain ⟨r19, S20, C1, Z1, C2, Z2, hg, hq2, rfl, rfl⟩ := bndc_e hq
    replace hq := hq2
    clear hq2
    refine d_ri (d_runU (n := 2) (y := ⟨"PromiseDesk$Function", "callIn", "(LPromiseDesk;I)I"⟩) (As := [.ref d, .int (dI S6 406 b3)]) (rest := []) B hW hl.1 (d_recv B hW (ci := 3) rfl (dF_3 hkf) (by rw [hkf]; decide)) (c_X2_callIn B.2.2.2.2.2.2.2.2.2.2 n S6 b9 (some d) (dI S6 406 b3) hg) u_769 u_771 u_772 u_773 u_26 u_774 un_15 (by decide +kernel) rfl ⟨Nat.le_of_ble_eq_true rfl, Nat.le_of_ble_eq_true rfl⟩ hT rfl (Nat.le_of_ble_eq_true rfl) dX11_doJob_152) hW hT (fun H locs cells slots hW hT => ?_)
    exact k_X11_doJob_155 B n S20 v1 r19 _ _ hq _ _ ls _ _ hW (lv_sub hl [1, 2] rfl) hT
  · replace hq := if_y hc hq
    refine d_aload_n hx hb dX11_doJob_138 rfl (lv_at hl 2 rfl) ?_
    refine W.eq (g2 := F0 m 139 ls [.ref b3]) (by rw [hb3]; rfl) ?_
    refine d_get B hW (ci := 4) inT_4 rfl (dF_4 hk7) (by rw [hk7]; decide) 6 (by decide) u_505 (Or.inl rfl) (v := .int (dI S6 406 b3)) rfl dX11_doJob_139 ?_
    refine lv_goto (tgt := 155) hx hb dX11_doJob_142 (by decide) ?_
    exact k_X11_doJob_155 B n S6 v1 (dI S6 406 b3) _ _ hq _ _ ls _ _ hW (lv_sub hl [1, 2] rfl) hT
set_option maxHeartbeats 4000000 in
set_option maxRecDepth 100000 in
theorem c_X11_doJob {l : Launch} (hst : l.stackTraces = false) {D : va_G} {A : Nat → Prop} {G : DG} (n : Nat) (S : DS) (d : Nat) (p1 : Option Nat) {r : Int32} {S' : DS} {TC TZ : Nat} (hq : q_X11_doJob G.2.2 n S d p1 = some (r, S', TC, TZ)) : Met l yX11_doJob (wM yX11_doJob cX11_doJob 6 none) (rD 11 303 TC TZ) (va_Pc [.ref d, va_rf p1] (dPre D A G S)) (dQv D A G S') TC TZ A := by
  obtain ⟨C, Z, hq, hT⟩ : ∃ C Z, q_X11_doJob G.2.2 n S d p1 = some (r, S', C, Z) ∧ (0 + C = (rD 11 303 TC TZ).cells ∧ 0 + Z = (rD 11 303 TC TZ).slots) := ⟨TC, TZ, hq, Nat.zero_add _, Nat.zero_add _⟩
  refine d_head hst (by decide) (by cases p1 <;> exact Nat.le_of_ble_eq_true rfl) ?_
  intro p e s m args below meth c ls B hW hl
  have hx := B.1
  have hb := B.2.1
  have hl : lv_has ls 6 [(0, .ref d), (1, va_rf p1)] := by cases p1 <;> exact hl
  unfold q_X11_doJob at hq
  refine d_aload_n hx hb dX11_doJob_0 rfl (lv_at hl 1 rfl) ?_
  obtain ⟨b1, hb1, hq⟩ := bnd_e hq
  refine W.eq (g2 := F0 m 1 ls [.ref b1]) (by rw [hb1]; rfl) ?_
  obtain ⟨hk2, hq⟩ := chk_e hq
  refine d_get B hW (ci := 4) inT_4 rfl (dF_4 hk2) (by rw [hk2]; decide) 3 (by decide) u_499 (Or.inl rfl) (v := va_rf (dP S 403 b1)) rfl dX11_doJob_1 ?_
  refine d_ifnull (tgt := 30) hx hb dX11_doJob_4 (by decide) (fun hc => ?_) (fun hc => ?_)
  · replace hq := if_y hc hq
    refine d_aload_n hx hb dX11_doJob_30 rfl (lv_at hl 1 rfl) ?_
    refine W.eq (g2 := F0 m 31 ls [.ref b1]) (by rw [hb1]; rfl) ?_
    refine d_get B hW (ci := 4) inT_4 rfl (dF_4 hk2) (by rw [hk2]; decide) 4 (by decide) u_501 (Or.inl rfl) (v := va_rf (dP S 404 b1)) rfl dX11_doJob_31 ?_
    refine e_astore (x := (dP S 404 b1)) (lv' := [(4, va_rf (dP S 404 b1)), (0, .ref d), (1, va_rf p1)]) hx hb dX11_doJob_34 hl (by decide) (catc rfl (catc rf_cat catn)) rfl (fun ls hl => ?_)
    refine d_aload hx hb dX11_doJob_36 (lv_at hl 0 rfl) ?_
    obtain ⟨ho, hq⟩ := chk_e hq
    refine d_instP B hW (x := (dP S 404 b1)) ho u_189 dX11_doJob_38 ?_
    refine lv_if_eq (tgt := 73) hx hb dX11_doJob_41 (by decide) (fun hc => ?_) (fun hc => ?_)
    · replace hq := if_y hc hq
      refine d_aload_n hx hb dX11_doJob_73 rfl (lv_at hl 2 rfl) ?_
      refine W.eq (g2 := F0 m 74 ls [.ref b1]) (by rw [hb1]; rfl) ?_
      refine d_get B hW (ci := 4) inT_4 rfl (dF_4 hk2) (by rw [hk2]; decide) 4 (by decide) u_501 (Or.inl rfl) (v := va_rf (dP S 404 b1)) rfl dX11_doJob_74 ?_
      refine e_astore (x := (dP S 404 b1)) (lv' := [(4, va_rf (dP S 404 b1)), (0, .ref d), (1, va_rf p1)]) hx hb dX11_doJob_77 hl (by decide) (catc rf_cat (catc rfl (catc rf_cat catn))) rfl (fun ls hl => ?_)
      refine d_aload hx hb dX11_doJob_79 (lv_at hl 0 rfl) ?_
      obtain ⟨ho, hq⟩ := chk_e hq
      refine d_instT B hW (x := (dP S 404 b1)) ho u_407 dX11_doJob_81 ?_
      refine lv_if_eq (tgt := 105) hx hb dX11_doJob_84 (by decide) (fun hc => ?_) (fun hc => ?_)
      · replace hq := if_y hc hq
        refine d_aload_n hx hb dX11_doJob_105 rfl (lv_at hl 2 rfl) ?_
        refine W.eq (g2 := F0 m 106 ls [.ref b1]) (by rw [hb1]; rfl) ?_
        refine d_get B hW (ci := 4) inT_4 rfl (dF_4 hk2) (by rw [hk2]; decide) 5 (by decide) u_503 (Or.inl rfl) (v := .int (dI S 405 b1)) rfl dX11_doJob_106 ?_
        refine lv_if_eq (tgt := 119) hx hb dX11_doJob_109 (by decide) (fun hc => ?_) (fun hc => ?_)
        · replace hq := if_y hc hq
          refine d_aload_n hx hb dX11_doJob_119 rfl (lv_at hl 2 rfl) ?_
          refine W.eq (g2 := F0 m 120 ls [.ref b1]) (by rw [hb1]; rfl) ?_
          refine d_get B hW (ci := 4) inT_4 rfl (dF_4 hk2) (by rw [hk2]; decide) 0 (by decide) u_493 (Or.inl rfl) (v := va_rf (dP S 400 b1)) rfl dX11_doJob_120 ?_
          exact k_X11_doJob_123 B n S p1 (dP S 400 b1) _ _ hq _ _ ls _ _ hW (lv_sub hl [1, 2] rfl) hT
        · replace hq := if_n hc hq
          refine d_aload_n hx hb dX11_doJob_112 rfl (lv_at hl 2 rfl) ?_
          refine W.eq (g2 := F0 m 113 ls [.ref b1]) (by rw [hb1]; rfl) ?_
          refine d_get B hW (ci := 4) inT_4 rfl (dF_4 hk2) (by rw [hk2]; decide) 1 (by decide) u_495 (Or.inl rfl) (v := va_rf (dP S 401 b1)) rfl dX11_doJob_113 ?_
          refine lv_goto (tgt := 123) hx hb dX11_doJob_116 (by decide) ?_
          exact k_X11_doJob_123 B n S p1 (dP S 401 b1) _ _ hq _ _ ls _ _ hW (lv_sub hl [1, 2] rfl) hT
      · replace hq := if_n hc hq
        refine d_aload hx hb dX11_doJob_87 (lv_at hl 0 rfl) ?_
        obtain ⟨b21, hb21, hq⟩ := bnd_e hq
        refine W.eq (g2 := F0 m 89 ls [.ref b21]) (by rw [hb21]; rfl) ?_
        obtain ⟨hk22, hq⟩ := chk_e hq
        refine d_cast B (d_recv B hW (ci := 9) rfl (dF_9 hk22) (by rw [hk22]; decide)) u_407 un_24 dX11_doJob_89 ?_
        refine e_astore_n (x := (some b21)) (lv' := [(3, .ref b21), (4, va_rf (dP S 404 b1)), (0, .ref d), (1, va_rf p1)]) hx hb dX11_doJob_92 rfl hl (by decide) (catc rf_cat (catc rfl (catc rf_cat catn))) rfl (fun ls hl => ?_)
        refine lv_aload_n hx hb dX11_doJob_93 rfl (lv_at hl 2 rfl) ?_
        refine lv_aload_n hx hb dX11_doJob_94 rfl (lv_at hl 0 rfl) ?_
        refine d_aload_n hx hb dX11_doJob_95 rfl (lv_at hl 3 rfl) ?_
        refine W.eq (g2 := F0 m 96 ls [.ref b1, .ref b21, .ref d]) (by rw [hb1]; rfl) ?_
        refine d_get B hW (ci := 4) inT_4 rfl (dF_4 hk2) (by rw [hk2]; decide) 2 (by decide) u_497 (Or.inl rfl) (v := va_rf (dP S 402 b1)) rfl dX11_doJob_96 ?_
        obtain ⟨hk23, hq⟩ := chk_e hq
        obtain ⟨r24, S25, C1, Z1, C2, Z2, hg, hq2, rfl, rfl⟩ := bndc_e hq
        replace hq := hq2
        clear hq2
        refine d_rv (d_runV (As := [.ref b21, va_rf (dP S 402 b1)]) (rest := []) B hW hl.1 (d_recv B hW (ci := 11) rfl (dF_11 hk23) (by rw [hk23]; decide)) (c_X11_callThen B.2.2.2.2.2.2.2.2.2.2 n S d (some b21) (dP S 402 b1) hg) (g_V u_760 u_762 us_34 u_1 u_763) y1_X11_callThen rfl ⟨Nat.le_of_ble_eq_true rfl, Nat.le_of_ble_eq_true rfl⟩ hT rfl (Nat.le_of_ble_eq_true rfl) dX11_doJob_99) hW hT (fun H locs cells slots hW hT => ?_)
        clear hg
        refine lv_goto (tgt := 167) hx hb dX11_doJob_102 (by decide) ?_
        exact d_vret B hW hq hT dX11_doJob_167
    · replace hq := if_n hc hq
      refine d_aload hx hb dX11_doJob_44 (lv_at hl 0 rfl) ?_
      obtain ⟨b26, hb26, hq⟩ := bnd_e hq
      refine W.eq (g2 := F0 m 46 ls [.ref b26]) (by rw [hb26]; rfl) ?_
      obtain ⟨hk27, hq⟩ := chk_e hq
      refine d_cast B (d_recv B hW (ci := 6) rfl (dF_6 hk27) (by rw [hk27]; decide)) u_189 un_23 dX11_doJob_46 ?_
      refine e_astore_n (x := (some b26)) (lv' := [(2, .ref b26), (4, va_rf (dP S 404 b1)), (0, .ref d), (1, va_rf p1)]) hx hb dX11_doJob_49 rfl hl (by decide) (catc rf_cat (catc rfl (catc rf_cat catn))) rfl (fun ls hl => ?_)
      refine lv_aload_n hx hb dX11_doJob_50 rfl (lv_at hl 2 rfl) ?_
      refine lv_aload_n hx hb dX11_doJob_51 rfl (lv_at hl 0 rfl) ?_
      refine d_aload_n hx hb dX11_doJob_52 rfl (lv_at hl 3 rfl) ?_
      refine W.eq (g2 := F0 m 53 ls [.ref b1, .ref b26, .ref d]) (by rw [hb1]; rfl) ?_
      refine d_get B hW (ci := 4) inT_4 rfl (dF_4 hk2) (by rw [hk2]; decide) 2 (by decide) u_497 (Or.inl rfl) (v := va_rf (dP S 402 b1)) rfl dX11_doJob_53 ?_
      obtain ⟨r28, S29, C1, Z1, C2, Z2, hg, hq2, rfl, rfl⟩ := bndc_e hq
      replace hq := hq2
      clear hq2
      refine d_rq (d_runS (As := [va_rf (dP S 402 b1)]) (rest := [.ref b26, .ref d]) B hW hl.1 (c_X8_resolving B.2.2.2.2.2.2.2.2.2.2 S (dP S 402 b1) hg) (g_S u_670 u_671 u_21 u_672) y1_X8_resolving rfl ⟨Nat.le_of_ble_eq_true rfl, Nat.le_of_ble_eq_true rfl⟩ hT rfl (Nat.le_of_ble_eq_true rfl) dX11_doJob_56) hW hT (fun H locs cells slots hW hT => ?_)
      clear hg
      refine d_aload_n hx hb dX11_doJob_59 rfl (lv_at hl 3 rfl) ?_
      refine W.eq (g2 := F0 m 60 ls [.ref b1, va_rf r28, .ref b26, .ref d]) (by rw [hb1]; rfl) ?_
      obtain ⟨hk30, hq⟩ := chk_e hq
      refine d_get B hW (ci := 4) inT_4 rfl (dF_4 hk30) (by rw [hk30]; decide) 2 (by decide) u_497 (Or.inl rfl) (v := va_rf (dP S29 402 b1)) rfl dX11_doJob_60 ?_
      obtain ⟨r31, S32, C1, Z1, C2, Z2, hg, hq2, rfl, rfl⟩ := bndc_e hq
      replace hq := hq2
      clear hq2
      refine d_rq (d_runS (As := [va_rf (dP S29 402 b1)]) (rest := [va_rf r28, .ref b26, .ref d]) B hW hl.1 (c_X8_rejecting B.2.2.2.2.2.2.2.2.2.2 S29 (dP S29 402 b1) hg) (g_S u_679 u_680 u_21 u_681) y1_X8_rejecting rfl ⟨Nat.le_of_ble_eq_true rfl, Nat.le_of_ble_eq_true rfl⟩ hT rfl (cat8 (vcc rf_cat (vcc rfl (vcc rfl vcn))) (Nat.le_of_ble_eq_true rfl)) dX11_doJob_63) hW hT (fun H locs cells slots hW hT => ?_)
      clear hg
      obtain ⟨hk33, hq⟩ := chk_e hq
      obtain ⟨r34, S35, C1, Z1, C2, Z2, hg, hq2, rfl, rfl⟩ := bndc_e hq
      replace hq := hq2
      clear hq2
      refine d_ri (d_runV (As := [.ref b26, va_rf r28, va_rf r31]) (rest := []) B hW hl.1 (d_recv B hW (ci := 11) rfl (dF_11 hk33) (by rw [hk33]; decide)) (c_X11_derive B.2.2.2.2.2.2.2.2.2.2 S32 d (some b26) r28 r31 hg) (g_V u_547 u_549 us_21 u_1 u_550) y1_X11_derive rfl ⟨Nat.le_of_ble_eq_true rfl, Nat.le_of_ble_eq_true rfl⟩ hT rfl (Nat.le_of_ble_eq_true rfl) dX11_doJob_66) hW hT (fun H locs cells slots hW hT => ?_)
      clear hg
      refine lv_pop hx hb dX11_doJob_69 rfl ?_
      refine lv_goto (tgt := 167) hx hb dX11_doJob_70 (by decide) ?_
      exact d_vret B hW hq hT dX11_doJob_167
  · replace hq := if_n hc hq
    refine lv_aload_n hx hb dX11_doJob_7 rfl (lv_at hl 0 rfl) ?_
    refine d_aload_n hx hb dX11_doJob_8 rfl (lv_at hl 1 rfl) ?_
    refine W.eq (g2 := F0 m 9 ls [.ref b1, .ref d]) (by rw [hb1]; rfl) ?_
    refine d_get B hW (ci := 4) inT_4 rfl (dF_4 hk2) (by rw [hk2]; decide) 3 (by decide) u_499 (Or.inl rfl) (v := va_rf (dP S 403 b1)) rfl dX11_doJob_9 ?_
    refine d_aload_n hx hb dX11_doJob_12 rfl (lv_at hl 1 rfl) ?_
    obtain ⟨hk36, hq⟩ := chk_e hq
    obtain ⟨r37, S38, C1, Z1, C2, Z2, hg, hq2, rfl, rfl⟩ := bndc_e hq
    replace hq := hq2
    clear hq2
    refine d_ri (d_runV (As := [va_rf (dP S 403 b1), va_rf p1]) (rest := []) B hW hl.1 (d_recv B hW (ci := 11) rfl (dF_11 hk36) (by rw [hk36]; decide)) (c_X11_hears B.2.2.2.2.2.2.2.2.2.2 n S d (dP S 403 b1) p1 hg) (g_V u_746 u_748 us_32 u_1 u_749) y1_X11_hears rfl ⟨Nat.le_of_ble_eq_true rfl, Nat.le_of_ble_eq_true rfl⟩ hT rfl (Nat.le_of_ble_eq_true rfl) dX11_doJob_13) hW hT (fun H locs cells slots hW hT => ?_)
    clear hg
    refine lv_if_eq (tgt := 167) hx hb dX11_doJob_16 (by decide) (fun hc => ?_) (fun hc => ?_)
    · replace hq := if_y hc hq
      exact d_vret B hW hq hT dX11_doJob_167
    · replace hq := if_n hc hq
      refine lv_aload_n hx hb dX11_doJob_19 rfl (lv_at hl 0 rfl) ?_
      refine d_aload_n hx hb dX11_doJob_20 rfl (lv_at hl 1 rfl) ?_
      refine W.eq (g2 := F0 m 21 ls [.ref b1, .ref d]) (by rw [hb1]; rfl) ?_
      obtain ⟨hk39, hq⟩ := chk_e hq
      refine d_get B hW (ci := 4) inT_4 rfl (dF_4 hk39) (by rw [hk39]; decide) 3 (by decide) u_499 (Or.inl rfl) (v := va_rf (dP S38 403 b1)) rfl dX11_doJob_21 ?_
      obtain ⟨hk40, hq⟩ := chk_e hq
      obtain ⟨r41, S42, C1, Z1, C2, Z2, hg, hq2, rfl, rfl⟩ := bndc_e hq
      replace hq := hq2
      clear hq2
      refine d_rv (d_runV (As := [va_rf (dP S38 403 b1)]) (rest := []) B hW hl.1 (d_recv B hW (ci := 11) rfl (dF_11 hk40) (by rw [hk40]; decide)) (c_X11_advance B.2.2.2.2.2.2.2.2.2.2 n S38 d (dP S38 403 b1) hg) (g_V u_719 u_721 us_28 u_1 u_722) y1_X11_advance rfl ⟨Nat.le_of_ble_eq_true rfl, Nat.le_of_ble_eq_true rfl⟩ hT rfl (Nat.le_of_ble_eq_true rfl) dX11_doJob_24) hW hT (fun H locs cells slots hW hT => ?_)
      clear hg
      refine lv_goto (tgt := 167) hx hb dX11_doJob_27 (by decide) ?_
      exact d_vret B hW hq hT dX11_doJob_167
set_option maxHeartbeats 4000000 in
set_option maxRecDepth 100000 in
theorem c_X11_requireRoomInLog {l : Launch} (hst : l.stackTraces = false) {D : va_G} {A : Nat → Prop} {G : DG} (S : DS) (d : Nat) {k : Nat} {r : Int32} {S' : DS} {TC TZ : Nat} (hq : q_X11_requireRoomInLog G.2.2 S d = some ((k, r), S', TC, TZ)) : vx_Met l yX11_requireRoomInLog (wM yX11_requireRoomInLog cX11_requireRoomInLog 1 none) (rD 6 90 TC TZ) (va_Pc [.ref d] (dPre D A G S)) (xQv D A G k S') (xX D A G k S') TC TZ A := by
  obtain ⟨C, Z, hq, hT⟩ : ∃ C Z, q_X11_requireRoomInLog G.2.2 S d = some ((k, r), S', C, Z) ∧ (0 + C = (rD 6 90 TC TZ).cells ∧ 0 + Z = (rD 6 90 TC TZ).slots) := ⟨TC, TZ, hq, Nat.zero_add _, Nat.zero_add _⟩
  refine x_head hst (by decide) (Nat.le_of_ble_eq_true rfl) ?_
  intro p e s m args below meth c ls B hout hW hl
  have hx := B.1
  have hb := B.2.1
  have hl : lv_has ls 1 [(0, .ref d)] := hl
  unfold q_X11_requireRoomInLog at hq
  refine lv_aload_n hx hb dX11_requireRoomInLog_0 rfl (lv_at hl 0 rfl) ?_
  obtain ⟨hk1, hq⟩ := chk_e hq
  refine d_get B hW (ci := 11) inT_11 rfl (dF_11 hk1) (by rw [hk1]; decide) 5 (by decide) u_67 (Or.inl rfl) (v := .int (dI S 1105 d)) rfl dX11_requireRoomInLog_1 ?_
  refine lv_sipush (v := 4000) hx hb dX11_requireRoomInLog_4 (by decide) ?_
  refine lv_icmp_lt (tgt := 20) hx hb dX11_requireRoomInLog_7 (by decide) (fun hc => ?_) (fun hc => ?_)
  · replace hq := if_y hc hq
    exact x_vret B hW hq hT dX11_requireRoomInLog_20
  · replace hq := if_n hc hq
    exact x_throw B hout hW hl.1 (Or.inr ⟨rfl, rfl, rfl⟩) ut_8 ⟨Nat.le_of_ble_eq_true rfl, Nat.le_of_ble_eq_true rfl⟩ dX11_requireRoomInLog_10 dX11_requireRoomInLog_13 dX11_requireRoomInLog_14 dX11_requireRoomInLog_16 dX11_requireRoomInLog_19 hq hT
set_option maxHeartbeats 4000000 in
set_option maxRecDepth 100000 in
theorem k_X11_jobs_7 {p : Program} {l : Launch} {e : Env} {s : State} {m : MethodId} {args : Array Value} {below : List Frame} {meth : Method} {c : Code} {D : va_G} {A : Nat → Prop} {G : DG} {d : Nat} {k : Nat} {r : Int32} {S' : DS} {TC TZ : Nat} (B : dB p l s m args meth c D A G yX11_jobs.cls yX11_jobs.name cX11_jobs 4 (some .int) (Cond.code yX11_jobs cX11_jobs 4 (some .int))) (hout : ∀ x ∈ c.exceptionTable.toList, False) :
    ∀ (n : Nat) (S : DS) (v1 : Int32) (v2 : Int32) (v3 : Option Nat) (C Z : Nat), q_X11_jobs_7 G.2.2 d n S v1 v2 v3 = some ((k, r), S', C, Z) → ∀ (H : Heap) (locs : List Loc) (ls : Array Slot) (cells slots : Nat), dOK D A G S s.heap H locs → lv_has ls 4 [(0, .ref d), (1, .int v1), (2, .int v2), (3, va_rf v3)] → cells + C = (rD 12 328 TC TZ).cells ∧ slots + Z = (rD 12 328 TC TZ).slots → W p l e (rD 12 328 TC TZ) s m args below meth c H locs cells slots (vx_MQ below (xQi D A G k r S') (xX D A G k S') args s (rD 12 328 TC TZ).cells (rD 12 328 TC TZ).slots A) (F0 m 7 ls []) := by
  have hx := B.1
  have hb := B.2.1
  intro n
  induction n with
  | zero => intro S v1 v2 v3 C Z hq; cases hq
  | succ n ih =>
    intro S v1 v2 v3 C Z hq H locs ls cells slots hW hl hT
    replace hq : (if v3 = none then some ((0, v2), S, 0, 0) else if v1 ≤ v2 then some ((0, v2), S, 0, 0) else chk (dK S d = 12) (bndx 0 (q_X11_requireRoom G.2.2 S d 8) (fun r3 S4 => chk (dK S4 d = 12) (bndx 0 (q_X11_requireRoomInLog G.2.2 S4 d) (fun r6 S7 => chk (dK S7 d = 12) (bndc (q_X11_dequeue G.2.2 S7 d v3) (fun r9 S10 => chk (dK S10 d = 12) (bndc (q_X11_doJob G.2.2 n S10 d v3) (fun r12 S13 => chk (dK S13 d = 12) (q_X11_jobs_7 G.2.2 d n S13 v1 (v2 + 1) (dP S13 1106 d))))))))))) = some ((k, r), S', C, Z) := hq
    refine d_aload_n hx hb dX11_jobs_7 rfl (lv_at hl 3 rfl) ?_
    refine d_ifnull (tgt := 47) hx hb dX11_jobs_8 (by decide) (fun hc => ?_) (fun hc => ?_)
    · replace hq := if_y hc hq
      refine lv_iload_n hx hb dX11_jobs_47 rfl (lv_at hl 2 rfl) ?_
      exact x_iret B hW hq hT dX11_jobs_48
    · replace hq := if_n hc hq
      refine lv_iload_n hx hb dX11_jobs_11 rfl (lv_at hl 2 rfl) ?_
      refine lv_iload_n hx hb dX11_jobs_12 rfl (lv_at hl 1 rfl) ?_
      refine lv_icmp_ge (tgt := 47) hx hb dX11_jobs_13 (by decide) (fun hc => ?_) (fun hc => ?_)
      · replace hq := if_y hc hq
        refine lv_iload_n hx hb dX11_jobs_47 rfl (lv_at hl 2 rfl) ?_
        exact x_iret B hW hq hT dX11_jobs_48
      · replace hq := if_n hc hq
        refine lv_aload_n hx hb dX11_jobs_16 rfl (lv_at hl 0 rfl) ?_
        refine lv_bipush (v := 8) hx hb dX11_jobs_17 (by decide) ?_
        obtain ⟨hk2, hq⟩ := chk_e hq
        rcases bndx_e hq with ⟨r3, S4, C1, Z1, C2, Z2, hg, hq2, rfl, rfl⟩ | ⟨k9, r9, hk9, hg, e9⟩
        rotate_left
        · cases e9
          exact x_ov B hout hk9 (x_runV (As := [.int 8]) (rest := []) B hW hl.1 (d_recv B hW (ci := 11) rfl (dF_11 hk2) (by rw [hk2]; decide)) (c_X11_requireRoom B.2.2.2.2.2.2.2.2.2.2 S d 8 hg) (g_V u_110 u_112 us_0 u_1 u_113) y1_X11_requireRoom rfl ⟨Nat.le_of_ble_eq_true rfl, Nat.le_of_ble_eq_true rfl⟩ (C2 := 0) (Z2 := 0) ⟨hT.1, hT.2⟩ rfl (Nat.le_of_ble_eq_true rfl) dX11_jobs_19) hW hT
        replace hq := hq2
        clear hq2
        refine x_rv (x_runV (As := [.int 8]) (rest := []) B hW hl.1 (d_recv B hW (ci := 11) rfl (dF_11 hk2) (by rw [hk2]; decide)) (c_X11_requireRoom B.2.2.2.2.2.2.2.2.2.2 S d 8 hg) (g_V u_110 u_112 us_0 u_1 u_113) y1_X11_requireRoom rfl ⟨Nat.le_of_ble_eq_true rfl, Nat.le_of_ble_eq_true rfl⟩ hT rfl (Nat.le_of_ble_eq_true rfl) dX11_jobs_19) hW hT (fun H locs cells slots hW hT => ?_)
        clear hg
        refine lv_aload_n hx hb dX11_jobs_22 rfl (lv_at hl 0 rfl) ?_
        obtain ⟨hk5, hq⟩ := chk_e hq
        rcases bndx_e hq with ⟨r6, S7, C1, Z1, C2, Z2, hg, hq2, rfl, rfl⟩ | ⟨k9, r9, hk9, hg, e9⟩
        rotate_left
        · cases e9
          exact x_ov B hout hk9 (x_runV (As := []) (rest := []) B hW hl.1 (d_recv B hW (ci := 11) rfl (dF_11 hk5) (by rw [hk5]; decide)) (c_X11_requireRoomInLog B.2.2.2.2.2.2.2.2.2.2 S4 d hg) (g_V u_733 u_735 us_29 u_1 u_736) y1_X11_requireRoomInLog rfl ⟨Nat.le_of_ble_eq_true rfl, Nat.le_of_ble_eq_true rfl⟩ (C2 := 0) (Z2 := 0) ⟨hT.1, hT.2⟩ rfl (Nat.le_of_ble_eq_true rfl) dX11_jobs_23) hW hT
        replace hq := hq2
        clear hq2
        refine x_rv (x_runV (As := []) (rest := []) B hW hl.1 (d_recv B hW (ci := 11) rfl (dF_11 hk5) (by rw [hk5]; decide)) (c_X11_requireRoomInLog B.2.2.2.2.2.2.2.2.2.2 S4 d hg) (g_V u_733 u_735 us_29 u_1 u_736) y1_X11_requireRoomInLog rfl ⟨Nat.le_of_ble_eq_true rfl, Nat.le_of_ble_eq_true rfl⟩ hT rfl (Nat.le_of_ble_eq_true rfl) dX11_jobs_23) hW hT (fun H locs cells slots hW hT => ?_)
        clear hg
        refine lv_aload_n hx hb dX11_jobs_26 rfl (lv_at hl 0 rfl) ?_
        refine d_aload_n hx hb dX11_jobs_27 rfl (lv_at hl 3 rfl) ?_
        obtain ⟨hk8, hq⟩ := chk_e hq
        obtain ⟨r9, S10, C1, Z1, C2, Z2, hg, hq2, rfl, rfl⟩ := bndc_e hq
        replace hq := hq2
        clear hq2
        refine d_rv (d_runV (As := [va_rf v3]) (rest := []) B hW hl.1 (d_recv B hW (ci := 11) rfl (dF_11 hk8) (by rw [hk8]; decide)) (c_X11_dequeue B.2.2.2.2.2.2.2.2.2.2 S7 d v3 hg) (g_V u_738 u_740 us_30 u_1 u_741) y1_X11_dequeue rfl ⟨Nat.le_of_ble_eq_true rfl, Nat.le_of_ble_eq_true rfl⟩ hT rfl (Nat.le_of_ble_eq_true rfl) dX11_jobs_28) hW hT (fun H locs cells slots hW hT => ?_)
        clear hg
        refine lv_aload_n hx hb dX11_jobs_31 rfl (lv_at hl 0 rfl) ?_
        refine d_aload_n hx hb dX11_jobs_32 rfl (lv_at hl 3 rfl) ?_
        obtain ⟨hk11, hq⟩ := chk_e hq
        obtain ⟨r12, S13, C1, Z1, C2, Z2, hg, hq2, rfl, rfl⟩ := bndc_e hq
        replace hq := hq2
        clear hq2
        refine d_rv (d_runV (As := [va_rf v3]) (rest := []) B hW hl.1 (d_recv B hW (ci := 11) rfl (dF_11 hk11) (by rw [hk11]; decide)) (c_X11_doJob B.2.2.2.2.2.2.2.2.2.2 n S10 d v3 hg) (g_V u_742 u_744 us_31 u_1 u_745) y1_X11_doJob rfl ⟨Nat.le_of_ble_eq_true rfl, Nat.le_of_ble_eq_true rfl⟩ hT rfl (Nat.le_of_ble_eq_true rfl) dX11_jobs_33) hW hT (fun H locs cells slots hW hT => ?_)
        clear hg
        refine e_iinc (v := v2 + 1) (lv' := [(2, .int (v2 + 1)), (0, .ref d), (1, .int v1), (3, va_rf v3)]) hx hb dX11_jobs_36 hl (k := 2) rfl rfl (by decide) (catc rfl (catc rfl (catc rfl (catc rf_cat catn)))) rfl (fun ls hl => ?_)
        refine lv_aload_n hx hb dX11_jobs_39 rfl (lv_at hl 1 rfl) ?_
        obtain ⟨hk14, hq⟩ := chk_e hq
        refine d_get B hW (ci := 11) inT_11 rfl (dF_11 hk14) (by rw [hk14]; decide) 6 (by decide) u_68 (Or.inl rfl) (v := va_rf (dP S13 1106 d)) rfl dX11_jobs_40 ?_
        refine e_astore_n (x := (dP S13 1106 d)) (lv' := [(3, va_rf (dP S13 1106 d)), (2, .int (v2 + 1)), (0, .ref d), (1, .int v1)]) hx hb dX11_jobs_43 rfl hl (by decide) (catc rfl (catc rfl (catc rfl (catc rf_cat catn)))) rfl (fun ls hl => ?_)
        refine lv_goto (tgt := 7) hx hb dX11_jobs_44 (by decide) ?_
        exact ih S13 v1 (v2 + 1) (dP S13 1106 d) _ _ hq _ _ ls _ _ hW (lv_sub hl [2, 3, 1, 0] rfl) hT
set_option maxHeartbeats 4000000 in
set_option maxRecDepth 100000 in
theorem c_X11_jobs {l : Launch} (hst : l.stackTraces = false) {D : va_G} {A : Nat → Prop} {G : DG} (n : Nat) (S : DS) (d : Nat) (p1 : Int32) {k : Nat} {r : Int32} {S' : DS} {TC TZ : Nat} (hq : q_X11_jobs G.2.2 n S d p1 = some ((k, r), S', TC, TZ)) : vx_Met l yX11_jobs (wM yX11_jobs cX11_jobs 4 (some .int)) (rD 12 328 TC TZ) (va_Pc [.ref d, .int p1] (dPre D A G S)) (xQi D A G k r S') (xX D A G k S') TC TZ A := by
  obtain ⟨C, Z, hq, hT⟩ : ∃ C Z, q_X11_jobs G.2.2 n S d p1 = some ((k, r), S', C, Z) ∧ (0 + C = (rD 12 328 TC TZ).cells ∧ 0 + Z = (rD 12 328 TC TZ).slots) := ⟨TC, TZ, hq, Nat.zero_add _, Nat.zero_add _⟩
  refine x_head hst (by decide) (Nat.le_of_ble_eq_true rfl) ?_
  intro p e s m args below meth c ls B hout hW hl
  have hx := B.1
  have hb := B.2.1
  have hl : lv_has ls 4 [(0, .ref d), (1, .int p1)] := hl
  unfold q_X11_jobs at hq
  refine lv_iconst (v := 0) hx hb dX11_jobs_0 (by decide) ?_
  refine e_istore_n (lv' := [(2, .int 0), (0, .ref d), (1, .int p1)]) hx hb dX11_jobs_1 rfl hl (by decide) (catc rfl (catc rfl catn)) rfl (fun ls hl => ?_)
  refine lv_aload_n hx hb dX11_jobs_2 rfl (lv_at hl 1 rfl) ?_
  obtain ⟨hk1, hq⟩ := chk_e hq
  refine d_get B hW (ci := 11) inT_11 rfl (dF_11 hk1) (by rw [hk1]; decide) 6 (by decide) u_68 (Or.inl rfl) (v := va_rf (dP S 1106 d)) rfl dX11_jobs_3 ?_
  refine e_astore_n (x := (dP S 1106 d)) (lv' := [(3, va_rf (dP S 1106 d)), (2, .int 0), (0, .ref d), (1, .int p1)]) hx hb dX11_jobs_6 rfl hl (by decide) (catc rfl (catc rfl (catc rfl catn))) rfl (fun ls hl => ?_)
  exact k_X11_jobs_7 B hout n S p1 0 (dP S 1106 d) _ _ hq _ _ ls _ _ hW (lv_sub hl [2, 3, 1, 0] rfl) hT
set_option maxHeartbeats 4000000 in
set_option maxRecDepth 100000 in
theorem c_X11_state {l : Launch} (hst : l.stackTraces = false) {D : va_G} {A : Nat → Prop} {G : DG} (S : DS) (d : Nat) (p1 : Int32) {k : Nat} {r : Int32} {S' : DS} {TC TZ : Nat} (hq : q_X11_state G.2.2 S d p1 = some ((k, r), S', TC, TZ)) : vx_Met l yX11_state (wM yX11_state cX11_state 3 (some .int)) (rD 7 113 TC TZ) (va_Pc [.ref d, .int p1] (dPre D A G S)) (xQi D A G k r S') (xX D A G k S') TC TZ A := by
  obtain ⟨C, Z, hq, hT⟩ : ∃ C Z, q_X11_state G.2.2 S d p1 = some ((k, r), S', C, Z) ∧ (0 + C = (rD 7 113 TC TZ).cells ∧ 0 + Z = (rD 7 113 TC TZ).slots) := ⟨TC, TZ, hq, Nat.zero_add _, Nat.zero_add _⟩
  refine x_head hst (by decide) (Nat.le_of_ble_eq_true rfl) ?_
  intro p e s m args below meth c ls B hout hW hl
  have hx := B.1
  have hb := B.2.1
  have hl : lv_has ls 3 [(0, .ref d), (1, .int p1)] := hl
  unfold q_X11_state at hq
  refine lv_aload_n hx hb dX11_state_0 rfl (lv_at hl 0 rfl) ?_
  refine lv_iload_n hx hb dX11_state_1 rfl (lv_at hl 1 rfl) ?_
  obtain ⟨hk1, hq⟩ := chk_e hq
  rcases bndx_e hq with ⟨r2, S3, C1, Z1, C2, Z2, hg, hq2, rfl, rfl⟩ | ⟨k9, r9, hk9, hg, e9⟩
  rotate_left
  · cases e9
    exact x_oq B hout hk9 (x_runV (As := [.int p1]) (rest := []) B hW hl.1 (d_recv B hW (ci := 11) rfl (dF_11 hk1) (by rw [hk1]; decide)) (c_X11_requirePromise B.2.2.2.2.2.2.2.2.2.2 S d p1 hg) (g_V u_371 u_373 us_11 u_1 u_374) y1_X11_requirePromise rfl ⟨Nat.le_of_ble_eq_true rfl, Nat.le_of_ble_eq_true rfl⟩ (C2 := 0) (Z2 := 0) ⟨hT.1, hT.2⟩ rfl (Nat.le_of_ble_eq_true rfl) dX11_state_2) hW hT
  replace hq := hq2
  clear hq2
  refine x_rq (x_runV (As := [.int p1]) (rest := []) B hW hl.1 (d_recv B hW (ci := 11) rfl (dF_11 hk1) (by rw [hk1]; decide)) (c_X11_requirePromise B.2.2.2.2.2.2.2.2.2.2 S d p1 hg) (g_V u_371 u_373 us_11 u_1 u_374) y1_X11_requirePromise rfl ⟨Nat.le_of_ble_eq_true rfl, Nat.le_of_ble_eq_true rfl⟩ hT rfl (Nat.le_of_ble_eq_true rfl) dX11_state_2) hW hT (fun H locs cells slots hW hT => ?_)
  clear hg
  refine e_astore_n (x := r2) (lv' := [(2, va_rf r2), (0, .ref d), (1, .int p1)]) hx hb dX11_state_5 rfl hl (by decide) (catc rfl (catc rfl catn)) rfl (fun ls hl => ?_)
  refine d_aload_n hx hb dX11_state_6 rfl (lv_at hl 0 rfl) ?_
  obtain ⟨b4, hb4, hq⟩ := bnd_e hq
  refine W.eq (g2 := F0 m 7 ls [.ref b4]) (by rw [hb4]; rfl) ?_
  obtain ⟨hk5, hq⟩ := chk_e hq
  refine d_get B hW (ci := 6) inT_6 rfl (dF_6 hk5) (by rw [hk5]; decide) 5 (by decide) u_206 (Or.inl rfl) (v := .int (dI S3 605 b4)) rfl dX11_state_7 ?_
  refine lv_if_eq (tgt := 22) hx hb dX11_state_10 (by decide) (fun hc => ?_) (fun hc => ?_)
  · replace hq := if_y hc hq
    refine d_aload_n hx hb dX11_state_22 rfl (lv_at hl 0 rfl) ?_
    refine W.eq (g2 := F0 m 23 ls [.ref b4]) (by rw [hb4]; rfl) ?_
    refine d_get B hW (ci := 6) inT_6 rfl (dF_6 hk5) (by rw [hk5]; decide) 3 (by decide) u_203 (Or.inl rfl) (v := .int (dI S3 603 b4)) rfl dX11_state_23 ?_
    exact x_iret B hW hq hT dX11_state_26
  · replace hq := if_n hc hq
    refine d_aload_n hx hb dX11_state_13 rfl (lv_at hl 0 rfl) ?_
    refine W.eq (g2 := F0 m 14 ls [.ref b4]) (by rw [hb4]; rfl) ?_
    refine d_get B hW (ci := 6) inT_6 rfl (dF_6 hk5) (by rw [hk5]; decide) 3 (by decide) u_203 (Or.inl rfl) (v := .int (dI S3 603 b4)) rfl dX11_state_14 ?_
    refine lv_iconst (v := 4) hx hb dX11_state_17 (by decide) ?_
    refine lv_iadd hx hb dX11_state_18 ?_
    refine lv_goto (tgt := 26) hx hb dX11_state_19 (by decide) ?_
    exact x_iret B hW hq hT dX11_state_26
set_option maxHeartbeats 4000000 in
set_option maxRecDepth 100000 in
theorem c_X11_result {l : Launch} (hst : l.stackTraces = false) {D : va_G} {A : Nat → Prop} {G : DG} (S : DS) (d : Nat) (p1 : Int32) {k : Nat} {r : Int32} {S' : DS} {TC TZ : Nat} (hq : q_X11_result G.2.2 S d p1 = some ((k, r), S', TC, TZ)) : vx_Met l yX11_result (wM yX11_result cX11_result 2 (some .int)) (rD 7 113 TC TZ) (va_Pc [.ref d, .int p1] (dPre D A G S)) (xQi D A G k r S') (xX D A G k S') TC TZ A := by
  obtain ⟨C, Z, hq, hT⟩ : ∃ C Z, q_X11_result G.2.2 S d p1 = some ((k, r), S', C, Z) ∧ (0 + C = (rD 7 113 TC TZ).cells ∧ 0 + Z = (rD 7 113 TC TZ).slots) := ⟨TC, TZ, hq, Nat.zero_add _, Nat.zero_add _⟩
  refine x_head hst (by decide) (Nat.le_of_ble_eq_true rfl) ?_
  intro p e s m args below meth c ls B hout hW hl
  have hx := B.1
  have hb := B.2.1
  have hl : lv_has ls 2 [(0, .ref d), (1, .int p1)] := hl
  unfold q_X11_result at hq
  refine lv_aload_n hx hb dX11_result_0 rfl (lv_at hl 0 rfl) ?_
  refine lv_iload_n hx hb dX11_result_1 rfl (lv_at hl 1 rfl) ?_
  obtain ⟨hk1, hq⟩ := chk_e hq
  rcases bndx_e hq with ⟨r2, S3, C1, Z1, C2, Z2, hg, hq2, rfl, rfl⟩ | ⟨k9, r9, hk9, hg, e9⟩
  rotate_left
  · cases e9
    exact x_oq B hout hk9 (x_runV (As := [.int p1]) (rest := []) B hW hl.1 (d_recv B hW (ci := 11) rfl (dF_11 hk1) (by rw [hk1]; decide)) (c_X11_requirePromise B.2.2.2.2.2.2.2.2.2.2 S d p1 hg) (g_V u_371 u_373 us_11 u_1 u_374) y1_X11_requirePromise rfl ⟨Nat.le_of_ble_eq_true rfl, Nat.le_of_ble_eq_true rfl⟩ (C2 := 0) (Z2 := 0) ⟨hT.1, hT.2⟩ rfl (Nat.le_of_ble_eq_true rfl) dX11_result_2) hW hT
  replace hq := hq2
  clear hq2
  refine x_rq (x_runV (As := [.int p1]) (rest := []) B hW hl.1 (d_recv B hW (ci := 11) rfl (dF_11 hk1) (by rw [hk1]; decide)) (c_X11_requirePromise B.2.2.2.2.2.2.2.2.2.2 S d p1 hg) (g_V u_371 u_373 us_11 u_1 u_374) y1_X11_requirePromise rfl ⟨Nat.le_of_ble_eq_true rfl, Nat.le_of_ble_eq_true rfl⟩ hT rfl (Nat.le_of_ble_eq_true rfl) dX11_result_2) hW hT (fun H locs cells slots hW hT => ?_)
  clear hg
  obtain ⟨b4, hb4, hq⟩ := bnd_e hq
  refine W.eq (g2 := F0 m 5 ls [.ref b4]) (by rw [hb4]; rfl) ?_
  obtain ⟨hk5, hq⟩ := chk_e hq
  refine d_get B hW (ci := 6) inT_6 rfl (dF_6 hk5) (by rw [hk5]; decide) 4 (by decide) u_205 (Or.inl rfl) (v := .int (dI S3 604 b4)) rfl dX11_result_5 ?_
  exact x_iret B hW hq hT dX11_result_8
set_option maxHeartbeats 4000000 in
set_option maxRecDepth 100000 in
theorem c_X11_requireThing {l : Launch} (hst : l.stackTraces = false) {D : va_G} {A : Nat → Prop} {G : DG} (S : DS) (d : Nat) (p1 : Int32) {k : Nat} {r : Option Nat} {S' : DS} {TC TZ : Nat} (hq : q_X11_requireThing G.2.2 S d p1 = some ((k, r), S', TC, TZ)) : vx_Met l yX11_requireThing (wM yX11_requireThing cX11_requireThing 3 (some (.object "PromiseDesk$Thing"))) (rD 6 90 TC TZ) (va_Pc [.ref d, .int p1] (dPre D A G S)) (xQq D A G k r S') (xX D A G k S') TC TZ A := by
  obtain ⟨C, Z, hq, hT⟩ : ∃ C Z, q_X11_requireThing G.2.2 S d p1 = some ((k, r), S', C, Z) ∧ (0 + C = (rD 6 90 TC TZ).cells ∧ 0 + Z = (rD 6 90 TC TZ).slots) := ⟨TC, TZ, hq, Nat.zero_add _, Nat.zero_add _⟩
  refine x_head hst (by decide) (Nat.le_of_ble_eq_true rfl) ?_
  intro p e s m args below meth c ls B hout hW hl
  have hx := B.1
  have hb := B.2.1
  have hl : lv_has ls 3 [(0, .ref d), (1, .int p1)] := hl
  unfold q_X11_requireThing at hq
  refine lv_aload_n hx hb dX11_requireThing_0 rfl (lv_at hl 0 rfl) ?_
  refine lv_iload_n hx hb dX11_requireThing_1 rfl (lv_at hl 1 rfl) ?_
  obtain ⟨hk1, hq⟩ := chk_e hq
  obtain ⟨r2, S3, C1, Z1, C2, Z2, hg, hq2, rfl, rfl⟩ := bndc_e hq
  replace hq := hq2
  clear hq2
  refine d_rq (d_runV (As := [.int p1]) (rest := []) B hW hl.1 (d_recv B hW (ci := 11) rfl (dF_11 hk1) (by rw [hk1]; decide)) (c_X11_thingOf B.2.2.2.2.2.2.2.2.2.2 S d p1 hg) (g_V u_347 u_349 us_9 u_1 u_350) y1_X11_thingOf rfl ⟨Nat.le_of_ble_eq_true rfl, Nat.le_of_ble_eq_true rfl⟩ hT rfl (Nat.le_of_ble_eq_true rfl) dX11_requireThing_2) hW hT (fun H locs cells slots hW hT => ?_)
  clear hg
  refine e_astore_n (x := r2) (lv' := [(2, va_rf r2), (0, .ref d), (1, .int p1)]) hx hb dX11_requireThing_5 rfl hl (by decide) (catc rfl (catc rfl catn)) rfl (fun ls hl => ?_)
  refine d_aload_n hx hb dX11_requireThing_6 rfl (lv_at hl 0 rfl) ?_
  refine d_ifnonnull (tgt := 20) hx hb dX11_requireThing_7 (by decide) (fun hc => ?_) (fun hc => ?_)
  · replace hq := if_n hc hq
    refine d_aload_n hx hb dX11_requireThing_20 rfl (lv_at hl 0 rfl) ?_
    exact x_aret (x := r2) B (Or.inl ⟨_, rfl⟩) hW hq hT dX11_requireThing_21
  · replace hq := if_y hc hq
    exact x_throw B hout hW hl.1 (Or.inl ⟨rfl, rfl, rfl⟩) ut_9 ⟨Nat.le_of_ble_eq_true rfl, Nat.le_of_ble_eq_true rfl⟩ dX11_requireThing_10 dX11_requireThing_13 dX11_requireThing_14 dX11_requireThing_16 dX11_requireThing_19 hq hT
set_option maxHeartbeats 4000000 in
set_option maxRecDepth 100000 in
theorem c_X11_kind {l : Launch} (hst : l.stackTraces = false) {D : va_G} {A : Nat → Prop} {G : DG} (S : DS) (d : Nat) (p1 : Int32) {k : Nat} {r : Int32} {S' : DS} {TC TZ : Nat} (hq : q_X11_kind G.2.2 S d p1 = some ((k, r), S', TC, TZ)) : vx_Met l yX11_kind (wM yX11_kind cX11_kind 2 (some .int)) (rD 7 112 TC TZ) (va_Pc [.ref d, .int p1] (dPre D A G S)) (xQi D A G k r S') (xX D A G k S') TC TZ A := by
  obtain ⟨C, Z, hq, hT⟩ : ∃ C Z, q_X11_kind G.2.2 S d p1 = some ((k, r), S', C, Z) ∧ (0 + C = (rD 7 112 TC TZ).cells ∧ 0 + Z = (rD 7 112 TC TZ).slots) := ⟨TC, TZ, hq, Nat.zero_add _, Nat.zero_add _⟩
  refine x_head hst (by decide) (Nat.le_of_ble_eq_true rfl) ?_
  intro p e s m args below meth c ls B hout hW hl
  have hx := B.1
  have hb := B.2.1
  have hl : lv_has ls 2 [(0, .ref d), (1, .int p1)] := hl
  unfold q_X11_kind at hq
  refine lv_aload_n hx hb dX11_kind_0 rfl (lv_at hl 0 rfl) ?_
  refine lv_iload_n hx hb dX11_kind_1 rfl (lv_at hl 1 rfl) ?_
  obtain ⟨hk1, hq⟩ := chk_e hq
  rcases bndx_e hq with ⟨r2, S3, C1, Z1, C2, Z2, hg, hq2, rfl, rfl⟩ | ⟨k9, r9, hk9, hg, e9⟩
  rotate_left
  · cases e9
    exact x_oq B hout hk9 (x_runV (As := [.int p1]) (rest := []) B hW hl.1 (d_recv B hW (ci := 11) rfl (dF_11 hk1) (by rw [hk1]; decide)) (c_X11_requireThing B.2.2.2.2.2.2.2.2.2.2 S d p1 hg) (g_V u_811 u_813 us_37 u_1 u_814) y1_X11_requireThing rfl ⟨Nat.le_of_ble_eq_true rfl, Nat.le_of_ble_eq_true rfl⟩ (C2 := 0) (Z2 := 0) ⟨hT.1, hT.2⟩ rfl (Nat.le_of_ble_eq_true rfl) dX11_kind_2) hW hT
  replace hq := hq2
  clear hq2
  refine x_rq (x_runV (As := [.int p1]) (rest := []) B hW hl.1 (d_recv B hW (ci := 11) rfl (dF_11 hk1) (by rw [hk1]; decide)) (c_X11_requireThing B.2.2.2.2.2.2.2.2.2.2 S d p1 hg) (g_V u_811 u_813 us_37 u_1 u_814) y1_X11_requireThing rfl ⟨Nat.le_of_ble_eq_true rfl, Nat.le_of_ble_eq_true rfl⟩ hT rfl (Nat.le_of_ble_eq_true rfl) dX11_kind_2) hW hT (fun H locs cells slots hW hT => ?_)
  clear hg
  obtain ⟨b4, hb4, hq⟩ := bnd_e hq
  refine W.eq (g2 := F0 m 5 ls [.ref b4]) (by rw [hb4]; rfl) ?_
  obtain ⟨hk5, hq⟩ := chk_e hq
  refine or3 hk5 (fun hh kk => d_get B hW (ci := 6) inT_6 rfl (dF_6 hh) (by rw [hh]; decide) 1 (by decide) u_217 (Or.inl rfl) (v := .int (dI S3 1001 b4)) rfl dX11_kind_5 kk) (fun hh kk => d_get B hW (ci := 9) inT_9 rfl (dF_9 hh) (by rw [hh]; decide) 1 (by decide) u_217 (Or.inl rfl) (v := .int (dI S3 1001 b4)) rfl dX11_kind_5 kk) (fun hh kk => d_get B hW (ci := 10) inT_10 rfl (dF_10 hh) (by rw [hh]; decide) 1 (by decide) u_217 (Or.inl rfl) (v := .int (dI S3 1001 b4)) rfl dX11_kind_5 kk) ?_
  exact x_iret B hW hq hT dX11_kind_8
