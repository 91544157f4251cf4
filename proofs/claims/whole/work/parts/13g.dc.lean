set_option maxHeartbeats 4000000 in
set_option maxRecDepth 100000 in
theorem k_X11_callOneOf_12 {p : Program} {l : Launch} {e : Env} {s : State} {m : MethodId} {args : Array Value} {below : List Frame} {meth : Method} {c : Code} {D : va_G} {A : Nat → Prop} {G : DG} {d : Nat} {r : Int32} {S' : DS} {TC TZ : Nat} (B : dB p l s m args meth c D A G yX11_callOneOf.cls yX11_callOneOf.name cX11_callOneOf 5 (some .boolean) (Cond.code yX11_callOneOf cX11_callOneOf 5 (some .boolean))) :
    ∀ (n : Nat) (S : DS) (v1 : Option Nat) (v2 : Int32) (v3 : Int32) (z0 : Int32) (C Z : Nat), q_X11_callOneOf_12 G.2.2 n S d v1 v2 v3 z0 = some (r, S', C, Z) → ∀ (H : Heap) (locs : List Loc) (ls : Array Slot) (cells slots : Nat), dOK D A G S s.heap H locs → lv_has ls 5 [(0, .ref d), (1, va_rf v1), (2, .int v2), (3, .int v3)] → cells + C = (rD 9 256 TC TZ).cells ∧ slots + Z = (rD 9 256 TC TZ).slots → W p l e (rD 9 256 TC TZ) s m args below meth c H locs cells slots (MQ below (dQi D A G r S') args s (rD 9 256 TC TZ).cells (rD 9 256 TC TZ).slots A) (F0 m 12 ls [.int z0]) := by
  have hx := B.1
  have hb := B.2.1
  intro n S v1 v2 v3 z0 C Z hq H locs ls cells slots hW hl hT
  unfold q_X11_callOneOf_12 at hq
  refine e_istore (lv' := [(4, .int z0), (0, .ref d), (1, va_rf v1), (2, .int v2), (3, .int v3)]) hx hb dX11_callOneOf_12 hl (by decide) (catc rfl (catc rf_cat (catc rfl (catc rfl catn)))) rfl (fun ls hl => ?_)
  refine lv_iload_n hx hb dX11_callOneOf_14 rfl (lv_at hl 3 rfl) ?_
  refine lv_if_eq (tgt := 27) hx hb dX11_callOneOf_15 (by decide) (fun hc => ?_) (fun hc => ?_)
  · replace hq := if_y hc hq
    refine lv_aload_n hx hb dX11_callOneOf_27 rfl (lv_at hl 1 rfl) ?_
    refine d_aload_n hx hb dX11_callOneOf_28 rfl (lv_at hl 2 rfl) ?_
    refine lv_iload_n hx hb dX11_callOneOf_29 rfl (lv_at hl 4 rfl) ?_
    obtain ⟨hk3, hq⟩ := chk_e hq
    obtain ⟨r4, S5, C1, Z1, C2, Z2, hg, hq2, rfl, rfl⟩ := bndc_e hq
    replace hq := hq2
    clear hq2
    refine d_rv (d_runV (As := [va_rf v1, .int v3]) (rest := []) B hW hl.1 (d_recv B hW (ci := 11) rfl (dF_11 hk3) (by rw [hk3]; decide)) (c_X11_resolve B.2.2.2.2.2.2.2.2.2.2 n S d v1 v3 hg) (g_V u_463 u_465 us_16 u_1 u_466) y1_X11_resolve rfl ⟨Nat.le_of_ble_eq_true rfl, Nat.le_of_ble_eq_true rfl⟩ hT rfl (Nat.le_of_ble_eq_true rfl) dX11_callOneOf_30) hW hT (fun H locs cells slots hW hT => ?_)
    clear hg
    refine lv_iload hx hb dX11_callOneOf_33 (lv_at hl 0 rfl) ?_
    obtain ⟨hz, hq⟩ := chk_e hq
    exact d_zret B hW hz hq hT dX11_callOneOf_35
  · replace hq := if_n hc hq
    refine lv_aload_n hx hb dX11_callOneOf_18 rfl (lv_at hl 1 rfl) ?_
    refine d_aload_n hx hb dX11_callOneOf_19 rfl (lv_at hl 2 rfl) ?_
    refine lv_iload_n hx hb dX11_callOneOf_20 rfl (lv_at hl 4 rfl) ?_
    obtain ⟨hk6, hq⟩ := chk_e hq
    obtain ⟨r7, S8, C1, Z1, C2, Z2, hg, hq2, rfl, rfl⟩ := bndc_e hq
    replace hq := hq2
    clear hq2
    refine d_rv (d_runV (As := [va_rf v1, .int v3]) (rest := []) B hW hl.1 (d_recv B hW (ci := 11) rfl (dF_11 hk6) (by rw [hk6]; decide)) (c_X11_reject B.2.2.2.2.2.2.2.2.2.2 n S d v1 v3 hg) (g_V u_447 u_449 us_13 u_1 u_450) y1_X11_reject rfl ⟨Nat.le_of_ble_eq_true rfl, Nat.le_of_ble_eq_true rfl⟩ hT rfl (Nat.le_of_ble_eq_true rfl) dX11_callOneOf_21) hW hT (fun H locs cells slots hW hT => ?_)
    clear hg
    refine lv_goto (tgt := 33) hx hb dX11_callOneOf_24 (by decide) ?_
    refine lv_iload hx hb dX11_callOneOf_33 (lv_at hl 0 rfl) ?_
    obtain ⟨hz, hq⟩ := chk_e hq
    exact d_zret B hW hz hq hT dX11_callOneOf_35
set_option maxHeartbeats 4000000 in
set_option maxRecDepth 100000 in
theorem c_X11_callOneOf {l : Launch} (hst : l.stackTraces = false) {D : va_G} {A : Nat → Prop} {G : DG} (n : Nat) (S : DS) (d : Nat) (p1 : Option Nat) (p2 : Int32) (p3 : Int32) {r : Int32} {S' : DS} {TC TZ : Nat} (hq : q_X11_callOneOf G.2.2 n S d p1 p2 p3 = some (r, S', TC, TZ)) : Met l yX11_callOneOf (wM yX11_callOneOf cX11_callOneOf 5 (some .boolean)) (rD 9 256 TC TZ) (va_Pc [.ref d, va_rf p1, .int p2, .int p3] (dPre D A G S)) (dQi D A G r S') TC TZ A := by
  obtain ⟨C, Z, hq, hT⟩ : ∃ C Z, q_X11_callOneOf G.2.2 n S d p1 p2 p3 = some (r, S', C, Z) ∧ (0 + C = (rD 9 256 TC TZ).cells ∧ 0 + Z = (rD 9 256 TC TZ).slots) := ⟨TC, TZ, hq, Nat.zero_add _, Nat.zero_add _⟩
  refine d_head hst (by decide) (by cases p1 <;> exact Nat.le_of_ble_eq_true rfl) ?_
  intro p e s m args below meth c ls B hW hl
  have hx := B.1
  have hb := B.2.1
  have hl : lv_has ls 5 [(0, .ref d), (1, va_rf p1), (2, .int p2), (3, .int p3)] := by cases p1 <;> exact hl
  unfold q_X11_callOneOf at hq
  refine d_aload_n hx hb dX11_callOneOf_0 rfl (lv_at hl 1 rfl) ?_
  obtain ⟨b1, hb1, hq⟩ := bnd_e hq
  refine W.eq (g2 := F0 m 1 ls [.ref b1]) (by rw [hb1]; rfl) ?_
  obtain ⟨hk2, hq⟩ := chk_e hq
  refine d_get B hW (ci := 7) inT_7 rfl (dF_7 hk2) (by rw [hk2]; decide) 1 (by decide) u_309 (Or.inl rfl) (v := .int (dI S 701 b1)) rfl dX11_callOneOf_1 ?_
  refine lv_if_ne (tgt := 11) hx hb dX11_callOneOf_4 (by decide) (fun hc => ?_) (fun hc => ?_)
  · replace hq := if_n hc hq
    refine lv_iconst (v := 0) hx hb dX11_callOneOf_11 (by decide) ?_
    exact k_X11_callOneOf_12 B n S p1 p2 p3 0 _ _ hq _ _ ls _ _ hW (lv_sub hl [0, 1, 2, 3] rfl) hT
  · replace hq := if_y hc hq
    refine lv_iconst (v := 1) hx hb dX11_callOneOf_7 (by decide) ?_
    refine lv_goto (tgt := 12) hx hb dX11_callOneOf_8 (by decide) ?_
    exact k_X11_callOneOf_12 B n S p1 p2 p3 1 _ _ hq _ _ ls _ _ hW (lv_sub hl [0, 1, 2, 3] rfl) hT
set_option maxHeartbeats 4000000 in
set_option maxRecDepth 100000 in
theorem c_X11_settle {l : Launch} (hst : l.stackTraces = false) {D : va_G} {A : Nat → Prop} {G : DG} (n : Nat) (S : DS) (d : Nat) (p1 : Int32) (p2 : Int32) (p3 : Int32) {k : Nat} {r : Int32} {S' : DS} {TC TZ : Nat} (hq : q_X11_settle G.2.2 n S d p1 p2 p3 = some ((k, r), S', TC, TZ)) : vx_Met l yX11_settle (wM yX11_settle cX11_settle 5 (some .boolean)) (rD 10 280 TC TZ) (va_Pc [.ref d, .int p1, .int p2, .int p3] (dPre D A G S)) (xQi D A G k r S') (xX D A G k S') TC TZ A := by
  obtain ⟨C, Z, hq, hT⟩ : ∃ C Z, q_X11_settle G.2.2 n S d p1 p2 p3 = some ((k, r), S', C, Z) ∧ (0 + C = (rD 10 280 TC TZ).cells ∧ 0 + Z = (rD 10 280 TC TZ).slots) := ⟨TC, TZ, hq, Nat.zero_add _, Nat.zero_add _⟩
  refine x_head hst (by decide) (Nat.le_of_ble_eq_true rfl) ?_
  intro p e s m args below meth c ls B hout hW hl
  have hx := B.1
  have hb := B.2.1
  have hl : lv_has ls 5 [(0, .ref d), (1, .int p1), (2, .int p2), (3, .int p3)] := hl
  unfold q_X11_settle at hq
  refine lv_aload_n hx hb dX11_settle_0 rfl (lv_at hl 0 rfl) ?_
  refine lv_iload_n hx hb dX11_settle_1 rfl (lv_at hl 1 rfl) ?_
  obtain ⟨hk1, hq⟩ := chk_e hq
  rcases bndx_e hq with ⟨r2, S3, C1, Z1, C2, Z2, hg, hq2, rfl, rfl⟩ | ⟨k9, r9, hk9, hg, e9⟩
  rotate_left
  · cases e9
    exact x_oq B hout hk9 (x_runV (As := [.int p1]) (rest := []) B hW hl.1 (d_recv B hW (ci := 11) rfl (dF_11 hk1) (by rw [hk1]; decide)) (c_X11_requireKept B.2.2.2.2.2.2.2.2.2.2 S d p1 hg) (g_V u_367 u_369 us_10 u_1 u_370) y1_X11_requireKept rfl ⟨Nat.le_of_ble_eq_true rfl, Nat.le_of_ble_eq_true rfl⟩ (C2 := 0) (Z2 := 0) ⟨hT.1, hT.2⟩ rfl (Nat.le_of_ble_eq_true rfl) dX11_settle_2) hW hT
  replace hq := hq2
  clear hq2
  refine x_rq (x_runV (As := [.int p1]) (rest := []) B hW hl.1 (d_recv B hW (ci := 11) rfl (dF_11 hk1) (by rw [hk1]; decide)) (c_X11_requireKept B.2.2.2.2.2.2.2.2.2.2 S d p1 hg) (g_V u_367 u_369 us_10 u_1 u_370) y1_X11_requireKept rfl ⟨Nat.le_of_ble_eq_true rfl, Nat.le_of_ble_eq_true rfl⟩ hT rfl (Nat.le_of_ble_eq_true rfl) dX11_settle_2) hW hT (fun H locs cells slots hW hT => ?_)
  clear hg
  refine e_astore (x := r2) (lv' := [(4, va_rf r2), (0, .ref d), (1, .int p1), (2, .int p2), (3, .int p3)]) hx hb dX11_settle_5 hl (by decide) (catc rfl (catc rfl (catc rfl (catc rfl catn)))) rfl (fun ls hl => ?_)
  refine lv_aload_n hx hb dX11_settle_7 rfl (lv_at hl 1 rfl) ?_
  refine lv_iload_n hx hb dX11_settle_8 rfl (lv_at hl 4 rfl) ?_
  obtain ⟨hk4, hq⟩ := chk_e hq
  rcases bndx_e hq with ⟨r5, S6, C1, Z1, C2, Z2, hg, hq2, rfl, rfl⟩ | ⟨k9, r9, hk9, hg, e9⟩
  rotate_left
  · cases e9
    exact x_ov B hout hk9 (x_runV (As := [.int p3]) (rest := []) B hW hl.1 (d_recv B hW (ci := 11) rfl (dF_11 hk4) (by rw [hk4]; decide)) (c_X11_requireValue B.2.2.2.2.2.2.2.2.2.2 S3 d p3 hg) (g_V u_343 u_345 us_8 u_1 u_346) y1_X11_requireValue rfl ⟨Nat.le_of_ble_eq_true rfl, Nat.le_of_ble_eq_true rfl⟩ (C2 := 0) (Z2 := 0) ⟨hT.1, hT.2⟩ rfl (Nat.le_of_ble_eq_true rfl) dX11_settle_9) hW hT
  replace hq := hq2
  clear hq2
  refine x_rv (x_runV (As := [.int p3]) (rest := []) B hW hl.1 (d_recv B hW (ci := 11) rfl (dF_11 hk4) (by rw [hk4]; decide)) (c_X11_requireValue B.2.2.2.2.2.2.2.2.2.2 S3 d p3 hg) (g_V u_343 u_345 us_8 u_1 u_346) y1_X11_requireValue rfl ⟨Nat.le_of_ble_eq_true rfl, Nat.le_of_ble_eq_true rfl⟩ hT rfl (Nat.le_of_ble_eq_true rfl) dX11_settle_9) hW hT (fun H locs cells slots hW hT => ?_)
  clear hg
  refine lv_aload_n hx hb dX11_settle_12 rfl (lv_at hl 1 rfl) ?_
  refine lv_bipush (v := 8) hx hb dX11_settle_13 (by decide) ?_
  obtain ⟨hk7, hq⟩ := chk_e hq
  rcases bndx_e hq with ⟨r8, S9, C1, Z1, C2, Z2, hg, hq2, rfl, rfl⟩ | ⟨k9, r9, hk9, hg, e9⟩
  rotate_left
  · cases e9
    exact x_ov B hout hk9 (x_runV (As := [.int 8]) (rest := []) B hW hl.1 (d_recv B hW (ci := 11) rfl (dF_11 hk7) (by rw [hk7]; decide)) (c_X11_requireRoom B.2.2.2.2.2.2.2.2.2.2 S6 d 8 hg) (g_V u_110 u_112 us_0 u_1 u_113) y1_X11_requireRoom rfl ⟨Nat.le_of_ble_eq_true rfl, Nat.le_of_ble_eq_true rfl⟩ (C2 := 0) (Z2 := 0) ⟨hT.1, hT.2⟩ rfl (Nat.le_of_ble_eq_true rfl) dX11_settle_15) hW hT
  replace hq := hq2
  clear hq2
  refine x_rv (x_runV (As := [.int 8]) (rest := []) B hW hl.1 (d_recv B hW (ci := 11) rfl (dF_11 hk7) (by rw [hk7]; decide)) (c_X11_requireRoom B.2.2.2.2.2.2.2.2.2.2 S6 d 8 hg) (g_V u_110 u_112 us_0 u_1 u_113) y1_X11_requireRoom rfl ⟨Nat.le_of_ble_eq_true rfl, Nat.le_of_ble_eq_true rfl⟩ hT rfl (Nat.le_of_ble_eq_true rfl) dX11_settle_15) hW hT (fun H locs cells slots hW hT => ?_)
  clear hg
  refine lv_aload_n hx hb dX11_settle_18 rfl (lv_at hl 1 rfl) ?_
  refine d_aload hx hb dX11_settle_19 (lv_at hl 0 rfl) ?_
  refine lv_iload_n hx hb dX11_settle_21 rfl (lv_at hl 3 rfl) ?_
  refine lv_iload_n hx hb dX11_settle_22 rfl (lv_at hl 4 rfl) ?_
  obtain ⟨hk10, hq⟩ := chk_e hq
  obtain ⟨r11, S12, C1, Z1, C2, Z2, hg, hq2, rfl, rfl⟩ := bndc_e hq
  replace hq := hq2
  clear hq2
  refine d_ri (d_runV (As := [va_rf r2, .int p2, .int p3]) (rest := []) B hW hl.1 (d_recv B hW (ci := 11) rfl (dF_11 hk10) (by rw [hk10]; decide)) (c_X11_callOneOf B.2.2.2.2.2.2.2.2.2.2 n S9 d r2 p2 p3 hg) (g_V u_443 u_445 us_12 u_1 u_446) y1_X11_callOneOf rfl ⟨Nat.le_of_ble_eq_true rfl, Nat.le_of_ble_eq_true rfl⟩ hT rfl (Nat.le_of_ble_eq_true rfl) dX11_settle_23) hW hT (fun H locs cells slots hW hT => ?_)
  clear hg
  obtain ⟨hz, hq⟩ := chk_e hq
  exact x_zret B hW hz hq hT dX11_settle_26
set_option maxHeartbeats 4000000 in
set_option maxRecDepth 100000 in
theorem c_X11_requireThenable {l : Launch} (hst : l.stackTraces = false) {D : va_G} {A : Nat → Prop} {G : DG} (S : DS) (d : Nat) (p1 : Int32) {k : Nat} {r : Option Nat} {S' : DS} {TC TZ : Nat} (hq : q_X11_requireThenable G.2.2 S d p1 = some ((k, r), S', TC, TZ)) : vx_Met l yX11_requireThenable (wM yX11_requireThenable cX11_requireThenable 4 (some (.object "PromiseDesk$Thenable"))) (rD 6 90 TC TZ) (va_Pc [.ref d, .int p1] (dPre D A G S)) (xQq D A G k r S') (xX D A G k S') TC TZ A := by
  obtain ⟨C, Z, hq, hT⟩ : ∃ C Z, q_X11_requireThenable G.2.2 S d p1 = some ((k, r), S', C, Z) ∧ (0 + C = (rD 6 90 TC TZ).cells ∧ 0 + Z = (rD 6 90 TC TZ).slots) := ⟨TC, TZ, hq, Nat.zero_add _, Nat.zero_add _⟩
  refine x_head hst (by decide) (Nat.le_of_ble_eq_true rfl) ?_
  intro p e s m args below meth c ls B hout hW hl
  have hx := B.1
  have hb := B.2.1
  have hl : lv_has ls 4 [(0, .ref d), (1, .int p1)] := hl
  unfold q_X11_requireThenable at hq
  refine lv_aload_n hx hb dX11_requireThenable_0 rfl (lv_at hl 0 rfl) ?_
  refine lv_iload_n hx hb dX11_requireThenable_1 rfl (lv_at hl 1 rfl) ?_
  obtain ⟨hk1, hq⟩ := chk_e hq
  obtain ⟨r2, S3, C1, Z1, C2, Z2, hg, hq2, rfl, rfl⟩ := bndc_e hq
  replace hq := hq2
  clear hq2
  refine d_rq (d_runV (As := [.int p1]) (rest := []) B hW hl.1 (d_recv B hW (ci := 11) rfl (dF_11 hk1) (by rw [hk1]; decide)) (c_X11_thingOf B.2.2.2.2.2.2.2.2.2.2 S d p1 hg) (g_V u_347 u_349 us_9 u_1 u_350) y1_X11_thingOf rfl ⟨Nat.le_of_ble_eq_true rfl, Nat.le_of_ble_eq_true rfl⟩ hT rfl (Nat.le_of_ble_eq_true rfl) dX11_requireThenable_2) hW hT (fun H locs cells slots hW hT => ?_)
  clear hg
  refine e_astore_n (x := r2) (lv' := [(3, va_rf r2), (0, .ref d), (1, .int p1)]) hx hb dX11_requireThenable_5 rfl hl (by decide) (catc rfl (catc rfl catn)) rfl (fun ls hl => ?_)
  refine d_aload_n hx hb dX11_requireThenable_6 rfl (lv_at hl 0 rfl) ?_
  obtain ⟨ho, hq⟩ := chk_e hq
  refine d_instT B hW (x := r2) ho u_407 dX11_requireThenable_7 ?_
  refine lv_if_eq (tgt := 20) hx hb dX11_requireThenable_10 (by decide) (fun hc => ?_) (fun hc => ?_)
  · replace hq := if_y hc hq
    exact x_throw B hout hW hl.1 (Or.inl ⟨rfl, rfl, rfl⟩) ut_6 ⟨Nat.le_of_ble_eq_true rfl, Nat.le_of_ble_eq_true rfl⟩ dX11_requireThenable_20 dX11_requireThenable_23 dX11_requireThenable_24 dX11_requireThenable_26 dX11_requireThenable_29 hq hT
  · replace hq := if_n hc hq
    refine d_aload_n hx hb dX11_requireThenable_13 rfl (lv_at hl 0 rfl) ?_
    obtain ⟨b4, hb4, hq⟩ := bnd_e hq
    refine W.eq (g2 := F0 m 14 ls [.ref b4]) (by rw [hb4]; rfl) ?_
    obtain ⟨hk5, hq⟩ := chk_e hq
    refine d_cast B (d_recv B hW (ci := 9) rfl (dF_9 hk5) (by rw [hk5]; decide)) u_407 un_24 dX11_requireThenable_14 ?_
    refine e_astore_n (x := (some b4)) (lv' := [(2, .ref b4), (3, va_rf r2), (0, .ref d), (1, .int p1)]) hx hb dX11_requireThenable_17 rfl hl (by decide) (catc rf_cat (catc rfl (catc rfl catn))) rfl (fun ls hl => ?_)
    refine lv_aload_n hx hb dX11_requireThenable_18 rfl (lv_at hl 0 rfl) ?_
    exact x_aret (x := (some b4)) B (Or.inl ⟨_, rfl⟩) hW hq hT dX11_requireThenable_19
set_option maxHeartbeats 4000000 in
set_option maxRecDepth 100000 in
theorem c_X11_later {l : Launch} (hst : l.stackTraces = false) {D : va_G} {A : Nat → Prop} {G : DG} (n : Nat) (S : DS) (d : Nat) (p1 : Int32) (p2 : Int32) (p3 : Int32) {k : Nat} {r : Int32} {S' : DS} {TC TZ : Nat} (hq : q_X11_later G.2.2 n S d p1 p2 p3 = some ((k, r), S', TC, TZ)) : vx_Met l yX11_later (wM yX11_later cX11_later 5 (some .int)) (rD 10 280 TC TZ) (va_Pc [.ref d, .int p1, .int p2, .int p3] (dPre D A G S)) (xQi D A G k r S') (xX D A G k S') TC TZ A := by
  obtain ⟨C, Z, hq, hT⟩ : ∃ C Z, q_X11_later G.2.2 n S d p1 p2 p3 = some ((k, r), S', C, Z) ∧ (0 + C = (rD 10 280 TC TZ).cells ∧ 0 + Z = (rD 10 280 TC TZ).slots) := ⟨TC, TZ, hq, Nat.zero_add _, Nat.zero_add _⟩
  refine x_head hst (by decide) (Nat.le_of_ble_eq_true rfl) ?_
  intro p e s m args below meth c ls B hout hW hl
  have hx := B.1
  have hb := B.2.1
  have hl : lv_has ls 5 [(0, .ref d), (1, .int p1), (2, .int p2), (3, .int p3)] := hl
  unfold q_X11_later at hq
  refine lv_aload_n hx hb dX11_later_0 rfl (lv_at hl 0 rfl) ?_
  refine lv_iload_n hx hb dX11_later_1 rfl (lv_at hl 1 rfl) ?_
  obtain ⟨hk1, hq⟩ := chk_e hq
  rcases bndx_e hq with ⟨r2, S3, C1, Z1, C2, Z2, hg, hq2, rfl, rfl⟩ | ⟨k9, r9, hk9, hg, e9⟩
  rotate_left
  · cases e9
    exact x_oq B hout hk9 (x_runV (As := [.int p1]) (rest := []) B hW hl.1 (d_recv B hW (ci := 11) rfl (dF_11 hk1) (by rw [hk1]; decide)) (c_X11_requireThenable B.2.2.2.2.2.2.2.2.2.2 S d p1 hg) (g_V u_531 u_533 us_19 u_1 u_534) y1_X11_requireThenable rfl ⟨Nat.le_of_ble_eq_true rfl, Nat.le_of_ble_eq_true rfl⟩ (C2 := 0) (Z2 := 0) ⟨hT.1, hT.2⟩ rfl (Nat.le_of_ble_eq_true rfl) dX11_later_2) hW hT
  replace hq := hq2
  clear hq2
  refine x_rq (x_runV (As := [.int p1]) (rest := []) B hW hl.1 (d_recv B hW (ci := 11) rfl (dF_11 hk1) (by rw [hk1]; decide)) (c_X11_requireThenable B.2.2.2.2.2.2.2.2.2.2 S d p1 hg) (g_V u_531 u_533 us_19 u_1 u_534) y1_X11_requireThenable rfl ⟨Nat.le_of_ble_eq_true rfl, Nat.le_of_ble_eq_true rfl⟩ hT rfl (Nat.le_of_ble_eq_true rfl) dX11_later_2) hW hT (fun H locs cells slots hW hT => ?_)
  clear hg
  refine e_astore (x := r2) (lv' := [(4, va_rf r2), (0, .ref d), (1, .int p1), (2, .int p2), (3, .int p3)]) hx hb dX11_later_5 hl (by decide) (catc rfl (catc rfl (catc rfl (catc rfl catn)))) rfl (fun ls hl => ?_)
  refine lv_aload_n hx hb dX11_later_7 rfl (lv_at hl 1 rfl) ?_
  refine lv_iload_n hx hb dX11_later_8 rfl (lv_at hl 4 rfl) ?_
  obtain ⟨hk4, hq⟩ := chk_e hq
  rcases bndx_e hq with ⟨r5, S6, C1, Z1, C2, Z2, hg, hq2, rfl, rfl⟩ | ⟨k9, r9, hk9, hg, e9⟩
  rotate_left
  · cases e9
    exact x_ov B hout hk9 (x_runV (As := [.int p3]) (rest := []) B hW hl.1 (d_recv B hW (ci := 11) rfl (dF_11 hk4) (by rw [hk4]; decide)) (c_X11_requireValue B.2.2.2.2.2.2.2.2.2.2 S3 d p3 hg) (g_V u_343 u_345 us_8 u_1 u_346) y1_X11_requireValue rfl ⟨Nat.le_of_ble_eq_true rfl, Nat.le_of_ble_eq_true rfl⟩ (C2 := 0) (Z2 := 0) ⟨hT.1, hT.2⟩ rfl (Nat.le_of_ble_eq_true rfl) dX11_later_9) hW hT
  replace hq := hq2
  clear hq2
  refine x_rv (x_runV (As := [.int p3]) (rest := []) B hW hl.1 (d_recv B hW (ci := 11) rfl (dF_11 hk4) (by rw [hk4]; decide)) (c_X11_requireValue B.2.2.2.2.2.2.2.2.2.2 S3 d p3 hg) (g_V u_343 u_345 us_8 u_1 u_346) y1_X11_requireValue rfl ⟨Nat.le_of_ble_eq_true rfl, Nat.le_of_ble_eq_true rfl⟩ hT rfl (Nat.le_of_ble_eq_true rfl) dX11_later_9) hW hT (fun H locs cells slots hW hT => ?_)
  clear hg
  refine lv_aload_n hx hb dX11_later_12 rfl (lv_at hl 1 rfl) ?_
  refine lv_bipush (v := 8) hx hb dX11_later_13 (by decide) ?_
  obtain ⟨hk7, hq⟩ := chk_e hq
  rcases bndx_e hq with ⟨r8, S9, C1, Z1, C2, Z2, hg, hq2, rfl, rfl⟩ | ⟨k9, r9, hk9, hg, e9⟩
  rotate_left
  · cases e9
    exact x_ov B hout hk9 (x_runV (As := [.int 8]) (rest := []) B hW hl.1 (d_recv B hW (ci := 11) rfl (dF_11 hk7) (by rw [hk7]; decide)) (c_X11_requireRoom B.2.2.2.2.2.2.2.2.2.2 S6 d 8 hg) (g_V u_110 u_112 us_0 u_1 u_113) y1_X11_requireRoom rfl ⟨Nat.le_of_ble_eq_true rfl, Nat.le_of_ble_eq_true rfl⟩ (C2 := 0) (Z2 := 0) ⟨hT.1, hT.2⟩ rfl (Nat.le_of_ble_eq_true rfl) dX11_later_15) hW hT
  replace hq := hq2
  clear hq2
  refine x_rv (x_runV (As := [.int 8]) (rest := []) B hW hl.1 (d_recv B hW (ci := 11) rfl (dF_11 hk7) (by rw [hk7]; decide)) (c_X11_requireRoom B.2.2.2.2.2.2.2.2.2.2 S6 d 8 hg) (g_V u_110 u_112 us_0 u_1 u_113) y1_X11_requireRoom rfl ⟨Nat.le_of_ble_eq_true rfl, Nat.le_of_ble_eq_true rfl⟩ hT rfl (Nat.le_of_ble_eq_true rfl) dX11_later_15) hW hT (fun H locs cells slots hW hT => ?_)
  clear hg
  refine d_aload hx hb dX11_later_18 (lv_at hl 0 rfl) ?_
  obtain ⟨b10, hb10, hq⟩ := bnd_e hq
  refine W.eq (g2 := F0 m 20 ls [.ref b10]) (by rw [hb10]; rfl) ?_
  obtain ⟨hk11, hq⟩ := chk_e hq
  refine d_get B hW (ci := 9) inT_9 rfl (dF_9 hk11) (by rw [hk11]; decide) 8 (by decide) u_419 (Or.inl rfl) (v := va_rf (dP S9 908 b10)) rfl dX11_later_20 ?_
  refine d_ifnonnull (tgt := 28) hx hb dX11_later_23 (by decide) (fun hc => ?_) (fun hc => ?_)
  · replace hq := if_n hc hq
    refine lv_aload_n hx hb dX11_later_28 rfl (lv_at hl 1 rfl) ?_
    refine d_aload hx hb dX11_later_29 (lv_at hl 0 rfl) ?_
    refine W.eq (g2 := F0 m 31 ls [.ref b10, .ref d]) (by rw [hb10]; rfl) ?_
    refine d_get B hW (ci := 9) inT_9 rfl (dF_9 hk11) (by rw [hk11]; decide) 8 (by decide) u_419 (Or.inl rfl) (v := va_rf (dP S9 908 b10)) rfl dX11_later_31 ?_
    refine lv_iload_n hx hb dX11_later_34 rfl (lv_at hl 3 rfl) ?_
    refine lv_iload_n hx hb dX11_later_35 rfl (lv_at hl 4 rfl) ?_
    obtain ⟨hk12, hq⟩ := chk_e hq
    obtain ⟨r13, S14, C1, Z1, C2, Z2, hg, hq2, rfl, rfl⟩ := bndc_e hq
    replace hq := hq2
    clear hq2
    refine d_ri (d_runV (As := [va_rf (dP S9 908 b10), .int p2, .int p3]) (rest := []) B hW hl.1 (d_recv B hW (ci := 11) rfl (dF_11 hk12) (by rw [hk12]; decide)) (c_X11_callOneOf B.2.2.2.2.2.2.2.2.2.2 n S9 d (dP S9 908 b10) p2 p3 hg) (g_V u_443 u_445 us_12 u_1 u_446) y1_X11_callOneOf rfl ⟨Nat.le_of_ble_eq_true rfl, Nat.le_of_ble_eq_true rfl⟩ hT rfl (Nat.le_of_ble_eq_true rfl) dX11_later_36) hW hT (fun H locs cells slots hW hT => ?_)
    clear hg
    refine lv_if_eq (tgt := 46) hx hb dX11_later_39 (by decide) (fun hc => ?_) (fun hc => ?_)
    · replace hq := if_y hc hq
      refine lv_iconst (v := 0) hx hb dX11_later_46 (by decide) ?_
      exact x_iret B hW hq hT dX11_later_47
    · replace hq := if_n hc hq
      refine lv_iconst (v := 1) hx hb dX11_later_42 (by decide) ?_
      refine lv_goto (tgt := 47) hx hb dX11_later_43 (by decide) ?_
      exact x_iret B hW hq hT dX11_later_47
  · replace hq := if_y hc hq
    refine lv_iconst (v := (-1)) hx hb dX11_later_26 (by decide) ?_
    exact x_iret B hW hq hT dX11_later_27
set_option maxHeartbeats 4000000 in
set_option maxRecDepth 100000 in
theorem c_X11_requireHandler {l : Launch} (hst : l.stackTraces = false) {D : va_G} {A : Nat → Prop} {G : DG} (S : DS) (d : Nat) (p1 : Int32) {k : Nat} {r : Option Nat} {S' : DS} {TC TZ : Nat} (hq : q_X11_requireHandler G.2.2 S d p1 = some ((k, r), S', TC, TZ)) : vx_Met l yX11_requireHandler (wM yX11_requireHandler cX11_requireHandler 2 (some (.object "PromiseDesk$Simple"))) (rD 7 113 TC TZ) (va_Pc [.ref d, .int p1] (dPre D A G S)) (xQq D A G k r S') (xX D A G k S') TC TZ A := by
  obtain ⟨C, Z, hq, hT⟩ : ∃ C Z, q_X11_requireHandler G.2.2 S d p1 = some ((k, r), S', C, Z) ∧ (0 + C = (rD 7 113 TC TZ).cells ∧ 0 + Z = (rD 7 113 TC TZ).slots) := ⟨TC, TZ, hq, Nat.zero_add _, Nat.zero_add _⟩
  refine x_head hst (by decide) (Nat.le_of_ble_eq_true rfl) ?_
  intro p e s m args below meth c ls B hout hW hl
  have hx := B.1
  have hb := B.2.1
  have hl : lv_has ls 2 [(0, .ref d), (1, .int p1)] := hl
  unfold q_X11_requireHandler at hq
  refine lv_iload_n hx hb dX11_requireHandler_0 rfl (lv_at hl 1 rfl) ?_
  refine lv_iconst (v := (-1)) hx hb dX11_requireHandler_1 (by decide) ?_
  refine lv_icmp_ne (tgt := 7) hx hb dX11_requireHandler_2 (by decide) (fun hc => ?_) (fun hc => ?_)
  · replace hq := if_n hc hq
    refine lv_aload_n hx hb dX11_requireHandler_7 rfl (lv_at hl 0 rfl) ?_
    refine lv_iload_n hx hb dX11_requireHandler_8 rfl (lv_at hl 1 rfl) ?_
    refine lv_iconst (v := 0) hx hb dX11_requireHandler_9 (by decide) ?_
    refine lv_aload_n hx hb dX11_requireHandler_10 rfl (lv_at hl 0 rfl) ?_
    obtain ⟨hk1, hq⟩ := chk_e hq
    refine d_get B hW (ci := 11) inT_11 rfl (dF_11 hk1) (by rw [hk1]; decide) 1 (by decide) u_63 (Or.inl rfl) (v := va_rf (dP S 1101 d)) rfl dX11_requireHandler_11 ?_
    obtain ⟨b2, hb2, hq⟩ := bnd_e hq
    refine W.eq (g2 := F0 m 14 ls [.ref b2, .int 0, .int p1, .ref d]) (by rw [hb2]; rfl) ?_
    obtain ⟨hk3, hq⟩ := chk_e hq
    obtain ⟨r4, S5, C1, Z1, C2, Z2, hg, hq2, rfl, rfl⟩ := bndc_e hq
    replace hq := hq2
    clear hq2
    refine d_ri (d_runV (As := []) (rest := [.int 0, .int p1, .ref d]) B hW hl.1 (d_recv B hW (ci := 0) rfl (dF_0 hk3) (by rw [hk3]; decide)) (c_Jx4a65c_size_8abf5 B.2.2.2.2.2.2.2.2.2.2 S b2 hg) (g_V u_114 u_115 u_116 u_4 u_117) y1_Jx4a65c_size_8abf5 rfl ⟨Nat.le_of_ble_eq_true rfl, Nat.le_of_ble_eq_true rfl⟩ hT rfl (Nat.le_of_ble_eq_true rfl) dX11_requireHandler_14) hW hT (fun H locs cells slots hW hT => ?_)
    clear hg
    refine lv_iconst (v := 1) hx hb dX11_requireHandler_17 (by decide) ?_
    refine lv_isub hx hb dX11_requireHandler_18 ?_
    obtain ⟨hk6, hq⟩ := chk_e hq
    rcases bndx_e hq with ⟨r7, S8, C1, Z1, C2, Z2, hg, hq2, rfl, rfl⟩ | ⟨k9, r9, hk9, hg, e9⟩
    rotate_left
    · cases e9
      exact x_ov B hout hk9 (x_runV (As := [.int p1, .int 0, .int (r4 - 1)]) (rest := []) B hW hl.1 (d_recv B hW (ci := 11) rfl (dF_11 hk6) (by rw [hk6]; decide)) (c_X11_requireRange B.2.2.2.2.2.2.2.2.2.2 S5 d p1 0 (r4 - 1) hg) (g_V u_323 u_325 us_7 u_1 u_326) y1_X11_requireRange rfl ⟨Nat.le_of_ble_eq_true rfl, Nat.le_of_ble_eq_true rfl⟩ (C2 := 0) (Z2 := 0) ⟨hT.1, hT.2⟩ rfl (Nat.le_of_ble_eq_true rfl) dX11_requireHandler_19) hW hT
    replace hq := hq2
    clear hq2
    refine x_rv (x_runV (As := [.int p1, .int 0, .int (r4 - 1)]) (rest := []) B hW hl.1 (d_recv B hW (ci := 11) rfl (dF_11 hk6) (by rw [hk6]; decide)) (c_X11_requireRange B.2.2.2.2.2.2.2.2.2.2 S5 d p1 0 (r4 - 1) hg) (g_V u_323 u_325 us_7 u_1 u_326) y1_X11_requireRange rfl ⟨Nat.le_of_ble_eq_true rfl, Nat.le_of_ble_eq_true rfl⟩ hT rfl (Nat.le_of_ble_eq_true rfl) dX11_requireHandler_19) hW hT (fun H locs cells slots hW hT => ?_)
    clear hg
    refine lv_aload_n hx hb dX11_requireHandler_22 rfl (lv_at hl 0 rfl) ?_
    obtain ⟨hk9, hq⟩ := chk_e hq
    refine d_get B hW (ci := 11) inT_11 rfl (dF_11 hk9) (by rw [hk9]; decide) 1 (by decide) u_63 (Or.inl rfl) (v := va_rf (dP S8 1101 d)) rfl dX11_requireHandler_23 ?_
    refine lv_iload_n hx hb dX11_requireHandler_26 rfl (lv_at hl 1 rfl) ?_
    obtain ⟨b10, hb10, hq⟩ := bnd_e hq
    refine W.eq (g2 := F0 m 27 ls [.int p1, .ref b10]) (by rw [hb10]; rfl) ?_
    obtain ⟨hk11, hq⟩ := chk_e hq
    obtain ⟨r12, S13, C1, Z1, C2, Z2, hg, hq2, rfl, rfl⟩ := bndc_e hq
    replace hq := hq2
    clear hq2
    refine d_rq (d_runV (As := [.int p1]) (rest := []) B hW hl.1 (d_recv B hW (ci := 0) rfl (dF_0 hk11) (by rw [hk11]; decide)) (c_Jx4a65c_get_915e3 B.2.2.2.2.2.2.2.2.2.2 S8 b10 p1 hg) (g_V u_351 u_352 u_353 u_4 u_354) y1_Jx4a65c_get_915e3 rfl ⟨Nat.le_of_ble_eq_true rfl, Nat.le_of_ble_eq_true rfl⟩ hT rfl (Nat.le_of_ble_eq_true rfl) dX11_requireHandler_27) hW hT (fun H locs cells slots hW hT => ?_)
    clear hg
    obtain ⟨b14, hb14, hq⟩ := bnd_e hq
    refine W.eq (g2 := F0 m 30 ls [.ref b14]) (by rw [hb14]; rfl) ?_
    obtain ⟨hk15, hq⟩ := chk_e hq
    refine d_cast B (d_recv B hW (ci := 8) rfl (dF_8 hk15) (by rw [hk15]; decide)) u_378 un_25 dX11_requireHandler_30 ?_
    exact x_aret (x := (some b14)) B (Or.inl ⟨_, rfl⟩) hW hq hT dX11_requireHandler_33
  · replace hq := if_y hc hq
    refine lv_null hx hb dX11_requireHandler_5 ?_
    exact x_aret (x := none) B (Or.inl ⟨_, rfl⟩) hW hq hT dX11_requireHandler_6
set_option maxHeartbeats 4000000 in
set_option maxRecDepth 100000 in
theorem k_X11_then_28 {p : Program} {l : Launch} {e : Env} {s : State} {m : MethodId} {args : Array Value} {below : List Frame} {meth : Method} {c : Code} {D : va_G} {A : Nat → Prop} {G : DG} {d : Nat} {k : Nat} {r : Int32} {S' : DS} {TC TZ : Nat} (B : dB p l s m args meth c D A G yX11_then.cls yX11_then.name cX11_then 8 (some .int) (Cond.code yX11_then cX11_then 8 (some .int))) (hout : ∀ x ∈ c.exceptionTable.toList, False) :
    ∀ (S : DS) (v5 : Option Nat) (v6 : Option Nat) (z0 : Option Nat) (C Z : Nat), q_X11_then_28 G.2.2 S d v5 v6 z0 = some ((k, r), S', C, Z) → ∀ (H : Heap) (locs : List Loc) (ls : Array Slot) (cells slots : Nat), dOK D A G S s.heap H locs → lv_has ls 8 [(0, .ref d), (5, va_rf v5), (6, va_rf v6)] → cells + C = (rD 9 253 TC TZ).cells ∧ slots + Z = (rD 9 253 TC TZ).slots → W p l e (rD 9 253 TC TZ) s m args below meth c H locs cells slots (vx_MQ below (xQi D A G k r S') (xX D A G k S') args s (rD 9 253 TC TZ).cells (rD 9 253 TC TZ).slots A) (F0 m 28 ls [va_rf z0]) := by
  have hx := B.1
  have hb := B.2.1
  intro S v5 v6 z0 C Z hq H locs ls cells slots hW hl hT
  unfold q_X11_then_28 at hq
  refine e_astore (x := z0) (lv' := [(7, va_rf z0), (0, .ref d), (5, va_rf v5), (6, va_rf v6)]) hx hb dX11_then_28 hl (by decide) (catc rfl (catc rf_cat (catc rf_cat catn))) rfl (fun ls hl => ?_)
  refine lv_aload_n hx hb dX11_then_30 rfl (lv_at hl 1 rfl) ?_
  refine lv_bipush (v := 8) hx hb dX11_then_31 (by decide) ?_
  obtain ⟨hk7, hq⟩ := chk_e hq
  rcases bndx_e hq with ⟨r8, S9, C1, Z1, C2, Z2, hg, hq2, rfl, rfl⟩ | ⟨k9, r9, hk9, hg, e9⟩
  rotate_left
  · cases e9
    exact x_ov B hout hk9 (x_runV (As := [.int 8]) (rest := []) B hW hl.1 (d_recv B hW (ci := 11) rfl (dF_11 hk7) (by rw [hk7]; decide)) (c_X11_requireRoom B.2.2.2.2.2.2.2.2.2.2 S d 8 hg) (g_V u_110 u_112 us_0 u_1 u_113) y1_X11_requireRoom rfl ⟨Nat.le_of_ble_eq_true rfl, Nat.le_of_ble_eq_true rfl⟩ (C2 := 0) (Z2 := 0) ⟨hT.1, hT.2⟩ rfl (Nat.le_of_ble_eq_true rfl) dX11_then_33) hW hT
  replace hq := hq2
  clear hq2
  refine x_rv (x_runV (As := [.int 8]) (rest := []) B hW hl.1 (d_recv B hW (ci := 11) rfl (dF_11 hk7) (by rw [hk7]; decide)) (c_X11_requireRoom B.2.2.2.2.2.2.2.2.2.2 S d 8 hg) (g_V u_110 u_112 us_0 u_1 u_113) y1_X11_requireRoom rfl ⟨Nat.le_of_ble_eq_true rfl, Nat.le_of_ble_eq_true rfl⟩ hT rfl (Nat.le_of_ble_eq_true rfl) dX11_then_33) hW hT (fun H locs cells slots hW hT => ?_)
  clear hg
  refine lv_aload_n hx hb dX11_then_36 rfl (lv_at hl 1 rfl) ?_
  refine d_aload hx hb dX11_then_37 (lv_at hl 2 rfl) ?_
  refine d_aload hx hb dX11_then_39 (lv_at hl 3 rfl) ?_
  refine d_aload hx hb dX11_then_41 (lv_at hl 0 rfl) ?_
  obtain ⟨hk10, hq⟩ := chk_e hq
  obtain ⟨r11, S12, C1, Z1, C2, Z2, hg, hq2, rfl, rfl⟩ := bndc_e hq
  replace hq := hq2
  clear hq2
  refine d_ri (d_runV (As := [va_rf v5, va_rf v6, va_rf z0]) (rest := []) B hW hl.1 (d_recv B hW (ci := 11) rfl (dF_11 hk10) (by rw [hk10]; decide)) (c_X11_derive B.2.2.2.2.2.2.2.2.2.2 S9 d v5 v6 z0 hg) (g_V u_547 u_549 us_21 u_1 u_550) y1_X11_derive rfl ⟨Nat.le_of_ble_eq_true rfl, Nat.le_of_ble_eq_true rfl⟩ hT rfl (Nat.le_of_ble_eq_true rfl) dX11_then_43) hW hT (fun H locs cells slots hW hT => ?_)
  clear hg
  exact x_iret B hW hq hT dX11_then_46
set_option maxHeartbeats 4000000 in
set_option maxRecDepth 100000 in
theorem c_X11_then {l : Launch} (hst : l.stackTraces = false) {D : va_G} {A : Nat → Prop} {G : DG} (S : DS) (d : Nat) (p1 : Int32) (p2 : Int32) (p3 : Int32) (p4 : Int32) {k : Nat} {r : Int32} {S' : DS} {TC TZ : Nat} (hq : q_X11_then G.2.2 S d p1 p2 p3 p4 = some ((k, r), S', TC, TZ)) : vx_Met l yX11_then (wM yX11_then cX11_then 8 (some .int)) (rD 9 253 TC TZ) (va_Pc [.ref d, .int p1, .int p2, .int p3, .int p4] (dPre D A G S)) (xQi D A G k r S') (xX D A G k S') TC TZ A := by
  obtain ⟨C, Z, hq, hT⟩ : ∃ C Z, q_X11_then G.2.2 S d p1 p2 p3 p4 = some ((k, r), S', C, Z) ∧ (0 + C = (rD 9 253 TC TZ).cells ∧ 0 + Z = (rD 9 253 TC TZ).slots) := ⟨TC, TZ, hq, Nat.zero_add _, Nat.zero_add _⟩
  refine x_head hst (by decide) (Nat.le_of_ble_eq_true rfl) ?_
  intro p e s m args below meth c ls B hout hW hl
  have hx := B.1
  have hb := B.2.1
  have hl : lv_has ls 8 [(0, .ref d), (1, .int p1), (2, .int p2), (3, .int p3), (4, .int p4)] := hl
  unfold q_X11_then at hq
  refine lv_aload_n hx hb dX11_then_0 rfl (lv_at hl 0 rfl) ?_
  refine lv_iload_n hx hb dX11_then_1 rfl (lv_at hl 1 rfl) ?_
  obtain ⟨hk1, hq⟩ := chk_e hq
  rcases bndx_e hq with ⟨r2, S3, C1, Z1, C2, Z2, hg, hq2, rfl, rfl⟩ | ⟨k9, r9, hk9, hg, e9⟩
  rotate_left
  · cases e9
    exact x_oq B hout hk9 (x_runV (As := [.int p1]) (rest := []) B hW hl.1 (d_recv B hW (ci := 11) rfl (dF_11 hk1) (by rw [hk1]; decide)) (c_X11_requirePromise B.2.2.2.2.2.2.2.2.2.2 S d p1 hg) (g_V u_371 u_373 us_11 u_1 u_374) y1_X11_requirePromise rfl ⟨Nat.le_of_ble_eq_true rfl, Nat.le_of_ble_eq_true rfl⟩ (C2 := 0) (Z2 := 0) ⟨hT.1, hT.2⟩ rfl (Nat.le_of_ble_eq_true rfl) dX11_then_2) hW hT
  replace hq := hq2
  clear hq2
  refine x_rq (x_runV (As := [.int p1]) (rest := []) B hW hl.1 (d_recv B hW (ci := 11) rfl (dF_11 hk1) (by rw [hk1]; decide)) (c_X11_requirePromise B.2.2.2.2.2.2.2.2.2.2 S d p1 hg) (g_V u_371 u_373 us_11 u_1 u_374) y1_X11_requirePromise rfl ⟨Nat.le_of_ble_eq_true rfl, Nat.le_of_ble_eq_true rfl⟩ hT rfl (Nat.le_of_ble_eq_true rfl) dX11_then_2) hW hT (fun H locs cells slots hW hT => ?_)
  clear hg
  refine e_astore (x := r2) (lv' := [(5, va_rf r2), (0, .ref d), (1, .int p1), (2, .int p2), (3, .int p3), (4, .int p4)]) hx hb dX11_then_5 hl (by decide) (catc rfl (catc rfl (catc rfl (catc rfl (catc rfl catn))))) rfl (fun ls hl => ?_)
  refine lv_aload_n hx hb dX11_then_7 rfl (lv_at hl 1 rfl) ?_
  refine lv_iload_n hx hb dX11_then_8 rfl (lv_at hl 3 rfl) ?_
  obtain ⟨hk4, hq⟩ := chk_e hq
  rcases bndx_e hq with ⟨r5, S6, C1, Z1, C2, Z2, hg, hq2, rfl, rfl⟩ | ⟨k9, r9, hk9, hg, e9⟩
  rotate_left
  · cases e9
    exact x_oq B hout hk9 (x_runV (As := [.int p2]) (rest := []) B hW hl.1 (d_recv B hW (ci := 11) rfl (dF_11 hk4) (by rw [hk4]; decide)) (c_X11_requireHandler B.2.2.2.2.2.2.2.2.2.2 S3 d p2 hg) (g_V u_543 u_545 us_20 u_1 u_546) y1_X11_requireHandler rfl ⟨Nat.le_of_ble_eq_true rfl, Nat.le_of_ble_eq_true rfl⟩ (C2 := 0) (Z2 := 0) ⟨hT.1, hT.2⟩ rfl (Nat.le_of_ble_eq_true rfl) dX11_then_9) hW hT
  replace hq := hq2
  clear hq2
  refine x_rq (x_runV (As := [.int p2]) (rest := []) B hW hl.1 (d_recv B hW (ci := 11) rfl (dF_11 hk4) (by rw [hk4]; decide)) (c_X11_requireHandler B.2.2.2.2.2.2.2.2.2.2 S3 d p2 hg) (g_V u_543 u_545 us_20 u_1 u_546) y1_X11_requireHandler rfl ⟨Nat.le_of_ble_eq_true rfl, Nat.le_of_ble_eq_true rfl⟩ hT rfl (Nat.le_of_ble_eq_true rfl) dX11_then_9) hW hT (fun H locs cells slots hW hT => ?_)
  clear hg
  refine e_astore (x := r5) (lv' := [(6, va_rf r5), (5, va_rf r2), (0, .ref d), (1, .int p1), (2, .int p2), (3, .int p3), (4, .int p4)]) hx hb dX11_then_12 hl (by decide) (catc rf_cat (catc rfl (catc rfl (catc rfl (catc rfl (catc rfl catn)))))) rfl (fun ls hl => ?_)
  refine lv_iload hx hb dX11_then_14 (lv_at hl 6 rfl) ?_
  refine lv_if_eq (tgt := 27) hx hb dX11_then_16 (by decide) (fun hc => ?_) (fun hc => ?_)
  · replace hq := if_y hc hq
    refine lv_null hx hb dX11_then_27 ?_
    exact k_X11_then_28 B hout S6 r2 r5 none _ _ hq _ _ ls _ _ hW (lv_sub hl [2, 1, 0] rfl) hT
  · replace hq := if_n hc hq
    refine lv_aload_n hx hb dX11_then_19 rfl (lv_at hl 2 rfl) ?_
    refine lv_iload_n hx hb dX11_then_20 rfl (lv_at hl 5 rfl) ?_
    obtain ⟨hk13, hq⟩ := chk_e hq
    rcases bndx_e hq with ⟨r14, S15, C1, Z1, C2, Z2, hg, hq2, rfl, rfl⟩ | ⟨k9, r9, hk9, hg, e9⟩
    rotate_left
    · cases e9
      exact x_oq B hout hk9 (x_runV (As := [.int p3]) (rest := []) B hW hl.1 (d_recv B hW (ci := 11) rfl (dF_11 hk13) (by rw [hk13]; decide)) (c_X11_requireHandler B.2.2.2.2.2.2.2.2.2.2 S6 d p3 hg) (g_V u_543 u_545 us_20 u_1 u_546) y1_X11_requireHandler rfl ⟨Nat.le_of_ble_eq_true rfl, Nat.le_of_ble_eq_true rfl⟩ (C2 := 0) (Z2 := 0) ⟨hT.1, hT.2⟩ rfl (Nat.le_of_ble_eq_true rfl) dX11_then_21) hW hT
    replace hq := hq2
    clear hq2
    refine x_rq (x_runV (As := [.int p3]) (rest := []) B hW hl.1 (d_recv B hW (ci := 11) rfl (dF_11 hk13) (by rw [hk13]; decide)) (c_X11_requireHandler B.2.2.2.2.2.2.2.2.2.2 S6 d p3 hg) (g_V u_543 u_545 us_20 u_1 u_546) y1_X11_requireHandler rfl ⟨Nat.le_of_ble_eq_true rfl, Nat.le_of_ble_eq_true rfl⟩ hT rfl (Nat.le_of_ble_eq_true rfl) dX11_then_21) hW hT (fun H locs cells slots hW hT => ?_)
    clear hg
    refine lv_goto (tgt := 28) hx hb dX11_then_24 (by decide) ?_
    exact k_X11_then_28 B hout S15 r2 r5 r14 _ _ hq _ _ ls _ _ hW (lv_sub hl [2, 1, 0] rfl) hT
set_option maxHeartbeats 4000000 in
set_option maxRecDepth 100000 in
theorem c_X11_lastly {l : Launch} (hst : l.stackTraces = false) {D : va_G} {A : Nat → Prop} {G : DG} (S : DS) (d : Nat) (p1 : Int32) (p2 : Int32) {k : Nat} {r : Int32} {S' : DS} {TC TZ : Nat} (hq : q_X11_lastly G.2.2 S d p1 p2 = some ((k, r), S', TC, TZ)) : vx_Met l yX11_lastly (wM yX11_lastly cX11_lastly 5 (some .int)) (rD 9 253 TC TZ) (va_Pc [.ref d, .int p1, .int p2] (dPre D A G S)) (xQi D A G k r S') (xX D A G k S') TC TZ A := by
  obtain ⟨C, Z, hq, hT⟩ : ∃ C Z, q_X11_lastly G.2.2 S d p1 p2 = some ((k, r), S', C, Z) ∧ (0 + C = (rD 9 253 TC TZ).cells ∧ 0 + Z = (rD 9 253 TC TZ).slots) := ⟨TC, TZ, hq, Nat.zero_add _, Nat.zero_add _⟩
  refine x_head hst (by decide) (Nat.le_of_ble_eq_true rfl) ?_
  intro p e s m args below meth c ls B hout hW hl
  have hx := B.1
  have hb := B.2.1
  have hl : lv_has ls 5 [(0, .ref d), (1, .int p1), (2, .int p2)] := hl
  unfold q_X11_lastly at hq
  refine lv_aload_n hx hb dX11_lastly_0 rfl (lv_at hl 0 rfl) ?_
  refine lv_iload_n hx hb dX11_lastly_1 rfl (lv_at hl 1 rfl) ?_
  obtain ⟨hk1, hq⟩ := chk_e hq
  rcases bndx_e hq with ⟨r2, S3, C1, Z1, C2, Z2, hg, hq2, rfl, rfl⟩ | ⟨k9, r9, hk9, hg, e9⟩
  rotate_left
  · cases e9
    exact x_oq B hout hk9 (x_runV (As := [.int p1]) (rest := []) B hW hl.1 (d_recv B hW (ci := 11) rfl (dF_11 hk1) (by rw [hk1]; decide)) (c_X11_requirePromise B.2.2.2.2.2.2.2.2.2.2 S d p1 hg) (g_V u_371 u_373 us_11 u_1 u_374) y1_X11_requirePromise rfl ⟨Nat.le_of_ble_eq_true rfl, Nat.le_of_ble_eq_true rfl⟩ (C2 := 0) (Z2 := 0) ⟨hT.1, hT.2⟩ rfl (Nat.le_of_ble_eq_true rfl) dX11_lastly_2) hW hT
  replace hq := hq2
  clear hq2
  refine x_rq (x_runV (As := [.int p1]) (rest := []) B hW hl.1 (d_recv B hW (ci := 11) rfl (dF_11 hk1) (by rw [hk1]; decide)) (c_X11_requirePromise B.2.2.2.2.2.2.2.2.2.2 S d p1 hg) (g_V u_371 u_373 us_11 u_1 u_374) y1_X11_requirePromise rfl ⟨Nat.le_of_ble_eq_true rfl, Nat.le_of_ble_eq_true rfl⟩ hT rfl (Nat.le_of_ble_eq_true rfl) dX11_lastly_2) hW hT (fun H locs cells slots hW hT => ?_)
  clear hg
  refine e_astore_n (x := r2) (lv' := [(3, va_rf r2), (0, .ref d), (1, .int p1), (2, .int p2)]) hx hb dX11_lastly_5 rfl hl (by decide) (catc rfl (catc rfl (catc rfl catn))) rfl (fun ls hl => ?_)
  refine lv_aload_n hx hb dX11_lastly_6 rfl (lv_at hl 1 rfl) ?_
  refine lv_iload_n hx hb dX11_lastly_7 rfl (lv_at hl 3 rfl) ?_
  obtain ⟨hk4, hq⟩ := chk_e hq
  rcases bndx_e hq with ⟨r5, S6, C1, Z1, C2, Z2, hg, hq2, rfl, rfl⟩ | ⟨k9, r9, hk9, hg, e9⟩
  rotate_left
  · cases e9
    exact x_oq B hout hk9 (x_runV (As := [.int p2]) (rest := []) B hW hl.1 (d_recv B hW (ci := 11) rfl (dF_11 hk4) (by rw [hk4]; decide)) (c_X11_requireHandler B.2.2.2.2.2.2.2.2.2.2 S3 d p2 hg) (g_V u_543 u_545 us_20 u_1 u_546) y1_X11_requireHandler rfl ⟨Nat.le_of_ble_eq_true rfl, Nat.le_of_ble_eq_true rfl⟩ (C2 := 0) (Z2 := 0) ⟨hT.1, hT.2⟩ rfl (Nat.le_of_ble_eq_true rfl) dX11_lastly_8) hW hT
  replace hq := hq2
  clear hq2
  refine x_rq (x_runV (As := [.int p2]) (rest := []) B hW hl.1 (d_recv B hW (ci := 11) rfl (dF_11 hk4) (by rw [hk4]; decide)) (c_X11_requireHandler B.2.2.2.2.2.2.2.2.2.2 S3 d p2 hg) (g_V u_543 u_545 us_20 u_1 u_546) y1_X11_requireHandler rfl ⟨Nat.le_of_ble_eq_true rfl, Nat.le_of_ble_eq_true rfl⟩ hT rfl (Nat.le_of_ble_eq_true rfl) dX11_lastly_8) hW hT (fun H locs cells slots hW hT => ?_)
  clear hg
  refine e_astore (x := r5) (lv' := [(4, va_rf r5), (3, va_rf r2), (0, .ref d), (1, .int p1), (2, .int p2)]) hx hb dX11_lastly_11 hl (by decide) (catc rf_cat (catc rfl (catc rfl (catc rfl catn)))) rfl (fun ls hl => ?_)
  refine lv_aload_n hx hb dX11_lastly_13 rfl (lv_at hl 2 rfl) ?_
  refine lv_bipush (v := 8) hx hb dX11_lastly_14 (by decide) ?_
  obtain ⟨hk7, hq⟩ := chk_e hq
  rcases bndx_e hq with ⟨r8, S9, C1, Z1, C2, Z2, hg, hq2, rfl, rfl⟩ | ⟨k9, r9, hk9, hg, e9⟩
  rotate_left
  · cases e9
    exact x_ov B hout hk9 (x_runV (As := [.int 8]) (rest := []) B hW hl.1 (d_recv B hW (ci := 11) rfl (dF_11 hk7) (by rw [hk7]; decide)) (c_X11_requireRoom B.2.2.2.2.2.2.2.2.2.2 S6 d 8 hg) (g_V u_110 u_112 us_0 u_1 u_113) y1_X11_requireRoom rfl ⟨Nat.le_of_ble_eq_true rfl, Nat.le_of_ble_eq_true rfl⟩ (C2 := 0) (Z2 := 0) ⟨hT.1, hT.2⟩ rfl (Nat.le_of_ble_eq_true rfl) dX11_lastly_16) hW hT
  replace hq := hq2
  clear hq2
  refine x_rv (x_runV (As := [.int 8]) (rest := []) B hW hl.1 (d_recv B hW (ci := 11) rfl (dF_11 hk7) (by rw [hk7]; decide)) (c_X11_requireRoom B.2.2.2.2.2.2.2.2.2.2 S6 d 8 hg) (g_V u_110 u_112 us_0 u_1 u_113) y1_X11_requireRoom rfl ⟨Nat.le_of_ble_eq_true rfl, Nat.le_of_ble_eq_true rfl⟩ hT rfl (Nat.le_of_ble_eq_true rfl) dX11_lastly_16) hW hT (fun H locs cells slots hW hT => ?_)
  clear hg
  refine d_aload hx hb dX11_lastly_19 (lv_at hl 0 rfl) ?_
  refine d_ifnonnull (tgt := 32) hx hb dX11_lastly_21 (by decide) (fun hc => ?_) (fun hc => ?_)
  · replace hq := if_n hc hq
    refine lv_aload_n hx hb dX11_lastly_32 rfl (lv_at hl 2 rfl) ?_
    refine d_aload_n hx hb dX11_lastly_33 rfl (lv_at hl 1 rfl) ?_
    obtain ⟨C1, Z1, hq2, rfl, rfl⟩ := tick_e hq
    replace hq := hq2
    clear hq2
    refine d_new B hW (ci := 5) (kd := 6) inT_5 tyX5 tyX5_ok u_565 u_566 u_24 rfl (fun j hj => by rcases (show j = 0 ∨ j = 1 by omega) with rfl | rfl <;> rfl) dw_5 hT dX11_lastly_34 (fun H cells slots q10 S11 eq eS hW hT => ?_)
    replace hq := lt9_u eq hq
    replace hq := lt9_u eS hq
    have hkq10 : dK S11 q10 = 6 := by rw [eS, eq]; exact va_up_self _ _ _
    clear eS eq
    refine lv_dup hx hb dX11_lastly_37 rfl ?_
    refine d_aload hx hb dX11_lastly_38 (lv_at hl 0 rfl) ?_
    refine lv_iconst (v := 0) hx hb dX11_lastly_40 (by decide) ?_
    obtain ⟨r12, S13, C1, Z1, C2, Z2, hg, hq2, rfl, rfl⟩ := bndc_e hq
    replace hq := hq2
    clear hq2
    refine d_rv (d_runI (As := [va_rf r5, .int 0]) (rest := [.ref q10, va_rf r2, .ref d]) B hW hl.1 (c_X5_init B.2.2.2.2.2.2.2.2.2.2 S11 q10 r5 0 hg) u_567 u_568 u_24 u_569 rfl y1_X5_init rfl ⟨Nat.le_of_ble_eq_true rfl, Nat.le_of_ble_eq_true rfl⟩ hT rfl (cat8 (vcc rfl (vcc rf_cat (vcc rfl vcn))) (Nat.le_of_ble_eq_true rfl)) dX11_lastly_41) hW hT (fun H locs cells slots hW hT => ?_)
    clear hg
    obtain ⟨C1, Z1, hq2, rfl, rfl⟩ := tick_e hq
    replace hq := hq2
    clear hq2
    refine d_new B hW (ci := 5) (kd := 6) inT_5 tyX5 tyX5_ok u_565 u_566 u_24 rfl (fun j hj => by rcases (show j = 0 ∨ j = 1 by omega) with rfl | rfl <;> rfl) dw_5 hT dX11_lastly_44 (fun H cells slots q14 S15 eq eS hW hT => ?_)
    replace hq := lt9_u eq hq
    replace hq := lt9_u eS hq
    have hkq14 : dK S15 q14 = 6 := by rw [eS, eq]; exact va_up_self _ _ _
    clear eS eq
    refine lv_dup hx hb dX11_lastly_47 rfl ?_
    refine d_aload hx hb dX11_lastly_48 (lv_at hl 0 rfl) ?_
    refine lv_iconst (v := 2) hx hb dX11_lastly_50 (by decide) ?_
    obtain ⟨r16, S17, C1, Z1, C2, Z2, hg, hq2, rfl, rfl⟩ := bndc_e hq
    replace hq := hq2
    clear hq2
    refine d_rv (d_runI (As := [va_rf r5, .int 2]) (rest := [.ref q14, .ref q10, va_rf r2, .ref d]) B hW hl.1 (c_X5_init B.2.2.2.2.2.2.2.2.2.2 S15 q14 r5 2 hg) u_567 u_568 u_24 u_569 rfl y1_X5_init rfl ⟨Nat.le_of_ble_eq_true rfl, Nat.le_of_ble_eq_true rfl⟩ hT rfl (cat8 (vcc rfl (vcc rfl (vcc rf_cat (vcc rfl vcn)))) (Nat.le_of_ble_eq_true rfl)) dX11_lastly_51) hW hT (fun H locs cells slots hW hT => ?_)
    clear hg
    obtain ⟨hk18, hq⟩ := chk_e hq
    obtain ⟨r19, S20, C1, Z1, C2, Z2, hg, hq2, rfl, rfl⟩ := bndc_e hq
    replace hq := hq2
    clear hq2
    refine d_ri (d_runV (As := [va_rf r2, .ref q10, .ref q14]) (rest := []) B hW hl.1 (d_recv B hW (ci := 11) rfl (dF_11 hk18) (by rw [hk18]; decide)) (c_X11_derive B.2.2.2.2.2.2.2.2.2.2 S17 d r2 (some q10) (some q14) hg) (g_V u_547 u_549 us_21 u_1 u_550) y1_X11_derive rfl ⟨Nat.le_of_ble_eq_true rfl, Nat.le_of_ble_eq_true rfl⟩ hT rfl (Nat.le_of_ble_eq_true rfl) dX11_lastly_54) hW hT (fun H locs cells slots hW hT => ?_)
    clear hg
    exact x_iret B hW hq hT dX11_lastly_57
  · replace hq := if_y hc hq
    refine lv_aload_n hx hb dX11_lastly_24 rfl (lv_at hl 2 rfl) ?_
    refine d_aload_n hx hb dX11_lastly_25 rfl (lv_at hl 1 rfl) ?_
    refine lv_null hx hb dX11_lastly_26 ?_
    refine lv_null hx hb dX11_lastly_27 ?_
    obtain ⟨hk21, hq⟩ := chk_e hq
    obtain ⟨r22, S23, C1, Z1, C2, Z2, hg, hq2, rfl, rfl⟩ := bndc_e hq
    replace hq := hq2
    clear hq2
    refine d_ri (d_runV (As := [va_rf r2, .null, .null]) (rest := []) B hW hl.1 (d_recv B hW (ci := 11) rfl (dF_11 hk21) (by rw [hk21]; decide)) (c_X11_derive B.2.2.2.2.2.2.2.2.2.2 S9 d r2 none none hg) (g_V u_547 u_549 us_21 u_1 u_550) y1_X11_derive rfl ⟨Nat.le_of_ble_eq_true rfl, Nat.le_of_ble_eq_true rfl⟩ hT rfl (Nat.le_of_ble_eq_true rfl) dX11_lastly_28) hW hT (fun H locs cells slots hW hT => ?_)
    clear hg
    exact x_iret B hW hq hT dX11_lastly_31
