set_option maxHeartbeats 4000000 in
set_option maxRecDepth 100000 in
theorem c_X11_requireRoom {l : Launch} (hst : l.stackTraces = false) {D : va_G} {A : Nat → Prop} {G : DG} (S : DS) (d : Nat) (p1 : Int32) {k : Nat} {r : Int32} {S' : DS} {TC TZ : Nat} (hq : q_X11_requireRoom G.2.2 S d p1 = some ((k, r), S', TC, TZ)) : vx_Met l yX11_requireRoom (wM yX11_requireRoom cX11_requireRoom 2 none) (rD 6 90 TC TZ) (va_Pc [.ref d, .int p1] (dPre D A G S)) (xQv D A G k S') (xX D A G k S') TC TZ A := by
  obtain ⟨C, Z, hq, hT⟩ : ∃ C Z, q_X11_requireRoom G.2.2 S d p1 = some ((k, r), S', C, Z) ∧ (0 + C = (rD 6 90 TC TZ).cells ∧ 0 + Z = (rD 6 90 TC TZ).slots) := ⟨TC, TZ, hq, Nat.zero_add _, Nat.zero_add _⟩
  refine x_head hst (by decide) (Nat.le_of_ble_eq_true rfl) ?_
  intro p e s m args below meth c ls B hout hW hl
  have hx := B.1
  have hb := B.2.1
  have hl : lv_has ls 2 [(0, .ref d), (1, .int p1)] := hl
  unfold q_X11_requireRoom at hq
  refine lv_sipush (v := 3000) hx hb dX11_requireRoom_0 (by decide) ?_
  refine lv_aload_n hx hb dX11_requireRoom_3 rfl (lv_at hl 0 rfl) ?_
  obtain ⟨hk1, hq⟩ := chk_e hq
  refine d_get B hW (ci := 11) inT_11 rfl (dF_11 hk1) (by rw [hk1]; decide) 0 (by decide) u_62 (Or.inl rfl) (v := va_rf (dP S 1100 d)) rfl dX11_requireRoom_4 ?_
  obtain ⟨b2, hb2, hq⟩ := bnd_e hq
  refine W.eq (g2 := F0 m 7 ls [.ref b2, .int 3000]) (by rw [hb2]; rfl) ?_
  obtain ⟨hk3, hq⟩ := chk_e hq
  obtain ⟨r4, S5, C1, Z1, C2, Z2, hg, hq2, rfl, rfl⟩ := bndc_e hq
  replace hq := hq2
  clear hq2
  refine d_ri (d_runV (As := []) (rest := [.int 3000]) B hW hl.1 (d_recv B hW (ci := 0) rfl (dF_0 hk3) (by rw [hk3]; decide)) (c_Jx4a65c_size_8abf5 B.2.2.2.2.2.2.2.2.2.2 S b2 hg) (g_V u_114 u_115 u_116 u_4 u_117) y1_Jx4a65c_size_8abf5 rfl ⟨Nat.le_of_ble_eq_true rfl, Nat.le_of_ble_eq_true rfl⟩ hT rfl (Nat.le_of_ble_eq_true rfl) dX11_requireRoom_7) hW hT (fun H locs cells slots hW hT => ?_)
  clear hg
  refine lv_isub hx hb dX11_requireRoom_10 ?_
  refine lv_iload_n hx hb dX11_requireRoom_11 rfl (lv_at hl 1 rfl) ?_
  refine lv_icmp_ge (tgt := 25) hx hb dX11_requireRoom_12 (by decide) (fun hc => ?_) (fun hc => ?_)
  · replace hq := if_y hc hq
    exact x_vret B hW hq hT dX11_requireRoom_25
  · replace hq := if_n hc hq
    exact x_throw B hout hW hl.1 (Or.inr ⟨rfl, rfl, rfl⟩) ut_0 ⟨Nat.le_of_ble_eq_true rfl, Nat.le_of_ble_eq_true rfl⟩ dX11_requireRoom_15 dX11_requireRoom_18 dX11_requireRoom_19 dX11_requireRoom_21 dX11_requireRoom_24 hq hT
set_option maxHeartbeats 4000000 in
set_option maxRecDepth 100000 in
theorem c_X11_promise {l : Launch} (hst : l.stackTraces = false) {D : va_G} {A : Nat → Prop} {G : DG} (S : DS) (d : Nat) {k : Nat} {r : Int32} {S' : DS} {TC TZ : Nat} (hq : q_X11_promise G.2.2 S d = some ((k, r), S', TC, TZ)) : vx_Met l yX11_promise (wM yX11_promise cX11_promise 2 (some .int)) (rD 8 229 TC TZ) (va_Pc [.ref d] (dPre D A G S)) (xQi D A G k r S') (xX D A G k S') TC TZ A := by
  obtain ⟨C, Z, hq, hT⟩ : ∃ C Z, q_X11_promise G.2.2 S d = some ((k, r), S', C, Z) ∧ (0 + C = (rD 8 229 TC TZ).cells ∧ 0 + Z = (rD 8 229 TC TZ).slots) := ⟨TC, TZ, hq, Nat.zero_add _, Nat.zero_add _⟩
  refine x_head hst (by decide) (Nat.le_of_ble_eq_true rfl) ?_
  intro p e s m args below meth c ls B hout hW hl
  have hx := B.1
  have hb := B.2.1
  have hl : lv_has ls 2 [(0, .ref d)] := hl
  unfold q_X11_promise at hq
  refine lv_aload_n hx hb dX11_promise_0 rfl (lv_at hl 0 rfl) ?_
  refine lv_bipush (v := 8) hx hb dX11_promise_1 (by decide) ?_
  obtain ⟨hk1, hq⟩ := chk_e hq
  rcases bndx_e hq with ⟨r2, S3, C1, Z1, C2, Z2, hg, hq2, rfl, rfl⟩ | ⟨k9, r9, hk9, hg, e9⟩
  rotate_left
  · cases e9
    exact x_ov B hout hk9 (x_runV (As := [.int 8]) (rest := []) B hW hl.1 (d_recv B hW (ci := 11) rfl (dF_11 hk1) (by rw [hk1]; decide)) (c_X11_requireRoom B.2.2.2.2.2.2.2.2.2.2 S d 8 hg) (g_V u_110 u_112 us_0 u_1 u_113) y1_X11_requireRoom rfl ⟨Nat.le_of_ble_eq_true rfl, Nat.le_of_ble_eq_true rfl⟩ (C2 := 0) (Z2 := 0) ⟨hT.1, hT.2⟩ rfl (Nat.le_of_ble_eq_true rfl) dX11_promise_3) hW hT
  replace hq := hq2
  clear hq2
  refine x_rv (x_runV (As := [.int 8]) (rest := []) B hW hl.1 (d_recv B hW (ci := 11) rfl (dF_11 hk1) (by rw [hk1]; decide)) (c_X11_requireRoom B.2.2.2.2.2.2.2.2.2.2 S d 8 hg) (g_V u_110 u_112 us_0 u_1 u_113) y1_X11_requireRoom rfl ⟨Nat.le_of_ble_eq_true rfl, Nat.le_of_ble_eq_true rfl⟩ hT rfl (Nat.le_of_ble_eq_true rfl) dX11_promise_3) hW hT (fun H locs cells slots hW hT => ?_)
  clear hg
  refine lv_aload_n hx hb dX11_promise_6 rfl (lv_at hl 0 rfl) ?_
  obtain ⟨hk4, hq⟩ := chk_e hq
  obtain ⟨r5, S6, C1, Z1, C2, Z2, hg, hq2, rfl, rfl⟩ := bndc_e hq
  replace hq := hq2
  clear hq2
  refine d_rq (d_runV (As := []) (rest := []) B hW hl.1 (d_recv B hW (ci := 11) rfl (dF_11 hk4) (by rw [hk4]; decide)) (c_X11_newPromise B.2.2.2.2.2.2.2.2.2.2 S3 d hg) (g_V u_185 u_187 us_2 u_1 u_188) y1_X11_newPromise rfl ⟨Nat.le_of_ble_eq_true rfl, Nat.le_of_ble_eq_true rfl⟩ hT rfl (Nat.le_of_ble_eq_true rfl) dX11_promise_7) hW hT (fun H locs cells slots hW hT => ?_)
  clear hg
  refine e_astore_n (x := r5) (lv' := [(1, va_rf r5), (0, .ref d)]) hx hb dX11_promise_10 rfl hl (by decide) (catc rfl catn) rfl (fun ls hl => ?_)
  refine d_aload_n hx hb dX11_promise_11 rfl (lv_at hl 0 rfl) ?_
  obtain ⟨b7, hb7, hq⟩ := bnd_e hq
  refine W.eq (g2 := F0 m 12 ls [.ref b7]) (by rw [hb7]; rfl) ?_
  obtain ⟨hk8, hq⟩ := chk_e hq
  refine d_get B hW (ci := 7) inT_7 rfl (dF_7 hk8) (by rw [hk8]; decide) 0 (by decide) u_308 (Or.inl rfl) (v := va_rf (dP S6 700 b7)) rfl dX11_promise_12 ?_
  refine d_aload_n hx hb dX11_promise_15 rfl (lv_at hl 0 rfl) ?_
  obtain ⟨b9, hb9, hq⟩ := bnd_e hq
  refine W.eq (g2 := F0 m 16 ls [va_rf r5, .ref b9]) (by rw [hb9]; rfl) ?_
  obtain ⟨hk10, hq⟩ := chk_e hq
  refine d_put B hW (ci := 6) inT_6 tyX6 tyX6_ok nmX6 rfl (dF_6 hk10) (by rw [hk10]; decide) (by rw [hk10]; decide) 6 (by decide) u_207 (Or.inl rfl) (Or.inl rfl) (ty := (.object "PromiseDesk$Resolvers")) (tyX6_ok 6 (by decide)) rf_nO rf_fO (Nat.le_of_ble_eq_true rfl) (S1 := sP S6 606 b9 r5) (ds_6_6 hk10 r5) ⟨rfl, rfl, rfl⟩ (fun b hb => dF_sP hb) dX11_promise_16 (fun H locs hW => ?_)
  obtain ⟨S11, eS⟩ : ∃ z, z = sP S6 606 b9 r5 := ⟨_, rfl⟩
  rw [← eS] at hW
  replace hq := lt9_u eS hq
  have hk12 : dK S11 b7 = 8 := by rw [eS]; exact hk8
  have hk13 : dK S11 b9 = 7 := by rw [eS]; exact hk10
  clear eS
  refine d_aload_n hx hb dX11_promise_19 rfl (lv_at hl 0 rfl) ?_
  refine W.eq (g2 := F0 m 20 ls [.ref b7]) (by rw [hb7]; rfl) ?_
  refine d_get B hW (ci := 7) inT_7 rfl (dF_7 hk12) (by rw [hk12]; decide) 0 (by decide) u_308 (Or.inl rfl) (v := va_rf (dP S11 700 b7)) rfl dX11_promise_20 ?_
  obtain ⟨b14, hb14, hq⟩ := bnd_e hq
  refine W.eq (g2 := F0 m 23 ls [.ref b14]) (by rw [hb14]; rfl) ?_
  obtain ⟨hk15, hq⟩ := chk_e hq
  refine d_get B hW (ci := 6) inT_6 rfl (dF_6 hk15) (by rw [hk15]; decide) 0 (by decide) u_211 (Or.inr u_212) (v := .int (dI S11 1000 b14)) rfl dX11_promise_23 ?_
  exact x_iret B hW hq hT dX11_promise_26
set_option maxHeartbeats 4000000 in
set_option maxRecDepth 100000 in
theorem c_X11_requirePromise {l : Launch} (hst : l.stackTraces = false) {D : va_G} {A : Nat → Prop} {G : DG} (S : DS) (d : Nat) (p1 : Int32) {k : Nat} {r : Option Nat} {S' : DS} {TC TZ : Nat} (hq : q_X11_requirePromise G.2.2 S d p1 = some ((k, r), S', TC, TZ)) : vx_Met l yX11_requirePromise (wM yX11_requirePromise cX11_requirePromise 4 (some (.object "PromiseDesk$Promise"))) (rD 6 90 TC TZ) (va_Pc [.ref d, .int p1] (dPre D A G S)) (xQq D A G k r S') (xX D A G k S') TC TZ A := by
  obtain ⟨C, Z, hq, hT⟩ : ∃ C Z, q_X11_requirePromise G.2.2 S d p1 = some ((k, r), S', C, Z) ∧ (0 + C = (rD 6 90 TC TZ).cells ∧ 0 + Z = (rD 6 90 TC TZ).slots) := ⟨TC, TZ, hq, Nat.zero_add _, Nat.zero_add _⟩
  refine x_head hst (by decide) (Nat.le_of_ble_eq_true rfl) ?_
  intro p e s m args below meth c ls B hout hW hl
  have hx := B.1
  have hb := B.2.1
  have hl : lv_has ls 4 [(0, .ref d), (1, .int p1)] := hl
  unfold q_X11_requirePromise at hq
  refine lv_aload_n hx hb dX11_requirePromise_0 rfl (lv_at hl 0 rfl) ?_
  refine lv_iload_n hx hb dX11_requirePromise_1 rfl (lv_at hl 1 rfl) ?_
  obtain ⟨hk1, hq⟩ := chk_e hq
  obtain ⟨r2, S3, C1, Z1, C2, Z2, hg, hq2, rfl, rfl⟩ := bndc_e hq
  replace hq := hq2
  clear hq2
  refine d_rq (d_runV (As := [.int p1]) (rest := []) B hW hl.1 (d_recv B hW (ci := 11) rfl (dF_11 hk1) (by rw [hk1]; decide)) (c_X11_thingOf B.2.2.2.2.2.2.2.2.2.2 S d p1 hg) (g_V u_347 u_349 us_9 u_1 u_350) y1_X11_thingOf rfl ⟨Nat.le_of_ble_eq_true rfl, Nat.le_of_ble_eq_true rfl⟩ hT rfl (Nat.le_of_ble_eq_true rfl) dX11_requirePromise_2) hW hT (fun H locs cells slots hW hT => ?_)
  clear hg
  refine e_astore_n (x := r2) (lv' := [(3, va_rf r2), (0, .ref d), (1, .int p1)]) hx hb dX11_requirePromise_5 rfl hl (by decide) (catc rfl (catc rfl catn)) rfl (fun ls hl => ?_)
  refine d_aload_n hx hb dX11_requirePromise_6 rfl (lv_at hl 0 rfl) ?_
  obtain ⟨ho, hq⟩ := chk_e hq
  refine d_instP B hW (x := r2) ho u_189 dX11_requirePromise_7 ?_
  refine lv_if_eq (tgt := 20) hx hb dX11_requirePromise_10 (by decide) (fun hc => ?_) (fun hc => ?_)
  · replace hq := if_y hc hq
    exact x_throw B hout hW hl.1 (Or.inl ⟨rfl, rfl, rfl⟩) ut_3 ⟨Nat.le_of_ble_eq_true rfl, Nat.le_of_ble_eq_true rfl⟩ dX11_requirePromise_20 dX11_requirePromise_23 dX11_requirePromise_24 dX11_requirePromise_26 dX11_requirePromise_29 hq hT
  · replace hq := if_n hc hq
    refine d_aload_n hx hb dX11_requirePromise_13 rfl (lv_at hl 0 rfl) ?_
    obtain ⟨b4, hb4, hq⟩ := bnd_e hq
    refine W.eq (g2 := F0 m 14 ls [.ref b4]) (by rw [hb4]; rfl) ?_
    obtain ⟨hk5, hq⟩ := chk_e hq
    refine d_cast B (d_recv B hW (ci := 6) rfl (dF_6 hk5) (by rw [hk5]; decide)) u_189 un_23 dX11_requirePromise_14 ?_
    refine e_astore_n (x := (some b4)) (lv' := [(2, .ref b4), (3, va_rf r2), (0, .ref d), (1, .int p1)]) hx hb dX11_requirePromise_17 rfl hl (by decide) (catc rf_cat (catc rfl (catc rfl catn))) rfl (fun ls hl => ?_)
    refine lv_aload_n hx hb dX11_requirePromise_18 rfl (lv_at hl 0 rfl) ?_
    exact x_aret (x := (some b4)) B (Or.inl ⟨_, rfl⟩) hW hq hT dX11_requirePromise_19
set_option maxHeartbeats 4000000 in
set_option maxRecDepth 100000 in
theorem c_X11_requireKept {l : Launch} (hst : l.stackTraces = false) {D : va_G} {A : Nat → Prop} {G : DG} (S : DS) (d : Nat) (p1 : Int32) {k : Nat} {r : Option Nat} {S' : DS} {TC TZ : Nat} (hq : q_X11_requireKept G.2.2 S d p1 = some ((k, r), S', TC, TZ)) : vx_Met l yX11_requireKept (wM yX11_requireKept cX11_requireKept 3 (some (.object "PromiseDesk$Resolvers"))) (rD 7 113 TC TZ) (va_Pc [.ref d, .int p1] (dPre D A G S)) (xQq D A G k r S') (xX D A G k S') TC TZ A := by
  obtain ⟨C, Z, hq, hT⟩ : ∃ C Z, q_X11_requireKept G.2.2 S d p1 = some ((k, r), S', C, Z) ∧ (0 + C = (rD 7 113 TC TZ).cells ∧ 0 + Z = (rD 7 113 TC TZ).slots) := ⟨TC, TZ, hq, Nat.zero_add _, Nat.zero_add _⟩
  refine x_head hst (by decide) (Nat.le_of_ble_eq_true rfl) ?_
  intro p e s m args below meth c ls B hout hW hl
  have hx := B.1
  have hb := B.2.1
  have hl : lv_has ls 3 [(0, .ref d), (1, .int p1)] := hl
  unfold q_X11_requireKept at hq
  refine lv_aload_n hx hb dX11_requireKept_0 rfl (lv_at hl 0 rfl) ?_
  refine lv_iload_n hx hb dX11_requireKept_1 rfl (lv_at hl 1 rfl) ?_
  obtain ⟨hk1, hq⟩ := chk_e hq
  rcases bndx_e hq with ⟨r2, S3, C1, Z1, C2, Z2, hg, hq2, rfl, rfl⟩ | ⟨k9, r9, hk9, hg, e9⟩
  rotate_left
  · cases e9
    exact x_oq B hout hk9 (x_runV (As := [.int p1]) (rest := []) B hW hl.1 (d_recv B hW (ci := 11) rfl (dF_11 hk1) (by rw [hk1]; decide)) (c_X11_requirePromise B.2.2.2.2.2.2.2.2.2.2 S d p1 hg) (g_V u_371 u_373 us_11 u_1 u_374) y1_X11_requirePromise rfl ⟨Nat.le_of_ble_eq_true rfl, Nat.le_of_ble_eq_true rfl⟩ (C2 := 0) (Z2 := 0) ⟨hT.1, hT.2⟩ rfl (Nat.le_of_ble_eq_true rfl) dX11_requireKept_2) hW hT
  replace hq := hq2
  clear hq2
  refine x_rq (x_runV (As := [.int p1]) (rest := []) B hW hl.1 (d_recv B hW (ci := 11) rfl (dF_11 hk1) (by rw [hk1]; decide)) (c_X11_requirePromise B.2.2.2.2.2.2.2.2.2.2 S d p1 hg) (g_V u_371 u_373 us_11 u_1 u_374) y1_X11_requirePromise rfl ⟨Nat.le_of_ble_eq_true rfl, Nat.le_of_ble_eq_true rfl⟩ hT rfl (Nat.le_of_ble_eq_true rfl) dX11_requireKept_2) hW hT (fun H locs cells slots hW hT => ?_)
  clear hg
  obtain ⟨b4, hb4, hq⟩ := bnd_e hq
  refine W.eq (g2 := F0 m 5 ls [.ref b4]) (by rw [hb4]; rfl) ?_
  obtain ⟨hk5, hq⟩ := chk_e hq
  refine d_get B hW (ci := 6) inT_6 rfl (dF_6 hk5) (by rw [hk5]; decide) 6 (by decide) u_207 (Or.inl rfl) (v := va_rf (dP S3 606 b4)) rfl dX11_requireKept_5 ?_
  refine e_astore_n (x := (dP S3 606 b4)) (lv' := [(2, va_rf (dP S3 606 b4)), (0, .ref d), (1, .int p1)]) hx hb dX11_requireKept_8 rfl hl (by decide) (catc rfl (catc rfl catn)) rfl (fun ls hl => ?_)
  refine d_aload_n hx hb dX11_requireKept_9 rfl (lv_at hl 0 rfl) ?_
  refine d_ifnonnull (tgt := 23) hx hb dX11_requireKept_10 (by decide) (fun hc => ?_) (fun hc => ?_)
  · replace hq := if_n hc hq
    refine d_aload_n hx hb dX11_requireKept_23 rfl (lv_at hl 0 rfl) ?_
    exact x_aret (x := (dP S3 606 b4)) B (Or.inl ⟨_, rfl⟩) hW hq hT dX11_requireKept_24
  · replace hq := if_y hc hq
    exact x_throw B hout hW hl.1 (Or.inl ⟨rfl, rfl, rfl⟩) ut_4 ⟨Nat.le_of_ble_eq_true rfl, Nat.le_of_ble_eq_true rfl⟩ dX11_requireKept_13 dX11_requireKept_16 dX11_requireKept_17 dX11_requireKept_19 dX11_requireKept_22 hq hT
set_option maxHeartbeats 4000000 in
set_option maxRecDepth 100000 in
theorem c_X11_requireRange {l : Launch} (hst : l.stackTraces = false) {D : va_G} {A : Nat → Prop} {G : DG} (S : DS) (d : Nat) (p1 : Int32) (p2 : Int32) (p3 : Int32) {k : Nat} {r : Int32} {S' : DS} {TC TZ : Nat} (hq : q_X11_requireRange G.2.2 S d p1 p2 p3 = some ((k, r), S', TC, TZ)) : vx_Met l yX11_requireRange (wM yX11_requireRange cX11_requireRange 4 none) (rD 6 90 TC TZ) (va_Pc [.ref d, .int p1, .int p2, .int p3] (dPre D A G S)) (xQv D A G k S') (xX D A G k S') TC TZ A := by
  obtain ⟨C, Z, hq, hT⟩ : ∃ C Z, q_X11_requireRange G.2.2 S d p1 p2 p3 = some ((k, r), S', C, Z) ∧ (0 + C = (rD 6 90 TC TZ).cells ∧ 0 + Z = (rD 6 90 TC TZ).slots) := ⟨TC, TZ, hq, Nat.zero_add _, Nat.zero_add _⟩
  refine x_head hst (by decide) (Nat.le_of_ble_eq_true rfl) ?_
  intro p e s m args below meth c ls B hout hW hl
  have hx := B.1
  have hb := B.2.1
  have hl : lv_has ls 4 [(0, .ref d), (1, .int p1), (2, .int p2), (3, .int p3)] := hl
  unfold q_X11_requireRange at hq
  refine lv_iload_n hx hb dX11_requireRange_0 rfl (lv_at hl 1 rfl) ?_
  refine lv_iload_n hx hb dX11_requireRange_1 rfl (lv_at hl 2 rfl) ?_
  refine lv_icmp_lt (tgt := 10) hx hb dX11_requireRange_2 (by decide) (fun hc => ?_) (fun hc => ?_)
  · replace hq := if_y hc hq
    exact x_throw B hout hW hl.1 (Or.inl ⟨rfl, rfl, rfl⟩) ut_1 ⟨Nat.le_of_ble_eq_true rfl, Nat.le_of_ble_eq_true rfl⟩ dX11_requireRange_10 dX11_requireRange_13 dX11_requireRange_14 dX11_requireRange_16 dX11_requireRange_19 hq hT
  · replace hq := if_n hc hq
    refine lv_iload_n hx hb dX11_requireRange_5 rfl (lv_at hl 1 rfl) ?_
    refine lv_iload_n hx hb dX11_requireRange_6 rfl (lv_at hl 3 rfl) ?_
    refine lv_icmp_le (tgt := 20) hx hb dX11_requireRange_7 (by decide) (fun hc => ?_) (fun hc => ?_)
    · replace hq := if_y hc hq
      exact x_vret B hW hq hT dX11_requireRange_20
    · replace hq := if_n hc hq
      exact x_throw B hout hW hl.1 (Or.inl ⟨rfl, rfl, rfl⟩) ut_1 ⟨Nat.le_of_ble_eq_true rfl, Nat.le_of_ble_eq_true rfl⟩ dX11_requireRange_10 dX11_requireRange_13 dX11_requireRange_14 dX11_requireRange_16 dX11_requireRange_19 hq hT
set_option maxHeartbeats 4000000 in
set_option maxRecDepth 100000 in
theorem k_X11_requireValue_17 {p : Program} {l : Launch} {e : Env} {s : State} {m : MethodId} {args : Array Value} {below : List Frame} {meth : Method} {c : Code} {D : va_G} {A : Nat → Prop} {G : DG} {d : Nat} {k : Nat} {r : Int32} {S' : DS} {TC TZ : Nat} (B : dB p l s m args meth c D A G yX11_requireValue.cls yX11_requireValue.name cX11_requireValue 3 none (Cond.code yX11_requireValue cX11_requireValue 3 none)) (hout : ∀ x ∈ c.exceptionTable.toList, False) :
    ∀ (S : DS) (v1 : Int32) (z0 : Int32) (C Z : Nat), q_X11_requireValue_17 G.2.2 S d v1 z0 = some ((k, r), S', C, Z) → ∀ (H : Heap) (locs : List Loc) (ls : Array Slot) (cells slots : Nat), dOK D A G S s.heap H locs → lv_has ls 3 [(0, .ref d), (1, .int v1)] → cells + C = (rD 6 90 TC TZ).cells ∧ slots + Z = (rD 6 90 TC TZ).slots → W p l e (rD 6 90 TC TZ) s m args below meth c H locs cells slots (vx_MQ below (xQv D A G k S') (xX D A G k S') args s (rD 6 90 TC TZ).cells (rD 6 90 TC TZ).slots A) (F0 m 17 ls [.int z0]) := by
  have hx := B.1
  have hb := B.2.1
  intro S v1 z0 C Z hq H locs ls cells slots hW hl hT
  unfold q_X11_requireValue_17 at hq
  refine e_istore_n (lv' := [(2, .int z0), (0, .ref d), (1, .int v1)]) hx hb dX11_requireValue_17 rfl hl (by decide) (catc rfl (catc rfl catn)) rfl (fun ls hl => ?_)
  refine lv_iload_n hx hb dX11_requireValue_18 rfl (lv_at hl 0 rfl) ?_
  refine lv_if_ne (tgt := 40) hx hb dX11_requireValue_19 (by decide) (fun hc => ?_) (fun hc => ?_)
  · replace hq := if_n hc hq
    exact x_vret B hW hq hT dX11_requireValue_40
  · replace hq := if_y hc hq
    refine lv_aload_n hx hb dX11_requireValue_22 rfl (lv_at hl 1 rfl) ?_
    refine lv_iload_n hx hb dX11_requireValue_23 rfl (lv_at hl 2 rfl) ?_
    obtain ⟨hk1, hq⟩ := chk_e hq
    obtain ⟨r2, S3, C1, Z1, C2, Z2, hg, hq2, rfl, rfl⟩ := bndc_e hq
    replace hq := hq2
    clear hq2
    refine d_rq (d_runV (As := [.int v1]) (rest := []) B hW hl.1 (d_recv B hW (ci := 11) rfl (dF_11 hk1) (by rw [hk1]; decide)) (c_X11_thingOf B.2.2.2.2.2.2.2.2.2.2 S d v1 hg) (g_V u_347 u_349 us_9 u_1 u_350) y1_X11_thingOf rfl ⟨Nat.le_of_ble_eq_true rfl, Nat.le_of_ble_eq_true rfl⟩ hT rfl (Nat.le_of_ble_eq_true rfl) dX11_requireValue_24) hW hT (fun H locs cells slots hW hT => ?_)
    clear hg
    refine d_ifnonnull (tgt := 40) hx hb dX11_requireValue_27 (by decide) (fun hc => ?_) (fun hc => ?_)
    · replace hq := if_n hc hq
      exact x_vret B hW hq hT dX11_requireValue_40
    · replace hq := if_y hc hq
      exact x_throw B hout hW hl.1 (Or.inl ⟨rfl, rfl, rfl⟩) ut_2 ⟨Nat.le_of_ble_eq_true rfl, Nat.le_of_ble_eq_true rfl⟩ dX11_requireValue_30 dX11_requireValue_33 dX11_requireValue_34 dX11_requireValue_36 dX11_requireValue_39 hq hT
set_option maxHeartbeats 4000000 in
set_option maxRecDepth 100000 in
theorem k_X11_requireValue_16 {p : Program} {l : Launch} {e : Env} {s : State} {m : MethodId} {args : Array Value} {below : List Frame} {meth : Method} {c : Code} {D : va_G} {A : Nat → Prop} {G : DG} {d : Nat} {k : Nat} {r : Int32} {S' : DS} {TC TZ : Nat} (B : dB p l s m args meth c D A G yX11_requireValue.cls yX11_requireValue.name cX11_requireValue 3 none (Cond.code yX11_requireValue cX11_requireValue 3 none)) (hout : ∀ x ∈ c.exceptionTable.toList, False) :
    ∀ (S : DS) (v1 : Int32) (C Z : Nat), q_X11_requireValue_16 G.2.2 S d v1 = some ((k, r), S', C, Z) → ∀ (H : Heap) (locs : List Loc) (ls : Array Slot) (cells slots : Nat), dOK D A G S s.heap H locs → lv_has ls 3 [(0, .ref d), (1, .int v1)] → cells + C = (rD 6 90 TC TZ).cells ∧ slots + Z = (rD 6 90 TC TZ).slots → W p l e (rD 6 90 TC TZ) s m args below meth c H locs cells slots (vx_MQ below (xQv D A G k S') (xX D A G k S') args s (rD 6 90 TC TZ).cells (rD 6 90 TC TZ).slots A) (F0 m 16 ls []) := by
  have hx := B.1
  have hb := B.2.1
  intro S v1 C Z hq H locs ls cells slots hW hl hT
  unfold q_X11_requireValue_16 at hq
  refine lv_iconst (v := 0) hx hb dX11_requireValue_16 (by decide) ?_
  exact k_X11_requireValue_17 B hout S v1 0 _ _ hq _ _ ls _ _ hW (lv_sub hl [0, 1] rfl) hT
set_option maxHeartbeats 4000000 in
set_option maxRecDepth 100000 in
theorem c_X11_requireValue {l : Launch} (hst : l.stackTraces = false) {D : va_G} {A : Nat → Prop} {G : DG} (S : DS) (d : Nat) (p1 : Int32) {k : Nat} {r : Int32} {S' : DS} {TC TZ : Nat} (hq : q_X11_requireValue G.2.2 S d p1 = some ((k, r), S', TC, TZ)) : vx_Met l yX11_requireValue (wM yX11_requireValue cX11_requireValue 3 none) (rD 6 90 TC TZ) (va_Pc [.ref d, .int p1] (dPre D A G S)) (xQv D A G k S') (xX D A G k S') TC TZ A := by
  obtain ⟨C, Z, hq, hT⟩ : ∃ C Z, q_X11_requireValue G.2.2 S d p1 = some ((k, r), S', C, Z) ∧ (0 + C = (rD 6 90 TC TZ).cells ∧ 0 + Z = (rD 6 90 TC TZ).slots) := ⟨TC, TZ, hq, Nat.zero_add _, Nat.zero_add _⟩
  refine x_head hst (by decide) (Nat.le_of_ble_eq_true rfl) ?_
  intro p e s m args below meth c ls B hout hW hl
  have hx := B.1
  have hb := B.2.1
  have hl : lv_has ls 3 [(0, .ref d), (1, .int p1)] := hl
  unfold q_X11_requireValue at hq
  refine lv_iload_n hx hb dX11_requireValue_0 rfl (lv_at hl 1 rfl) ?_
  refine lv_iconst (v := (-1)) hx hb dX11_requireValue_1 (by decide) ?_
  refine lv_icmp_lt (tgt := 16) hx hb dX11_requireValue_2 (by decide) (fun hc => ?_) (fun hc => ?_)
  · replace hq := if_y hc hq
    exact k_X11_requireValue_16 B hout S p1 _ _ hq _ _ ls _ _ hW (lv_sub hl [0, 1] rfl) hT
  · replace hq := if_n hc hq
    refine lv_iload_n hx hb dX11_requireValue_5 rfl (lv_at hl 1 rfl) ?_
    refine lv_sipush (v := 999) hx hb dX11_requireValue_6 (by decide) ?_
    refine lv_icmp_gt (tgt := 16) hx hb dX11_requireValue_9 (by decide) (fun hc => ?_) (fun hc => ?_)
    · replace hq := if_y hc hq
      exact k_X11_requireValue_16 B hout S p1 _ _ hq _ _ ls _ _ hW (lv_sub hl [0, 1] rfl) hT
    · replace hq := if_n hc hq
      refine lv_iconst (v := 1) hx hb dX11_requireValue_12 (by decide) ?_
      refine lv_goto (tgt := 17) hx hb dX11_requireValue_13 (by decide) ?_
      exact k_X11_requireValue_17 B hout S p1 1 _ _ hq _ _ ls _ _ hW (lv_sub hl [0, 1] rfl) hT
set_option maxHeartbeats 4000000 in
set_option maxRecDepth 100000 in
theorem k_X11_handler_31 {p : Program} {l : Launch} {e : Env} {s : State} {m : MethodId} {args : Array Value} {below : List Frame} {meth : Method} {c : Code} {D : va_G} {A : Nat → Prop} {G : DG} {d : Nat} {k : Nat} {r : Int32} {S' : DS} {TC TZ : Nat} (B : dB p l s m args meth c D A G yX11_handler.cls yX11_handler.name cX11_handler 4 (some .int) (Cond.code yX11_handler cX11_handler 4 (some .int))) (hout : ∀ x ∈ c.exceptionTable.toList, False) :
    ∀ (S : DS) (v1 : Int32) (v2 : Int32) (z0 : Option Nat) (C Z : Nat), q_X11_handler_31 G.2.2 S d v1 v2 z0 = some ((k, r), S', C, Z) → ∀ (H : Heap) (locs : List Loc) (ls : Array Slot) (cells slots : Nat), dOK D A G S s.heap H locs → lv_has ls 4 [(0, .ref d), (1, .int v1), (2, .int v2)] → cells + C = (rD 8 208 TC TZ).cells ∧ slots + Z = (rD 8 208 TC TZ).slots → W p l e (rD 8 208 TC TZ) s m args below meth c H locs cells slots (vx_MQ below (xQi D A G k r S') (xX D A G k S') args s (rD 8 208 TC TZ).cells (rD 8 208 TC TZ).slots A) (F0 m 31 ls [va_rf z0]) := by
  have hx := B.1
  have hb := B.2.1
  intro S v1 v2 z0 C Z hq H locs ls cells slots hW hl hT
  unfold q_X11_handler_31 at hq
  refine e_astore_n (x := z0) (lv' := [(3, va_rf z0), (0, .ref d), (1, .int v1), (2, .int v2)]) hx hb dX11_handler_31 rfl hl (by decide) (catc rfl (catc rfl (catc rfl catn))) rfl (fun ls hl => ?_)
  refine lv_aload_n hx hb dX11_handler_32 rfl (lv_at hl 1 rfl) ?_
  obtain ⟨hk10, hq⟩ := chk_e hq
  refine d_get B hW (ci := 11) inT_11 rfl (dF_11 hk10) (by rw [hk10]; decide) 1 (by decide) u_63 (Or.inl rfl) (v := va_rf (dP S 1101 d)) rfl dX11_handler_33 ?_
  obtain ⟨b11, hb11, hq⟩ := bnd_e hq
  refine W.eq (g2 := F0 m 36 ls [.ref b11]) (by rw [hb11]; rfl) ?_
  obtain ⟨hk12, hq⟩ := chk_e hq
  obtain ⟨r13, S14, C1, Z1, C2, Z2, hg, hq2, rfl, rfl⟩ := bndc_e hq
  replace hq := hq2
  clear hq2
  refine d_ri (d_runV (As := []) (rest := []) B hW hl.1 (d_recv B hW (ci := 0) rfl (dF_0 hk12) (by rw [hk12]; decide)) (c_Jx4a65c_size_8abf5 B.2.2.2.2.2.2.2.2.2.2 S b11 hg) (g_V u_114 u_115 u_116 u_4 u_117) y1_Jx4a65c_size_8abf5 rfl ⟨Nat.le_of_ble_eq_true rfl, Nat.le_of_ble_eq_true rfl⟩ hT rfl (Nat.le_of_ble_eq_true rfl) dX11_handler_36) hW hT (fun H locs cells slots hW hT => ?_)
  clear hg
  refine lv_sipush (v := 1000) hx hb dX11_handler_39 (by decide) ?_
  refine lv_icmp_lt (tgt := 55) hx hb dX11_handler_42 (by decide) (fun hc => ?_) (fun hc => ?_)
  · replace hq := if_y hc hq
    refine lv_aload_n hx hb dX11_handler_55 rfl (lv_at hl 1 rfl) ?_
    obtain ⟨hk15, hq⟩ := chk_e hq
    refine d_get B hW (ci := 11) inT_11 rfl (dF_11 hk15) (by rw [hk15]; decide) 1 (by decide) u_63 (Or.inl rfl) (v := va_rf (dP S14 1101 d)) rfl dX11_handler_56 ?_
    obtain ⟨C1, Z1, hq2, rfl, rfl⟩ := tick_e hq
    replace hq := hq2
    clear hq2
    refine d_new B hW (ci := 8) (kd := 9) inT_8 tyX8 tyX8_ok u_378 u_379 u_21 rfl (fun j hj => by rcases (show j = 0 ∨ j = 1 ∨ j = 2 ∨ j = 3 by omega) with rfl | rfl | rfl | rfl <;> rfl) dw_8 hT dX11_handler_59 (fun H cells slots q16 S17 eq eS hW hT => ?_)
    replace hq := lt9_u eq hq
    replace hq := lt9_u eS hq
    have hkq16 : dK S17 q16 = 9 := by rw [eS, eq]; exact va_up_self _ _ _
    clear eS eq
    refine lv_dup hx hb dX11_handler_62 rfl ?_
    refine lv_aload_n hx hb dX11_handler_63 rfl (lv_at hl 1 rfl) ?_
    obtain ⟨hk18, hq⟩ := chk_e hq
    refine d_get B hW (ci := 11) inT_11 rfl (dF_11 hk18) (by rw [hk18]; decide) 1 (by decide) u_63 (Or.inl rfl) (v := va_rf (dP S17 1101 d)) rfl dX11_handler_64 ?_
    obtain ⟨b19, hb19, hq⟩ := bnd_e hq
    refine W.eq (g2 := F0 m 67 ls [.ref b19, .ref q16, .ref q16, va_rf (dP S14 1101 d)]) (by rw [hb19]; rfl) ?_
    obtain ⟨hk20, hq⟩ := chk_e hq
    obtain ⟨r21, S22, C1, Z1, C2, Z2, hg, hq2, rfl, rfl⟩ := bndc_e hq
    replace hq := hq2
    clear hq2
    refine d_ri (d_runV (As := []) (rest := [.ref q16, .ref q16, va_rf (dP S14 1101 d)]) B hW hl.1 (d_recv B hW (ci := 0) rfl (dF_0 hk20) (by rw [hk20]; decide)) (c_Jx4a65c_size_8abf5 B.2.2.2.2.2.2.2.2.2.2 S17 b19 hg) (g_V u_114 u_115 u_116 u_4 u_117) y1_Jx4a65c_size_8abf5 rfl ⟨Nat.le_of_ble_eq_true rfl, Nat.le_of_ble_eq_true rfl⟩ hT rfl (cat8 (vcc rfl (vcc rfl (vcc rf_cat vcn))) (Nat.le_of_ble_eq_true rfl)) dX11_handler_67) hW hT (fun H locs cells slots hW hT => ?_)
    clear hg
    refine lv_iload_n hx hb dX11_handler_70 rfl (lv_at hl 2 rfl) ?_
    refine lv_iload_n hx hb dX11_handler_71 rfl (lv_at hl 3 rfl) ?_
    refine d_aload_n hx hb dX11_handler_72 rfl (lv_at hl 0 rfl) ?_
    obtain ⟨r23, S24, C1, Z1, C2, Z2, hg, hq2, rfl, rfl⟩ := bndc_e hq
    replace hq := hq2
    clear hq2
    refine d_rv (d_runI (As := [.int r21, .int v1, .int v2, va_rf z0]) (rest := [.ref q16, va_rf (dP S14 1101 d)]) B hW hl.1 (c_X8_init B.2.2.2.2.2.2.2.2.2.2 S22 q16 r21 v1 v2 z0 hg) u_380 u_381 u_21 u_382 rfl y1_X8_init rfl ⟨Nat.le_of_ble_eq_true rfl, Nat.le_of_ble_eq_true rfl⟩ hT rfl (cat8 (vcc rfl (vcc rf_cat vcn)) (Nat.le_of_ble_eq_true rfl)) dX11_handler_73) hW hT (fun H locs cells slots hW hT => ?_)
    clear hg
    obtain ⟨b25, hb25, hq⟩ := bnd_e hq
    refine W.eq (g2 := F0 m 76 ls [.ref q16, .ref b25]) (by rw [hb25]; rfl) ?_
    obtain ⟨hk26, hq⟩ := chk_e hq
    obtain ⟨r27, S28, C1, Z1, C2, Z2, hg, hq2, rfl, rfl⟩ := bndc_e hq
    replace hq := hq2
    clear hq2
    refine d_ri (d_runV (As := [.ref q16]) (rest := []) B hW hl.1 (d_recv B hW (ci := 0) rfl (dF_0 hk26) (by rw [hk26]; decide)) (c_Jx4a65c_add_9ea2d B.2.2.2.2.2.2.2.2.2.2 S24 b25 (some q16) hg) (g_V u_239 u_240 u_241 u_4 u_242) y1_Jx4a65c_add_9ea2d rfl ⟨Nat.le_of_ble_eq_true rfl, Nat.le_of_ble_eq_true rfl⟩ hT rfl (Nat.le_of_ble_eq_true rfl) dX11_handler_76) hW hT (fun H locs cells slots hW hT => ?_)
    clear hg
    refine lv_pop hx hb dX11_handler_79 rfl ?_
    refine lv_aload_n hx hb dX11_handler_80 rfl (lv_at hl 1 rfl) ?_
    obtain ⟨hk29, hq⟩ := chk_e hq
    refine d_get B hW (ci := 11) inT_11 rfl (dF_11 hk29) (by rw [hk29]; decide) 1 (by decide) u_63 (Or.inl rfl) (v := va_rf (dP S28 1101 d)) rfl dX11_handler_81 ?_
    obtain ⟨b30, hb30, hq⟩ := bnd_e hq
    refine W.eq (g2 := F0 m 84 ls [.ref b30]) (by rw [hb30]; rfl) ?_
    obtain ⟨hk31, hq⟩ := chk_e hq
    obtain ⟨r32, S33, C1, Z1, C2, Z2, hg, hq2, rfl, rfl⟩ := bndc_e hq
    replace hq := hq2
    clear hq2
    refine d_ri (d_runV (As := []) (rest := []) B hW hl.1 (d_recv B hW (ci := 0) rfl (dF_0 hk31) (by rw [hk31]; decide)) (c_Jx4a65c_size_8abf5 B.2.2.2.2.2.2.2.2.2.2 S28 b30 hg) (g_V u_114 u_115 u_116 u_4 u_117) y1_Jx4a65c_size_8abf5 rfl ⟨Nat.le_of_ble_eq_true rfl, Nat.le_of_ble_eq_true rfl⟩ hT rfl (Nat.le_of_ble_eq_true rfl) dX11_handler_84) hW hT (fun H locs cells slots hW hT => ?_)
    clear hg
    refine lv_iconst (v := 1) hx hb dX11_handler_87 (by decide) ?_
    refine lv_isub hx hb dX11_handler_88 ?_
    exact x_iret B hW hq hT dX11_handler_89
  · replace hq := if_n hc hq
    exact x_throw B hout hW hl.1 (Or.inr ⟨rfl, rfl, rfl⟩) ut_5 ⟨Nat.le_of_ble_eq_true rfl, Nat.le_of_ble_eq_true rfl⟩ dX11_handler_45 dX11_handler_48 dX11_handler_49 dX11_handler_51 dX11_handler_54 hq hT
set_option maxHeartbeats 4000000 in
set_option maxRecDepth 100000 in
theorem k_X11_handler_22 {p : Program} {l : Launch} {e : Env} {s : State} {m : MethodId} {args : Array Value} {below : List Frame} {meth : Method} {c : Code} {D : va_G} {A : Nat → Prop} {G : DG} {d : Nat} {k : Nat} {r : Int32} {S' : DS} {TC TZ : Nat} (B : dB p l s m args meth c D A G yX11_handler.cls yX11_handler.name cX11_handler 4 (some .int) (Cond.code yX11_handler cX11_handler 4 (some .int))) (hout : ∀ x ∈ c.exceptionTable.toList, False) :
    ∀ (S : DS) (v1 : Int32) (v2 : Int32) (C Z : Nat), q_X11_handler_22 G.2.2 S d v1 v2 = some ((k, r), S', C, Z) → ∀ (H : Heap) (locs : List Loc) (ls : Array Slot) (cells slots : Nat), dOK D A G S s.heap H locs → lv_has ls 4 [(0, .ref d), (1, .int v1), (2, .int v2)] → cells + C = (rD 8 208 TC TZ).cells ∧ slots + Z = (rD 8 208 TC TZ).slots → W p l e (rD 8 208 TC TZ) s m args below meth c H locs cells slots (vx_MQ below (xQi D A G k r S') (xX D A G k S') args s (rD 8 208 TC TZ).cells (rD 8 208 TC TZ).slots A) (F0 m 22 ls []) := by
  have hx := B.1
  have hb := B.2.1
  intro S v1 v2 C Z hq H locs ls cells slots hW hl hT
  unfold q_X11_handler_22 at hq
  refine lv_aload_n hx hb dX11_handler_22 rfl (lv_at hl 0 rfl) ?_
  refine lv_iload_n hx hb dX11_handler_23 rfl (lv_at hl 2 rfl) ?_
  obtain ⟨hk7, hq⟩ := chk_e hq
  rcases bndx_e hq with ⟨r8, S9, C1, Z1, C2, Z2, hg, hq2, rfl, rfl⟩ | ⟨k9, r9, hk9, hg, e9⟩
  rotate_left
  · cases e9
    exact x_oq B hout hk9 (x_runV (As := [.int v2]) (rest := []) B hW hl.1 (d_recv B hW (ci := 11) rfl (dF_11 hk7) (by rw [hk7]; decide)) (c_X11_requireKept B.2.2.2.2.2.2.2.2.2.2 S d v2 hg) (g_V u_367 u_369 us_10 u_1 u_370) y1_X11_requireKept rfl ⟨Nat.le_of_ble_eq_true rfl, Nat.le_of_ble_eq_true rfl⟩ (C2 := 0) (Z2 := 0) ⟨hT.1, hT.2⟩ rfl (Nat.le_of_ble_eq_true rfl) dX11_handler_24) hW hT
  replace hq := hq2
  clear hq2
  refine x_rq (x_runV (As := [.int v2]) (rest := []) B hW hl.1 (d_recv B hW (ci := 11) rfl (dF_11 hk7) (by rw [hk7]; decide)) (c_X11_requireKept B.2.2.2.2.2.2.2.2.2.2 S d v2 hg) (g_V u_367 u_369 us_10 u_1 u_370) y1_X11_requireKept rfl ⟨Nat.le_of_ble_eq_true rfl, Nat.le_of_ble_eq_true rfl⟩ hT rfl (Nat.le_of_ble_eq_true rfl) dX11_handler_24) hW hT (fun H locs cells slots hW hT => ?_)
  clear hg
  refine lv_goto (tgt := 31) hx hb dX11_handler_27 (by decide) ?_
  exact k_X11_handler_31 B hout S9 v1 v2 r8 _ _ hq _ _ ls _ _ hW (lv_sub hl [0, 1, 2] rfl) hT
set_option maxHeartbeats 4000000 in
set_option maxRecDepth 100000 in
theorem c_X11_handler {l : Launch} (hst : l.stackTraces = false) {D : va_G} {A : Nat → Prop} {G : DG} (S : DS) (d : Nat) (p1 : Int32) (p2 : Int32) {k : Nat} {r : Int32} {S' : DS} {TC TZ : Nat} (hq : q_X11_handler G.2.2 S d p1 p2 = some ((k, r), S', TC, TZ)) : vx_Met l yX11_handler (wM yX11_handler cX11_handler 4 (some .int)) (rD 8 208 TC TZ) (va_Pc [.ref d, .int p1, .int p2] (dPre D A G S)) (xQi D A G k r S') (xX D A G k S') TC TZ A := by
  obtain ⟨C, Z, hq, hT⟩ : ∃ C Z, q_X11_handler G.2.2 S d p1 p2 = some ((k, r), S', C, Z) ∧ (0 + C = (rD 8 208 TC TZ).cells ∧ 0 + Z = (rD 8 208 TC TZ).slots) := ⟨TC, TZ, hq, Nat.zero_add _, Nat.zero_add _⟩
  refine x_head hst (by decide) (Nat.le_of_ble_eq_true rfl) ?_
  intro p e s m args below meth c ls B hout hW hl
  have hx := B.1
  have hb := B.2.1
  have hl : lv_has ls 4 [(0, .ref d), (1, .int p1), (2, .int p2)] := hl
  unfold q_X11_handler at hq
  refine lv_aload_n hx hb dX11_handler_0 rfl (lv_at hl 0 rfl) ?_
  refine lv_iload_n hx hb dX11_handler_1 rfl (lv_at hl 1 rfl) ?_
  refine lv_iconst (v := 0) hx hb dX11_handler_2 (by decide) ?_
  refine lv_iconst (v := 5) hx hb dX11_handler_3 (by decide) ?_
  obtain ⟨hk1, hq⟩ := chk_e hq
  rcases bndx_e hq with ⟨r2, S3, C1, Z1, C2, Z2, hg, hq2, rfl, rfl⟩ | ⟨k9, r9, hk9, hg, e9⟩
  rotate_left
  · cases e9
    exact x_ov B hout hk9 (x_runV (As := [.int p1, .int 0, .int 5]) (rest := []) B hW hl.1 (d_recv B hW (ci := 11) rfl (dF_11 hk1) (by rw [hk1]; decide)) (c_X11_requireRange B.2.2.2.2.2.2.2.2.2.2 S d p1 0 5 hg) (g_V u_323 u_325 us_7 u_1 u_326) y1_X11_requireRange rfl ⟨Nat.le_of_ble_eq_true rfl, Nat.le_of_ble_eq_true rfl⟩ (C2 := 0) (Z2 := 0) ⟨hT.1, hT.2⟩ rfl (Nat.le_of_ble_eq_true rfl) dX11_handler_4) hW hT
  replace hq := hq2
  clear hq2
  refine x_rv (x_runV (As := [.int p1, .int 0, .int 5]) (rest := []) B hW hl.1 (d_recv B hW (ci := 11) rfl (dF_11 hk1) (by rw [hk1]; decide)) (c_X11_requireRange B.2.2.2.2.2.2.2.2.2.2 S d p1 0 5 hg) (g_V u_323 u_325 us_7 u_1 u_326) y1_X11_requireRange rfl ⟨Nat.le_of_ble_eq_true rfl, Nat.le_of_ble_eq_true rfl⟩ hT rfl (Nat.le_of_ble_eq_true rfl) dX11_handler_4) hW hT (fun H locs cells slots hW hT => ?_)
  clear hg
  refine lv_aload_n hx hb dX11_handler_7 rfl (lv_at hl 0 rfl) ?_
  refine lv_iload_n hx hb dX11_handler_8 rfl (lv_at hl 2 rfl) ?_
  obtain ⟨hk4, hq⟩ := chk_e hq
  rcases bndx_e hq with ⟨r5, S6, C1, Z1, C2, Z2, hg, hq2, rfl, rfl⟩ | ⟨k9, r9, hk9, hg, e9⟩
  rotate_left
  · cases e9
    exact x_ov B hout hk9 (x_runV (As := [.int p2]) (rest := []) B hW hl.1 (d_recv B hW (ci := 11) rfl (dF_11 hk4) (by rw [hk4]; decide)) (c_X11_requireValue B.2.2.2.2.2.2.2.2.2.2 S3 d p2 hg) (g_V u_343 u_345 us_8 u_1 u_346) y1_X11_requireValue rfl ⟨Nat.le_of_ble_eq_true rfl, Nat.le_of_ble_eq_true rfl⟩ (C2 := 0) (Z2 := 0) ⟨hT.1, hT.2⟩ rfl (Nat.le_of_ble_eq_true rfl) dX11_handler_9) hW hT
  replace hq := hq2
  clear hq2
  refine x_rv (x_runV (As := [.int p2]) (rest := []) B hW hl.1 (d_recv B hW (ci := 11) rfl (dF_11 hk4) (by rw [hk4]; decide)) (c_X11_requireValue B.2.2.2.2.2.2.2.2.2.2 S3 d p2 hg) (g_V u_343 u_345 us_8 u_1 u_346) y1_X11_requireValue rfl ⟨Nat.le_of_ble_eq_true rfl, Nat.le_of_ble_eq_true rfl⟩ hT rfl (Nat.le_of_ble_eq_true rfl) dX11_handler_9) hW hT (fun H locs cells slots hW hT => ?_)
  clear hg
  refine lv_iload_n hx hb dX11_handler_12 rfl (lv_at hl 1 rfl) ?_
  refine lv_iconst (v := 4) hx hb dX11_handler_13 (by decide) ?_
  refine lv_icmp_eq (tgt := 22) hx hb dX11_handler_14 (by decide) (fun hc => ?_) (fun hc => ?_)
  · replace hq := if_y hc hq
    exact k_X11_handler_22 B hout S6 p1 p2 _ _ hq _ _ ls _ _ hW (lv_sub hl [0, 1, 2] rfl) hT
  · replace hq := if_n hc hq
    refine lv_iload_n hx hb dX11_handler_17 rfl (lv_at hl 1 rfl) ?_
    refine lv_iconst (v := 5) hx hb dX11_handler_18 (by decide) ?_
    refine lv_icmp_ne (tgt := 30) hx hb dX11_handler_19 (by decide) (fun hc => ?_) (fun hc => ?_)
    · replace hq := if_n hc hq
      refine lv_null hx hb dX11_handler_30 ?_
      exact k_X11_handler_31 B hout S6 p1 p2 none _ _ hq _ _ ls _ _ hW (lv_sub hl [0, 1, 2] rfl) hT
    · replace hq := if_y hc hq
      exact k_X11_handler_22 B hout S6 p1 p2 _ _ hq _ _ ls _ _ hW (lv_sub hl [0, 1, 2] rfl) hT
set_option maxHeartbeats 4000000 in
set_option maxRecDepth 100000 in
theorem c_X11_thenable {l : Launch} (hst : l.stackTraces = false) {D : va_G} {A : Nat → Prop} {G : DG} (S : DS) (d : Nat) (p1 : Int32) (p2 : Int32) (p3 : Int32) (p4 : Int32) (p5 : Int32) {k : Nat} {r : Int32} {S' : DS} {TC TZ : Nat} (hq : q_X11_thenable G.2.2 S d p1 p2 p3 p4 p5 = some ((k, r), S', TC, TZ)) : vx_Met l yX11_thenable (wM yX11_thenable cX11_thenable 7 (some .int)) (rD 7 208 TC TZ) (va_Pc [.ref d, .int p1, .int p2, .int p3, .int p4, .int p5] (dPre D A G S)) (xQi D A G k r S') (xX D A G k S') TC TZ A := by
  obtain ⟨C, Z, hq, hT⟩ : ∃ C Z, q_X11_thenable G.2.2 S d p1 p2 p3 p4 p5 = some ((k, r), S', C, Z) ∧ (0 + C = (rD 7 208 TC TZ).cells ∧ 0 + Z = (rD 7 208 TC TZ).slots) := ⟨TC, TZ, hq, Nat.zero_add _, Nat.zero_add _⟩
  refine x_head hst (by decide) (Nat.le_of_ble_eq_true rfl) ?_
  intro p e s m args below meth c ls B hout hW hl
  have hx := B.1
  have hb := B.2.1
  have hl : lv_has ls 7 [(0, .ref d), (1, .int p1), (2, .int p2), (3, .int p3), (4, .int p4), (5, .int p5)] := hl
  unfold q_X11_thenable at hq
  refine lv_aload_n hx hb dX11_thenable_0 rfl (lv_at hl 0 rfl) ?_
  refine lv_iload_n hx hb dX11_thenable_1 rfl (lv_at hl 1 rfl) ?_
  refine lv_iconst (v := 0) hx hb dX11_thenable_2 (by decide) ?_
  refine lv_iconst (v := 2) hx hb dX11_thenable_3 (by decide) ?_
  obtain ⟨hk1, hq⟩ := chk_e hq
  rcases bndx_e hq with ⟨r2, S3, C1, Z1, C2, Z2, hg, hq2, rfl, rfl⟩ | ⟨k9, r9, hk9, hg, e9⟩
  rotate_left
  · cases e9
    exact x_ov B hout hk9 (x_runV (As := [.int p1, .int 0, .int 2]) (rest := []) B hW hl.1 (d_recv B hW (ci := 11) rfl (dF_11 hk1) (by rw [hk1]; decide)) (c_X11_requireRange B.2.2.2.2.2.2.2.2.2.2 S d p1 0 2 hg) (g_V u_323 u_325 us_7 u_1 u_326) y1_X11_requireRange rfl ⟨Nat.le_of_ble_eq_true rfl, Nat.le_of_ble_eq_true rfl⟩ (C2 := 0) (Z2 := 0) ⟨hT.1, hT.2⟩ rfl (Nat.le_of_ble_eq_true rfl) dX11_thenable_4) hW hT
  replace hq := hq2
  clear hq2
  refine x_rv (x_runV (As := [.int p1, .int 0, .int 2]) (rest := []) B hW hl.1 (d_recv B hW (ci := 11) rfl (dF_11 hk1) (by rw [hk1]; decide)) (c_X11_requireRange B.2.2.2.2.2.2.2.2.2.2 S d p1 0 2 hg) (g_V u_323 u_325 us_7 u_1 u_326) y1_X11_requireRange rfl ⟨Nat.le_of_ble_eq_true rfl, Nat.le_of_ble_eq_true rfl⟩ hT rfl (Nat.le_of_ble_eq_true rfl) dX11_thenable_4) hW hT (fun H locs cells slots hW hT => ?_)
  clear hg
  refine lv_aload_n hx hb dX11_thenable_7 rfl (lv_at hl 0 rfl) ?_
  refine lv_iload_n hx hb dX11_thenable_8 rfl (lv_at hl 2 rfl) ?_
  refine lv_iconst (v := 0) hx hb dX11_thenable_9 (by decide) ?_
  refine lv_iconst (v := 4) hx hb dX11_thenable_10 (by decide) ?_
  obtain ⟨hk4, hq⟩ := chk_e hq
  rcases bndx_e hq with ⟨r5, S6, C1, Z1, C2, Z2, hg, hq2, rfl, rfl⟩ | ⟨k9, r9, hk9, hg, e9⟩
  rotate_left
  · cases e9
    exact x_ov B hout hk9 (x_runV (As := [.int p2, .int 0, .int 4]) (rest := []) B hW hl.1 (d_recv B hW (ci := 11) rfl (dF_11 hk4) (by rw [hk4]; decide)) (c_X11_requireRange B.2.2.2.2.2.2.2.2.2.2 S3 d p2 0 4 hg) (g_V u_323 u_325 us_7 u_1 u_326) y1_X11_requireRange rfl ⟨Nat.le_of_ble_eq_true rfl, Nat.le_of_ble_eq_true rfl⟩ (C2 := 0) (Z2 := 0) ⟨hT.1, hT.2⟩ rfl (Nat.le_of_ble_eq_true rfl) dX11_thenable_11) hW hT
  replace hq := hq2
  clear hq2
  refine x_rv (x_runV (As := [.int p2, .int 0, .int 4]) (rest := []) B hW hl.1 (d_recv B hW (ci := 11) rfl (dF_11 hk4) (by rw [hk4]; decide)) (c_X11_requireRange B.2.2.2.2.2.2.2.2.2.2 S3 d p2 0 4 hg) (g_V u_323 u_325 us_7 u_1 u_326) y1_X11_requireRange rfl ⟨Nat.le_of_ble_eq_true rfl, Nat.le_of_ble_eq_true rfl⟩ hT rfl (Nat.le_of_ble_eq_true rfl) dX11_thenable_11) hW hT (fun H locs cells slots hW hT => ?_)
  clear hg
  refine lv_aload_n hx hb dX11_thenable_14 rfl (lv_at hl 0 rfl) ?_
  refine lv_iload hx hb dX11_thenable_15 (lv_at hl 4 rfl) ?_
  refine lv_iconst (v := 0) hx hb dX11_thenable_17 (by decide) ?_
  refine lv_iconst (v := 4) hx hb dX11_thenable_18 (by decide) ?_
  obtain ⟨hk7, hq⟩ := chk_e hq
  rcases bndx_e hq with ⟨r8, S9, C1, Z1, C2, Z2, hg, hq2, rfl, rfl⟩ | ⟨k9, r9, hk9, hg, e9⟩
  rotate_left
  · cases e9
    exact x_ov B hout hk9 (x_runV (As := [.int p4, .int 0, .int 4]) (rest := []) B hW hl.1 (d_recv B hW (ci := 11) rfl (dF_11 hk7) (by rw [hk7]; decide)) (c_X11_requireRange B.2.2.2.2.2.2.2.2.2.2 S6 d p4 0 4 hg) (g_V u_323 u_325 us_7 u_1 u_326) y1_X11_requireRange rfl ⟨Nat.le_of_ble_eq_true rfl, Nat.le_of_ble_eq_true rfl⟩ (C2 := 0) (Z2 := 0) ⟨hT.1, hT.2⟩ rfl (Nat.le_of_ble_eq_true rfl) dX11_thenable_19) hW hT
  replace hq := hq2
  clear hq2
  refine x_rv (x_runV (As := [.int p4, .int 0, .int 4]) (rest := []) B hW hl.1 (d_recv B hW (ci := 11) rfl (dF_11 hk7) (by rw [hk7]; decide)) (c_X11_requireRange B.2.2.2.2.2.2.2.2.2.2 S6 d p4 0 4 hg) (g_V u_323 u_325 us_7 u_1 u_326) y1_X11_requireRange rfl ⟨Nat.le_of_ble_eq_true rfl, Nat.le_of_ble_eq_true rfl⟩ hT rfl (Nat.le_of_ble_eq_true rfl) dX11_thenable_19) hW hT (fun H locs cells slots hW hT => ?_)
  clear hg
  refine lv_aload_n hx hb dX11_thenable_22 rfl (lv_at hl 0 rfl) ?_
  refine lv_iload_n hx hb dX11_thenable_23 rfl (lv_at hl 3 rfl) ?_
  obtain ⟨hk10, hq⟩ := chk_e hq
  rcases bndx_e hq with ⟨r11, S12, C1, Z1, C2, Z2, hg, hq2, rfl, rfl⟩ | ⟨k9, r9, hk9, hg, e9⟩
  rotate_left
  · cases e9
    exact x_ov B hout hk9 (x_runV (As := [.int p3]) (rest := []) B hW hl.1 (d_recv B hW (ci := 11) rfl (dF_11 hk10) (by rw [hk10]; decide)) (c_X11_requireValue B.2.2.2.2.2.2.2.2.2.2 S9 d p3 hg) (g_V u_343 u_345 us_8 u_1 u_346) y1_X11_requireValue rfl ⟨Nat.le_of_ble_eq_true rfl, Nat.le_of_ble_eq_true rfl⟩ (C2 := 0) (Z2 := 0) ⟨hT.1, hT.2⟩ rfl (Nat.le_of_ble_eq_true rfl) dX11_thenable_24) hW hT
  replace hq := hq2
  clear hq2
  refine x_rv (x_runV (As := [.int p3]) (rest := []) B hW hl.1 (d_recv B hW (ci := 11) rfl (dF_11 hk10) (by rw [hk10]; decide)) (c_X11_requireValue B.2.2.2.2.2.2.2.2.2.2 S9 d p3 hg) (g_V u_343 u_345 us_8 u_1 u_346) y1_X11_requireValue rfl ⟨Nat.le_of_ble_eq_true rfl, Nat.le_of_ble_eq_true rfl⟩ hT rfl (Nat.le_of_ble_eq_true rfl) dX11_thenable_24) hW hT (fun H locs cells slots hW hT => ?_)
  clear hg
  refine lv_aload_n hx hb dX11_thenable_27 rfl (lv_at hl 0 rfl) ?_
  refine lv_iload hx hb dX11_thenable_28 (lv_at hl 5 rfl) ?_
  obtain ⟨hk13, hq⟩ := chk_e hq
  rcases bndx_e hq with ⟨r14, S15, C1, Z1, C2, Z2, hg, hq2, rfl, rfl⟩ | ⟨k9, r9, hk9, hg, e9⟩
  rotate_left
  · cases e9
    exact x_ov B hout hk9 (x_runV (As := [.int p5]) (rest := []) B hW hl.1 (d_recv B hW (ci := 11) rfl (dF_11 hk13) (by rw [hk13]; decide)) (c_X11_requireValue B.2.2.2.2.2.2.2.2.2.2 S12 d p5 hg) (g_V u_343 u_345 us_8 u_1 u_346) y1_X11_requireValue rfl ⟨Nat.le_of_ble_eq_true rfl, Nat.le_of_ble_eq_true rfl⟩ (C2 := 0) (Z2 := 0) ⟨hT.1, hT.2⟩ rfl (Nat.le_of_ble_eq_true rfl) dX11_thenable_30) hW hT
  replace hq := hq2
  clear hq2
  refine x_rv (x_runV (As := [.int p5]) (rest := []) B hW hl.1 (d_recv B hW (ci := 11) rfl (dF_11 hk13) (by rw [hk13]; decide)) (c_X11_requireValue B.2.2.2.2.2.2.2.2.2.2 S12 d p5 hg) (g_V u_343 u_345 us_8 u_1 u_346) y1_X11_requireValue rfl ⟨Nat.le_of_ble_eq_true rfl, Nat.le_of_ble_eq_true rfl⟩ hT rfl (Nat.le_of_ble_eq_true rfl) dX11_thenable_30) hW hT (fun H locs cells slots hW hT => ?_)
  clear hg
  refine lv_aload_n hx hb dX11_thenable_33 rfl (lv_at hl 0 rfl) ?_
  refine lv_bipush (v := 8) hx hb dX11_thenable_34 (by decide) ?_
  obtain ⟨hk16, hq⟩ := chk_e hq
  rcases bndx_e hq with ⟨r17, S18, C1, Z1, C2, Z2, hg, hq2, rfl, rfl⟩ | ⟨k9, r9, hk9, hg, e9⟩
  rotate_left
  · cases e9
    exact x_ov B hout hk9 (x_runV (As := [.int 8]) (rest := []) B hW hl.1 (d_recv B hW (ci := 11) rfl (dF_11 hk16) (by rw [hk16]; decide)) (c_X11_requireRoom B.2.2.2.2.2.2.2.2.2.2 S15 d 8 hg) (g_V u_110 u_112 us_0 u_1 u_113) y1_X11_requireRoom rfl ⟨Nat.le_of_ble_eq_true rfl, Nat.le_of_ble_eq_true rfl⟩ (C2 := 0) (Z2 := 0) ⟨hT.1, hT.2⟩ rfl (Nat.le_of_ble_eq_true rfl) dX11_thenable_36) hW hT
  replace hq := hq2
  clear hq2
  refine x_rv (x_runV (As := [.int 8]) (rest := []) B hW hl.1 (d_recv B hW (ci := 11) rfl (dF_11 hk16) (by rw [hk16]; decide)) (c_X11_requireRoom B.2.2.2.2.2.2.2.2.2.2 S15 d 8 hg) (g_V u_110 u_112 us_0 u_1 u_113) y1_X11_requireRoom rfl ⟨Nat.le_of_ble_eq_true rfl, Nat.le_of_ble_eq_true rfl⟩ hT rfl (Nat.le_of_ble_eq_true rfl) dX11_thenable_36) hW hT (fun H locs cells slots hW hT => ?_)
  clear hg
  obtain ⟨C1, Z1, hq2, rfl, rfl⟩ := tick_e hq
  replace hq := hq2
  clear hq2
  refine d_new B hW (ci := 9) (kd := 10) inT_9 tyX9 tyX9_ok u_407 u_408 u_22 rfl (fun j hj => by rcases (show j = 0 ∨ j = 1 ∨ j = 2 ∨ j = 3 ∨ j = 4 ∨ j = 5 ∨ j = 6 ∨ j = 7 ∨ j = 8 by omega) with rfl | rfl | rfl | rfl | rfl | rfl | rfl | rfl | rfl <;> rfl) dw_9 hT dX11_thenable_39 (fun H cells slots q19 S20 eq eS hW hT => ?_)
  replace hq := lt9_u eq hq
  replace hq := lt9_u eS hq
  have hkq19 : dK S20 q19 = 10 := by rw [eS, eq]; exact va_up_self _ _ _
  clear eS eq
  refine lv_dup hx hb dX11_thenable_42 rfl ?_
  refine lv_aload_n hx hb dX11_thenable_43 rfl (lv_at hl 0 rfl) ?_
  obtain ⟨hk21, hq⟩ := chk_e hq
  obtain ⟨r22, S23, C1, Z1, C2, Z2, hg, hq2, rfl, rfl⟩ := bndc_e hq
  replace hq := hq2
  clear hq2
  refine d_ri (d_runV (As := []) (rest := [.ref q19, .ref q19]) B hW hl.1 (d_recv B hW (ci := 11) rfl (dF_11 hk21) (by rw [hk21]; decide)) (c_X11_nextValue B.2.2.2.2.2.2.2.2.2.2 S20 d hg) (g_V u_191 u_193 us_3 u_1 u_194) y1_X11_nextValue rfl ⟨Nat.le_of_ble_eq_true rfl, Nat.le_of_ble_eq_true rfl⟩ hT rfl (Nat.le_of_ble_eq_true rfl) dX11_thenable_44) hW hT (fun H locs cells slots hW hT => ?_)
  clear hg
  refine lv_iload_n hx hb dX11_thenable_47 rfl (lv_at hl 1 rfl) ?_
  obtain ⟨r24, S25, C1, Z1, C2, Z2, hg, hq2, rfl, rfl⟩ := bndc_e hq
  replace hq := hq2
  clear hq2
  refine d_rv (d_runI (As := [.int r22, .int p1]) (rest := [.ref q19]) B hW hl.1 (c_X9_init B.2.2.2.2.2.2.2.2.2.2 S23 q19 r22 p1 hg) u_409 u_410 u_22 u_411 rfl y1_X9_init rfl ⟨Nat.le_of_ble_eq_true rfl, Nat.le_of_ble_eq_true rfl⟩ hT rfl (Nat.le_of_ble_eq_true rfl) dX11_thenable_48) hW hT (fun H locs cells slots hW hT => ?_)
  clear hg
  refine e_astore (x := (some q19)) (lv' := [(6, .ref q19), (0, .ref d), (1, .int p1), (2, .int p2), (3, .int p3), (4, .int p4), (5, .int p5)]) hx hb dX11_thenable_51 hl (by decide) (catc rfl (catc rfl (catc rfl (catc rfl (catc rfl (catc rfl catn)))))) rfl (fun ls hl => ?_)
  refine lv_aload hx hb dX11_thenable_53 (lv_at hl 0 rfl) ?_
  refine lv_iload_n hx hb dX11_thenable_55 rfl (lv_at hl 3 rfl) ?_
  obtain ⟨hk26, hq⟩ := chk_e hq
  refine d_put B hW (ci := 9) inT_9 tyX9 tyX9_ok nmX9 rfl (dF_9 hk26) (by rw [hk26]; decide) (by rw [hk26]; decide) 4 (by decide) u_415 (Or.inl rfl) (Or.inl rfl) (ty := .int) (tyX9_ok 4 (by decide)) rfl rfl (Nat.le_of_ble_eq_true rfl) (S1 := sI S25 904 q19 p2) (ds_9_4 hk26 p2) ⟨rfl, rfl, rfl⟩ (fun b hb => dF_sI hb) dX11_thenable_56 (fun H locs hW => ?_)
  obtain ⟨S27, eS⟩ : ∃ z, z = sI S25 904 q19 p2 := ⟨_, rfl⟩
  rw [← eS] at hW
  replace hq := lt9_u eS hq
  have hk28 : dK S27 q19 = 10 := by rw [eS]; exact hk26
  clear eS
  refine lv_aload hx hb dX11_thenable_59 (lv_at hl 0 rfl) ?_
  refine lv_iload_n hx hb dX11_thenable_61 rfl (lv_at hl 4 rfl) ?_
  refine d_put B hW (ci := 9) inT_9 tyX9 tyX9_ok nmX9 rfl (dF_9 hk28) (by rw [hk28]; decide) (by rw [hk28]; decide) 5 (by decide) u_416 (Or.inl rfl) (Or.inl rfl) (ty := .int) (tyX9_ok 5 (by decide)) rfl rfl (Nat.le_of_ble_eq_true rfl) (S1 := sI S27 905 q19 p3) (ds_9_5 hk28 p3) ⟨rfl, rfl, rfl⟩ (fun b hb => dF_sI hb) dX11_thenable_62 (fun H locs hW => ?_)
  obtain ⟨S29, eS⟩ : ∃ z, z = sI S27 905 q19 p3 := ⟨_, rfl⟩
  rw [← eS] at hW
  replace hq := lt9_u eS hq
  have hk30 : dK S29 q19 = 10 := by rw [eS]; exact hk28
  clear eS
  refine lv_aload hx hb dX11_thenable_65 (lv_at hl 0 rfl) ?_
  refine lv_iload hx hb dX11_thenable_67 (lv_at hl 5 rfl) ?_
  refine d_put B hW (ci := 9) inT_9 tyX9 tyX9_ok nmX9 rfl (dF_9 hk30) (by rw [hk30]; decide) (by rw [hk30]; decide) 6 (by decide) u_417 (Or.inl rfl) (Or.inl rfl) (ty := .int) (tyX9_ok 6 (by decide)) rfl rfl (Nat.le_of_ble_eq_true rfl) (S1 := sI S29 906 q19 p4) (ds_9_6 hk30 p4) ⟨rfl, rfl, rfl⟩ (fun b hb => dF_sI hb) dX11_thenable_69 (fun H locs hW => ?_)
  obtain ⟨S31, eS⟩ : ∃ z, z = sI S29 906 q19 p4 := ⟨_, rfl⟩
  rw [← eS] at hW
  replace hq := lt9_u eS hq
  have hk32 : dK S31 q19 = 10 := by rw [eS]; exact hk30
  clear eS
  refine lv_aload hx hb dX11_thenable_72 (lv_at hl 0 rfl) ?_
  refine lv_iload hx hb dX11_thenable_74 (lv_at hl 6 rfl) ?_
  refine d_put B hW (ci := 9) inT_9 tyX9 tyX9_ok nmX9 rfl (dF_9 hk32) (by rw [hk32]; decide) (by rw [hk32]; decide) 7 (by decide) u_418 (Or.inl rfl) (Or.inl rfl) (ty := .int) (tyX9_ok 7 (by decide)) rfl rfl (Nat.le_of_ble_eq_true rfl) (S1 := sI S31 907 q19 p5) (ds_9_7 hk32 p5) ⟨rfl, rfl, rfl⟩ (fun b hb => dF_sI hb) dX11_thenable_76 (fun H locs hW => ?_)
  obtain ⟨S33, eS⟩ : ∃ z, z = sI S31 907 q19 p5 := ⟨_, rfl⟩
  rw [← eS] at hW
  replace hq := lt9_u eS hq
  have hk34 : dK S33 q19 = 10 := by rw [eS]; exact hk32
  clear eS
  refine lv_aload_n hx hb dX11_thenable_79 rfl (lv_at hl 1 rfl) ?_
  obtain ⟨hk35, hq⟩ := chk_e hq
  refine d_get B hW (ci := 11) inT_11 rfl (dF_11 hk35) (by rw [hk35]; decide) 0 (by decide) u_62 (Or.inl rfl) (v := va_rf (dP S33 1100 d)) rfl dX11_thenable_80 ?_
  refine lv_aload hx hb dX11_thenable_83 (lv_at hl 0 rfl) ?_
  obtain ⟨b36, hb36, hq⟩ := bnd_e hq
  refine W.eq (g2 := F0 m 85 ls [.ref q19, .ref b36]) (by rw [hb36]; rfl) ?_
  obtain ⟨hk37, hq⟩ := chk_e hq
  obtain ⟨r38, S39, C1, Z1, C2, Z2, hg, hq2, rfl, rfl⟩ := bndc_e hq
  replace hq := hq2
  clear hq2
  refine d_ri (d_runV (As := [.ref q19]) (rest := []) B hW hl.1 (d_recv B hW (ci := 0) rfl (dF_0 hk37) (by rw [hk37]; decide)) (c_Jx4a65c_add_9ea2d B.2.2.2.2.2.2.2.2.2.2 S33 b36 (some q19) hg) (g_V u_239 u_240 u_241 u_4 u_242) y1_Jx4a65c_add_9ea2d rfl ⟨Nat.le_of_ble_eq_true rfl, Nat.le_of_ble_eq_true rfl⟩ hT rfl (Nat.le_of_ble_eq_true rfl) dX11_thenable_85) hW hT (fun H locs cells slots hW hT => ?_)
  clear hg
  refine lv_pop hx hb dX11_thenable_88 rfl ?_
  refine lv_aload hx hb dX11_thenable_89 (lv_at hl 0 rfl) ?_
  obtain ⟨hk40, hq⟩ := chk_e hq
  refine d_get B hW (ci := 9) inT_9 rfl (dF_9 hk40) (by rw [hk40]; decide) 0 (by decide) u_213 (Or.inr u_214) (v := .int (dI S39 1000 q19)) rfl dX11_thenable_91 ?_
  exact x_iret B hW hq hT dX11_thenable_94
