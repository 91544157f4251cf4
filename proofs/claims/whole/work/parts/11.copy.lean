/-! Arrays.copyOf of Object[]: by hand -/
def okRb (S : DS) (a k : Nat) : Bool := (List.range k).all (fun i => match dY S a i with
  | none => true
  | some v => decide (okE S v))
theorem okRb_e {S : DS} {a k : Nat} (h : okRb S a k = true) : okR S a k := by
  intro i hi v hv
  have h1 := List.all_eq_true.mp h i (List.mem_range.mpr hi)
  rw [hv] at h1
  exact of_decide_eq_true h1
def q_J7_copyOf_1904c (e0 : Nat) (S : DS) (p1 : Option Nat) (p2 : Int32) : Option (Option Nat × DS × Nat × Nat) :=
  bnd p1 (fun b => chk (dK S b = 21) (chk (0 < dL S b) (chk (0 ≤ p2.toInt ∧ p2.toInt < 100000) (tick 1 p2.toNatClampNeg (lt9 (dn S) (fun q => lt9 (sAO S p2.toNatClampNeg (fun _ => none)) (fun S1 => chk (dK S1 b = 21) (chk (0 < dL S1 b) (lt9 (if p2 < nI (dL S1 b) then p2 else nI (dL S1 b)) (fun k => chk (0 ≤ k.toInt ∧ k.toInt ≤ dL S1 b ∧ k.toInt ≤ dL S1 q) (chk (0 < dL S1 q) (chk (okRb S1 b k.toNatClampNeg = true) (lt9 (sY S1 q (va_cpy (dY S1 b) (dY S1 q) 0 0 k.toNatClampNeg)) (fun S2 => some (some q, S2, 0, 0)))))))))))))))
set_option maxHeartbeats 4000000 in
set_option maxRecDepth 100000 in
theorem c_J7_copyOf_6403c {l : Launch} (hst : l.stackTraces = false) {D : va_G} {A : Nat → Prop} {G : DG} (S : DS) (p1 : Option Nat) (p2 : Int32) (mi : Nat) {r : Option Nat} {S' : DS} {TC TZ : Nat} (hq : q_J7_copyOf_1904c G.2.2 S p1 p2 = some (r, S', TC, TZ)) : Met l yJ7_copyOf_6403c (wM yJ7_copyOf_6403c cJ7_copyOf_6403c 4 (some (.array (.object "java/lang/Object")))) (rD 1 60 TC TZ) (va_Pc [va_rf p1, .int p2, .ref mi] (fun U => dPre D A G S U ∧ va_Mi "[Ljava/lang/Object;" mi U)) (dQq D A G r S') TC TZ A := by
  obtain ⟨C, Z, hq, hT⟩ : ∃ C Z, q_J7_copyOf_1904c G.2.2 S p1 p2 = some (r, S', C, Z) ∧ (0 + C = (rD 1 60 TC TZ).cells ∧ 0 + Z = (rD 1 60 TC TZ).slots) := ⟨TC, TZ, hq, Nat.zero_add _, Nat.zero_add _⟩
  unfold q_J7_copyOf_1904c at hq
  obtain ⟨b, rfl, hq⟩ := bnd_e hq
  refine Met.ofW (cc := cJ7_copyOf_6403c) (maxL := 4) (ret := some (.array (.object "java/lang/Object"))) (by decide) rfl ?_
  intro p e s m args below meth c s₁ B0 hml hv
  obtain ⟨rfl, ⟨hH, hV, hZ⟩, hMi⟩ := hv
  have hts := atoms_spec (ws := wM yJ7_copyOf_6403c cJ7_copyOf_6403c 4 (some (.array (.object "java/lang/Object")))) B0.pre
  rw [lg_entry_eq]
  have hl := lv_entry ([va_rf (some b), .int p2, .ref mi]) (n := 4) (Nat.le_of_ble_eq_true rfl)
  have B : dB p l s m [va_rf (some b), .int p2, .ref mi].toArray meth c D A G yJ7_copyOf_6403c.cls yJ7_copyOf_6403c.name cJ7_copyOf_6403c 4 (some (.array (.object "java/lang/Object"))) (Cond.code yJ7_copyOf_6403c cJ7_copyOf_6403c 4 (some (.array (.object "java/lang/Object")))) := ⟨B0.exec, B0.bytes, B0.returns, hml, findClass_of_methodNamed B0.named, hts, B0.notSynchronized, hV, hZ, (name_of_methodNamed B0.named B0.method).1, hst⟩
  have hW : dOK D A G S s.heap s.heap [] := ⟨hH, va_S.rf⟩
  have hx := B.1
  have hb := B.2.1
  generalize (lg_sl ([va_rf (some b), .int p2, .ref mi]) ++ List.replicate (4 - (lg_sl ([va_rf (some b), .int p2, .ref mi])).length) Slot.unset).toArray = ls at hl ⊢
  have hl : lv_has ls 4 [(0, .ref b), (1, .int p2), (2, .ref mi)] := hl
  show W p l e (rD 1 60 TC TZ) s m _ below meth c s.heap [] 0 0 (MQ below (dQq D A G r S') _ s (rD 1 60 TC TZ).cells (rD 1 60 TC TZ).slots A) (F0 m 0 ls [])
  obtain ⟨h21, hq⟩ := chk_e hq
  obtain ⟨hp0, hq⟩ := chk_e hq
  obtain ⟨hn, hq⟩ := chk_e hq
  obtain ⟨C1, Z1, hq2, rfl, rfl⟩ := tick_e hq
  replace hq := hq2
  clear hq2
  refine lv_aload_n hx hb dJ7_copyOf_6403c_0 rfl (lv_at hl 2 rfl) ?_
  refine d_ldcM B hMi u_290 dJ7_copyOf_6403c_1 ?_
  refine lv_acmp_ne (rx := some mi) (ry := some mi) (tgt := 13) hx hb dJ7_copyOf_6403c_3 (by decide) (fun hc => absurd rfl hc) (fun hc => ?_)
  refine lv_iload_n hx hb dJ7_copyOf_6403c_6 rfl (lv_at hl 1 rfl) ?_
  refine d_newO B hW u_292 hn hT dJ7_copyOf_6403c_7 (fun H cells slots q S1 eq eS hW hT => ?_)
  replace hq := lt9_u eq hq
  replace hq := lt9_u eS hq
  have hkq : dK S1 q = 21 := by rw [eS, eq]; exact va_up_self _ _ _
  clear eS eq
  obtain ⟨h21b, hq⟩ := chk_e hq
  obtain ⟨hp1, hq⟩ := chk_e hq
  obtain ⟨kv, ekv⟩ : ∃ z, z = (if p2 < nI (dL S1 b) then p2 else nI (dL S1 b)) := ⟨_, rfl⟩
  replace hq := lt9_u ekv hq
  obtain ⟨hi, hq⟩ := chk_e hq
  obtain ⟨hpos, hq⟩ := chk_e hq
  obtain ⟨hok, hq⟩ := chk_e hq
  refine lv_goto (tgt := 24) hx hb dJ7_copyOf_6403c_10 (by decide) ?_
  refine lv_astore_n (lv' := [(3, .ref q), (0, .ref b), (1, .int p2), (2, .ref mi)]) hx hb dJ7_copyOf_6403c_24 rfl hl (by decide) rfl (fun ls hl => ?_)
  refine lv_aload_n hx hb dJ7_copyOf_6403c_25 rfl (lv_at hl 1 rfl) ?_
  refine lv_iconst (v := 0) hx hb dJ7_copyOf_6403c_26 (by decide) ?_
  refine lv_aload_n hx hb dJ7_copyOf_6403c_27 rfl (lv_at hl 0 rfl) ?_
  refine lv_iconst (v := 0) hx hb dJ7_copyOf_6403c_28 (by decide) ?_
  refine lv_aload_n hx hb dJ7_copyOf_6403c_29 rfl (lv_at hl 1 rfl) ?_
  refine d_alen B hW (Or.inr h21b) dJ7_copyOf_6403c_30 ?_
  refine lv_iload_n hx hb dJ7_copyOf_6403c_31 rfl (lv_at hl 2 rfl) ?_
  refine va_mmin hx hb (B.2.2.2.1.trans hl.1.symm) B.2.2.2.2.1 (B.2.2.2.2.2.1 _ (List.mem_cons_of_mem _ u_293)) (B.2.2.2.2.2.1 _ (List.mem_cons_of_mem _ u_294)) (B.2.2.2.2.2.1 _ (List.mem_cons_of_mem _ u_13)) (B.2.2.2.2.2.1 _ (List.mem_cons_of_mem _ u_295)) (Nat.le_of_ble_eq_true rfl) (Nat.le_of_ble_eq_true rfl) (by omega) (by omega) dJ7_copyOf_6403c_32 ?_
  rw [← ekv]
  refine d_copyO B hl.1 hW h21b hkq hpos hp1 hi (okRb_e hok) ⟨Nat.le_of_ble_eq_true rfl, Nat.le_of_ble_eq_true rfl⟩ u_296 u_298 u_297 u_15 dJ7_copyOf_6403c_35 (fun H locs S2 eS hW => ?_)
  replace hq := lt9_u eS hq
  refine lv_aload_n hx hb dJ7_copyOf_6403c_38 rfl (lv_at hl 0 rfl) ?_
  exact d_aret (x := some q) B (Or.inr ⟨_, rfl⟩) hW hq hT dJ7_copyOf_6403c_39
set_option maxHeartbeats 4000000 in
set_option maxRecDepth 100000 in
theorem c_J7_copyOf_1904c {l : Launch} (hst : l.stackTraces = false) {D : va_G} {A : Nat → Prop} {G : DG} (S : DS) (p1 : Option Nat) (p2 : Int32) {r : Option Nat} {S' : DS} {TC TZ : Nat} (hq : q_J7_copyOf_1904c G.2.2 S p1 p2 = some (r, S', TC, TZ)) : Met l yJ7_copyOf_1904c (wM yJ7_copyOf_1904c cJ7_copyOf_1904c 2 (some (.array (.object "java/lang/Object")))) (rD 2 100 TC TZ) (va_Pc [va_rf p1, .int p2] (dPre D A G S)) (dQq D A G r S') TC TZ A := by
  have hq0 := hq
  unfold q_J7_copyOf_1904c at hq
  obtain ⟨b, rfl, hq⟩ := bnd_e hq
  obtain ⟨h21, hq⟩ := chk_e hq
  obtain ⟨hp0, -⟩ := chk_e hq
  clear hq
  refine d_head hst (by decide) (Nat.le_of_ble_eq_true rfl) ?_
  intro p e s m args below meth c ls B hW hl
  have hx := B.1
  have hb := B.2.1
  have hl : lv_has ls 2 [(0, .ref b), (1, .int p2)] := hl
  have hV := B.2.2.2.2.2.2.2.1
  have hZ := B.2.2.2.2.2.2.2.2.1
  have hts := B.2.2.2.2.2.1
  obtain ⟨mi, hMi⟩ := hV.2.2.2.2.2.1
  have hT : 0 + (TC + 0) = (rD 2 100 TC TZ).cells ∧ 0 + (TZ + 0) = (rD 2 100 TC TZ).slots := ⟨Nat.zero_add _, Nat.zero_add _⟩
  refine lv_aload_n hx hb dJ7_copyOf_1904c_0 rfl (lv_at hl 0 rfl) ?_
  refine lv_iload_n hx hb dJ7_copyOf_1904c_1 rfl (lv_at hl 1 rfl) ?_
  refine lv_aload_n hx hb dJ7_copyOf_1904c_2 rfl (lv_at hl 0 rfl) ?_
  have hat := dH_at21 hW.1 h21 (dH_neE hW.1 hp0)
  have hc0 : s.heap[b]? = some (vp_cell G.2.1 (dL S b, .inr (.inr (.inr (.inr (dY S b)))))) := hat
  have hnm : s.vm.findClass "[Ljava/lang/Object;" = some G.2.1 := va_nmO (C := "java/lang/Object") (hV.1.2 1 (G.2.1, .object "java/lang/Object") rfl).2 (by decide +kernel)
  refine va_getC (C := "[Ljava/lang/Object;") (mi := mi) hx hb (B.2.2.2.1.trans hl.1.symm) B.2.2.2.2.1 (hts _ (List.mem_cons_of_mem _ u_268)) (va_Dc.use hV.2.2.2.2.2.2) (hts _ (List.mem_cons_of_mem _ u_1213)) (hts _ (List.mem_cons_of_mem _ u_269)) (hts _ (List.mem_cons_of_mem _ u_286)) hMi ⟨_, hc0, rfl, hnm⟩ (Nat.le_of_ble_eq_true rfl) (Nat.le_of_ble_eq_true rfl) dJ7_copyOf_1904c_3 ?_
  have hrun : va_Run p l e (rD 2 100 TC TZ) s m args below meth c s.heap [] 0 0 TC TZ (F0 m 6 ls [.ref mi, .int p2, .ref b]) [] (dQq D A G r S' [.ref b, .int p2, .ref mi].toArray) A :=
    va_runS (As := [.ref b, .int p2, .ref mi]) (rest := []) ⟨hx, hb, B.2.2.2.1, B.2.2.2.2.1, hts⟩ (c_J7_copyOf_6403c hst S (some b) p2 mi hq0) (va_cwS 3 hts (g_S u_287 u_288 u_14 u_289) rfl rfl rfl (by decide +kernel) ⟨Nat.le_of_ble_eq_true rfl, Nat.le_of_ble_eq_true rfl⟩)
      ⟨fun a U g mk q => by
        obtain ⟨q0, ⟨qH, qV, qZ⟩, qM⟩ := q
        exact ⟨q0, ⟨qH, dV.same (s := U) (U := U.calling g mk a) rfl qV, dZ.moved (s := U) (U := U.calling g mk a) (Vm.Alike.refl U.vm) qZ⟩, va_Mi.moved (u := U) (U := U.calling g mk a) (Vm.Alike.refl U.vm) qM⟩,
       fun U hU hWm => ⟨rfl, dPre_at hV hZ hW hU hWm, va_Mi.moved hWm.alike hMi⟩⟩ rfl rfl hl.1 rfl (lv_room (m := m) (pc := 6) (ls := ls) (rest := []) (Nat.le_of_ble_eq_true rfl)) dJ7_copyOf_1904c_6 (by omega)
  refine d_rq (C2 := 0) (Z2 := 0) hrun hW hT (fun H locs cells slots hW hT => ?_)
  exact d_aret B (Or.inr ⟨_, rfl⟩) hW rfl hT dJ7_copyOf_1904c_9
