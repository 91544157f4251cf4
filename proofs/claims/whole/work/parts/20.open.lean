theorem S00_K {e0 n a : Nat} (h : a ≠ e0) : dK (S00 e0 n) a = 0 := va_up_ne (fun _ => 0) 21 h
theorem S00_e {e0 n : Nat} : dK (S00 e0 n) e0 = 21 := va_up_self (fun _ => 0) e0 21
set_option maxHeartbeats 8000000 in
set_option maxRecDepth 100000 in
/-- THE LAW, from its entry, over a relation that every call keeps -/
theorem whole_start_open (hRel : RelAll) {p : Program} {e : Env} {s : State} {m : MethodId} {below : List Frame} {meth : Method} {c : Code} (l : Launch) (hstk : l.stackTraces = false) {b L : Nat} {xs : Nat → Int32} (hL : L ≤ 3072) (C0 : lw_At p s m meth c b L xs) : W p l e room_1 s m #[Value.ref b] below meth c s.heap [] 0 0 (lw_Z below #[Value.ref b] s) (entryFrame m ([Value.ref b] : List Value).toArray 7) := by
  obtain ⟨hx, hb, hr, hml, hown, hts, hX, hbl, hlocks, hgv⟩ := id C0
  have htw : ∀ w ∈ Tw, w.before #[Value.ref b] s = true := fun w h => hts w (List.mem_filter.mp h).1
  obtain ⟨D, cI, cZ, cO, cJ, e0, hV, hKm, hJ, hz, hlt⟩ := st_tables hts hgv
  obtain ⟨Rel, S2, C, Z, hinit, HR, hR0⟩ := hRel e0 s.heap.size hlt
  have hle0 := HR.1 _ _ _ _ _ hR0
  have hts2 : ∀ w ∈ Cond.initialized "PromiseDeskLaw" :: Tw, w.before #[Value.ref b] s = true := fun w h => (List.mem_cons.mp h).elim (fun e9 => by rw [e9]; exact htw _ u_0) (htw w)
  have B : dB p l s m #[Value.ref b] meth c D (fun q => s.heap.size ≤ q) (cI, cO, e0) "PromiseDeskLaw" meth.name code 7 ret (Cond.initialized "PromiseDeskLaw") := ⟨hx, hb, hr, hml, hown, hts2, hlocks, hV, ⟨hz.1, hz.2.1, hz.2.2.1, fun _ h => h, hz.2.2.2⟩, rfl, hstk⟩
  have hW : dOK D (fun q => s.heap.size ≤ q) (cI, cO, e0) (S00 e0 s.heap.size) s.heap s.heap [] := by
    refine ⟨⟨rfl, fun a ha hne => ?_, fun a ha hne => ?_, S00_e, rfl, hlt⟩, va_S.rf⟩
    · exact absurd (S00_K hne) ha
    · exact absurd (S00_K hne) ha
  rw [lg_entry_eq]
  have hl := lv_entry ([.ref b]) (n := 7) (Nat.le_of_ble_eq_true rfl)
  generalize (lg_sl ([.ref b]) ++ List.replicate (7 - (lg_sl ([.ref b])).length) Slot.unset).toArray = ls at hl ⊢
  have hl : lv_has ls 7 [(0, .ref b)] := hl
  refine d_new (R := room_1) (C1 := 601023) (Z1 := 7293024) B hW (ci := 11) (kd := 12) inT_11 tyX11 tyX11_ok u_28 u_29 u_1 rfl (fun j hj => by rcases (show j = 0 ∨ j = 1 ∨ j = 2 ∨ j = 3 ∨ j = 4 ∨ j = 5 ∨ j = 6 ∨ j = 7 ∨ j = 8 ∨ j = 9 by omega) with rfl | rfl | rfl | rfl | rfl | rfl | rfl | rfl | rfl | rfl <;> rfl) dw_11 ⟨rfl, rfl⟩ dL_law_0 (fun H cells slots q S1 eq eS hW hT => ?_)
  have eq : q = s.heap.size := eq
  subst eq
  have hcl : cells = 1 ∧ slots = 10 := by
    have a1 : cells + 601023 = 601024 := hT.1
    have a2 : slots + 7293024 = 7293034 := hT.2
    omega
  obtain ⟨rfl, rfl⟩ := hcl
  rw [← eS] at hinit
  refine lv_dup hx hb dL_law_3 rfl ?_
  have hT2 : 1 + (C + (601023 - C)) = room_1.cells ∧ 10 + (Z + (7293024 - Z)) = room_1.slots := by
    have a1 : room_1.cells = 601024 := rfl
    have a2 : room_1.slots = 7293034 := rfl
    omega
  refine d_rv (d_runI (As := []) (rest := [.ref s.heap.size]) B hW hl.1 (c_X11_init hstk S1 s.heap.size hinit) u_30 u_31 u_1 u_32 rfl y1_X11_init rfl ⟨Nat.le_of_ble_eq_true rfl, Nat.le_of_ble_eq_true rfl⟩ hT2 rfl (Nat.le_of_ble_eq_true rfl) dL_law_4) hW hT2 (fun H locs cells slots hW hT => ?_)
  have hcl : cells = 1 + C ∧ slots = 10 + Z := by
    have a1 : cells + (601023 - C) = 601024 := hT.1
    have a2 : slots + (7293024 - Z) = 7293034 := hT.2
    omega
  obtain ⟨rfl, rfl⟩ := hcl
  refine lv_astore_n (lv' := [(1, .ref s.heap.size), (0, .ref b)]) hx hb dL_law_7 rfl hl (by decide) rfl (fun ls hl => ?_)
  have hS1 := hW.2
  refine va_forget (fun q hq => hW.2.2.2 q hq) ?_
  obtain ⟨hm, hhm⟩ : ∃ z, z = H.size := ⟨_, rfl⟩
  have hsz : s.heap.size ≤ hm := by rw [hhm]; exact hS1.1
  refine d_new0 (D := D) (cl := vwCl) (ci := 12) (fs := cfs (hm + 1) 0) (C := RX12) (T := TX12) (N := 52) hx hb hts2 (fun w h => List.mem_cons_of_mem _ (inT12 w h)) tyX12 tyX12_ok hown (htw _ u_836) (htw _ u_837) (htw _ u_5) hKm rfl (fun j hj => by rcases (show j = 0 ∨ j = 1 ∨ j = 2 ∨ j = 3 ∨ j = 4 ∨ j = 5 ∨ j = 6 ∨ j = 7 ∨ j = 8 ∨ j = 9 ∨ j = 10 ∨ j = 11 ∨ j = 12 ∨ j = 13 ∨ j = 14 ∨ j = 15 ∨ j = 16 ∨ j = 17 ∨ j = 18 ∨ j = 19 ∨ j = 20 ∨ j = 21 ∨ j = 22 ∨ j = 23 ∨ j = 24 ∨ j = 25 ∨ j = 26 ∨ j = 27 ∨ j = 28 ∨ j = 29 ∨ j = 30 ∨ j = 31 ∨ j = 32 ∨ j = 33 ∨ j = 34 ∨ j = 35 ∨ j = 36 ∨ j = 37 ∨ j = 38 ∨ j = 39 ∨ j = 40 ∨ j = 41 ∨ j = 42 ∨ j = 43 ∨ j = 44 ∨ j = 45 ∨ j = 46 ∨ j = 47 ∨ j = 48 ∨ j = 49 ∨ j = 50 ∨ j = 51 by omega) with rfl | rfl | rfl | rfl | rfl | rfl | rfl | rfl | rfl | rfl | rfl | rfl | rfl | rfl | rfl | rfl | rfl | rfl | rfl | rfl | rfl | rfl | rfl | rfl | rfl | rfl | rfl | rfl | rfl | rfl | rfl | rfl | rfl | rfl | rfl | rfl | rfl | rfl | rfl | rfl | rfl | rfl | rfl | rfl | rfl | rfl | rfl | rfl | rfl | rfl | rfl | rfl <;> rfl) (by show 1 + C + 1 ≤ 601024; omega) (by show 10 + Z + 52 ≤ 7293034; omega) dL_law_8 (fun H1 hat1 z1 o1 => ?_)
  rw [← hhm] at hat1 z1 o1 ⊢
  refine lv_dup hx hb dL_law_11 rfl ?_
  refine va_callv (a := [Value.ref hm].toArray) (A0 := fun q => s.heap.size ≤ q) (H0 := s.heap) (va_runI (As := []) (rest := [.ref hm]) (b := hm) ⟨hx, hb, hml, hown, hts2⟩ (c_Minit (l := l) (D := D) (h := hm) (n0 := hm + 1) (cI := cI) (cZ := cZ) (Nat.lt_succ_self hm)) (cwI 0 hts2 (g_all u_840) rfl rfl rfl (htw _ u_5) (htw _ u_838) (htw _ u_839) rfl (by decide +kernel) ⟨Nat.le_of_ble_eq_true rfl, Nat.le_of_ble_eq_true rfl⟩) ⟨fun a U g mk q => by obtain ⟨q0, q1, q2, q3⟩ := q; exact ⟨q0, q1, q2, va_K.moved (u := U) (U := U.calling g mk a) (Vm.Alike.refl U.vm) q3⟩, fun U hU hWm => ⟨rfl, by rw [hU]; exact z1, by rw [hU]; exact hat1, va_K.moved hWm.alike hKm⟩⟩ rfl rfl hl.1 rfl (lv_room (m := m) (pc := 12) (ls := ls) (rest := [.ref hm]) (Nat.le_of_ble_eq_true rfl)) dL_law_12 ⟨by show 1 + C + 1 + 40 ≤ 601024; omega, by show 10 + Z + 52 + 364600 ≤ 7293034; omega⟩) ⟨by omega, fun q h1 h2 => (o1 q (by omega)).trans (hS1.2.1 q h1 h2), fun _ h => nomatch h⟩ (fun q _ h => h.elim (fun h => by rw [h]; exact hsz) (fun h => by show s.heap.size ≤ q; omega)) (fun q h => h.elim (fun h => by rw [h]; exact hsz) (fun h => by show s.heap.size ≤ q; omega)) (fun u t H2 locs2 ht hvm hw hB hz2 hk2 hS2 => ?_)
  rw [ht] at hB
  obtain ⟨b1, b2, b3⟩ := hB
  refine va_forget (fun q hq => hS2.2.2 q hq) ?_
  refine lv_astore_n (lv' := [(2, .ref hm), (1, .ref s.heap.size), (0, .ref b)]) hx hb dL_law_15 rfl hl (by decide) rfl (fun ls hl => ?_)
  refine lv_iconst (v := 1) hx hb dL_law_16 (by decide) ?_
  refine va_newaK (atype := .long) (N := 1) hx hb (htw _ u_1204) rfl dL_law_17 rfl (by decide) (by decide) (by decide) (by show 1 + C + 1 + 40 + 1 ≤ 601024; omega) (by show 10 + Z + 52 + 364600 + 1 ≤ 7293034; omega) b1 fun H3 cB e3 z3 o3 hAr hNm => ?_
  have hcB : cB = cJ := Option.some.inj (hNm.symm.trans hJ.2)
  subst hcB
  have e4 : H3[hm + 1 + 40]? = some (vp_cell cB (1, .inr (.inl (fun _ => 0)))) := e3
  refine W.eq (g2 := F0 m 19 ls [.ref (hm + 1 + 40)]) rfl ?_
  refine lv_astore_n (lv' := [(3, .ref (hm + 1 + 40)), (2, .ref hm), (1, .ref s.heap.size), (0, .ref b)]) hx hb dL_law_19 rfl hl (by decide) rfl (fun ls hl => ?_)
  refine lv_iconst (v := 0) hx hb dL_law_20 (by decide) ?_
  refine lv_istore (lv' := [(4, .int 0), (3, .ref (hm + 1 + 40)), (2, .ref hm), (1, .ref s.heap.size), (0, .ref b)]) hx hb dL_law_21 hl (by decide) rfl (fun ls hl => ?_)
  have hk13 : ∀ q, q < hm → H3[q]? = H[q]? := fun q hq => ((o3 q (by omega)).trans (hk2 q (by omega) (fun h9 => h9.elim (fun h => by omega) (fun h => by omega)))).trans (o1 q hq)
  have F : LF p l s m #[Value.ref b] meth c D (cI, cO, e0) (cI, cZ, hm, cad (hm + 1)) cB (hm + 1 + 40) := ⟨hx, hb, hml, hown, htw, hstk, hV, hKm, hJ, hz, hlt, hsz, by show s.heap.size ≤ hm + 1 + 40; omega, fun h9 => by have h9 : hm ≤ hm + 1 + 40 ∧ hm + 1 + 40 < hm + 1 + 40 := h9; omega⟩
  obtain ⟨hPm, hDm⟩ := cm_world (H := H3) (cI := cI) (cZ := cZ) rfl (b2.kept (o3 hm (by omega))) (fun i hi => (b3 i hi).kept (o3 (hm + 1 + i) (by omega)))
  have hsz2 : H.size = dn S2 := hW.1.1
  have hLW : LW D (cI, cO, e0) (cI, cZ, hm, cad (hm + 1)) cB (hm + 1 + 40) s (H3.size, S2.2) (fun _ _ => 0) (fun _ => 0) H3 := by
    refine ⟨⟨rfl, fun a ha hne => ?_, fun a ha hne => ?_, hW.1.2.2.2.1, hW.1.2.2.2.2.1, by show e0 < H3.size; omega⟩, hPm, ⟨hDm.1, fun k q hk => hDm.2 k q hk⟩, e4, by omega, fun q hq => (hk13 q (by omega)).trans (hS1.2.1 q hq (Nat.not_le.mpr hq)), by show hm + 1 + 40 ≤ H3.size; omega⟩
    · have h9 := hW.1.2.1 a ha hne
      exact h9.kept (hk13 a (by rw [hhm]; exact h9.lt))
    · have h8 : s.heap.size ≤ a := hW.1.2.2.1 a ha hne
      have h9 : a < dn S2 := dH_lt hW.1 ha
      refine ⟨h8, fun h7 => ?_, ?_⟩
      · have h7 : hm ≤ a ∧ a < hm + 1 + 40 := h7
        omega
      · omega
  have hcs : 1 + C + 1 + 40 + 1 = 1 + C + (1 + 40) + 1 ∧ 10 + Z + 52 + 364600 + 1 = 10 + Z + (52 + 364600) + 1 := by omega
  refine W.widen (k := 1 + C + (1 + 40) + 1) (n := 10 + Z + (52 + 364600) + 1) (by omega) (by omega) ?_
  exact law_loop F hr hlocks hX hbl hL HR (L + 7) 0 0 H3 (H3.size, S2.2) (fun _ _ => 0) (fun _ => 0) _ _ ls rfl (by omega) hLW hR0 (lv_sub hl [4, 3, 2, 1, 0] rfl) (Nat.zero_le L)
