set_option maxHeartbeats 4000000 in
set_option maxRecDepth 100000 in
theorem law_loop {p : Program} {l : Launch} {e : Env} {s : State} {m : MethodId} {below : List Frame} {meth : Method} {c : Code} {D : va_G} {G : DG} {Gm : MG} {cJ : ClassId} {o d b L : Nat} {xs : Nat → Int32} {Rel : Nat → DT → MS → Nat → Nat → Prop} (F : LF p l s m #[Value.ref b] meth c D G Gm cJ o) (hr : meth.sig.returnType = ret) (hlocks : meth.locks = false) (hX : va_X b L xs s s.heap) (hbl : b < s.heap.size) (hL : L ≤ 3072) (HR : RelOK Rel d G.2.2) :
    ∀ (n i t : Nat) (H : Heap) (S : DS) (M : MS) (f : Nat → Int64) (cells slots : Nat) (ls : Array Slot), t * 6 = i → L + 6 < i + n → LW D G Gm cJ o s S M f H → Rel t S.2 M cells slots → lv_has ls 7 [(0, .ref b), (1, .ref d), (2, .ref Gm.2.2.1), (3, .ref o), (4, .int (nI i))] → i ≤ L → W p l e room_1 s m #[Value.ref b] below meth c H [] cells slots (lw_Z below #[Value.ref b] s) (F0 m 23 ls []) := by
  have hx := F.1
  have hb := F.2.1
  intro n
  induction n with
  | zero => intro i t H S M f cells slots ls e1 h2 hW hR hl hi; omega
  | succ n ih =>
    intro i t H S M f cells slots ls e1 h2 hW hR hl hi
    have hS9 : va_S (fun q => s.heap.size ≤ q) s.heap H [] := ⟨hW.2.2.2.2.1, fun q h1 _ => hW.2.2.2.2.2.1 q h1, fun _ h => nomatch h⟩
    refine lv_iload hx hb dL_law_23 (lv_at hl 4 rfl) ?_
    refine lv_aload_n hx hb dL_law_25 rfl (lv_at hl 0 rfl) ?_
    refine va_slen (A := fun q => s.heap.size ≤ q) hx hb hX hbl (Nat.not_le.mpr hbl) hS9 dL_law_26 ?_
    refine lv_bipush (v := 6) hx hb dL_law_27 (by decide) ?_
    refine lv_isub hx hb dL_law_29 ?_
    have hsub : (Int32.ofNat L - 6).toInt = (L : Int) - 6 := by
      have h9 := pk_sub_toInt (a := L) (b := 6) (by omega) (by omega)
      exact h9
    have hii : (nI i).toInt = (i : Int) := nI_toInt (by omega)
    refine lv_icmp_gt (tgt := 1422) hx hb dL_law_30 (by decide) (fun hc => ?_) (fun hc => ?_)
    · refine lv_iconst (v := 1) hx hb dL_law_1422 (by decide) ?_
      have hle := HR.1 _ _ _ _ _ hR
      refine W.widen (k := 601024) (n := 7293034) hle.1 hle.2.1 ?_
      exact lw_ret hx hb hr hlocks dL_law_1423
    · have hi6 : i + 6 ≤ L := by
        have h9 : ¬ (Int32.ofNat L - 6).toInt < (nI i).toInt := fun h => hc (Int32.lt_iff_toInt_lt.mpr h)
        rw [hsub, hii] at h9
        omega
      have ht : t < 512 := by omega
      have hend : ∀ (H : Heap) (S : DS) (M : MS) (f : Nat → Int64) (cells slots : Nat) (ls : Array Slot), LW D G Gm cJ o s S M f H → Rel (t + 1) S.2 M cells slots → lv_has ls 7 [(0, .ref b), (1, .ref d), (2, .ref Gm.2.2.1), (3, .ref o), (4, .int (nI i))] → W p l e room_1 s m #[Value.ref b] below meth c H [] cells slots (lw_Z below #[Value.ref b] s) (F0 m 1416 ls []) := by
        intro H S M f cells slots ls hW hR hl
        refine lv_iinc (v := nI (i + 6)) (lv' := [(4, .int (nI (i + 6))), (0, .ref b), (1, .ref d), (2, .ref Gm.2.2.1), (3, .ref o)]) hx hb dL_law_1416 hl (k := 4) rfl (nI_add i 6) (by decide) rfl (fun ls hl => ?_)
        refine lv_goto (tgt := 23) hx hb dL_law_1419 (by decide) ?_
        exact ih (i + 6) (t + 1) H S M f cells slots ls (by omega) (by omega) hW hR (lv_sub hl [1, 2, 3, 4, 0] rfl) (by omega)
      refine lv_aload_n hx hb dL_law_33 rfl (lv_at hl 0 rfl) ?_
      refine lv_iload hx hb dL_law_34 (lv_at hl 4 rfl) ?_
      refine va_sld (A := fun q => s.heap.size ≤ q) hx hb hX hbl (Nat.not_le.mpr hbl) hS9 (vp_in_nI (n := i) (N := L) (by omega) (by omega)) dL_law_36 ?_
      refine lv_bipush (v := 31) hx hb dL_law_37 (by decide) ?_
      refine lv_iand hx hb dL_law_39 ?_
      generalize xs (nI i).toNatClampNeg &&& 31 = w
      by_cases hc0 : w = 0
      · refine lv_tableIn (off := 92) (tgt := 132) hx hb dL_law_40 (by rw [hc0]; decide) (by rw [hc0]; decide) (by rw [hc0]; rfl) (by decide) ?_
        exact lc_promise F hX hbl hL HR hi6 ht hend H S M f cells slots ls hW hR hl
      by_cases hc1 : w = 1
      · refine lv_tableIn (off := 136) (tgt := 176) hx hb dL_law_40 (by rw [hc1]; decide) (by rw [hc1]; decide) (by rw [hc1]; rfl) (by decide) ?_
        exact lc_handler F hX hbl hL HR hi6 ht hend H S M f cells slots ls hW hR hl
      by_cases hc2 : w = 2
      · refine lv_tableIn (off := 204) (tgt := 244) hx hb dL_law_40 (by rw [hc2]; decide) (by rw [hc2]; decide) (by rw [hc2]; rfl) (by decide) ?_
        exact lc_thenable F hX hbl hL HR hi6 ht hend H S M f cells slots ls hW hR hl
      by_cases hc3 : w = 3
      · refine lv_tableIn (off := 308) (tgt := 348) hx hb dL_law_40 (by rw [hc3]; decide) (by rw [hc3]; decide) (by rw [hc3]; rfl) (by decide) ?_
        exact lc_settle F hX hbl hL HR hi6 ht hend H S M f cells slots ls hW hR hl
      by_cases hc4 : w = 4
      · refine lv_tableIn (off := 411) (tgt := 451) hx hb dL_law_40 (by rw [hc4]; decide) (by rw [hc4]; decide) (by rw [hc4]; rfl) (by decide) ?_
        exact lc_later F hX hbl hL HR hi6 ht hend H S M f cells slots ls hW hR hl
      by_cases hc5 : w = 5
      · refine lv_tableIn (off := 507) (tgt := 547) hx hb dL_law_40 (by rw [hc5]; decide) (by rw [hc5]; decide) (by rw [hc5]; rfl) (by decide) ?_
        exact lc_then F hX hbl hL HR hi6 ht hend H S M f cells slots ls hW hR hl
      by_cases hc6 : w = 6
      · refine lv_tableIn (off := 615) (tgt := 655) hx hb dL_law_40 (by rw [hc6]; decide) (by rw [hc6]; decide) (by rw [hc6]; rfl) (by decide) ?_
        exact lc_lastly F hX hbl hL HR hi6 ht hend H S M f cells slots ls hW hR hl
      by_cases hc7 : w = 7
      · refine lv_tableIn (off := 683) (tgt := 723) hx hb dL_law_40 (by rw [hc7]; decide) (by rw [hc7]; decide) (by rw [hc7]; rfl) (by decide) ?_
        exact lc_wrap F hX hbl hL HR hi6 ht hend H S M f cells slots ls hW hR hl
      by_cases hc8 : w = 8
      · refine lv_tableIn (off := 739) (tgt := 779) hx hb dL_law_40 (by rw [hc8]; decide) (by rw [hc8]; decide) (by rw [hc8]; rfl) (by decide) ?_
        exact lc_broken F hX hbl hL HR hi6 ht hend H S M f cells slots ls hW hR hl
      by_cases hc9 : w = 9
      · refine lv_tableIn (off := 795) (tgt := 835) hx hb dL_law_40 (by rw [hc9]; decide) (by rw [hc9]; decide) (by rw [hc9]; rfl) (by decide) ?_
        exact lc_item F hX hbl hL HR hi6 ht hend H S M f cells slots ls hW hR hl
      by_cases hc10 : w = 10
      · refine lv_tableIn (off := 851) (tgt := 891) hx hb dL_law_40 (by rw [hc10]; decide) (by rw [hc10]; decide) (by rw [hc10]; rfl) (by decide) ?_
        exact lc_combine F hX hbl hL HR hi6 ht hend H S M f cells slots ls hW hR hl
      by_cases hc11 : w = 11
      · refine lv_tableIn (off := 907) (tgt := 947) hx hb dL_law_40 (by rw [hc11]; decide) (by rw [hc11]; decide) (by rw [hc11]; rfl) (by decide) ?_
        exact lc_async F hX hbl hL HR hi6 ht hend H S M f cells slots ls hW hR hl
      by_cases hc12 : w = 12
      · refine lv_tableIn (off := 975) (tgt := 1015) hx hb dL_law_40 (by rw [hc12]; decide) (by rw [hc12]; decide) (by rw [hc12]; rfl) (by decide) ?_
        exact lc_jobs F hX hbl hL HR hi6 ht hend H S M f cells slots ls hW hR hl
      by_cases hc13 : w = 13
      · refine lv_tableIn (off := 1031) (tgt := 1071) hx hb dL_law_40 (by rw [hc13]; decide) (by rw [hc13]; decide) (by rw [hc13]; rfl) (by decide) ?_
        exact lc_state F hX hbl hL HR hi6 ht hend H S M f cells slots ls hW hR hl
      by_cases hc14 : w = 14
      · refine lv_tableIn (off := 1087) (tgt := 1127) hx hb dL_law_40 (by rw [hc14]; decide) (by rw [hc14]; decide) (by rw [hc14]; rfl) (by decide) ?_
        exact lc_result F hX hbl hL HR hi6 ht hend H S M f cells slots ls hW hR hl
      by_cases hc15 : w = 15
      · refine lv_tableIn (off := 1143) (tgt := 1183) hx hb dL_law_40 (by rw [hc15]; decide) (by rw [hc15]; decide) (by rw [hc15]; rfl) (by decide) ?_
        exact lc_kind F hX hbl hL HR hi6 ht hend H S M f cells slots ls hW hR hl
      by_cases hc16 : w = 16
      · refine lv_tableIn (off := 1199) (tgt := 1239) hx hb dL_law_40 (by rw [hc16]; decide) (by rw [hc16]; decide) (by rw [hc16]; rfl) (by decide) ?_
        exact lc_part F hX hbl hL HR hi6 ht hend H S M f cells slots ls hW hR hl
      by_cases hc17 : w = 17
      · refine lv_tableIn (off := 1267) (tgt := 1307) hx hb dL_law_40 (by rw [hc17]; decide) (by rw [hc17]; decide) (by rw [hc17]; rfl) (by decide) ?_
        exact lc_log F hX hbl hL HR hi6 ht hend H S M f cells slots ls hW hR hl
      by_cases hc18 : w = 18
      · refine lv_tableIn (off := 1320) (tgt := 1360) hx hb dL_law_40 (by rw [hc18]; decide) (by rw [hc18]; decide) (by rw [hc18]; rfl) (by decide) ?_
        exact lc_count F hX hbl hL HR hi6 ht hend H S M f cells slots ls hW hR hl
      have hd0 : w.toInt ≠ 0 := fun e9 => hc0 (Int32.toInt_inj.mp (e9.trans (by decide)))
      have hd1 : w.toInt ≠ 1 := fun e9 => hc1 (Int32.toInt_inj.mp (e9.trans (by decide)))
      have hd2 : w.toInt ≠ 2 := fun e9 => hc2 (Int32.toInt_inj.mp (e9.trans (by decide)))
      have hd3 : w.toInt ≠ 3 := fun e9 => hc3 (Int32.toInt_inj.mp (e9.trans (by decide)))
      have hd4 : w.toInt ≠ 4 := fun e9 => hc4 (Int32.toInt_inj.mp (e9.trans (by decide)))
      have hd5 : w.toInt ≠ 5 := fun e9 => hc5 (Int32.toInt_inj.mp (e9.trans (by decide)))
      have hd6 : w.toInt ≠ 6 := fun e9 => hc6 (Int32.toInt_inj.mp (e9.trans (by decide)))
      have hd7 : w.toInt ≠ 7 := fun e9 => hc7 (Int32.toInt_inj.mp (e9.trans (by decide)))
      have hd8 : w.toInt ≠ 8 := fun e9 => hc8 (Int32.toInt_inj.mp (e9.trans (by decide)))
      have hd9 : w.toInt ≠ 9 := fun e9 => hc9 (Int32.toInt_inj.mp (e9.trans (by decide)))
      have hd10 : w.toInt ≠ 10 := fun e9 => hc10 (Int32.toInt_inj.mp (e9.trans (by decide)))
      have hd11 : w.toInt ≠ 11 := fun e9 => hc11 (Int32.toInt_inj.mp (e9.trans (by decide)))
      have hd12 : w.toInt ≠ 12 := fun e9 => hc12 (Int32.toInt_inj.mp (e9.trans (by decide)))
      have hd13 : w.toInt ≠ 13 := fun e9 => hc13 (Int32.toInt_inj.mp (e9.trans (by decide)))
      have hd14 : w.toInt ≠ 14 := fun e9 => hc14 (Int32.toInt_inj.mp (e9.trans (by decide)))
      have hd15 : w.toInt ≠ 15 := fun e9 => hc15 (Int32.toInt_inj.mp (e9.trans (by decide)))
      have hd16 : w.toInt ≠ 16 := fun e9 => hc16 (Int32.toInt_inj.mp (e9.trans (by decide)))
      have hd17 : w.toInt ≠ 17 := fun e9 => hc17 (Int32.toInt_inj.mp (e9.trans (by decide)))
      have hd18 : w.toInt ≠ 18 := fun e9 => hc18 (Int32.toInt_inj.mp (e9.trans (by decide)))
      refine lv_tableOut (tgt := 1416) hx hb dL_law_40 (by omega) (by decide) ?_
      exact hend H S M f cells slots ls hW (HR.2.1 _ _ _ _ _ ht hR) hl
