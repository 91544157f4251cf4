/-! THE REFERENCE'S CONSTRUCTOR -/
def clen : Nat → Nat := fun i => [3000, 3000, 3000, 3000, 3000, 3000, 3000, 3000, 3000, 3000, 3000, 12000, 12000, 12000, 12000, 12000, 12000, 12000, 12000, 24000, 24000, 24000, 24000, 24000, 24000, 1000, 1000, 4200, 4200, 200, 20000, 20000, 20000, 3000, 3000, 3000, 3000, 3000, 3000, 3000].getD i 0
def cz : Nat → Bool := fun i => [false, false, false, false, false, true, false, false, false, false, false, false, true, false, false, false, false, false, false, false, false, false, false, true, true, false, false, false, false, false, false, false, true, false, false, false, false, false, false, false].getD i false
def cr (n0 j i : Nat) : Value := if i < j then .ref (n0 + i) else .null
def cfs (n0 j : Nat) : List Value := [.int 0, .int 0, cr n0 j 0, cr n0 j 1, cr n0 j 2, cr n0 j 3, cr n0 j 4, cr n0 j 5, cr n0 j 6, cr n0 j 7, cr n0 j 8, cr n0 j 9, cr n0 j 10, cr n0 j 11, cr n0 j 12, .int 0, cr n0 j 13, cr n0 j 14, cr n0 j 15, cr n0 j 16, cr n0 j 17, cr n0 j 18, .int 0, cr n0 j 19, cr n0 j 20, cr n0 j 21, cr n0 j 22, cr n0 j 23, cr n0 j 24, .int 0, .int 0, cr n0 j 25, cr n0 j 26, .int 0, cr n0 j 27, cr n0 j 28, .int 0, cr n0 j 29, .int 0, cr n0 j 30, cr n0 j 31, cr n0 j 32, .int 0, cr n0 j 33, cr n0 j 34, cr n0 j 35, cr n0 j 36, cr n0 j 37, cr n0 j 38, cr n0 j 39, .int 0, .int 0]
def carr (G : MG) (i : Nat) : va_E := .inl (if cz i then G.2.1 else G.1, clen i, .inl (fun _ => 0))
abbrev cA (h n0 : Nat) : Nat → Prop := fun q => q = h ∨ n0 ≤ q
def cmOK (D : va_G) (G : MG) (h n0 j : Nat) (H0 H : Heap) (locs : List Loc) : Prop := H.size = n0 + j ∧ va_at D vwCl (h, .inr (12, cfs n0 j)) H ∧ (∀ i, i < j → va_at D vwCl (n0 + i, carr G i) H) ∧ va_S (cA h n0) H0 H locs
section CM
variable {p : Program} {l : Launch} {e : Env} {R : Room} {s : State} {m : MethodId} {args : Array Value} {below : List Frame} {meth : Method} {c : Code} {H : Heap} {locs : List Loc} {cells slots : Nat} {Q : State → Prop}
variable {cc : ByteArray} {pc : Nat} {ls : Array Slot} {rest : List Value} {D : va_G} {G : MG} {h n0 j : Nat} {w0 : Cond}
theorem d_newZ0 {cl : List vw_C} (hexec : p.tables.exec = Jvm.exec) (hb : c.code = cc) (harr : (Cond.arrayClass .boolean).before args s = true) {cA : ClassId} (hcA : s.vm.findClass ("[" ++ FieldType.boolean.toString) = some cA) {n : Int32} (hn : 0 ≤ n.toInt) (hbytes : n.toInt < 100000) (hcells : cells + 1 ≤ R.cells) (hslots : slots + n.toNatClampNeg ≤ R.slots) (hdg : decode cc pc = .ok (.newarray .boolean, 2))
    (kk : ∀ H1 : Heap, va_at D cl (H.size, .inl (cA, n.toNatClampNeg, .inl (fun _ => 0))) H1 → H1.size = H.size + 1 → (∀ q, q < H.size → H1[q]? = H[q]?) → W p l e R s m args below meth c H1 locs (cells + 1) (slots + n.toNatClampNeg) Q (F0 m (pc + 2) ls (.ref H.size :: rest))) : W p l e R s m args below meth c H locs cells slots Q (F0 m pc ls (.int n :: rest)) := by
  have h0 : ¬ n < 0 := fun q => by
    have := Int32.lt_iff_toInt_lt.mp q
    have z : (0 : Int32).toInt = 0 := by decide
    omega
  have hb2 : n.toNatClampNeg * 1 ≤ 536870912 := by
    have e0 : n.toNatClampNeg = n.toInt.toNat := rfl
    rw [e0]
    omega
  obtain ⟨N, hN⟩ : ∃ N, N = n.toNatClampNeg := ⟨_, rfl⟩
  rw [← hN] at hb2 hslots kk
  refine va_newaK (atype := .boolean) (N := N) hexec hb harr rfl hdg rfl h0 hN.symm hb2 hcells hslots rfl fun H1 cB e1 z1 o1 hAr hNm => ?_
  have hc2 : cB = cA := Option.some.inj (hNm.symm.trans hcA)
  rw [hc2] at e1
  have e2 : H1[H.size]? = some (arrV cA N (fun _ => .int 0)) := e1
  exact kk H1 e2 z1 o1
theorem cm_end (hx : p.tables.exec = Jvm.exec) (hb : c.code = cc) (hts : ∀ w ∈ w0 :: Tw, w.before args s = true) (hown : s.vm.findClass RX12 = some m.cls) (hnm : meth.name = "<init>") (hK : va_K D vwCl (mT G) s) (hh : h < n0) {H1 : Heap} (hW : cmOK D G h n0 j s.heap H locs) (hat1 : va_at D vwCl (H.size, carr G j) H1) (z1 : H1.size = H.size + 1) (o1 : ∀ q, q < H.size → H1[q]? = H[q]?) (k : Nat) (hk : k < 52) {index : Nat} (hu : Cond.fieldLink RX12 index RX12 (TX12 k).2.1 (TX12 k).2.2.1 ∈ Tw) (hfin : (TX12 k).2.2.2 = true) {ty : FieldType} (hd : parseFieldDescriptor (TX12 k).2.2.1 = some ty) (hn : narrow ty (.ref (n0 + j)) = .ref (n0 + j)) (hfit : fits ty (.ref (n0 + j)) = true) (hl : k < (cfs n0 j).length) (hset : (cfs n0 j).set k (.ref (n0 + j)) = cfs n0 (j + 1)) (hdg : decode cc pc = .ok (.putfield index, 3))
    (kk : ∀ (H2 : Heap) (locs2 : List Loc), cmOK D G h n0 (j + 1) s.heap H2 locs2 → W p l e R s m args below meth c H2 locs2 cells slots Q (F0 m (pc + 3) ls rest)) : W p l e R s m args below meth c H1 locs cells slots Q (F0 m pc ls (.ref H.size :: .ref h :: rest)) := by
  obtain ⟨w1, w2, w3, w4⟩ := hW
  have hhl : h < H.size := by omega
  have hat := w2.kept (H1 := H1) (o1 h hhl)
  rw [w1] at hat1 ⊢
  refine d_putF0 hx hb hts (fun w hw => List.mem_cons_of_mem _ (inT12 w hw)) tyX12 tyX12_ok nmX12 hown hK hat rfl k hk (hts _ (List.mem_cons_of_mem _ hu)) (fun x h9 => by rw [TX12_cls] at h9; exact h9) hfin hnm (TX12_cls k) hd hn hfit hl hdg (fun H2 i hat2 z2 o2 => ?_)
  rw [hset] at hat2
  have hS1 : va_S (cA h n0) s.heap H1 locs := ⟨Nat.le_trans w4.1 (by omega), fun q g1 g2 => (o1 q (Nat.lt_of_lt_of_le g1 w4.1)).trans (w4.2.1 q g1 g2), w4.2.2⟩
  refine kk H2 _ ⟨by omega, hat2, fun i hi => ?_, hS1.put z2 o2 (Or.inl rfl)⟩
  by_cases e9 : i = j
  · subst e9
    exact hat1.kept (o2 (n0 + i) (by omega))
  · have h9 := w3 i (by omega)
    exact (h9.kept (H1 := H1) (o1 (n0 + i) (by omega))).kept (o2 (n0 + i) (by omega))
end CM
theorem cm_nmZ {D : va_G} {G : MG} {s : State} (hK : va_K D vwCl (mT G) s) : s.vm.findClass ("[" ++ FieldType.boolean.toString) = some G.2.1 := (hK.2 1 (G.2.1, .boolean) rfl).2
theorem cm_nmI {D : va_G} {G : MG} {s : State} (hK : va_K D vwCl (mT G) s) : s.vm.findClass ("[" ++ FieldType.int.toString) = some G.1 := (hK.2 0 (G.1, .int) rfl).2
/-- where the constructor puts the arrays -/
def cad (n0 : Nat) : Nat → Nat := fun k => n0 + [0, 0, 0, 1, 2, 3, 4, 5, 6, 7, 8, 9, 10, 11, 12, 0, 13, 14, 15, 16, 17, 18, 0, 19, 20, 21, 22, 23, 24, 0, 0, 25, 26, 0, 27, 28, 0, 29, 0, 30, 31, 32, 0, 33, 34, 35, 36, 37, 38, 39, 0, 0].getD k 0
set_option maxHeartbeats 8000000 in
set_option maxRecDepth 100000 in
theorem c_Minit {l : Launch} {D : va_G} {h n0 : Nat} {cI cZ : ClassId} (hh : h < n0) : Met l yX12_init (wM yX12_init cX12_init 1 none) (rD 1 20 40 364600) (va_Pc [.ref h] (fun U => U.heap.size = n0 ∧ va_at D vwCl (h, .inr (12, cfs n0 0)) U.heap ∧ va_K D vwCl (mT (cI, cZ, h, cad n0)) U)) (va_Qv (fun _ : Nat => True) (fun _ t => t.heap.size = n0 + 40 ∧ va_at D vwCl (h, .inr (12, cfs n0 40)) t.heap ∧ ∀ i, i < 40 → va_at D vwCl (n0 + i, carr (cI, cZ, h, cad n0) i) t.heap) (cA h n0)) 40 364600 (cA h n0) := by
  refine Met.ofW (cc := cX12_init) (maxL := 1) (ret := none) (by decide) rfl ?_
  intro p e s m args below meth c s₁ B hml hv
  obtain ⟨rfl, hsz, hat, hK⟩ := hv
  have hts := atoms_spec (ws := wM yX12_init cX12_init 1 none) B.pre
  have hx := B.exec
  have hb := B.bytes
  have hr := B.returns
  have hown : s.vm.findClass RX12 = some m.cls := findClass_of_methodNamed B.named
  have hnm : meth.name = "<init>" := (name_of_methodNamed B.named B.method).1
  have hlocks := B.notSynchronized
  have hW : cmOK D (cI, cZ, h, cad n0) h n0 0 s.heap s.heap [] := ⟨hsz, hat, fun i hi => absurd hi (Nat.not_lt_zero i), va_S.rf⟩
  rw [lg_entry_eq]
  have hl := lv_entry ([.ref h]) (n := 1) (Nat.le_of_ble_eq_true rfl)
  generalize (lg_sl ([.ref h]) ++ List.replicate (1 - (lg_sl ([.ref h])).length) Slot.unset).toArray = ls at hl ⊢
  have hl : lv_has ls 1 [(0, .ref h)] := hl
  show W p l e (rD 1 20 40 364600) s m _ below meth c s.heap [] 0 0 _ (F0 m 0 ls [])
  refine lv_aload_n hx hb dX12_init_0 rfl (lv_at hl 0 rfl) ?_
  refine W.objInit hx hb hown (hts _ (List.mem_cons_of_mem _ u_841)) (hts _ (List.mem_cons_of_mem _ u_34)) (hts _ (List.mem_cons_of_mem _ u_35)) rfl (by rw [hml]; exact hl.1) rfl dX12_init_1 (Nat.le_of_ble_eq_true rfl) (Nat.le_of_ble_eq_true rfl) ?_
  refine W.eq (g2 := F0 m 4 ls []) rfl ?_
  refine lv_aload_n hx hb dX12_init_4 rfl (lv_at hl 0 rfl) ?_
  refine lv_sipush (v := 3000) hx hb dX12_init_5 (by decide) ?_
  refine d_newI0 (D := D) (cl := vwCl) hx hb (hts _ (List.mem_cons_of_mem _ u_96)) (cm_nmI hK) (by decide) (by decide) (Nat.le_of_ble_eq_true rfl) (Nat.le_of_ble_eq_true rfl) dX12_init_8 (fun H1 hat1 z1 o1 => ?_)
  refine cm_end (j := 0) hx hb hts hown hnm hK hh hW hat1 z1 o1 2 (by decide) u_844 rfl (tyX12_ok 2 (by decide)) rfl rfl (Nat.le_of_ble_eq_true rfl) rfl dX12_init_10 (fun H locs hW => ?_)
  clear hat1 z1 o1
  refine W.widen (k := 1) (n := 3000) (Nat.le_of_ble_eq_true rfl) (Nat.le_of_ble_eq_true rfl) ?_
  refine lv_aload_n hx hb dX12_init_13 rfl (lv_at hl 0 rfl) ?_
  refine lv_sipush (v := 3000) hx hb dX12_init_14 (by decide) ?_
  refine d_newI0 (D := D) (cl := vwCl) hx hb (hts _ (List.mem_cons_of_mem _ u_96)) (cm_nmI hK) (by decide) (by decide) (Nat.le_of_ble_eq_true rfl) (Nat.le_of_ble_eq_true rfl) dX12_init_17 (fun H1 hat1 z1 o1 => ?_)
  refine cm_end (j := 1) hx hb hts hown hnm hK hh hW hat1 z1 o1 3 (by decide) u_845 rfl (tyX12_ok 3 (by decide)) rfl rfl (Nat.le_of_ble_eq_true rfl) rfl dX12_init_19 (fun H locs hW => ?_)
  clear hat1 z1 o1
  refine W.widen (k := 2) (n := 6000) (Nat.le_of_ble_eq_true rfl) (Nat.le_of_ble_eq_true rfl) ?_
  refine lv_aload_n hx hb dX12_init_22 rfl (lv_at hl 0 rfl) ?_
  refine lv_sipush (v := 3000) hx hb dX12_init_23 (by decide) ?_
  refine d_newI0 (D := D) (cl := vwCl) hx hb (hts _ (List.mem_cons_of_mem _ u_96)) (cm_nmI hK) (by decide) (by decide) (Nat.le_of_ble_eq_true rfl) (Nat.le_of_ble_eq_true rfl) dX12_init_26 (fun H1 hat1 z1 o1 => ?_)
  refine cm_end (j := 2) hx hb hts hown hnm hK hh hW hat1 z1 o1 4 (by decide) u_846 rfl (tyX12_ok 4 (by decide)) rfl rfl (Nat.le_of_ble_eq_true rfl) rfl dX12_init_28 (fun H locs hW => ?_)
  clear hat1 z1 o1
  refine W.widen (k := 3) (n := 9000) (Nat.le_of_ble_eq_true rfl) (Nat.le_of_ble_eq_true rfl) ?_
  refine lv_aload_n hx hb dX12_init_31 rfl (lv_at hl 0 rfl) ?_
  refine lv_sipush (v := 3000) hx hb dX12_init_32 (by decide) ?_
  refine d_newI0 (D := D) (cl := vwCl) hx hb (hts _ (List.mem_cons_of_mem _ u_96)) (cm_nmI hK) (by decide) (by decide) (Nat.le_of_ble_eq_true rfl) (Nat.le_of_ble_eq_true rfl) dX12_init_35 (fun H1 hat1 z1 o1 => ?_)
  refine cm_end (j := 3) hx hb hts hown hnm hK hh hW hat1 z1 o1 5 (by decide) u_847 rfl (tyX12_ok 5 (by decide)) rfl rfl (Nat.le_of_ble_eq_true rfl) rfl dX12_init_37 (fun H locs hW => ?_)
  clear hat1 z1 o1
  refine W.widen (k := 4) (n := 12000) (Nat.le_of_ble_eq_true rfl) (Nat.le_of_ble_eq_true rfl) ?_
  refine lv_aload_n hx hb dX12_init_40 rfl (lv_at hl 0 rfl) ?_
  refine lv_sipush (v := 3000) hx hb dX12_init_41 (by decide) ?_
  refine d_newI0 (D := D) (cl := vwCl) hx hb (hts _ (List.mem_cons_of_mem _ u_96)) (cm_nmI hK) (by decide) (by decide) (Nat.le_of_ble_eq_true rfl) (Nat.le_of_ble_eq_true rfl) dX12_init_44 (fun H1 hat1 z1 o1 => ?_)
  refine cm_end (j := 4) hx hb hts hown hnm hK hh hW hat1 z1 o1 6 (by decide) u_848 rfl (tyX12_ok 6 (by decide)) rfl rfl (Nat.le_of_ble_eq_true rfl) rfl dX12_init_46 (fun H locs hW => ?_)
  clear hat1 z1 o1
  refine W.widen (k := 5) (n := 15000) (Nat.le_of_ble_eq_true rfl) (Nat.le_of_ble_eq_true rfl) ?_
  refine lv_aload_n hx hb dX12_init_49 rfl (lv_at hl 0 rfl) ?_
  refine lv_sipush (v := 3000) hx hb dX12_init_50 (by decide) ?_
  refine d_newZ0 (D := D) (cl := vwCl) hx hb (hts _ (List.mem_cons_of_mem _ u_999)) (cm_nmZ hK) (by decide) (by decide) (Nat.le_of_ble_eq_true rfl) (Nat.le_of_ble_eq_true rfl) dX12_init_53 (fun H1 hat1 z1 o1 => ?_)
  refine cm_end (j := 5) hx hb hts hown hnm hK hh hW hat1 z1 o1 7 (by decide) u_849 rfl (tyX12_ok 7 (by decide)) rfl rfl (Nat.le_of_ble_eq_true rfl) rfl dX12_init_55 (fun H locs hW => ?_)
  clear hat1 z1 o1
  refine W.widen (k := 6) (n := 18000) (Nat.le_of_ble_eq_true rfl) (Nat.le_of_ble_eq_true rfl) ?_
  refine lv_aload_n hx hb dX12_init_58 rfl (lv_at hl 0 rfl) ?_
  refine lv_sipush (v := 3000) hx hb dX12_init_59 (by decide) ?_
  refine d_newI0 (D := D) (cl := vwCl) hx hb (hts _ (List.mem_cons_of_mem _ u_96)) (cm_nmI hK) (by decide) (by decide) (Nat.le_of_ble_eq_true rfl) (Nat.le_of_ble_eq_true rfl) dX12_init_62 (fun H1 hat1 z1 o1 => ?_)
  refine cm_end (j := 6) hx hb hts hown hnm hK hh hW hat1 z1 o1 8 (by decide) u_850 rfl (tyX12_ok 8 (by decide)) rfl rfl (Nat.le_of_ble_eq_true rfl) rfl dX12_init_64 (fun H locs hW => ?_)
  clear hat1 z1 o1
  refine W.widen (k := 7) (n := 21000) (Nat.le_of_ble_eq_true rfl) (Nat.le_of_ble_eq_true rfl) ?_
  refine lv_aload_n hx hb dX12_init_67 rfl (lv_at hl 0 rfl) ?_
  refine lv_sipush (v := 3000) hx hb dX12_init_68 (by decide) ?_
  refine d_newI0 (D := D) (cl := vwCl) hx hb (hts _ (List.mem_cons_of_mem _ u_96)) (cm_nmI hK) (by decide) (by decide) (Nat.le_of_ble_eq_true rfl) (Nat.le_of_ble_eq_true rfl) dX12_init_71 (fun H1 hat1 z1 o1 => ?_)
  refine cm_end (j := 7) hx hb hts hown hnm hK hh hW hat1 z1 o1 9 (by decide) u_851 rfl (tyX12_ok 9 (by decide)) rfl rfl (Nat.le_of_ble_eq_true rfl) rfl dX12_init_73 (fun H locs hW => ?_)
  clear hat1 z1 o1
  refine W.widen (k := 8) (n := 24000) (Nat.le_of_ble_eq_true rfl) (Nat.le_of_ble_eq_true rfl) ?_
  refine lv_aload_n hx hb dX12_init_76 rfl (lv_at hl 0 rfl) ?_
  refine lv_sipush (v := 3000) hx hb dX12_init_77 (by decide) ?_
  refine d_newI0 (D := D) (cl := vwCl) hx hb (hts _ (List.mem_cons_of_mem _ u_96)) (cm_nmI hK) (by decide) (by decide) (Nat.le_of_ble_eq_true rfl) (Nat.le_of_ble_eq_true rfl) dX12_init_80 (fun H1 hat1 z1 o1 => ?_)
  refine cm_end (j := 8) hx hb hts hown hnm hK hh hW hat1 z1 o1 10 (by decide) u_852 rfl (tyX12_ok 10 (by decide)) rfl rfl (Nat.le_of_ble_eq_true rfl) rfl dX12_init_82 (fun H locs hW => ?_)
  clear hat1 z1 o1
  refine W.widen (k := 9) (n := 27000) (Nat.le_of_ble_eq_true rfl) (Nat.le_of_ble_eq_true rfl) ?_
  refine lv_aload_n hx hb dX12_init_85 rfl (lv_at hl 0 rfl) ?_
  refine lv_sipush (v := 3000) hx hb dX12_init_86 (by decide) ?_
  refine d_newI0 (D := D) (cl := vwCl) hx hb (hts _ (List.mem_cons_of_mem _ u_96)) (cm_nmI hK) (by decide) (by decide) (Nat.le_of_ble_eq_true rfl) (Nat.le_of_ble_eq_true rfl) dX12_init_89 (fun H1 hat1 z1 o1 => ?_)
  refine cm_end (j := 9) hx hb hts hown hnm hK hh hW hat1 z1 o1 11 (by decide) u_853 rfl (tyX12_ok 11 (by decide)) rfl rfl (Nat.le_of_ble_eq_true rfl) rfl dX12_init_91 (fun H locs hW => ?_)
  clear hat1 z1 o1
  refine W.widen (k := 10) (n := 30000) (Nat.le_of_ble_eq_true rfl) (Nat.le_of_ble_eq_true rfl) ?_
  refine lv_aload_n hx hb dX12_init_94 rfl (lv_at hl 0 rfl) ?_
  refine lv_sipush (v := 3000) hx hb dX12_init_95 (by decide) ?_
  refine d_newI0 (D := D) (cl := vwCl) hx hb (hts _ (List.mem_cons_of_mem _ u_96)) (cm_nmI hK) (by decide) (by decide) (Nat.le_of_ble_eq_true rfl) (Nat.le_of_ble_eq_true rfl) dX12_init_98 (fun H1 hat1 z1 o1 => ?_)
  refine cm_end (j := 10) hx hb hts hown hnm hK hh hW hat1 z1 o1 12 (by decide) u_854 rfl (tyX12_ok 12 (by decide)) rfl rfl (Nat.le_of_ble_eq_true rfl) rfl dX12_init_100 (fun H locs hW => ?_)
  clear hat1 z1 o1
  refine W.widen (k := 11) (n := 33000) (Nat.le_of_ble_eq_true rfl) (Nat.le_of_ble_eq_true rfl) ?_
  refine lv_aload_n hx hb dX12_init_103 rfl (lv_at hl 0 rfl) ?_
  refine lv_sipush (v := 12000) hx hb dX12_init_104 (by decide) ?_
  refine d_newI0 (D := D) (cl := vwCl) hx hb (hts _ (List.mem_cons_of_mem _ u_96)) (cm_nmI hK) (by decide) (by decide) (Nat.le_of_ble_eq_true rfl) (Nat.le_of_ble_eq_true rfl) dX12_init_107 (fun H1 hat1 z1 o1 => ?_)
  refine cm_end (j := 11) hx hb hts hown hnm hK hh hW hat1 z1 o1 13 (by decide) u_855 rfl (tyX12_ok 13 (by decide)) rfl rfl (Nat.le_of_ble_eq_true rfl) rfl dX12_init_109 (fun H locs hW => ?_)
  clear hat1 z1 o1
  refine W.widen (k := 12) (n := 45000) (Nat.le_of_ble_eq_true rfl) (Nat.le_of_ble_eq_true rfl) ?_
  refine lv_aload_n hx hb dX12_init_112 rfl (lv_at hl 0 rfl) ?_
  refine lv_sipush (v := 12000) hx hb dX12_init_113 (by decide) ?_
  refine d_newZ0 (D := D) (cl := vwCl) hx hb (hts _ (List.mem_cons_of_mem _ u_999)) (cm_nmZ hK) (by decide) (by decide) (Nat.le_of_ble_eq_true rfl) (Nat.le_of_ble_eq_true rfl) dX12_init_116 (fun H1 hat1 z1 o1 => ?_)
  refine cm_end (j := 12) hx hb hts hown hnm hK hh hW hat1 z1 o1 14 (by decide) u_856 rfl (tyX12_ok 14 (by decide)) rfl rfl (Nat.le_of_ble_eq_true rfl) rfl dX12_init_118 (fun H locs hW => ?_)
  clear hat1 z1 o1
  refine W.widen (k := 13) (n := 57000) (Nat.le_of_ble_eq_true rfl) (Nat.le_of_ble_eq_true rfl) ?_
  refine lv_aload_n hx hb dX12_init_121 rfl (lv_at hl 0 rfl) ?_
  refine lv_sipush (v := 12000) hx hb dX12_init_122 (by decide) ?_
  refine d_newI0 (D := D) (cl := vwCl) hx hb (hts _ (List.mem_cons_of_mem _ u_96)) (cm_nmI hK) (by decide) (by decide) (Nat.le_of_ble_eq_true rfl) (Nat.le_of_ble_eq_true rfl) dX12_init_125 (fun H1 hat1 z1 o1 => ?_)
  refine cm_end (j := 13) hx hb hts hown hnm hK hh hW hat1 z1 o1 16 (by decide) u_858 rfl (tyX12_ok 16 (by decide)) rfl rfl (Nat.le_of_ble_eq_true rfl) rfl dX12_init_127 (fun H locs hW => ?_)
  clear hat1 z1 o1
  refine W.widen (k := 14) (n := 69000) (Nat.le_of_ble_eq_true rfl) (Nat.le_of_ble_eq_true rfl) ?_
  refine lv_aload_n hx hb dX12_init_130 rfl (lv_at hl 0 rfl) ?_
  refine lv_sipush (v := 12000) hx hb dX12_init_131 (by decide) ?_
  refine d_newI0 (D := D) (cl := vwCl) hx hb (hts _ (List.mem_cons_of_mem _ u_96)) (cm_nmI hK) (by decide) (by decide) (Nat.le_of_ble_eq_true rfl) (Nat.le_of_ble_eq_true rfl) dX12_init_134 (fun H1 hat1 z1 o1 => ?_)
  refine cm_end (j := 14) hx hb hts hown hnm hK hh hW hat1 z1 o1 17 (by decide) u_859 rfl (tyX12_ok 17 (by decide)) rfl rfl (Nat.le_of_ble_eq_true rfl) rfl dX12_init_136 (fun H locs hW => ?_)
  clear hat1 z1 o1
  refine W.widen (k := 15) (n := 81000) (Nat.le_of_ble_eq_true rfl) (Nat.le_of_ble_eq_true rfl) ?_
  refine lv_aload_n hx hb dX12_init_139 rfl (lv_at hl 0 rfl) ?_
  refine lv_sipush (v := 12000) hx hb dX12_init_140 (by decide) ?_
  refine d_newI0 (D := D) (cl := vwCl) hx hb (hts _ (List.mem_cons_of_mem _ u_96)) (cm_nmI hK) (by decide) (by decide) (Nat.le_of_ble_eq_true rfl) (Nat.le_of_ble_eq_true rfl) dX12_init_143 (fun H1 hat1 z1 o1 => ?_)
  refine cm_end (j := 15) hx hb hts hown hnm hK hh hW hat1 z1 o1 18 (by decide) u_860 rfl (tyX12_ok 18 (by decide)) rfl rfl (Nat.le_of_ble_eq_true rfl) rfl dX12_init_145 (fun H locs hW => ?_)
  clear hat1 z1 o1
  refine W.widen (k := 16) (n := 93000) (Nat.le_of_ble_eq_true rfl) (Nat.le_of_ble_eq_true rfl) ?_
  refine lv_aload_n hx hb dX12_init_148 rfl (lv_at hl 0 rfl) ?_
  refine lv_sipush (v := 12000) hx hb dX12_init_149 (by decide) ?_
  refine d_newI0 (D := D) (cl := vwCl) hx hb (hts _ (List.mem_cons_of_mem _ u_96)) (cm_nmI hK) (by decide) (by decide) (Nat.le_of_ble_eq_true rfl) (Nat.le_of_ble_eq_true rfl) dX12_init_152 (fun H1 hat1 z1 o1 => ?_)
  refine cm_end (j := 16) hx hb hts hown hnm hK hh hW hat1 z1 o1 19 (by decide) u_861 rfl (tyX12_ok 19 (by decide)) rfl rfl (Nat.le_of_ble_eq_true rfl) rfl dX12_init_154 (fun H locs hW => ?_)
  clear hat1 z1 o1
  refine W.widen (k := 17) (n := 105000) (Nat.le_of_ble_eq_true rfl) (Nat.le_of_ble_eq_true rfl) ?_
  refine lv_aload_n hx hb dX12_init_157 rfl (lv_at hl 0 rfl) ?_
  refine lv_sipush (v := 12000) hx hb dX12_init_158 (by decide) ?_
  refine d_newI0 (D := D) (cl := vwCl) hx hb (hts _ (List.mem_cons_of_mem _ u_96)) (cm_nmI hK) (by decide) (by decide) (Nat.le_of_ble_eq_true rfl) (Nat.le_of_ble_eq_true rfl) dX12_init_161 (fun H1 hat1 z1 o1 => ?_)
  refine cm_end (j := 17) hx hb hts hown hnm hK hh hW hat1 z1 o1 20 (by decide) u_862 rfl (tyX12_ok 20 (by decide)) rfl rfl (Nat.le_of_ble_eq_true rfl) rfl dX12_init_163 (fun H locs hW => ?_)
  clear hat1 z1 o1
  refine W.widen (k := 18) (n := 117000) (Nat.le_of_ble_eq_true rfl) (Nat.le_of_ble_eq_true rfl) ?_
  refine lv_aload_n hx hb dX12_init_166 rfl (lv_at hl 0 rfl) ?_
  refine lv_sipush (v := 12000) hx hb dX12_init_167 (by decide) ?_
  refine d_newI0 (D := D) (cl := vwCl) hx hb (hts _ (List.mem_cons_of_mem _ u_96)) (cm_nmI hK) (by decide) (by decide) (Nat.le_of_ble_eq_true rfl) (Nat.le_of_ble_eq_true rfl) dX12_init_170 (fun H1 hat1 z1 o1 => ?_)
  refine cm_end (j := 18) hx hb hts hown hnm hK hh hW hat1 z1 o1 21 (by decide) u_863 rfl (tyX12_ok 21 (by decide)) rfl rfl (Nat.le_of_ble_eq_true rfl) rfl dX12_init_172 (fun H locs hW => ?_)
  clear hat1 z1 o1
  refine W.widen (k := 19) (n := 129000) (Nat.le_of_ble_eq_true rfl) (Nat.le_of_ble_eq_true rfl) ?_
  refine lv_aload_n hx hb dX12_init_175 rfl (lv_at hl 0 rfl) ?_
  refine lv_sipush (v := 24000) hx hb dX12_init_176 (by decide) ?_
  refine d_newI0 (D := D) (cl := vwCl) hx hb (hts _ (List.mem_cons_of_mem _ u_96)) (cm_nmI hK) (by decide) (by decide) (Nat.le_of_ble_eq_true rfl) (Nat.le_of_ble_eq_true rfl) dX12_init_179 (fun H1 hat1 z1 o1 => ?_)
  refine cm_end (j := 19) hx hb hts hown hnm hK hh hW hat1 z1 o1 23 (by decide) u_865 rfl (tyX12_ok 23 (by decide)) rfl rfl (Nat.le_of_ble_eq_true rfl) rfl dX12_init_181 (fun H locs hW => ?_)
  clear hat1 z1 o1
  refine W.widen (k := 20) (n := 153000) (Nat.le_of_ble_eq_true rfl) (Nat.le_of_ble_eq_true rfl) ?_
  refine lv_aload_n hx hb dX12_init_184 rfl (lv_at hl 0 rfl) ?_
  refine lv_sipush (v := 24000) hx hb dX12_init_185 (by decide) ?_
  refine d_newI0 (D := D) (cl := vwCl) hx hb (hts _ (List.mem_cons_of_mem _ u_96)) (cm_nmI hK) (by decide) (by decide) (Nat.le_of_ble_eq_true rfl) (Nat.le_of_ble_eq_true rfl) dX12_init_188 (fun H1 hat1 z1 o1 => ?_)
  refine cm_end (j := 20) hx hb hts hown hnm hK hh hW hat1 z1 o1 24 (by decide) u_866 rfl (tyX12_ok 24 (by decide)) rfl rfl (Nat.le_of_ble_eq_true rfl) rfl dX12_init_190 (fun H locs hW => ?_)
  clear hat1 z1 o1
  refine W.widen (k := 21) (n := 177000) (Nat.le_of_ble_eq_true rfl) (Nat.le_of_ble_eq_true rfl) ?_
  refine lv_aload_n hx hb dX12_init_193 rfl (lv_at hl 0 rfl) ?_
  refine lv_sipush (v := 24000) hx hb dX12_init_194 (by decide) ?_
  refine d_newI0 (D := D) (cl := vwCl) hx hb (hts _ (List.mem_cons_of_mem _ u_96)) (cm_nmI hK) (by decide) (by decide) (Nat.le_of_ble_eq_true rfl) (Nat.le_of_ble_eq_true rfl) dX12_init_197 (fun H1 hat1 z1 o1 => ?_)
  refine cm_end (j := 21) hx hb hts hown hnm hK hh hW hat1 z1 o1 25 (by decide) u_867 rfl (tyX12_ok 25 (by decide)) rfl rfl (Nat.le_of_ble_eq_true rfl) rfl dX12_init_199 (fun H locs hW => ?_)
  clear hat1 z1 o1
  refine W.widen (k := 22) (n := 201000) (Nat.le_of_ble_eq_true rfl) (Nat.le_of_ble_eq_true rfl) ?_
  refine lv_aload_n hx hb dX12_init_202 rfl (lv_at hl 0 rfl) ?_
  refine lv_sipush (v := 24000) hx hb dX12_init_203 (by decide) ?_
  refine d_newI0 (D := D) (cl := vwCl) hx hb (hts _ (List.mem_cons_of_mem _ u_96)) (cm_nmI hK) (by decide) (by decide) (Nat.le_of_ble_eq_true rfl) (Nat.le_of_ble_eq_true rfl) dX12_init_206 (fun H1 hat1 z1 o1 => ?_)
  refine cm_end (j := 22) hx hb hts hown hnm hK hh hW hat1 z1 o1 26 (by decide) u_868 rfl (tyX12_ok 26 (by decide)) rfl rfl (Nat.le_of_ble_eq_true rfl) rfl dX12_init_208 (fun H locs hW => ?_)
  clear hat1 z1 o1
  refine W.widen (k := 23) (n := 225000) (Nat.le_of_ble_eq_true rfl) (Nat.le_of_ble_eq_true rfl) ?_
  refine lv_aload_n hx hb dX12_init_211 rfl (lv_at hl 0 rfl) ?_
  refine lv_sipush (v := 24000) hx hb dX12_init_212 (by decide) ?_
  refine d_newZ0 (D := D) (cl := vwCl) hx hb (hts _ (List.mem_cons_of_mem _ u_999)) (cm_nmZ hK) (by decide) (by decide) (Nat.le_of_ble_eq_true rfl) (Nat.le_of_ble_eq_true rfl) dX12_init_215 (fun H1 hat1 z1 o1 => ?_)
  refine cm_end (j := 23) hx hb hts hown hnm hK hh hW hat1 z1 o1 27 (by decide) u_869 rfl (tyX12_ok 27 (by decide)) rfl rfl (Nat.le_of_ble_eq_true rfl) rfl dX12_init_217 (fun H locs hW => ?_)
  clear hat1 z1 o1
  refine W.widen (k := 24) (n := 249000) (Nat.le_of_ble_eq_true rfl) (Nat.le_of_ble_eq_true rfl) ?_
  refine lv_aload_n hx hb dX12_init_220 rfl (lv_at hl 0 rfl) ?_
  refine lv_sipush (v := 24000) hx hb dX12_init_221 (by decide) ?_
  refine d_newZ0 (D := D) (cl := vwCl) hx hb (hts _ (List.mem_cons_of_mem _ u_999)) (cm_nmZ hK) (by decide) (by decide) (Nat.le_of_ble_eq_true rfl) (Nat.le_of_ble_eq_true rfl) dX12_init_224 (fun H1 hat1 z1 o1 => ?_)
  refine cm_end (j := 24) hx hb hts hown hnm hK hh hW hat1 z1 o1 28 (by decide) u_870 rfl (tyX12_ok 28 (by decide)) rfl rfl (Nat.le_of_ble_eq_true rfl) rfl dX12_init_226 (fun H locs hW => ?_)
  clear hat1 z1 o1
  refine W.widen (k := 25) (n := 273000) (Nat.le_of_ble_eq_true rfl) (Nat.le_of_ble_eq_true rfl) ?_
  refine lv_aload_n hx hb dX12_init_229 rfl (lv_at hl 0 rfl) ?_
  refine lv_sipush (v := 1000) hx hb dX12_init_230 (by decide) ?_
  refine d_newI0 (D := D) (cl := vwCl) hx hb (hts _ (List.mem_cons_of_mem _ u_96)) (cm_nmI hK) (by decide) (by decide) (Nat.le_of_ble_eq_true rfl) (Nat.le_of_ble_eq_true rfl) dX12_init_233 (fun H1 hat1 z1 o1 => ?_)
  refine cm_end (j := 25) hx hb hts hown hnm hK hh hW hat1 z1 o1 31 (by decide) u_873 rfl (tyX12_ok 31 (by decide)) rfl rfl (Nat.le_of_ble_eq_true rfl) rfl dX12_init_235 (fun H locs hW => ?_)
  clear hat1 z1 o1
  refine W.widen (k := 26) (n := 274000) (Nat.le_of_ble_eq_true rfl) (Nat.le_of_ble_eq_true rfl) ?_
  refine lv_aload_n hx hb dX12_init_238 rfl (lv_at hl 0 rfl) ?_
  refine lv_sipush (v := 1000) hx hb dX12_init_239 (by decide) ?_
  refine d_newI0 (D := D) (cl := vwCl) hx hb (hts _ (List.mem_cons_of_mem _ u_96)) (cm_nmI hK) (by decide) (by decide) (Nat.le_of_ble_eq_true rfl) (Nat.le_of_ble_eq_true rfl) dX12_init_242 (fun H1 hat1 z1 o1 => ?_)
  refine cm_end (j := 26) hx hb hts hown hnm hK hh hW hat1 z1 o1 32 (by decide) u_874 rfl (tyX12_ok 32 (by decide)) rfl rfl (Nat.le_of_ble_eq_true rfl) rfl dX12_init_244 (fun H locs hW => ?_)
  clear hat1 z1 o1
  refine W.widen (k := 27) (n := 275000) (Nat.le_of_ble_eq_true rfl) (Nat.le_of_ble_eq_true rfl) ?_
  refine lv_aload_n hx hb dX12_init_247 rfl (lv_at hl 0 rfl) ?_
  refine lv_sipush (v := 4200) hx hb dX12_init_248 (by decide) ?_
  refine d_newI0 (D := D) (cl := vwCl) hx hb (hts _ (List.mem_cons_of_mem _ u_96)) (cm_nmI hK) (by decide) (by decide) (Nat.le_of_ble_eq_true rfl) (Nat.le_of_ble_eq_true rfl) dX12_init_251 (fun H1 hat1 z1 o1 => ?_)
  refine cm_end (j := 27) hx hb hts hown hnm hK hh hW hat1 z1 o1 34 (by decide) u_876 rfl (tyX12_ok 34 (by decide)) rfl rfl (Nat.le_of_ble_eq_true rfl) rfl dX12_init_253 (fun H locs hW => ?_)
  clear hat1 z1 o1
  refine W.widen (k := 28) (n := 279200) (Nat.le_of_ble_eq_true rfl) (Nat.le_of_ble_eq_true rfl) ?_
  refine lv_aload_n hx hb dX12_init_256 rfl (lv_at hl 0 rfl) ?_
  refine lv_sipush (v := 4200) hx hb dX12_init_257 (by decide) ?_
  refine d_newI0 (D := D) (cl := vwCl) hx hb (hts _ (List.mem_cons_of_mem _ u_96)) (cm_nmI hK) (by decide) (by decide) (Nat.le_of_ble_eq_true rfl) (Nat.le_of_ble_eq_true rfl) dX12_init_260 (fun H1 hat1 z1 o1 => ?_)
  refine cm_end (j := 28) hx hb hts hown hnm hK hh hW hat1 z1 o1 35 (by decide) u_877 rfl (tyX12_ok 35 (by decide)) rfl rfl (Nat.le_of_ble_eq_true rfl) rfl dX12_init_262 (fun H locs hW => ?_)
  clear hat1 z1 o1
  refine W.widen (k := 29) (n := 283400) (Nat.le_of_ble_eq_true rfl) (Nat.le_of_ble_eq_true rfl) ?_
  refine lv_aload_n hx hb dX12_init_265 rfl (lv_at hl 0 rfl) ?_
  refine lv_sipush (v := 200) hx hb dX12_init_266 (by decide) ?_
  refine d_newI0 (D := D) (cl := vwCl) hx hb (hts _ (List.mem_cons_of_mem _ u_96)) (cm_nmI hK) (by decide) (by decide) (Nat.le_of_ble_eq_true rfl) (Nat.le_of_ble_eq_true rfl) dX12_init_269 (fun H1 hat1 z1 o1 => ?_)
  refine cm_end (j := 29) hx hb hts hown hnm hK hh hW hat1 z1 o1 37 (by decide) u_879 rfl (tyX12_ok 37 (by decide)) rfl rfl (Nat.le_of_ble_eq_true rfl) rfl dX12_init_271 (fun H locs hW => ?_)
  clear hat1 z1 o1
  refine W.widen (k := 30) (n := 283600) (Nat.le_of_ble_eq_true rfl) (Nat.le_of_ble_eq_true rfl) ?_
  refine lv_aload_n hx hb dX12_init_274 rfl (lv_at hl 0 rfl) ?_
  refine lv_sipush (v := 20000) hx hb dX12_init_275 (by decide) ?_
  refine d_newI0 (D := D) (cl := vwCl) hx hb (hts _ (List.mem_cons_of_mem _ u_96)) (cm_nmI hK) (by decide) (by decide) (Nat.le_of_ble_eq_true rfl) (Nat.le_of_ble_eq_true rfl) dX12_init_278 (fun H1 hat1 z1 o1 => ?_)
  refine cm_end (j := 30) hx hb hts hown hnm hK hh hW hat1 z1 o1 39 (by decide) u_881 rfl (tyX12_ok 39 (by decide)) rfl rfl (Nat.le_of_ble_eq_true rfl) rfl dX12_init_280 (fun H locs hW => ?_)
  clear hat1 z1 o1
  refine W.widen (k := 31) (n := 303600) (Nat.le_of_ble_eq_true rfl) (Nat.le_of_ble_eq_true rfl) ?_
  refine lv_aload_n hx hb dX12_init_283 rfl (lv_at hl 0 rfl) ?_
  refine lv_sipush (v := 20000) hx hb dX12_init_284 (by decide) ?_
  refine d_newI0 (D := D) (cl := vwCl) hx hb (hts _ (List.mem_cons_of_mem _ u_96)) (cm_nmI hK) (by decide) (by decide) (Nat.le_of_ble_eq_true rfl) (Nat.le_of_ble_eq_true rfl) dX12_init_287 (fun H1 hat1 z1 o1 => ?_)
  refine cm_end (j := 31) hx hb hts hown hnm hK hh hW hat1 z1 o1 40 (by decide) u_882 rfl (tyX12_ok 40 (by decide)) rfl rfl (Nat.le_of_ble_eq_true rfl) rfl dX12_init_289 (fun H locs hW => ?_)
  clear hat1 z1 o1
  refine W.widen (k := 32) (n := 323600) (Nat.le_of_ble_eq_true rfl) (Nat.le_of_ble_eq_true rfl) ?_
  refine lv_aload_n hx hb dX12_init_292 rfl (lv_at hl 0 rfl) ?_
  refine lv_sipush (v := 20000) hx hb dX12_init_293 (by decide) ?_
  refine d_newZ0 (D := D) (cl := vwCl) hx hb (hts _ (List.mem_cons_of_mem _ u_999)) (cm_nmZ hK) (by decide) (by decide) (Nat.le_of_ble_eq_true rfl) (Nat.le_of_ble_eq_true rfl) dX12_init_296 (fun H1 hat1 z1 o1 => ?_)
  refine cm_end (j := 32) hx hb hts hown hnm hK hh hW hat1 z1 o1 41 (by decide) u_883 rfl (tyX12_ok 41 (by decide)) rfl rfl (Nat.le_of_ble_eq_true rfl) rfl dX12_init_298 (fun H locs hW => ?_)
  clear hat1 z1 o1
  refine W.widen (k := 33) (n := 343600) (Nat.le_of_ble_eq_true rfl) (Nat.le_of_ble_eq_true rfl) ?_
  refine lv_aload_n hx hb dX12_init_301 rfl (lv_at hl 0 rfl) ?_
  refine lv_sipush (v := 3000) hx hb dX12_init_302 (by decide) ?_
  refine d_newI0 (D := D) (cl := vwCl) hx hb (hts _ (List.mem_cons_of_mem _ u_96)) (cm_nmI hK) (by decide) (by decide) (Nat.le_of_ble_eq_true rfl) (Nat.le_of_ble_eq_true rfl) dX12_init_305 (fun H1 hat1 z1 o1 => ?_)
  refine cm_end (j := 33) hx hb hts hown hnm hK hh hW hat1 z1 o1 43 (by decide) u_885 rfl (tyX12_ok 43 (by decide)) rfl rfl (Nat.le_of_ble_eq_true rfl) rfl dX12_init_307 (fun H locs hW => ?_)
  clear hat1 z1 o1
  refine W.widen (k := 34) (n := 346600) (Nat.le_of_ble_eq_true rfl) (Nat.le_of_ble_eq_true rfl) ?_
  refine lv_aload_n hx hb dX12_init_310 rfl (lv_at hl 0 rfl) ?_
  refine lv_sipush (v := 3000) hx hb dX12_init_311 (by decide) ?_
  refine d_newI0 (D := D) (cl := vwCl) hx hb (hts _ (List.mem_cons_of_mem _ u_96)) (cm_nmI hK) (by decide) (by decide) (Nat.le_of_ble_eq_true rfl) (Nat.le_of_ble_eq_true rfl) dX12_init_314 (fun H1 hat1 z1 o1 => ?_)
  refine cm_end (j := 34) hx hb hts hown hnm hK hh hW hat1 z1 o1 44 (by decide) u_886 rfl (tyX12_ok 44 (by decide)) rfl rfl (Nat.le_of_ble_eq_true rfl) rfl dX12_init_316 (fun H locs hW => ?_)
  clear hat1 z1 o1
  refine W.widen (k := 35) (n := 349600) (Nat.le_of_ble_eq_true rfl) (Nat.le_of_ble_eq_true rfl) ?_
  refine lv_aload_n hx hb dX12_init_319 rfl (lv_at hl 0 rfl) ?_
  refine lv_sipush (v := 3000) hx hb dX12_init_320 (by decide) ?_
  refine d_newI0 (D := D) (cl := vwCl) hx hb (hts _ (List.mem_cons_of_mem _ u_96)) (cm_nmI hK) (by decide) (by decide) (Nat.le_of_ble_eq_true rfl) (Nat.le_of_ble_eq_true rfl) dX12_init_323 (fun H1 hat1 z1 o1 => ?_)
  refine cm_end (j := 35) hx hb hts hown hnm hK hh hW hat1 z1 o1 45 (by decide) u_887 rfl (tyX12_ok 45 (by decide)) rfl rfl (Nat.le_of_ble_eq_true rfl) rfl dX12_init_325 (fun H locs hW => ?_)
  clear hat1 z1 o1
  refine W.widen (k := 36) (n := 352600) (Nat.le_of_ble_eq_true rfl) (Nat.le_of_ble_eq_true rfl) ?_
  refine lv_aload_n hx hb dX12_init_328 rfl (lv_at hl 0 rfl) ?_
  refine lv_sipush (v := 3000) hx hb dX12_init_329 (by decide) ?_
  refine d_newI0 (D := D) (cl := vwCl) hx hb (hts _ (List.mem_cons_of_mem _ u_96)) (cm_nmI hK) (by decide) (by decide) (Nat.le_of_ble_eq_true rfl) (Nat.le_of_ble_eq_true rfl) dX12_init_332 (fun H1 hat1 z1 o1 => ?_)
  refine cm_end (j := 36) hx hb hts hown hnm hK hh hW hat1 z1 o1 46 (by decide) u_888 rfl (tyX12_ok 46 (by decide)) rfl rfl (Nat.le_of_ble_eq_true rfl) rfl dX12_init_334 (fun H locs hW => ?_)
  clear hat1 z1 o1
  refine W.widen (k := 37) (n := 355600) (Nat.le_of_ble_eq_true rfl) (Nat.le_of_ble_eq_true rfl) ?_
  refine lv_aload_n hx hb dX12_init_337 rfl (lv_at hl 0 rfl) ?_
  refine lv_sipush (v := 3000) hx hb dX12_init_338 (by decide) ?_
  refine d_newI0 (D := D) (cl := vwCl) hx hb (hts _ (List.mem_cons_of_mem _ u_96)) (cm_nmI hK) (by decide) (by decide) (Nat.le_of_ble_eq_true rfl) (Nat.le_of_ble_eq_true rfl) dX12_init_341 (fun H1 hat1 z1 o1 => ?_)
  refine cm_end (j := 37) hx hb hts hown hnm hK hh hW hat1 z1 o1 47 (by decide) u_889 rfl (tyX12_ok 47 (by decide)) rfl rfl (Nat.le_of_ble_eq_true rfl) rfl dX12_init_343 (fun H locs hW => ?_)
  clear hat1 z1 o1
  refine W.widen (k := 38) (n := 358600) (Nat.le_of_ble_eq_true rfl) (Nat.le_of_ble_eq_true rfl) ?_
  refine lv_aload_n hx hb dX12_init_346 rfl (lv_at hl 0 rfl) ?_
  refine lv_sipush (v := 3000) hx hb dX12_init_347 (by decide) ?_
  refine d_newI0 (D := D) (cl := vwCl) hx hb (hts _ (List.mem_cons_of_mem _ u_96)) (cm_nmI hK) (by decide) (by decide) (Nat.le_of_ble_eq_true rfl) (Nat.le_of_ble_eq_true rfl) dX12_init_350 (fun H1 hat1 z1 o1 => ?_)
  refine cm_end (j := 38) hx hb hts hown hnm hK hh hW hat1 z1 o1 48 (by decide) u_890 rfl (tyX12_ok 48 (by decide)) rfl rfl (Nat.le_of_ble_eq_true rfl) rfl dX12_init_352 (fun H locs hW => ?_)
  clear hat1 z1 o1
  refine W.widen (k := 39) (n := 361600) (Nat.le_of_ble_eq_true rfl) (Nat.le_of_ble_eq_true rfl) ?_
  refine lv_aload_n hx hb dX12_init_355 rfl (lv_at hl 0 rfl) ?_
  refine lv_sipush (v := 3000) hx hb dX12_init_356 (by decide) ?_
  refine d_newI0 (D := D) (cl := vwCl) hx hb (hts _ (List.mem_cons_of_mem _ u_96)) (cm_nmI hK) (by decide) (by decide) (Nat.le_of_ble_eq_true rfl) (Nat.le_of_ble_eq_true rfl) dX12_init_359 (fun H1 hat1 z1 o1 => ?_)
  refine cm_end (j := 39) hx hb hts hown hnm hK hh hW hat1 z1 o1 49 (by decide) u_891 rfl (tyX12_ok 49 (by decide)) rfl rfl (Nat.le_of_ble_eq_true rfl) rfl dX12_init_361 (fun H locs hW => ?_)
  clear hat1 z1 o1
  refine W.widen (k := 40) (n := 364600) (Nat.le_of_ble_eq_true rfl) (Nat.le_of_ble_eq_true rfl) ?_
  exact W.vret hx hb hr (fun t ht hWm => ⟨⟨0, rfl, trivial, by subst ht; exact ⟨hW.1, hW.2.1, hW.2.2.1⟩⟩, hW.2.2.2.F ht⟩) hW.2.2.2.2.2 dX12_init_364 hlocks
theorem cm_world {D : va_G} {h n0 : Nat} {cI cZ : ClassId} {H : Heap} (h0 : h + 1 = n0) (h1 : va_at D vwCl (h, .inr (12, cfs n0 40)) H) (h2 : ∀ i, i < 40 → va_at D vwCl (n0 + i, carr (cI, cZ, h, cad n0) i) H) : va_P D vwCl (mW (cI, cZ, h, cad n0) (fun _ _ => 0)) H ∧ va_D (fun q => h ≤ q ∧ q < n0 + 40) (mW (cI, cZ, h, cad n0) (fun _ _ => 0)) := by
  have hadr : ∀ (k : Nat) (q : Nat × va_E), (mW (cI, cZ, h, cad n0) (fun _ _ => 0))[k]? = some q → q.1 = h + k ∧ k < 41 := by
    intro k q hk
    have hlt : k < 41 := (List.getElem?_eq_some_iff.mp hk).1
    subst h0
    refine ⟨?_, hlt⟩
    have hk2 : ∀ k : Nat, k < 41 → ∀ q, (mW (cI, cZ, h, cad (h + 1)) (fun _ _ => 0))[k]? = some q → q.1 = h + k := by
      intro k hk q hq
      rcases (show k = 0 ∨ k = 1 ∨ k = 2 ∨ k = 3 ∨ k = 4 ∨ k = 5 ∨ k = 6 ∨ k = 7 ∨ k = 8 ∨ k = 9 ∨ k = 10 ∨ k = 11 ∨ k = 12 ∨ k = 13 ∨ k = 14 ∨ k = 15 ∨ k = 16 ∨ k = 17 ∨ k = 18 ∨ k = 19 ∨ k = 20 ∨ k = 21 ∨ k = 22 ∨ k = 23 ∨ k = 24 ∨ k = 25 ∨ k = 26 ∨ k = 27 ∨ k = 28 ∨ k = 29 ∨ k = 30 ∨ k = 31 ∨ k = 32 ∨ k = 33 ∨ k = 34 ∨ k = 35 ∨ k = 36 ∨ k = 37 ∨ k = 38 ∨ k = 39 ∨ k = 40 by omega) with rfl | rfl | rfl | rfl | rfl | rfl | rfl | rfl | rfl | rfl | rfl | rfl | rfl | rfl | rfl | rfl | rfl | rfl | rfl | rfl | rfl | rfl | rfl | rfl | rfl | rfl | rfl | rfl | rfl | rfl | rfl | rfl | rfl | rfl | rfl | rfl | rfl | rfl | rfl | rfl | rfl <;> (cases hq; first | rfl | (show h + 1 + _ = h + _; omega))
    exact hk2 k hlt q hk
  refine ⟨fun k q hk => ?_, fun i j p q hi hj e9 => ?_, fun k q hk => ?_⟩
  · obtain ⟨ha, hlt⟩ := hadr k q hk
    match k, hk with
    | 0, hk => cases hk; exact h1
    | k + 1, hk =>
      have h3 := h2 k (by omega)
      have hc : ∀ k : Nat, k < 40 → ∀ q, (mW (cI, cZ, h, cad n0) (fun _ _ => 0))[k + 1]? = some q → q.2 = carr (cI, cZ, h, cad n0) k := by
        intro k hk q hq
        rcases (show k = 0 ∨ k = 1 ∨ k = 2 ∨ k = 3 ∨ k = 4 ∨ k = 5 ∨ k = 6 ∨ k = 7 ∨ k = 8 ∨ k = 9 ∨ k = 10 ∨ k = 11 ∨ k = 12 ∨ k = 13 ∨ k = 14 ∨ k = 15 ∨ k = 16 ∨ k = 17 ∨ k = 18 ∨ k = 19 ∨ k = 20 ∨ k = 21 ∨ k = 22 ∨ k = 23 ∨ k = 24 ∨ k = 25 ∨ k = 26 ∨ k = 27 ∨ k = 28 ∨ k = 29 ∨ k = 30 ∨ k = 31 ∨ k = 32 ∨ k = 33 ∨ k = 34 ∨ k = 35 ∨ k = 36 ∨ k = 37 ∨ k = 38 ∨ k = 39 by omega) with rfl | rfl | rfl | rfl | rfl | rfl | rfl | rfl | rfl | rfl | rfl | rfl | rfl | rfl | rfl | rfl | rfl | rfl | rfl | rfl | rfl | rfl | rfl | rfl | rfl | rfl | rfl | rfl | rfl | rfl | rfl | rfl | rfl | rfl | rfl | rfl | rfl | rfl | rfl | rfl <;> (cases hq; rfl)
      have e2 := hc k (by omega) q hk
      have e3 : q = (n0 + k, carr (cI, cZ, h, cad n0) k) := Prod.ext (by rw [ha]; show h + (k + 1) = n0 + k; omega) e2
      rw [e3]; exact h3
  · have a1 := hadr i p hi
    have a2 := hadr j q hj
    omega
  · have a1 := hadr k q hk
    show h ≤ q.1 ∧ q.1 < n0 + 40
    omega
