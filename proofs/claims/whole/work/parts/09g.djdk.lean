section DK
variable {p : Program} {l : Launch} {e : Env} {R : Room} {s : State} {m : MethodId} {args : Array Value} {below : List Frame} {meth : Method} {c : Code} {H : Heap} {locs : List Loc} {cells slots : Nat} {Q : State → Prop}
variable {cc : ByteArray} {pc : Nat} {ls : Array Slot} {rest : List Value} {D : va_G} {A : Nat → Prop} {G : DG} {S : DS} {w0 : Cond} {nL a : Nat} {ret : Option FieldType} {own nm : String}
variable {y : MethodName} {cy : ByteArray} {nY idx n f L C1 Z1 C2 Z2 : Nat} {rY : Option FieldType} {As st : List Value} {Qc : Array Value → State → Outcome → State → Prop}
/-- the first k places of an array hold null or what a list may hold -/
abbrev okR (S : DS) (a k : Nat) : Prop := ∀ i, i < k → ∀ v, dY S a i = some v → okE S v
theorem d_elem (B : dB p l s m args meth c D A G own nm cc nL ret w0) (hW : dOK D A G S s.heap H locs) {v : Nat} (hv : okE S v) : ∃ C : String, (Cond.castable C "java/lang/Object") ∈ dNW ∧ ∃ cell : Cell, H[v]? = some cell ∧ cell.vm.isStatics = false ∧ s.vm.findClass C = some cell.cls := by
  rcases hv with e1 | e1 | e1 | e1
  · exact ⟨_, (by decide +kernel : Cond.castable RX6 "java/lang/Object" ∈ dNW), d_recv B hW (ci := 6) rfl (dF_6 e1) (by rw [e1]; decide)⟩
  · exact ⟨_, (by decide +kernel : Cond.castable RX8 "java/lang/Object" ∈ dNW), d_recv B hW (ci := 8) rfl (dF_8 e1) (by rw [e1]; decide)⟩
  · exact ⟨_, (by decide +kernel : Cond.castable RX9 "java/lang/Object" ∈ dNW), d_recv B hW (ci := 9) rfl (dF_9 e1) (by rw [e1]; decide)⟩
  · exact ⟨_, (by decide +kernel : Cond.castable RX10 "java/lang/Object" ∈ dNW), d_recv B hW (ci := 10) rfl (dF_10 e1) (by rw [e1]; decide)⟩
theorem d_copyO (B : dB p l s m args meth c D A G "java/util/Arrays" nm cc nL ret w0) (hl : ls.size = nL) (hW : dOK D A G S s.heap H locs) {a0 : Nat} (h0 : dK S a0 = 21) (h1 : dK S a = 21) (hne : 0 < dL S a) (hne0 : 0 < dL S a0) {k : Int32} (hk : 0 ≤ k.toInt ∧ k.toInt ≤ dL S a0 ∧ k.toInt ≤ dL S a) (hel : okR S a0 k.toNatClampNeg) (hR : 1 ≤ R.frames ∧ (rest.map fun v => v.category).sum + (nativeFrameWords "java/lang/System" "arraycopy" 5 + 11) ≤ R.locals) {hi : Nat} (hlink : Cond.methodLink "java/util/Arrays" hi arraycopyName ∈ Tw) (hnat : Cond.native arraycopyName ∈ Tw) (hstat : Cond.static arraycopyName ∈ Tw) (hini : Cond.initialized "java/lang/System" ∈ Tw) (hdg : decode cc pc = .ok (.invokestatic hi, 3))
    (kk : ∀ (H1 : Heap) (locs1 : List Loc) (S1 : DS), S1 = sY S a (va_cpy (dY S a0) (dY S a) 0 0 k.toNatClampNeg) → dOK D A G S1 s.heap H1 locs1 → W p l e R s m args below meth c H1 locs1 cells slots Q (F0 m (pc + 3) ls rest)) : W p l e R s m args below meth c H locs cells slots Q (F0 m pc ls (.int k :: .int 0 :: .ref a :: .int 0 :: .ref a0 :: rest)) := by
  have B0 := B
  obtain ⟨hx, hb, -, hml, hown, hts, -, hV, -⟩ := B
  have hc0 := dH_at21 hW.1 h0 (dH_neE hW.1 hne0)
  have h10 : dK S a ≠ 0 := by rw [h1]; decide
  have hc1 := dH_at21 hW.1 h1 (dH_neE hW.1 hne)
  have hA : A a := hW.1.2.2.1 a h10 (dH_neE hW.1 hne)
  have hc0 : H[a0]? = some (vp_cell G.2.1 (dL S a0, .inr (.inr (.inr (.inr (dY S a0)))))) := hc0
  have hc1 : H[a]? = some (vp_cell G.2.1 (dL S a, .inr (.inr (.inr (.inr (dY S a)))))) := hc1
  have hz : ((0 : Int32)).toInt = 0 := by decide
  have hz2 : (0 : Int32).toNatClampNeg = 0 := by decide
  have hkn : ¬ k < 0 := fun q => by
    have := Int32.lt_iff_toInt_lt.mp q
    omega
  have hkc := nn_c hk.1
  intro T hT X
  obtain ⟨-, k0, hk0, cm0, hkk0⟩ := (hV.1.2 1 (G.2.1, .object "java/lang/Object") rfl).1 (dL S a0) (fun j => va_rf (dY S a0 j))
  obtain ⟨-, k1, hk1, cm1, hkk1⟩ := (hV.1.2 1 (G.2.1, .object "java/lang/Object") rfl).1 (dL S a) (fun j => va_rf (dY S a j))
  obtain ⟨vm', X', step⟩ := X.arraycopy hx hown (hts _ (List.mem_cons_of_mem _ hlink)) (hts _ (List.mem_cons_of_mem _ hnat)) (hts _ (List.mem_cons_of_mem _ hstat)) (hts _ (List.mem_cons_of_mem _ hini)) (src := a0) (dst := a) (cs := vp_cell G.2.1 (dL S a0, .inr (.inr (.inr (.inr (dY S a0)))))) (cd := vp_cell G.2.1 (dL S a, .inr (.inr (.inr (.inr (dY S a)))))) (srcPos := 0) (destPos := 0) (n := k) (by rw [hT]; exact hc0) (by rw [hT]; exact hc1)
    (fun _ h => by cases h) (fun _ h => by cases h) (fun h => by cases h) (fun h => by cases h) hk0 hk1 hkk0 hkk1 (by simp [refKind]) (by decide) (by decide) hkn
    (by rw [hz]; show ¬ _ > ((arrV G.2.1 (dL S a0) (fun j => va_rf (dY S a0 j))).slots.size : Int); rw [arrV_size]; omega)
    (by rw [hz]; show ¬ _ > ((arrV G.2.1 (dL S a) (fun j => va_rf (dY S a j))).slots.size : Int); rw [arrV_size]; omega)
    (fun vm₁ hal i hi => by
      have e9 : (vp_cell G.2.1 (dL S a0, .inr (.inr (.inr (.inr (dY S a0)))))).slots.getD ((0 : Int32).toNatClampNeg + i) .null = va_rf (dY S a0 i) := by
        show (arrV G.2.1 (dL S a0) (fun j => va_rf (dY S a0 j))).slots.getD _ _ = _
        rw [Array.getD_eq_getD_getElem?, arrV_read _ _ (by omega), hz2, Nat.zero_add]
        rfl
      rw [e9]
      cases hy : dY S a0 i with
      | none => exact ⟨rfl, trivial⟩
      | some y =>
        obtain ⟨C, hcc, cellV, g1, g2, g3⟩ := d_elem B0 hW (hel i hi y hy)
        obtain ⟨kA, comp, r1, r2, r3, -⟩ := (hV.1.2 1 (G.2.1, .object "java/lang/Object") rfl).2
        cases hk1.symm.trans r1
        cases hkk1.symm.trans r2
        obtain ⟨c0', t1', f1, f2, f3⟩ := Cond.castable_spec (va_Nw.use (A := args) rfl (hV.2.2.1 _ hcc))
        cases f1.symm.trans g3
        cases f2.symm.trans r3
        obtain ⟨kC, hkC, -⟩ := Vm.findClass_spec g3
        obtain ⟨kE, hkE, -⟩ := Vm.findClass_spec r3
        obtain ⟨kC', hkC', -⟩ := hal.2.2 _ _ hkC
        obtain ⟨kE', hkE', -⟩ := hal.2.2 _ _ hkE
        refine ⟨rfl, cellV, (show T.heap[y]? = some cellV by rw [hT]; exact g1), (fun q h => by rw [h] at g2; cases g2), ⟨kC', hkC'⟩, ⟨kE', hkE'⟩, ?_⟩
        show vm₁.assignable _ _ = true
        rw [hal.assignable]
        exact f3)
    (g := F0 m pc ls (.int k :: .int 0 :: .ref a :: .int 0 :: .ref a0 :: rest)) rfl (by rw [hml]; exact hl) (rest := rest) rfl (by rw [hb]; exact hdg) hR.1 (by show 2 * 0 + _ + _ ≤ _; omega)
  have e1 : copied (vp_cell G.2.1 (dL S a0, .inr (.inr (.inr (.inr (dY S a0)))))) (vp_cell G.2.1 (dL S a, .inr (.inr (.inr (.inr (dY S a)))))) 0 0 k = vp_cell G.2.1 (dL S a, .inr (.inr (.inr (.inr (va_cpy (dY S a0) (dY S a) (0 : Int32).toNatClampNeg (0 : Int32).toNatClampNeg k.toNatClampNeg))))) := va_copied va_rf G.2.1 G.2.1 (dY S a0) (dY S a) (by omega)
  rw [e1] at X' step
  rw [hz2] at X' step
  have hl2 : a < H.size := (Array.getElem?_eq_some_iff.mp hc1).1
  have hF1 : dF G (sY S a (va_cpy (dY S a0) (dY S a) 0 0 k.toNatClampNeg)) a = .inl (G.2.1, dL S a, .inr (.inr (.inr (.inr (va_cpy (dY S a0) (dY S a) 0 0 k.toNatClampNeg))))) := by
    rw [dF_21 (S := sY S a _) h1]
    have e9 : dY (sY S a (va_cpy (dY S a0) (dY S a) 0 0 k.toNatClampNeg)) a = va_cpy (dY S a0) (dY S a) 0 0 k.toNatClampNeg := va_up_self _ _ _
    rw [e9]; rfl
  generalize hce : vp_cell G.2.1 (dL S a, .inr (.inr (.inr (.inr (va_cpy (dY S a0) (dY S a) 0 0 k.toNatClampNeg))))) = ce at X' step
  have hheap : ((T.setVm vm').setCell a ce).heap = H.setIfInBounds a ce := by rw [← hT]; rfl
  have oq : ∀ q : Nat, q ≠ a → (H.setIfInBounds a ce)[q]? = H[q]? := fun q hq => by simp [Array.getElem?_setIfInBounds, Ne.symm hq]
  have hme : (H.setIfInBounds a ce)[a]? = some ce := by simp [Array.getElem?_setIfInBounds, hl2]
  have hsz : (H.setIfInBounds a ce).size = H.size := by simp
  obtain ⟨t, a1, b1⟩ := kk (H.setIfInBounds a ce) _ _ rfl ⟨dH_set hW.1 hsz oq (by rw [hF1]; show (H.setIfInBounds a ce)[a]? = some (vp_cell _ _); rw [hce]; exact hme) rfl rfl rfl (fun b hb => dF_sY hb), by rw [hsz]; exact hW.2.1, fun q g1 g2 => by
      rw [oq q (fun e9 => g2 (by rw [e9]; exact hA))]
      exact hW.2.2.1 q g1 g2, fun q hq => by
      rcases List.mem_append.mp hq with h | h
      · exact hW.2.2.2 q h
      · obtain ⟨z, -, hz⟩ := List.mem_map.mp h
        rw [← hz]
        exact hA⟩ _ hheap X'
  exact ⟨t, step t a1, b1⟩
theorem d_clone (B : dB p l s m args meth c D A G "java/util/Arrays" nm cc nL ret w0) (hl : ls.size = nL) (hW : dOK D A G S s.heap H locs) (h0 : dK S a = 20) (hlink : Cond.methodLink "java/util/Arrays" 316 ⟨"[I", "clone", "()Ljava/lang/Object;"⟩ ∈ Tw) (hsame : Cond.sameMethod "[I" "java/lang/Object" "clone" "()Ljava/lang/Object;" ∈ Tw) (hnat : Cond.native ⟨"java/lang/Object", "clone", "()Ljava/lang/Object;"⟩ ∈ Tw) (hinst : Cond.instanceMethod ⟨"java/lang/Object", "clone", "()Ljava/lang/Object;"⟩ ∈ Tw) (hsel : Cond.selects "[I" ⟨"[I", "clone", "()Ljava/lang/Object;"⟩ ⟨"java/lang/Object", "clone", "()Ljava/lang/Object;"⟩ ∈ Tw) (hcl : Cond.castable "[I" "java/lang/Cloneable" ∈ dNW) (hnm : s.vm.findClass "[I" = some G.1) (hR : 1 ≤ R.frames ∧ (rest.map fun v => v.category).sum + 14 ≤ R.locals) (hT0 : cells + (1 + C1) = R.cells ∧ slots + (dL S a + Z1) = R.slots) (hdg : decode cc pc = .ok (.invokevirtual 316, 3))
    (kk : ∀ (H1 : Heap) (cells1 slots1 q : Nat) (S1 : DS), q = dn S → S1 = sAI S (dL S a) (dX S a) → dOK D A G S1 s.heap H1 locs → cells1 + C1 = R.cells ∧ slots1 + Z1 = R.slots → W p l e R s m args below meth c H1 locs cells1 slots1 Q (F0 m (pc + 3) ls (.ref q :: rest))) : W p l e R s m args below meth c H locs cells slots Q (F0 m pc ls (.ref a :: rest)) := by
  obtain ⟨hx, hb, -, hml, hown, hts, -, hV, hZ, -⟩ := B
  have hc0 := dH_at20 hW.1 h0
  have hc0 : H[a]? = some (vp_cell G.1 (dL S a, .inl (dX S a))) := hc0
  have hsz : (vp_cell G.1 (dL S a, .inl (dX S a))).slots.size = dL S a := arrV_size _ _ _
  have hn0 := hW.1.1
  obtain ⟨c0, t0', f1, f2, f3⟩ := Cond.castable_spec (va_Nw.use (A := args) rfl (hV.2.2.1 _ hcl))
  cases hnm.symm.trans f1
  intro T hT X
  have hcellT : T.heap[a]? = some (vp_cell G.1 (dL S a, .inl (dX S a))) := by rw [hT]; exact hc0
  obtain ⟨-, kA, hkA, comp, hkind⟩ := State.isArrayOf_alike X.warmed.alike ((hV.1.2 0 (G.1, .int) rfl).1 0 (fun _ => .null))
  obtain ⟨-, kS, hkS, compS, hkindS⟩ := (hV.1.2 0 (G.1, .int) rfl).1 0 (fun _ => .null)
  obtain ⟨vm', X', st⟩ := X.cloneArray hx hown (hts _ (List.mem_cons_of_mem _ hlink)) (hts _ (List.mem_cons_of_mem _ hsame)) (hts _ (List.mem_cons_of_mem _ hnat)) (hts _ (List.mem_cons_of_mem _ hinst)) (hts _ (List.mem_cons_of_mem _ hsel)) (a := a) (cell := vp_cell G.1 (dL S a, .inl (dX S a))) hcellT (fun k h => by cases h) (fun h => by cases h) hnm f2 f3
    (fun i v hv => by
      have hk' : T.vm.classes[G.1]? = some kA := hkA
      have hv2 : fits .int v = true := by
        have hv3 : (arrV G.1 (dL S a) (fun j => .int (dX S a j))).slots[i]? = some v := hv
        by_cases hi : i < dL S a
        · rw [arrV_read _ _ hi] at hv3
          cases hv3; rfl
        · have := (Array.getElem?_eq_some_iff.mp hv3).1
          rw [arrV_size] at this
          exact absurd this hi
      show T.fitsSlot G.1 _ _ _ = true
      simpa [State.fitsSlot, State.slotType?, hk', hkind] using hv2)
    (g := F0 m pc ls (.ref a :: rest)) rfl (by rw [hml]; exact hl) rfl (by rw [hb]; exact hdg) hR.1 (by show 2 * 0 + _ + 14 ≤ _; omega) (by omega) (by rw [hsz]; omega) (hloader := Vm.clonesLoader_of_array hkS hkindS)
  rw [hsz] at X'
  have hA : A H.size := hZ.2.2.2.1 _ hW.2.1
  generalize hH1 : H.push (vp_cell G.1 (dL S a, .inl (dX S a))) = H1
  have z1 : H1.size = H.size + 1 := by rw [← hH1, Array.size_push]
  have e1 : H1[H.size]? = some (vp_cell G.1 (dL S a, .inl (dX S a))) := by rw [← hH1, Array.getElem?_push_size]
  have o1 : ∀ q : Nat, q < H.size → H1[q]? = H[q]? := fun q hq => by rw [← hH1, Array.getElem?_push, if_neg (Nat.ne_of_lt hq)]
  have hF1 : dF G (sAI S (dL S a) (dX S a)) (dn S) = .inl (G.1, dL S a, .inl (dX S a)) := by
    rw [dF_20 (S := sAI S (dL S a) (dX S a)) (va_up_self _ _ _)]
    have e8 : dL (sAI S (dL S a) (dX S a)) (dn S) = dL S a := va_up_self _ _ _
    have e9 : dX (sAI S (dL S a) (dX S a)) (dn S) = dX S a := va_up_self _ _ _
    rw [e8, e9]
  have hat : va_at D vwCl (H.size, .inl (G.1, dL S a, .inl (dX S a))) H1 := e1
  obtain ⟨t, b1, b2⟩ := kk H1 (cells + 1) (slots + dL S a) _ _ hn0 rfl ⟨dH_new hW.1 z1 o1 (by rw [hn0, hF1]; rw [hn0] at hat; exact hat) hA rfl (fun b hb => va_up_ne _ _ hb) (fun b hb => va_up_ne _ _ hb) (fun b hb => dF_sAI hb), Nat.le_trans hW.2.1 (by omega), fun x h1 h2 => (o1 x (Nat.lt_of_lt_of_le h1 hW.2.1)).trans (hW.2.2.1 x h1 h2), hW.2.2.2⟩ (by omega) _ (by rw [← hH1, ← hT]; rfl) X'
  rw [hT] at st
  exact ⟨t, st t b1, b2⟩
end DK
