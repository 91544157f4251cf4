/-! CASTS, THE JDK'S NATIVES, STATICS, OVERRIDDEN METHODS -/
/-- none, or an OBJECT: as a number that is 1 -/
def okTb (S : DS) (x : Option Nat) : Bool := match x with
  | none => true
  | some b => decide (dK S b = 7 ∨ dK S b = 10 ∨ dK S b = 11)
abbrev okT (S : DS) (x : Option Nat) : Prop := okTb S x = true
theorem okT_some {S : DS} {b : Nat} (h : okT S (some b)) : dK S b = 7 ∨ dK S b = 10 ∨ dK S b = 11 := of_decide_eq_true h
def dinst (S : DS) (k : Nat) (x : Option Nat) : Int32 := match x with
  | none => 0
  | some b => if dK S b = k then 1 else 0
section DJ
variable {p : Program} {l : Launch} {e : Env} {R : Room} {s : State} {m : MethodId} {args : Array Value} {below : List Frame} {meth : Method} {c : Code} {H : Heap} {locs : List Loc} {cells slots : Nat} {Q : State → Prop}
variable {cc : ByteArray} {pc : Nat} {ls : Array Slot} {rest : List Value} {D : va_G} {A : Nat → Prop} {G : DG} {S : DS} {w0 : Cond} {nL a : Nat} {ret : Option FieldType} {own nm : String}
variable {y : MethodName} {cy : ByteArray} {nY idx n f L C1 Z1 C2 Z2 : Nat} {rY : Option FieldType} {As st : List Value} {Qc : Array Value → State → Outcome → State → Prop}
theorem d_cast (B : dB p l s m args meth c D A G own nm cc nL ret w0) {C tg : String} (hr : ∃ cell : Cell, H[a]? = some cell ∧ cell.vm.isStatics = false ∧ s.vm.findClass C = some cell.cls) (hk : Cond.classLink own idx tg ∈ Tw) (hc : Cond.castable C tg ∈ dNW) (hdg : decode cc pc = .ok (.checkcast idx, 3))
    (kk : W p l e R s m args below meth c H locs cells slots Q (F0 m (pc + 3) ls (.ref a :: rest))) : W p l e R s m args below meth c H locs cells slots Q (F0 m pc ls (.ref a :: rest)) := by
  obtain ⟨hx, hb, -, -, hown, hts, -, hV, -⟩ := B
  exact va_castY hx hb hown (hts _ (List.mem_cons_of_mem _ hk)) (hV.2.2.1 _ hc) hr hdg kk
/-- instanceof of a Thing -/
theorem d_instP (B : dB p l s m args meth c D A G own nm cc nL ret w0) (hW : dOK D A G S s.heap H locs) {x : Option Nat} (hx1 : okT S x) (hk : Cond.classLink own idx "PromiseDesk$Promise" ∈ Tw) (hdg : decode cc pc = .ok (.instanceof idx, 3))
    (kk : W p l e R s m args below meth c H locs cells slots Q (F0 m (pc + 3) ls (.int (dinst S 7 x) :: rest))) : W p l e R s m args below meth c H locs cells slots Q (F0 m pc ls (va_rf x :: rest)) := by
  have B0 := B
  obtain ⟨hx, hb, -, -, hown, hts, -, hV, -⟩ := B
  cases x with
  | none => exact lv_instN hx hb hdg kk
  | some b =>
    have hkk : ∀ v : Int32, v = dinst S 7 (some b) → W p l e R s m args below meth c H locs cells slots Q (F0 m (pc + 3) ls (.int v :: rest)) := fun v ev => by rw [ev]; exact kk
    rcases okT_some hx1 with h | h | h
    · exact va_instY hx hb hown (hts _ (List.mem_cons_of_mem _ hk)) (hV.2.2.1 (.castable "PromiseDesk$Promise" "PromiseDesk$Promise") (by decide +kernel)) (d_recv B0 hW (ci := 6) rfl (dF_6 h) (by rw [h]; decide)) hdg (hkk 1 (if_pos h).symm)
    · exact va_instNo hx hb hown (hts _ (List.mem_cons_of_mem _ hk)) (hV.2.2.2.1 ("PromiseDesk$Thenable", "PromiseDesk$Promise") (by decide +kernel)) (d_recv B0 hW (ci := 9) rfl (dF_9 h) (by rw [h]; decide)) hdg (hkk 0 (if_neg (by rw [h]; decide)).symm)
    · exact va_instNo hx hb hown (hts _ (List.mem_cons_of_mem _ hk)) (hV.2.2.2.1 ("PromiseDesk$Thing", "PromiseDesk$Promise") (by decide +kernel)) (d_recv B0 hW (ci := 10) rfl (dF_10 h) (by rw [h]; decide)) hdg (hkk 0 (if_neg (by rw [h]; decide)).symm)
theorem d_instT (B : dB p l s m args meth c D A G own nm cc nL ret w0) (hW : dOK D A G S s.heap H locs) {x : Option Nat} (hx1 : okT S x) (hk : Cond.classLink own idx "PromiseDesk$Thenable" ∈ Tw) (hdg : decode cc pc = .ok (.instanceof idx, 3))
    (kk : W p l e R s m args below meth c H locs cells slots Q (F0 m (pc + 3) ls (.int (dinst S 10 x) :: rest))) : W p l e R s m args below meth c H locs cells slots Q (F0 m pc ls (va_rf x :: rest)) := by
  have B0 := B
  obtain ⟨hx, hb, -, -, hown, hts, -, hV, -⟩ := B
  cases x with
  | none => exact lv_instN hx hb hdg kk
  | some b =>
    have hkk : ∀ v : Int32, v = dinst S 10 (some b) → W p l e R s m args below meth c H locs cells slots Q (F0 m (pc + 3) ls (.int v :: rest)) := fun v ev => by rw [ev]; exact kk
    rcases okT_some hx1 with h | h | h
    · exact va_instNo hx hb hown (hts _ (List.mem_cons_of_mem _ hk)) (hV.2.2.2.1 ("PromiseDesk$Promise", "PromiseDesk$Thenable") (by decide +kernel)) (d_recv B0 hW (ci := 6) rfl (dF_6 h) (by rw [h]; decide)) hdg (hkk 0 (if_neg (by rw [h]; decide)).symm)
    · exact va_instY hx hb hown (hts _ (List.mem_cons_of_mem _ hk)) (hV.2.2.1 (.castable "PromiseDesk$Thenable" "PromiseDesk$Thenable") (by decide +kernel)) (d_recv B0 hW (ci := 9) rfl (dF_9 h) (by rw [h]; decide)) hdg (hkk 1 (if_pos h).symm)
    · exact va_instNo hx hb hown (hts _ (List.mem_cons_of_mem _ hk)) (hV.2.2.2.1 ("PromiseDesk$Thing", "PromiseDesk$Thenable") (by decide +kernel)) (d_recv B0 hW (ci := 10) rfl (dF_10 h) (by rw [h]; decide)) hdg (hkk 0 (if_neg (by rw [h]; decide)).symm)
theorem d_aast1 (B : dB p l s m args meth c D A G own nm cc nL ret w0) (hW : dOK D A G S s.heap H locs) (h : dK S a = 21) {v ci : Nat} {r : vw_C} {vs : List Value} (h0 : dK S v ≠ 0) (hF : dF G S v = .inr (ci, vs)) (hc : vwCl[ci]? = some r) (hca : Cond.castable r.1 "java/lang/Object" ∈ dNW) {i : Int32} (hin : inb i (dL S a)) (hdg : decode cc pc = .ok (.aastore, 1))
    (kk : ∀ (H1 : Heap) (locs1 : List Loc) (S1 : DS), S1 = sY S a (va_up (dY S a) i.toNatClampNeg (some v)) → dOK D A G S1 s.heap H1 locs1 → W p l e R s m args below meth c H1 locs1 cells slots Q (F0 m (pc + 1) ls rest)) : W p l e R s m args below meth c H locs cells slots Q (F0 m pc ls (.ref v :: .int i :: .ref a :: rest)) := by
  obtain ⟨hx, hb, -, -, hown, hts, -, hV, -⟩ := B
  have h00 : dK S a ≠ 0 := by rw [h]; decide
  have hne : a ≠ G.2.2 := dH_neE hW.1 (by have := hin.1; have := hin.2; omega)
  have hat := dH_at21 hW.1 h hne
  have hav := dH_atR hW.1 hF h0
  have hA : A a := hW.1.2.2.1 a h00 hne
  refine d_aast0 hx hb hV.1 1 ci hat rfl (hV.2.2.1 _ hca) hav hc hin hdg (fun H1 j hat1 z oq => ?_)
  have hF1 : dF G (sY S a (va_up (dY S a) i.toNatClampNeg (some v))) a = .inl (G.2.1, dL S a, .inr (.inr (.inr (.inr (va_up (dY S a) i.toNatClampNeg (some v)))))) := by
    rw [dF_21 (S := sY S a _) h]
    have e9 : dY (sY S a (va_up (dY S a) i.toNatClampNeg (some v))) a = va_up (dY S a) i.toNatClampNeg (some v) := va_up_self _ _ _
    rw [e9]; rfl
  exact kk H1 _ _ rfl ⟨dH_set hW.1 z oq (by rw [hF1]; exact hat1) rfl rfl rfl (fun b hb => dF_sY hb), hW.2.put z oq hA⟩
/-- what an ArrayList here may hold -/
abbrev okE (S : DS) (v : Nat) : Prop := dK S v = 7 ∨ dK S v = 9 ∨ dK S v = 10 ∨ dK S v = 11
theorem d_aast (B : dB p l s m args meth c D A G own nm cc nL ret w0) (hW : dOK D A G S s.heap H locs) (h : dK S a = 21) {v : Nat} (hv : okE S v) {i : Int32} (hin : inb i (dL S a)) (hdg : decode cc pc = .ok (.aastore, 1))
    (kk : ∀ (H1 : Heap) (locs1 : List Loc) (S1 : DS), S1 = sY S a (va_up (dY S a) i.toNatClampNeg (some v)) → dOK D A G S1 s.heap H1 locs1 → W p l e R s m args below meth c H1 locs1 cells slots Q (F0 m (pc + 1) ls rest)) : W p l e R s m args below meth c H locs cells slots Q (F0 m pc ls (.ref v :: .int i :: .ref a :: rest)) := by
  rcases hv with e1 | e1 | e1 | e1
  · exact d_aast1 B hW h (by rw [e1]; decide) (dF_6 e1) rfl (by decide +kernel) hin hdg kk
  · exact d_aast1 B hW h (by rw [e1]; decide) (dF_8 e1) rfl (by decide +kernel) hin hdg kk
  · exact d_aast1 B hW h (by rw [e1]; decide) (dF_9 e1) rfl (by decide +kernel) hin hdg kk
  · exact d_aast1 B hW h (by rw [e1]; decide) (dF_10 e1) rfl (by decide +kernel) hin hdg kk
theorem d_gets (B : dB p l s m args meth c D A G "java/util/ArrayList" nm cc nL ret w0) (hW : dOK D A G S s.heap H locs) (hdg : decode cc pc = .ok (.getstatic 39, 3))
    (kk : W p l e R s m args below meth c H locs cells slots Q (F0 m (pc + 3) ls (.ref G.2.2 :: rest))) : W p l e R s m args below meth c H locs cells slots Q (F0 m pc ls rest) := by
  obtain ⟨hx, hb, -, -, hown, hts, -, hV, hZ, -⟩ := B
  exact va_gets hx hb hZ.1 hW.2 hown (hts _ (List.mem_cons_of_mem _ u_48)) (fun _ h => h) hdg kk
theorem nn_c {z : Int32} (h : 0 ≤ z.toInt) : z.toInt = (z.toNatClampNeg : Int) := by
  show z.toInt = ((z.toInt.toNat : Nat) : Int)
  omega
theorem d_copyI (B : dB p l s m args meth c D A G "java/util/Arrays" nm cc nL ret w0) (hl : ls.size = nL) (hW : dOK D A G S s.heap H locs) {a0 : Nat} (h0 : dK S a0 = 20) (h1 : dK S a = 20) {k : Int32} (hk : 0 ≤ k.toInt ∧ k.toInt ≤ dL S a0 ∧ k.toInt ≤ dL S a) (hR : 1 ≤ R.frames ∧ (rest.map fun v => v.category).sum + (nativeFrameWords "java/lang/System" "arraycopy" 5 + 11) ≤ R.locals) {hi : Nat} (hlink : Cond.methodLink "java/util/Arrays" hi arraycopyName ∈ Tw) (hnat : Cond.native arraycopyName ∈ Tw) (hstat : Cond.static arraycopyName ∈ Tw) (hini : Cond.initialized "java/lang/System" ∈ Tw) (hdg : decode cc pc = .ok (.invokestatic hi, 3))
    (kk : ∀ (H1 : Heap) (locs1 : List Loc) (S1 : DS), S1 = sX S a (va_cpy (dX S a0) (dX S a) 0 0 k.toNatClampNeg) → dOK D A G S1 s.heap H1 locs1 → W p l e R s m args below meth c H1 locs1 cells slots Q (F0 m (pc + 3) ls rest)) : W p l e R s m args below meth c H locs cells slots Q (F0 m pc ls (.int k :: .int 0 :: .ref a :: .int 0 :: .ref a0 :: rest)) := by
  obtain ⟨hx, hb, -, hml, hown, hts, -, hV, -⟩ := B
  have hc0 := dH_at20 hW.1 h0
  have h10 : dK S a ≠ 0 := by rw [h1]; decide
  have hc1 := dH_at20 hW.1 h1
  have hA : A a := hW.1.2.2.1 a h10 (fun e9 => by rw [e9, hW.1.2.2.2.1] at h1; cases h1)
  have hc0 : H[a0]? = some (vp_cell G.1 (dL S a0, .inl (dX S a0))) := hc0
  have hc1 : H[a]? = some (vp_cell G.1 (dL S a, .inl (dX S a))) := hc1
  have hz : ((0 : Int32)).toInt = 0 := by decide
  have hz2 : (0 : Int32).toNatClampNeg = 0 := by decide
  have hkn : ¬ k < 0 := fun q => by
    have := Int32.lt_iff_toInt_lt.mp q
    omega
  have hkc := nn_c hk.1
  intro T hT X
  obtain ⟨-, k0, hk0, cm0, hkk0⟩ := (hV.1.2 0 (G.1, .int) rfl).1 (dL S a0) (fun j => .int (dX S a0 j))
  obtain ⟨-, k1, hk1, cm1, hkk1⟩ := (hV.1.2 0 (G.1, .int) rfl).1 (dL S a) (fun j => .int (dX S a j))
  obtain ⟨vm', X', step⟩ := X.arraycopy hx hown (hts _ (List.mem_cons_of_mem _ hlink)) (hts _ (List.mem_cons_of_mem _ hnat)) (hts _ (List.mem_cons_of_mem _ hstat)) (hts _ (List.mem_cons_of_mem _ hini)) (src := a0) (dst := a) (cs := vp_cell G.1 (dL S a0, .inl (dX S a0))) (cd := vp_cell G.1 (dL S a, .inl (dX S a))) (srcPos := 0) (destPos := 0) (n := k) (by rw [hT]; exact hc0) (by rw [hT]; exact hc1)
    (fun _ h => by cases h) (fun _ h => by cases h) (fun h => by cases h) (fun h => by cases h) hk0 hk1 hkk0 hkk1 (by simp [refKind]) (by decide) (by decide) hkn
    (by rw [hz]; show ¬ _ > ((arrV G.1 (dL S a0) (fun j => .int (dX S a0 j))).slots.size : Int); rw [arrV_size]; omega)
    (by rw [hz]; show ¬ _ > ((arrV G.1 (dL S a) (fun j => .int (dX S a j))).slots.size : Int); rw [arrV_size]; omega)
    (fun vm₁ _ i hi => by
      have e9 : (vp_cell G.1 (dL S a0, .inl (dX S a0))).slots.getD ((0 : Int32).toNatClampNeg + i) .null = .int (dX S a0 ((0 : Int32).toNatClampNeg + i)) := by
        show (arrV G.1 (dL S a0) (fun j => .int (dX S a0 j))).slots.getD _ _ = _
        rw [Array.getD_eq_getD_getElem?, arrV_read _ _ (by omega)]
        rfl
      refine ⟨?_, ?_⟩
      · rw [e9]; rfl
      · rw [e9]; exact trivial)
    (g := F0 m pc ls (.int k :: .int 0 :: .ref a :: .int 0 :: .ref a0 :: rest)) rfl (by rw [hml]; exact hl) (rest := rest) rfl (by rw [hb]; exact hdg) hR.1 (by show 2 * 0 + _ + _ ≤ _; omega)
  have e1 : copied (vp_cell G.1 (dL S a0, .inl (dX S a0))) (vp_cell G.1 (dL S a, .inl (dX S a))) 0 0 k = vp_cell G.1 (dL S a, .inl (va_cpy (dX S a0) (dX S a) (0 : Int32).toNatClampNeg (0 : Int32).toNatClampNeg k.toNatClampNeg)) := va_copied (fun z => .int z) G.1 G.1 (dX S a0) (dX S a) (by omega)
  rw [e1] at X' step
  rw [hz2] at X' step
  have hl2 : a < H.size := (Array.getElem?_eq_some_iff.mp hc1).1
  have hF1 : dF G (sX S a (va_cpy (dX S a0) (dX S a) 0 0 k.toNatClampNeg)) a = .inl (G.1, dL S a, .inl (va_cpy (dX S a0) (dX S a) 0 0 k.toNatClampNeg)) := by
    rw [dF_20 (S := sX S a _) h1]
    have e9 : dX (sX S a (va_cpy (dX S a0) (dX S a) 0 0 k.toNatClampNeg)) a = va_cpy (dX S a0) (dX S a) 0 0 k.toNatClampNeg := va_up_self _ _ _
    rw [e9]; rfl
  generalize hce : vp_cell G.1 (dL S a, .inl (va_cpy (dX S a0) (dX S a) 0 0 k.toNatClampNeg)) = ce at X' step
  have hheap : ((T.setVm vm').setCell a ce).heap = H.setIfInBounds a ce := by rw [← hT]; rfl
  have oq : ∀ q : Nat, q ≠ a → (H.setIfInBounds a ce)[q]? = H[q]? := fun q hq => by simp [Array.getElem?_setIfInBounds, Ne.symm hq]
  have hme : (H.setIfInBounds a ce)[a]? = some ce := by simp [Array.getElem?_setIfInBounds, hl2]
  have hsz : (H.setIfInBounds a ce).size = H.size := by simp
  obtain ⟨t, a1, b1⟩ := kk (H.setIfInBounds a ce) _ _ rfl ⟨dH_set hW.1 hsz oq (by rw [hF1]; show (H.setIfInBounds a ce)[a]? = some (vp_cell _ _); rw [hce]; exact hme) rfl rfl rfl (fun b hb => dF_sX hb), by rw [hsz]; exact hW.2.1, fun q g1 g2 => by
      rw [oq q (fun e9 => g2 (by rw [e9]; exact hA))]
      exact hW.2.2.1 q g1 g2, fun q hq => by
      rcases List.mem_append.mp hq with h | h
      · exact hW.2.2.2 q h
      · obtain ⟨z, -, hz⟩ := List.mem_map.mp h
        rw [← hz]
        exact hA⟩ _ hheap X'
  exact ⟨t, step t a1, b1⟩
end DJ
