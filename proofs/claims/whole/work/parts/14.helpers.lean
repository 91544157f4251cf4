section LC0
variable {p : Program} {l : Launch} {e : Env} {R : Room} {s : State} {m : MethodId} {args : Array Value} {below : List Frame} {meth : Method} {c : Code} {H : Heap} {locs : List Loc} {cells slots : Nat} {Q : State → Prop} {pc : Nat} {ls : Array Slot} {rest : List Value}
theorem vx_catch {own name : String} {E : String} {ce : Cell} {q : Addr} (hown : s.vm.findClass own = some m.cls) (pre : List ExceptionTableEntry) (x : ExceptionTableEntry) (suf : List ExceptionTableEntry) (hsplit : c.exceptionTable.toList = pre ++ x :: suf)
    (hpass : ∀ z ∈ pre, covers z pc = false ∨ (z.catchType ≠ 0 ∧ ∃ nm : String, (Cond.classLink own z.catchType nm).before args s = true ∧ va_Nc E nm s)) (hx : covers x pc = true) (h0 : x.catchType ≠ 0)
    (hlink : (Cond.classLink own x.catchType name).before args s = true) (hcast : (Cond.castable E name).before args s = true) (hcell : H[q]? = some ce) (hv : ce.vm = .none) (hcl : s.vm.findClass E = some ce.cls)
    (kk : W p l e R s m args below meth c H locs cells slots Q (F0 m x.handlerPc ls [.ref q])) : vx_W p l e R s m args below meth c H locs cells slots Q (F0 m pc ls rest) q := by
  intro T hT X
  have hpl : e.platform.magicAccessors = ({} : Platform).magicAccessors := by rw [X.admits.platform]
  obtain ⟨c3, c4, hc3, hc4, hasg⟩ := Cond.castable_spec hcast
  cases Option.some.inj (hc3.symm.trans hcl)
  obtain ⟨c5, hc5, hcl5⟩ := Cond.classLink_spec hown hlink e.platform hpl
  cases Option.some.inj (hc4.symm.trans hc5)
  obtain ⟨vm', X', st⟩ := Stand.thenCaughtThrough X q (g := F0 m pc ls rest) rfl (Steps.refl _) (by rw [hT]; exact hcell) (by rw [hv]; rfl) (by obtain ⟨k9, h9, -⟩ := Vm.findClass_spec hcl; exact ⟨k9, h9⟩) pre x suf hsplit
    (fun z hz => by
      rcases hpass z hz with h | ⟨hz0, nm, hl1, hn1⟩
      · exact Or.inl h
      · obtain ⟨c6, hc6, hcl6⟩ := Cond.classLink_spec hown hl1 e.platform hpl
        obtain ⟨a8, b8, h1, h2, h3⟩ := hn1
        cases Option.some.inj (h1.symm.trans hcl)
        cases Option.some.inj (h2.symm.trans hc6)
        exact Or.inr ⟨hz0, _, hcl6, h3⟩) hx (Or.inr ⟨h0, c4, hcl5, hasg⟩)
  obtain ⟨t, a1, b1⟩ := kk (T.setVm vm') hT X'
  exact ⟨t, st.trans a1, b1⟩
end LC0
/-! THE LAW'S HELPERS: a call of the desk, its answer into out[0], what it throws as a number -/
/-- the number that a helper gives: two handlers (1, 2), IllegalStateException alone, IllegalArgumentException alone -/
def lPre (D : va_G) (A : Nat → Prop) (G : DG) (S : DS) (o : Nat) (cJ : ClassId) (f : Nat → Int64) : State → Prop := fun U => dPre D A G S U ∧ U.heap[o]? = some (vp_cell cJ (1, .inr (.inl f))) ∧ (¬ A o ∧ o ≠ G.2.2) ∧ (ArrOfT U cJ .long ∧ va_RA U cJ .long)
def lPost (D : va_G) (A : Nat → Prop) (G : DG) (o : Nat) (cJ : ClassId) : DS × (Nat → Int64) → State → Prop := fun u t => (∃ n, dH D A G (n, u.1.2) t.heap) ∧ t.heap[o]? = some (vp_cell cJ (1, .inr (.inl u.2)))
abbrev lA (A : Nat → Prop) (o : Nat) : Nat → Prop := fun q => A q ∨ q = o
abbrev lQ (D : va_G) (A : Nat → Prop) (G : DG) (o : Nat) (cJ : ClassId) (rr : Int32) (S' : DS) (x : Int64) : Array Value → State → Outcome → State → Prop := va_Qi (fun r1 u => r1 = rr ∧ u.1 = S' ∧ u.2 0 = x) (lPost D A G o cJ) (lA A o)
abbrev wL (y : MethodName) (cc : ByteArray) (n : Nat) (hh : List (Nat × Nat × Nat × Nat)) : List Cond := Cond.codeWith y cc n (some .int) hh :: Tw
theorem lPre_blind {D : va_G} {A : Nat → Prop} {G : DG} {S : DS} {o : Nat} {cJ : ClassId} {f : Nat → Int64} {vs : List Value} : FrameBlind (va_Pc vs (lPre D A G S o cJ f)) := fun a U g mk q => by
  obtain ⟨q0, ⟨qH, qV, qZ⟩, qo, qa, q1, q2⟩ := q
  exact ⟨q0, ⟨qH, dV.same (s := U) (U := U.calling g mk a) rfl qV, dZ.moved (s := U) (U := U.calling g mk a) (Vm.Alike.refl U.vm) qZ⟩, qo, qa, (show ArrOfT (U.calling g mk a) cJ .long from arrOfT_moved (Vm.Alike.refl U.vm) q1), va_RA.moved (u := U) (U := U.calling g mk a) (Vm.Alike.refl U.vm) q2⟩
theorem dH_any {D : va_G} {A : Nat → Prop} {G : DG} {S : DS} {H H1 : Heap} (h : dH D A G S H) (hz : H.size ≤ H1.size) (hq : ∀ q : Nat, q < H.size → dK S q ≠ 0 → q ≠ G.2.2 → H1[q]? = H[q]?) : dH D A G (H1.size, S.2) H1 :=
  ⟨rfl, fun a ha hb => (h.2.1 a ha hb).kept (hq a (h.2.1 a ha hb).lt ha hb), h.2.2.1, h.2.2.2.1, h.2.2.2.2.1, by
    have h6 := h.2.2.2.2.2
    have h1 := h.1
    show G.2.2 < H1.size
    omega⟩
theorem dH_ne {D : va_G} {A : Nat → Prop} {G : DG} {S : DS} {H : Heap} {q o : Nat} (h : dH D A G S H) (hno : ¬ A o ∧ o ≠ G.2.2) (hK : dK S q ≠ 0) : q ≠ o := fun e => by
  subst e
  exact hno.1 (h.2.2.1 q hK hno.2)
section LH
variable {p : Program} {l : Launch} {e : Env} {R : Room} {s : State} {m : MethodId} {args : Array Value} {below : List Frame} {meth : Method} {c : Code} {H : Heap} {locs : List Loc} {cells slots : Nat} {Q : State → Prop}
variable {cc : ByteArray} {pc : Nat} {ls : Array Slot} {rest : List Value} {D : va_G} {A : Nat → Prop} {G : DG} {S : DS} {w0 : Cond} {nL a o : Nat} {ret : Option FieldType} {own nm : String} {cJ : ClassId} {f : Nat → Int64}
variable {y : MethodName} {cy : ByteArray} {nY idx n ff L C1 Z1 : Nat} {rY : Option FieldType} {As st : List Value} {hh : List (Nat × Nat × Nat × Nat)}
theorem l_head {vs : List Value} {Qc : Array Value → State → Outcome → State → Prop} {F : Nat → Prop} (hst : l.stackTraces = false) (hy : plainName y.cls = true) (hvs : (lg_sl vs).length ≤ nY)
    (body : ∀ p e s m args below meth c ls, dB p l s m args meth c D A G y.cls y.name cy nY (some .int) (Cond.codeWith y cy nY (some .int) hh) → c.exceptionTable.toList = tableOf hh → dOK D A G S s.heap s.heap [] → s.heap[o]? = some (vp_cell cJ (1, .inr (.inl f))) → (¬ A o ∧ o ≠ G.2.2) → (ArrOfT s cJ .long ∧ va_RA s cJ .long) → lv_has ls nY (lv_args 0 vs) → W p l e (rD ff L C1 Z1) s m args below meth c s.heap [] 0 0 (MQ below Qc args s C1 Z1 F) (F0 m 0 ls [])) :
    Met l y (wL y cy nY hh) (rD ff L C1 Z1) (va_Pc vs (lPre D A G S o cJ f)) Qc C1 Z1 F := by
  refine MetFree.of_bodyS (code := cy) (maxLocals := nY) (ret := some .int) hy ?_ ?_
  · intro args s m h hn
    obtain ⟨m9, meth, c, hn9, h1, h2, h3, h4, -, h5, h6, -⟩ := Cond.codeWith_spec (atoms_spec (ws := wL y cy nY hh) h _ List.mem_cons_self)
    cases hn.symm.trans hn9
    exact ⟨meth, c, h1, h2, h3, h4, h5, h6⟩
  · intro p e s m args below meth c s₁ B hml hv _
    obtain ⟨rfl, ⟨hH, hV, hZ⟩, ho, hno, hJ⟩ := hv
    have hts := atoms_spec (ws := wL y cy nY hh) B.pre
    have hh0 : s₁.heap = s.heap := by rw [B.state]; rfl
    have K := body p e s m _ below meth c _ ⟨B.exec, B.bytes, B.returns, hml, findClass_of_methodNamed B.named, hts, B.notSynchronized, hV, hZ, (name_of_methodNamed B.named B.method).1, hst⟩ (vx_table (x := y) B (hts _ List.mem_cons_self)) ⟨hH, va_S.rf⟩ ho hno hJ (lv_entry vs hvs)
    rw [← lg_entry_eq] at K
    obtain ⟨t, a1, oo, b1, b2, b3⟩ := K s₁ hh0 (Stand.of_body B)
    exact ⟨t, oo, a1, b1, b2, b3⟩
/-- an exception of the desk's, caught by the second of two rows, or by the first -/
theorem l_catch1 {x : ExceptionTableEntry} {suf : List ExceptionTableEntry} {E : String} {ce : Cell} {q9 : Addr} (B : dB p l s m args meth c D A G own nm cc nL ret w0) (htab : c.exceptionTable.toList = x :: suf) (hx : covers x pc = true) (h0 : x.catchType ≠ 0) (hlink : Cond.classLink own x.catchType E ∈ Tw) (hcast : Cond.castable E E ∈ dNW) (hcell : H[q9]? = some ce) (hv : ce.vm = .none) (hcl : s.vm.findClass E = some ce.cls)
    (kk : W p l e R s m args below meth c H locs cells slots Q (F0 m x.handlerPc ls [.ref q9])) : vx_W p l e R s m args below meth c H locs cells slots Q (F0 m pc ls rest) q9 :=
  vx_catch B.2.2.2.2.1 [] x suf (by rw [htab]; rfl) (fun z hz => nomatch hz) hx h0 (B.2.2.2.2.2.1 _ (List.mem_cons_of_mem _ hlink)) (va_Nw.use (dNW_tab _ hcast) (B.2.2.2.2.2.2.2.1.2.2.1 _ hcast)) hcell hv hcl kk
theorem l_catch2 {x0 x : ExceptionTableEntry} {suf : List ExceptionTableEntry} {E E0 : String} {ce : Cell} {q9 : Addr} (B : dB p l s m args meth c D A G own nm cc nL ret w0) (htab : c.exceptionTable.toList = x0 :: x :: suf) (h00 : x0.catchType ≠ 0) (hl0 : Cond.classLink own x0.catchType E0 ∈ Tw) (hnc : (E, E0) ∈ dNC) (hx : covers x pc = true) (h0 : x.catchType ≠ 0) (hlink : Cond.classLink own x.catchType E ∈ Tw) (hcast : Cond.castable E E ∈ dNW) (hcell : H[q9]? = some ce) (hv : ce.vm = .none) (hcl : s.vm.findClass E = some ce.cls)
    (kk : W p l e R s m args below meth c H locs cells slots Q (F0 m x.handlerPc ls [.ref q9])) : vx_W p l e R s m args below meth c H locs cells slots Q (F0 m pc ls rest) q9 :=
  vx_catch B.2.2.2.2.1 [x0] x suf (by rw [htab]; rfl) (fun z hz => by
    rcases List.mem_cons.mp hz with e9 | hz
    · subst e9
      exact Or.inr ⟨h00, E0, B.2.2.2.2.2.1 _ (List.mem_cons_of_mem _ hl0), B.2.2.2.2.2.2.2.1.2.2.2.1 _ hnc⟩
    · cases hz) hx h0 (B.2.2.2.2.2.1 _ (List.mem_cons_of_mem _ hlink)) (va_Nw.use (dNW_tab _ hcast) (B.2.2.2.2.2.2.2.1.2.2.1 _ hcast)) hcell hv hcl kk
/-- out[0] = x -/
theorem l_store {H0 : Heap} {F : Nat → Prop} (B : dB p l s m args meth c D A G own nm cc nL ret w0) (hJ : ArrOfT s cJ .long ∧ va_RA s cJ .long) (ho : H[o]? = some (vp_cell cJ (1, .inr (.inl f)))) {x : Int64} (hdg : decode cc pc = .ok (.lastore, 1)) (hS : va_S F H0 H locs) (hF : F o)
    (kk : ∀ (H1 : Heap) (locs1 : List Loc), H1[o]? = some (vp_cell cJ (1, .inr (.inl (vp_updL f 0 x)))) → H.size ≤ H1.size → (∀ q, q < H.size → q ≠ o → H1[q]? = H[q]?) → va_S F H0 H1 locs1 → W p l e R s m args below meth c H1 locs1 cells slots Q (F0 m (pc + 1) ls rest)) : W p l e R s m args below meth c H locs cells slots Q (F0 m pc ls (.long x :: .int 0 :: .ref o :: rest)) := by
  obtain ⟨hx, hb, -, -, hown, hts, -, hV, -⟩ := B
  have hP : va_P D vwCl [(o, .inl (cJ, 1, .inr (.inl f)))] H := va_P1 ho
  have hK : va_K D vwCl [(cJ, .long)] s := ⟨hV.1.1, fun k q hk => by
    match k, hk with
    | 0, hk => cases hk; exact hJ
    | k + 1, hk => simp at hk⟩
  have hD : va_D (fun q => q = o) [(o, .inl (cJ, 1, .inr (.inl f)))] := ⟨fun i j p q h1 h2 _ => by
      have a1 : i < 1 := (List.getElem?_eq_some_iff.mp h1).1
      have a2 : j < 1 := (List.getElem?_eq_some_iff.mp h2).1
      omega, fun k q h => by
      match k, h with
      | 0, h => cases h; rfl
      | k + 1, h => simp at h⟩
  refine W.last hx hb (hP 0 _ rfl) ((hK.2 0 _ rfl).1 1 (fun j => .long (f j))) (fun q => by cases q) (by show ¬ ((0 : Int32) < 0 ∨ (arrV _ _ _).slots.size ≤ _); rw [arrV_size]; show ¬ ((0 : Int32) < 0 ∨ 1 ≤ (0 : Int32).toNatClampNeg); decide) rfl rfl hdg fun H1 e1 z oq => ?_
  refine kk H1 _ ?_ (Nat.le_of_eq z.symm) (fun q _ h => oq q h) (hS.put z oq hF)
  rw [e1, vp_cell_l, vp_cell_l, arrV_store]
  congr 2
  funext q
  by_cases hq : q = 0
  · subst hq; rfl
  · have : ¬ q = (0 : Int32).toNatClampNeg := hq
    simp [updV, vp_updL, this, hq]
/-- the end: a number -/
theorem l_ret {S' : DS} {f1 : Nat → Int64} {x : Int32} {v : Int64} (B : dB p l s m args meth c D A G own nm cc nL (some .int) w0) (hH : ∃ n, dH D A G (n, S'.2) H) (ho : H[o]? = some (vp_cell cJ (1, .inr (.inl f1)))) (hf : f1 0 = v) (hS : va_S (lA A o) s.heap H locs) (hT : cells = R.cells ∧ slots = R.slots) (hdg : decode cc pc = .ok (.ireturn, 1)) :
    W p l e R s m args below meth c H locs cells slots (MQ below (lQ D A G o cJ x S' v) args s R.cells R.slots (lA A o)) (F0 m pc ls [.int x]) := by
  obtain ⟨hx, hb, hr, -, hown, hts, hlocks, -⟩ := B
  obtain ⟨h1, h2⟩ := hT
  rw [← h1, ← h2]
  exact W.iret hx hb hr (fun t ht hWm => ⟨⟨x, (S', f1), rfl, ⟨rfl, rfl, hf⟩, by show (∃ n, dH D A G (n, S'.2) t.heap) ∧ _; rw [ht]; exact ⟨hH, ho⟩⟩, hS.F ht⟩) hS.2.2 hdg hlocks
end LH
