/-! CALLS, RETURNS, THROWS of the desk's methods -/
abbrev dQi (D : va_G) (A : Nat → Prop) (G : DG) (r : Int32) (S' : DS) : Array Value → State → Outcome → State → Prop := va_Qi (fun r1 S1 => r1 = r ∧ S1 = S') (dPost D A G) A
abbrev dQv (D : va_G) (A : Nat → Prop) (G : DG) (S' : DS) : Array Value → State → Outcome → State → Prop := va_Qv (fun S1 => S1 = S') (dPost D A G) A
abbrev dQq (D : va_G) (A : Nat → Prop) (G : DG) (r : Option Nat) (S' : DS) : Array Value → State → Outcome → State → Prop := va_Qq (fun r1 S1 => r1 = r ∧ S1 = S') (dPost D A G) A
abbrev xQi (D : va_G) (A : Nat → Prop) (G : DG) (k : Nat) (r : Int32) (S' : DS) : Array Value → State → Outcome → State → Prop := va_Qi (fun r1 S1 => k = 0 ∧ r1 = r ∧ S1 = S') (dPost D A G) A
abbrev xQv (D : va_G) (A : Nat → Prop) (G : DG) (k : Nat) (S' : DS) : Array Value → State → Outcome → State → Prop := va_Qv (fun S1 => k = 0 ∧ S1 = S') (dPost D A G) A
abbrev xQq (D : va_G) (A : Nat → Prop) (G : DG) (k : Nat) (r : Option Nat) (S' : DS) : Array Value → State → Outcome → State → Prop := va_Qq (fun r1 S1 => k = 0 ∧ r1 = r ∧ S1 = S') (dPost D A G) A
def dEx (k : Nat) : String := if k = 1 then "java/lang/IllegalArgumentException" else "java/lang/IllegalStateException"
def dBX (D : va_G) (A : Nat → Prop) (G : DG) (k : Nat) (E : String) (S : DS) (t : State) : Prop := E = dEx k ∧ dH D A G (t.heap.size, S.2) t.heap
abbrev xX (D : va_G) (A : Nat → Prop) (G : DG) (k : Nat) (S' : DS) : String → State → State → Prop := vx_X (fun S1 => k ≠ 0 ∧ S1 = S') (dBX D A G k) A
theorem dH_grow {D : va_G} {A : Nat → Prop} {G : DG} {S : DS} {H H1 : Heap} (h : dH D A G S H) (hz : H.size ≤ H1.size) (hq : ∀ q : Nat, q < H.size → H1[q]? = H[q]?) : dH D A G (H1.size, S.2) H1 :=
  ⟨rfl, fun a ha hb => (h.2.1 a ha hb).kept (hq a (h.2.1 a ha hb).lt), h.2.2.1, h.2.2.2.1, h.2.2.2.2.1, by
    have h6 := h.2.2.2.2.2
    have h1 := h.1
    show G.2.2 < H1.size
    omega⟩
theorem dPre_at {D : va_G} {A : Nat → Prop} {G : DG} {S : DS} {s U : State} {H : Heap} {locs : List Loc} (hV : dV D G s) (hZ : dZ A G s s.heap) (hW : dOK D A G S s.heap H locs) (hU : U.heap = H) (hWm : s.WarmedH U.vm) : dPre D A G S U :=
  ⟨by rw [hU]; exact hW.1, dV.warm hWm hV, by rw [hU]; exact dZ.moved hWm.alike (dZ.kept hW.2 hZ)⟩
theorem dPre_blind {D : va_G} {A : Nat → Prop} {G : DG} {S : DS} {vs : List Value} : FrameBlind (va_Pc vs (dPre D A G S)) := fun a U g mk q => by
  obtain ⟨q0, qH, qV, qZ⟩ := q
  exact ⟨q0, qH, dV.same (s := U) (U := U.calling g mk a) rfl qV, dZ.moved (s := U) (U := U.calling g mk a) (Vm.Alike.refl U.vm) qZ⟩
theorem rf_or (z : Option Nat) : va_rf z = .null ∨ ∃ a, va_rf z = .ref a := by
  cases z with
  | none => exact Or.inl rfl
  | some w => exact Or.inr ⟨w, rfl⟩
section DC
variable {p : Program} {l : Launch} {e : Env} {R : Room} {s : State} {m : MethodId} {args : Array Value} {below : List Frame} {meth : Method} {c : Code} {H : Heap} {locs : List Loc} {cells slots : Nat} {Q : State → Prop}
variable {cc : ByteArray} {pc : Nat} {ls : Array Slot} {rest : List Value} {D : va_G} {A : Nat → Prop} {G : DG} {S : DS} {w0 : Cond} {nL a : Nat} {ret : Option FieldType} {own nm : String}
variable {y : MethodName} {cy : ByteArray} {nY idx n f L C1 Z1 C2 Z2 : Nat} {rY : Option FieldType} {As st : List Value} {Qc : Array Value → State → Outcome → State → Prop} {XC : String → State → State → Prop}
theorem d_recv (B : dB p l s m args meth c D A G own nm cc nL ret w0) (hW : dOK D A G S s.heap H locs) {C : String} {T : u_T} {N ci : Nat} {fs : List Value} (hc : vwCl[ci]? = some (C, T, N)) (hF : dF G S a = .inr (ci, fs)) (h0 : dK S a ≠ 0) : ∃ cell : Cell, H[a]? = some cell ∧ cell.vm.isStatics = false ∧ s.vm.findClass C = some cell.cls := by
  have hat := dH_atR hW.1 hF h0
  exact va_recv B.2.2.2.2.2.2.2.1.1 (va_P1 hat) (ci := ci) (q := (C, T, N)) (q0 := 0) hc rfl
/-- a method's name as a callee -/
def dY1 (y : MethodName) (n : Nat) : Prop := y.cls ≠ "java/lang/invoke/MethodHandle" ∧ y.cls ≠ "java/lang/invoke/VarHandle" ∧ (parseMethodDescriptor y.desc).map (fun d => d.parameters.length) = some n
theorem d_runV (B : dB p l s m args meth c D A G own nm cc nL ret w0) (hW : dOK D A G S s.heap H locs) (hl : ls.size = nL) (hr : ∃ cell : Cell, H[a]? = some cell ∧ cell.vm.isStatics = false ∧ s.vm.findClass y.cls = some cell.cls) (hM : Met l y (wM y cy nY rY) (rD f L C1 Z1) (va_Pc (.ref a :: As) (dPre D A G S)) Qc C1 Z1 A) (hG : GoodIn (w0 :: Tw) (wsV own idx y.cls y (wM y cy nY rY))) (hY : dY1 y n) (hn : As.length = n) (hR : f + 1 ≤ R.frames ∧ 8 + (nY + 11) + L ≤ R.locals) (hT : cells + (C1 + C2) = R.cells ∧ slots + (Z1 + Z2) = R.slots) (hst : st = As.reverse ++ .ref a :: rest) (hr8 : (rest.map fun v => v.category).sum ≤ 8) (hdg : decode cc pc = .ok (.invokevirtual idx, 3)) :
    va_Run p l e R s m args below meth c H locs cells slots C1 Z1 (F0 m pc ls st) rest (Qc (Value.ref a :: As).toArray) A := by
  obtain ⟨hx, hb, -, hml, hown, hts, -, hV, hZ, -⟩ := B
  exact va_runV (As := As) (rest := rest) ⟨hx, hb, hml, hown, hts⟩ hM (cwV n hts hG rfl rfl rfl ⟨rfl, hY⟩ hR)
    ⟨dPre_blind, hr, fun U hU hWm => ⟨rfl, dPre_at hV hZ hW hU hWm⟩⟩ rfl hn hl hst (lv_room (m := m) (pc := pc) (ls := ls) (rest := rest) hr8) hdg (by omega)
theorem d_runS (B : dB p l s m args meth c D A G own nm cc nL ret w0) (hW : dOK D A G S s.heap H locs) (hl : ls.size = nL) (hM : Met l y (wM y cy nY rY) (rD f L C1 Z1) (va_Pc As (dPre D A G S)) Qc C1 Z1 A) (hG : GoodIn (w0 :: Tw) (va_wsS own idx y (wM y cy nY rY))) (hY : dY1 y n) (hn : As.length = n) (hR : f + 1 ≤ R.frames ∧ 8 + (nY + 11) + L ≤ R.locals) (hT : cells + (C1 + C2) = R.cells ∧ slots + (Z1 + Z2) = R.slots) (hst : st = As.reverse ++ rest) (hr8 : (rest.map fun v => v.category).sum ≤ 8) (hdg : decode cc pc = .ok (.invokestatic idx, 3)) :
    va_Run p l e R s m args below meth c H locs cells slots C1 Z1 (F0 m pc ls st) rest (Qc As.toArray) A := by
  obtain ⟨hx, hb, -, hml, hown, hts, -, hV, hZ, -⟩ := B
  exact va_runS (As := As) (rest := rest) ⟨hx, hb, hml, hown, hts⟩ hM (va_cwS n hts hG rfl rfl rfl hY hR)
    ⟨dPre_blind, fun U hU hWm => ⟨rfl, dPre_at hV hZ hW hU hWm⟩⟩ rfl hn hl hst (lv_room (m := m) (pc := pc) (ls := ls) (rest := rest) hr8) hdg (by omega)
theorem d_runI (B : dB p l s m args meth c D A G own nm cc nL ret w0) (hW : dOK D A G S s.heap H locs) (hl : ls.size = nL) (hM : Met l y (wM y cy nY none) (rD f L C1 Z1) (va_Pc (.ref a :: As) (dPre D A G S)) Qc C1 Z1 A) (h1 : Cond.methodLink own idx y ∈ Tw) (h2 : Cond.instanceMethod y ∈ Tw) (h3 : Cond.initialized y.cls ∈ Tw) (h4 : Cond.code y cy nY none ∈ Tw) (hi : y.name = "<init>") (hY : dY1 y n) (hn : As.length = n) (hR : f + 1 ≤ R.frames ∧ 8 + (nY + 11) + L ≤ R.locals) (hT : cells + (C1 + C2) = R.cells ∧ slots + (Z1 + Z2) = R.slots) (hst : st = As.reverse ++ .ref a :: rest) (hr8 : (rest.map fun v => v.category).sum ≤ 8) (hdg : decode cc pc = .ok (.invokespecial idx, 3)) :
    va_Run p l e R s m args below meth c H locs cells slots C1 Z1 (F0 m pc ls st) rest (Qc (Value.ref a :: As).toArray) A := by
  obtain ⟨hx, hb, -, hml, hown, hts, -, hV, hZ, -⟩ := B
  exact va_runI (As := As) (rest := rest) ⟨hx, hb, hml, hown, hts⟩ hM (cwI n hts (g_all h4) rfl rfl rfl (hts _ (List.mem_cons_of_mem _ h3)) (hts _ (List.mem_cons_of_mem _ h1)) (hts _ (List.mem_cons_of_mem _ h2)) hi hY hR)
    ⟨dPre_blind, fun U hU hWm => ⟨rfl, dPre_at hV hZ hW hU hWm⟩⟩ rfl hn hl hst (lv_room (m := m) (pc := pc) (ls := ls) (rest := rest) hr8) hdg (by omega)
/-- a nest mate's private method -/
theorem d_runN {host : String} (B : dB p l s m args meth c D A G own nm cc nL ret w0) (hW : dOK D A G S s.heap H locs) (hl : ls.size = nL) (hr : ∃ cell : Cell, H[a]? = some cell ∧ cell.vm.isStatics = false ∧ s.vm.findClass y.cls = some cell.cls) (hM : Met l y (wM y cy nY rY) (rD f L C1 Z1) (va_Pc (.ref a :: As) (dPre D A G S)) Qc C1 Z1 A) (h1 : Cond.methodLinkNest own idx y host ∈ dNW) (h2 : Cond.instanceMethod y ∈ Tw) (h3 : Cond.initialized y.cls ∈ Tw) (h4 : Cond.code y cy nY rY ∈ Tw) (h5 : Cond.selects y.cls y y ∈ Tw) (hY : dY1 y n) (hn : As.length = n) (hR : f + 1 ≤ R.frames ∧ 8 + (nY + 11) + L ≤ R.locals) (hT : cells + (C1 + C2) = R.cells ∧ slots + (Z1 + Z2) = R.slots) (hst : st = As.reverse ++ .ref a :: rest) (hr8 : (rest.map fun v => v.category).sum ≤ 8) (hdg : decode cc pc = .ok (.invokevirtual idx, 3)) :
    va_Run p l e R s m args below meth c H locs cells slots C1 Z1 (F0 m pc ls st) rest (Qc (Value.ref a :: As).toArray) A := by
  obtain ⟨hx, hb, -, hml, hown, hts, -, hV, hZ, -⟩ := B
  exact va_runVN (As := As) (rest := rest) ⟨hx, hb, hml, hown, hts⟩ hM ⟨va_cnB n hts (g_all h4) rfl rfl rfl (hV.2.2.1 _ h1) (hts _ (List.mem_cons_of_mem _ h3)) hY hR, hts _ (List.mem_cons_of_mem _ h2), hts _ (List.mem_cons_of_mem _ h5)⟩
    ⟨dPre_blind, hr, fun U hU hWm => ⟨rfl, dPre_at hV hZ hW hU hWm⟩⟩ rfl hn hl hst (lv_room (m := m) (pc := pc) (ls := ls) (rest := rest) hr8) hdg (by omega)
/-! behind a call -/
theorem d_ri {r : Int32} {S1 : DS} {a0 : Array Value} (hr : va_Run p l e R s m args below meth c H locs cells slots C1 Z1 (F0 m pc ls st) rest (dQi D A G r S1 a0) A) (hW : dOK D A G S s.heap H locs) (hT : cells + (C1 + C2) = R.cells ∧ slots + (Z1 + Z2) = R.slots)
    (kk : ∀ (H1 : Heap) (locs1 : List Loc) (cells1 slots1 : Nat), dOK D A G S1 s.heap H1 locs1 → cells1 + C2 = R.cells ∧ slots1 + Z2 = R.slots → W p l e R s m args below meth c H1 locs1 cells1 slots1 Q (F0 m (pc + 3) ls (.int r :: rest))) : W p l e R s m args below meth c H locs cells slots Q (F0 m pc ls st) := by
  refine va_calli hr hW.2 (fun _ _ h => h) (fun _ h => h) (fun r1 u t H1 locs1 ht hvm hw hB hz1 hk1 hS => ?_)
  obtain ⟨rfl, rfl⟩ := hw
  have hB : dH D A G u t.heap := hB
  rw [ht] at hB
  exact kk H1 locs1 _ _ ⟨hB, hS⟩ (by omega)
theorem d_rv {S1 : DS} {a0 : Array Value} (hr : va_Run p l e R s m args below meth c H locs cells slots C1 Z1 (F0 m pc ls st) rest (dQv D A G S1 a0) A) (hW : dOK D A G S s.heap H locs) (hT : cells + (C1 + C2) = R.cells ∧ slots + (Z1 + Z2) = R.slots)
    (kk : ∀ (H1 : Heap) (locs1 : List Loc) (cells1 slots1 : Nat), dOK D A G S1 s.heap H1 locs1 → cells1 + C2 = R.cells ∧ slots1 + Z2 = R.slots → W p l e R s m args below meth c H1 locs1 cells1 slots1 Q (F0 m (pc + 3) ls rest)) : W p l e R s m args below meth c H locs cells slots Q (F0 m pc ls st) := by
  refine va_callv hr hW.2 (fun _ _ h => h) (fun _ h => h) (fun u t H1 locs1 ht hvm hw hB hz1 hk1 hS => ?_)
  subst hw
  have hB : dH D A G u t.heap := hB
  rw [ht] at hB
  exact kk H1 locs1 _ _ ⟨hB, hS⟩ (by omega)
theorem d_rq {r : Option Nat} {S1 : DS} {a0 : Array Value} (hr : va_Run p l e R s m args below meth c H locs cells slots C1 Z1 (F0 m pc ls st) rest (dQq D A G r S1 a0) A) (hW : dOK D A G S s.heap H locs) (hT : cells + (C1 + C2) = R.cells ∧ slots + (Z1 + Z2) = R.slots)
    (kk : ∀ (H1 : Heap) (locs1 : List Loc) (cells1 slots1 : Nat), dOK D A G S1 s.heap H1 locs1 → cells1 + C2 = R.cells ∧ slots1 + Z2 = R.slots → W p l e R s m args below meth c H1 locs1 cells1 slots1 Q (F0 m (pc + 3) ls (va_rf r :: rest))) : W p l e R s m args below meth c H locs cells slots Q (F0 m pc ls st) := by
  refine va_callq hr hW.2 (fun _ _ h => h) (fun _ h => h) (fun r1 u t H1 locs1 ht hvm hw hB hz1 hk1 hS => ?_)
  obtain ⟨rfl, rfl⟩ := hw
  have hB : dH D A G u t.heap := hB
  rw [ht] at hB
  exact kk H1 locs1 _ _ ⟨hB, hS⟩ (by omega)
/-! methods that may throw -/
theorem x_runV (B : dB p l s m args meth c D A G own nm cc nL ret w0) (hW : dOK D A G S s.heap H locs) (hl : ls.size = nL) (hr : ∃ cell : Cell, H[a]? = some cell ∧ cell.vm.isStatics = false ∧ s.vm.findClass y.cls = some cell.cls) (hM : vx_Met l y (wM y cy nY rY) (rD f L C1 Z1) (va_Pc (.ref a :: As) (dPre D A G S)) Qc XC C1 Z1 A) (hG : GoodIn (w0 :: Tw) (wsV own idx y.cls y (wM y cy nY rY))) (hY : dY1 y n) (hn : As.length = n) (hR : f + 1 ≤ R.frames ∧ 8 + (nY + 11) + L ≤ R.locals) (hT : cells + (C1 + C2) = R.cells ∧ slots + (Z1 + Z2) = R.slots) (hst : st = As.reverse ++ .ref a :: rest) (hr8 : (rest.map fun v => v.category).sum ≤ 8) (hdg : decode cc pc = .ok (.invokevirtual idx, 3)) :
    vx_Run p l e R s m args below meth c H locs cells slots C1 Z1 (F0 m pc ls st) rest (Qc (Value.ref a :: As).toArray) XC A := by
  obtain ⟨hx, hb, -, hml, hown, hts, -, hV, hZ, -⟩ := B
  exact vx_runV (As := As) (rest := rest) ⟨hx, hb, hml, hown, hts⟩ hM (cwV n hts hG rfl rfl rfl ⟨rfl, hY⟩ hR)
    ⟨dPre_blind, hr, fun U hU hWm => ⟨rfl, dPre_at hV hZ hW hU hWm⟩⟩ rfl hn hl hst (lv_room (m := m) (pc := pc) (ls := ls) (rest := rest) hr8) hdg (by omega)
theorem x_ri {r : Int32} {S1 : DS} {a0 : Array Value} (hr : vx_Run p l e R s m args below meth c H locs cells slots C1 Z1 (F0 m pc ls st) rest (xQi D A G 0 r S1 a0) (xX D A G 0 S1) A) (hW : dOK D A G S s.heap H locs) (hT : cells + (C1 + C2) = R.cells ∧ slots + (Z1 + Z2) = R.slots)
    (kk : ∀ (H1 : Heap) (locs1 : List Loc) (cells1 slots1 : Nat), dOK D A G S1 s.heap H1 locs1 → cells1 + C2 = R.cells ∧ slots1 + Z2 = R.slots → W p l e R s m args below meth c H1 locs1 cells1 slots1 Q (F0 m (pc + 3) ls (.int r :: rest))) : W p l e R s m args below meth c H locs cells slots Q (F0 m pc ls st) := by
  refine vx_calli hr hW.2 (fun _ _ h => h) (fun _ h => h) (fun _ _ h => h) (fun E ce q9 u t H1 locs1 ht hvm hp => absurd rfl hp.1) (fun r1 u t H1 locs1 ht hvm hw hB hz1 hk1 hS => ?_)
  obtain ⟨-, rfl, rfl⟩ := hw
  have hB : dH D A G u t.heap := hB
  rw [ht] at hB
  exact kk H1 locs1 _ _ ⟨hB, hS⟩ (by omega)
theorem x_rv {S1 : DS} {a0 : Array Value} (hr : vx_Run p l e R s m args below meth c H locs cells slots C1 Z1 (F0 m pc ls st) rest (xQv D A G 0 S1 a0) (xX D A G 0 S1) A) (hW : dOK D A G S s.heap H locs) (hT : cells + (C1 + C2) = R.cells ∧ slots + (Z1 + Z2) = R.slots)
    (kk : ∀ (H1 : Heap) (locs1 : List Loc) (cells1 slots1 : Nat), dOK D A G S1 s.heap H1 locs1 → cells1 + C2 = R.cells ∧ slots1 + Z2 = R.slots → W p l e R s m args below meth c H1 locs1 cells1 slots1 Q (F0 m (pc + 3) ls rest)) : W p l e R s m args below meth c H locs cells slots Q (F0 m pc ls st) := by
  refine vx_callv hr hW.2 (fun _ _ h => h) (fun _ h => h) (fun _ _ h => h) (fun E ce q9 u t H1 locs1 ht hvm hp => absurd rfl hp.1) (fun u t H1 locs1 ht hvm hw hB hz1 hk1 hS => ?_)
  obtain ⟨-, rfl⟩ := hw
  have hB : dH D A G u t.heap := hB
  rw [ht] at hB
  exact kk H1 locs1 _ _ ⟨hB, hS⟩ (by omega)
theorem x_callq {r : Option Nat} {S1 : DS} {k : Nat} {a0 : Array Value} (hr : vx_Run p l e R s m args below meth c H locs cells slots C1 Z1 (F0 m pc ls st) rest (xQq D A G k r S1 a0) (xX D A G k S1) A) (hS : va_S A s.heap H locs)
    (kx : ∀ (E : String) (ce : Cell) (q9 : Addr) (t : State) (H1 : Heap) (locs1 : List Loc), t.heap = H1 → s.vm.Alike t.vm → k ≠ 0 → dBX D A G k E S1 t → va_S A s.heap H1 locs1 → H1[q9]? = some ce → ce.vm = .none → s.vm.findClass E = some ce.cls → vx_W p l e R s m args below meth c H1 locs1 (cells + C1) (slots + Z1) Q (F0 m pc ls rest) q9)
    (kk : ∀ (t : State) (H1 : Heap) (locs1 : List Loc), t.heap = H1 → k = 0 → dH D A G S1 t.heap → va_S A s.heap H1 locs1 → W p l e R s m args below meth c H1 locs1 (cells + C1) (slots + Z1) Q (F0 m (pc + 3) ls (va_rf r :: rest))) : W p l e R s m args below meth c H locs cells slots Q (F0 m pc ls st) := by
  intro T hT X
  rcases hr T hT X with ⟨v, st₀, t, T', L, h0, X', hL, e1, e2, ⟨⟨r1, u, hv, ⟨hp0, rfl, rfl⟩, hb⟩, hF⟩, st⟩ | ⟨q, st₀, t, T', L, E, ce, h0, X', hL, e1, e2, ⟨u, ⟨hp0, rfl⟩, hb, hF⟩, hce, hcv, hcl, st⟩
  · cases hv
    obtain ⟨k1, k2, k3⟩ := vx_keep h0 e1 hS (fun _ _ h => h) (fun _ h => h) hL hF
    obtain ⟨t2, a1, b1⟩ := kk t T'.heap (locs ++ L) e1.symm hp0 hb k3 T' rfl X'
    exact ⟨t2, st t2 a1, b1⟩
  · obtain ⟨k1, k2, k3⟩ := vx_keep h0 e1 hS (fun _ _ h => h) (fun _ h => h) hL hF
    obtain ⟨t2, a1, b1⟩ := kx E ce q t T'.heap (locs ++ L) e1.symm (by rw [← e2]; exact X'.warmed.alike) hp0 hb k3 (by rw [e1]; exact hce) hcv hcl T' rfl X'
    exact ⟨t2, st.trans a1, b1⟩
theorem x_rq {r : Option Nat} {S1 : DS} {a0 : Array Value} (hr : vx_Run p l e R s m args below meth c H locs cells slots C1 Z1 (F0 m pc ls st) rest (xQq D A G 0 r S1 a0) (xX D A G 0 S1) A) (hW : dOK D A G S s.heap H locs) (hT : cells + (C1 + C2) = R.cells ∧ slots + (Z1 + Z2) = R.slots)
    (kk : ∀ (H1 : Heap) (locs1 : List Loc) (cells1 slots1 : Nat), dOK D A G S1 s.heap H1 locs1 → cells1 + C2 = R.cells ∧ slots1 + Z2 = R.slots → W p l e R s m args below meth c H1 locs1 cells1 slots1 Q (F0 m (pc + 3) ls (va_rf r :: rest))) : W p l e R s m args below meth c H locs cells slots Q (F0 m pc ls st) := by
  refine x_callq hr hW.2 (fun E ce q9 t H1 locs1 ht hvm hp => absurd rfl hp) (fun t H1 locs1 ht hk hB hS => ?_)
  rw [ht] at hB
  exact kk H1 locs1 _ _ ⟨hB, hS⟩ (by omega)
/-- a callee's exception goes on to the caller -/
theorem x_out {k : Nat} {S1 : DS} {E : String} {ce : Cell} {q9 : Addr} {t : State} {H1 : Heap} {locs1 : List Loc} {c1 z1 : Nat} (hout : ∀ x ∈ c.exceptionTable.toList, False) (hlk : meth.locks = false) (ht : t.heap = H1) (hk : k ≠ 0) (hB : dBX D A G k E S1 t) (hS : va_S A s.heap H1 locs1) (hc : H1[q9]? = some ce) (hv : ce.vm = .none) (hcl : s.vm.findClass E = some ce.cls) (h1 : c1 ≤ C1) (h2 : z1 ≤ Z1) :
    vx_W p l e R s m args below meth c H1 locs1 c1 z1 (vx_MQ below Qc (xX D A G k S1) args s C1 Z1 A) (F0 m pc ls rest) q9 :=
  vx_out (fun x hx => (hout x hx).elim) hlk hc hv hcl (fun t2 ht2 _ => ⟨S1, ⟨hk, rfl⟩, ⟨hB.1, by
    have hB2 := hB.2
    rw [ht] at hB2
    rw [ht2]; exact hB2⟩, hS.F ht2⟩) (fun z hz => hS.2.2 z hz) h1 h2
theorem x_oi {k : Nat} {r : Int32} {S1 : DS} {a0 : Array Value} (B : dB p l s m args meth c D A G own nm cc nL ret w0) (hout : ∀ x ∈ c.exceptionTable.toList, False) (hk : k ≠ 0) (hr : vx_Run p l e R s m args below meth c H locs cells slots C1 Z1 (F0 m pc ls st) rest (xQi D A G k r S1 a0) (xX D A G k S1) A) (hW : dOK D A G S s.heap H locs) (hT : cells + C1 = R.cells ∧ slots + Z1 = R.slots) : W p l e R s m args below meth c H locs cells slots (vx_MQ below Qc (xX D A G k S1) args s R.cells R.slots A) (F0 m pc ls st) :=
  vx_calli hr hW.2 (fun _ _ h => h) (fun _ h => h) (fun _ _ h => h) (fun E ce q9 u t H1 locs1 ht hvm hp hB _ _ hS hc hv hcl => by
    obtain ⟨-, rfl⟩ := hp
    exact x_out hout B.2.2.2.2.2.2.1 ht hk hB hS hc hv hcl (by omega) (by omega)) (fun r1 u t H1 locs1 ht hvm hw => absurd hw.1 hk)
theorem x_ov {k : Nat} {S1 : DS} {a0 : Array Value} (B : dB p l s m args meth c D A G own nm cc nL ret w0) (hout : ∀ x ∈ c.exceptionTable.toList, False) (hk : k ≠ 0) (hr : vx_Run p l e R s m args below meth c H locs cells slots C1 Z1 (F0 m pc ls st) rest (xQv D A G k S1 a0) (xX D A G k S1) A) (hW : dOK D A G S s.heap H locs) (hT : cells + C1 = R.cells ∧ slots + Z1 = R.slots) : W p l e R s m args below meth c H locs cells slots (vx_MQ below Qc (xX D A G k S1) args s R.cells R.slots A) (F0 m pc ls st) :=
  vx_callv hr hW.2 (fun _ _ h => h) (fun _ h => h) (fun _ _ h => h) (fun E ce q9 u t H1 locs1 ht hvm hp hB _ _ hS hc hv hcl => by
    obtain ⟨-, rfl⟩ := hp
    exact x_out hout B.2.2.2.2.2.2.1 ht hk hB hS hc hv hcl (by omega) (by omega)) (fun u t H1 locs1 ht hvm hw => absurd hw.1 hk)
theorem x_oq {k : Nat} {r : Option Nat} {S1 : DS} {a0 : Array Value} (B : dB p l s m args meth c D A G own nm cc nL ret w0) (hout : ∀ x ∈ c.exceptionTable.toList, False) (hk : k ≠ 0) (hr : vx_Run p l e R s m args below meth c H locs cells slots C1 Z1 (F0 m pc ls st) rest (xQq D A G k r S1 a0) (xX D A G k S1) A) (hW : dOK D A G S s.heap H locs) (hT : cells + C1 = R.cells ∧ slots + Z1 = R.slots) : W p l e R s m args below meth c H locs cells slots (vx_MQ below Qc (xX D A G k S1) args s R.cells R.slots A) (F0 m pc ls st) :=
  x_callq hr hW.2 (fun E ce q9 t H1 locs1 ht hvm hp hB hS hc hv hcl => x_out hout B.2.2.2.2.2.2.1 ht hk hB hS hc hv hcl (by omega) (by omega)) (fun t H1 locs1 ht hw => absurd hw hk)
/-! returns -/
theorem d_iret {r x : Int32} {S' : DS} (B : dB p l s m args meth c D A G own nm cc nL (some .int) w0) (hW : dOK D A G S s.heap H locs) (hq : some (x, S, 0, 0) = some (r, S', C1, Z1)) (hT : cells + C1 = R.cells ∧ slots + Z1 = R.slots) (hdg : decode cc pc = .ok (.ireturn, 1)) :
    W p l e R s m args below meth c H locs cells slots (MQ below (dQi D A G r S') args s R.cells R.slots A) (F0 m pc ls [.int x]) := by
  obtain ⟨hx, hb, hr, -, hown, hts, hlocks, -⟩ := B
  cases hq
  obtain ⟨h1, h2⟩ := hT
  rw [← h1, ← h2, Nat.add_zero, Nat.add_zero]
  exact W.iret hx hb hr (fun t ht hWm => ⟨⟨_, _, rfl, ⟨rfl, rfl⟩, by show dH D A G S t.heap; rw [ht]; exact hW.1⟩, hW.2.F ht⟩) hW.2.2.2 hdg hlocks
theorem d_zret {r x : Int32} {S' : DS} (B : dB p l s m args meth c D A G own nm cc nL (some .boolean) w0) (hW : dOK D A G S s.heap H locs) (hx1 : isB x) (hq : some (x, S, 0, 0) = some (r, S', C1, Z1)) (hT : cells + C1 = R.cells ∧ slots + Z1 = R.slots) (hdg : decode cc pc = .ok (.ireturn, 1)) :
    W p l e R s m args below meth c H locs cells slots (MQ below (dQi D A G r S') args s R.cells R.slots A) (F0 m pc ls [.int x]) := by
  obtain ⟨hx, hb, hr, -, hown, hts, hlocks, -⟩ := B
  cases hq
  obtain ⟨h1, h2⟩ := hT
  rw [← h1, ← h2, Nat.add_zero, Nat.add_zero]
  exact W.zret hx hb hr (isB_narrow hx1) (fun t ht hWm => ⟨⟨_, _, rfl, ⟨rfl, rfl⟩, by show dH D A G S t.heap; rw [ht]; exact hW.1⟩, hW.2.F ht⟩) hW.2.2.2 hdg hlocks
theorem d_vret {S' : DS} {u u' : Int32} (B : dB p l s m args meth c D A G own nm cc nL none w0) (hW : dOK D A G S s.heap H locs) (hq : some (u, S, 0, 0) = some (u', S', C1, Z1)) (hT : cells + C1 = R.cells ∧ slots + Z1 = R.slots) (hdg : decode cc pc = .ok (.return_, 1)) :
    W p l e R s m args below meth c H locs cells slots (MQ below (dQv D A G S') args s R.cells R.slots A) (F0 m pc ls []) := by
  obtain ⟨hx, hb, hr, -, hown, hts, hlocks, -⟩ := B
  cases hq
  obtain ⟨h1, h2⟩ := hT
  rw [← h1, ← h2, Nat.add_zero, Nat.add_zero]
  exact W.vret hx hb hr (fun t ht hWm => ⟨⟨_, rfl, rfl, by show dH D A G S t.heap; rw [ht]; exact hW.1⟩, hW.2.F ht⟩) hW.2.2.2 hdg hlocks
theorem d_aret {r x : Option Nat} {S' : DS} {rt : FieldType} (B : dB p l s m args meth c D A G own nm cc nL (some rt) w0) (hrt : (∃ n, rt = .object n) ∨ ∃ t, rt = .array t) (hW : dOK D A G S s.heap H locs) (hq : some (x, S, 0, 0) = some (r, S', C1, Z1)) (hT : cells + C1 = R.cells ∧ slots + Z1 = R.slots) (hdg : decode cc pc = .ok (.areturn, 1)) :
    W p l e R s m args below meth c H locs cells slots (MQ below (dQq D A G r S') args s R.cells R.slots A) (F0 m pc ls [va_rf x]) := by
  obtain ⟨hx, hb, hr, -, hown, hts, hlocks, -⟩ := B
  cases hq
  obtain ⟨h1, h2⟩ := hT
  rw [← h1, ← h2, Nat.add_zero, Nat.add_zero]
  exact W.aret hx hb hr hrt (rf_or _) (fun t ht hWm => ⟨⟨_, _, rfl, ⟨rfl, rfl⟩, by show dH D A G S t.heap; rw [ht]; exact hW.1⟩, hW.2.F ht⟩) hW.2.2.2 hdg hlocks
theorem x_iret {k : Nat} {r x : Int32} {S' : DS} (B : dB p l s m args meth c D A G own nm cc nL (some .int) w0) (hW : dOK D A G S s.heap H locs) (hq : some ((0, x), S, 0, 0) = some ((k, r), S', C1, Z1)) (hT : cells + C1 = R.cells ∧ slots + Z1 = R.slots) (hdg : decode cc pc = .ok (.ireturn, 1)) :
    W p l e R s m args below meth c H locs cells slots (vx_MQ below (xQi D A G k r S') XC args s R.cells R.slots A) (F0 m pc ls [.int x]) := by
  obtain ⟨hx, hb, hr, -, hown, hts, hlocks, -⟩ := B
  cases hq
  obtain ⟨h1, h2⟩ := hT
  rw [← h1, ← h2, Nat.add_zero, Nat.add_zero]
  exact vx_ret (W.iret hx hb hr (fun t ht hWm => ⟨⟨_, _, rfl, ⟨rfl, rfl, rfl⟩, by show dH D A G S t.heap; rw [ht]; exact hW.1⟩, hW.2.F ht⟩) hW.2.2.2 hdg hlocks)
theorem x_zret {k : Nat} {r x : Int32} {S' : DS} (B : dB p l s m args meth c D A G own nm cc nL (some .boolean) w0) (hW : dOK D A G S s.heap H locs) (hx1 : isB x) (hq : some ((0, x), S, 0, 0) = some ((k, r), S', C1, Z1)) (hT : cells + C1 = R.cells ∧ slots + Z1 = R.slots) (hdg : decode cc pc = .ok (.ireturn, 1)) :
    W p l e R s m args below meth c H locs cells slots (vx_MQ below (xQi D A G k r S') XC args s R.cells R.slots A) (F0 m pc ls [.int x]) := by
  obtain ⟨hx, hb, hr, -, hown, hts, hlocks, -⟩ := B
  cases hq
  obtain ⟨h1, h2⟩ := hT
  rw [← h1, ← h2, Nat.add_zero, Nat.add_zero]
  exact vx_ret (W.zret hx hb hr (isB_narrow hx1) (fun t ht hWm => ⟨⟨_, _, rfl, ⟨rfl, rfl, rfl⟩, by show dH D A G S t.heap; rw [ht]; exact hW.1⟩, hW.2.F ht⟩) hW.2.2.2 hdg hlocks)
theorem x_vret {k : Nat} {u u' : Int32} {S' : DS} (B : dB p l s m args meth c D A G own nm cc nL none w0) (hW : dOK D A G S s.heap H locs) (hq : some ((0, u), S, 0, 0) = some ((k, u'), S', C1, Z1)) (hT : cells + C1 = R.cells ∧ slots + Z1 = R.slots) (hdg : decode cc pc = .ok (.return_, 1)) :
    W p l e R s m args below meth c H locs cells slots (vx_MQ below (xQv D A G k S') XC args s R.cells R.slots A) (F0 m pc ls []) := by
  obtain ⟨hx, hb, hr, -, hown, hts, hlocks, -⟩ := B
  cases hq
  obtain ⟨h1, h2⟩ := hT
  rw [← h1, ← h2, Nat.add_zero, Nat.add_zero]
  exact vx_ret (W.vret hx hb hr (fun t ht hWm => ⟨⟨_, rfl, ⟨rfl, rfl⟩, by show dH D A G S t.heap; rw [ht]; exact hW.1⟩, hW.2.F ht⟩) hW.2.2.2 hdg hlocks)
theorem x_aret {k : Nat} {r x : Option Nat} {S' : DS} {rt : FieldType} (B : dB p l s m args meth c D A G own nm cc nL (some rt) w0) (hrt : (∃ n, rt = .object n) ∨ ∃ t, rt = .array t) (hW : dOK D A G S s.heap H locs) (hq : some ((0, x), S, 0, 0) = some ((k, r), S', C1, Z1)) (hT : cells + C1 = R.cells ∧ slots + Z1 = R.slots) (hdg : decode cc pc = .ok (.areturn, 1)) :
    W p l e R s m args below meth c H locs cells slots (vx_MQ below (xQq D A G k r S') XC args s R.cells R.slots A) (F0 m pc ls [va_rf x]) := by
  obtain ⟨hx, hb, hr, -, hown, hts, hlocks, -⟩ := B
  cases hq
  obtain ⟨h1, h2⟩ := hT
  rw [← h1, ← h2, Nat.add_zero, Nat.add_zero]
  exact vx_ret (W.aret hx hb hr hrt (rf_or _) (fun t ht hWm => ⟨⟨_, _, rfl, ⟨rfl, rfl, rfl⟩, by show dH D A G S t.heap; rw [ht]; exact hW.1⟩, hW.2.F ht⟩) hW.2.2.2 hdg hlocks)
/-! the class's own throws -/
theorem x_atoms {kx ic : Nat} {X : String} (B : dB p l s m args meth c D A G own nm cc nL ret w0) (hg : ∀ w ∈ vx_atS "PromiseDesk" ic X ["java/lang/RuntimeException", "java/lang/Exception"], w ∈ Tw ∨ w ∈ dNW) : ∀ w ∈ vx_atS "PromiseDesk" ic X ["java/lang/RuntimeException", "java/lang/Exception"], w.before args s = true := fun w h => by
  obtain ⟨-, -, -, -, -, hts, -, hV, -⟩ := B
  rcases hg w h with h | h
  · exact hts _ (List.mem_cons_of_mem _ h)
  · exact va_Nw.use (dNW_tab _ h) (hV.2.2.1 _ h)
theorem x_post {kx : Nat} (hW : dOK D A G S s.heap H locs) (hk : kx ≠ 0) : ∀ t : State, s.vm.Alike t.vm → H.size ≤ t.heap.size → (∀ q : Nat, q < H.size → t.heap[q]? = H[q]?) → (xX D A G kx S) (dEx kx) s t := fun t _ hz hq =>
  ⟨S, ⟨hk, rfl⟩, ⟨rfl, dH_grow hW.1 hz hq⟩, Nat.le_trans hW.2.1 hz, fun q h1 h2 => (hq q (Nat.lt_of_lt_of_le h1 hW.2.1)).trans (hW.2.2.1 q h1 h2)⟩
theorem xg_1 : ∀ w ∈ vx_atS "PromiseDesk" 217 "java/lang/IllegalArgumentException" ["java/lang/RuntimeException", "java/lang/Exception"], w ∈ Tw ∨ w ∈ dNW := by decide +kernel
theorem xg_2 : ∀ w ∈ vx_atS "PromiseDesk" 69 "java/lang/IllegalStateException" ["java/lang/RuntimeException", "java/lang/Exception"], w ∈ Tw ∨ w ∈ dNW := by decide +kernel
theorem xo_1 : ∀ w ∈ Cond.classLink "PromiseDesk" 213 "java/lang/IllegalArgumentException" :: Cond.initialized "java/lang/IllegalArgumentException" :: vx_atS "PromiseDesk" 217 "java/lang/IllegalArgumentException" ["java/lang/RuntimeException", "java/lang/Exception"], vx_ot w = true := by decide +kernel
theorem xo_2 : ∀ w ∈ Cond.classLink "PromiseDesk" 65 "java/lang/IllegalStateException" :: Cond.initialized "java/lang/IllegalStateException" :: vx_atS "PromiseDesk" 69 "java/lang/IllegalStateException" ["java/lang/RuntimeException", "java/lang/Exception"], vx_ot w = true := by decide +kernel
theorem xf : ∀ n ∈ ["java/lang/RuntimeException", "java/lang/Exception"], Bundle.fit n = true := by decide +kernel
theorem x_throw {kx k ik ic is : Nat} {tx : String} {α : Type} {d r : α} {S' : DS} (B : dB p l s m args meth c D A G "PromiseDesk" nm cc nL ret w0) (hout : ∀ x ∈ c.exceptionTable.toList, False) (hW : dOK D A G S s.heap H locs) (hl : ls.size = nL) (hk : (kx = 1 ∧ ik = 213 ∧ ic = 217) ∨ (kx = 2 ∧ ik = 65 ∧ ic = 69)) (htx : (is, tx) ∈ dTx) (hR : 5 < R.frames ∧ (rest.map fun v => v.category).sum + 82 ≤ R.locals)
    (d0 : decode cc pc = .ok (.new ik, 3)) (d3 : decode cc (pc + 3) = .ok (.dup, 1)) (d4 : decode cc (pc + 4) = .ok (.ldc is, 2)) (d6 : decode cc (pc + 6) = .ok (.invokespecial ic, 3)) (d9 : decode cc (pc + 9) = .ok (.athrow, 1))
    (hq : some ((kx, d), S, 1, 6) = some ((k, r), S', C1, Z1)) (hT : cells + C1 = R.cells ∧ slots + Z1 = R.slots) :
    W p l e R s m args below meth c H locs cells slots (vx_MQ below Qc (xX D A G k S') args s R.cells R.slots A) (F0 m pc ls rest) := by
  cases hq
  obtain ⟨sa, hsa⟩ := B.2.2.2.2.2.2.2.1.2.2.2.2.1 _ htx
  have hts := B.2.2.2.2.2.1
  have hZ := B.2.2.2.2.2.2.2.2.1
  rcases hk with ⟨rfl, rfl, rfl⟩ | ⟨rfl, rfl, rfl⟩
  · exact vx_throwS (own := "PromiseDesk") (cls := "java/lang/IllegalArgumentException") (names := ["java/lang/RuntimeException", "java/lang/Exception"]) B.1 B.2.1 B.2.2.2.2.2.2.2.2.2.2 B.2.2.2.2.1 (by decide +kernel) xf (hts _ (List.mem_cons_of_mem _ u_327)) (hts _ (List.mem_cons_of_mem _ u_17)) hsa (x_atoms (kx := 1) B xg_1) xo_1 hZ.2.1 hZ.2.2.1 hW.2 (hl.trans B.2.2.2.1.symm) d0 d3 d4 d6 d9 (fun x hx => (hout x hx).elim) hR.1 hR.2 (by omega) (by omega) B.2.2.2.2.2.2.1 (x_post (kx := 1) hW (by decide)) (fun z hz => hW.2.2.2 z hz) (by omega) (by omega)
  · exact vx_throwS (own := "PromiseDesk") (cls := "java/lang/IllegalStateException") (names := ["java/lang/RuntimeException", "java/lang/Exception"]) B.1 B.2.1 B.2.2.2.2.2.2.2.2.2.2 B.2.2.2.2.1 (by decide +kernel) xf (hts _ (List.mem_cons_of_mem _ u_118)) (hts _ (List.mem_cons_of_mem _ u_9)) hsa (x_atoms (kx := 2) B xg_2) xo_2 hZ.2.1 hZ.2.2.1 hW.2 (hl.trans B.2.2.2.1.symm) d0 d3 d4 d6 d9 (fun x hx => (hout x hx).elim) hR.1 hR.2 (by omega) (by omega) B.2.2.2.2.2.2.1 (x_post (kx := 2) hW (by decide)) (fun z hz => hW.2.2.2 z hz) (by omega) (by omega)
/-! bodies -/
theorem d_head {vs : List Value} (hst : l.stackTraces = false) (hy : plainName y.cls = true) (hvs : (lg_sl vs).length ≤ nY)
    (body : ∀ p e s m args below meth c ls, dB p l s m args meth c D A G y.cls y.name cy nY rY (Cond.code y cy nY rY) → dOK D A G S s.heap s.heap [] → lv_has ls nY (lv_args 0 vs) → W p l e (rD f L C1 Z1) s m args below meth c s.heap [] 0 0 (MQ below Qc args s C1 Z1 A) (F0 m 0 ls [])) :
    Met l y (wM y cy nY rY) (rD f L C1 Z1) (va_Pc vs (dPre D A G S)) Qc C1 Z1 A := by
  refine Met.ofW (cc := cy) (maxL := nY) (ret := rY) hy rfl ?_
  intro p e s m args below meth c s₁ B hml hv
  obtain ⟨rfl, hH, hV, hZ⟩ := hv
  have hts := atoms_spec (ws := wM y cy nY rY) B.pre
  rw [lg_entry_eq]
  exact body p e s m _ below meth c _ ⟨B.exec, B.bytes, B.returns, hml, findClass_of_methodNamed B.named, hts, B.notSynchronized, hV, hZ, (name_of_methodNamed B.named B.method).1, hst⟩ ⟨hH, va_S.rf⟩ (lv_entry vs hvs)
theorem x_head {vs : List Value} (hst : l.stackTraces = false) (hy : plainName y.cls = true) (hvs : (lg_sl vs).length ≤ nY)
    (body : ∀ p e s m args below meth c ls, dB p l s m args meth c D A G y.cls y.name cy nY rY (Cond.code y cy nY rY) → (∀ x ∈ c.exceptionTable.toList, False) → dOK D A G S s.heap s.heap [] → lv_has ls nY (lv_args 0 vs) → W p l e (rD f L C1 Z1) s m args below meth c s.heap [] 0 0 (vx_MQ below Qc XC args s C1 Z1 A) (F0 m 0 ls [])) :
    vx_Met l y (wM y cy nY rY) (rD f L C1 Z1) (va_Pc vs (dPre D A G S)) Qc XC C1 Z1 A := by
  refine vx_ofW (cc := cy) (maxL := nY) (ret := rY) hy rfl ?_
  intro p e s m args below meth c s₁ B hml hout hv
  obtain ⟨rfl, hH, hV, hZ⟩ := hv
  have hts := atoms_spec (ws := wM y cy nY rY) B.pre
  rw [lg_entry_eq]
  exact body p e s m _ below meth c _ ⟨B.exec, B.bytes, B.returns, hml, findClass_of_methodNamed B.named, hts, B.notSynchronized, hV, hZ, (name_of_methodNamed B.named B.method).1, hst⟩ hout ⟨hH, va_S.rf⟩ (lv_entry vs hvs)
end DC
