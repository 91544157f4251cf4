theorem rf_nO {c : String} {x : Option Nat} : narrow (.object c) (va_rf x) = va_rf x := by cases x <;> rfl
theorem rf_nA {t : FieldType} {x : Option Nat} : narrow (.array t) (va_rf x) = va_rf x := by cases x <;> rfl
theorem rf_fO {c : String} {x : Option Nat} : fits (.object c) (va_rf x) = true := by cases x <;> rfl
theorem rf_fA {t : FieldType} {x : Option Nat} : fits (.array t) (va_rf x) = true := by cases x <;> rfl
theorem catn : ∀ q ∈ ([] : List (Nat × Value)), q.2.category = 1 := fun _ h => nomatch h
theorem catc {i : Nat} {v : Value} {l : List (Nat × Value)} (h : v.category = 1) (t : ∀ q ∈ l, q.2.category = 1) : ∀ q ∈ (i, v) :: l, q.2.category = 1 := fun q hq => (List.mem_cons.mp hq).elim (fun e => by rw [e]; exact h) (t q)
theorem lv_flt {lv : List (Nat × Value)} {i : Nat} (h : ∀ q ∈ lv, q.2.category = 1) : lv.filter (fun q => !(q.1 == i) && !(q.1 + 1 == i && q.2.category == 2)) = lv.filter (fun q => !(q.1 == i)) := by
  apply List.filter_congr
  intro q hq
  simp [h q hq]
section DL
variable {p : Program} {l : Launch} {e : Env} {R : Room} {s : State} {m : MethodId} {args : Array Value} {below : List Frame} {meth : Method} {c : Code} {H : Heap} {locs : List Loc} {cells slots : Nat} {Q : State → Prop}
variable {cc : ByteArray} {pc : Nat} {ls : Array Slot} {rest : List Value} {D : va_G} {A : Nat → Prop} {G : DG} {S : DS} {w0 : Cond} {nL a : Nat} {ret : Option FieldType} {own nm : String}
variable {y : MethodName} {cy : ByteArray} {nY idx n f L C1 Z1 C2 Z2 : Nat} {rY : Option FieldType} {As st : List Value} {Qc : Array Value → State → Outcome → State → Prop}
theorem e_istore_n (hx : p.tables.exec = Jvm.exec) (hb : c.code = cc) {k : Fin 4} {i nL : Nat} {x : Int32} {lv lv' : List (Nat × Value)} (hdg : decode cc pc = .ok (.istore_n k, 1)) (hi : (k : Nat) = i) (h : lv_has ls nL lv) (hn : i < nL) (hcat : ∀ q ∈ lv, q.2.category = 1) (hl : (i, Value.int x) :: lv.filter (fun q => !(q.1 == i)) = lv') (kk : ∀ ls' : Array Slot, lv_has ls' nL lv' → W p l e R s m args below meth c H locs cells slots Q (F0 m (pc + 1) ls' rest)) : W p l e R s m args below meth c H locs cells slots Q (F0 m pc ls (.int x :: rest)) :=
  lv_istore_n hx hb hdg hi h hn (by rw [lv_flt hcat]; exact hl) kk
theorem e_istore (hx : p.tables.exec = Jvm.exec) (hb : c.code = cc) {i nL : Nat} {x : Int32} {lv lv' : List (Nat × Value)} (hdg : decode cc pc = .ok (.istore i, 2)) (h : lv_has ls nL lv) (hn : i < nL) (hcat : ∀ q ∈ lv, q.2.category = 1) (hl : (i, Value.int x) :: lv.filter (fun q => !(q.1 == i)) = lv') (kk : ∀ ls' : Array Slot, lv_has ls' nL lv' → W p l e R s m args below meth c H locs cells slots Q (F0 m (pc + 2) ls' rest)) : W p l e R s m args below meth c H locs cells slots Q (F0 m pc ls (.int x :: rest)) :=
  lv_istore hx hb hdg h hn (by rw [lv_flt hcat]; exact hl) kk
theorem e_astore_n (hx : p.tables.exec = Jvm.exec) (hb : c.code = cc) {k : Fin 4} {i nL : Nat} {x : Option Nat} {lv lv' : List (Nat × Value)} (hdg : decode cc pc = .ok (.astore_n k, 1)) (hi : (k : Nat) = i) (h : lv_has ls nL lv) (hn : i < nL) (hcat : ∀ q ∈ lv, q.2.category = 1) (hl : (i, va_rf x) :: lv.filter (fun q => !(q.1 == i)) = lv') (kk : ∀ ls' : Array Slot, lv_has ls' nL lv' → W p l e R s m args below meth c H locs cells slots Q (F0 m (pc + 1) ls' rest)) : W p l e R s m args below meth c H locs cells slots Q (F0 m pc ls (va_rf x :: rest)) :=
  d_astore_n hx hb hdg hi h hn (by rw [lv_flt hcat]; exact hl) kk
theorem e_astore (hx : p.tables.exec = Jvm.exec) (hb : c.code = cc) {i nL : Nat} {x : Option Nat} {lv lv' : List (Nat × Value)} (hdg : decode cc pc = .ok (.astore i, 2)) (h : lv_has ls nL lv) (hn : i < nL) (hcat : ∀ q ∈ lv, q.2.category = 1) (hl : (i, va_rf x) :: lv.filter (fun q => !(q.1 == i)) = lv') (kk : ∀ ls' : Array Slot, lv_has ls' nL lv' → W p l e R s m args below meth c H locs cells slots Q (F0 m (pc + 2) ls' rest)) : W p l e R s m args below meth c H locs cells slots Q (F0 m pc ls (va_rf x :: rest)) :=
  d_astore hx hb hdg h hn (by rw [lv_flt hcat]; exact hl) kk
theorem e_iinc (hx : p.tables.exec = Jvm.exec) (hb : c.code = cc) {i nL k : Nat} {n : Int} {x v : Int32} {lv lv' : List (Nat × Value)} (hdg : decode cc pc = .ok (.iinc i n, 3)) (h : lv_has ls nL lv) (hk : lv[k]? = some (i, .int x)) (hv : x + Int32.ofInt n = v) (hn : i < nL) (hcat : ∀ q ∈ lv, q.2.category = 1) (hl : (i, Value.int v) :: lv.filter (fun q => !(q.1 == i)) = lv') (kk : ∀ ls' : Array Slot, lv_has ls' nL lv' → W p l e R s m args below meth c H locs cells slots Q (F0 m (pc + 3) ls' rest)) : W p l e R s m args below meth c H locs cells slots Q (F0 m pc ls rest) :=
  lv_iinc hx hb hdg h hk hv hn (by rw [lv_flt hcat]; exact hl) kk
/-- Object's constructor -/
theorem d_oinit (B : dB p l s m args meth c D A G own nm cc nL ret w0) (hl : ls.size = nL) (h1 : Cond.methodLink own idx Lib.objectInit ∈ Tw) (h2 : Cond.instanceMethod Lib.objectInit ∈ Tw) (h3 : Cond.code Lib.objectInit ⟨#[0xb1]⟩ 1 none ∈ Tw) (hR : 1 ≤ R.frames ∧ (rest.map fun v => v.category).sum + 12 ≤ R.locals) (hdg : decode cc pc = .ok (.invokespecial idx, 3))
    (kk : W p l e R s m args below meth c H locs cells slots Q (F0 m (pc + 3) ls rest)) : W p l e R s m args below meth c H locs cells slots Q (F0 m pc ls (.ref a :: rest)) := by
  obtain ⟨hx, hb, -, hml, hown, hts, -⟩ := B
  exact W.objInit hx hb hown (hts _ (List.mem_cons_of_mem _ h1)) (hts _ (List.mem_cons_of_mem _ h2)) (hts _ (List.mem_cons_of_mem _ h3)) rfl (by rw [hml]; exact hl) rfl hdg hR.1 (by show 2 * 0 + _ + 12 ≤ _; omega) kk
/-- a nest mate's private constructor -/
theorem d_runIN {host : String} (B : dB p l s m args meth c D A G own nm cc nL ret w0) (hW : dOK D A G S s.heap H locs) (hl : ls.size = nL) (hM : Met l y (wM y cy nY none) (rD f L C1 Z1) (va_Pc (.ref a :: As) (dPre D A G S)) Qc C1 Z1 A) (h1 : Cond.methodLinkNest own idx y host ∈ dNW) (h2 : Cond.instanceMethod y ∈ Tw) (h3 : Cond.initialized y.cls ∈ Tw) (h4 : Cond.code y cy nY none ∈ Tw) (hi : y.name = "<init>") (hY : dY1 y n) (hn : As.length = n) (hR : f + 1 ≤ R.frames ∧ 8 + (nY + 11) + L ≤ R.locals) (hT : cells + (C1 + C2) = R.cells ∧ slots + (Z1 + Z2) = R.slots) (hst : st = As.reverse ++ .ref a :: rest) (hr8 : (rest.map fun v => v.category).sum ≤ 8) (hdg : decode cc pc = .ok (.invokespecial idx, 3)) :
    va_Run p l e R s m args below meth c H locs cells slots C1 Z1 (F0 m pc ls st) rest (Qc (Value.ref a :: As).toArray) A := by
  obtain ⟨hx, hb, -, hml, hown, hts, -, hV, hZ, -⟩ := B
  exact va_runIN (As := As) (rest := rest) ⟨hx, hb, hml, hown, hts⟩ hM ⟨va_cnB n hts (g_all h4) rfl rfl rfl (hV.2.2.1 _ h1) (hts _ (List.mem_cons_of_mem _ h3)) hY hR, hi, hts _ (List.mem_cons_of_mem _ h2)⟩
    ⟨dPre_blind, fun U hU hWm => ⟨rfl, dPre_at hV hZ hW hU hWm⟩⟩ rfl hn hl hst (lv_room (m := m) (pc := pc) (ls := ls) (rest := rest) hr8) hdg (by omega)
/-- Function.callIn, by the class of the receiver -/
theorem d_runU {yy : MethodName} {C : String} (B : dB p l s m args meth c D A G own nm cc nL ret w0) (hW : dOK D A G S s.heap H locs) (hl : ls.size = nL) (hr : ∃ cell : Cell, H[a]? = some cell ∧ cell.vm.isStatics = false ∧ s.vm.findClass C = some cell.cls) (hM : Met l yy (wM yy cy nY rY) (rD f L C1 Z1) (va_Pc (.ref a :: As) (dPre D A G S)) Qc C1 Z1 A) (h1 : Cond.methodLink own idx y ∈ Tw) (h2 : Cond.sameMethod y.cls y.cls y.name y.desc ∈ Tw) (h3 : Cond.selects C y yy ∈ Tw) (h4 : Cond.instanceMethod yy ∈ Tw) (h5 : Cond.initialized yy.cls ∈ Tw) (h6 : Cond.code yy cy nY rY ∈ Tw) (h7 : Cond.declares ⟨y.cls, y.name, y.desc⟩ ∈ dNW) (hY : y.cls ≠ "java/lang/invoke/MethodHandle" ∧ y.cls ≠ "java/lang/invoke/VarHandle" ∧ (parseMethodDescriptor y.desc).map (fun d => d.parameters.length) = some n) (hn : As.length = n) (hR : f + 1 ≤ R.frames ∧ 8 + (nY + 11) + L ≤ R.locals) (hT : cells + (C1 + C2) = R.cells ∧ slots + (Z1 + Z2) = R.slots) (hst : st = As.reverse ++ .ref a :: rest) (hr8 : (rest.map fun v => v.category).sum ≤ 8) (hdg : decode cc pc = .ok (.invokevirtual idx, 3)) :
    va_Run p l e R s m args below meth c H locs cells slots C1 Z1 (F0 m pc ls st) rest (Qc (Value.ref a :: As).toArray) A := by
  obtain ⟨hx, hb, -, hml, hown, hts, -, hV, hZ, -⟩ := B
  have hG : GoodIn (w0 :: Tw) (va_wsU own idx C y.cls y yy (wM yy cy nY rY)) := by
    intro w h
    rcases List.mem_append.mp h with h | h
    · have hw : w ∈ Tw := by
        rcases List.mem_cons.mp h with e | h
        · rw [e]; exact h1
        rcases List.mem_cons.mp h with e | h
        · rw [e]; exact h2
        rcases List.mem_cons.mp h with e | h
        · rw [e]; exact h3
        rcases List.mem_cons.mp h with e | h
        · rw [e]; exact h4
        rcases List.mem_cons.mp h with e | h
        · rw [e]; exact h5
        · cases h
      exact ⟨List.mem_cons_of_mem _ hw, Tw_good hw⟩
    · exact g_all h6 w h
  exact va_runU (As := As) (rest := rest) ⟨hx, hb, hml, hown, hts⟩ hM (va_cwA n hts hG rfl rfl rfl (hV.2.2.1 _ h7) hY hR)
    ⟨dPre_blind, hr, fun U hU hWm => ⟨rfl, dPre_at hV hZ hW hU hWm⟩⟩ rfl hn hl hst (lv_room (m := m) (pc := pc) (ls := ls) (rest := rest) hr8) hdg (by omega)
theorem d_nmI (hV : dV D G s) : s.vm.findClass "[I" = some G.1 := by
  have h := (hV.1.2 0 (G.1, .int) rfl).2
  have h : s.vm.findClass ("[" ++ FieldType.int.toString) = some G.1 := h
  rw [show "[" ++ FieldType.int.toString = "[I" by decide +kernel] at h
  exact h
theorem d_castI (B : dB p l s m args meth c D A G own nm cc nL ret w0) (hW : dOK D A G S s.heap H locs) (h : dK S a = 20) (hk : Cond.classLink own idx "[I" ∈ Tw) (hdg : decode cc pc = .ok (.checkcast idx, 3))
    (kk : W p l e R s m args below meth c H locs cells slots Q (F0 m (pc + 3) ls (.ref a :: rest))) : W p l e R s m args below meth c H locs cells slots Q (F0 m pc ls (.ref a :: rest)) := by
  obtain ⟨hx, hb, -, -, hown, hts, -, hV, -⟩ := B
  have hat := dH_at20 hW.1 h
  exact va_castA hx hb hown (hts _ (List.mem_cons_of_mem _ hk)) (va_P1 hat) 0 rfl (d_nmI hV) hdg kk
theorem d_ldcM {mi : Nat} (B : dB p l s m args meth c D A G own nm cc nL ret w0) (hm : va_Mi "[Ljava/lang/Object;" mi s) (hk : Cond.classLink own idx "[Ljava/lang/Object;" ∈ Tw) (hdg : decode cc pc = .ok (.ldc idx, 2))
    (kk : W p l e R s m args below meth c H locs cells slots Q (F0 m (pc + 2) ls (.ref mi :: rest))) : W p l e R s m args below meth c H locs cells slots Q (F0 m pc ls rest) := by
  obtain ⟨hx, hb, -, -, hown, hts, -, hV, -⟩ := B
  exact va_ldcM hx hb hown (hts _ (List.mem_cons_of_mem _ hk)) hm hdg kk
end DL
