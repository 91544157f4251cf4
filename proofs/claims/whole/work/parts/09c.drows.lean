/-! RUNS WITH THEIR COST: (answer, world, cells, slots) -/
def tick {α : Type} (c z : Nat) (x : Option (α × DS × Nat × Nat)) : Option (α × DS × Nat × Nat) := match x with
  | some (r, S, C, Z) => some (r, S, c + C, z + Z)
  | none => none
theorem tick_e {α : Type} {c z C Z : Nat} {x : Option (α × DS × Nat × Nat)} {r : α} {S : DS} (h : tick c z x = some (r, S, C, Z)) : ∃ C1 Z1, x = some (r, S, C1, Z1) ∧ C = c + C1 ∧ Z = z + Z1 := by
  match x, h with
  | some (r0, S0, C0, Z0), h => cases h; exact ⟨C0, Z0, rfl, rfl, rfl⟩
  | none, h => cases h
/-- a call that returns -/
def bndc {α β : Type} (a : Option (β × DS × Nat × Nat)) (f : β → DS → Option (α × DS × Nat × Nat)) : Option (α × DS × Nat × Nat) := match a with
  | some (r, S, C, Z) => tick C Z (f r S)
  | none => none
theorem bndc_e {α β : Type} {a : Option (β × DS × Nat × Nat)} {f : β → DS → Option (α × DS × Nat × Nat)} {r : α} {S : DS} {C Z : Nat} (h : bndc a f = some (r, S, C, Z)) : ∃ r1 S1 C1 Z1 C2 Z2, a = some (r1, S1, C1, Z1) ∧ f r1 S1 = some (r, S, C2, Z2) ∧ C = C1 + C2 ∧ Z = Z1 + Z2 := by
  match a, h with
  | some (r1, S1, C1, Z1), h =>
    obtain ⟨C2, Z2, h1, h2, h3⟩ := tick_e h
    exact ⟨r1, S1, C1, Z1, C2, Z2, rfl, h1, h2, h3⟩
  | none, h => cases h
/-- a call that returns (0) or throws (1: IllegalArgumentException, 2: IllegalStateException) -/
def bndx {α β : Type} (d : α) (a : Option ((Nat × β) × DS × Nat × Nat)) (f : β → DS → Option ((Nat × α) × DS × Nat × Nat)) : Option ((Nat × α) × DS × Nat × Nat) := match a with
  | some ((k, r), S, C, Z) => if k = 0 then tick C Z (f r S) else some ((k, d), S, C, Z)
  | none => none
theorem bndx_e {α β : Type} {d : α} {a : Option ((Nat × β) × DS × Nat × Nat)} {f : β → DS → Option ((Nat × α) × DS × Nat × Nat)} {r : Nat × α} {S : DS} {C Z : Nat} (h : bndx d a f = some (r, S, C, Z)) :
    (∃ r1 S1 C1 Z1 C2 Z2, a = some ((0, r1), S1, C1, Z1) ∧ f r1 S1 = some (r, S, C2, Z2) ∧ C = C1 + C2 ∧ Z = Z1 + Z2) ∨ ∃ k r1, k ≠ 0 ∧ a = some ((k, r1), S, C, Z) ∧ r = (k, d) := by
  match a, h with
  | some ((k, r1), S1, C1, Z1), h =>
    unfold bndx at h
    by_cases e : k = 0
    · subst e
      dsimp only at h
      rw [if_pos rfl] at h
      obtain ⟨C2, Z2, h1, h2, h3⟩ := tick_e h
      exact Or.inl ⟨r1, S1, C1, Z1, C2, Z2, rfl, h1, h2, h3⟩
    · dsimp only at h
      rw [if_neg e] at h
      cases h
      exact Or.inr ⟨k, r1, e, rfl, rfl⟩
  | none, h => cases h
theorem rf_cat {x : Option Nat} : (va_rf x).category = 1 := by cases x <;> rfl
/-! what the tables say beside the good words, and the statics that are read -/
def dNW : List Cond := [.fieldLinkNest "PromiseDesk$Element" 23 "PromiseDesk" "threw" "Z" "PromiseDesk", .fieldLinkNest "PromiseDesk$Lastly" 25 "PromiseDesk" "threw" "Z" "PromiseDesk", .fieldLinkNest "PromiseDesk$Simple" 32 "PromiseDesk" "threw" "Z" "PromiseDesk", .castable "java/lang/IllegalStateException" "java/lang/IllegalStateException", .declares ⟨"java/lang/RuntimeException", "<init>", "(Ljava/lang/String;)V"⟩, .declares ⟨"java/lang/Exception", "<init>", "(Ljava/lang/String;)V"⟩, .declares ⟨"java/lang/Throwable", "<init>", "(Ljava/lang/String;)V"⟩, .castable "java/lang/IllegalArgumentException" "java/lang/IllegalArgumentException", .methodLinkNest "PromiseDesk$Simple" 3 yX3_init "PromiseDesk", .methodLinkNest "PromiseDesk$Lastly" 3 yX3_init "PromiseDesk", .castable "[I" "java/lang/Cloneable", .methodLinkNest "PromiseDesk$Element" 3 yX3_init "PromiseDesk", .methodLinkNest "PromiseDesk$Simple" 28 yX11_note "PromiseDesk", .methodLinkNest "PromiseDesk$Simple" 36 yX11_resolve "PromiseDesk", .methodLinkNest "PromiseDesk$Simple" 40 yX11_reject "PromiseDesk", .declares ⟨"PromiseDesk$Function", "callIn", "(LPromiseDesk;I)I"⟩, .methodLinkNest "PromiseDesk$Element" 31 yX11_newThing "PromiseDesk", .methodLinkNest "PromiseDesk$Element" 42 yX11_complete "PromiseDesk", .methodLinkNest "PromiseDesk$Lastly" 29 yX11_promiseFor "PromiseDesk", .methodLinkNest "PromiseDesk$Lastly" 36 yX11_derive "PromiseDesk", .castable "PromiseDesk$Promise" "PromiseDesk$Thing", .castable "PromiseDesk$Thenable" "PromiseDesk$Thing", .castable "PromiseDesk$Thing" "PromiseDesk$Thing", .castable "PromiseDesk$Promise" "PromiseDesk$Promise", .castable "PromiseDesk$Thenable" "PromiseDesk$Thenable", .castable "PromiseDesk$Simple" "PromiseDesk$Simple", .castable "PromiseDesk" "java/lang/Object", .castable "PromiseDeskModel" "java/lang/Object", .castable "PromiseDesk$Promise" "java/lang/Object", .castable "PromiseDesk$Resolvers" "java/lang/Object", .castable "PromiseDesk$Simple" "java/lang/Object", .castable "PromiseDesk$Thenable" "java/lang/Object", .castable "PromiseDesk$Thing" "java/lang/Object", .castable "PromiseDesk$Job" "java/lang/Object", .castable "PromiseDesk$Lastly" "java/lang/Object", .castable "PromiseDesk$Combination" "java/lang/Object", .castable "PromiseDesk$Element" "java/lang/Object", .castable "PromiseDesk$AsyncRun" "java/lang/Object"]
def dNC : List (String × String) := [("PromiseDesk$Thing", "PromiseDesk$Promise"), ("PromiseDesk$Thenable", "PromiseDesk$Promise"), ("PromiseDesk$Thing", "PromiseDesk$Thenable"), ("PromiseDesk$Promise", "PromiseDesk$Thenable"), ("java/lang/IllegalStateException", "java/lang/IllegalArgumentException")]
def dTx : List (Nat × String) := [(242, "no room for more objects"), (218, "out of range"), (223, "no value"), (227, "no promise"), (231, "not made by promise"), (67, "no more handlers"), (229, "no thenable"), (138, "the list is full"), (244, "the log is full"), (225, "no object"), (240, "it has no parts"), (215, "nothing of that number is counted")]
def dV (D : va_G) (G : DG) (s : State) : Prop := va_K D vwCl (dT G) s ∧ va_AO "java/lang/Object" s ∧ (∀ w ∈ dNW, va_Nw w s) ∧ (∀ q ∈ dNC, va_Nc q.1 q.2 s) ∧ (∀ q ∈ dTx, ∃ sa, vk_R "PromiseDesk" q.1 q.2 sa s) ∧ (∃ mi, va_Mi "[Ljava/lang/Object;" mi s) ∧ va_Dc s
theorem dNW_warm : ∀ w ∈ dNW, ∀ s U : State, s.WarmedH U.vm → va_Nw w s → va_Nw w U := by
  intro w hw s U hW h
  unfold dNW at hw
  repeat (first | (rcases List.mem_cons.mp hw with e | hw; · (subst e; first | exact va_Nw.warmF hW h | exact va_Nw.warmM hW h | exact va_Nw.warmC hW h | exact va_Nw.warmD hW h)))
  cases hw
theorem dNW_tab : ∀ w ∈ dNW, w.onTables = true := by decide +kernel
theorem dV.warm {D : va_G} {G : DG} {s U : State} (hW : s.WarmedH U.vm) (h : dV D G s) : dV D G U := by
  obtain ⟨h1, h2, h3, h4, h5, ⟨mi, h6⟩, h7⟩ := h
  exact ⟨va_K.moved hW.alike h1, va_AO.moved hW.alike h2, fun w hw => dNW_warm w hw s U hW (h3 w hw), fun q hq => va_Nc.moved hW.alike (h4 q hq), fun q hq => by obtain ⟨sa, h⟩ := h5 q hq; exact ⟨sa, vk_R.warm hW h⟩, ⟨mi, va_Mi.moved hW.alike h6⟩, va_Dc.moved hW.alike h7⟩
theorem dV.same {D : va_G} {G : DG} {s U : State} (hv : s.vm = U.vm) (h : dV D G s) : dV D G U := by
  obtain ⟨h1, h2, h3, h4, h5, ⟨mi, h6⟩, h7⟩ := h
  have ha : s.vm.Alike U.vm := by rw [hv]; exact Vm.Alike.refl _
  exact ⟨va_K.moved ha h1, va_AO.moved ha h2, fun w hw => va_Nw.same (dNW_tab w hw) hv (h3 w hw), fun q hq => va_Nc.moved ha (h4 q hq), fun q hq => by obtain ⟨sa, h⟩ := h5 q hq; exact ⟨sa, vk_R.same hv.symm h⟩, ⟨mi, va_Mi.moved ha h6⟩, va_Dc.moved ha h7⟩
def dZ (A : Nat → Prop) (G : DG) (s : State) (H : Heap) : Prop := va_Z "java/util/ArrayList" "DEFAULTCAPACITY_EMPTY_ELEMENTDATA" "[Ljava/lang/Object;" (.ref G.2.2) A s H ∧ vx_Zq Bundle.tN "UNASSIGNED_STACK" Bundle.steD A s H ∧ vx_Zq Bundle.tN "SUPPRESSED_SENTINEL" Bundle.listD A s H ∧ (∀ q : Nat, H.size ≤ q → A q) ∧ va_T (.object "java/lang/Object") G.2.2 0 (fun _ => .null) A s H
theorem dZ.moved {A : Nat → Prop} {G : DG} {s U : State} {H : Heap} (hvm : s.vm.Alike U.vm) (h : dZ A G s H) : dZ A G U H := ⟨va_Z.moved hvm h.1, vx_Zq.moved hvm h.2.1, vx_Zq.moved hvm h.2.2.1, h.2.2.2.1, va_T.moved hvm h.2.2.2.2⟩
theorem dZ.kept {A : Nat → Prop} {G : DG} {s : State} {H0 H : Heap} {locs : List Loc} (hS : va_S A H0 H locs) (h : dZ A G s H0) : dZ A G s H := ⟨va_Z.kept h.1 (fun a h1 h2 => hS.2.1 a h1 h2), vx_Zq.kept h.2.1 (fun a h1 h2 => hS.2.1 a h1 h2), vx_Zq.kept h.2.2.1 (fun a h1 h2 => hS.2.1 a h1 h2), fun q hq => h.2.2.2.1 q (Nat.le_trans hS.1 hq), va_T.kept h.2.2.2.2 (fun a h1 h2 => hS.2.1 a h1 h2)⟩
abbrev rD (f L C Z : Nat) : Room := { frames := f, cells := C, slots := Z, locals := L }
def dPre (D : va_G) (A : Nat → Prop) (G : DG) (S : DS) : State → Prop := fun U => dH D A G S U.heap ∧ dV D G U ∧ dZ A G U U.heap
def dPost (D : va_G) (A : Nat → Prop) (G : DG) : DS → State → Prop := fun S t => dH D A G S t.heap
/-- what holds in a body -/
def dB (p : Program) (l : Launch) (s : State) (m : MethodId) (args : Array Value) (meth : Method) (c : Code) (D : va_G) (A : Nat → Prop) (G : DG) (own nm : String) (cc : ByteArray) (nL : Nat) (ret : Option FieldType) (w0 : Cond) : Prop :=
  p.tables.exec = Jvm.exec ∧ c.code = cc ∧ meth.sig.returnType = ret ∧ c.maxLocals = nL ∧ s.vm.findClass own = some m.cls ∧ (∀ w ∈ w0 :: Tw, w.before args s = true) ∧ meth.locks = false ∧ dV D G s ∧ dZ A G s s.heap ∧ meth.name = nm ∧ l.stackTraces = false
section DR
variable {p : Program} {l : Launch} {e : Env} {R : Room} {s : State} {m : MethodId} {args : Array Value} {below : List Frame} {meth : Method} {c : Code} {H : Heap} {locs : List Loc} {cells slots : Nat} {Q : State → Prop}
variable {cc : ByteArray} {pc : Nat} {ls : Array Slot} {rest : List Value} {D : va_G} {A : Nat → Prop} {G : DG} {S : DS} {w0 : Cond} {nL a : Nat} {ret : Option FieldType} {own nm : String}
theorem d_get (B : dB p l s m args meth c D A G own nm cc nL ret w0) (hW : dOK D A G S s.heap H locs) {C ref : String} {T : u_T} {N ci index : Nat} {fs : List Value} (hin : ∀ w ∈ u_ws C T N, w ∈ Tw) (hc : vwCl[ci]? = some (C, T, N)) (hF : dF G S a = .inr (ci, fs)) (h0 : dK S a ≠ 0) (k : Nat) (hk : k < N) (hu : Cond.fieldLink own index ref (T k).2.1 (T k).2.2.1 ∈ Tw) (hs : (T k).1 = ref ∨ Cond.sameField ref (T k).1 (T k).2.1 (T k).2.2.1 ∈ Tw) {v : Value} (hv : fs[k]? = some v) (hdg : decode cc pc = .ok (.getfield index, 3))
    (kk : W p l e R s m args below meth c H locs cells slots Q (F0 m (pc + 3) ls (v :: rest))) : W p l e R s m args below meth c H locs cells slots Q (F0 m pc ls (.ref a :: rest)) := by
  obtain ⟨hx, hb, -, -, hown, hts, -, hV, -⟩ := B
  have hat := dH_atR hW.1 hF h0
  exact va_get (D := D) (ci := ci) (v := v) (C := C) (T := T) (N := N) hx hb hts (fun w h => List.mem_cons_of_mem _ (hin w h)) hown hV.1 (va_P1 hat) 0 rfl hc k hk (hts _ (List.mem_cons_of_mem _ hu)) (fun x h9 => by
    rcases hs with e | e
    · rw [e] at h9; exact h9
    · exact u_same (hts _ (List.mem_cons_of_mem _ e)) x h9) hv hdg kk
theorem d_put (B : dB p l s m args meth c D A G own nm cc nL ret w0) (hW : dOK D A G S s.heap H locs) {C ref : String} {T : u_T} {N ci index : Nat} {fs : List Value} (hin : ∀ w ∈ u_ws C T N, w ∈ Tw) (ty0 : Nat → FieldType) (hty : ∀ k, k < N → parseFieldDescriptor (T k).2.2.1 = some (ty0 k)) (hnm : ∀ a, a < N → ∀ b, b < N → a ≠ b → (T a).2.1 ≠ (T b).2.1) (hc : vwCl[ci]? = some (C, T, N)) (hF : dF G S a = .inr (ci, fs)) (h0 : dK S a ≠ 0) (h21 : dK S a ≠ 21) (k : Nat) (hk : k < N) (hu : Cond.fieldLink own index ref (T k).2.1 (T k).2.2.1 ∈ Tw) (hs : (T k).1 = ref ∨ Cond.sameField ref (T k).1 (T k).2.1 (T k).2.2.1 ∈ Tw) (hfin : (T k).2.2.2 = false ∨ ((T k).2.2.2 = true ∧ nm = "<init>" ∧ (T k).1 = own)) {ty : FieldType} {v : Value} (hd : parseFieldDescriptor (T k).2.2.1 = some ty) (hn : narrow ty v = v) (hfit : fits ty v = true) (hl : k < fs.length) {S1 : DS} (hF1 : dF G S1 a = .inr (ci, fs.set k v)) (h1 : dn S1 = dn S ∧ dK S1 = dK S ∧ dL S1 = dL S) (hf : ∀ b, b ≠ a → dF G S1 b = dF G S b) (hdg : decode cc pc = .ok (.putfield index, 3))
    (kk : ∀ (H1 : Heap) (locs1 : List Loc), dOK D A G S1 s.heap H1 locs1 → W p l e R s m args below meth c H1 locs1 cells slots Q (F0 m (pc + 3) ls rest)) : W p l e R s m args below meth c H locs cells slots Q (F0 m pc ls (v :: .ref a :: rest)) := by
  obtain ⟨hx, hb, -, -, hown, hts, -, hV, -, hnme, -⟩ := B
  have hat := dH_atR hW.1 hF h0
  have hA : A a := hW.1.2.2.1 a h0 (fun e => h21 (by rw [e]; exact hW.1.2.2.2.1))
  have hsm : ∀ x, s.fieldFound? (T k).1 (T k).2.1 (T k).2.2.1 = some x → s.fieldFound? ref (T k).2.1 (T k).2.2.1 = some x := fun x h9 => by
    rcases hs with e | e
    · rw [e] at h9; exact h9
    · exact u_same (hts _ (List.mem_cons_of_mem _ e)) x h9
  have hend : ∀ (H1 : Heap) (i : Nat), va_at D vwCl (a, .inr (ci, fs.set k v)) H1 → H1.size = H.size → (∀ q, q ≠ a → H1[q]? = H[q]?) → W p l e R s m args below meth c H1 (locs ++ [⟨a, i⟩]) cells slots Q (F0 m (pc + 3) ls rest) := fun H1 i hat1 z oq =>
    kk H1 _ ⟨dH_set hW.1 z oq (by rw [hF1]; exact hat1) h1.1 h1.2.1 h1.2.2 hf, hW.2.put z oq hA⟩
  rcases hfin with hf0 | ⟨hf1, hn1, hd1⟩
  · exact d_put0 hx hb hts (fun w h => List.mem_cons_of_mem _ (hin w h)) ty0 hty hnm hown hV.1 hat hc k hk (hts _ (List.mem_cons_of_mem _ hu)) hsm hf0 hd hn hfit hl hdg hend
  · exact d_putF0 hx hb hts (fun w h => List.mem_cons_of_mem _ (hin w h)) ty0 hty hnm hown hV.1 hat hc k hk (hts _ (List.mem_cons_of_mem _ hu)) hsm hf1 (hnme.trans hn1) hd1 hd hn hfit hl hdg hend
theorem d_putN (B : dB p l s m args meth c D A G own nm cc nL ret w0) (hW : dOK D A G S s.heap H locs) {C ref host : String} {T : u_T} {N ci index : Nat} {fs : List Value} (hin : ∀ w ∈ u_ws C T N, w ∈ Tw) (ty0 : Nat → FieldType) (hty : ∀ k, k < N → parseFieldDescriptor (T k).2.2.1 = some (ty0 k)) (hnm : ∀ a, a < N → ∀ b, b < N → a ≠ b → (T a).2.1 ≠ (T b).2.1) (hc : vwCl[ci]? = some (C, T, N)) (hF : dF G S a = .inr (ci, fs)) (h0 : dK S a ≠ 0) (h21 : dK S a ≠ 21) (k : Nat) (hk : k < N) (hu : Cond.fieldLinkNest own index ref (T k).2.1 (T k).2.2.1 host ∈ dNW) (hs : (T k).1 = ref) (hfin : (T k).2.2.2 = false) {ty : FieldType} {v : Value} (hd : parseFieldDescriptor (T k).2.2.1 = some ty) (hn : narrow ty v = v) (hfit : fits ty v = true) (hl : k < fs.length) {S1 : DS} (hF1 : dF G S1 a = .inr (ci, fs.set k v)) (h1 : dn S1 = dn S ∧ dK S1 = dK S ∧ dL S1 = dL S) (hf : ∀ b, b ≠ a → dF G S1 b = dF G S b) (hdg : decode cc pc = .ok (.putfield index, 3))
    (kk : ∀ (H1 : Heap) (locs1 : List Loc), dOK D A G S1 s.heap H1 locs1 → W p l e R s m args below meth c H1 locs1 cells slots Q (F0 m (pc + 3) ls rest)) : W p l e R s m args below meth c H locs cells slots Q (F0 m pc ls (v :: .ref a :: rest)) := by
  obtain ⟨hx, hb, -, -, hown, hts, -, hV, -⟩ := B
  have hat := dH_atR hW.1 hF h0
  have hA : A a := hW.1.2.2.1 a h0 (fun e => h21 (by rw [e]; exact hW.1.2.2.2.1))
  exact d_putN0 hx hb hts (fun w h => List.mem_cons_of_mem _ (hin w h)) ty0 hty hnm hown hV.1 hat hc k hk (va_Nw.use (dNW_tab _ hu) (hV.2.2.1 _ hu)) (fun x h9 => by rw [hs] at h9; exact h9) hfin hd hn hfit hl hdg
    (fun H1 i hat1 z oq => kk H1 _ ⟨dH_set hW.1 z oq (by rw [hF1]; exact hat1) h1.1 h1.2.1 h1.2.2 hf, hW.2.put z oq hA⟩)
theorem d_getN (B : dB p l s m args meth c D A G own nm cc nL ret w0) (hW : dOK D A G S s.heap H locs) {C ref host : String} {T : u_T} {N ci index : Nat} {fs : List Value} (hin : ∀ w ∈ u_ws C T N, w ∈ Tw) (hc : vwCl[ci]? = some (C, T, N)) (hF : dF G S a = .inr (ci, fs)) (h0 : dK S a ≠ 0) (k : Nat) (hk : k < N) (hu : Cond.fieldLinkNest own index ref (T k).2.1 (T k).2.2.1 host ∈ dNW) (hs : (T k).1 = ref) {v : Value} (hv : fs[k]? = some v) (hdg : decode cc pc = .ok (.getfield index, 3))
    (kk : W p l e R s m args below meth c H locs cells slots Q (F0 m (pc + 3) ls (v :: rest))) : W p l e R s m args below meth c H locs cells slots Q (F0 m pc ls (.ref a :: rest)) := by
  obtain ⟨hx, hb, -, -, hown, hts, -, hV, -⟩ := B
  have hat := dH_atR hW.1 hF h0
  exact va_getN (D := D) (ci := ci) (v := v) (C := C) (T := T) (N := N) hx hb hts (fun w h => List.mem_cons_of_mem _ (hin w h)) hown hV.1 (va_P1 hat) 0 rfl hc k hk (va_Nw.use (dNW_tab _ hu) (hV.2.2.1 _ hu)) (fun x h9 => by rw [hs] at h9; exact h9) hv hdg kk
theorem d_new (B : dB p l s m args meth c D A G own nm cc nL ret w0) (hW : dOK D A G S s.heap H locs) {C : String} {T : u_T} {N ci index kd C1 Z1 : Nat} {fs : List Value} (hin : ∀ w ∈ u_ws C T N, w ∈ Tw) (ty : Nat → FieldType) (hty : ∀ k, k < N → parseFieldDescriptor (T k).2.2.1 = some (ty k)) (hcl : Cond.classLink own index C ∈ Tw) (hinst : Cond.instantiable C N ∈ Tw) (hini : Cond.initialized C ∈ Tw) (hc : vwCl[ci]? = some (C, T, N)) (hfs : ∀ j, j < N → defaultValue (ty j) = vp_V fs j) (hF : ∀ S : DS, dF G (sO S kd) (dn S) = .inr (ci, fs)) (hT : cells + (1 + C1) = R.cells ∧ slots + (N + Z1) = R.slots) (hdg : decode cc pc = .ok (.new index, 3))
    (kk : ∀ (H1 : Heap) (cells1 slots1 q : Nat) (S1 : DS), q = dn S → S1 = sO S kd → dOK D A G S1 s.heap H1 locs → cells1 + C1 = R.cells ∧ slots1 + Z1 = R.slots → W p l e R s m args below meth c H1 locs cells1 slots1 Q (F0 m (pc + 3) ls (.ref q :: rest))) : W p l e R s m args below meth c H locs cells slots Q (F0 m pc ls rest) := by
  obtain ⟨hx, hb, -, -, hown, hts, -, hV, hZ, -⟩ := B
  have hsz := hW.1.1
  refine d_new0 hx hb hts (fun w h => List.mem_cons_of_mem _ (hin w h)) ty hty hown (hts _ (List.mem_cons_of_mem _ hcl)) (hts _ (List.mem_cons_of_mem _ hinst)) (hts _ (List.mem_cons_of_mem _ hini)) hV.1 hc hfs (by omega) (by omega) hdg (fun H1 hat z oq => ?_)
  have hA : A H.size := hZ.2.2.2.1 _ hW.2.1
  refine kk H1 _ _ _ _ hsz rfl ⟨dH_new hW.1 z oq (by rw [hsz, hF]; rw [hsz] at hat; exact hat) hA rfl (fun b hb => va_up_ne _ _ hb) (fun b hb => rfl) (fun b hb => dF_sO hb), Nat.le_trans hW.2.1 (by omega), fun x h1 h2 => (oq x (Nat.lt_of_lt_of_le h1 hW.2.1)).trans (hW.2.2.1 x h1 h2), hW.2.2.2⟩ (by omega)
theorem d_iald (B : dB p l s m args meth c D A G own nm cc nL ret w0) (hW : dOK D A G S s.heap H locs) (h : dK S a = 20) {i : Int32} (hin : inb i (dL S a)) (hdg : decode cc pc = .ok (.iaload, 1))
    (kk : W p l e R s m args below meth c H locs cells slots Q (F0 m (pc + 1) ls (.int (dX S a i.toNatClampNeg) :: rest))) : W p l e R s m args below meth c H locs cells slots Q (F0 m pc ls (.int i :: .ref a :: rest)) := by
  obtain ⟨hx, hb, -, -, hown, hts, -, hV, -⟩ := B
  have hat := dH_at20 hW.1 h
  exact va_iald hx hb hV.1 (va_P1 hat) 0 0 rfl rfl (vp_in_iff.mpr hin) hdg kk
theorem d_iast (B : dB p l s m args meth c D A G own nm cc nL ret w0) (hW : dOK D A G S s.heap H locs) (h : dK S a = 20) {i x : Int32} (hin : inb i (dL S a)) (hdg : decode cc pc = .ok (.iastore, 1))
    (kk : ∀ (H1 : Heap) (locs1 : List Loc) (S1 : DS), S1 = sX S a (upd (dX S a) i.toNatClampNeg x) → dOK D A G S1 s.heap H1 locs1 → W p l e R s m args below meth c H1 locs1 cells slots Q (F0 m (pc + 1) ls rest)) : W p l e R s m args below meth c H locs cells slots Q (F0 m pc ls (.int x :: .int i :: .ref a :: rest)) := by
  obtain ⟨hx, hb, -, -, hown, hts, -, hV, -⟩ := B
  have h0 : dK S a ≠ 0 := by rw [h]; decide
  have hat := dH_at20 hW.1 h
  have hA : A a := hW.1.2.2.1 a h0 (fun e9 => by rw [e9, hW.1.2.2.2.1] at h; cases h)
  refine d_iast0 hx hb hV.1 0 hat rfl hin hdg (fun H1 j hat1 z oq => ?_)
  have hF1 : dF G (sX S a (upd (dX S a) i.toNatClampNeg x)) a = .inl (G.1, dL S a, .inl (upd (dX S a) i.toNatClampNeg x)) := by
    rw [dF_20 (S := sX S a _) h]
    have e9 : dX (sX S a (upd (dX S a) i.toNatClampNeg x)) a = upd (dX S a) i.toNatClampNeg x := va_up_self _ _ _
    rw [e9]; rfl
  exact kk H1 _ _ rfl ⟨dH_set hW.1 z oq (by rw [hF1]; exact hat1) rfl rfl rfl (fun b hb => dF_sX hb), hW.2.put z oq hA⟩
theorem d_alen (B : dB p l s m args meth c D A G own nm cc nL ret w0) (hW : dOK D A G S s.heap H locs) (h : dK S a = 20 ∨ dK S a = 21) (hdg : decode cc pc = .ok (.arraylength, 1))
    (kk : W p l e R s m args below meth c H locs cells slots Q (F0 m (pc + 1) ls (.int (nI (dL S a)) :: rest))) : W p l e R s m args below meth c H locs cells slots Q (F0 m pc ls (.ref a :: rest)) := by
  obtain ⟨hx, hb, -, -, hown, hts, -, hV, hZ, -⟩ := B
  rcases h with h | h
  · exact va_alen hx hb hV.1 (va_P1 (dH_at20 hW.1 h)) 0 0 rfl rfl rfl hdg kk
  · by_cases e9 : a = G.2.2
    · subst e9
      rw [hW.1.2.2.2.2.1] at kk
      exact va_tlen hx hb hZ.2.2.2.2 hW.2 rfl hdg kk
    · exact va_alen hx hb hV.1 (va_P1 (dH_at21 hW.1 h e9)) 0 1 rfl rfl rfl hdg kk
theorem d_aald (B : dB p l s m args meth c D A G own nm cc nL ret w0) (hW : dOK D A G S s.heap H locs) (h : dK S a = 21) {i : Int32} (hin : inb i (dL S a)) (hdg : decode cc pc = .ok (.aaload, 1))
    (kk : W p l e R s m args below meth c H locs cells slots Q (F0 m (pc + 1) ls (va_rf (dY S a i.toNatClampNeg) :: rest))) : W p l e R s m args below meth c H locs cells slots Q (F0 m pc ls (.int i :: .ref a :: rest)) := by
  obtain ⟨hx, hb, -, -, hown, hts, -, hV, -⟩ := B
  have hat := dH_at21 hW.1 h (dH_neE hW.1 (by have := hin.1; have := hin.2; omega))
  exact va_aldq hx hb hV.1 (va_P1 hat) 0 1 rfl rfl (vp_in_iff.mpr hin) hdg kk
theorem d_newI (B : dB p l s m args meth c D A G own nm cc nL ret w0) (hW : dOK D A G S s.heap H locs) (harr : Cond.arrayClass .int ∈ Tw) {n : Int32} (hn : 0 ≤ n.toInt ∧ n.toInt < 100000) {C1 Z1 : Nat} (hT : cells + (1 + C1) = R.cells ∧ slots + (n.toNatClampNeg + Z1) = R.slots) (hdg : decode cc pc = .ok (.newarray .int, 2))
    (kk : ∀ (H1 : Heap) (cells1 slots1 q : Nat) (S1 : DS), q = dn S → S1 = sAI S n.toNatClampNeg (fun _ => 0) → dOK D A G S1 s.heap H1 locs → cells1 + C1 = R.cells ∧ slots1 + Z1 = R.slots → W p l e R s m args below meth c H1 locs cells1 slots1 Q (F0 m (pc + 2) ls (.ref q :: rest))) : W p l e R s m args below meth c H locs cells slots Q (F0 m pc ls (.int n :: rest)) := by
  obtain ⟨hx, hb, -, -, hown, hts, -, hV, hZ, -⟩ := B
  have hsz := hW.1.1
  have hcA : s.vm.findClass ("[" ++ FieldType.int.toString) = some G.1 := (hV.1.2 0 (G.1, .int) rfl).2
  refine d_newI0 (D := D) (cl := vwCl) hx hb (hts _ (List.mem_cons_of_mem _ harr)) hcA hn.1 hn.2 (by omega) (by omega) hdg (fun H1 hat z oq => ?_)
  have hA : A H.size := hZ.2.2.2.1 _ hW.2.1
  have hF1 : dF G (sAI S n.toNatClampNeg (fun _ => 0)) (dn S) = .inl (G.1, n.toNatClampNeg, .inl (fun _ => 0)) := by
    rw [dF_20 (S := sAI S n.toNatClampNeg (fun _ => 0)) (va_up_self _ _ _)]
    have e1 : dL (sAI S n.toNatClampNeg (fun _ => 0)) (dn S) = n.toNatClampNeg := va_up_self _ _ _
    have e2 : dX (sAI S n.toNatClampNeg (fun _ => 0)) (dn S) = fun _ => 0 := va_up_self _ _ _
    rw [e1, e2]
  refine kk H1 _ _ _ _ hsz rfl ⟨dH_new hW.1 z oq (by rw [hsz, hF1]; rw [hsz] at hat; exact hat) hA rfl (fun b hb => va_up_ne _ _ hb) (fun b hb => va_up_ne _ _ hb) (fun b hb => dF_sAI hb), Nat.le_trans hW.2.1 (by omega), fun x h1 h2 => (oq x (Nat.lt_of_lt_of_le h1 hW.2.1)).trans (hW.2.2.1 x h1 h2), hW.2.2.2⟩ (by omega)
theorem d_newO (B : dB p l s m args meth c D A G own nm cc nL ret w0) (hW : dOK D A G S s.heap H locs) {index : Nat} (hcl : Cond.classLink own index "java/lang/Object" ∈ Tw) {n : Int32} (hn : 0 ≤ n.toInt ∧ n.toInt < 100000) {C1 Z1 : Nat} (hT : cells + (1 + C1) = R.cells ∧ slots + (n.toNatClampNeg + Z1) = R.slots) (hdg : decode cc pc = .ok (.anewarray index, 3))
    (kk : ∀ (H1 : Heap) (cells1 slots1 q : Nat) (S1 : DS), q = dn S → S1 = sAO S n.toNatClampNeg (fun _ => none) → dOK D A G S1 s.heap H1 locs → cells1 + C1 = R.cells ∧ slots1 + Z1 = R.slots → W p l e R s m args below meth c H1 locs cells1 slots1 Q (F0 m (pc + 3) ls (.ref q :: rest))) : W p l e R s m args below meth c H locs cells slots Q (F0 m pc ls (.int n :: rest)) := by
  obtain ⟨hx, hb, -, -, hown, hts, -, hV, hZ, -⟩ := B
  have hsz := hW.1.1
  have hcA : s.vm.findClass ("[" ++ (FieldType.object "java/lang/Object").toString) = some G.2.1 := by
    obtain ⟨-, -, -, -, -, h4⟩ := (hV.1.2 1 (G.2.1, .object "java/lang/Object") rfl).2
    exact h4
  refine d_newO0 (D := D) (cl := vwCl) hx hb hown (hts _ (List.mem_cons_of_mem _ hcl)) hV.2.1 hcA hn.1 hn.2 (by omega) (by omega) hdg (fun H1 hat z oq => ?_)
  have hA : A H.size := hZ.2.2.2.1 _ hW.2.1
  have hF1 : dF G (sAO S n.toNatClampNeg (fun _ => none)) (dn S) = .inl (G.2.1, n.toNatClampNeg, .inr (.inr (.inr (.inr (fun _ => none))))) := by
    rw [dF_21 (S := sAO S n.toNatClampNeg (fun _ => none)) (va_up_self _ _ _)]
    have e1 : dL (sAO S n.toNatClampNeg (fun _ => none)) (dn S) = n.toNatClampNeg := va_up_self _ _ _
    have e2 : dY (sAO S n.toNatClampNeg (fun _ => none)) (dn S) = fun _ => none := va_up_self _ _ _
    rw [e1, e2]
  refine kk H1 _ _ _ _ hsz rfl ⟨dH_new hW.1 z oq (by rw [hsz, hF1]; rw [hsz] at hat; exact hat) hA rfl (fun b hb => va_up_ne _ _ hb) (fun b hb => va_up_ne _ _ hb) (fun b hb => dF_sAO hb), Nat.le_trans hW.2.1 (by omega), fun x h1 h2 => (oq x (Nat.lt_of_lt_of_le h1 hW.2.1)).trans (hW.2.2.1 x h1 h2), hW.2.2.2⟩ (by omega)
/-! references that may be null -/
theorem d_aload_n (hx : p.tables.exec = Jvm.exec) (hb : c.code = cc) {k : Fin 4} {i : Nat} {x : Option Nat} (hdg : decode cc pc = .ok (.aload_n k, 1)) (hi : (k : Nat) = i) (hl : ls[i]? = some (.val (va_rf x))) (kk : W p l e R s m args below meth c H locs cells slots Q (F0 m (pc + 1) ls (va_rf x :: rest))) : W p l e R s m args below meth c H locs cells slots Q (F0 m pc ls rest) := by
  cases x with
  | none => exact lv_aload_nN hx hb hdg hi hl kk
  | some y => exact lv_aload_n hx hb hdg hi hl kk
theorem d_aload (hx : p.tables.exec = Jvm.exec) (hb : c.code = cc) {i : Nat} {x : Option Nat} (hdg : decode cc pc = .ok (.aload i, 2)) (hl : ls[i]? = some (.val (va_rf x))) (kk : W p l e R s m args below meth c H locs cells slots Q (F0 m (pc + 2) ls (va_rf x :: rest))) : W p l e R s m args below meth c H locs cells slots Q (F0 m pc ls rest) := by
  cases x with
  | none => exact lv_aloadN hx hb hdg hl kk
  | some y => exact lv_aload hx hb hdg hl kk
theorem d_astore_n (hx : p.tables.exec = Jvm.exec) (hb : c.code = cc) {k : Fin 4} {i nL : Nat} {x : Option Nat} {lv lv' : List (Nat × Value)} (hdg : decode cc pc = .ok (.astore_n k, 1)) (hi : (k : Nat) = i) (h : lv_has ls nL lv) (hn : i < nL) (hl : (i, va_rf x) :: lv.filter (fun q => !(q.1 == i) && !(q.1 + 1 == i && q.2.category == 2)) = lv') (kk : ∀ ls' : Array Slot, lv_has ls' nL lv' → W p l e R s m args below meth c H locs cells slots Q (F0 m (pc + 1) ls' rest)) : W p l e R s m args below meth c H locs cells slots Q (F0 m pc ls (va_rf x :: rest)) := by
  cases x with
  | none => exact lv_astore_nN hx hb hdg hi h hn hl kk
  | some y => exact lv_astore_n hx hb hdg hi h hn hl kk
theorem d_astore (hx : p.tables.exec = Jvm.exec) (hb : c.code = cc) {i nL : Nat} {x : Option Nat} {lv lv' : List (Nat × Value)} (hdg : decode cc pc = .ok (.astore i, 2)) (h : lv_has ls nL lv) (hn : i < nL) (hl : (i, va_rf x) :: lv.filter (fun q => !(q.1 == i) && !(q.1 + 1 == i && q.2.category == 2)) = lv') (kk : ∀ ls' : Array Slot, lv_has ls' nL lv' → W p l e R s m args below meth c H locs cells slots Q (F0 m (pc + 2) ls' rest)) : W p l e R s m args below meth c H locs cells slots Q (F0 m pc ls (va_rf x :: rest)) := by
  cases x with
  | none => exact lv_astoreN hx hb hdg h hn hl kk
  | some y => exact lv_astore hx hb hdg h hn hl kk
theorem d_ifnull (hx : p.tables.exec = Jvm.exec) (hb : c.code = cc) {x : Option Nat} {off : Int} {tgt : Nat} (hdg : decode cc pc = .ok (.ifnull off, 3)) (ht : (pc : Int) + off = (tgt : Int)) (kt : x = none → W p l e R s m args below meth c H locs cells slots Q (F0 m tgt ls rest)) (kf : ¬ x = none → W p l e R s m args below meth c H locs cells slots Q (F0 m (pc + 3) ls rest)) : W p l e R s m args below meth c H locs cells slots Q (F0 m pc ls (va_rf x :: rest)) := by
  cases x with
  | none => exact lv_ifnullN hx hb hdg ht (kt rfl)
  | some y => exact lv_ifnull hx hb hdg (kf (fun h => nomatch h))
theorem d_ifnonnull (hx : p.tables.exec = Jvm.exec) (hb : c.code = cc) {x : Option Nat} {off : Int} {tgt : Nat} (hdg : decode cc pc = .ok (.ifnonnull off, 3)) (ht : (pc : Int) + off = (tgt : Int)) (kt : ¬ x = none → W p l e R s m args below meth c H locs cells slots Q (F0 m tgt ls rest)) (kf : x = none → W p l e R s m args below meth c H locs cells slots Q (F0 m (pc + 3) ls rest)) : W p l e R s m args below meth c H locs cells slots Q (F0 m pc ls (va_rf x :: rest)) := by
  cases x with
  | none => exact lv_ifnonnullN hx hb hdg (kf rfl)
  | some y => exact lv_ifnonnull hx hb hdg ht (kt (fun h => nomatch h))
end DR
