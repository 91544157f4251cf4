def R_law : String := "PromiseDeskLaw"
def lw_P (b : Addr) (xs : List Int32) (args : Array Value) (s : State) : Prop := args = #[.ref b] ∧ s.IntsAt b xs ∧ xs.length ≤ 3072 ∧ (Jvm.Cond.and given_1 narrow_1).before args s = true
def lw_Q (_ : Array Value) (s : State) (o : Outcome) (t : State) : Prop := o = .returned (some (.int 1)) ∧ Framed s o t [] 601024 7293034
def lw_Z (below : List Frame) (a : Array Value) (s : State) : State → Prop := fun t => ∃ o, t.status = .running ∧ Ended t below o ∧ lw_Q a s o t
/-- the law's own end, with 1 on the stack, nothing written that was there before, its room as the claim has it -/
theorem lw_ret {p : Program} {l : Launch} {e : Env} {s : State} {m : MethodId} {below : List Frame} {meth : Method} {c : Code} {b : Nat} (hx : p.tables.exec = Jvm.exec) (hb : c.code = code) (hr : meth.sig.returnType = ret) (hlocks : meth.locks = false) {pc : Nat} {H : Heap} {ls : Array Slot} (hdg : decode code pc = .ok (.ireturn, 1)) : W p l e room_1 s m #[Value.ref b] below meth c H [] 601024 7293034 (lw_Z below #[Value.ref b] s) (F0 m pc ls [.int 1]) := by
  intro T hT X
  obtain ⟨fs, hret, hrun, hended, hW, hframe⟩ := X.leave (v := some (.int 1)) (hlocks := hlocks) (fun h => by rw [hr] at h; cases h)
  have hmeth' : T.vm.method? m = some meth := X.method'
  refine ⟨T.setFrames fs, ?_, .returned (some (.int 1)), hrun, hended, rfl, ⟨_, rfl⟩, hW, hframe⟩
  jvm_step X.here [X.here.top, hx, hb, hdg, hmeth', hr, ret, narrow_b1]
  (try refine ⟨rfl, ?_⟩); (try refine ⟨rfl, ?_⟩)
  first | (intro acts; rw [hret _ acts rfl rfl rfl]) | rw [hret _ _ rfl rfl rfl]
  exact Steps.refl _
/-- what holds at the law's entry: the machine, the code, the tables' words (any of lw_tbl by 'hts w (by decide +kernel)'), the script of L ints xs at the cell b, what the Statement gives of the start (any of its parts by flat_of_before) -/
def lw_At (p : Program) (s : State) (m : MethodId) (meth : Method) (c : Code) (b L : Nat) (xs : Nat → Int32) : Prop :=
  p.tables.exec = Jvm.exec ∧ c.code = code ∧ meth.sig.returnType = ret ∧ c.maxLocals = 7 ∧ s.vm.findClass R_law = some m.cls ∧ (∀ w ∈ lw_tbl, w.before #[Value.ref b] s = true) ∧ va_X b L xs s s.heap ∧ b < s.heap.size ∧ meth.locks = false ∧ (Jvm.Cond.and given_1 narrow_1).before #[Value.ref b] s = true
/-! THE LAW'S WORLD: the desk's objects, the reference's, out; what holds all along -/
abbrev lAm (hm : Nat) : Nat → Prop := fun q => hm ≤ q ∧ q < hm + 1 + 40
abbrev lAd (n0 hm o : Nat) : Nat → Prop := fun q => n0 ≤ q ∧ ¬ lAm hm q ∧ q ≠ o
def bz (x : Int32) : Int32 := if x = 0 then 0 else 1
/-- what the tables say at the start -/
def LF (p : Program) (l : Launch) (s : State) (m : MethodId) (args : Array Value) (meth : Method) (c : Code) (D : va_G) (G : DG) (Gm : MG) (cJ : ClassId) (o : Nat) : Prop :=
  p.tables.exec = Jvm.exec ∧ c.code = code ∧ c.maxLocals = 7 ∧ s.vm.findClass R_law = some m.cls ∧ (∀ w ∈ Tw, w.before args s = true) ∧ l.stackTraces = false ∧ dV D G s ∧ va_K D vwCl (mT Gm) s ∧ (ArrOfT s cJ .long ∧ va_RA s cJ .long) ∧
  (va_Z "java/util/ArrayList" "DEFAULTCAPACITY_EMPTY_ELEMENTDATA" "[Ljava/lang/Object;" (.ref G.2.2) (fun q => s.heap.size ≤ q) s s.heap ∧ vx_Zq Bundle.tN "UNASSIGNED_STACK" Bundle.steD (fun q => s.heap.size ≤ q) s s.heap ∧ vx_Zq Bundle.tN "SUPPRESSED_SENTINEL" Bundle.listD (fun q => s.heap.size ≤ q) s s.heap ∧ va_T (.object "java/lang/Object") G.2.2 0 (fun _ => .null) (fun q => s.heap.size ≤ q) s s.heap) ∧ G.2.2 < s.heap.size ∧ s.heap.size ≤ Gm.2.2.1 ∧ s.heap.size ≤ o ∧ ¬ lAm Gm.2.2.1 o
def LW (D : va_G) (G : DG) (Gm : MG) (cJ : ClassId) (o : Nat) (s : State) (S : DS) (M : MS) (f : Nat → Int64) (H : Heap) : Prop :=
  dH D (lAd s.heap.size Gm.2.2.1 o) G S H ∧ va_P D vwCl (mW Gm M) H ∧ va_D (lAm Gm.2.2.1) (mW Gm M) ∧ H[o]? = some (vp_cell cJ (1, .inr (.inl f))) ∧ s.heap.size ≤ H.size ∧ (∀ q, q < s.heap.size → H[q]? = s.heap[q]?) ∧ Gm.2.2.1 + 1 + 40 ≤ H.size
section LL
variable {p : Program} {l : Launch} {e : Env} {R : Room} {s : State} {m : MethodId} {args : Array Value} {below : List Frame} {meth : Method} {c : Code} {H : Heap} {cells slots : Nat} {Q : State → Prop}
variable {pc : Nat} {ls : Array Slot} {rest st As : List Value} {D : va_G} {G : DG} {Gm : MG} {S : DS} {M : MS} {o : Nat} {cJ : ClassId} {f : Nat → Int64}
variable {y : MethodName} {cy : ByteArray} {nY idx n ff L C1 Z1 : Nat} {rY : Option FieldType} {hh : List (Nat × Nat × Nat × Nat)}
theorem L_dPre (F : LF p l s m args meth c D G Gm cJ o) (hW : LW D G Gm cJ o s S M f H) {U : State} (hU : U.heap = H) (hWm : s.WarmedH U.vm) : dPre D (lAd s.heap.size Gm.2.2.1 o) G S U := by
  obtain ⟨-, -, -, -, -, -, hV, -, -, ⟨hz1, hz2, hz3, hz4⟩, -, hg1, hg2, -⟩ := F
  obtain ⟨w1, w2, w3, w4, w5, w6, w7⟩ := hW
  have hol : o < H.size := (Array.getElem?_eq_some_iff.mp w4).1
  have hnar : ∀ q, lAd s.heap.size Gm.2.2.1 o q → s.heap.size ≤ q := fun q h => h.1
  have hk : ∀ a : Nat, a < s.heap.size → ¬ s.heap.size ≤ a → H[a]? = s.heap[a]? := fun a h1 _ => w6 a h1
  refine ⟨by rw [hU]; exact w1, dV.warm hWm hV, ?_⟩
  rw [hU]
  exact ⟨va_Z.moved hWm.alike (va_Z.narrow (va_Z.kept hz1 hk) hnar), vx_Zq.moved hWm.alike (vx_Zq.narrow (vx_Zq.kept hz2 hk) hnar), vx_Zq.moved hWm.alike (vx_Zq.narrow (vx_Zq.kept hz3 hk) hnar), fun q hq => ⟨by omega, fun h9 => by have := h9.2; omega, by omega⟩, va_T.moved hWm.alike (va_T.narrow (va_T.kept hz4 hk) hnar)⟩
/-- behind a call that changes what is new alone: the world again -/
theorem L_back (F : LF p l s m args meth c D G Gm cJ o) (hW : LW D G Gm cJ o s S M f H) {H1 : Heap} {S1 : DS} {M1 : MS} {f1 : Nat → Int64} {A1 : Nat → Prop} (hz : H.size ≤ H1.size) (hk : ∀ q : Nat, q < H.size → ¬ A1 q → H1[q]? = H[q]?) (hA : ∀ q, A1 q → s.heap.size ≤ q) (h1 : ∃ n, dH D (lAd s.heap.size Gm.2.2.1 o) G (n, S1.2) H1) (h2 : va_P D vwCl (mW Gm M1) H1) (h3 : va_D (lAm Gm.2.2.1) (mW Gm M1)) (h4 : H1[o]? = some (vp_cell cJ (1, .inr (.inl f1)))) : LW D G Gm cJ o s (H1.size, S1.2) M1 f1 H1 := by
  obtain ⟨w1, w2, w3, w4, w5, w6, w7⟩ := hW
  obtain ⟨n, hn⟩ := h1
  have h6 : G.2.2 < n := hn.2.2.2.2.2
  have h7 : H1.size = n := hn.1
  exact ⟨⟨rfl, hn.2.1, hn.2.2.1, hn.2.2.2.1, hn.2.2.2.2.1, by show G.2.2 < H1.size; omega⟩, h2, h3, h4, by omega, fun q hq => (hk q (by omega) (fun h9 => by have := hA q h9; omega)).trans (w6 q hq), by omega⟩
theorem L_keepM (hW : LW D G Gm cJ o s S M f H) {H1 : Heap} (hk : ∀ q : Nat, q < H.size → lAm Gm.2.2.1 q → H1[q]? = H[q]?) : va_P D vwCl (mW Gm M) H1 := hW.2.1.kept (fun k q hq => hk q.1 ((hW.2.1 k q hq).lt) (hW.2.2.1.2 k q hq))
theorem L_help {rr : Int32} {S' : DS} {x : Int64} (F : LF p l s m args meth c D G Gm cJ o) (hW : LW D G Gm cJ o s S M f H) (hl : ls.size = 7) (hM : Met l y (wL y cy nY hh) (rD ff L C1 Z1) (va_Pc As (lPre D (lAd s.heap.size Gm.2.2.1 o) G S o cJ f)) (lQ D (lAd s.heap.size Gm.2.2.1 o) G o cJ rr S' x) C1 Z1 (lA (lAd s.heap.size Gm.2.2.1 o) o)) (h1 : Cond.methodLink R_law idx y ∈ Tw) (h2 : Cond.static y ∈ Tw) (h3 : Cond.initialized y.cls ∈ Tw) (h4 : Cond.codeWith y cy nY (some .int) hh ∈ Tw) (hY : dY1 y n) (hn : As.length = n) (hR : ff + 1 ≤ room_1.frames ∧ 8 + (nY + 11) + L ≤ room_1.locals) (hc : cells + C1 ≤ 601024 ∧ slots + Z1 ≤ 7293034) (hst : st = As.reverse ++ rest) (hr8 : (rest.map fun v => v.category).sum ≤ 8) (hdg : decode code pc = .ok (.invokestatic idx, 3))
    (kk : ∀ (H1 : Heap) (f1 : Nat → Int64), f1 0 = x → LW D G Gm cJ o s (H1.size, S'.2) M f1 H1 → W p l e room_1 s m args below meth c H1 [] (cells + C1) (slots + Z1) Q (F0 m (pc + 3) ls (.int rr :: rest))) : W p l e room_1 s m args below meth c H [] cells slots Q (F0 m pc ls st) := by
  have F0' := F
  obtain ⟨hx, hb, hml, hown, hts, hstt, hV, hKm, hJ, hz, hg0, hg1, hg2, hg3⟩ := F
  have hts2 : ∀ w ∈ Cond.initialized "PromiseDeskLaw" :: Tw, w.before args s = true := fun w h => (List.mem_cons.mp h).elim (fun e9 => by rw [e9]; exact hts _ u_0) (hts w)
  have hrun : va_Run p l e room_1 s m args below meth c H [] cells slots C1 Z1 (F0 m pc ls st) rest (lQ D (lAd s.heap.size Gm.2.2.1 o) G o cJ rr S' x As.toArray) (lA (lAd s.heap.size Gm.2.2.1 o) o) :=
    vx_runSW (As := As) (rest := rest) ⟨hx, hb, hml, hown, hts2⟩ hM (vx_cwSW n hts2 (g_S h1 h2 h3 h4) rfl rfl rfl hY hR)
      ⟨lPre_blind, fun U hU hWm => ⟨rfl, L_dPre F0' hW hU hWm, by rw [hU]; exact hW.2.2.2.1, ⟨fun h9 => h9.2.2 rfl, by omega⟩, arrOfT_moved hWm.alike hJ.1, va_RA.moved hWm.alike hJ.2⟩⟩ rfl hn hl hst (lv_room (m := m) (pc := pc) (ls := ls) (rest := rest) hr8) hdg hc
  have hAs : ∀ q, lA (lAd s.heap.size Gm.2.2.1 o) o q → s.heap.size ≤ q := fun q h => h.elim (fun h => h.1) (fun h => by rw [h]; exact hg2)
  refine va_calli hrun (A0 := fun q => s.heap.size ≤ q) (H0 := s.heap) ⟨hW.2.2.2.2.1, fun q h1 _ => hW.2.2.2.2.2.1 q h1, fun _ h => nomatch h⟩ (fun q _ h => hAs q h) hAs (fun r1 u t H1 locs1 ht hvm hw hB hz1 hk1 hS => ?_)
  obtain ⟨u1, u2⟩ := u
  obtain ⟨rfl, e1, hx1⟩ := hw
  have e1 : u1 = S' := e1
  subst e1
  obtain ⟨hB1, hB2⟩ := hB
  rw [ht] at hB1 hB2
  refine va_forget (fun q hq => hS.2.2 q hq) ?_
  have hP2 := L_keepM hW (H1 := H1) (fun q hq hm => hk1 q hq (fun h9 => h9.elim (fun h => h.2.1 hm) (fun h => hg3 (by rw [← h]; exact hm))))
  exact kk H1 u2 hx1 (L_back F0' hW hz1 hk1 hAs hB1 hP2 hW.2.2.1 hB2)
theorem L_model {f9 L9 : Nat} {r : Int32} {M1 : MS} (F : LF p l s m args meth c D G Gm cJ o) (hW : LW D G Gm cJ o s S M f H) (hl : ls.size = 7) (hM : Met l y (wM y cy nY rY) (rM f9 L9) (va_Pc (.ref Gm.2.2.1 :: As) (mPre D (lAm Gm.2.2.1) Gm M)) (mQi D (lAm Gm.2.2.1) Gm r M1) 0 0 (lAm Gm.2.2.1)) (h1 : Cond.methodLink R_law idx y ∈ Tw) (h2 : Cond.instanceMethod y ∈ Tw) (h3 : Cond.selects y.cls y y ∈ Tw) (h3b : Cond.initialized y.cls ∈ Tw) (h4 : Cond.code y cy nY rY ∈ Tw) (hcls : y.cls = RX12) (hY : dY1 y n) (hn : As.length = n) (hR : f9 + 1 ≤ room_1.frames ∧ 8 + (nY + 11) + L9 ≤ room_1.locals) (hc : cells ≤ 601024 ∧ slots ≤ 7293034) (hst : st = As.reverse ++ .ref Gm.2.2.1 :: rest) (hr8 : (rest.map fun v => v.category).sum ≤ 8) (hdg : decode code pc = .ok (.invokevirtual idx, 3))
    (kk : ∀ H1 : Heap, LW D G Gm cJ o s (H1.size, S.2) M1 f H1 → W p l e room_1 s m args below meth c H1 [] cells slots Q (F0 m (pc + 3) ls (.int r :: rest))) : W p l e room_1 s m args below meth c H [] cells slots Q (F0 m pc ls st) := by
  have F0' := F
  obtain ⟨hx, hb, hml, hown, hts, hstt, hV, hKm, hJ, hz, hg0, hg1, hg2, hg3⟩ := F
  have hts2 : ∀ w ∈ Cond.initialized "PromiseDeskLaw" :: Tw, w.before args s = true := fun w h => (List.mem_cons.mp h).elim (fun e9 => by rw [e9]; exact hts _ u_0) (hts w)
  have hrun : va_Run p l e room_1 s m args below meth c H [] cells slots 0 0 (F0 m pc ls st) rest (mQi D (lAm Gm.2.2.1) Gm r M1 (Value.ref Gm.2.2.1 :: As).toArray) (lAm Gm.2.2.1) :=
    va_runV (As := As) (rest := rest) ⟨hx, hb, hml, hown, hts2⟩ hM (cwV n hts2 (g_V h1 h2 h3 h3b h4) rfl rfl rfl ⟨rfl, hY⟩ hR)
      ⟨fun a U g mk q => by obtain ⟨q0, qP, qK, qD⟩ := q; exact ⟨q0, qP, va_K.moved (u := U) (U := U.calling g mk a) (Vm.Alike.refl U.vm) qK, qD⟩, by rw [hcls]; exact va_recv hKm hW.2.1 (ci := 12) (q0 := 0) rfl rfl, fun U hU hWm => ⟨rfl, by rw [hU]; exact hW.2.1, va_K.moved hWm.alike hKm, hW.2.2.1⟩⟩
      rfl hn hl hst (lv_room (m := m) (pc := pc) (ls := ls) (rest := rest) hr8) hdg hc
  have hAs : ∀ q, lAm Gm.2.2.1 q → s.heap.size ≤ q := fun q h => by have := h.1; omega
  refine va_calli hrun (A0 := fun q => s.heap.size ≤ q) (H0 := s.heap) ⟨hW.2.2.2.2.1, fun q h1 _ => hW.2.2.2.2.2.1 q h1, fun _ h => nomatch h⟩ (fun q _ h => hAs q h) hAs (fun r1 u t H1 locs1 ht hvm hw hB hz1 hk1 hS => ?_)
  obtain ⟨rfl, rfl⟩ := hw
  obtain ⟨hP1, -, hD1⟩ := hB
  rw [ht] at hP1
  refine va_forget (fun q hq => hS.2.2 q hq) ?_
  have hol : o < H.size := (Array.getElem?_eq_some_iff.mp hW.2.2.2.1).1
  exact kk H1 (L_back F0' hW hz1 hk1 hAs ⟨_, dH_any hW.1 hz1 (fun q hq hK e9 => hk1 q hq (fun h9 => (hW.1.2.2.1 q hK e9).2.1 h9))⟩ hP1 hD1 ((hk1 o hol hg3).trans hW.2.2.2.1))
/-- x.log(i, b): the desk itself -/
theorem L_desk {r : Int32} {S' : DS} {d : Nat} (F : LF p l s m args meth c D G Gm cJ o) (hW : LW D G Gm cJ o s S M f H) (hl : ls.size = 7) (hkd : dK S d = 12) (hM : Met l y (wM y cy nY rY) (rD ff L C1 Z1) (va_Pc (.ref d :: As) (dPre D (lAd s.heap.size Gm.2.2.1 o) G S)) (dQi D (lAd s.heap.size Gm.2.2.1 o) G r S') C1 Z1 (lAd s.heap.size Gm.2.2.1 o)) (h1 : Cond.methodLink R_law idx y ∈ Tw) (h2 : Cond.instanceMethod y ∈ Tw) (h3 : Cond.selects y.cls y y ∈ Tw) (h3b : Cond.initialized y.cls ∈ Tw) (h4 : Cond.code y cy nY rY ∈ Tw) (hcls : y.cls = RX11) (hY : dY1 y n) (hn : As.length = n) (hR : ff + 1 ≤ room_1.frames ∧ 8 + (nY + 11) + L ≤ room_1.locals) (hc : cells + C1 ≤ 601024 ∧ slots + Z1 ≤ 7293034) (hst : st = As.reverse ++ .ref d :: rest) (hr8 : (rest.map fun v => v.category).sum ≤ 8) (hdg : decode code pc = .ok (.invokevirtual idx, 3))
    (kk : ∀ H1 : Heap, LW D G Gm cJ o s (H1.size, S'.2) M f H1 → W p l e room_1 s m args below meth c H1 [] (cells + C1) (slots + Z1) Q (F0 m (pc + 3) ls (.int r :: rest))) : W p l e room_1 s m args below meth c H [] cells slots Q (F0 m pc ls st) := by
  have F0' := F
  obtain ⟨hx, hb, hml, hown, hts, hstt, hV, hKm, hJ, hz, hg0, hg1, hg2, hg3⟩ := F
  have hts2 : ∀ w ∈ Cond.initialized "PromiseDeskLaw" :: Tw, w.before args s = true := fun w h => (List.mem_cons.mp h).elim (fun e9 => by rw [e9]; exact hts _ u_0) (hts w)
  have hat := dH_atR hW.1 (dF_11 hkd) (by rw [hkd]; decide)
  have hrun : va_Run p l e room_1 s m args below meth c H [] cells slots C1 Z1 (F0 m pc ls st) rest (dQi D (lAd s.heap.size Gm.2.2.1 o) G r S' (Value.ref d :: As).toArray) (lAd s.heap.size Gm.2.2.1 o) :=
    va_runV (As := As) (rest := rest) ⟨hx, hb, hml, hown, hts2⟩ hM (cwV n hts2 (g_V h1 h2 h3 h3b h4) rfl rfl rfl ⟨rfl, hY⟩ hR)
      ⟨dPre_blind, by rw [hcls]; exact va_recv hV.1 (va_P1 hat) (ci := 11) (q0 := 0) rfl rfl, fun U hU hWm => ⟨rfl, L_dPre F0' hW hU hWm⟩⟩
      rfl hn hl hst (lv_room (m := m) (pc := pc) (ls := ls) (rest := rest) hr8) hdg hc
  have hAs : ∀ q, lAd s.heap.size Gm.2.2.1 o q → s.heap.size ≤ q := fun q h => h.1
  refine va_calli hrun (A0 := fun q => s.heap.size ≤ q) (H0 := s.heap) ⟨hW.2.2.2.2.1, fun q h1 _ => hW.2.2.2.2.2.1 q h1, fun _ h => nomatch h⟩ (fun q _ h => hAs q h) hAs (fun r1 u t H1 locs1 ht hvm hw hB hz1 hk1 hS => ?_)
  obtain ⟨rfl, rfl⟩ := hw
  have hB : dH D (lAd s.heap.size Gm.2.2.1 o) G u t.heap := hB
  rw [ht] at hB
  refine va_forget (fun q hq => hS.2.2 q hq) ?_
  have hol : o < H.size := (Array.getElem?_eq_some_iff.mp hW.2.2.2.1).1
  exact kk H1 (L_back F0' hW hz1 hk1 hAs ⟨_, hB⟩ (L_keepM hW (fun q hq hm => hk1 q hq (fun h9 => h9.2.1 hm))) hW.2.2.1 ((hk1 o hol (fun h9 => h9.2.2 rfl)).trans hW.2.2.2.1))
/-- out[0] -/
theorem L_out (F : LF p l s m args meth c D G Gm cJ o) (hW : LW D G Gm cJ o s S M f H) (hdg : decode code pc = .ok (.laload, 1)) (kk : W p l e room_1 s m args below meth c H [] cells slots Q (F0 m (pc + 1) ls (.long (f 0) :: rest))) : W p l e room_1 s m args below meth c H [] cells slots Q (F0 m pc ls (.int 0 :: .ref o :: rest)) := by
  obtain ⟨hx, hb, hml, hown, hts, hstt, hV, hKm, hJ, -⟩ := F
  have hP : va_P D vwCl [(o, .inl (cJ, 1, .inr (.inl f)))] H := va_P1 hW.2.2.2.1
  have hK : va_K D vwCl [(cJ, .long)] s := ⟨hV.1.1, fun k q hk => by
    match k, hk with
    | 0, hk => cases hk; exact hJ
    | k + 1, hk => simp at hk⟩
  exact va_lald hx hb hK hP 0 0 rfl rfl (vp_in_nI (n := 0) (N := 1) (by decide) (by decide)) hdg kk
/-- x != 0 as a number -/
theorem L_bz {x : Int32} {o1 o2 : Int} {t0 tj : Nat} (hx : p.tables.exec = Jvm.exec) (hb : c.code = code) (d1 : decode code pc = .ok (.ifCond .eq o1, 3)) (h1 : (pc : Int) + o1 = (t0 : Int)) (d2 : decode code (pc + 3) = .ok (.iconst 1, 1)) (d3 : decode code (pc + 3 + 1) = .ok (.goto o2, 3)) (h3 : ((pc + 3 + 1 : Nat) : Int) + o2 = (tj : Int)) (d4 : decode code t0 = .ok (.iconst 0, 1)) (h4 : t0 + 1 = tj)
    (kk : W p l e room_1 s m args below meth c H [] cells slots Q (F0 m tj ls (.int (bz x) :: rest))) : W p l e room_1 s m args below meth c H [] cells slots Q (F0 m pc ls (.int x :: rest)) := by
  refine lv_if_eq (tgt := t0) hx hb d1 h1 (fun hc => ?_) (fun hc => ?_)
  · refine lv_iconst (v := 0) hx hb d4 (by decide) ?_
    rw [h4]
    have e9 : bz x = 0 := if_pos hc
    rw [e9] at kk
    exact kk
  · refine lv_iconst (v := 1) hx hb d2 (by decide) ?_
    refine lv_goto (tgt := tj) hx hb d3 h3 ?_
    have e9 : bz x = 1 := if_neg hc
    rw [e9] at kk
    exact kk
end LL
