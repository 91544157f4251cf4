/-! THE DESK'S WORLD: next address, kinds, lengths, int fields, reference fields, int arrays, arrays of references; all by address -/
abbrev DS : Type := Nat × (Nat → Nat) × (Nat → Nat) × (Nat → Nat → Int32) × (Nat → Nat → Option Nat) × (Nat → Nat → Int32) × (Nat → Nat → Option Nat)
abbrev dn (S : DS) : Nat := S.1
abbrev dK (S : DS) : Nat → Nat := S.2.1
abbrev dL (S : DS) : Nat → Nat := S.2.2.1
abbrev dI (S : DS) : Nat → Nat → Int32 := S.2.2.2.1
abbrev dP (S : DS) : Nat → Nat → Option Nat := S.2.2.2.2.1
abbrev dX (S : DS) : Nat → Nat → Int32 := S.2.2.2.2.2.1
abbrev dY (S : DS) : Nat → Nat → Option Nat := S.2.2.2.2.2.2
def fset {α : Type} (I : Nat → Nat → α) (f a : Nat) (x : α) : Nat → Nat → α := fun g b => if g = f then (if b = a then x else I g b) else I g b
theorem fset_ne {α : Type} {I : Nat → Nat → α} {f a b : Nat} {x : α} (h : b ≠ a) (g : Nat) : fset I f a x g b = I g b := by
  unfold fset
  split <;> simp [h]
def sI (S : DS) (f a : Nat) (x : Int32) : DS := (S.1, S.2.1, S.2.2.1, fset (dI S) f a x, S.2.2.2.2)
def sP (S : DS) (f a : Nat) (x : Option Nat) : DS := (S.1, S.2.1, S.2.2.1, S.2.2.2.1, fset (dP S) f a x, S.2.2.2.2.2)
/-- an int array's row -/
def sX (S : DS) (a : Nat) (f : Nat → Int32) : DS := (S.1, S.2.1, S.2.2.1, S.2.2.2.1, S.2.2.2.2.1, va_up (dX S) a f, S.2.2.2.2.2.2)
def sY (S : DS) (a : Nat) (f : Nat → Option Nat) : DS := (S.1, S.2.1, S.2.2.1, S.2.2.2.1, S.2.2.2.2.1, S.2.2.2.2.2.1, va_up (dY S) a f)
/-- a new object of a kind -/
def sO (S : DS) (k : Nat) : DS := (S.1 + 1, va_up S.2.1 S.1 k, S.2.2.1, (fun f => va_up (dI S f) S.1 0), (fun f => va_up (dP S f) S.1 none), S.2.2.2.2.2)
def sAI (S : DS) (N : Nat) (f : Nat → Int32) : DS := (S.1 + 1, va_up S.2.1 S.1 20, va_up S.2.2.1 S.1 N, S.2.2.2.1, S.2.2.2.2.1, va_up (dX S) S.1 f, S.2.2.2.2.2.2)
def sAO (S : DS) (N : Nat) (f : Nat → Option Nat) : DS := (S.1 + 1, va_up S.2.1 S.1 21, va_up S.2.2.1 S.1 N, S.2.2.2.1, S.2.2.2.2.1, S.2.2.2.2.2.1, va_up (dY S) S.1 f)
/-- the classes of int[] and Object[], the address of ArrayList's empty array -/
abbrev DG : Type := ClassId × ClassId × Nat
def dfl_0 (I : Nat → Int32) (P : Nat → Option Nat) : List Value := [.int (I 0), va_rf (P 1), .int (I 2)]
def dfl_1 (I : Nat → Int32) (P : Nat → Option Nat) : List Value := [va_rf (P 100), va_rf (P 101), .int (I 102), va_rf (P 103), .int (I 104)]
def dfl_2 (I : Nat → Int32) (P : Nat → Option Nat) : List Value := [.int (I 200), va_rf (P 201), va_rf (P 202), .int (I 203)]
def dfl_3 (I : Nat → Int32) (P : Nat → Option Nat) : List Value := [va_rf (P 300), .int (I 301), .int (I 302)]
def dfl_4 (I : Nat → Int32) (P : Nat → Option Nat) : List Value := [va_rf (P 400), va_rf (P 401), va_rf (P 402), va_rf (P 403), va_rf (P 404), .int (I 405), .int (I 406), va_rf (P 407)]
def dfl_5 (I : Nat → Int32) (P : Nat → Option Nat) : List Value := [va_rf (P 500), .int (I 501)]
def dfl_6 (I : Nat → Int32) (P : Nat → Option Nat) : List Value := [.int (I 1000), .int (I 1001), va_rf (P 1002), .int (I 603), .int (I 604), .int (I 605), va_rf (P 606), va_rf (P 607), va_rf (P 608)]
def dfl_7 (I : Nat → Int32) (P : Nat → Option Nat) : List Value := [va_rf (P 700), .int (I 701)]
def dfl_8 (I : Nat → Int32) (P : Nat → Option Nat) : List Value := [.int (I 800), .int (I 801), .int (I 802), va_rf (P 803)]
def dfl_9 (I : Nat → Int32) (P : Nat → Option Nat) : List Value := [.int (I 1000), .int (I 1001), va_rf (P 1002), .int (I 903), .int (I 904), .int (I 905), .int (I 906), .int (I 907), va_rf (P 908)]
def dfl_10 (I : Nat → Int32) (P : Nat → Option Nat) : List Value := [.int (I 1000), .int (I 1001), va_rf (P 1002)]
def dfl_11 (I : Nat → Int32) (P : Nat → Option Nat) : List Value := [va_rf (P 1100), va_rf (P 1101), va_rf (P 1102), .int (I 1103), va_rf (P 1104), .int (I 1105), va_rf (P 1106), va_rf (P 1107), .int (I 1108), .int (I 1109)]
def dcell (G : DG) (k L : Nat) (I : Nat → Int32) (P : Nat → Option Nat) (X : Nat → Int32) (Y : Nat → Option Nat) : va_E := if k = 1 then .inr (0, dfl_0 I P) else if k = 2 then .inr (1, dfl_1 I P) else if k = 3 then .inr (2, dfl_2 I P) else if k = 4 then .inr (3, dfl_3 I P) else if k = 5 then .inr (4, dfl_4 I P) else if k = 6 then .inr (5, dfl_5 I P) else if k = 7 then .inr (6, dfl_6 I P) else if k = 8 then .inr (7, dfl_7 I P) else if k = 9 then .inr (8, dfl_8 I P) else if k = 10 then .inr (9, dfl_9 I P) else if k = 11 then .inr (10, dfl_10 I P) else if k = 12 then .inr (11, dfl_11 I P) else if k = 20 then .inl (G.1, L, .inl X) else .inl (G.2.1, L, .inr (.inr (.inr (.inr Y))))
def dF (G : DG) (S : DS) (a : Nat) : va_E := dcell G (dK S a) (dL S a) (fun f => dI S f a) (fun f => dP S f a) (dX S a) (dY S a)
theorem dF_0 {G : DG} {S : DS} {a : Nat} (h : dK S a = 1) : dF G S a = .inr (0, dfl_0 (fun f => dI S f a) (fun f => dP S f a)) := by unfold dF; rw [h]; rfl
theorem dF_1 {G : DG} {S : DS} {a : Nat} (h : dK S a = 2) : dF G S a = .inr (1, dfl_1 (fun f => dI S f a) (fun f => dP S f a)) := by unfold dF; rw [h]; rfl
theorem dF_2 {G : DG} {S : DS} {a : Nat} (h : dK S a = 3) : dF G S a = .inr (2, dfl_2 (fun f => dI S f a) (fun f => dP S f a)) := by unfold dF; rw [h]; rfl
theorem dF_3 {G : DG} {S : DS} {a : Nat} (h : dK S a = 4) : dF G S a = .inr (3, dfl_3 (fun f => dI S f a) (fun f => dP S f a)) := by unfold dF; rw [h]; rfl
theorem dF_4 {G : DG} {S : DS} {a : Nat} (h : dK S a = 5) : dF G S a = .inr (4, dfl_4 (fun f => dI S f a) (fun f => dP S f a)) := by unfold dF; rw [h]; rfl
theorem dF_5 {G : DG} {S : DS} {a : Nat} (h : dK S a = 6) : dF G S a = .inr (5, dfl_5 (fun f => dI S f a) (fun f => dP S f a)) := by unfold dF; rw [h]; rfl
theorem dF_6 {G : DG} {S : DS} {a : Nat} (h : dK S a = 7) : dF G S a = .inr (6, dfl_6 (fun f => dI S f a) (fun f => dP S f a)) := by unfold dF; rw [h]; rfl
theorem dF_7 {G : DG} {S : DS} {a : Nat} (h : dK S a = 8) : dF G S a = .inr (7, dfl_7 (fun f => dI S f a) (fun f => dP S f a)) := by unfold dF; rw [h]; rfl
theorem dF_8 {G : DG} {S : DS} {a : Nat} (h : dK S a = 9) : dF G S a = .inr (8, dfl_8 (fun f => dI S f a) (fun f => dP S f a)) := by unfold dF; rw [h]; rfl
theorem dF_9 {G : DG} {S : DS} {a : Nat} (h : dK S a = 10) : dF G S a = .inr (9, dfl_9 (fun f => dI S f a) (fun f => dP S f a)) := by unfold dF; rw [h]; rfl
theorem dF_10 {G : DG} {S : DS} {a : Nat} (h : dK S a = 11) : dF G S a = .inr (10, dfl_10 (fun f => dI S f a) (fun f => dP S f a)) := by unfold dF; rw [h]; rfl
theorem dF_11 {G : DG} {S : DS} {a : Nat} (h : dK S a = 12) : dF G S a = .inr (11, dfl_11 (fun f => dI S f a) (fun f => dP S f a)) := by unfold dF; rw [h]; rfl
theorem dF_20 {G : DG} {S : DS} {a : Nat} (h : dK S a = 20) : dF G S a = .inl (G.1, dL S a, .inl (dX S a)) := by unfold dF; rw [h]; rfl
theorem dF_21 {G : DG} {S : DS} {a : Nat} (h : dK S a = 21) : dF G S a = .inl (G.2.1, dL S a, .inr (.inr (.inr (.inr (dY S a))))) := by unfold dF; rw [h]; rfl
theorem dF_sI {G : DG} {S : DS} {f a b : Nat} {x : Int32} (h : b ≠ a) : dF G (sI S f a x) b = dF G S b := by
  unfold dF
  have e : (fun g => dI (sI S f a x) g b) = (fun g => dI S g b) := funext fun g => fset_ne h g
  rw [e]; rfl
theorem dF_sP {G : DG} {S : DS} {f a b : Nat} {x : Option Nat} (h : b ≠ a) : dF G (sP S f a x) b = dF G S b := by
  unfold dF
  have e : (fun g => dP (sP S f a x) g b) = (fun g => dP S g b) := funext fun g => fset_ne h g
  rw [e]; rfl
theorem dF_sX {G : DG} {S : DS} {a b : Nat} {r : Nat → Int32} (h : b ≠ a) : dF G (sX S a r) b = dF G S b := by
  unfold dF
  have e : dX (sX S a r) b = dX S b := va_up_ne _ _ h
  rw [e]; rfl
theorem dF_sY {G : DG} {S : DS} {a b : Nat} {r : Nat → Option Nat} (h : b ≠ a) : dF G (sY S a r) b = dF G S b := by
  unfold dF
  have e : dY (sY S a r) b = dY S b := va_up_ne _ _ h
  rw [e]; rfl
theorem dF_sO {G : DG} {S : DS} {k b : Nat} (h : b ≠ dn S) : dF G (sO S k) b = dF G S b := by
  unfold dF
  have e0 : dK (sO S k) b = dK S b := va_up_ne _ _ h
  have e1 : (fun g => dI (sO S k) g b) = (fun g => dI S g b) := funext fun g => va_up_ne _ _ h
  have e2 : (fun g => dP (sO S k) g b) = (fun g => dP S g b) := funext fun g => va_up_ne _ _ h
  rw [e0, e1, e2]; rfl
theorem dF_sAI {G : DG} {S : DS} {N b : Nat} {r : Nat → Int32} (h : b ≠ dn S) : dF G (sAI S N r) b = dF G S b := by
  unfold dF
  have e0 : dK (sAI S N r) b = dK S b := va_up_ne _ _ h
  have e1 : dL (sAI S N r) b = dL S b := va_up_ne _ _ h
  have e2 : dX (sAI S N r) b = dX S b := va_up_ne _ _ h
  rw [e0, e1, e2]; rfl
theorem dF_sAO {G : DG} {S : DS} {N b : Nat} {r : Nat → Option Nat} (h : b ≠ dn S) : dF G (sAO S N r) b = dF G S b := by
  unfold dF
  have e0 : dK (sAO S N r) b = dK S b := va_up_ne _ _ h
  have e1 : dL (sAO S N r) b = dL S b := va_up_ne _ _ h
  have e2 : dY (sAO S N r) b = dY S b := va_up_ne _ _ h
  rw [e0, e1, e2]; rfl
def dH (D : va_G) (A : Nat → Prop) (G : DG) (S : DS) (H : Heap) : Prop := H.size = dn S ∧ (∀ a, dK S a ≠ 0 → a ≠ G.2.2 → va_at D vwCl (a, dF G S a) H) ∧ (∀ a, dK S a ≠ 0 → a ≠ G.2.2 → A a) ∧ dK S G.2.2 = 21 ∧ dL S G.2.2 = 0 ∧ G.2.2 < dn S
def dOK (D : va_G) (A : Nat → Prop) (G : DG) (S : DS) (H0 H : Heap) (locs : List Loc) : Prop := dH D A G S H ∧ va_S A H0 H locs
abbrev dT (G : DG) : List (ClassId × FieldType) := [(G.1, .int), (G.2.1, .object "java/lang/Object")]
/-- one cell is written: the world behind it -/
theorem dH_set {D : va_G} {A : Nat → Prop} {G : DG} {S S1 : DS} {H H1 : Heap} {a : Nat} (h : dH D A G S H) (z : H1.size = H.size) (oq : ∀ q, q ≠ a → H1[q]? = H[q]?) (hat : va_at D vwCl (a, dF G S1 a) H1) (hn : dn S1 = dn S) (hk : dK S1 = dK S) (hl : dL S1 = dL S) (hf : ∀ b, b ≠ a → dF G S1 b = dF G S b) : dH D A G S1 H1 := by
  obtain ⟨h1, h2, h3, h4, h5, h6⟩ := h
  refine ⟨by rw [z, hn]; exact h1, fun b hb hb2 => ?_, by rw [hk]; exact h3, by rw [hk]; exact h4, by rw [hl]; exact h5, by rw [hn]; exact h6⟩
  by_cases e : b = a
  · subst e; exact hat
  · rw [hf b e]
    exact (h2 b (by rw [hk] at hb; exact hb) hb2).kept (oq b e)
theorem dH_lt {D : va_G} {A : Nat → Prop} {G : DG} {S : DS} {H : Heap} {a : Nat} (h : dH D A G S H) (ha : dK S a ≠ 0) : a < dn S := by
  by_cases e : a = G.2.2
  · rw [e]; exact h.2.2.2.2.2
  · have := (h.2.1 a ha e).lt
    rw [h.1] at this; exact this
theorem dH_at {D : va_G} {A : Nat → Prop} {G : DG} {S : DS} {H : Heap} {a : Nat} (h : dH D A G S H) (h0 : dK S a ≠ 0) (h21 : dK S a ≠ 21) : va_at D vwCl (a, dF G S a) H := h.2.1 a h0 (fun e => h21 (by rw [e]; exact h.2.2.2.1))
theorem dH_atR {D : va_G} {A : Nat → Prop} {G : DG} {S : DS} {H : Heap} {a : Nat} {x : Nat × List Value} (h : dH D A G S H) (hF : dF G S a = .inr x) (h0 : dK S a ≠ 0) : va_at D vwCl (a, .inr x) H := by
  have h9 := dH_at h h0 (fun e => by rw [dF_21 e] at hF; cases hF)
  rw [hF] at h9
  exact h9
theorem dH_at20 {D : va_G} {A : Nat → Prop} {G : DG} {S : DS} {H : Heap} {a : Nat} (h : dH D A G S H) (hk : dK S a = 20) : va_at D vwCl (a, .inl (G.1, dL S a, .inl (dX S a))) H := by
  have h9 := dH_at h (by rw [hk]; decide) (by rw [hk]; decide)
  rw [dF_20 hk] at h9
  exact h9
theorem dH_at21 {D : va_G} {A : Nat → Prop} {G : DG} {S : DS} {H : Heap} {a : Nat} (h : dH D A G S H) (hk : dK S a = 21) (hne : a ≠ G.2.2) : va_at D vwCl (a, .inl (G.2.1, dL S a, .inr (.inr (.inr (.inr (dY S a)))))) H := by
  have h9 := h.2.1 a (by rw [hk]; decide) hne
  rw [dF_21 hk] at h9
  exact h9
theorem dH_neE {D : va_G} {A : Nat → Prop} {G : DG} {S : DS} {H : Heap} {a : Nat} (h : dH D A G S H) (hp : 0 < dL S a) : a ≠ G.2.2 := fun e => by
  rw [e, h.2.2.2.2.1] at hp
  omega
/-- one cell is new -/
theorem dH_new {D : va_G} {A : Nat → Prop} {G : DG} {S S1 : DS} {H H1 : Heap} (h : dH D A G S H) (z : H1.size = H.size + 1) (oq : ∀ q, q < H.size → H1[q]? = H[q]?) (hat : va_at D vwCl (H.size, dF G S1 H.size) H1) (hA : A H.size) (hn : dn S1 = dn S + 1) (hk : ∀ b, b ≠ dn S → dK S1 b = dK S b) (hl : ∀ b, b ≠ dn S → dL S1 b = dL S b) (hf : ∀ b, b ≠ dn S → dF G S1 b = dF G S b) : dH D A G S1 H1 := by
  have hlt : G.2.2 < dn S := dH_lt h (by rw [h.2.2.2.1]; decide)
  obtain ⟨h1, h2, h3, h4, h5, h6⟩ := h
  have hne : G.2.2 ≠ dn S := Nat.ne_of_lt hlt
  refine ⟨by rw [z, hn, h1], fun b hb hb2 => ?_, fun b hb hb2 => ?_, by rw [hk _ hne]; exact h4, by rw [hl _ hne]; exact h5, by rw [hn]; omega⟩
  · by_cases e : b = dn S
    · subst e; rw [← h1]; exact hat
    · rw [hf b e]
      have h9 := h2 b (by rw [hk b e] at hb; exact hb) hb2
      exact h9.kept (oq b h9.lt)
  · by_cases e : b = dn S
    · subst e; rw [← h1]; exact hA
    · exact h3 b (by rw [hk b e] at hb; exact hb) hb2
/-- one cell as a world of the kit's -/
theorem va_P1 {D : va_G} {cl : List vw_C} {a : Nat} {x : va_E} {H : Heap} (h : va_at D cl (a, x) H) : va_P D cl [(a, x)] H := by
  intro k q hk
  match k, hk with
  | 0, hk => cases hk; exact h
  | k + 1, hk => simp at hk
section D0
variable {p : Program} {l : Launch} {e : Env} {R : Room} {s : State} {m : MethodId} {args : Array Value} {below : List Frame} {meth : Method} {c : Code} {H : Heap} {locs : List Loc} {cells slots : Nat} {Q : State → Prop}
variable {cc : ByteArray} {pc : Nat} {ls : Array Slot} {rest : List Value} {D : va_G} {cl : List vw_C} {a : Nat} {tys : List (ClassId × FieldType)}
theorem d_put0 (hexec : p.tables.exec = Jvm.exec) (hb : c.code = cc) {own ref C : String} {T : u_T} {N ci index : Nat} {Ts : List Cond} (hts : ∀ w ∈ Ts, w.before args s = true) (hin : ∀ w ∈ u_ws C T N, w ∈ Ts) (ty0 : Nat → FieldType) (hty : ∀ k, k < N → parseFieldDescriptor (T k).2.2.1 = some (ty0 k)) (hnm : ∀ a, a < N → ∀ b, b < N → a ≠ b → (T a).2.1 ≠ (T b).2.1) (hown : s.vm.findClass own = some m.cls) (hK : va_K D cl tys s) {fs : List Value} (hat : va_at D cl (a, .inr (ci, fs)) H) (hc : cl[ci]? = some (C, T, N)) (k : Nat) (hk : k < N) (hlink : (Cond.fieldLink own index ref (T k).2.1 (T k).2.2.1).before args s = true) (hsame : ∀ x, s.fieldFound? (T k).1 (T k).2.1 (T k).2.2.1 = some x → s.fieldFound? ref (T k).2.1 (T k).2.2.1 = some x) (hfin : (T k).2.2.2 = false) {ty : FieldType} {v : Value} (hd : parseFieldDescriptor (T k).2.2.1 = some ty) (hn : narrow ty v = v) (hfit : fits ty v = true) (hl : k < fs.length)
    (hdg : decode cc pc = .ok (.putfield index, 3)) (kk : ∀ (H1 : Heap) (i : Nat), va_at D cl (a, .inr (ci, fs.set k v)) H1 → H1.size = H.size → (∀ q, q ≠ a → H1[q]? = H[q]?) → W p l e R s m args below meth c H1 (locs ++ [⟨a, i⟩]) cells slots Q (F0 m (pc + 3) ls rest)) : W p l e R s m args below meth c H locs cells slots Q (F0 m pc ls (v :: .ref a :: rest)) := by
  have hap := va_apart (own := own) hts hin ty0 hty hnm hK hc
  obtain ⟨r, h1, cell, q1, q2, q3, q4⟩ := hat
  have hr : r = (C, T, N) := Option.some.inj (h1.symm.trans hc)
  subst hr
  obtain ⟨hS, hfc, kC, hkC, hkind⟩ := hK.1 ci _ hc
  obtain ⟨cf, kf, fi, f, hi, hsl⟩ := hS k hk
  have hlay := hts _ (hin _ (u_in_lay hk))
  unfold u_lay at hlay
  rw [if_neg (by rw [hfin]; decide)] at hlay
  have hst := (u_facts hfc hkC (u_lays hts hin hk) hi).1
  have h6 := u_store hfc hkC hkind hlay hi hd hn hfit
  refine W.putK hexec hb (f := f) ⟨hown, hlink, ⟨_, _, _, hsame _ hi⟩, hst⟩ (by rw [q2]; exact h6) q1 q3 (by rw [hsl]; exact k2_hasslot (q4 k hk)) rfl rfl hdg fun H' e1 e2 e3 => ?_
  rw [hsl] at e1 ⊢
  exact kk H' _ ⟨_, hc, t_OB.to (V := updV (vp_V fs) k v) ⟨_, e1, q2, q3, t_set q4 hap hk v⟩ (fun j _ => vp_updV_set hl v j)⟩ e2 e3
theorem d_putF0 (hexec : p.tables.exec = Jvm.exec) (hb : c.code = cc) {own ref C : String} {T : u_T} {N ci index : Nat} {Ts : List Cond} (hts : ∀ w ∈ Ts, w.before args s = true) (hin : ∀ w ∈ u_ws C T N, w ∈ Ts) (ty0 : Nat → FieldType) (hty : ∀ k, k < N → parseFieldDescriptor (T k).2.2.1 = some (ty0 k)) (hnm : ∀ a, a < N → ∀ b, b < N → a ≠ b → (T a).2.1 ≠ (T b).2.1) (hown : s.vm.findClass own = some m.cls) (hK : va_K D cl tys s) {fs : List Value} (hat : va_at D cl (a, .inr (ci, fs)) H) (hc : cl[ci]? = some (C, T, N)) (k : Nat) (hk : k < N) (hlink : (Cond.fieldLink own index ref (T k).2.1 (T k).2.2.1).before args s = true) (hsame : ∀ x, s.fieldFound? (T k).1 (T k).2.1 (T k).2.2.1 = some x → s.fieldFound? ref (T k).2.1 (T k).2.2.1 = some x) (hfin : (T k).2.2.2 = true) (hin2 : meth.name = "<init>") (hdecl : (T k).1 = own) {ty : FieldType} {v : Value} (hd : parseFieldDescriptor (T k).2.2.1 = some ty) (hn : narrow ty v = v) (hfit : fits ty v = true) (hl : k < fs.length)
    (hdg : decode cc pc = .ok (.putfield index, 3)) (kk : ∀ (H1 : Heap) (i : Nat), va_at D cl (a, .inr (ci, fs.set k v)) H1 → H1.size = H.size → (∀ q, q ≠ a → H1[q]? = H[q]?) → W p l e R s m args below meth c H1 (locs ++ [⟨a, i⟩]) cells slots Q (F0 m (pc + 3) ls rest)) : W p l e R s m args below meth c H locs cells slots Q (F0 m pc ls (v :: .ref a :: rest)) := by
  have hap := va_apart (own := own) hts hin ty0 hty hnm hK hc
  obtain ⟨r, h1, cell, q1, q2, q3, q4⟩ := hat
  have hr : r = (C, T, N) := Option.some.inj (h1.symm.trans hc)
  subst hr
  obtain ⟨hS, hfc, kC, hkC, hkind⟩ := hK.1 ci _ hc
  obtain ⟨cf, kf, fi, f, hi, hsl⟩ := hS k hk
  have hlay := hts _ (hin _ (u_in_lay hk))
  unfold u_lay at hlay
  rw [if_pos hfin] at hlay
  have hst := (u_facts hfc hkC (u_lays hts hin hk) hi).1
  have hcf : m.cls = cf := by
    obtain ⟨_, _, c', _, _, _, -, -, hf', -, -, -, hown2, -⟩ := Cond.laysFinal_spec hlay
    have e1 : c' = cf := by have := hi.symm.trans hf'; simp at this; exact this.1.symm
    rw [hdecl] at hown2
    rw [← e1]; exact Option.some.inj (hown.symm.trans hown2)
  have h6 := u_fits hfc hkC hkind (Or.inr hlay) hi hd hn hfit
  refine W.putFinK hexec hb hown hlink (hsame _ hi) hst hcf hin2 (by rw [q2]; exact h6) q1 q3 (by rw [hsl]; exact k2_hasslot (q4 k hk)) rfl rfl hdg fun H' e1 e2 e3 => ?_
  rw [hsl] at e1 ⊢
  exact kk H' _ ⟨_, hc, t_OB.to (V := updV (vp_V fs) k v) ⟨_, e1, q2, q3, t_set q4 hap hk v⟩ (fun j _ => vp_updV_set hl v j)⟩ e2 e3
theorem d_putN0 (hexec : p.tables.exec = Jvm.exec) (hb : c.code = cc) {own ref C host : String} {T : u_T} {N ci index : Nat} {Ts : List Cond} (hts : ∀ w ∈ Ts, w.before args s = true) (hin : ∀ w ∈ u_ws C T N, w ∈ Ts) (ty0 : Nat → FieldType) (hty : ∀ k, k < N → parseFieldDescriptor (T k).2.2.1 = some (ty0 k)) (hnm : ∀ a, a < N → ∀ b, b < N → a ≠ b → (T a).2.1 ≠ (T b).2.1) (hown : s.vm.findClass own = some m.cls) (hK : va_K D cl tys s) {fs : List Value} (hat : va_at D cl (a, .inr (ci, fs)) H) (hc : cl[ci]? = some (C, T, N)) (k : Nat) (hk : k < N) (hlink : (Cond.fieldLinkNest own index ref (T k).2.1 (T k).2.2.1 host).before args s = true) (hsame : ∀ x, s.fieldFound? (T k).1 (T k).2.1 (T k).2.2.1 = some x → s.fieldFound? ref (T k).2.1 (T k).2.2.1 = some x) (hfin : (T k).2.2.2 = false) {ty : FieldType} {v : Value} (hd : parseFieldDescriptor (T k).2.2.1 = some ty) (hn : narrow ty v = v) (hfit : fits ty v = true) (hl : k < fs.length)
    (hdg : decode cc pc = .ok (.putfield index, 3)) (kk : ∀ (H1 : Heap) (i : Nat), va_at D cl (a, .inr (ci, fs.set k v)) H1 → H1.size = H.size → (∀ q, q ≠ a → H1[q]? = H[q]?) → W p l e R s m args below meth c H1 (locs ++ [⟨a, i⟩]) cells slots Q (F0 m (pc + 3) ls rest)) : W p l e R s m args below meth c H locs cells slots Q (F0 m pc ls (v :: .ref a :: rest)) := by
  have hap := va_apart (own := own) hts hin ty0 hty hnm hK hc
  obtain ⟨r, h1, cell, q1, q2, q3, q4⟩ := hat
  have hr : r = (C, T, N) := Option.some.inj (h1.symm.trans hc)
  subst hr
  obtain ⟨hS, hfc, kC, hkC, hkind⟩ := hK.1 ci _ hc
  obtain ⟨cf, kf, fi, f, hi, hsl⟩ := hS k hk
  have hlay := hts _ (hin _ (u_in_lay hk))
  unfold u_lay at hlay
  rw [if_neg (by rw [hfin]; decide)] at hlay
  have hst := (u_facts hfc hkC (u_lays hts hin hk) hi).1
  have h6 := u_store hfc hkC hkind hlay hi hd hn hfit
  refine va_WputK hexec hb (f := f) hown hlink (hsame _ hi) hst (by rw [q2]; exact h6) q1 q3 (by rw [hsl]; exact k2_hasslot (q4 k hk)) rfl rfl hdg fun H' e1 e2 e3 => ?_
  rw [hsl] at e1 ⊢
  exact kk H' _ ⟨_, hc, t_OB.to (V := updV (vp_V fs) k v) ⟨_, e1, q2, q3, t_set q4 hap hk v⟩ (fun j _ => vp_updV_set hl v j)⟩ e2 e3
theorem d_new0 (hexec : p.tables.exec = Jvm.exec) (hb : c.code = cc) {own C : String} {T : u_T} {N ci index : Nat} {Ts : List Cond} (hts : ∀ w ∈ Ts, w.before args s = true) (hin : ∀ w ∈ u_ws C T N, w ∈ Ts) (ty : Nat → FieldType) (hty : ∀ k, k < N → parseFieldDescriptor (T k).2.2.1 = some (ty k)) (hown : s.vm.findClass own = some m.cls) (hcl : (Cond.classLink own index C).before args s = true) (hinst : (Cond.instantiable C N).before args s = true) (hini : (Cond.initialized C).before args s = true)
    (hK : va_K D cl tys s) (hc : cl[ci]? = some (C, T, N)) {fs : List Value} (hfs : ∀ j, j < N → defaultValue (ty j) = vp_V fs j) (hcells : cells + 1 ≤ R.cells) (hslots : slots + N ≤ R.slots) (hdg : decode cc pc = .ok (.new index, 3))
    (kk : ∀ H1 : Heap, va_at D cl (H.size, .inr (ci, fs)) H1 → H1.size = H.size + 1 → (∀ q, q < H.size → H1[q]? = H[q]?) → W p l e R s m args below meth c H1 locs (cells + 1) (slots + N) Q (F0 m (pc + 3) ls (.ref H.size :: rest))) : W p l e R s m args below meth c H locs cells slots Q (F0 m pc ls rest) := by
  have hKn := hK.1 ci _ hc
  refine W.newcK hexec hb hown hcl hinst hini rfl hdg hcells hslots hKn.2.1 rfl fun H1 kC hkC e1 z1 o1 => ?_
  exact kk H1 ⟨_, hc, (u_born ty hts hin hKn hkC e1 hty).to hfs⟩ z1 o1
theorem d_newO0 (hexec : p.tables.exec = Jvm.exec) (hb : c.code = cc) {own : String} {index : Nat} (hown : s.vm.findClass own = some m.cls) (hclink : (Cond.classLink own index "java/lang/Object").before args s = true) (hover : va_AO "java/lang/Object" s) {cA : ClassId} (hcA : s.vm.findClass ("[" ++ (FieldType.object "java/lang/Object").toString) = some cA) {n : Int32} (hn : 0 ≤ n.toInt) (hbytes : n.toInt < 100000) (hcells : cells + 1 ≤ R.cells) (hslots : slots + n.toNatClampNeg ≤ R.slots) (hdg : decode cc pc = .ok (.anewarray index, 3))
    (kk : ∀ H1 : Heap, va_at D cl (H.size, .inl (cA, n.toNatClampNeg, .inr (.inr (.inr (.inr (fun _ => none)))))) H1 → H1.size = H.size + 1 → (∀ q, q < H.size → H1[q]? = H[q]?) → W p l e R s m args below meth c H1 locs (cells + 1) (slots + n.toNatClampNeg) Q (F0 m (pc + 3) ls (.ref H.size :: rest))) : W p l e R s m args below meth c H locs cells slots Q (F0 m pc ls (.int n :: rest)) := by
  have h0 : ¬ n < 0 := fun q => by
    have := Int32.lt_iff_toInt_lt.mp q
    have z : (0 : Int32).toInt = 0 := by decide
    omega
  have e0 : n.toNatClampNeg = n.toInt.toNat := rfl
  have hb2 : n.toNatClampNeg * 4 ≤ 536870912 := by
    rw [e0]
    omega
  refine W.anew hexec hb hown hclink (va_AO.use hover) rfl hdg rfl h0 hb2 hcells hslots fun cB kA comp f1 f2 f3 f4 => ?_
  have hc2 : cB = cA := Option.some.inj (f1.symm.trans hcA)
  subst hc2
  generalize hH1 : H.push ({ cls := cB, slots := Array.replicate n.toNatClampNeg .null, vm := .none } : Cell) = H1
  have z1 : H1.size = H.size + 1 := by rw [← hH1, Array.size_push]
  have e1 : H1[H.size]? = some (arrV cB n.toNatClampNeg (fun _ => .null)) := by rw [← hH1, Array.getElem?_push_size, ← arrV_new]
  have o1 : ∀ q : Nat, q < H.size → H1[q]? = H[q]? := fun q hq => by rw [← hH1, Array.getElem?_push, if_neg (Nat.ne_of_lt hq)]
  exact kk H1 e1 z1 o1
theorem d_iast0 (hexec : p.tables.exec = Jvm.exec) (hb : c.code = cc) (hK : va_K D cl tys s) (t0 : Nat) {cA : ClassId} {n : Nat} {f : Nat → Int32} (ha : va_at D cl (a, .inl (cA, n, .inl f)) H) (ht : tys[t0]? = some (cA, .int)) {i x : Int32} (hin : inb i n) (hdg : decode cc pc = .ok (.iastore, 1))
    (kk : ∀ (H1 : Heap) (j : Nat), va_at D cl (a, .inl (cA, n, .inl (upd f i.toNatClampNeg x))) H1 → H1.size = H.size → (∀ q, q ≠ a → H1[q]? = H[q]?) → W p l e R s m args below meth c H1 (locs ++ [⟨a, j⟩]) cells slots Q (F0 m (pc + 1) ls rest)) : W p l e R s m args below meth c H locs cells slots Q (F0 m pc ls (.int x :: .int i :: .ref a :: rest)) := by
  refine W.iast hexec hb ha ((hK.2 t0 _ ht).1 n (fun j => .int (f j))) (fun q => by cases q) (by show ¬ (i < 0 ∨ (arrV _ _ _).slots.size ≤ _); rw [arrV_size]; exact vp_in_iff.mpr hin) rfl rfl hdg fun H1 e1 z oq => ?_
  refine kk H1 _ ?_ z oq
  show H1[a]? = some (vp_cell _ _)
  rw [e1, vp_cell_i, vp_cell_i, arrV_store]
  congr 2
  funext q
  by_cases hq : q = i.toNatClampNeg
  · subst hq; simp [updV, upd]
  · simp [updV, upd, hq]
theorem d_aast0 (hexec : p.tables.exec = Jvm.exec) (hb : c.code = cc) (hK : va_K D cl tys s) (t0 ci : Nat) {cA : ClassId} {r : vw_C} {n v : Nat} {vs : List Value} {f : Nat → Option Nat} (ha : va_at D cl (a, .inl (cA, n, .inr (.inr (.inr (.inr f))))) H) (ht : tys[t0]? = some (cA, .object "java/lang/Object")) (hca : va_Nw (.castable r.1 "java/lang/Object") s) (hv : va_at D cl (v, .inr (ci, vs)) H) (hc : cl[ci]? = some r) {i : Int32} (hin : inb i n) (hdg : decode cc pc = .ok (.aastore, 1))
    (kk : ∀ (H1 : Heap) (j : Nat), va_at D cl (a, .inl (cA, n, .inr (.inr (.inr (.inr (va_up f i.toNatClampNeg (some v))))))) H1 → H1.size = H.size → (∀ q, q ≠ a → H1[q]? = H[q]?) → W p l e R s m args below meth c H1 (locs ++ [⟨a, j⟩]) cells slots Q (F0 m (pc + 1) ls rest)) : W p l e R s m args below meth c H locs cells slots Q (F0 m pc ls (.ref v :: .int i :: .ref a :: rest)) := by
  have hin2 := vp_in_iff.mpr hin
  have hlt : i.toNatClampNeg < n := Nat.not_le.mp fun q => hin2 (Or.inr q)
  have h0 : ¬ i < 0 := fun q => hin2 (Or.inl q)
  obtain ⟨r', hr', cellV, g1, g2, g3, -⟩ := hv
  have hcls := (hK.1 ci r hc).2
  obtain ⟨kA, comp, k1, k2, k3, -⟩ := (hK.2 t0 _ ht).2
  obtain ⟨kE, hkE, -⟩ := Vm.findClass_spec k3
  obtain ⟨c0, t1, f1, f2, f3⟩ := Cond.castable_spec (va_Nw.use (A := args) rfl hca)
  cases hcls.1.symm.trans f1
  cases k3.symm.trans f2
  obtain ⟨kC, hkC, -⟩ := hcls.2
  refine W.aast hexec hb ha (fun q h => by cases h) (fun h => by cases h) k1 k2 rfl hkE ⟨h0, by show _ < (arrV _ _ _).slots.size; rw [arrV_size]; exact hlt⟩ g1 (fun q h => by rw [g3] at h; cases h) (by rw [g2]; exact hkC) (by rw [g2]; exact f3) rfl rfl hdg fun H1 e1 z oq => ?_
  refine kk H1 _ ?_ z oq
  show H1[a]? = some (vp_cell _ _)
  rw [e1, vp_cell_q, vp_cell_q, arrV_store]
  congr 2
  funext q
  by_cases hq : q = i.toNatClampNeg
  · subst hq; simp [updV, va_up, va_rf]
  · simp [updV, va_up, hq]
end D0
