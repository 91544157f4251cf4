/-! THE REFERENCE'S WORLD: its object and its arrays, as one function M of (field, place) -/
abbrev MS : Type := Nat → Nat → Int32
def mset (M : MS) (k : Nat) (f : Nat → Int32) : MS := fun j => if j = k then f else M j
def mput (M : MS) (k i : Nat) (x : Int32) : MS := mset M k (upd (M k) i x)
/-- the classes of int[] and boolean[], the object's address, its arrays' addresses -/
abbrev MG : Type := ClassId × ClassId × Nat × (Nat → Nat)
def mfs (G : MG) (M : MS) : List Value := [.int (M 0 0), .int (M 1 0), .ref (G.2.2.2 2), .ref (G.2.2.2 3), .ref (G.2.2.2 4), .ref (G.2.2.2 5), .ref (G.2.2.2 6), .ref (G.2.2.2 7), .ref (G.2.2.2 8), .ref (G.2.2.2 9), .ref (G.2.2.2 10), .ref (G.2.2.2 11), .ref (G.2.2.2 12), .ref (G.2.2.2 13), .ref (G.2.2.2 14), .int (M 15 0), .ref (G.2.2.2 16), .ref (G.2.2.2 17), .ref (G.2.2.2 18), .ref (G.2.2.2 19), .ref (G.2.2.2 20), .ref (G.2.2.2 21), .int (M 22 0), .ref (G.2.2.2 23), .ref (G.2.2.2 24), .ref (G.2.2.2 25), .ref (G.2.2.2 26), .ref (G.2.2.2 27), .ref (G.2.2.2 28), .int (M 29 0), .int (M 30 0), .ref (G.2.2.2 31), .ref (G.2.2.2 32), .int (M 33 0), .ref (G.2.2.2 34), .ref (G.2.2.2 35), .int (M 36 0), .ref (G.2.2.2 37), .int (M 38 0), .ref (G.2.2.2 39), .ref (G.2.2.2 40), .ref (G.2.2.2 41), .int (M 42 0), .ref (G.2.2.2 43), .ref (G.2.2.2 44), .ref (G.2.2.2 45), .ref (G.2.2.2 46), .ref (G.2.2.2 47), .ref (G.2.2.2 48), .ref (G.2.2.2 49), .int (M 50 0), .int (M 51 0)]
def mW (G : MG) (M : MS) : va_W := (G.2.2.1, .inr (12, mfs G M)) :: [(G.2.2.2 2, .inl (G.1, 3000, .inl (M 2))), (G.2.2.2 3, .inl (G.1, 3000, .inl (M 3))), (G.2.2.2 4, .inl (G.1, 3000, .inl (M 4))), (G.2.2.2 5, .inl (G.1, 3000, .inl (M 5))), (G.2.2.2 6, .inl (G.1, 3000, .inl (M 6))), (G.2.2.2 7, .inl (G.2.1, 3000, .inl (M 7))), (G.2.2.2 8, .inl (G.1, 3000, .inl (M 8))), (G.2.2.2 9, .inl (G.1, 3000, .inl (M 9))), (G.2.2.2 10, .inl (G.1, 3000, .inl (M 10))), (G.2.2.2 11, .inl (G.1, 3000, .inl (M 11))), (G.2.2.2 12, .inl (G.1, 3000, .inl (M 12))), (G.2.2.2 13, .inl (G.1, 12000, .inl (M 13))), (G.2.2.2 14, .inl (G.2.1, 12000, .inl (M 14))), (G.2.2.2 16, .inl (G.1, 12000, .inl (M 16))), (G.2.2.2 17, .inl (G.1, 12000, .inl (M 17))), (G.2.2.2 18, .inl (G.1, 12000, .inl (M 18))), (G.2.2.2 19, .inl (G.1, 12000, .inl (M 19))), (G.2.2.2 20, .inl (G.1, 12000, .inl (M 20))), (G.2.2.2 21, .inl (G.1, 12000, .inl (M 21))), (G.2.2.2 23, .inl (G.1, 24000, .inl (M 23))), (G.2.2.2 24, .inl (G.1, 24000, .inl (M 24))), (G.2.2.2 25, .inl (G.1, 24000, .inl (M 25))), (G.2.2.2 26, .inl (G.1, 24000, .inl (M 26))), (G.2.2.2 27, .inl (G.2.1, 24000, .inl (M 27))), (G.2.2.2 28, .inl (G.2.1, 24000, .inl (M 28))), (G.2.2.2 31, .inl (G.1, 1000, .inl (M 31))), (G.2.2.2 32, .inl (G.1, 1000, .inl (M 32))), (G.2.2.2 34, .inl (G.1, 4200, .inl (M 34))), (G.2.2.2 35, .inl (G.1, 4200, .inl (M 35))), (G.2.2.2 37, .inl (G.1, 200, .inl (M 37))), (G.2.2.2 39, .inl (G.1, 20000, .inl (M 39))), (G.2.2.2 40, .inl (G.1, 20000, .inl (M 40))), (G.2.2.2 41, .inl (G.2.1, 20000, .inl (M 41))), (G.2.2.2 43, .inl (G.1, 3000, .inl (M 43))), (G.2.2.2 44, .inl (G.1, 3000, .inl (M 44))), (G.2.2.2 45, .inl (G.1, 3000, .inl (M 45))), (G.2.2.2 46, .inl (G.1, 3000, .inl (M 46))), (G.2.2.2 47, .inl (G.1, 3000, .inl (M 47))), (G.2.2.2 48, .inl (G.1, 3000, .inl (M 48))), (G.2.2.2 49, .inl (G.1, 3000, .inl (M 49)))]
abbrev mT (G : MG) : List (ClassId × FieldType) := [(G.1, .int), (G.2.1, .boolean)]
def mOK (D : va_G) (A : Nat → Prop) (G : MG) (M : MS) (H0 H : Heap) (locs : List Loc) : Prop := va_P D vwCl (mW G M) H ∧ va_D A (mW G M) ∧ va_S A H0 H locs
abbrev mPre (D : va_G) (A : Nat → Prop) (G : MG) (M : MS) : State → Prop := fun U => va_P D vwCl (mW G M) U.heap ∧ va_K D vwCl (mT G) U ∧ va_D A (mW G M)
abbrev mPost (D : va_G) (A : Nat → Prop) (G : MG) : MS → State → Prop := fun M t => va_P D vwCl (mW G M) t.heap ∧ va_K D vwCl (mT G) t ∧ va_D A (mW G M)
abbrev wM (y : MethodName) (cc : ByteArray) (n : Nat) (ret : Option FieldType) : List Cond := Cond.code y cc n ret :: Tw
abbrev rM (f L : Nat) : Room := { frames := f, cells := 0, slots := 0, locals := L }
theorem inT12 : ∀ w ∈ u_ws RX12 TX12 52, w ∈ Tw := by decide +kernel
theorem TX12_cls : ∀ k, (TX12 k).1 = RX12 := by intro k; unfold TX12; split <;> rfl
/-- an array's place in the world -/
def mAr (k pos n : Nat) (z : Bool) : Prop := ∀ (G : MG) (M : MS), (mW G M)[pos]? = some (G.2.2.2 k, .inl (if z then G.2.1 else G.1, n, .inl (M k))) ∧ ∀ f : Nat → Int32, (mW G M).set pos (G.2.2.2 k, .inl (if z then G.2.1 else G.1, n, .inl f)) = mW G (mset M k f)
def mSc (k : Nat) : Prop := ∀ (G : MG) (M : MS) (x : Int32), (mW G M).set 0 (G.2.2.1, .inr (12, (mfs G M).set k (.int x))) = mW G (mput M k 0 x)
theorem mS_0 : mSc 0 := fun _ _ _ => rfl
theorem mS_1 : mSc 1 := fun _ _ _ => rfl
theorem mA_2 : mAr 2 1 3000 false := fun _ _ => ⟨rfl, fun _ => rfl⟩
theorem mA_3 : mAr 3 2 3000 false := fun _ _ => ⟨rfl, fun _ => rfl⟩
theorem mA_4 : mAr 4 3 3000 false := fun _ _ => ⟨rfl, fun _ => rfl⟩
theorem mA_5 : mAr 5 4 3000 false := fun _ _ => ⟨rfl, fun _ => rfl⟩
theorem mA_6 : mAr 6 5 3000 false := fun _ _ => ⟨rfl, fun _ => rfl⟩
theorem mA_7 : mAr 7 6 3000 true := fun _ _ => ⟨rfl, fun _ => rfl⟩
theorem mA_8 : mAr 8 7 3000 false := fun _ _ => ⟨rfl, fun _ => rfl⟩
theorem mA_9 : mAr 9 8 3000 false := fun _ _ => ⟨rfl, fun _ => rfl⟩
theorem mA_10 : mAr 10 9 3000 false := fun _ _ => ⟨rfl, fun _ => rfl⟩
theorem mA_11 : mAr 11 10 3000 false := fun _ _ => ⟨rfl, fun _ => rfl⟩
theorem mA_12 : mAr 12 11 3000 false := fun _ _ => ⟨rfl, fun _ => rfl⟩
theorem mA_13 : mAr 13 12 12000 false := fun _ _ => ⟨rfl, fun _ => rfl⟩
theorem mA_14 : mAr 14 13 12000 true := fun _ _ => ⟨rfl, fun _ => rfl⟩
theorem mS_15 : mSc 15 := fun _ _ _ => rfl
theorem mA_16 : mAr 16 14 12000 false := fun _ _ => ⟨rfl, fun _ => rfl⟩
theorem mA_17 : mAr 17 15 12000 false := fun _ _ => ⟨rfl, fun _ => rfl⟩
theorem mA_18 : mAr 18 16 12000 false := fun _ _ => ⟨rfl, fun _ => rfl⟩
theorem mA_19 : mAr 19 17 12000 false := fun _ _ => ⟨rfl, fun _ => rfl⟩
theorem mA_20 : mAr 20 18 12000 false := fun _ _ => ⟨rfl, fun _ => rfl⟩
theorem mA_21 : mAr 21 19 12000 false := fun _ _ => ⟨rfl, fun _ => rfl⟩
theorem mS_22 : mSc 22 := fun _ _ _ => rfl
theorem mA_23 : mAr 23 20 24000 false := fun _ _ => ⟨rfl, fun _ => rfl⟩
theorem mA_24 : mAr 24 21 24000 false := fun _ _ => ⟨rfl, fun _ => rfl⟩
theorem mA_25 : mAr 25 22 24000 false := fun _ _ => ⟨rfl, fun _ => rfl⟩
theorem mA_26 : mAr 26 23 24000 false := fun _ _ => ⟨rfl, fun _ => rfl⟩
theorem mA_27 : mAr 27 24 24000 true := fun _ _ => ⟨rfl, fun _ => rfl⟩
theorem mA_28 : mAr 28 25 24000 true := fun _ _ => ⟨rfl, fun _ => rfl⟩
theorem mS_29 : mSc 29 := fun _ _ _ => rfl
theorem mS_30 : mSc 30 := fun _ _ _ => rfl
theorem mA_31 : mAr 31 26 1000 false := fun _ _ => ⟨rfl, fun _ => rfl⟩
theorem mA_32 : mAr 32 27 1000 false := fun _ _ => ⟨rfl, fun _ => rfl⟩
theorem mS_33 : mSc 33 := fun _ _ _ => rfl
theorem mA_34 : mAr 34 28 4200 false := fun _ _ => ⟨rfl, fun _ => rfl⟩
theorem mA_35 : mAr 35 29 4200 false := fun _ _ => ⟨rfl, fun _ => rfl⟩
theorem mS_36 : mSc 36 := fun _ _ _ => rfl
theorem mA_37 : mAr 37 30 200 false := fun _ _ => ⟨rfl, fun _ => rfl⟩
theorem mS_38 : mSc 38 := fun _ _ _ => rfl
theorem mA_39 : mAr 39 31 20000 false := fun _ _ => ⟨rfl, fun _ => rfl⟩
theorem mA_40 : mAr 40 32 20000 false := fun _ _ => ⟨rfl, fun _ => rfl⟩
theorem mA_41 : mAr 41 33 20000 true := fun _ _ => ⟨rfl, fun _ => rfl⟩
theorem mS_42 : mSc 42 := fun _ _ _ => rfl
theorem mA_43 : mAr 43 34 3000 false := fun _ _ => ⟨rfl, fun _ => rfl⟩
theorem mA_44 : mAr 44 35 3000 false := fun _ _ => ⟨rfl, fun _ => rfl⟩
theorem mA_45 : mAr 45 36 3000 false := fun _ _ => ⟨rfl, fun _ => rfl⟩
theorem mA_46 : mAr 46 37 3000 false := fun _ _ => ⟨rfl, fun _ => rfl⟩
theorem mA_47 : mAr 47 38 3000 false := fun _ _ => ⟨rfl, fun _ => rfl⟩
theorem mA_48 : mAr 48 39 3000 false := fun _ _ => ⟨rfl, fun _ => rfl⟩
theorem mA_49 : mAr 49 40 3000 false := fun _ _ => ⟨rfl, fun _ => rfl⟩
theorem mS_50 : mSc 50 := fun _ _ _ => rfl
theorem mS_51 : mSc 51 := fun _ _ _ => rfl
/-! the steps of a run that may fail -/
def chk {α : Type} (c : Prop) [Decidable c] (b : Option α) : Option α := if c then b else none
theorem chk_e {α : Type} {c : Prop} [Decidable c] {b : Option α} {x : α} (h : chk c b = some x) : c ∧ b = some x := by
  unfold chk at h
  split at h
  · exact ⟨‹_›, h⟩
  · cases h
theorem chk_i {α : Type} {c : Prop} [Decidable c] {b : Option α} (h : c) : chk c b = b := if_pos h
def lt9 {α β : Type} (a : α) (f : α → β) : β := f a
theorem lt9_u {α β : Type} {a y : α} {f : α → β} {x : β} (e : y = a) (h : lt9 a f = x) : f y = x := by rw [e]; exact h
def bnd {α β : Type} (a : Option α) (f : α → Option β) : Option β := match a with
  | some y => f y
  | none => none
theorem bnd_e {α β : Type} {a : Option α} {f : α → Option β} {x : β} (h : bnd a f = some x) : ∃ y, a = some y ∧ f y = some x := by
  cases a with
  | none => cases h
  | some y => exact ⟨y, rfl, h⟩
theorem if_y {α : Type} {c : Prop} [Decidable c] {a b x : α} (h : c) (e : (if c then a else b) = x) : a = x := by rw [if_pos h] at e; exact e
theorem if_n {α : Type} {c : Prop} [Decidable c] {a b x : α} (h : ¬ c) (e : (if c then a else b) = x) : b = x := by rw [if_neg h] at e; exact e
/-- i is a place among n -/
abbrev inb (i : Int32) (n : Nat) : Prop := 0 ≤ i.toInt ∧ i.toInt < n
abbrev isB (x : Int32) : Prop := x = 0 ∨ x = 1
theorem isB_nar {x : Int32} (h : isB x) : vp_nar .boolean x = x := by rcases h with rfl | rfl <;> rfl
theorem isB_narrow {x : Int32} (h : isB x) : narrow .boolean (.int x) = .int x := by rcases h with rfl | rfl <;> rfl
theorem isB_fits {x : Int32} (h : isB x) : fits .boolean (.int x) = true := by rcases h with rfl | rfl <;> rfl
section MR
variable {p : Program} {l : Launch} {e : Env} {R : Room} {s : State} {m : MethodId} {args : Array Value} {below : List Frame} {meth : Method} {c : Code} {H : Heap} {locs : List Loc} {Q : State → Prop}
variable {cc : ByteArray} {pc : Nat} {ls : Array Slot} {rest : List Value} {D : va_G} {A : Nat → Prop} {G : MG} {M : MS} {H0 : Heap} {w0 : Cond} {nL : Nat} {ret : Option FieldType}
/-- what holds in a method's body of the reference -/
def mB (p : Program) (s : State) (m : MethodId) (args : Array Value) (meth : Method) (c : Code) (D : va_G) (G : MG) (cc : ByteArray) (nL : Nat) (ret : Option FieldType) (w0 : Cond) : Prop :=
  p.tables.exec = Jvm.exec ∧ c.code = cc ∧ meth.sig.returnType = ret ∧ c.maxLocals = nL ∧ s.vm.findClass RX12 = some m.cls ∧ (∀ w ∈ w0 :: Tw, w.before args s = true) ∧ meth.locks = false ∧ va_K D vwCl (mT G) s
theorem m_get (B : mB p s m args meth c D G cc nL ret w0) (hW : mOK D A G M H0 H locs) (k : Nat) (hk : k < 52) {index : Nat} (hu : Cond.fieldLink RX12 index RX12 (TX12 k).2.1 (TX12 k).2.2.1 ∈ Tw) {v : Value} (hv : (mfs G M)[k]? = some v) (hdg : decode cc pc = .ok (.getfield index, 3))
    (kk : W p l e R s m args below meth c H locs 0 0 Q (F0 m (pc + 3) ls (v :: rest))) : W p l e R s m args below meth c H locs 0 0 Q (F0 m pc ls (.ref G.2.2.1 :: rest)) := by
  obtain ⟨hx, hb, -, -, hown, hts, -, hK⟩ := B
  exact va_get (D := D) (ci := 12) (v := v) (C := RX12) (T := TX12) (N := 52) hx hb hts (fun w h => List.mem_cons_of_mem _ (inT12 w h)) hown hK hW.1 0 rfl rfl k hk (hts _ (List.mem_cons_of_mem _ hu)) (fun _ h9 => by rw [TX12_cls] at h9; exact h9) hv hdg kk
theorem m_put (B : mB p s m args meth c D G cc nL ret w0) (hW : mOK D A G M H0 H locs) (k : Nat) (hk : k < 52) {index : Nat} (hu : Cond.fieldLink RX12 index RX12 (TX12 k).2.1 (TX12 k).2.2.1 ∈ Tw) (hS : mSc k) (hf : (TX12 k).2.2.2 = false) {ty : FieldType} {x : Int32} (hd : parseFieldDescriptor (TX12 k).2.2.1 = some ty) (hn : narrow ty (.int x) = .int x) (hfit : fits ty (.int x) = true) (hl : k < (mfs G M).length) (hdg : decode cc pc = .ok (.putfield index, 3))
    (kk : ∀ (H1 : Heap) (locs1 : List Loc) (M1 : MS), M1 = mput M k 0 x → mOK D A G M1 H0 H1 locs1 → W p l e R s m args below meth c H1 locs1 0 0 Q (F0 m (pc + 3) ls rest)) : W p l e R s m args below meth c H locs 0 0 Q (F0 m pc ls (.int x :: .ref G.2.2.1 :: rest)) := by
  obtain ⟨hx, hb, -, -, hown, hts, -, hK⟩ := B
  refine va_put (D := D) (ci := 12) (v := .int x) (ty := ty) (C := RX12) (T := TX12) (N := 52) hx hb hts (fun w h => List.mem_cons_of_mem _ (inT12 w h)) tyX12 tyX12_ok nmX12 hown hK hW.1 hW.2.1 hW.2.2 0 rfl rfl k hk (hts _ (List.mem_cons_of_mem _ hu)) (fun _ h9 => by rw [TX12_cls] at h9; exact h9) hf hd hn hfit hl hdg (fun H1 locs1 hP hD hS1 => ?_)
  rw [hS] at hP hD
  exact kk H1 locs1 _ rfl ⟨hP, hD, hS1⟩
theorem m_iald (B : mB p s m args meth c D G cc nL ret w0) (hW : mOK D A G M H0 H locs) {k pos n : Nat} (hA : mAr k pos n false) {i : Int32} (hin : inb i n) (hdg : decode cc pc = .ok (.iaload, 1))
    (kk : W p l e R s m args below meth c H locs 0 0 Q (F0 m (pc + 1) ls (.int (M k i.toNatClampNeg) :: rest))) : W p l e R s m args below meth c H locs 0 0 Q (F0 m pc ls (.int i :: .ref (G.2.2.2 k) :: rest)) := by
  obtain ⟨hx, hb, -, -, hown, hts, -, hK⟩ := B
  exact va_iald hx hb hK hW.1 pos 0 (hA G M).1 rfl (vp_in_iff.mpr hin) hdg kk
theorem m_zald (B : mB p s m args meth c D G cc nL ret w0) (hW : mOK D A G M H0 H locs) {k pos n : Nat} (hA : mAr k pos n true) {i : Int32} (hin : inb i n) (hdg : decode cc pc = .ok (.baload, 1))
    (kk : W p l e R s m args below meth c H locs 0 0 Q (F0 m (pc + 1) ls (.int (M k i.toNatClampNeg) :: rest))) : W p l e R s m args below meth c H locs 0 0 Q (F0 m pc ls (.int i :: .ref (G.2.2.2 k) :: rest)) := by
  obtain ⟨hx, hb, -, -, hown, hts, -, hK⟩ := B
  exact va_zald hx hb hK hW.1 pos 1 (hA G M).1 rfl (vp_in_iff.mpr hin) hdg kk
theorem m_iast (B : mB p s m args meth c D G cc nL ret w0) (hW : mOK D A G M H0 H locs) {k pos n : Nat} (hA : mAr k pos n false) {i x : Int32} (hin : inb i n) (hdg : decode cc pc = .ok (.iastore, 1))
    (kk : ∀ (H1 : Heap) (locs1 : List Loc) (M1 : MS), M1 = mput M k i.toNatClampNeg x → mOK D A G M1 H0 H1 locs1 → W p l e R s m args below meth c H1 locs1 0 0 Q (F0 m (pc + 1) ls rest)) : W p l e R s m args below meth c H locs 0 0 Q (F0 m pc ls (.int x :: .int i :: .ref (G.2.2.2 k) :: rest)) := by
  obtain ⟨hx, hb, -, -, hown, hts, -, hK⟩ := B
  refine va_iast hx hb hK hW.1 hW.2.1 hW.2.2 pos 0 (hA G M).1 rfl (vp_in_iff.mpr hin) hdg (fun H1 locs1 hP hD hS1 => ?_)
  have he := (hA G M).2 (upd (M k) i.toNatClampNeg x)
  refine kk H1 locs1 _ rfl ⟨?_, ?_, hS1⟩
  · exact he ▸ hP
  · exact he ▸ hD
theorem m_zast (B : mB p s m args meth c D G cc nL ret w0) (hW : mOK D A G M H0 H locs) {k pos n : Nat} (hA : mAr k pos n true) {i x : Int32} (hx1 : isB x) (hin : inb i n) (hdg : decode cc pc = .ok (.bastore, 1))
    (kk : ∀ (H1 : Heap) (locs1 : List Loc) (M1 : MS), M1 = mput M k i.toNatClampNeg x → mOK D A G M1 H0 H1 locs1 → W p l e R s m args below meth c H1 locs1 0 0 Q (F0 m (pc + 1) ls rest)) : W p l e R s m args below meth c H locs 0 0 Q (F0 m pc ls (.int x :: .int i :: .ref (G.2.2.2 k) :: rest)) := by
  obtain ⟨hx, hb, -, -, hown, hts, -, hK⟩ := B
  refine va_zast hx hb hK hW.1 hW.2.1 hW.2.2 pos 1 (hA G M).1 rfl (vp_in_iff.mpr hin) hdg (fun H1 locs1 hP hD hS1 => ?_)
  rw [isB_nar hx1] at hP hD
  have he := (hA G M).2 (upd (M k) i.toNatClampNeg x)
  refine kk H1 locs1 _ rfl ⟨?_, ?_, hS1⟩
  · exact he ▸ hP
  · exact he ▸ hD
abbrev mQi (D : va_G) (A : Nat → Prop) (G : MG) (r : Int32) (M' : MS) : Array Value → State → Outcome → State → Prop := va_Qi (fun r1 M1 => r1 = r ∧ M1 = M') (mPost D A G) A
abbrev mQv (D : va_G) (A : Nat → Prop) (G : MG) (M' : MS) : Array Value → State → Outcome → State → Prop := va_Qv (fun M1 => M1 = M') (mPost D A G) A
theorem m_iret {r x : Int32} {M' : MS} (B : mB p s m args meth c D G cc nL (some .int) w0) (hW : mOK D A G M s.heap H locs) (hq : some (x, M) = some (r, M')) (hdg : decode cc pc = .ok (.ireturn, 1)) :
    W p l e R s m args below meth c H locs 0 0 (MQ below (mQi D A G r M') args s 0 0 A) (F0 m pc ls [.int x]) := by
  obtain ⟨hx, hb, hr, -, hown, hts, hlocks, hK⟩ := B
  cases hq
  exact W.iret hx hb hr (fun t ht hWm => ⟨⟨_, _, rfl, ⟨rfl, rfl⟩, by rw [ht]; exact hW.1, va_K.moved hWm.alike hK, hW.2.1⟩, hW.2.2.F ht⟩) hW.2.2.2.2 hdg hlocks
theorem m_zret {r x : Int32} {M' : MS} (B : mB p s m args meth c D G cc nL (some .boolean) w0) (hW : mOK D A G M s.heap H locs) (hx1 : isB x) (hq : some (x, M) = some (r, M')) (hdg : decode cc pc = .ok (.ireturn, 1)) :
    W p l e R s m args below meth c H locs 0 0 (MQ below (mQi D A G r M') args s 0 0 A) (F0 m pc ls [.int x]) := by
  obtain ⟨hx, hb, hr, -, hown, hts, hlocks, hK⟩ := B
  cases hq
  exact W.zret hx hb hr (isB_narrow hx1) (fun t ht hWm => ⟨⟨_, _, rfl, ⟨rfl, rfl⟩, by rw [ht]; exact hW.1, va_K.moved hWm.alike hK, hW.2.1⟩, hW.2.2.F ht⟩) hW.2.2.2.2 hdg hlocks
theorem m_vret {M' : MS} (B : mB p s m args meth c D G cc nL none w0) (hW : mOK D A G M s.heap H locs) (hq : some M = some M') (hdg : decode cc pc = .ok (.return_, 1)) :
    W p l e R s m args below meth c H locs 0 0 (MQ below (mQv D A G M') args s 0 0 A) (F0 m pc ls []) := by
  obtain ⟨hx, hb, hr, -, hown, hts, hlocks, hK⟩ := B
  cases hq
  exact W.vret hx hb hr (fun t ht hWm => ⟨⟨_, rfl, rfl, by rw [ht]; exact hW.1, va_K.moved hWm.alike hK, hW.2.1⟩, hW.2.2.F ht⟩) hW.2.2.2.2 hdg hlocks
/-- what a call of one of the reference's own methods needs of its name -/
def mC (y : MethodName) (cy : ByteArray) (nY : Nat) (rY : Option FieldType) (idx n : Nat) : Prop :=
  (∀ w0 : Cond, GoodIn (w0 :: Tw) (wsV RX12 idx RX12 y (wM y cy nY rY))) ∧ (y.cls = RX12 ∧ y.cls ≠ "java/lang/invoke/MethodHandle" ∧ y.cls ≠ "java/lang/invoke/VarHandle" ∧ (parseMethodDescriptor y.desc).map (fun d => d.parameters.length) = some n)
theorem m_run {y : MethodName} {cy : ByteArray} {nY idx n : Nat} {rY : Option FieldType} {f L : Nat} {As : List Value} {Qc : Array Value → State → Outcome → State → Prop} (B : mB p s m args meth c D G cc nL ret w0) (hW : mOK D A G M H0 H locs) (hl : ls.size = nL) (hM : Met l y (wM y cy nY rY) (rM f L) (va_Pc (.ref G.2.2.1 :: As) (mPre D A G M)) Qc 0 0 A) (hC : mC y cy nY rY idx n) (hn : As.length = n) (hR : f + 1 ≤ R.frames ∧ 8 + (nY + 11) + L ≤ R.locals) {st : List Value} (hst : st = As.reverse ++ .ref G.2.2.1 :: rest) (hr8 : (rest.map fun v => v.category).sum ≤ 8) (hdg : decode cc pc = .ok (.invokevirtual idx, 3)) :
    va_Run p l e R s m args below meth c H locs 0 0 0 0 (F0 m pc ls st) rest (Qc (Value.ref G.2.2.1 :: As).toArray) A := by
  obtain ⟨hx, hb, -, hml, hown, hts, -, hK⟩ := B
  exact va_runV (As := As) (rest := rest) ⟨hx, hb, hml, hown, hts⟩ hM (cwV n hts (hC.1 w0) rfl rfl rfl hC.2 hR)
    ⟨fun a U g mk q => by obtain ⟨q0, qP, qK, qD⟩ := q; exact ⟨q0, qP, va_K.moved (u := U) (U := U.calling g mk a) (Vm.Alike.refl U.vm) qK, qD⟩, va_recv hK hW.1 (ci := 12) (q0 := 0) rfl rfl, fun U hU hWm => ⟨rfl, by rw [hU]; exact hW.1, va_K.moved hWm.alike hK, hW.2.1⟩⟩
    rfl hn hl hst (lv_room (m := m) (pc := pc) (ls := ls) (rest := rest) hr8) hdg ⟨Nat.zero_le _, Nat.zero_le _⟩
theorem m_calli {y : MethodName} {cy : ByteArray} {nY idx n : Nat} {rY : Option FieldType} {f L : Nat} {As : List Value} {r : Int32} {M1 : MS} (B : mB p s m args meth c D G cc nL ret w0) (hW : mOK D A G M H0 H locs) (hl : ls.size = nL) (hM : Met l y (wM y cy nY rY) (rM f L) (va_Pc (.ref G.2.2.1 :: As) (mPre D A G M)) (mQi D A G r M1) 0 0 A) (hC : mC y cy nY rY idx n) (hn : As.length = n) (hR : f + 1 ≤ R.frames ∧ 8 + (nY + 11) + L ≤ R.locals) {st : List Value} (hst : st = As.reverse ++ .ref G.2.2.1 :: rest) (hr8 : (rest.map fun v => v.category).sum ≤ 8) (hdg : decode cc pc = .ok (.invokevirtual idx, 3))
    (kk : ∀ (H1 : Heap) (locs1 : List Loc), mOK D A G M1 H0 H1 locs1 → W p l e R s m args below meth c H1 locs1 0 0 Q (F0 m (pc + 3) ls (.int r :: rest))) : W p l e R s m args below meth c H locs 0 0 Q (F0 m pc ls st) := by
  refine va_calli (m_run B hW hl hM hC hn hR hst hr8 hdg) hW.2.2 (fun _ _ h => h) (fun _ h => h) (fun r1 u t H1 locs1 ht hvm hw hB hz1 hk1 hS => ?_)
  obtain ⟨rfl, rfl⟩ := hw
  obtain ⟨hP1, -, hD1⟩ := hB
  rw [ht] at hP1
  exact kk H1 locs1 ⟨hP1, hD1, hS⟩
theorem m_callv {y : MethodName} {cy : ByteArray} {nY idx n : Nat} {rY : Option FieldType} {f L : Nat} {As : List Value} {M1 : MS} (B : mB p s m args meth c D G cc nL ret w0) (hW : mOK D A G M H0 H locs) (hl : ls.size = nL) (hM : Met l y (wM y cy nY rY) (rM f L) (va_Pc (.ref G.2.2.1 :: As) (mPre D A G M)) (mQv D A G M1) 0 0 A) (hC : mC y cy nY rY idx n) (hn : As.length = n) (hR : f + 1 ≤ R.frames ∧ 8 + (nY + 11) + L ≤ R.locals) {st : List Value} (hst : st = As.reverse ++ .ref G.2.2.1 :: rest) (hr8 : (rest.map fun v => v.category).sum ≤ 8) (hdg : decode cc pc = .ok (.invokevirtual idx, 3))
    (kk : ∀ (H1 : Heap) (locs1 : List Loc), mOK D A G M1 H0 H1 locs1 → W p l e R s m args below meth c H1 locs1 0 0 Q (F0 m (pc + 3) ls rest)) : W p l e R s m args below meth c H locs 0 0 Q (F0 m pc ls st) := by
  refine va_callv (m_run B hW hl hM hC hn hR hst hr8 hdg) hW.2.2 (fun _ _ h => h) (fun _ h => h) (fun u t H1 locs1 ht hvm hw hB hz1 hk1 hS => ?_)
  subst hw
  obtain ⟨hP1, -, hD1⟩ := hB
  rw [ht] at hP1
  exact kk H1 locs1 ⟨hP1, hD1, hS⟩
theorem m_head {y : MethodName} {cy : ByteArray} {nY : Nat} {rY : Option FieldType} {f L : Nat} {vs : List Value} {Qc : Array Value → State → Outcome → State → Prop} (hy : plainName y.cls = true) (hcls : y.cls = RX12) (hvs : (lg_sl vs).length ≤ nY)
    (body : ∀ p e s m args below meth c ls, mB p s m args meth c D G cy nY rY (Cond.code y cy nY rY) → mOK D A G M s.heap s.heap [] → lv_has ls nY (lv_args 0 vs) → W p l e (rM f L) s m args below meth c s.heap [] 0 0 (MQ below Qc args s 0 0 A) (F0 m 0 ls [])) :
    Met l y (wM y cy nY rY) (rM f L) (va_Pc vs (mPre D A G M)) Qc 0 0 A := by
  refine Met.ofW (cc := cy) (maxL := nY) (ret := rY) hy rfl ?_
  intro p e s m args below meth c s₁ B hml hv
  obtain ⟨rfl, hP, hK, hD⟩ := hv
  have hts := atoms_spec (ws := wM y cy nY rY) B.pre
  have hown : s.vm.findClass y.cls = some m.cls := findClass_of_methodNamed B.named
  rw [hcls] at hown
  rw [lg_entry_eq]
  exact body p e s m _ below meth c _ ⟨B.exec, B.bytes, B.returns, hml, hown, hts, B.notSynchronized, hK⟩ ⟨hP, hD, va_S.rf⟩ (lv_entry vs hvs)
end MR
