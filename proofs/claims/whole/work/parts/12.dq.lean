theorem vcn : ∀ v ∈ ([] : List Value), v.category = 1 := fun _ h => nomatch h
theorem vcc {v : Value} {l : List Value} (h : v.category = 1) (t : ∀ w ∈ l, w.category = 1) : ∀ w ∈ v :: l, w.category = 1 := fun w hw => (List.mem_cons.mp hw).elim (fun e => by rw [e]; exact h) (t w)
theorem cat_sum : ∀ {st : List Value}, (∀ v ∈ st, v.category = 1) → (st.map fun v => v.category).sum = st.length := by
  intro st
  induction st with
  | nil => intro _; rfl
  | cons v t ih =>
    intro h
    rw [List.map_cons, List.sum_cons, h v List.mem_cons_self, ih (fun w hw => h w (List.mem_cons_of_mem _ hw)), List.length_cons]
    omega
theorem cat8 {st : List Value} (h : ∀ v ∈ st, v.category = 1) (hl : st.length ≤ 8) : (st.map fun v => v.category).sum ≤ 8 := by rw [cat_sum h]; exact hl
theorem catL {st : List Value} (h : ∀ v ∈ st, v.category = 1) {k N : Nat} (hl : st.length + k ≤ N) : (st.map fun v => v.category).sum + k ≤ N := by rw [cat_sum h]; exact hl
theorem or3 {p q r a b : Prop} (h : p ∨ q ∨ r) (f1 : p → a → b) (f2 : q → a → b) (f3 : r → a → b) (x : a) : b := h.elim (fun z => f1 z x) (fun z => z.elim (fun z => f2 z x) (fun z => f3 z x))
theorem y1_X0_init : dY1 yX0_init 4 := by unfold dY1; decide +kernel
theorem y1_X1_init : dY1 yX1_init 3 := by unfold dY1; decide +kernel
theorem y1_X2_init : dY1 yX2_init 3 := by unfold dY1; decide +kernel
theorem y1_X2_callIn : dY1 yX2_callIn 2 := by unfold dY1; decide +kernel
theorem y1_X3_init : dY1 yX3_init 0 := by unfold dY1; decide +kernel
theorem y1_X4_init : dY1 yX4_init 5 := by unfold dY1; decide +kernel
theorem y1_X4_reaction : dY1 yX4_reaction 3 := by unfold dY1; decide +kernel
theorem y1_X4_resumption : dY1 yX4_resumption 1 := by unfold dY1; decide +kernel
theorem y1_X4_follow : dY1 yX4_follow 2 := by unfold dY1; decide +kernel
theorem y1_X4_hear : dY1 yX4_hear 2 := by unfold dY1; decide +kernel
theorem y1_X5_init : dY1 yX5_init 2 := by unfold dY1; decide +kernel
theorem y1_X5_callIn : dY1 yX5_callIn 2 := by unfold dY1; decide +kernel
theorem y1_X6_init : dY1 yX6_init 1 := by unfold dY1; decide +kernel
theorem y1_X7_init : dY1 yX7_init 1 := by unfold dY1; decide +kernel
theorem y1_X8_init : dY1 yX8_init 4 := by unfold dY1; decide +kernel
theorem y1_X8_resolving : dY1 yX8_resolving 1 := by unfold dY1; decide +kernel
theorem y1_X8_rejecting : dY1 yX8_rejecting 1 := by unfold dY1; decide +kernel
theorem y1_X8_callIn : dY1 yX8_callIn 2 := by unfold dY1; decide +kernel
theorem y1_X9_init : dY1 yX9_init 2 := by unfold dY1; decide +kernel
theorem y1_X10_init : dY1 yX10_init 3 := by unfold dY1; decide +kernel
theorem y1_X11_init : dY1 yX11_init 0 := by unfold dY1; decide +kernel
theorem y1_X11_promise : dY1 yX11_promise 0 := by unfold dY1; decide +kernel
theorem y1_X11_handler : dY1 yX11_handler 2 := by unfold dY1; decide +kernel
theorem y1_X11_thenable : dY1 yX11_thenable 5 := by unfold dY1; decide +kernel
theorem y1_X11_settle : dY1 yX11_settle 3 := by unfold dY1; decide +kernel
theorem y1_X11_later : dY1 yX11_later 3 := by unfold dY1; decide +kernel
theorem y1_X11_then : dY1 yX11_then 4 := by unfold dY1; decide +kernel
theorem y1_X11_lastly : dY1 yX11_lastly 2 := by unfold dY1; decide +kernel
theorem y1_X11_wrap : dY1 yX11_wrap 1 := by unfold dY1; decide +kernel
theorem y1_X11_broken : dY1 yX11_broken 1 := by unfold dY1; decide +kernel
theorem y1_X11_item : dY1 yX11_item 1 := by unfold dY1; decide +kernel
theorem y1_X11_combine : dY1 yX11_combine 1 := by unfold dY1; decide +kernel
theorem y1_X11_async : dY1 yX11_async 2 := by unfold dY1; decide +kernel
theorem y1_X11_jobs : dY1 yX11_jobs 1 := by unfold dY1; decide +kernel
theorem y1_X11_state : dY1 yX11_state 1 := by unfold dY1; decide +kernel
theorem y1_X11_result : dY1 yX11_result 1 := by unfold dY1; decide +kernel
theorem y1_X11_kind : dY1 yX11_kind 1 := by unfold dY1; decide +kernel
theorem y1_X11_part : dY1 yX11_part 2 := by unfold dY1; decide +kernel
theorem y1_X11_log : dY1 yX11_log 2 := by unfold dY1; decide +kernel
theorem y1_X11_count : dY1 yX11_count 1 := by unfold dY1; decide +kernel
theorem y1_X11_requireRange : dY1 yX11_requireRange 3 := by unfold dY1; decide +kernel
theorem y1_X11_requireValue : dY1 yX11_requireValue 1 := by unfold dY1; decide +kernel
theorem y1_X11_requireThing : dY1 yX11_requireThing 1 := by unfold dY1; decide +kernel
theorem y1_X11_requirePromise : dY1 yX11_requirePromise 1 := by unfold dY1; decide +kernel
theorem y1_X11_requireThenable : dY1 yX11_requireThenable 1 := by unfold dY1; decide +kernel
theorem y1_X11_requireKept : dY1 yX11_requireKept 1 := by unfold dY1; decide +kernel
theorem y1_X11_requireHandler : dY1 yX11_requireHandler 1 := by unfold dY1; decide +kernel
theorem y1_X11_requireParts : dY1 yX11_requireParts 1 := by unfold dY1; decide +kernel
theorem y1_X11_requireRoom : dY1 yX11_requireRoom 1 := by unfold dY1; decide +kernel
theorem y1_X11_requireRoomInLog : dY1 yX11_requireRoomInLog 0 := by unfold dY1; decide +kernel
theorem y1_X11_thingOf : dY1 yX11_thingOf 1 := by unfold dY1; decide +kernel
theorem y1_X11_nextValue : dY1 yX11_nextValue 0 := by unfold dY1; decide +kernel
theorem y1_X11_newThing : dY1 yX11_newThing 2 := by unfold dY1; decide +kernel
theorem y1_X11_newPromise : dY1 yX11_newPromise 0 := by unfold dY1; decide +kernel
theorem y1_X11_note : dY1 yX11_note 2 := by unfold dY1; decide +kernel
theorem y1_X11_takeList : dY1 yX11_takeList 0 := by unfold dY1; decide +kernel
theorem y1_X11_enqueue : dY1 yX11_enqueue 1 := by unfold dY1; decide +kernel
theorem y1_X11_dequeue : dY1 yX11_dequeue 1 := by unfold dY1; decide +kernel
theorem y1_X11_callOneOf : dY1 yX11_callOneOf 3 := by unfold dY1; decide +kernel
theorem y1_X11_resolve : dY1 yX11_resolve 2 := by unfold dY1; decide +kernel
theorem y1_X11_hasThenFunction : dY1 yX11_hasThenFunction 1 := by unfold dY1; decide +kernel
theorem y1_X11_reject : dY1 yX11_reject 2 := by unfold dY1; decide +kernel
theorem y1_X11_close : dY1 yX11_close 3 := by unfold dY1; decide +kernel
theorem y1_X11_promiseFor : dY1 yX11_promiseFor 1 := by unfold dY1; decide +kernel
theorem y1_X11_derive : dY1 yX11_derive 3 := by unfold dY1; decide +kernel
theorem y1_X11_attach : dY1 yX11_attach 2 := by unfold dY1; decide +kernel
theorem y1_X11_doJob : dY1 yX11_doJob 1 := by unfold dY1; decide +kernel
theorem y1_X11_finish : dY1 yX11_finish 2 := by unfold dY1; decide +kernel
theorem y1_X11_hears : dY1 yX11_hears 2 := by unfold dY1; decide +kernel
theorem y1_X11_advance : dY1 yX11_advance 1 := by unfold dY1; decide +kernel
theorem y1_X11_callThen : dY1 yX11_callThen 2 := by unfold dY1; decide +kernel
theorem y1_X11_doAct : dY1 yX11_doAct 4 := by unfold dY1; decide +kernel
theorem y1_X11_onFulfilled : dY1 yX11_onFulfilled 2 := by unfold dY1; decide +kernel
theorem y1_X11_onRejected : dY1 yX11_onRejected 2 := by unfold dY1; decide +kernel
theorem y1_X11_complete : dY1 yX11_complete 1 := by unfold dY1; decide +kernel
theorem y1_Jxa1e45_init_da8c8 : dY1 yJxa1e45_init_da8c8 0 := by unfold dY1; decide +kernel
theorem y1_Jxc12de_init_da8c8 : dY1 yJxc12de_init_da8c8 0 := by unfold dY1; decide +kernel
theorem y1_Jx4a65c_init_da8c8 : dY1 yJx4a65c_init_da8c8 0 := by unfold dY1; decide +kernel
theorem y1_Jx4a65c_grow_92f84 : dY1 yJx4a65c_grow_92f84 1 := by unfold dY1; decide +kernel
theorem y1_Jx4a65c_grow_d5877 : dY1 yJx4a65c_grow_d5877 0 := by unfold dY1; decide +kernel
theorem y1_Jx4a65c_size_8abf5 : dY1 yJx4a65c_size_8abf5 0 := by unfold dY1; decide +kernel
theorem y1_Jx4a65c_elementData_915e3 : dY1 yJx4a65c_elementData_915e3 1 := by unfold dY1; decide +kernel
theorem y1_Jx4a65c_get_915e3 : dY1 yJx4a65c_get_915e3 1 := by unfold dY1; decide +kernel
theorem y1_Jx4a65c_add_72be8 : dY1 yJx4a65c_add_72be8 3 := by unfold dY1; decide +kernel
theorem y1_Jx4a65c_add_9ea2d : dY1 yJx4a65c_add_9ea2d 1 := by unfold dY1; decide +kernel
theorem y1_J7_copyOf_1904c : dY1 yJ7_copyOf_1904c 2 := by unfold dY1; decide +kernel
theorem y1_J7_copyOf_6403c : dY1 yJ7_copyOf_6403c 3 := by unfold dY1; decide +kernel
theorem y1_J7_copyOf_59c91 : dY1 yJ7_copyOf_59c91 2 := by unfold dY1; decide +kernel
theorem y1_J15_checkIndex_7cf53 : dY1 yJ15_checkIndex_7cf53 2 := by unfold dY1; decide +kernel
theorem y1_J8_newLength_cabcc : dY1 yJ8_newLength_cabcc 3 := by unfold dY1; decide +kernel
theorem y1_J3_checkIndex_8e157 : dY1 yJ3_checkIndex_8e157 3 := by unfold dY1; decide +kernel
-- X0_init
def q_X0_init (e0 : Nat) (S : DS) (d : Nat) (p1 : Option Nat) (p2 : Option Nat) (p3 : Int32) (p4 : Option Nat) : Option (Int32 × DS × Nat × Nat) := chk (dK S d = 2) (lt9 (sP S 100 d p1) (fun S2 => lt9 (sP S2 101 d p2) (fun S4 => lt9 (sI S4 102 d p3) (fun S6 => lt9 (sP S6 103 d p4) (fun S8 => some (0, S8, 0, 0))))))
-- X1_init
def q_X1_init (e0 : Nat) (S : DS) (d : Nat) (p1 : Int32) (p2 : Int32) (p3 : Option Nat) : Option (Int32 × DS × Nat × Nat) := chk (dK S d = 3) (lt9 (sI S 200 d p1) (fun S2 => chk (0 ≤ p2.toInt ∧ p2.toInt < 100000) (tick 1 p2.toNatClampNeg (lt9 (dn S2) (fun q4 => lt9 (sAI S2 p2.toNatClampNeg (fun _ => 0)) (fun S5 => chk (dK S5 d = 3) (lt9 (sP S5 201 d (some q4)) (fun S7 => lt9 (sP S7 202 d p3) (fun S10 => lt9 (sI S10 203 d p2) (fun S13 => some (0, S13, 0, 0)))))))))))
-- X3_init
def q_X3_init (e0 : Nat) (S : DS) (d : Nat) : Option (Int32 × DS × Nat × Nat) := some (0, S, 0, 0)
-- X2_init
def q_X2_init (e0 : Nat) (S : DS) (d : Nat) (p1 : Option Nat) (p2 : Int32) (p3 : Int32) : Option (Int32 × DS × Nat × Nat) := bndc (q_X3_init e0 S d) (fun r1 S2 => chk (dK S2 d = 4) (lt9 (sP S2 300 d p1) (fun S4 => lt9 (sI S4 301 d p2) (fun S6 => chk (isB p3) (lt9 (sI S6 302 d p3) (fun S8 => some (0, S8, 0, 0)))))))
-- J8_newLength_cabcc
def q_J8_newLength_cabcc (e0 : Nat) (S : DS) (p1 : Int32) (p2 : Int32) (p3 : Int32) : Option (Int32 × DS × Nat × Nat) := if (p1 + (if p2 < p3 then p3 else p2)) ≤ 0 then none else if 2147483639 < (p1 + (if p2 < p3 then p3 else p2)) then none else some (p1 + (if p2 < p3 then p3 else p2), S, 0, 0)
-- Jx4a65c_grow_92f84
def q_Jx4a65c_grow_92f84_20 (e0 : Nat) (S : DS) (d : Nat) (v1 : Int32) (v2 : Int32) : Option (Option Nat × DS × Nat × Nat) := bndc (q_J8_newLength_cabcc e0 S v2 (v1 - v2) (v2 >>> (1 &&& 31))) (fun r4 S5 => chk (dK S5 d = 1) (bndc (q_J7_copyOf_1904c e0 S5 (dP S5 1 d) r4) (fun r7 S8 => chk (dK S8 d = 1) (lt9 (sP S8 1 d r7) (fun S10 => some (r7, S10, 0, 0))))))
def q_Jx4a65c_grow_92f84 (e0 : Nat) (S : DS) (d : Nat) (p1 : Int32) : Option (Option Nat × DS × Nat × Nat) := chk (dK S d = 1) (bnd (dP S 1 d) (fun b2 => chk (dK S b2 = 20 ∨ dK S b2 = 21) (if 0 < (nI (dL S b2)) then q_Jx4a65c_grow_92f84_20 e0 S d p1 (nI (dL S b2)) else if (dP S 1 d) = (some e0) then chk (0 ≤ (if 10 < p1 then p1 else 10).toInt ∧ (if 10 < p1 then p1 else 10).toInt < 100000) (tick 1 (if 10 < p1 then p1 else 10).toNatClampNeg (lt9 (dn S) (fun q12 => lt9 (sAO S (if 10 < p1 then p1 else 10).toNatClampNeg (fun _ => none)) (fun S13 => chk (dK S13 d = 1) (lt9 (sP S13 1 d (some q12)) (fun S15 => some ((some q12), S15, 0, 0))))))) else q_Jx4a65c_grow_92f84_20 e0 S d p1 (nI (dL S b2)))))
-- Jx4a65c_grow_d5877
def q_Jx4a65c_grow_d5877 (e0 : Nat) (S : DS) (d : Nat) : Option (Option Nat × DS × Nat × Nat) := chk (dK S d = 1) (bndc (q_Jx4a65c_grow_92f84 e0 S d ((dI S 2 d) + 1)) (fun r2 S3 => some (r2, S3, 0, 0)))
-- Jx4a65c_add_72be8
def q_Jx4a65c_add_72be8_11 (e0 : Nat) (S : DS) (d : Nat) (v1 : Option Nat) (v2 : Option Nat) (v3 : Int32) : Option (Int32 × DS × Nat × Nat) := bnd v1 (fun b3 => bnd v2 (fun b4 => chk (dK S b4 = 21) (chk (dK S b3 = 7 ∨ dK S b3 = 9 ∨ dK S b3 = 10 ∨ dK S b3 = 11) (chk (inb v3 (dL S b4)) (lt9 (sY S b4 (va_up (dY S b4) v3.toNatClampNeg (some b3))) (fun S7 => chk (dK S7 d = 1) (lt9 (sI S7 2 d (v3 + 1)) (fun S11 => some (0, S11, 0, 0)))))))))
def q_Jx4a65c_add_72be8 (e0 : Nat) (S : DS) (d : Nat) (p1 : Option Nat) (p2 : Option Nat) (p3 : Int32) : Option (Int32 × DS × Nat × Nat) := bnd p2 (fun b1 => chk (dK S b1 = 20 ∨ dK S b1 = 21) (if p3 = (nI (dL S b1)) then chk (dK S d = 1) (bndc (q_Jx4a65c_grow_d5877 e0 S d) (fun r16 S17 => q_Jx4a65c_add_72be8_11 e0 S17 d p1 r16 p3)) else q_Jx4a65c_add_72be8_11 e0 S d p1 p2 p3))
-- Jx4a65c_add_9ea2d
def q_Jx4a65c_add_9ea2d (e0 : Nat) (S : DS) (d : Nat) (p1 : Option Nat) : Option (Int32 × DS × Nat × Nat) := chk (dK S d = 1) (lt9 (sI S 0 d ((dI S 0 d) + 1)) (fun S2 => bndc (q_Jx4a65c_add_72be8 e0 S2 d p1 (dP S2 1 d) (dI S2 2 d)) (fun r4 S5 => chk (isB 1) (some (1, S5, 0, 0)))))
-- X10_init
def q_X10_init (e0 : Nat) (S : DS) (d : Nat) (p1 : Int32) (p2 : Int32) (p3 : Option Nat) : Option (Int32 × DS × Nat × Nat) := chk (dK S d = 7 ∨ dK S d = 10 ∨ dK S d = 11) (lt9 (sI S 1000 d p1) (fun S2 => lt9 (sI S2 1001 d p2) (fun S4 => lt9 (sP S4 1002 d p3) (fun S6 => some (0, S6, 0, 0)))))
-- Jx4a65c_size_8abf5
def q_Jx4a65c_size_8abf5 (e0 : Nat) (S : DS) (d : Nat) : Option (Int32 × DS × Nat × Nat) := chk (dK S d = 1) (some (dI S 2 d, S, 0, 0))
-- X11_nextValue
def q_X11_nextValue (e0 : Nat) (S : DS) (d : Nat) : Option (Int32 × DS × Nat × Nat) := chk (dK S d = 12) (bnd (dP S 1100 d) (fun b2 => chk (dK S b2 = 1) (bndc (q_Jx4a65c_size_8abf5 e0 S b2) (fun r4 S5 => some ((-2) - r4, S5, 0, 0)))))
-- X11_newThing
def q_X11_newThing (e0 : Nat) (S : DS) (d : Nat) (p1 : Int32) (p2 : Option Nat) : Option (Int32 × DS × Nat × Nat) := tick 1 3 (lt9 (dn S) (fun q1 => lt9 (sO S 11) (fun S2 => chk (dK S2 d = 12) (bndc (q_X11_nextValue e0 S2 d) (fun r4 S5 => bndc (q_X10_init e0 S5 q1 r4 p1 p2) (fun r6 S7 => chk (dK S7 d = 12) (bnd (dP S7 1100 d) (fun b9 => chk (dK S7 b9 = 1) (bndc (q_Jx4a65c_add_9ea2d e0 S7 b9 (some q1)) (fun r11 S12 => chk (dK S12 q1 = 7 ∨ dK S12 q1 = 10 ∨ dK S12 q1 = 11) (some (dI S12 1000 q1, S12, 0, 0))))))))))))
-- X11_enqueue
def q_X11_enqueue_23 (e0 : Nat) (S : DS) (d : Nat) (v1 : Option Nat) : Option (Int32 × DS × Nat × Nat) := chk (dK S d = 12) (lt9 (sP S 1107 d v1) (fun S8 => lt9 (sI S8 1108 d ((dI S8 1108 d) + 1)) (fun S10 => some (0, S10, 0, 0))))
def q_X11_enqueue (e0 : Nat) (S : DS) (d : Nat) (p1 : Option Nat) : Option (Int32 × DS × Nat × Nat) := chk (dK S d = 12) (if (dP S 1107 d) = none then lt9 (sP S 1106 d p1) (fun S12 => q_X11_enqueue_23 e0 S12 d p1) else bnd (dP S 1107 d) (fun b2 => chk (dK S b2 = 5) (lt9 (sP S 407 b2 p1) (fun S4 => q_X11_enqueue_23 e0 S4 d p1))))
-- X4_hear
def q_X4_hear (e0 : Nat) (S : DS) (d : Nat) (p1 : Int32) (p2 : Int32) : Option (Int32 × DS × Nat × Nat) := chk (dK S d = 5) (chk (isB p1) (lt9 (sI S 405 d p1) (fun S2 => lt9 (sI S2 406 d p2) (fun S4 => some (0, S4, 0, 0)))))
-- X11_close
def q_X11_close_26 (e0 : Nat) (d : Nat) : Nat → DS → Int32 → Int32 → Option Nat → Option (Int32 × DS × Nat × Nat)
  | 0, _, _, _, _ => none
  | n + 1, S, v2, v3, v4 => if v4 = none then some (0, S, 0, 0) else bnd v4 (fun b11 => chk (dK S b11 = 5) (lt9 (sP S 407 b11 none) (fun S13 => if v2 = 2 then bndc (q_X4_hear e0 S13 b11 1 v3) (fun r20 S21 => chk (dK S21 d = 12) (bndc (q_X11_enqueue e0 S21 d v4) (fun r23 S24 => q_X11_close_26 e0 d n S24 v2 v3 (dP S 407 b11)))) else bndc (q_X4_hear e0 S13 b11 0 v3) (fun r15 S16 => chk (dK S16 d = 12) (bndc (q_X11_enqueue e0 S16 d v4) (fun r18 S19 => q_X11_close_26 e0 d n S19 v2 v3 (dP S 407 b11)))))))
def q_X11_close (e0 : Nat) (n : Nat) (S : DS) (d : Nat) (p1 : Option Nat) (p2 : Int32) (p3 : Int32) : Option (Int32 × DS × Nat × Nat) := bnd p1 (fun b1 => chk (dK S b1 = 7) (lt9 (sI S 603 b1 p2) (fun S3 => lt9 (sI S3 604 b1 p3) (fun S5 => lt9 (sP S5 607 b1 none) (fun S7 => lt9 (sP S7 608 b1 none) (fun S9 => q_X11_close_26 e0 d n S9 p2 p3 (dP S5 607 b1)))))))
-- X11_reject
def q_X11_reject (e0 : Nat) (n : Nat) (S : DS) (d : Nat) (p1 : Option Nat) (p2 : Int32) : Option (Int32 × DS × Nat × Nat) := if p1 = none then some (0, S, 0, 0) else bnd p1 (fun b1 => chk (dK S b1 = 8) (if (dI S 701 b1) = 0 then chk (isB 1) (lt9 (sI S 701 b1 1) (fun S3 => chk (dK S3 d = 12) (bndc (q_X11_close e0 n S3 d (dP S3 700 b1) 2 p2) (fun r6 S7 => some (0, S7, 0, 0))))) else some (0, S, 0, 0)))
-- X11_hasThenFunction
def q_X11_hasThenFunction (e0 : Nat) (S : DS) (d : Nat) (p1 : Option Nat) : Option (Int32 × DS × Nat × Nat) := chk (okT S p1) (if (dinst S 10 p1) = 0 then chk (okT S p1) (chk (isB (dinst S 7 p1)) (some (dinst S 7 p1, S, 0, 0))) else bnd p1 (fun b1 => chk (dK S b1 = 10) (if (dI S 903 b1) = 0 then chk (isB 1) (some (1, S, 0, 0)) else chk (isB 0) (some (0, S, 0, 0)))))
-- J3_checkIndex_8e157
def q_J3_checkIndex_8e157 (e0 : Nat) (S : DS) (p1 : Int32) (p2 : Int32) (p3 : Option Nat) : Option (Int32 × DS × Nat × Nat) := if p1 < 0 then none else if p1 < p2 then some (p1, S, 0, 0) else none
-- J15_checkIndex_7cf53
def q_J15_checkIndex_7cf53 (e0 : Nat) (S : DS) (p1 : Int32) (p2 : Int32) : Option (Int32 × DS × Nat × Nat) := bndc (q_J3_checkIndex_8e157 e0 S p1 p2 none) (fun r1 S2 => some (r1, S2, 0, 0))
-- Jx4a65c_elementData_915e3
def q_Jx4a65c_elementData_915e3 (e0 : Nat) (S : DS) (d : Nat) (p1 : Int32) : Option (Option Nat × DS × Nat × Nat) := chk (dK S d = 1) (bnd (dP S 1 d) (fun b2 => chk (dK S b2 = 21) (chk (inb p1 (dL S b2)) (some ((dY S b2 p1.toNatClampNeg), S, 0, 0)))))
-- Jx4a65c_get_915e3
def q_Jx4a65c_get_915e3 (e0 : Nat) (S : DS) (d : Nat) (p1 : Int32) : Option (Option Nat × DS × Nat × Nat) := chk (dK S d = 1) (bndc (q_J15_checkIndex_7cf53 e0 S p1 (dI S 2 d)) (fun r2 S3 => chk (dK S3 d = 1) (bndc (q_Jx4a65c_elementData_915e3 e0 S3 d p1) (fun r5 S6 => some (r5, S6, 0, 0)))))
-- X11_thingOf
def q_X11_thingOf (e0 : Nat) (S : DS) (d : Nat) (p1 : Int32) : Option (Option Nat × DS × Nat × Nat) := if p1 ≤ (-2) then chk (dK S d = 12) (bnd (dP S 1100 d) (fun b2 => chk (dK S b2 = 1) (bndc (q_Jx4a65c_size_8abf5 e0 S b2) (fun r4 S5 => if r4 ≤ ((-2) - p1) then some (none, S5, 0, 0) else chk (dK S5 d = 12) (bnd (dP S5 1100 d) (fun b7 => chk (dK S5 b7 = 1) (bndc (q_Jx4a65c_get_915e3 e0 S5 b7 ((-2) - p1)) (fun r9 S10 => bnd r9 (fun b11 => chk (dK S10 b11 = 7 ∨ dK S10 b11 = 10 ∨ dK S10 b11 = 11) (some ((some b11), S10, 0, 0))))))))))) else some (none, S, 0, 0)
-- X4_init
def q_X4_init (e0 : Nat) (S : DS) (d : Nat) (p1 : Option Nat) (p2 : Option Nat) (p3 : Option Nat) (p4 : Option Nat) (p5 : Option Nat) : Option (Int32 × DS × Nat × Nat) := chk (dK S d = 5) (lt9 (sP S 400 d p1) (fun S2 => lt9 (sP S2 401 d p2) (fun S4 => lt9 (sP S4 402 d p3) (fun S6 => lt9 (sP S6 403 d p4) (fun S8 => lt9 (sP S8 404 d p5) (fun S10 => some (0, S10, 0, 0)))))))
-- X7_init
def q_X7_init (e0 : Nat) (S : DS) (d : Nat) (p1 : Option Nat) : Option (Int32 × DS × Nat × Nat) := chk (dK S d = 8) (lt9 (sP S 700 d p1) (fun S2 => some (0, S2, 0, 0)))
-- X4_follow
def q_X4_follow (e0 : Nat) (S : DS) (p1 : Option Nat) (p2 : Option Nat) : Option (Option Nat × DS × Nat × Nat) := tick 1 8 (lt9 (dn S) (fun q1 => lt9 (sO S 5) (fun S2 => tick 1 2 (lt9 (dn S2) (fun q3 => lt9 (sO S2 8) (fun S4 => bndc (q_X7_init e0 S4 q3 p2) (fun r5 S6 => bndc (q_X4_init e0 S6 q1 none none (some q3) none p1) (fun r7 S8 => some ((some q1), S8, 0, 0)))))))))
-- X11_resolve
def q_X11_resolve_90 (e0 : Nat) (n : Nat) (S : DS) (d : Nat) (v2 : Int32) (v3 : Option Nat) (v4 : Option Nat) : Option (Int32 × DS × Nat × Nat) := chk (dK S d = 12) (bndc (q_X11_hasThenFunction e0 S d v4) (fun r11 S12 => if r11 = 0 then chk (dK S12 d = 12) (bndc (q_X11_close e0 n S12 d v3 1 v2) (fun r14 S15 => some (0, S15, 0, 0))) else bndc (q_X4_follow e0 S12 v4 v3) (fun r16 S17 => chk (dK S17 d = 12) (bndc (q_X11_enqueue e0 S17 d r16) (fun r19 S20 => some (0, S20, 0, 0))))))
def q_X11_resolve (e0 : Nat) (n : Nat) (S : DS) (d : Nat) (p1 : Option Nat) (p2 : Int32) : Option (Int32 × DS × Nat × Nat) := if p1 = none then some (0, S, 0, 0) else bnd p1 (fun b1 => chk (dK S b1 = 8) (if (dI S 701 b1) = 0 then chk (isB 1) (lt9 (sI S 701 b1 1) (fun S3 => chk (dK S3 d = 12) (bndc (q_X11_thingOf e0 S3 d p2) (fun r6 S7 => bnd (dP S3 700 b1) (fun b8 => chk (dK S7 b8 = 7) (if p2 = (dI S7 1000 b8) then chk (dK S7 d = 12) (bndc (q_X11_newThing e0 S7 d 2 none) (fun r27 S28 => chk (dK S28 d = 12) (bndc (q_X11_close e0 n S28 d (dP S3 700 b1) 2 r27) (fun r30 S31 => some (0, S31, 0, 0))))) else chk (okT S7 r6) (if (dinst S7 10 r6) = 0 then q_X11_resolve_90 e0 n S7 d p2 (dP S3 700 b1) r6 else bnd r6 (fun b21 => chk (dK S7 b21 = 10) (if (dI S7 903 b21) = 1 then chk (dK S7 d = 12) (bndc (q_X11_close e0 n S7 d (dP S3 700 b1) 2 (dI S7 905 b21)) (fun r24 S25 => some (0, S25, 0, 0))) else q_X11_resolve_90 e0 n S7 d p2 (dP S3 700 b1) r6))))))))) else some (0, S, 0, 0)))
-- X11_complete
def q_X11_complete (e0 : Nat) (n : Nat) (S : DS) (d : Nat) (p1 : Option Nat) : Option (Int32 × DS × Nat × Nat) := bnd p1 (fun b1 => chk (dK S b1 = 3) (if (dI S 200 b1) = 2 then chk (dK S d = 12) (bndc (q_X11_newThing e0 S d 3 (dP S 201 b1)) (fun r10 S11 => chk (dK S11 b1 = 3) (chk (dK S11 d = 12) (bndc (q_X11_newThing e0 S11 d 4 (dP S11 201 b1)) (fun r14 S15 => chk (dK S15 b1 = 3) (chk (dK S15 d = 12) (bndc (q_X11_reject e0 n S15 d (dP S15 202 b1) r10) (fun r18 S19 => some (0, S19, 0, 0))))))))) else chk (dK S d = 12) (bndc (q_X11_newThing e0 S d 4 (dP S 201 b1)) (fun r4 S5 => chk (dK S5 d = 12) (bndc (q_X11_resolve e0 n S5 d (dP S 202 b1) r4) (fun r7 S8 => some (0, S8, 0, 0)))))))
-- X2_callIn
def q_X2_callIn_81 (e0 : Nat) (n : Nat) (S : DS) (d : Nat) (v1 : Option Nat) : Option (Int32 × DS × Nat × Nat) := chk (dK S d = 4) (bnd (dP S 300 d) (fun b10 => chk (dK S b10 = 3) (lt9 (sI S 203 b10 ((dI S 203 b10) - 1)) (fun S12 => bnd (dP S12 300 d) (fun b15 => chk (dK S12 b15 = 3) (if (dI S12 203 b15) = 0 then bnd v1 (fun b17 => chk (dK S12 b17 = 12) (bndc (q_X11_complete e0 n S12 b17 (dP S12 300 d)) (fun r19 S20 => some ((-1), S20, 0, 0)))) else some ((-1), S12, 0, 0)))))))
def q_X2_callIn_46 (e0 : Nat) (n : Nat) (S : DS) (d : Nat) (v1 : Option Nat) (v3 : Int32) : Option (Int32 × DS × Nat × Nat) := chk (dK S d = 4) (if (dI S 301 d) < 0 then q_X2_callIn_81 e0 n S d v1 else bnd (dP S 300 d) (fun b21 => chk (dK S b21 = 3) (bnd (dP S 201 b21) (fun b23 => chk (dK S b23 = 20 ∨ dK S b23 = 21) (if (nI (dL S b23)) ≤ (dI S 301 d) then q_X2_callIn_81 e0 n S d v1 else chk (dK S b23 = 20) (chk (inb (dI S 301 d) (dL S b23)) (lt9 (sX S b23 (upd (dX S b23) (dI S 301 d).toNatClampNeg v3)) (fun S26 => q_X2_callIn_81 e0 n S26 d v1))))))))
def q_X2_callIn_37 (e0 : Nat) (n : Nat) (S : DS) (d : Nat) (v1 : Option Nat) (v2 : Int32) (z0 : Int32) (z1 : Int32) (z2 : Option Nat) (z3 : Option Nat) (z4 : Int32) (z5 : Option Nat) : Option (Int32 × DS × Nat × Nat) := bnd z2 (fun b33 => chk (dK S b33 = 20) (chk (inb z1 (dL S b33)) (lt9 (sX S b33 (upd (dX S b33) z1.toNatClampNeg z0)) (fun S35 => bnd z3 (fun b37 => chk (dK S35 b37 = 20) (chk (inb 1 (dL S35 b37)) (lt9 (sX S35 b37 (upd (dX S35 b37) (1 : Int32).toNatClampNeg v2)) (fun S39 => bnd z5 (fun b42 => chk (dK S39 b42 = 12) (bndc (q_X11_newThing e0 S39 b42 z4 (some b37)) (fun r44 S45 => q_X2_callIn_46 e0 n S45 d v1 r44)))))))))))
def q_X2_callIn (e0 : Nat) (n : Nat) (S : DS) (d : Nat) (p1 : Option Nat) (p2 : Int32) : Option (Int32 × DS × Nat × Nat) := bnd p1 (fun b1 => chk (dK S b1 = 12) (chk (isB 0) (lt9 (sI S 1109 b1 0) (fun S3 => chk (dK S3 d = 4) (bnd (dP S3 300 d) (fun b6 => chk (dK S3 b6 = 3) (if (dI S3 200 b6) = 1 then chk (0 ≤ (2 : Int32).toInt ∧ (2 : Int32).toInt < 100000) (tick 1 (2 : Int32).toNatClampNeg (lt9 (dn S3) (fun q30 => lt9 (sAI S3 (2 : Int32).toNatClampNeg (fun _ => 0)) (fun S31 => chk (dK S31 d = 4) (if (dI S31 302 d) = 0 then q_X2_callIn_37 e0 n S31 d p1 p2 1 0 (some q30) (some q30) 5 p1 else q_X2_callIn_37 e0 n S31 d p1 p2 0 0 (some q30) (some q30) 5 p1))))) else q_X2_callIn_46 e0 n S3 d p1 p2)))))))
-- X4_reaction
def q_X4_reaction (e0 : Nat) (S : DS) (p1 : Option Nat) (p2 : Option Nat) (p3 : Option Nat) : Option (Option Nat × DS × Nat × Nat) := tick 1 8 (lt9 (dn S) (fun q1 => lt9 (sO S 5) (fun S2 => bndc (q_X4_init e0 S2 q1 p1 p2 p3 none none) (fun r3 S4 => some ((some q1), S4, 0, 0)))))
-- X4_resumption
def q_X4_resumption (e0 : Nat) (S : DS) (p1 : Option Nat) : Option (Option Nat × DS × Nat × Nat) := tick 1 8 (lt9 (dn S) (fun q1 => lt9 (sO S 5) (fun S2 => bndc (q_X4_init e0 S2 q1 none none none p1 none) (fun r3 S4 => some ((some q1), S4, 0, 0)))))
-- X5_init
def q_X5_init (e0 : Nat) (S : DS) (d : Nat) (p1 : Option Nat) (p2 : Int32) : Option (Int32 × DS × Nat × Nat) := bndc (q_X3_init e0 S d) (fun r1 S2 => chk (dK S2 d = 6) (lt9 (sP S2 500 d p1) (fun S4 => lt9 (sI S4 501 d p2) (fun S6 => some (0, S6, 0, 0)))))
-- X11_attach
def q_X11_attach_26 (e0 : Nat) (S : DS) (d : Nat) (v1 : Option Nat) (v2 : Option Nat) (z0 : Int32) (z1 : Option Nat) : Option (Int32 × DS × Nat × Nat) := bnd v1 (fun b17 => chk (dK S b17 = 7) (bnd z1 (fun b19 => chk (dK S b19 = 5) (bndc (q_X4_hear e0 S b19 z0 (dI S 604 b17)) (fun r21 S22 => chk (dK S22 d = 12) (bndc (q_X11_enqueue e0 S22 d v2) (fun r24 S25 => some (0, S25, 0, 0))))))))
def q_X11_attach (e0 : Nat) (S : DS) (d : Nat) (p1 : Option Nat) (p2 : Option Nat) : Option (Int32 × DS × Nat × Nat) := bnd p1 (fun b1 => chk (dK S b1 = 7) (chk (isB 1) (lt9 (sI S 605 b1 1) (fun S3 => if (dI S3 603 b1) = 0 then if (dP S3 608 b1) = none then lt9 (sP S3 607 b1 p2) (fun S13 => lt9 (sP S13 608 b1 p2) (fun S15 => some (0, S15, 0, 0))) else bnd (dP S3 608 b1) (fun b5 => chk (dK S3 b5 = 5) (lt9 (sP S3 407 b5 p2) (fun S7 => lt9 (sP S7 608 b1 p2) (fun S10 => some (0, S10, 0, 0))))) else if (dI S3 603 b1) = 2 then q_X11_attach_26 e0 S3 d p1 p2 1 p2 else q_X11_attach_26 e0 S3 d p1 p2 0 p2))))
-- X6_init
def q_X6_init (e0 : Nat) (S : DS) (d : Nat) (p1 : Int32) : Option (Int32 × DS × Nat × Nat) := bndc (q_X10_init e0 S d p1 0 none) (fun r1 S2 => chk (dK S2 d = 7) (lt9 (sI S2 603 d 0) (fun S4 => lt9 (sI S4 604 d (-1)) (fun S6 => some (0, S6, 0, 0)))))
-- X11_newPromise
def q_X11_newPromise (e0 : Nat) (S : DS) (d : Nat) : Option (Option Nat × DS × Nat × Nat) := tick 1 9 (lt9 (dn S) (fun q1 => lt9 (sO S 7) (fun S2 => chk (dK S2 d = 12) (bndc (q_X11_nextValue e0 S2 d) (fun r4 S5 => bndc (q_X6_init e0 S5 q1 r4) (fun r6 S7 => chk (dK S7 d = 12) (bnd (dP S7 1100 d) (fun b9 => chk (dK S7 b9 = 1) (bndc (q_Jx4a65c_add_9ea2d e0 S7 b9 (some q1)) (fun r11 S12 => tick 1 2 (lt9 (dn S12) (fun q13 => lt9 (sO S12 8) (fun S14 => bndc (q_X7_init e0 S14 q13 (some q1)) (fun r15 S16 => some ((some q13), S16, 0, 0)))))))))))))))
-- X11_derive
def q_X11_derive (e0 : Nat) (S : DS) (d : Nat) (p1 : Option Nat) (p2 : Option Nat) (p3 : Option Nat) : Option (Int32 × DS × Nat × Nat) := chk (dK S d = 12) (bndc (q_X11_newPromise e0 S d) (fun r2 S3 => bndc (q_X4_reaction e0 S3 p2 p3 r2) (fun r4 S5 => chk (dK S5 d = 12) (bndc (q_X11_attach e0 S5 d p1 r4) (fun r7 S8 => bnd r2 (fun b9 => chk (dK S8 b9 = 8) (bnd (dP S8 700 b9) (fun b11 => chk (dK S8 b11 = 7) (some (dI S8 1000 b11, S8, 0, 0))))))))))
-- X11_promiseFor
def q_X11_promiseFor (e0 : Nat) (n : Nat) (S : DS) (d : Nat) (p1 : Int32) : Option (Option Nat × DS × Nat × Nat) := chk (dK S d = 12) (bndc (q_X11_thingOf e0 S d p1) (fun r2 S3 => chk (okT S3 r2) (if (dinst S3 7 r2) = 0 then chk (dK S3 d = 12) (bndc (q_X11_newPromise e0 S3 d) (fun r5 S6 => chk (dK S6 d = 12) (bndc (q_X11_resolve e0 n S6 d r5 p1) (fun r8 S9 => bnd r5 (fun b10 => chk (dK S9 b10 = 8) (some ((dP S9 700 b10), S9, 0, 0))))))) else bnd r2 (fun b12 => chk (dK S3 b12 = 7) (some ((some b12), S3, 0, 0))))))
-- J7_copyOf_59c91
def q_J7_copyOf_59c91 (e0 : Nat) (S : DS) (p1 : Option Nat) (p2 : Int32) : Option (Option Nat × DS × Nat × Nat) := bnd p1 (fun b1 => chk (dK S b1 = 20 ∨ dK S b1 = 21) (if p2 = (nI (dL S b1)) then chk (dK S b1 = 20) (tick 1 (dL S b1) (lt9 (dn S) (fun q11 => lt9 (sAI S (dL S b1) (dX S b1)) (fun S12 => some ((some q11), S12, 0, 0))))) else chk (0 ≤ p2.toInt ∧ p2.toInt < 100000) (tick 1 p2.toNatClampNeg (lt9 (dn S) (fun q3 => lt9 (sAI S p2.toNatClampNeg (fun _ => 0)) (fun S4 => chk (dK S4 b1 = 20 ∨ dK S4 b1 = 21) (chk (dK S4 b1 = 20) (chk (0 ≤ (if p2 < (nI (dL S4 b1)) then p2 else (nI (dL S4 b1))).toInt ∧ (if p2 < (nI (dL S4 b1)) then p2 else (nI (dL S4 b1))).toInt ≤ dL S4 b1 ∧ (if p2 < (nI (dL S4 b1)) then p2 else (nI (dL S4 b1))).toInt ≤ dL S4 q3) (lt9 (sX S4 q3 (va_cpy (dX S4 b1) (dX S4 q3) 0 0 (if p2 < (nI (dL S4 b1)) then p2 else (nI (dL S4 b1))).toNatClampNeg)) (fun S7 => some ((some q3), S7, 0, 0)))))))))))
-- X11_note
def q_X11_note_34 (e0 : Nat) (S : DS) (d : Nat) (v1 : Int32) (v2 : Int32) : Option (Int32 × DS × Nat × Nat) := chk (dK S d = 12) (bnd (dP S 1104 d) (fun b5 => chk (dK S b5 = 20) (chk (inb (2 * (dI S 1105 d)) (dL S b5)) (lt9 (sX S b5 (upd (dX S b5) (2 * (dI S 1105 d)).toNatClampNeg v1)) (fun S7 => bnd (dP S7 1104 d) (fun b10 => chk (dK S7 b10 = 20) (chk (inb ((2 * (dI S7 1105 d)) + 1) (dL S7 b10)) (lt9 (sX S7 b10 (upd (dX S7 b10) ((2 * (dI S7 1105 d)) + 1).toNatClampNeg v2)) (fun S12 => lt9 (sI S12 1105 d ((dI S12 1105 d) + 1)) (fun S16 => some (0, S16, 0, 0)))))))))))
def q_X11_note (e0 : Nat) (S : DS) (d : Nat) (p1 : Int32) (p2 : Int32) : Option (Int32 × DS × Nat × Nat) := chk (dK S d = 12) (bnd (dP S 1104 d) (fun b2 => chk (dK S b2 = 20 ∨ dK S b2 = 21) (if ((2 * (dI S 1105 d)) + 1) < (nI (dL S b2)) then q_X11_note_34 e0 S d p1 p2 else bndc (q_J7_copyOf_59c91 e0 S (some b2) (2 * (nI (dL S b2)))) (fun r20 S21 => chk (dK S21 d = 12) (lt9 (sP S21 1104 d r20) (fun S23 => q_X11_note_34 e0 S23 d p1 p2))))))
-- X8_callIn
def q_X8_callIn_39 (e0 : Nat) (n : Nat) (S : DS) (d : Nat) (v1 : Option Nat) (v2 : Int32) (z0 : Int32) (z1 : Option Nat) : Option (Int32 × DS × Nat × Nat) := bnd z1 (fun b3 => chk (dK S b3 = 12) (chk (isB z0) (lt9 (sI S 1109 b3 z0) (fun S5 => chk (dK S5 d = 9) (if (dI S5 801 d) = 0 then some (dI S5 802 d, S5, 0, 0) else if (dI S5 801 d) = 1 then some (v2, S5, 0, 0) else if (dI S5 801 d) = 2 then some (dI S5 802 d, S5, 0, 0) else if (dI S5 801 d) = 3 then some (v2, S5, 0, 0) else if (dI S5 801 d) = 4 then bnd v1 (fun b12 => chk (dK S5 b12 = 12) (bndc (q_X11_resolve e0 n S5 b12 (dP S5 803 d) v2) (fun r14 S15 => some ((-1), S15, 0, 0)))) else bnd v1 (fun b8 => chk (dK S5 b8 = 12) (bndc (q_X11_reject e0 n S5 b8 (dP S5 803 d) v2) (fun r10 S11 => some ((-1), S11, 0, 0)))))))))
def q_X8_callIn_34 (e0 : Nat) (n : Nat) (S : DS) (d : Nat) (v1 : Option Nat) (v2 : Int32) (z0 : Option Nat) : Option (Int32 × DS × Nat × Nat) := q_X8_callIn_39 e0 n S d v1 v2 1 z0
def q_X8_callIn_17 (e0 : Nat) (n : Nat) (S : DS) (d : Nat) (v1 : Option Nat) (v2 : Int32) : Option (Int32 × DS × Nat × Nat) := chk (dK S d = 9) (if (dI S 801 d) = 2 then q_X8_callIn_34 e0 n S d v1 v2 v1 else if (dI S 801 d) = 3 then q_X8_callIn_34 e0 n S d v1 v2 v1 else q_X8_callIn_39 e0 n S d v1 v2 0 v1)
def q_X8_callIn (e0 : Nat) (n : Nat) (S : DS) (d : Nat) (p1 : Option Nat) (p2 : Int32) : Option (Int32 × DS × Nat × Nat) := chk (dK S d = 9) (if (dI S 800 d) = (-1) then q_X8_callIn_17 e0 n S d p1 p2 else bnd p1 (fun b16 => chk (dK S b16 = 12) (bndc (q_X11_note e0 S b16 (dI S 800 d) p2) (fun r18 S19 => q_X8_callIn_17 e0 n S19 d p1 p2))))
-- X8_init
def q_X8_init (e0 : Nat) (S : DS) (d : Nat) (p1 : Int32) (p2 : Int32) (p3 : Int32) (p4 : Option Nat) : Option (Int32 × DS × Nat × Nat) := bndc (q_X3_init e0 S d) (fun r1 S2 => chk (dK S2 d = 9) (lt9 (sI S2 800 d p1) (fun S4 => lt9 (sI S4 801 d p2) (fun S6 => lt9 (sI S6 802 d p3) (fun S8 => lt9 (sP S8 803 d p4) (fun S10 => some (0, S10, 0, 0)))))))
-- X5_callIn
def q_X5_callIn (e0 : Nat) (n : Nat) (S : DS) (d : Nat) (p1 : Option Nat) (p2 : Int32) : Option (Int32 × DS × Nat × Nat) := chk (dK S d = 6) (bnd (dP S 500 d) (fun b2 => chk (dK S b2 = 9) (bndc (q_X8_callIn e0 n S b2 p1 (-1)) (fun r4 S5 => bnd p1 (fun b6 => chk (dK S5 b6 = 12) (if (dI S5 1109 b6) = 0 then bndc (q_X11_promiseFor e0 n S5 b6 r4) (fun r8 S9 => tick 1 4 (lt9 (dn S9) (fun q10 => lt9 (sO S9 9) (fun S11 => chk (dK S11 d = 6) (bndc (q_X8_init e0 S11 q10 (-1) (dI S11 501 d) p2 none) (fun r13 S14 => chk (dK S14 b6 = 12) (bndc (q_X11_derive e0 S14 b6 r8 (some q10) none) (fun r16 S17 => some (r16, S17, 0, 0))))))))) else some (r4, S5, 0, 0)))))))
-- X8_resolving
def q_X8_resolving (e0 : Nat) (S : DS) (p1 : Option Nat) : Option (Option Nat × DS × Nat × Nat) := tick 1 4 (lt9 (dn S) (fun q1 => lt9 (sO S 9) (fun S2 => bndc (q_X8_init e0 S2 q1 (-1) 4 (-1) p1) (fun r3 S4 => some ((some q1), S4, 0, 0)))))
-- X8_rejecting
def q_X8_rejecting (e0 : Nat) (S : DS) (p1 : Option Nat) : Option (Option Nat × DS × Nat × Nat) := tick 1 4 (lt9 (dn S) (fun q1 => lt9 (sO S 9) (fun S2 => bndc (q_X8_init e0 S2 q1 (-1) 5 (-1) p1) (fun r3 S4 => some ((some q1), S4, 0, 0)))))
-- X9_init
def q_X9_init (e0 : Nat) (S : DS) (d : Nat) (p1 : Int32) (p2 : Int32) : Option (Int32 × DS × Nat × Nat) := bndc (q_X10_init e0 S d p1 1 none) (fun r1 S2 => chk (dK S2 d = 10) (lt9 (sI S2 903 d p2) (fun S4 => some (0, S4, 0, 0))))
-- Jxa1e45_init_da8c8
def q_Jxa1e45_init_da8c8 (e0 : Nat) (S : DS) (d : Nat) : Option (Int32 × DS × Nat × Nat) := some (0, S, 0, 0)
-- Jxc12de_init_da8c8
def q_Jxc12de_init_da8c8 (e0 : Nat) (S : DS) (d : Nat) : Option (Int32 × DS × Nat × Nat) := bndc (q_Jxa1e45_init_da8c8 e0 S d) (fun r1 S2 => chk (dK S2 d = 1) (lt9 (sI S2 0 d 0) (fun S4 => some (0, S4, 0, 0))))
-- Jx4a65c_init_da8c8
def q_Jx4a65c_init_da8c8 (e0 : Nat) (S : DS) (d : Nat) : Option (Int32 × DS × Nat × Nat) := bndc (q_Jxc12de_init_da8c8 e0 S d) (fun r1 S2 => chk (dK S2 d = 1) (lt9 (sP S2 1 d (some e0)) (fun S4 => some (0, S4, 0, 0))))
-- X11_init
def q_X11_init (e0 : Nat) (S : DS) (d : Nat) : Option (Int32 × DS × Nat × Nat) := tick 1 3 (lt9 (dn S) (fun q1 => lt9 (sO S 1) (fun S2 => bndc (q_Jx4a65c_init_da8c8 e0 S2 q1) (fun r3 S4 => chk (dK S4 d = 12) (lt9 (sP S4 1100 d (some q1)) (fun S6 => tick 1 3 (lt9 (dn S6) (fun q8 => lt9 (sO S6 1) (fun S9 => bndc (q_Jx4a65c_init_da8c8 e0 S9 q8) (fun r10 S11 => chk (dK S11 d = 12) (lt9 (sP S11 1101 d (some q8)) (fun S13 => chk (0 ≤ (200 : Int32).toInt ∧ (200 : Int32).toInt < 100000) (tick 1 (200 : Int32).toNatClampNeg (lt9 (dn S13) (fun q15 => lt9 (sAI S13 (200 : Int32).toNatClampNeg (fun _ => 0)) (fun S16 => chk (dK S16 d = 12) (lt9 (sP S16 1102 d (some q15)) (fun S18 => chk (0 ≤ (64 : Int32).toInt ∧ (64 : Int32).toInt < 100000) (tick 1 (64 : Int32).toNatClampNeg (lt9 (dn S18) (fun q21 => lt9 (sAI S18 (64 : Int32).toNatClampNeg (fun _ => 0)) (fun S22 => chk (dK S22 d = 12) (lt9 (sP S22 1104 d (some q21)) (fun S24 => some (0, S24, 0, 0)))))))))))))))))))))))))
-- X11_requireRoom
def q_X11_requireRoom (e0 : Nat) (S : DS) (d : Nat) (p1 : Int32) : Option ((Nat × Int32) × DS × Nat × Nat) := chk (dK S d = 12) (bnd (dP S 1100 d) (fun b2 => chk (dK S b2 = 1) (bndc (q_Jx4a65c_size_8abf5 e0 S b2) (fun r4 S5 => if p1 ≤ (3000 - r4) then some ((0, 0), S5, 0, 0) else some ((2, 0), S5, 1, 6)))))
-- X11_promise
def q_X11_promise (e0 : Nat) (S : DS) (d : Nat) : Option ((Nat × Int32) × DS × Nat × Nat) := chk (dK S d = 12) (bndx 0 (q_X11_requireRoom e0 S d 8) (fun r2 S3 => chk (dK S3 d = 12) (bndc (q_X11_newPromise e0 S3 d) (fun r5 S6 => bnd r5 (fun b7 => chk (dK S6 b7 = 8) (bnd (dP S6 700 b7) (fun b9 => chk (dK S6 b9 = 7) (lt9 (sP S6 606 b9 r5) (fun S11 => bnd (dP S11 700 b7) (fun b14 => chk (dK S11 b14 = 7) (some ((0, dI S11 1000 b14), S11, 0, 0))))))))))))
-- X11_requirePromise
def q_X11_requirePromise (e0 : Nat) (S : DS) (d : Nat) (p1 : Int32) : Option ((Nat × Option Nat) × DS × Nat × Nat) := chk (dK S d = 12) (bndc (q_X11_thingOf e0 S d p1) (fun r2 S3 => chk (okT S3 r2) (if (dinst S3 7 r2) = 0 then some ((1, none), S3, 1, 6) else bnd r2 (fun b4 => chk (dK S3 b4 = 7) (some ((0, (some b4)), S3, 0, 0))))))
-- X11_requireKept
def q_X11_requireKept (e0 : Nat) (S : DS) (d : Nat) (p1 : Int32) : Option ((Nat × Option Nat) × DS × Nat × Nat) := chk (dK S d = 12) (bndx none (q_X11_requirePromise e0 S d p1) (fun r2 S3 => bnd r2 (fun b4 => chk (dK S3 b4 = 7) (if (dP S3 606 b4) = none then some ((1, none), S3, 1, 6) else some ((0, (dP S3 606 b4)), S3, 0, 0)))))
-- X11_requireRange
def q_X11_requireRange (e0 : Nat) (S : DS) (d : Nat) (p1 : Int32) (p2 : Int32) (p3 : Int32) : Option ((Nat × Int32) × DS × Nat × Nat) := if p1 < p2 then some ((1, 0), S, 1, 6) else if p1 ≤ p3 then some ((0, 0), S, 0, 0) else some ((1, 0), S, 1, 6)
-- X11_requireValue
def q_X11_requireValue_17 (e0 : Nat) (S : DS) (d : Nat) (v1 : Int32) (z0 : Int32) : Option ((Nat × Int32) × DS × Nat × Nat) := if z0 = 0 then chk (dK S d = 12) (bndc (q_X11_thingOf e0 S d v1) (fun r2 S3 => if r2 = none then some ((1, 0), S3, 1, 6) else some ((0, 0), S3, 0, 0))) else some ((0, 0), S, 0, 0)
def q_X11_requireValue_16 (e0 : Nat) (S : DS) (d : Nat) (v1 : Int32) : Option ((Nat × Int32) × DS × Nat × Nat) := q_X11_requireValue_17 e0 S d v1 0
def q_X11_requireValue (e0 : Nat) (S : DS) (d : Nat) (p1 : Int32) : Option ((Nat × Int32) × DS × Nat × Nat) := if p1 < (-1) then q_X11_requireValue_16 e0 S d p1 else if 999 < p1 then q_X11_requireValue_16 e0 S d p1 else q_X11_requireValue_17 e0 S d p1 1
-- X11_handler
def q_X11_handler_31 (e0 : Nat) (S : DS) (d : Nat) (v1 : Int32) (v2 : Int32) (z0 : Option Nat) : Option ((Nat × Int32) × DS × Nat × Nat) := chk (dK S d = 12) (bnd (dP S 1101 d) (fun b11 => chk (dK S b11 = 1) (bndc (q_Jx4a65c_size_8abf5 e0 S b11) (fun r13 S14 => if r13 < 1000 then chk (dK S14 d = 12) (tick 1 4 (lt9 (dn S14) (fun q16 => lt9 (sO S14 9) (fun S17 => chk (dK S17 d = 12) (bnd (dP S17 1101 d) (fun b19 => chk (dK S17 b19 = 1) (bndc (q_Jx4a65c_size_8abf5 e0 S17 b19) (fun r21 S22 => bndc (q_X8_init e0 S22 q16 r21 v1 v2 z0) (fun r23 S24 => bnd (dP S14 1101 d) (fun b25 => chk (dK S24 b25 = 1) (bndc (q_Jx4a65c_add_9ea2d e0 S24 b25 (some q16)) (fun r27 S28 => chk (dK S28 d = 12) (bnd (dP S28 1101 d) (fun b30 => chk (dK S28 b30 = 1) (bndc (q_Jx4a65c_size_8abf5 e0 S28 b30) (fun r32 S33 => some ((0, r32 - 1), S33, 0, 0))))))))))))))))) else some ((2, 0), S14, 1, 6)))))
def q_X11_handler_22 (e0 : Nat) (S : DS) (d : Nat) (v1 : Int32) (v2 : Int32) : Option ((Nat × Int32) × DS × Nat × Nat) := chk (dK S d = 12) (bndx 0 (q_X11_requireKept e0 S d v2) (fun r8 S9 => q_X11_handler_31 e0 S9 d v1 v2 r8))
def q_X11_handler (e0 : Nat) (S : DS) (d : Nat) (p1 : Int32) (p2 : Int32) : Option ((Nat × Int32) × DS × Nat × Nat) := chk (dK S d = 12) (bndx 0 (q_X11_requireRange e0 S d p1 0 5) (fun r2 S3 => chk (dK S3 d = 12) (bndx 0 (q_X11_requireValue e0 S3 d p2) (fun r5 S6 => if p1 = 4 then q_X11_handler_22 e0 S6 d p1 p2 else if p1 = 5 then q_X11_handler_22 e0 S6 d p1 p2 else q_X11_handler_31 e0 S6 d p1 p2 none))))
-- X11_thenable
def q_X11_thenable (e0 : Nat) (S : DS) (d : Nat) (p1 : Int32) (p2 : Int32) (p3 : Int32) (p4 : Int32) (p5 : Int32) : Option ((Nat × Int32) × DS × Nat × Nat) := chk (dK S d = 12) (bndx 0 (q_X11_requireRange e0 S d p1 0 2) (fun r2 S3 => chk (dK S3 d = 12) (bndx 0 (q_X11_requireRange e0 S3 d p2 0 4) (fun r5 S6 => chk (dK S6 d = 12) (bndx 0 (q_X11_requireRange e0 S6 d p4 0 4) (fun r8 S9 => chk (dK S9 d = 12) (bndx 0 (q_X11_requireValue e0 S9 d p3) (fun r11 S12 => chk (dK S12 d = 12) (bndx 0 (q_X11_requireValue e0 S12 d p5) (fun r14 S15 => chk (dK S15 d = 12) (bndx 0 (q_X11_requireRoom e0 S15 d 8) (fun r17 S18 => tick 1 9 (lt9 (dn S18) (fun q19 => lt9 (sO S18 10) (fun S20 => chk (dK S20 d = 12) (bndc (q_X11_nextValue e0 S20 d) (fun r22 S23 => bndc (q_X9_init e0 S23 q19 r22 p1) (fun r24 S25 => chk (dK S25 q19 = 10) (lt9 (sI S25 904 q19 p2) (fun S27 => lt9 (sI S27 905 q19 p3) (fun S29 => lt9 (sI S29 906 q19 p4) (fun S31 => lt9 (sI S31 907 q19 p5) (fun S33 => chk (dK S33 d = 12) (bnd (dP S33 1100 d) (fun b36 => chk (dK S33 b36 = 1) (bndc (q_Jx4a65c_add_9ea2d e0 S33 b36 (some q19)) (fun r38 S39 => chk (dK S39 q19 = 10) (some ((0, dI S39 1000 q19), S39, 0, 0)))))))))))))))))))))))))))))
-- X11_callOneOf
def q_X11_callOneOf_12 (e0 : Nat) (n : Nat) (S : DS) (d : Nat) (v1 : Option Nat) (v2 : Int32) (v3 : Int32) (z0 : Int32) : Option (Int32 × DS × Nat × Nat) := if v2 = 0 then chk (dK S d = 12) (bndc (q_X11_resolve e0 n S d v1 v3) (fun r4 S5 => chk (isB z0) (some (z0, S5, 0, 0)))) else chk (dK S d = 12) (bndc (q_X11_reject e0 n S d v1 v3) (fun r7 S8 => chk (isB z0) (some (z0, S8, 0, 0))))
def q_X11_callOneOf (e0 : Nat) (n : Nat) (S : DS) (d : Nat) (p1 : Option Nat) (p2 : Int32) (p3 : Int32) : Option (Int32 × DS × Nat × Nat) := bnd p1 (fun b1 => chk (dK S b1 = 8) (if (dI S 701 b1) = 0 then q_X11_callOneOf_12 e0 n S d p1 p2 p3 1 else q_X11_callOneOf_12 e0 n S d p1 p2 p3 0))
-- X11_settle
def q_X11_settle (e0 : Nat) (n : Nat) (S : DS) (d : Nat) (p1 : Int32) (p2 : Int32) (p3 : Int32) : Option ((Nat × Int32) × DS × Nat × Nat) := chk (dK S d = 12) (bndx 0 (q_X11_requireKept e0 S d p1) (fun r2 S3 => chk (dK S3 d = 12) (bndx 0 (q_X11_requireValue e0 S3 d p3) (fun r5 S6 => chk (dK S6 d = 12) (bndx 0 (q_X11_requireRoom e0 S6 d 8) (fun r8 S9 => chk (dK S9 d = 12) (bndc (q_X11_callOneOf e0 n S9 d r2 p2 p3) (fun r11 S12 => chk (isB r11) (some ((0, r11), S12, 0, 0))))))))))
-- X11_requireThenable
def q_X11_requireThenable (e0 : Nat) (S : DS) (d : Nat) (p1 : Int32) : Option ((Nat × Option Nat) × DS × Nat × Nat) := chk (dK S d = 12) (bndc (q_X11_thingOf e0 S d p1) (fun r2 S3 => chk (okT S3 r2) (if (dinst S3 10 r2) = 0 then some ((1, none), S3, 1, 6) else bnd r2 (fun b4 => chk (dK S3 b4 = 10) (some ((0, (some b4)), S3, 0, 0))))))
-- X11_later
def q_X11_later (e0 : Nat) (n : Nat) (S : DS) (d : Nat) (p1 : Int32) (p2 : Int32) (p3 : Int32) : Option ((Nat × Int32) × DS × Nat × Nat) := chk (dK S d = 12) (bndx 0 (q_X11_requireThenable e0 S d p1) (fun r2 S3 => chk (dK S3 d = 12) (bndx 0 (q_X11_requireValue e0 S3 d p3) (fun r5 S6 => chk (dK S6 d = 12) (bndx 0 (q_X11_requireRoom e0 S6 d 8) (fun r8 S9 => bnd r2 (fun b10 => chk (dK S9 b10 = 10) (if (dP S9 908 b10) = none then some ((0, (-1)), S9, 0, 0) else chk (dK S9 d = 12) (bndc (q_X11_callOneOf e0 n S9 d (dP S9 908 b10) p2 p3) (fun r13 S14 => if r13 = 0 then some ((0, 0), S14, 0, 0) else some ((0, 1), S14, 0, 0)))))))))))
-- X11_requireHandler
def q_X11_requireHandler (e0 : Nat) (S : DS) (d : Nat) (p1 : Int32) : Option ((Nat × Option Nat) × DS × Nat × Nat) := if p1 = (-1) then some ((0, none), S, 0, 0) else chk (dK S d = 12) (bnd (dP S 1101 d) (fun b2 => chk (dK S b2 = 1) (bndc (q_Jx4a65c_size_8abf5 e0 S b2) (fun r4 S5 => chk (dK S5 d = 12) (bndx none (q_X11_requireRange e0 S5 d p1 0 (r4 - 1)) (fun r7 S8 => chk (dK S8 d = 12) (bnd (dP S8 1101 d) (fun b10 => chk (dK S8 b10 = 1) (bndc (q_Jx4a65c_get_915e3 e0 S8 b10 p1) (fun r12 S13 => bnd r12 (fun b14 => chk (dK S13 b14 = 9) (some ((0, (some b14)), S13, 0, 0)))))))))))))
-- X11_then
def q_X11_then_28 (e0 : Nat) (S : DS) (d : Nat) (v5 : Option Nat) (v6 : Option Nat) (z0 : Option Nat) : Option ((Nat × Int32) × DS × Nat × Nat) := chk (dK S d = 12) (bndx 0 (q_X11_requireRoom e0 S d 8) (fun r8 S9 => chk (dK S9 d = 12) (bndc (q_X11_derive e0 S9 d v5 v6 z0) (fun r11 S12 => some ((0, r11), S12, 0, 0)))))
def q_X11_then (e0 : Nat) (S : DS) (d : Nat) (p1 : Int32) (p2 : Int32) (p3 : Int32) (p4 : Int32) : Option ((Nat × Int32) × DS × Nat × Nat) := chk (dK S d = 12) (bndx 0 (q_X11_requirePromise e0 S d p1) (fun r2 S3 => chk (dK S3 d = 12) (bndx 0 (q_X11_requireHandler e0 S3 d p2) (fun r5 S6 => if p4 = 0 then q_X11_then_28 e0 S6 d r2 r5 none else chk (dK S6 d = 12) (bndx 0 (q_X11_requireHandler e0 S6 d p3) (fun r14 S15 => q_X11_then_28 e0 S15 d r2 r5 r14))))))
-- X11_lastly
def q_X11_lastly (e0 : Nat) (S : DS) (d : Nat) (p1 : Int32) (p2 : Int32) : Option ((Nat × Int32) × DS × Nat × Nat) := chk (dK S d = 12) (bndx 0 (q_X11_requirePromise e0 S d p1) (fun r2 S3 => chk (dK S3 d = 12) (bndx 0 (q_X11_requireHandler e0 S3 d p2) (fun r5 S6 => chk (dK S6 d = 12) (bndx 0 (q_X11_requireRoom e0 S6 d 8) (fun r8 S9 => if r5 = none then chk (dK S9 d = 12) (bndc (q_X11_derive e0 S9 d r2 none none) (fun r22 S23 => some ((0, r22), S23, 0, 0))) else tick 1 2 (lt9 (dn S9) (fun q10 => lt9 (sO S9 6) (fun S11 => bndc (q_X5_init e0 S11 q10 r5 0) (fun r12 S13 => tick 1 2 (lt9 (dn S13) (fun q14 => lt9 (sO S13 6) (fun S15 => bndc (q_X5_init e0 S15 q14 r5 2) (fun r16 S17 => chk (dK S17 d = 12) (bndc (q_X11_derive e0 S17 d r2 (some q10) (some q14)) (fun r19 S20 => some ((0, r19), S20, 0, 0)))))))))))))))))
-- X11_wrap
def q_X11_wrap (e0 : Nat) (n : Nat) (S : DS) (d : Nat) (p1 : Int32) : Option ((Nat × Int32) × DS × Nat × Nat) := chk (dK S d = 12) (bndx 0 (q_X11_requireValue e0 S d p1) (fun r2 S3 => chk (dK S3 d = 12) (bndx 0 (q_X11_requireRoom e0 S3 d 8) (fun r5 S6 => chk (dK S6 d = 12) (bndc (q_X11_promiseFor e0 n S6 d p1) (fun r8 S9 => bnd r8 (fun b10 => chk (dK S9 b10 = 7) (some ((0, dI S9 1000 b10), S9, 0, 0)))))))))
-- X11_broken
def q_X11_broken (e0 : Nat) (n : Nat) (S : DS) (d : Nat) (p1 : Int32) : Option ((Nat × Int32) × DS × Nat × Nat) := chk (dK S d = 12) (bndx 0 (q_X11_requireValue e0 S d p1) (fun r2 S3 => chk (dK S3 d = 12) (bndx 0 (q_X11_requireRoom e0 S3 d 8) (fun r5 S6 => chk (dK S6 d = 12) (bndc (q_X11_newPromise e0 S6 d) (fun r8 S9 => chk (dK S9 d = 12) (bndc (q_X11_reject e0 n S9 d r8 p1) (fun r11 S12 => bnd r8 (fun b13 => chk (dK S12 b13 = 8) (bnd (dP S12 700 b13) (fun b15 => chk (dK S12 b15 = 7) (some ((0, dI S12 1000 b15), S12, 0, 0)))))))))))))
-- X11_item
def q_X11_item (e0 : Nat) (S : DS) (d : Nat) (p1 : Int32) : Option ((Nat × Int32) × DS × Nat × Nat) := chk (dK S d = 12) (bndx 0 (q_X11_requireValue e0 S d p1) (fun r2 S3 => chk (dK S3 d = 12) (if (dI S3 1103 d) < 200 then bnd (dP S3 1102 d) (fun b5 => chk (dK S3 b5 = 20) (chk (inb (dI S3 1103 d) (dL S3 b5)) (lt9 (sX S3 b5 (upd (dX S3 b5) (dI S3 1103 d).toNatClampNeg p1)) (fun S7 => lt9 (sI S7 1103 d ((dI S7 1103 d) + 1)) (fun S10 => some ((0, dI S10 1103 d), S10, 0, 0)))))) else some ((2, 0), S3, 1, 6))))
-- X11_onFulfilled
def q_X11_onFulfilled_15 (e0 : Nat) (S : DS) (d : Nat) (v1 : Option Nat) (v2 : Int32) : Option (Option Nat × DS × Nat × Nat) := tick 1 3 (lt9 (dn S) (fun q3 => lt9 (sO S 4) (fun S4 => bndc (q_X2_init e0 S4 q3 v1 v2 0) (fun r5 S6 => some ((some q3), S6, 0, 0)))))
def q_X11_onFulfilled (e0 : Nat) (S : DS) (d : Nat) (p1 : Option Nat) (p2 : Int32) : Option (Option Nat × DS × Nat × Nat) := bnd p1 (fun b1 => chk (dK S b1 = 3) (if (dI S 200 b1) = 0 then q_X11_onFulfilled_15 e0 S d p1 p2 else if (dI S 200 b1) = 1 then q_X11_onFulfilled_15 e0 S d p1 p2 else bndc (q_X8_resolving e0 S (dP S 202 b1)) (fun r7 S8 => some (r7, S8, 0, 0))))
-- X11_onRejected
def q_X11_onRejected_16 (e0 : Nat) (S : DS) (d : Nat) (v1 : Option Nat) (v2 : Int32) : Option (Option Nat × DS × Nat × Nat) := tick 1 3 (lt9 (dn S) (fun q3 => lt9 (sO S 4) (fun S4 => bndc (q_X2_init e0 S4 q3 v1 v2 1) (fun r5 S6 => some ((some q3), S6, 0, 0)))))
def q_X11_onRejected (e0 : Nat) (S : DS) (d : Nat) (p1 : Option Nat) (p2 : Int32) : Option (Option Nat × DS × Nat × Nat) := bnd p1 (fun b1 => chk (dK S b1 = 3) (if (dI S 200 b1) = 1 then q_X11_onRejected_16 e0 S d p1 p2 else if (dI S 200 b1) = 2 then q_X11_onRejected_16 e0 S d p1 p2 else bndc (q_X8_rejecting e0 S (dP S 202 b1)) (fun r7 S8 => some (r7, S8, 0, 0))))
-- X11_takeList
def q_X11_takeList (e0 : Nat) (S : DS) (d : Nat) : Option (Option Nat × DS × Nat × Nat) := chk (dK S d = 12) (bndc (q_J7_copyOf_59c91 e0 S (dP S 1102 d) (dI S 1103 d)) (fun r2 S3 => chk (dK S3 d = 12) (lt9 (sI S3 1103 d 0) (fun S5 => some (r2, S5, 0, 0)))))
-- X11_combine
def q_X11_combine_46 (e0 : Nat) (d : Nat) : Nat → DS → Int32 → Option Nat → Option Nat → Option Nat → Int32 → Option ((Nat × Int32) × DS × Nat × Nat)
  | 0, _, _, _, _, _, _ => none
  | n + 1, S, v1, v2, v3, v4, v5 => bnd v2 (fun b19 => chk (dK S b19 = 20 ∨ dK S b19 = 21) (if (nI (dL S b19)) ≤ v5 then if (nI (dL S b19)) = 0 then if v1 = 3 then bnd v3 (fun b25 => chk (dK S b25 = 8) (bnd (dP S 700 b25) (fun b27 => chk (dK S b27 = 7) (some ((0, dI S 1000 b27), S, 0, 0))))) else chk (dK S d = 12) (bndc (q_X11_complete e0 n S d v4) (fun r30 S31 => bnd v3 (fun b32 => chk (dK S31 b32 = 8) (bnd (dP S31 700 b32) (fun b34 => chk (dK S31 b34 = 7) (some ((0, dI S31 1000 b34), S31, 0, 0))))))) else bnd v3 (fun b21 => chk (dK S b21 = 8) (bnd (dP S 700 b21) (fun b23 => chk (dK S b23 = 7) (some ((0, dI S 1000 b23), S, 0, 0))))) else chk (dK S b19 = 20) (chk (inb v5 (dL S b19)) (chk (dK S d = 12) (bndc (q_X11_promiseFor e0 n S d (dX S b19 v5.toNatClampNeg)) (fun r38 S39 => chk (dK S39 d = 12) (bndc (q_X11_onFulfilled e0 S39 d v4 v5) (fun r41 S42 => chk (dK S42 d = 12) (bndc (q_X11_onRejected e0 S42 d v4 v5) (fun r44 S45 => chk (dK S45 d = 12) (bndc (q_X11_derive e0 S45 d r38 r41 r44) (fun r47 S48 => q_X11_combine_46 e0 d n S48 v1 v2 v3 v4 (v5 + 1)))))))))))))
def q_X11_combine (e0 : Nat) (n : Nat) (S : DS) (d : Nat) (p1 : Int32) : Option ((Nat × Int32) × DS × Nat × Nat) := chk (dK S d = 12) (bndx 0 (q_X11_requireRange e0 S d p1 0 3) (fun r2 S3 => chk (dK S3 d = 12) (bndx 0 (q_X11_requireRoom e0 S3 d (8 + (2 * (dI S3 1103 d)))) (fun r5 S6 => chk (dK S6 d = 12) (bndc (q_X11_takeList e0 S6 d) (fun r8 S9 => chk (dK S9 d = 12) (bndc (q_X11_newPromise e0 S9 d) (fun r11 S12 => tick 1 4 (lt9 (dn S12) (fun q13 => lt9 (sO S12 3) (fun S14 => bnd r8 (fun b15 => chk (dK S14 b15 = 20 ∨ dK S14 b15 = 21) (bndc (q_X1_init e0 S14 q13 p1 (nI (dL S14 b15)) r11) (fun r17 S18 => q_X11_combine_46 e0 d n S18 p1 r8 r11 (some q13) 0))))))))))))))
-- X11_advance
def q_X11_advance (e0 : Nat) (n : Nat) (S : DS) (d : Nat) (p1 : Option Nat) : Option (Int32 × DS × Nat × Nat) := bnd p1 (fun b1 => chk (dK S b1 = 2) (bnd (dP S 100 b1) (fun b3 => chk (dK S b3 = 20 ∨ dK S b3 = 21) (if (dI S 104 b1) < (nI (dL S b3)) then chk (dK S b3 = 20) (chk (inb (dI S 104 b1) (dL S b3)) (chk (dK S d = 12) (bndc (q_X11_promiseFor e0 n S d (dX S b3 (dI S 104 b1).toNatClampNeg)) (fun r7 S8 => chk (dK S8 b1 = 2) (lt9 (sI S8 104 b1 ((dI S8 104 b1) + 1)) (fun S10 => bndc (q_X4_resumption e0 S10 p1) (fun r12 S13 => chk (dK S13 d = 12) (bndc (q_X11_attach e0 S13 d r7 r12) (fun r15 S16 => some (0, S16, 0, 0)))))))))) else chk (dK S d = 12) (bndc (q_X11_resolve e0 n S d (dP S 103 b1) (dI S 102 b1)) (fun r18 S19 => some (0, S19, 0, 0)))))))
-- X11_async
def q_X11_async (e0 : Nat) (n : Nat) (S : DS) (d : Nat) (p1 : Int32) (p2 : Int32) : Option ((Nat × Int32) × DS × Nat × Nat) := chk (dK S d = 12) (bndx 0 (q_X11_requireValue e0 S d p1) (fun r2 S3 => chk (dK S3 d = 12) (bndx 0 (q_X11_requireHandler e0 S3 d p2) (fun r5 S6 => chk (dK S6 d = 12) (bndx 0 (q_X11_requireRoom e0 S6 d 8) (fun r8 S9 => chk (dK S9 d = 12) (bndc (q_X11_newPromise e0 S9 d) (fun r11 S12 => tick 1 5 (lt9 (dn S12) (fun q13 => lt9 (sO S12 2) (fun S14 => chk (dK S14 d = 12) (bndc (q_X11_takeList e0 S14 d) (fun r16 S17 => bndc (q_X0_init e0 S17 q13 r16 r5 p1 r11) (fun r18 S19 => chk (dK S19 d = 12) (bndc (q_X11_advance e0 n S19 d (some q13)) (fun r21 S22 => bnd r11 (fun b23 => chk (dK S22 b23 = 8) (bnd (dP S22 700 b23) (fun b25 => chk (dK S22 b25 = 7) (some ((0, dI S22 1000 b25), S22, 0, 0)))))))))))))))))))))
-- X11_dequeue
def q_X11_dequeue (e0 : Nat) (S : DS) (d : Nat) (p1 : Option Nat) : Option (Int32 × DS × Nat × Nat) := bnd p1 (fun b1 => chk (dK S b1 = 5) (chk (dK S d = 12) (lt9 (sP S 1106 d (dP S 407 b1)) (fun S4 => if (dP S4 1106 d) = none then lt9 (sP S4 1107 d none) (fun S10 => lt9 (sI S10 1108 d ((dI S10 1108 d) - 1)) (fun S13 => some (0, S13, 0, 0))) else lt9 (sI S4 1108 d ((dI S4 1108 d) - 1)) (fun S7 => some (0, S7, 0, 0))))))
-- X11_doAct
def q_X11_doAct (e0 : Nat) (n : Nat) (S : DS) (d : Nat) (p1 : Option Nat) (p2 : Int32) (p3 : Int32) (p4 : Option Nat) : Option (Int32 × DS × Nat × Nat) := if p2 = 1 then chk (dK S d = 12) (bndc (q_X11_resolve e0 n S d p4 p3) (fun r2 S3 => some (0, S3, 0, 0))) else if p2 = 2 then chk (dK S d = 12) (bndc (q_X11_reject e0 n S d p4 p3) (fun r5 S6 => some (0, S6, 0, 0))) else if p2 = 3 then chk (dK S d = 12) (bndc (q_X11_reject e0 n S d p4 p3) (fun r8 S9 => some (0, S9, 0, 0))) else if p2 = 4 then bnd p1 (fun b10 => chk (dK S b10 = 10) (lt9 (sP S 908 b10 p4) (fun S12 => some (0, S12, 0, 0)))) else some (0, S, 0, 0)
-- X11_callThen
def q_X11_callThen (e0 : Nat) (n : Nat) (S : DS) (d : Nat) (p1 : Option Nat) (p2 : Option Nat) : Option (Int32 × DS × Nat × Nat) := bnd p1 (fun b1 => chk (dK S b1 = 10) (chk (dK S d = 12) (bndc (q_X11_note e0 S d (dI S 1000 b1) (-1)) (fun r4 S5 => chk (dK S5 b1 = 10) (chk (dK S5 d = 12) (bndc (q_X11_doAct e0 n S5 d (some b1) (dI S5 904 b1) (dI S5 905 b1) p2) (fun r8 S9 => chk (dK S9 b1 = 10) (if (dI S9 904 b1) = 3 then some (0, S9, 0, 0) else chk (dK S9 d = 12) (bndc (q_X11_doAct e0 n S9 d (some b1) (dI S9 906 b1) (dI S9 907 b1) p2) (fun r12 S13 => some (0, S13, 0, 0)))))))))))
-- X11_finish
def q_X11_finish (e0 : Nat) (n : Nat) (S : DS) (d : Nat) (p1 : Option Nat) (p2 : Int32) : Option (Int32 × DS × Nat × Nat) := chk (dK S d = 12) (if (dI S 1109 d) = 0 then bndc (q_X11_resolve e0 n S d p1 p2) (fun r2 S3 => some (0, S3, 0, 0)) else bndc (q_X11_reject e0 n S d p1 p2) (fun r4 S5 => some (0, S5, 0, 0)))
-- X11_hears
def q_X11_hears_53 (e0 : Nat) (n : Nat) (S : DS) (d : Nat) : Option (Int32 × DS × Nat × Nat) := chk (dK S d = 12) (if (dI S 1109 d) = 0 then chk (isB 1) (some (1, S, 0, 0)) else chk (isB 0) (some (0, S, 0, 0)))
def q_X11_hears_37 (e0 : Nat) (n : Nat) (S : DS) (d : Nat) (v1 : Option Nat) (v3 : Int32) : Option (Int32 × DS × Nat × Nat) := chk (dK S d = 12) (if (dI S 1109 d) = 0 then q_X11_hears_53 e0 n S d else bnd v1 (fun b9 => chk (dK S b9 = 2) (bndc (q_X11_reject e0 n S d (dP S 103 b9) v3) (fun r11 S12 => q_X11_hears_53 e0 n S12 d))))
def q_X11_hears (e0 : Nat) (n : Nat) (S : DS) (d : Nat) (p1 : Option Nat) (p2 : Option Nat) : Option (Int32 × DS × Nat × Nat) := bnd p2 (fun b1 => chk (dK S b1 = 5) (chk (dK S d = 12) (chk (isB (dI S 405 b1)) (lt9 (sI S 1109 d (dI S 405 b1)) (fun S4 => if (dI S4 1109 d) = 0 then bnd p1 (fun b13 => chk (dK S4 b13 = 2) (if (dP S4 101 b13) = none then q_X11_hears_37 e0 n S4 d p1 (dI S4 406 b1) else bnd (dP S4 101 b13) (fun b15 => chk (dK S4 b15 = 9) (bndc (q_X8_callIn e0 n S4 b15 (some d) (dI S4 406 b1)) (fun r17 S18 => q_X11_hears_37 e0 n S18 d p1 r17))))) else q_X11_hears_37 e0 n S4 d p1 (dI S4 406 b1))))))
-- X11_doJob
def q_X11_doJob_155 (e0 : Nat) (n : Nat) (S : DS) (d : Nat) (v1 : Option Nat) (z0 : Int32) : Option (Int32 × DS × Nat × Nat) := bnd v1 (fun b12 => chk (dK S b12 = 5) (chk (dK S d = 12) (bndc (q_X11_finish e0 n S d (dP S 402 b12) z0) (fun r15 S16 => some (0, S16, 0, 0)))))
def q_X11_doJob_123 (e0 : Nat) (n : Nat) (S : DS) (d : Nat) (v1 : Option Nat) (z0 : Option Nat) : Option (Int32 × DS × Nat × Nat) := bnd v1 (fun b3 => chk (dK S b3 = 5) (chk (dK S d = 12) (chk (isB (dI S 405 b3)) (lt9 (sI S 1109 d (dI S 405 b3)) (fun S6 => if z0 = none then q_X11_doJob_155 e0 n S6 d v1 (dI S6 406 b3) else bnd z0 (fun b9 => if dK S6 b9 = 9 then bndc (q_X8_callIn e0 n S6 b9 (some d) (dI S6 406 b3)) (fun r10 S11 => q_X11_doJob_155 e0 n S11 d v1 r10) else if dK S6 b9 = 6 then bndc (q_X5_callIn e0 n S6 b9 (some d) (dI S6 406 b3)) (fun r17 S18 => q_X11_doJob_155 e0 n S18 d v1 r17) else chk (dK S6 b9 = 4) (bndc (q_X2_callIn e0 n S6 b9 (some d) (dI S6 406 b3)) (fun r19 S20 => q_X11_doJob_155 e0 n S20 d v1 r19))))))))
def q_X11_doJob (e0 : Nat) (n : Nat) (S : DS) (d : Nat) (p1 : Option Nat) : Option (Int32 × DS × Nat × Nat) := bnd p1 (fun b1 => chk (dK S b1 = 5) (if (dP S 403 b1) = none then chk (okT S (dP S 404 b1)) (if (dinst S 7 (dP S 404 b1)) = 0 then chk (okT S (dP S 404 b1)) (if (dinst S 10 (dP S 404 b1)) = 0 then if (dI S 405 b1) = 0 then q_X11_doJob_123 e0 n S d p1 (dP S 400 b1) else q_X11_doJob_123 e0 n S d p1 (dP S 401 b1) else bnd (dP S 404 b1) (fun b21 => chk (dK S b21 = 10) (chk (dK S d = 12) (bndc (q_X11_callThen e0 n S d (some b21) (dP S 402 b1)) (fun r24 S25 => some (0, S25, 0, 0)))))) else bnd (dP S 404 b1) (fun b26 => chk (dK S b26 = 7) (bndc (q_X8_resolving e0 S (dP S 402 b1)) (fun r28 S29 => chk (dK S29 b1 = 5) (bndc (q_X8_rejecting e0 S29 (dP S29 402 b1)) (fun r31 S32 => chk (dK S32 d = 12) (bndc (q_X11_derive e0 S32 d (some b26) r28 r31) (fun r34 S35 => some (0, S35, 0, 0))))))))) else chk (dK S d = 12) (bndc (q_X11_hears e0 n S d (dP S 403 b1) p1) (fun r37 S38 => if r37 = 0 then some (0, S38, 0, 0) else chk (dK S38 b1 = 5) (chk (dK S38 d = 12) (bndc (q_X11_advance e0 n S38 d (dP S38 403 b1)) (fun r41 S42 => some (0, S42, 0, 0))))))))
-- X11_requireRoomInLog
def q_X11_requireRoomInLog (e0 : Nat) (S : DS) (d : Nat) : Option ((Nat × Int32) × DS × Nat × Nat) := chk (dK S d = 12) (if (dI S 1105 d) < 4000 then some ((0, 0), S, 0, 0) else some ((2, 0), S, 1, 6))
-- X11_jobs
def q_X11_jobs_7 (e0 : Nat) (d : Nat) : Nat → DS → Int32 → Int32 → Option Nat → Option ((Nat × Int32) × DS × Nat × Nat)
  | 0, _, _, _, _ => none
  | n + 1, S, v1, v2, v3 => if v3 = none then some ((0, v2), S, 0, 0) else if v1 ≤ v2 then some ((0, v2), S, 0, 0) else chk (dK S d = 12) (bndx 0 (q_X11_requireRoom e0 S d 8) (fun r3 S4 => chk (dK S4 d = 12) (bndx 0 (q_X11_requireRoomInLog e0 S4 d) (fun r6 S7 => chk (dK S7 d = 12) (bndc (q_X11_dequeue e0 S7 d v3) (fun r9 S10 => chk (dK S10 d = 12) (bndc (q_X11_doJob e0 n S10 d v3) (fun r12 S13 => chk (dK S13 d = 12) (q_X11_jobs_7 e0 d n S13 v1 (v2 + 1) (dP S13 1106 d))))))))))
def q_X11_jobs (e0 : Nat) (n : Nat) (S : DS) (d : Nat) (p1 : Int32) : Option ((Nat × Int32) × DS × Nat × Nat) := chk (dK S d = 12) (q_X11_jobs_7 e0 d n S p1 0 (dP S 1106 d))
-- X11_state
def q_X11_state (e0 : Nat) (S : DS) (d : Nat) (p1 : Int32) : Option ((Nat × Int32) × DS × Nat × Nat) := chk (dK S d = 12) (bndx 0 (q_X11_requirePromise e0 S d p1) (fun r2 S3 => bnd r2 (fun b4 => chk (dK S3 b4 = 7) (if (dI S3 605 b4) = 0 then some ((0, dI S3 603 b4), S3, 0, 0) else some ((0, (dI S3 603 b4) + 4), S3, 0, 0)))))
-- X11_result
def q_X11_result (e0 : Nat) (S : DS) (d : Nat) (p1 : Int32) : Option ((Nat × Int32) × DS × Nat × Nat) := chk (dK S d = 12) (bndx 0 (q_X11_requirePromise e0 S d p1) (fun r2 S3 => bnd r2 (fun b4 => chk (dK S3 b4 = 7) (some ((0, dI S3 604 b4), S3, 0, 0)))))
-- X11_requireThing
def q_X11_requireThing (e0 : Nat) (S : DS) (d : Nat) (p1 : Int32) : Option ((Nat × Option Nat) × DS × Nat × Nat) := chk (dK S d = 12) (bndc (q_X11_thingOf e0 S d p1) (fun r2 S3 => if r2 = none then some ((1, none), S3, 1, 6) else some ((0, r2), S3, 0, 0)))
-- X11_kind
def q_X11_kind (e0 : Nat) (S : DS) (d : Nat) (p1 : Int32) : Option ((Nat × Int32) × DS × Nat × Nat) := chk (dK S d = 12) (bndx 0 (q_X11_requireThing e0 S d p1) (fun r2 S3 => bnd r2 (fun b4 => chk (dK S3 b4 = 7 ∨ dK S3 b4 = 10 ∨ dK S3 b4 = 11) (some ((0, dI S3 1001 b4), S3, 0, 0)))))
-- X11_requireParts
def q_X11_requireParts (e0 : Nat) (S : DS) (d : Nat) (p1 : Int32) : Option ((Nat × Option Nat) × DS × Nat × Nat) := chk (dK S d = 12) (bndx none (q_X11_requireThing e0 S d p1) (fun r2 S3 => bnd r2 (fun b4 => chk (dK S3 b4 = 7 ∨ dK S3 b4 = 10 ∨ dK S3 b4 = 11) (if (dP S3 1002 b4) = none then some ((1, none), S3, 1, 6) else some ((0, (dP S3 1002 b4)), S3, 0, 0)))))
-- X11_part
def q_X11_part (e0 : Nat) (S : DS) (d : Nat) (p1 : Int32) (p2 : Int32) : Option ((Nat × Int32) × DS × Nat × Nat) := chk (dK S d = 12) (bndx 0 (q_X11_requireParts e0 S d p1) (fun r2 S3 => if p2 = (-1) then bnd r2 (fun b10 => chk (dK S3 b10 = 20 ∨ dK S3 b10 = 21) (some ((0, nI (dL S3 b10)), S3, 0, 0))) else bnd r2 (fun b4 => chk (dK S3 b4 = 20 ∨ dK S3 b4 = 21) (chk (dK S3 d = 12) (bndx 0 (q_X11_requireRange e0 S3 d p2 0 ((nI (dL S3 b4)) - 1)) (fun r7 S8 => chk (dK S8 b4 = 20) (chk (inb p2 (dL S8 b4)) (some ((0, dX S8 b4 p2.toNatClampNeg), S8, 0, 0)))))))))
-- X11_log
def q_X11_log (e0 : Nat) (S : DS) (d : Nat) (p1 : Int32) (p2 : Int32) : Option (Int32 × DS × Nat × Nat) := if p1 < 0 then some ((-1000000), S, 0, 0) else chk (dK S d = 12) (if p1 < (dI S 1105 d) then if p2 = 0 then bnd (dP S 1104 d) (fun b2 => chk (dK S b2 = 20) (chk (inb (2 * p1) (dL S b2)) (some (dX S b2 (2 * p1).toNatClampNeg, S, 0, 0)))) else bnd (dP S 1104 d) (fun b4 => chk (dK S b4 = 20) (chk (inb ((2 * p1) + 1) (dL S b4)) (some (dX S b4 ((2 * p1) + 1).toNatClampNeg, S, 0, 0)))) else some ((-1000000), S, 0, 0))
-- X11_count
def q_X11_count (e0 : Nat) (S : DS) (d : Nat) (p1 : Int32) : Option ((Nat × Int32) × DS × Nat × Nat) := if p1 = 0 then chk (dK S d = 12) (bnd (dP S 1100 d) (fun b2 => chk (dK S b2 = 1) (bndc (q_Jx4a65c_size_8abf5 e0 S b2) (fun r4 S5 => some ((0, r4), S5, 0, 0))))) else if p1 = 1 then chk (dK S d = 12) (some ((0, dI S 1108 d), S, 0, 0)) else if p1 = 2 then chk (dK S d = 12) (some ((0, dI S 1105 d), S, 0, 0)) else if p1 = 3 then chk (dK S d = 12) (some ((0, dI S 1103 d), S, 0, 0)) else if p1 = 4 then chk (dK S d = 12) (bnd (dP S 1101 d) (fun b10 => chk (dK S b10 = 1) (bndc (q_Jx4a65c_size_8abf5 e0 S b10) (fun r12 S13 => some ((0, r12), S13, 0, 0))))) else some ((1, 0), S, 1, 6)
