/-! chains -/
def lk (nx : Nat → Int32) : Int32 → List Nat → Prop
  | h, [] => h = -1
  | h, k :: t => h = nI k ∧ lk nx (nx k) t
def dlk (nx : Nat → Option Nat) : Option Nat → List Nat → Prop
  | h, [] => h = none
  | h, a :: t => h = some a ∧ dlk nx (nx a) t
theorem lk_congr {nx ny : Nat → Int32} : ∀ {l : List Nat} {h : Int32}, (∀ a, a ∈ l → ny a = nx a) → lk nx h l → lk ny h l
  | [], _, _, hl => hl
  | k :: t, h, e, hl => by
    refine ⟨hl.1, ?_⟩
    rw [e k List.mem_cons_self]
    exact lk_congr (fun a ha => e a (List.mem_cons_of_mem _ ha)) hl.2
theorem dlk_congr {nx ny : Nat → Option Nat} : ∀ {l : List Nat} {h : Option Nat}, (∀ a, a ∈ l → ny a = nx a) → dlk nx h l → dlk ny h l
  | [], _, _, hl => hl
  | k :: t, h, e, hl => by
    refine ⟨hl.1, ?_⟩
    rw [e k List.mem_cons_self]
    exact dlk_congr (fun a ha => e a (List.mem_cons_of_mem _ ha)) hl.2
theorem lk_app {nx ny : Nat → Int32} {k z : Nat} : ∀ {l : List Nat} {h : Int32}, lk nx h l → l.getLast? = some z → l.Nodup → (∀ a, a ∈ l → a ≠ z → ny a = nx a) → ny z = nI k → ny k = -1 → lk ny h (l ++ [k])
  | [], _, _, hz, _, _, _, _ => by cases hz
  | [a], h, hl, hz, _, _, h1, h2 => by
    have : a = z := by simpa using hz
    subst this
    exact ⟨hl.1, h1, h2⟩
  | a :: b :: t, h, hl, hz, hn, e, h1, h2 => by
    have hz' : (b :: t).getLast? = some z := by simpa using hz
    have hn' := List.nodup_cons.mp hn
    have hzm : z ∈ b :: t := List.mem_of_getLast? hz'
    refine ⟨hl.1, ?_⟩
    rw [e a List.mem_cons_self (fun q => hn'.1 (q ▸ hzm))]
    exact lk_app hl.2 hz' hn'.2 (fun c hc => e c (List.mem_cons_of_mem _ hc)) h1 h2
theorem dlk_app {nx ny : Nat → Option Nat} {k z : Nat} : ∀ {l : List Nat} {h : Option Nat}, dlk nx h l → l.getLast? = some z → l.Nodup → (∀ a, a ∈ l → a ≠ z → ny a = nx a) → ny z = some k → ny k = none → dlk ny h (l ++ [k])
  | [], _, _, hz, _, _, _, _ => by cases hz
  | [a], h, hl, hz, _, _, h1, h2 => by
    have : a = z := by simpa using hz
    subst this
    exact ⟨hl.1, h1, h2⟩
  | a :: b :: t, h, hl, hz, hn, e, h1, h2 => by
    have hz' : (b :: t).getLast? = some z := by simpa using hz
    have hn' := List.nodup_cons.mp hn
    have hzm : z ∈ b :: t := List.mem_of_getLast? hz'
    refine ⟨hl.1, ?_⟩
    rw [e a List.mem_cons_self (fun q => hn'.1 (q ▸ hzm))]
    exact dlk_app hl.2 hz' hn'.2 (fun c hc => e c (List.mem_cons_of_mem _ hc)) h1 h2
/-! THE INVARIANT. g 0: things, 1: records, 2: handlers, 3: reactions, 4: groups, 5: the groups' rows, 6: jobs, 7: where a job waits, 8: an element's reaction, 9: counts, 10: a value's owner, 11: awaits left, 12: an address's own number, 14: scalars, 15: from, 16: many -/
def A_cnt (g : GH) (M : MS) : Prop := M 1 0 = nI (g 9 1) ∧ M 15 0 = nI (g 9 15) ∧ M 22 0 = nI (g 9 22) ∧ M 29 0 = nI (g 9 29) ∧ M 30 0 = nI (g 9 30) ∧ M 33 0 = nI (g 9 33) ∧ M 36 0 = nI (g 9 36) ∧ M 38 0 = nI (g 9 38) ∧ M 42 0 = nI (g 9 42) ∧ M 50 0 = nI (g 9 50)
def un14 (M : MS) : Nat → Nat := fun r => if M 14 r = 0 then 1 else 0
def A_bd (t x : Nat) (g : GH) (w : Nat → List Nat) (M : MS) : Prop := t ≤ 512 ∧ g 9 1 ≤ 3000 ∧ g 9 15 ≤ 2 * g 9 1 + g 9 36 + t ∧ g 9 22 + sumN (g 11) (g 9 50) + g 9 38 ≤ g 9 1 + t ∧ g 9 42 + g 9 38 ≤ g 9 1 + t ∧ g 9 50 ≤ g 9 1 ∧ g 9 33 ≤ 1000 ∧ g 9 38 ≤ 200 ∧ g 9 36 ≤ 4001 ∧ g 9 29 ≤ g 9 30 ∧ g 9 30 + x + sumN (fun o => (w o).length) (g 9 1) + sumN (un14 M) (g 9 15) ≤ g 9 22 + g 9 15
def AL (S : DS) (e0 tl ed n : Nat) (f : Nat → Nat) : Prop := dK S tl = 1 ∧ dP S 1 tl = some ed ∧ dK S ed = 21 ∧ dI S 2 tl = nI n ∧ n ≤ dL S ed ∧ dL S ed ≤ 2 * n + 10 ∧ (dL S ed = 0 → ed = e0) ∧ ∀ i, i < n → dY S ed i = some (f i)
def A_desk (e0 d : Nat) (g : GH) (S : DS) : Prop := dFr S ∧ dK S d = 12 ∧ dK S e0 = 21 ∧ dL S e0 = 0 ∧ dP S 1100 d = some (g 14 2) ∧ dP S 1101 d = some (g 14 3) ∧ g 14 2 ≠ g 14 3 ∧ AL S e0 (g 14 2) (g 14 4) (g 9 1) (g 0) ∧ AL S e0 (g 14 3) (g 14 5) (g 9 33) (g 2) ∧ (g 14 4 = g 14 5 → g 14 4 = e0)
def A_log (d : Nat) (g : GH) (S : DS) (M : MS) : Prop := dP S 1104 d = some (g 14 7) ∧ dK S (g 14 7) = 20 ∧ g 12 (g 14 7) = 2 ∧ dI S 1105 d = nI (g 9 36) ∧ 64 ≤ dL S (g 14 7) ∧ dL S (g 14 7) ≤ 64 + 4 * g 9 36 ∧ 2 * g 9 36 ≤ dL S (g 14 7) ∧ ∀ i, i < g 9 36 → dX S (g 14 7) (2 * i) = M 34 i ∧ dX S (g 14 7) (2 * i + 1) = M 35 i
def A_itm (d : Nat) (g : GH) (S : DS) (M : MS) : Prop := dP S 1102 d = some (g 14 6) ∧ dK S (g 14 6) = 20 ∧ g 12 (g 14 6) = 1 ∧ dL S (g 14 6) = 200 ∧ dI S 1103 d = nI (g 9 38) ∧ ∀ i, i < g 9 38 → dX S (g 14 6) i = M 37 i ∧ ∀ o, g 9 1 ≤ o → o < 2 ^ 30 → M 37 i ≠ -2 - nI o
def kp (g : GH) (x : Option Nat) (m : Int32) : Prop := (m = -1 ∧ x = none) ∨ ∃ r, m = nI r ∧ r < g 9 15 ∧ x = some (g 1 r)
/-- what the object o is -/
def tk (g : GH) (S : DS) (M : MS) (o a : Nat) : Prop :=
  (M 2 o = 0 ∧ dK S a = 7 ∧ dP S 1002 a = none ∧ dI S 603 a = M 3 o ∧ dI S 604 a = M 4 o ∧ dI S 605 a = M 7 o ∧ isB (M 7 o) ∧ kp g (dP S 606 a) (M 6 o) ∧ (M 3 o = 0 ∨ M 3 o = 1 ∨ M 3 o = 2)) ∨
  (M 2 o = 1 ∧ dK S a = 10 ∧ dP S 1002 a = none ∧ dI S 903 a = M 8 o ∧ dI S 904 a = M 9 o ∧ dI S 905 a = M 10 o ∧ dI S 906 a = M 11 o ∧ dI S 907 a = M 12 o ∧ kp g (dP S 908 a) (M 6 o)) ∨
  (M 2 o = 2 ∧ dK S a = 11 ∧ dP S 1002 a = none) ∨
  ((M 2 o = 3 ∨ M 2 o = 4) ∧ dK S a = 11 ∧ ∃ q, q < g 9 50 ∧ dP S 1002 a = some (g 5 q) ∧ dK S (g 4 q) = 3 ∧ M 8 o = nI (g 15 q) ∧ M 9 o = nI (g 16 q) ∧ ∀ i, i < g 16 q → M 41 (g 15 q + i) ≠ 0) ∨
  (M 2 o = 5 ∧ dK S a = 11 ∧ ∃ b, dP S 1002 a = some b ∧ dK S b = 20 ∧ dL S b = 2 ∧ g 12 b = 3 ∧ dX S b 0 = M 8 o ∧ dX S b 1 = M 9 o)
def A_T (g : GH) (S : DS) (M : MS) : Prop := (∀ o, o < g 9 1 → dI S 1000 (g 0 o) = -2 - nI o ∧ dI S 1001 (g 0 o) = M 2 o ∧ g 12 (g 0 o) = o ∧ tk g S M o (g 0 o)) ∧ ∀ o, g 9 1 ≤ o → M 7 o = 0
def A_R (g : GH) (S : DS) (M : MS) : Prop := ∀ r, r < g 9 15 → dK S (g 1 r) = 8 ∧ g 12 (g 1 r) = r ∧ dI S 701 (g 1 r) = M 14 r ∧ isB (M 14 r) ∧ ∃ p, M 13 r = nI p ∧ p < g 9 1 ∧ M 2 p = 0 ∧ dP S 700 (g 1 r) = some (g 0 p)
def A_H (g : GH) (S : DS) (M : MS) : Prop := ∀ h, h < g 9 33 → dK S (g 2 h) = 9 ∧ dI S 800 (g 2 h) = nI h ∧ dI S 801 (g 2 h) = M 31 h ∧ dI S 802 (g 2 h) = M 32 h ∧ (M 31 h = 0 ∨ M 31 h = 1 ∨ M 31 h = 2 ∨ M 31 h = 3 ∨ ((M 31 h = 4 ∨ M 31 h = 5) ∧ ∃ p r, M 32 h = -2 - nI p ∧ p < g 9 1 ∧ M 2 p = 0 ∧ M 6 p = nI r ∧ r < g 9 15 ∧ dP S 803 (g 2 h) = some (g 1 r)))
/-- an element's function: e, its group q, its place i -/
def el (g : GH) (S : DS) (M : MS) (a e q i : Nat) (kd : Int32) : Prop := e = g 15 q + i ∧ i < g 16 q ∧ q < g 9 50 ∧ dK S a = 4 ∧ dP S 300 a = some (g 4 q) ∧ dK S (g 4 q) = 3 ∧ dI S 301 a = nI i ∧ dI S 302 a = (if kd = 4 ∨ kd = 5 then 0 else 1) ∧ dI S 200 (g 4 q) = (if kd = 4 then 0 else if kd = 7 then 2 else 1)
/-- the function x of the class is the reference's (kd, of) -/
def fn (g : GH) (S : DS) (M : MS) (x : Option Nat) (kd f : Int32) : Prop :=
  (kd = 0 ∧ x = none) ∨
  (kd = 1 ∧ ∃ h, f = nI h ∧ h < g 9 33 ∧ x = some (g 2 h)) ∨
  ((kd = 2 ∨ kd = 3) ∧ ∃ r a, f = nI r ∧ r < g 9 15 ∧ x = some a ∧ dK S a = 9 ∧ dI S 800 a = -1 ∧ dI S 801 a = (if kd = 2 then 4 else 5) ∧ dP S 803 a = some (g 1 r)) ∨
  ((kd = 4 ∨ kd = 5 ∨ kd = 6 ∨ kd = 7) ∧ ∃ e a q i, f = nI e ∧ x = some a ∧ el g S M a e q i kd) ∨
  ((kd = 8 ∨ kd = 9) ∧ ∃ h a, f = nI h ∧ h < g 9 33 ∧ x = some a ∧ dK S a = 6 ∧ dP S 500 a = some (g 2 h) ∧ dI S 501 a = (if kd = 8 then 0 else 2)) ∨
  ((kd = 10 ∨ kd = 11) ∧ ∃ n a, f = nI n ∧ n < g 9 42 ∧ g 10 n = 0 ∧ x = some a ∧ dK S a = 9 ∧ dI S 800 a = -1 ∧ dI S 801 a = (if kd = 10 then 0 else 2) ∧ dI S 802 a = M 39 n)
/-- an element that a waiting reaction k holds has not answered -/
def wt (g : GH) (M : MS) (k : Nat) (kd f : Int32) : Prop := (kd = 4 ∨ kd = 5 ∨ kd = 6 ∨ kd = 7) → ∀ e, e < 100000 → f = nI e → M 41 e = 0 ∧ g 8 e = k
def jb (g : GH) (S : DS) (M : MS) (k a : Nat) : Prop :=
  (M 17 k = -1 ∧ dP S 402 a = none ∧ dP S 404 a = none ∧ M 18 k = 12 ∧ M 20 k = 13 ∧ ∃ q, q < g 9 50 ∧ M 19 k = nI q ∧ M 21 k = nI q ∧ dK S (g 4 q) = 2 ∧ dP S 403 a = some (g 4 q)) ∨
  (dP S 403 a = none ∧ dP S 404 a = none ∧ (∃ r, r < g 9 15 ∧ M 17 k = nI r ∧ dP S 402 a = some (g 1 r)) ∧ fn g S M (dP S 400 a) (M 18 k) (M 19 k) ∧ fn g S M (dP S 401 a) (M 20 k) (M 21 k))
def A_K (g : GH) (S : DS) (M : MS) : Prop := ∀ k, k < g 9 22 → dK S (g 3 k) = 5 ∧ g 12 (g 3 k) = k ∧ jb g S M k (g 3 k) ∧ (g 7 (g 3 k) ≠ 0 → wt g M k (M 18 k) (M 19 k) ∧ wt g M k (M 20 k) (M 21 k))
def A_W (g : GH) (w : Nat → List Nat) (S : DS) (M : MS) : Prop := (∀ o, o < g 9 1 → (M 2 o ≠ 0 ∨ M 3 o ≠ 0 → w o = []) ∧ (M 2 o = 0 → lk (M 16) (M 5 o) (w o) ∧ dlk (dP S 407) (dP S 607 (g 0 o)) ((w o).map (g 3)) ∧ dP S 608 (g 0 o) = ((w o).map (g 3)).getLast? ∧ (w o).Nodup ∧ ∀ k, k ∈ w o → k < g 9 22 ∧ g 7 (g 3 k) = 2 * o + 2)) ∧ ∀ o, g 9 1 ≤ o → w o = []
def jq (g : GH) (S : DS) (M : MS) (j a : Nat) : Prop :=
  (M 28 j = 0 ∧ ∃ k, k < g 9 22 ∧ a = g 3 k ∧ dI S 405 a = M 27 j ∧ isB (M 27 j) ∧ dI S 406 a = M 26 j ∧ M 25 j = M 17 k ∧ M 23 j = (if M 27 j = 0 then M 18 k else M 20 k) ∧ M 24 j = (if M 27 j = 0 then M 19 k else M 21 k)) ∨
  (M 28 j = 1 ∧ dP S 403 a = none ∧ ∃ o p b, M 24 j = nI o ∧ o < g 9 1 ∧ (M 2 o = 0 ∨ M 2 o = 1) ∧ M 25 j = nI p ∧ p < g 9 1 ∧ M 2 p = 0 ∧ dP S 404 a = some (g 0 o) ∧ dP S 402 a = some b ∧ dK S b = 8 ∧ dP S 700 b = some (g 0 p) ∧ dI S 701 b = 0 ∧ g 12 b = 100000 + j)
def A_Q (d : Nat) (g : GH) (S : DS) (M : MS) : Prop := dI S 1108 d = nI (g 9 30 - g 9 29) ∧ (g 9 29 = g 9 30 → dP S 1106 d = none ∧ dP S 1107 d = none) ∧ (g 9 29 < g 9 30 → dP S 1106 d = some (g 6 (g 9 29)) ∧ dP S 1107 d = some (g 6 (g 9 30 - 1)) ∧ dP S 407 (g 6 (g 9 30 - 1)) = none) ∧ (∀ j, g 9 29 ≤ j → j + 1 < g 9 30 → dP S 407 (g 6 j) = some (g 6 (j + 1))) ∧ ∀ j, g 9 29 ≤ j → j < g 9 30 → dK S (g 6 j) = 5 ∧ g 7 (g 6 j) = 2 * j + 1 ∧ jq g S M j (g 6 j)
def un41 (M : MS) (f : Nat) : Nat → Nat := fun i => if M 41 (f + i) = 0 then 1 else 0
def gr (g : GH) (S : DS) (M : MS) (q r : Nat) : Prop :=
  (dK S (g 4 q) = 3 ∧ dP S 201 (g 4 q) = some (g 5 q) ∧ dP S 202 (g 4 q) = some (g 1 r) ∧ (∀ i, i < g 16 q → M 41 (g 15 q + i) ≠ 0 → dX S (g 5 q) i = M 39 (g 15 q + i)) ∧ (dI S 200 (g 4 q) = 0 ∨ dI S 200 (g 4 q) = 1 ∨ dI S 200 (g 4 q) = 2 ∨ dI S 200 (g 4 q) = 3) ∧ (dI S 200 (g 4 q) ≠ 3 → dI S 203 (g 4 q) = nI (sumN (un41 M (g 15 q)) (g 16 q)) ∧ (q + 1 ≠ g 14 1 → M 45 q = dI S 203 (g 4 q)))) ∨
  (dK S (g 4 q) = 2 ∧ dP S 100 (g 4 q) = some (g 5 q) ∧ dP S 103 (g 4 q) = some (g 1 r) ∧ dI S 102 (g 4 q) = M 47 q ∧ ((M 48 q = -1 ∧ dP S 101 (g 4 q) = none) ∨ ∃ h, h < g 9 33 ∧ M 48 q = nI h ∧ dP S 101 (g 4 q) = some (g 2 h)) ∧ g 11 q ≤ g 16 q ∧ M 49 q = nI (g 16 q - g 11 q + (if q + 1 = g 14 1 then 1 else 0)) ∧ dI S 104 (g 4 q) = nI (g 16 q - g 11 q) ∧ ∀ i, i < g 16 q → dX S (g 5 q) i = M 39 (g 15 q + i))
def A_G (g : GH) (S : DS) (M : MS) : Prop := ∀ q, q < g 9 50 → M 43 q = nI (g 15 q) ∧ M 44 q = nI (g 16 q) ∧ g 15 q + g 16 q ≤ g 9 42 ∧ (∀ i, i < g 16 q → M 40 (g 15 q + i) = nI q ∧ g 10 (g 15 q + i) = q + 1 ∧ isB (M 41 (g 15 q + i))) ∧ g 12 (g 4 q) = q ∧ dK S (g 5 q) = 20 ∧ dL S (g 5 q) = g 16 q ∧ g 12 (g 5 q) = q + 10 ∧ ∃ r, r < g 9 15 ∧ M 46 q = nI r ∧ gr g S M q r
def Inv (e0 d t x : Nat) (g : GH) (w : Nat → List Nat) (S : DS) (M : MS) : Prop := A_cnt g M ∧ A_bd t x g w M ∧ A_desk e0 d g S ∧ A_log d g S M ∧ A_itm d g S M ∧ A_T g S M ∧ A_R g S M ∧ A_H g S M ∧ A_K g S M ∧ A_W g w S M ∧ A_Q d g S M ∧ A_G g S M
