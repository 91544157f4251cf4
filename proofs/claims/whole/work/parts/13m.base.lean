/-! the two worlds read and written -/
theorem r_KI {S : DS} {f a : Nat} {x : Int32} : dK (sI S f a x) = dK S := rfl
theorem r_LI {S : DS} {f a : Nat} {x : Int32} : dL (sI S f a x) = dL S := rfl
theorem r_PI {S : DS} {f a : Nat} {x : Int32} : dP (sI S f a x) = dP S := rfl
theorem r_XI {S : DS} {f a : Nat} {x : Int32} : dX (sI S f a x) = dX S := rfl
theorem r_YI {S : DS} {f a : Nat} {x : Int32} : dY (sI S f a x) = dY S := rfl
theorem r_nI {S : DS} {f a : Nat} {x : Int32} : dn (sI S f a x) = dn S := rfl
theorem r_II {S : DS} {f a h b : Nat} {x : Int32} : dI (sI S f a x) h b = if h = f ∧ b = a then x else dI S h b := by
  unfold sI fset dI; dsimp only; grind
theorem r_KP {S : DS} {f a : Nat} {x : Option Nat} : dK (sP S f a x) = dK S := rfl
theorem r_LP {S : DS} {f a : Nat} {x : Option Nat} : dL (sP S f a x) = dL S := rfl
theorem r_IP {S : DS} {f a : Nat} {x : Option Nat} : dI (sP S f a x) = dI S := rfl
theorem r_XP {S : DS} {f a : Nat} {x : Option Nat} : dX (sP S f a x) = dX S := rfl
theorem r_YP {S : DS} {f a : Nat} {x : Option Nat} : dY (sP S f a x) = dY S := rfl
theorem r_nP {S : DS} {f a : Nat} {x : Option Nat} : dn (sP S f a x) = dn S := rfl
theorem r_PP {S : DS} {f a h b : Nat} {x : Option Nat} : dP (sP S f a x) h b = if h = f ∧ b = a then x else dP S h b := by
  unfold sP fset dP; dsimp only; grind
theorem r_KX {S : DS} {a : Nat} {x : Nat → Int32} : dK (sX S a x) = dK S := rfl
theorem r_LX {S : DS} {a : Nat} {x : Nat → Int32} : dL (sX S a x) = dL S := rfl
theorem r_IX {S : DS} {a : Nat} {x : Nat → Int32} : dI (sX S a x) = dI S := rfl
theorem r_PX {S : DS} {a : Nat} {x : Nat → Int32} : dP (sX S a x) = dP S := rfl
theorem r_YX {S : DS} {a : Nat} {x : Nat → Int32} : dY (sX S a x) = dY S := rfl
theorem r_nX {S : DS} {a : Nat} {x : Nat → Int32} : dn (sX S a x) = dn S := rfl
theorem r_XX {S : DS} {a b : Nat} {x : Nat → Int32} : dX (sX S a x) b = if b = a then x else dX S b := rfl
theorem r_KY {S : DS} {a : Nat} {x : Nat → Option Nat} : dK (sY S a x) = dK S := rfl
theorem r_LY {S : DS} {a : Nat} {x : Nat → Option Nat} : dL (sY S a x) = dL S := rfl
theorem r_IY {S : DS} {a : Nat} {x : Nat → Option Nat} : dI (sY S a x) = dI S := rfl
theorem r_PY {S : DS} {a : Nat} {x : Nat → Option Nat} : dP (sY S a x) = dP S := rfl
theorem r_XY {S : DS} {a : Nat} {x : Nat → Option Nat} : dX (sY S a x) = dX S := rfl
theorem r_nY {S : DS} {a : Nat} {x : Nat → Option Nat} : dn (sY S a x) = dn S := rfl
theorem r_YY {S : DS} {a b : Nat} {x : Nat → Option Nat} : dY (sY S a x) b = if b = a then x else dY S b := rfl
theorem r_KO {S : DS} {k b : Nat} : dK (sO S k) b = if b = dn S then k else dK S b := rfl
theorem r_LO {S : DS} {k : Nat} : dL (sO S k) = dL S := rfl
theorem r_IO {S : DS} {k f b : Nat} : dI (sO S k) f b = if b = dn S then 0 else dI S f b := rfl
theorem r_PO {S : DS} {k f b : Nat} : dP (sO S k) f b = if b = dn S then none else dP S f b := rfl
theorem r_XO {S : DS} {k : Nat} : dX (sO S k) = dX S := rfl
theorem r_YO {S : DS} {k : Nat} : dY (sO S k) = dY S := rfl
theorem r_nO {S : DS} {k : Nat} : dn (sO S k) = dn S + 1 := rfl
theorem r_KA {S : DS} {N b : Nat} {x : Nat → Int32} : dK (sAI S N x) b = if b = dn S then 20 else dK S b := rfl
theorem r_LA {S : DS} {N b : Nat} {x : Nat → Int32} : dL (sAI S N x) b = if b = dn S then N else dL S b := rfl
theorem r_IA {S : DS} {N : Nat} {x : Nat → Int32} : dI (sAI S N x) = dI S := rfl
theorem r_PA {S : DS} {N : Nat} {x : Nat → Int32} : dP (sAI S N x) = dP S := rfl
theorem r_XA {S : DS} {N b : Nat} {x : Nat → Int32} : dX (sAI S N x) b = if b = dn S then x else dX S b := rfl
theorem r_YA {S : DS} {N : Nat} {x : Nat → Int32} : dY (sAI S N x) = dY S := rfl
theorem r_nA {S : DS} {N : Nat} {x : Nat → Int32} : dn (sAI S N x) = dn S + 1 := rfl
theorem r_KB {S : DS} {N b : Nat} {x : Nat → Option Nat} : dK (sAO S N x) b = if b = dn S then 21 else dK S b := rfl
theorem r_LB {S : DS} {N b : Nat} {x : Nat → Option Nat} : dL (sAO S N x) b = if b = dn S then N else dL S b := rfl
theorem r_IB {S : DS} {N : Nat} {x : Nat → Option Nat} : dI (sAO S N x) = dI S := rfl
theorem r_PB {S : DS} {N : Nat} {x : Nat → Option Nat} : dP (sAO S N x) = dP S := rfl
theorem r_XB {S : DS} {N : Nat} {x : Nat → Option Nat} : dX (sAO S N x) = dX S := rfl
theorem r_YB {S : DS} {N b : Nat} {x : Nat → Option Nat} : dY (sAO S N x) b = if b = dn S then x else dY S b := rfl
theorem r_nB {S : DS} {N : Nat} {x : Nat → Option Nat} : dn (sAO S N x) = dn S + 1 := rfl
theorem r_m {M : MS} {k i k' i' : Nat} {x : Int32} : mput M k i x k' i' = if k' = k ∧ i' = i then x else M k' i' := by
  unfold mput mset upd
  by_cases h : k' = k <;> by_cases h2 : i' = i <;> simp [h, h2]
theorem r_mf {M : MS} {k i k' : Nat} {x : Int32} (h : k' ≠ k) : mput M k i x k' = M k' := by
  unfold mput mset; rw [if_neg h]
abbrev GH : Type := Nat → Nat → Nat
def gput (g : GH) (k i x : Nat) : GH := fun k' i' => if k' = k ∧ i' = i then x else g k' i'
theorem r_g {g : GH} {k i x k' i' : Nat} : gput g k i x k' i' = if k' = k ∧ i' = i then x else g k' i' := rfl
theorem r_gf {g : GH} {k i x k' : Nat} (h : k' ≠ k) : gput g k i x k' = g k' := by
  funext j; rw [r_g, if_neg (fun e => h e.1)]
/-! sums -/
def sumN (f : Nat → Nat) : Nat → Nat
  | 0 => 0
  | n + 1 => sumN f n + f n
theorem sumN_congr {f h : Nat → Nat} : ∀ {n : Nat}, (∀ i, i < n → f i = h i) → sumN f n = sumN h n
  | 0, _ => rfl
  | n + 1, e => by
    unfold sumN
    rw [sumN_congr (fun i hi => e i (by omega)), e n (by omega)]
theorem sumN_upd {f h : Nat → Nat} {j : Nat} : ∀ {n : Nat}, j < n → (∀ i, i < n → i ≠ j → h i = f i) → sumN h n + f j = sumN f n + h j
  | 0, hj, _ => by omega
  | n + 1, hj, e => by
    unfold sumN
    by_cases hn : j = n
    · subst hn
      rw [sumN_congr (f := h) (h := f) (fun i hi => e i (by omega) (by omega))]
      omega
    · have ih := sumN_upd (n := n) (by omega) (fun i hi hne => e i (by omega) hne)
      rw [e n (by omega) (by omega)]
      omega
theorem sumN_le {f : Nat → Nat} {j : Nat} : ∀ {n : Nat}, j < n → f j ≤ sumN f n
  | 0, hj => by omega
  | n + 1, hj => by
    unfold sumN
    by_cases hn : j = n
    · subst hn; omega
    · have := sumN_le (f := f) (n := n) (j := j) (by omega)
      omega
theorem sumN_bd {f : Nat → Nat} : ∀ {n : Nat}, (∀ i, i < n → f i ≤ 1) → sumN f n ≤ n
  | 0, _ => Nat.le_refl _
  | n + 1, e => by
    unfold sumN
    have := sumN_bd (f := f) (n := n) (fun i hi => e i (by omega))
    have := e n (by omega)
    omega
/-! numbers -/
theorem inb_nI {n N : Nat} (h : n < N) (hN : N < 2 ^ 31) : inb (nI n) N := by
  unfold inb
  rw [nI_toInt (by omega)]
  omega
theorem i22 {x : Int32} : (-2 : Int32) - (-2 - x) = x := by grind
theorem i2 {o : Nat} : (-2 : Int32) - (-2 - nI o) = nI o := i22
theorem i2' {v x : Int32} (h : (-2 : Int32) - v = x) : v = -2 - x := by
  rw [← h, i22]
theorem nI_inj {a b : Nat} (ha : a < 2 ^ 31) (hb : b < 2 ^ 31) (h : nI a = nI b) : a = b := (nI_eq ha hb).mp h
theorem v_inj {a b : Nat} (ha : a < 2 ^ 31) (hb : b < 2 ^ 31) (h : (-2 : Int32) - nI a = -2 - nI b) : a = b := by
  apply nI_inj ha hb
  have e := congrArg (fun x => (-2 : Int32) - x) h
  rwa [i2, i2] at e
theorem nI_m1 {n : Nat} (h : n < 2 ^ 31) : nI n ≠ -1 := by
  intro e
  have := congrArg Int32.toInt e
  rw [nI_toInt h] at this
  have h2 : (-1 : Int32).toInt = -1 := by decide
  omega
/-- v names the object o -/
theorem v_le {o : Nat} (h : o < 2 ^ 30) : (-2 : Int32) - nI o ≤ -2 := by
  rw [Int32.le_iff_toInt_le, Int32.toInt_sub, nI_toInt (by omega)]
  have h2 : (-2 : Int32).toInt = -2 := by decide
  rw [h2]
  have : ((-2 : Int) - (o : Int)).bmod (2 ^ 32) = -2 - (o : Int) := by
    apply Int.bmod_eq_of_le <;> omega
  rw [this]
  omega
theorem v_split (v : Int32) {n : Nat} (hn : n < 2 ^ 30) : (∃ o, o < n ∧ v = -2 - nI o ∧ v ≤ -2 ∧ -2 - v = nI o) ∨ ((v ≤ -2 → nI n ≤ -2 - v ∨ -2 - v < 0)) := by
  by_cases h : v ≤ -2
  · rcases pk_ix (-2 - v) (n := n) (by omega) with h1 | h1 | ⟨j, hj, e⟩
    · exact Or.inr (fun _ => Or.inr h1)
    · exact Or.inr (fun _ => Or.inl h1)
    · exact Or.inl ⟨j, hj, i2' e, h, e⟩
  · exact Or.inr (fun h1 => absurd h1 h)
