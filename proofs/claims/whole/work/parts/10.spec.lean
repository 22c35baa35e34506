/-! ===== places of a world ===== -/
theorem g_set {w : va_W} {p : Nat} {x y : Nat × va_E} (h : w[p]? = some x) : (w.set p y)[p]? = some y := List.getElem?_set_self (List.getElem?_eq_some_iff.mp h).1
theorem g_ne {w : va_W} {p q : Nat} {x y : Nat × va_E} (hn : p ≠ q) (h : w[q]? = some x) : (w.set p y)[q]? = some x := by rw [List.getElem?_set_ne hn]; exact h
theorem g_ss (w : va_W) (p : Nat) (x y : Nat × va_E) : (w.set p x).set p y = w.set p y := List.set_set ..
theorem g_sc (w : va_W) {p q : Nat} (x y : Nat × va_E) (z : Nat × va_E) (hn : q ≠ p) : ((w.set p x).set q y).set p z = (w.set p z).set q y := by
  rw [List.set_comm _ _ hn, List.set_set]
theorem g_id {w : va_W} {p : Nat} {x : Nat × va_E} (h : w[p]? = some x) : w.set p x = w := by
  apply List.ext_getElem?
  intro i
  by_cases e : p = i
  · subst e
    rw [List.getElem?_set_self (List.getElem?_eq_some_iff.mp h).1, h]
  · rw [List.getElem?_set_ne e]
/-! ===== contents ===== -/
/-- the first i places of g, behind them f -/
def fl (g f : Nat → Int32) (i : Nat) : Nat → Int32 := fun j => if j < i then g j else f j
theorem fl_0 (g f : Nat → Int32) : fl g f 0 = f := funext fun j => if_neg (Nat.not_lt_zero j)
theorem fl_s {g f : Nat → Int32} {i : Nat} {x : Int32} (h : x = g i) : upd (fl g f i) i x = fl g f (i + 1) := funext fun j => by
  subst h
  unfold upd fl
  by_cases e : j = i
  · subst e
    simp
  · by_cases h : j < i
    · simp [e, h, Nat.lt_succ_of_lt h]
    · simp [e, h, show ¬ j < i + 1 by omega]
theorem fl_in {g f : Nat → Int32} {i j : Nat} (h : j < i) : fl g f i j = g j := if_pos h
theorem fl_out {g f : Nat → Int32} {i j : Nat} (h : i ≤ j) : fl g f i j = f j := if_neg (Nat.not_lt.mpr h)
def n9 (f : Nat → Int32) : Nat → Int32 := fun j => if j < 9 then f j else 0
theorem n9_in {f : Nat → Int32} {j : Nat} (h : j < 9) : n9 f j = f j := if_pos h
theorem n9_eq {f g : Nat → Int32} (h : ∀ j, j < 9 → f j = g j) : n9 f = n9 g := funext fun j => by
  unfold n9
  by_cases e : j < 9
  · rw [if_pos e, if_pos e, h j e]
  · rw [if_neg e, if_neg e]
theorem n9_n9 (f : Nat → Int32) : n9 (n9 f) = n9 f := n9_eq fun j h => n9_in h
/-! ===== numbers ===== -/
theorem i_dn (x : Int32) : x + Int32.ofInt (-1) = x - 1 := by rw [Int32.sub_eq_add_neg]; rfl
theorem i_up (a : Nat) : nI a + Int32.ofInt 1 = nI (a + 1) := nI_1 a
theorem i_z1 : nI 0 - 1 = (-1 : Int32) := by decide
/-- a degree, as Java tells it: one less than the number -/
def dI (d : Nat) : Int32 := nI d - 1
theorem dI_s (d : Nat) : dI (d + 1) = nI d := nI_pred d
theorem dI_0 : dI 0 = (-1 : Int32) := by decide
/-! ===== a recipe's words ===== -/
def dgN (f : Nat → Int32) : Nat → Nat
  | 0 => 0
  | d + 1 => if f d = 0 then dgN f d else d + 1
/-- the degree, one more than Java's -/
def dg (f : Nat → Int32) : Nat := dgN f 9
def hgN (f : Nat → Int32) (x : Int32) : Nat → Int32 → Int32
  | 0, h => h
  | j + 1, h => hgN f x j (h * x + f j)
def hg (f : Nat → Int32) (x : Int32) : Int32 := hgN f x 9 0
def ptN (f : Nat → Int32) : Nat → Nat
  | 0 => 0
  | i + 1 => if f i = 0 then ptN f i else ptN f i + 1
def pt (f : Nat → Int32) : Nat := ptN f 9
theorem ptN_le (f : Nat → Int32) : ∀ i, ptN f i ≤ i
  | 0 => Nat.le_refl 0
  | i + 1 => by
    have := ptN_le f i
    unfold ptN
    split <;> omega
theorem dgN_le (f : Nat → Int32) : ∀ i, dgN f i ≤ i
  | 0 => Nat.le_refl 0
  | i + 1 => by
    have := dgN_le f i
    unfold dgN
    split <;> omega
theorem dg_le (f : Nat → Int32) : dg f ≤ 9 := dgN_le f 9
def pln (f : Nat → Int32) : Bool := decide (0 < dg f ∧ f (dg f - 1) = 1)
def bI (b : Bool) : Int32 := if b then 1 else 0
/-- one division by x less a number, from the power lo on: the places lo .. lo + c - 1 -/
def mvI (x : Int32) (lo : Nat) : Nat → (Nat → Int32) → Nat → Int32
  | 0, f => f
  | c + 1, f => mvI x lo c (upd f (lo + c) (f (lo + c) + x * f (lo + c + 1)))
def mvO (x : Int32) (f : Nat → Int32) : Nat → Nat → Int32
  | 0 => f
  | lo + 1 => mvI x lo (8 - lo) (mvO x f lo)
def mv (f : Nat → Int32) (x : Int32) : Nat → Int32 := mvO x f 8
/-- the sum of the first n products of a power's amount -/
def cvN (f g : Nat → Int32) (t : Nat) : Nat → Int32
  | 0 => 0
  | n + 1 => cvN f g t n + f n * g (t - n)
def cv (f g : Nat → Int32) : Nat → Int32 := fun t => cvN f g t (t + 1)
def spI (x : Int32) (g : Nat → Int32) (mo : Nat) (L : Nat → Int32) : Nat → Nat → Int32
  | 0 => L
  | j + 1 => upd (spI x g mo L j) (mo + j) (spI x g mo L j (mo + j) - x * g j)
/-- division by g of the degree d: c steps are left; the quotient and the leftover so far -/
def spO (g : Nat → Int32) (d : Nat) : Nat → (Nat → Int32) × (Nat → Int32) → (Nat → Int32) × (Nat → Int32)
  | 0, S => S
  | c + 1, (q, L) => spO g d c (upd q c (L (d + c)), spI (L (d + c)) g c L (d + 1))
def sp (f g : Nat → Int32) : (Nat → Int32) × (Nat → Int32) := spO g (dg g - 1) (10 - dg g) (fun _ => 0, n9 f)
def dvN (x : Int32) : Nat → (Nat → Int32) → Int32 → Nat → Int32
  | 0, f, _ => f
  | j + 1, f, c => dvN x j (upd f j c) (c * x + f j)
def dvl (f : Nat → Int32) (x : Int32) : Nat → Int32 := dvN x 9 f 0
def ab (x : Int32) : Nat := x.toInt.natAbs
def ctN (f : Nat → Int32) : Nat → Nat
  | 0 => 0
  | i + 1 => Nat.gcd (ctN f i) (ab (f i))
def ct (f : Nat → Int32) : Nat := ctN f 9
theorem dn_lt (a : Nat) (h : a < 2 ^ 31) : nI a - 1 < nI a := by
  cases a with
  | zero => decide
  | succ a => rw [nI_pred]; exact nI_lt (Nat.lt_succ_self a) h
theorem dI_pos {d : Nat} (h : ¬ dI d < 0) : 0 < d := by
  cases d with
  | zero => exact absurd (by decide) h
  | succ d => exact Nat.succ_pos d
theorem dI_eq {d : Nat} (h : 0 < d) : dI d = nI (d - 1) := by
  cases d with
  | zero => exact absurd h (Nat.lt_irrefl 0)
  | succ d => exact dI_s d
theorem dI_neg {d : Nat} (h : dI d < 0) (hd : d ≤ 9) : d = 0 := by
  cases d with
  | zero => rfl
  | succ d => rw [dI_s] at h; exact absurd h (nI_pos (by omega))
theorem pln_t {f : Nat → Int32} (h : ¬ dI (dg f) < 0) (h1 : f (dg f - 1) = 1) : (1 : Int32) = bI (pln f) := by
  have e : pln f = true := decide_eq_true ⟨dI_pos h, h1⟩
  rw [e]; rfl
theorem pln_a {f : Nat → Int32} (h : dI (dg f) < 0) : (0 : Int32) = bI (pln f) := by
  have h0 := dI_neg h (dg_le f)
  have e : pln f = false := decide_eq_false (fun q => by omega)
  rw [e]; rfl
theorem pln_b {f : Nat → Int32} (h1 : ¬ f (dg f - 1) = 1) : (0 : Int32) = bI (pln f) := by
  have e : pln f = false := decide_eq_false (fun q => h1 q.2)
  rw [e]; rfl
/-! the product, place by place -/
def cvM (f g : Nat → Int32) (i : Nat) : Nat → Int32 := fun t => if t < 9 then cvN f g t (min i (t + 1)) else 0
def cvJ (f g : Nat → Int32) (i s : Nat) : Nat → Int32 := fun t => if t < 9 then cvN f g t (if i ≤ t ∧ t < i + s then i + 1 else min i (t + 1)) else 0
theorem cvM_0 (f g : Nat → Int32) : cvM f g 0 = fun _ => 0 := funext fun t => by
  unfold cvM
  rw [Nat.zero_min]
  split <;> rfl
theorem cvJ_0 (f g : Nat → Int32) (i : Nat) : cvJ f g i 0 = cvM f g i := funext fun t => by
  unfold cvJ cvM
  rw [if_neg (show ¬ (i ≤ t ∧ t < i + 0) by omega)]
theorem cvJ_e {f g : Nat → Int32} {i s : Nat} (h : i + s = 9) : cvJ f g i s = cvM f g (i + 1) := funext fun t => by
  unfold cvJ cvM
  by_cases ht : t < 9
  · rw [if_pos ht, if_pos ht]
    by_cases hi : i ≤ t
    · rw [if_pos ⟨hi, by omega⟩, show min (i + 1) (t + 1) = i + 1 by omega]
    · rw [if_neg (fun q => hi q.1), show min i (t + 1) = min (i + 1) (t + 1) by omega]
  · rw [if_neg ht, if_neg ht]
theorem cvJ_s {f g : Nat → Int32} {i s : Nat} (h : i + s < 9) : upd (cvJ f g i s) (i + s) (cvJ f g i s (i + s) + f i * g s) = cvJ f g i (s + 1) := funext fun t => by
  unfold upd
  by_cases e : t = i + s
  · subst e
    rw [if_pos rfl]
    unfold cvJ
    rw [if_pos h, if_pos h, if_neg (show ¬ (i ≤ i + s ∧ i + s < i + s) by omega), if_pos (show i ≤ i + s ∧ i + s < i + (s + 1) by omega), show min i (i + s + 1) = i by omega]
    show _ = cvN f g (i + s) i + f i * g (i + s - i)
    rw [Nat.add_sub_cancel_left]
  · rw [if_neg e]
    unfold cvJ
    by_cases ht : t < 9
    · rw [if_pos ht, if_pos ht]
      by_cases q : i ≤ t ∧ t < i + s
      · rw [if_pos q, if_pos ⟨q.1, by omega⟩]
      · rw [if_neg q, if_neg (fun q2 => q ⟨q2.1, by omega⟩)]
    · rw [if_neg ht, if_neg ht]
theorem cvM_9 {f g : Nat → Int32} {j : Nat} (h : j < 9) : cvM f g 9 j = n9 (cv f g) j := by
  rw [n9_in h]
  unfold cvM cv
  rw [if_pos h, show min 9 (j + 1) = j + 1 by omega]
/-! sizes -/
theorem ab_le (x : Int32) : ab x ≤ 2147483648 := by
  have h1 := x.toInt_lt
  have h2 := x.le_toInt
  unfold ab
  omega
theorem l_toInt (x : Int32) : x.toInt64.toInt = x.toInt := Int32.toInt_toInt64 x
theorem l_of {y : Int64} {n : Nat} (hn : n < 2 ^ 63) (h : y.toInt = (n : Int)) : y = lN n := by
  apply Int64.toInt_inj.mp
  rw [h, pk_lT hn]
theorem ab_t {x : Int32} (h : 0 ≤ lg_cmp x.toInt64 0) : x.toInt64 = lN (ab x) := by
  rw [lg_cmp_ge, Int64.le_iff_toInt_le, l_toInt] at h
  have h9 : (0 : Int64).toInt = 0 := rfl
  have := ab_le x
  refine l_of (by omega) ?_
  rw [l_toInt]
  unfold ab
  omega
theorem ab_f {x : Int32} (h : ¬ 0 ≤ lg_cmp x.toInt64 0) : -x.toInt64 = lN (ab x) := by
  rw [lg_cmp_ge, Int64.le_iff_toInt_le, l_toInt] at h
  have h9 : (0 : Int64).toInt = 0 := rfl
  have h8 := ab_le x
  have h1 := x.toInt_lt
  have h2 := x.le_toInt
  refine l_of (by omega) ?_
  rw [Int64.toInt_neg, l_toInt]
  unfold ab
  rw [Int.bmod_eq_of_le (by omega) (by omega)]
  omega
/-! Euclid's way -/
theorem eu_s {d r i : Nat} (h0 : 0 < r) (hr : r ≤ d) (h : d * r * 2 ^ i < 2 ^ 66) : d % r ≤ r ∧ r * (d % r) * 2 ^ (i + 1) < 2 ^ 66 := by
  have h1 : d % r < r := Nat.mod_lt d h0
  have h2 : 2 * (d % r) ≤ d := by
    have h3 := Nat.div_add_mod d r
    have h4 : 1 ≤ d / r := Nat.div_pos hr h0
    have h5 : r * 1 ≤ r * (d / r) := Nat.mul_le_mul_left r h4
    omega
  refine ⟨Nat.le_of_lt h1, ?_⟩
  have h6 : r * (d % r) * 2 ^ (i + 1) = r * (2 * (d % r)) * 2 ^ i := by rw [Nat.pow_succ]; ac_rfl
  rw [h6]
  refine Nat.lt_of_le_of_lt (Nat.mul_le_mul_right _ ?_) h
  rw [Nat.mul_comm d r]
  exact Nat.mul_le_mul_left r h2
theorem eu_1 {a b : Nat} (ha : a ≤ 2147483648) (hb : b ≤ 2147483648) (h0 : 0 < b) : a % b ≤ b ∧ b * (a % b) * 2 ^ 1 < 2 ^ 66 := by
  have h1 : a % b < b := Nat.mod_lt a h0
  refine ⟨Nat.le_of_lt h1, ?_⟩
  have h2 : b * (a % b) ≤ 2147483648 * 2147483648 := Nat.mul_le_mul hb (by omega)
  omega
theorem eu_e {d r : Nat} (hr : r ≤ d) (h : d * r * 2 ^ 100 < 2 ^ 66) : r = 0 := by
  rcases Nat.eq_zero_or_pos r with h0 | h0
  · exact h0
  · have h1 : 1 * 1 ≤ d * r := Nat.mul_le_mul (by omega) h0
    have h2 : 1 * 2 ^ 100 ≤ d * r * 2 ^ 100 := Nat.mul_le_mul_right _ (by omega)
    omega
theorem l_z {n : Nat} (hn : n < 2 ^ 63) : lN n = 0 ↔ n = 0 := by
  have := @pk_lEQ n 0 hn (by omega)
  exact this
