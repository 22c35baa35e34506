/-- the rows that there are hold the model's amounts -/
def Rel (n : Nat) (R : Nat → Nat → Int32) (Am : Nat → Int32) : Prop := ∀ i, i < n → R i = mrow Am i
def RelW (n : Nat) (R : Nat → Nat → Int32) (Am : Nat → Int32) : Prop := ∀ i, i < n → ∀ j, j < 9 → R i j = mrow Am i j
def RN (n : Nat) (R : Nat → Nat → Int32) (Am : Nat → Int32) : Nat → Nat → Int32 := fun i => if i < n then mrow Am i else R i
theorem RN_rel (n : Nat) (R : Nat → Nat → Int32) (Am : Nat → Int32) : Rel n (RN n R Am) Am := fun _ h => if_pos h
theorem RN_ok {n : Nat} {R : Nat → Nat → Int32} {Am : Nat → Int32} (h : RelW n R Am) (i j : Nat) (hj : j < 9) : R i j = RN n R Am i j := by
  unfold RN
  by_cases e : i < n
  · rw [if_pos e]; exact h i e j hj
  · rw [if_neg e]
theorem Rel.nrm {n : Nat} {R : Nat → Nat → Int32} {Am : Nat → Int32} (h : Rel n R Am) : ∀ i, i < n → n9 (R i) = R i := fun i hi => by rw [h i hi, mrow_n9]
theorem Rel.w {n : Nat} {R : Nat → Nat → Int32} {Am : Nat → Int32} (h : Rel n R Am) : RelW n R Am := fun i hi j _ => by rw [h i hi]
theorem rw_pt {n m i : Nat} {R : Nat → Nat → Int32} {Am : Nat → Int32} {g g' : Nat → Int32} (h : Rel n R Am) (hm : ∀ q, q < m → q = i ∨ q < n) (hg : ∀ j, j < 9 → g j = g' j) : RelW m (upR R i g) (ptR Am i g') := fun q hq j hj => by
  by_cases e : q = i
  · subst e; rw [upR_s, mrow_pt, n9_in hj]; exact hg j hj
  · rw [upR_n _ _ e, mrow_pn e, h q ((hm q hq).resolve_left e)]
theorem rw_pt2 {n : Nat} {R : Nat → Nat → Int32} {Am : Nat → Int32} {a b : Nat → Int32} (h : Rel n R Am) : RelW (n + 1 + 1) (upR (upR R n a) (n + 1) b) (ptR (ptR Am n a) (n + 1) b) := fun q hq j hj => by
  by_cases e : q = n + 1
  · subst e; rw [upR_s, mrow_pt, n9_in hj]
  · rw [upR_n _ _ e, mrow_pn e]
    by_cases e2 : q = n
    · subst e2; rw [upR_s, mrow_pt, n9_in hj]
    · rw [upR_n _ _ e2, mrow_pn e2, h q (by omega)]
theorem rw_se {n i p : Nat} {x : Int32} {R : Nat → Nat → Int32} {Am : Nat → Int32} (h : Rel n R Am) (hi : i < n) (hp : p < 9) : RelW n (upR R i (upd (R i) p x)) (seR Am i p x) := fun q hq j hj => by
  unfold seR
  rw [mrow_in hj]
  by_cases e : q = i
  · subst e
    rw [upR_s]
    by_cases e2 : j = p
    · subst e2; rw [pk_us, pk_us]
    · rw [pk_un e2, pk_un (by omega), h q hq, mrow_in hj]
  · rw [upR_n _ _ e, pk_un (by omega), h q hq, mrow_in hj]
theorem scF_j {f : Nat → Int32} {x : Int32} {j : Nat} (hj : j < 9) : scF f x j = f j * x := fl_in hj
theorem rw_sc {n i : Nat} {x : Int32} {R : Nat → Nat → Int32} {Am : Nat → Int32} (h : Rel n R Am) (hi : i < n) : RelW n (upR R i (scF (R i) x)) (scR Am i x 9) := fun q hq j hj => by
  rw [mrow_in hj]
  unfold scR
  by_cases e : q = i
  · subst e
    rw [upR_s, scF_j hj, if_pos (by omega), h q hq, mrow_in hj]
  · rw [upR_n _ _ e, if_neg (by omega), h q hq, mrow_in hj]
theorem rw_dr {n i : Nat} {R : Nat → Nat → Int32} {Am : Nat → Int32} (h : Rel n R Am) (hi : i < n) : RelW (n - 1) (dK R i (n - 1)) (drR Am i n) := fun q hq j hj => by
  rw [mrow_in hj]
  unfold drR dK
  by_cases e : i ≤ q ∧ q < n - 1
  · rw [if_pos e, if_pos (by omega), n9_in hj, h (q + 1) (by omega), mrow_in hj]
    congr 1; omega
  · rw [if_neg e, if_neg (by omega), h q (by omega), mrow_in hj]
theorem su_j {f g : Nat → Int32} {j : Nat} (hj : j < 9) : suF f g j = jnR f g 1 j := by
  rw [show suF f g j = f j + g j from fl_in hj]
  show _ = f j + 1 * g j
  rw [Int32.one_mul]
theorem di_j {f g : Nat → Int32} {j : Nat} (hj : j < 9) : diF f g j = jnR f g (-1) j := by
  rw [show diF f g j = f j - g j from fl_in hj]
  show _ = f j + -1 * g j
  rw [Int32.neg_mul, Int32.one_mul, Int32.sub_eq_add_neg]
theorem dr_j {f : Nat → Int32} {j : Nat} (hj : j < 9) : drF f j = deR f j := by
  unfold deR
  by_cases e : j < 8
  · rw [if_pos e, show drF f j = f (j + 1) * nI (j + 1) from fl_in e, Int32.mul_comm]
  · rw [if_neg e]; exact fl_out (by omega)
theorem dgN_cg {f g : Nat → Int32} : ∀ m, (∀ j, j < m → f j = g j) → dgN f m = dgN g m
  | 0, _ => rfl
  | m + 1, h => by
    have ih := dgN_cg m (fun j hj => h j (by omega))
    show (if f m = 0 then dgN f m else m + 1) = (if g m = 0 then dgN g m else m + 1)
    rw [ih, h m (by omega)]
theorem dg_cg {f g : Nat → Int32} (h : ∀ j, j < 9 → f j = g j) : dg f = dg g := dgN_cg 9 h
theorem sc_dg {n i : Nat} {x : Int32} {R : Nat → Nat → Int32} {Am : Nat → Int32} (h : Rel n R Am) (hi : i < n) : dg (scF (R i) x) = dg (mrow (scR Am i x 9) i) := dg_cg fun j hj => by
  have := rw_sc (x := x) h hi i hi j hj
  rw [upR_s] at this; exact this
/-! the chain -/
theorem cvN_z (g : Nat → Int32) (t : Nat) : ∀ m, cvN (fun _ => 0) g t m = 0
  | 0 => rfl
  | m + 1 => by
    show cvN (fun _ => 0) g t m + 0 * g (t - m) = 0
    rw [cvN_z g t m, Int32.zero_mul]; rfl
theorem cv_z (g : Nat → Int32) : cv (fun _ => 0) g = fun _ => 0 := funext fun t => cvN_z g t (t + 1)
theorem n9_z : n9 (fun _ => 0) = fun _ => 0 := funext fun j => by unfold n9; split <;> rfl
theorem upd_z : upd (fun _ => 0) 0 ((0 : Int32) + 0) = fun _ => 0 := funext fun j => by unfold upd; split <;> rfl
theorem chN_z {f g : Nat → Int32} : ∀ c, c ≤ 9 - dg f → chN f g c = fun _ => 0
  | 0, _ => rfl
  | c + 1, h => by
    have ih := chN_z (f := f) (g := g) c (by omega)
    have hf : f (8 - c) = 0 := dg_abv (by omega) (by omega)
    show upd (n9 (cv (chN f g c) g)) 0 (n9 (cv (chN f g c) g) 0 + f (8 - c)) = _
    rw [ih, cv_z, n9_z, hf]; exact upd_z
theorem chD_N {f g : Nat → Int32} : ∀ m, m ≤ 9 → chD f g m (chN f g (9 - m)) = chN f g 9
  | 0, _ => rfl
  | m + 1, h => by
    have ih := chD_N (f := f) (g := g) m (by omega)
    show chD f g m (upd (n9 (n9 (cv (chN f g (9 - (m + 1))) g))) 0 (n9 (n9 (cv (chN f g (9 - (m + 1))) g)) 0 + f m)) = _
    rw [n9_n9, ← ih]
    congr 1
    rw [show 9 - m = (9 - (m + 1)) + 1 by omega]
    show _ = upd (n9 (cv (chN f g (9 - (m + 1))) g)) 0 (n9 (cv (chN f g (9 - (m + 1))) g) 0 + f (8 - (9 - (m + 1))))
    rw [show 8 - (9 - (m + 1)) = m by omega]
theorem ch_eq (f g : Nat → Int32) : chD f g (dg f) (fun _ => 0) = chR f g := by
  have h1 := chD_N (f := f) (g := g) (dg f) (dg_le f)
  rw [chN_z (9 - dg f) (Nat.le_refl _)] at h1
  exact h1
/-! codes -/
theorem isR_ix {n : Nat} (hn : n ≤ 16) {a : Int32} (h : isR n a = true) : ix a < n := by
  obtain ⟨i, hi, rfl⟩ := isR_spec hn h
  rw [ix_nI (by omega)]; exact hi
theorem and_t {a b : Bool} (h : (a && b) = true) : a = true ∧ b = true := by cases a <;> cases b <;> first | exact ⟨rfl, rfl⟩ | exact absurd h (by decide)
theorem eProd_c {n : Nat} (hn : n ≤ 16) {R : Nat → Nat → Int32} {Am : Nat → Int32} (h : Rel n R Am) (a b : Int32) : eProd n R a b = eProd n (mrow Am) a b := by
  unfold eProd
  by_cases q : (isR n a && isR n b) = true
  · rw [if_pos q, if_pos q, h _ (isR_ix hn (and_t q).1), h _ (isR_ix hn (and_t q).2)]
  · rw [if_neg q, if_neg q]
theorem eChain_c {n : Nat} (hn : n ≤ 16) {R : Nat → Nat → Int32} {Am : Nat → Int32} (h : Rel n R Am) (a b : Int32) : eChain n R a b = eChain n (mrow Am) a b := by
  unfold eChain
  by_cases q : (isR n a && isR n b) = true
  · rw [if_pos q, if_pos q, h _ (isR_ix hn (and_t q).1), h _ (isR_ix hn (and_t q).2)]
  · rw [if_neg q, if_neg q]
theorem eDiv_c {n : Nat} (hn : n ≤ 16) {R : Nat → Nat → Int32} {Am : Nat → Int32} (h : Rel n R Am) (a b : Int32) : eDiv n R a b = eDiv n (mrow Am) a b := by
  unfold eDiv
  by_cases q : (isR n a && isR n b) = true
  · rw [if_pos q, if_pos q, h _ (isR_ix hn (and_t q).2)]
  · rw [if_neg q, if_neg q]
theorem eTA_c {n : Nat} (hn : n ≤ 16) {R : Nat → Nat → Int32} {Am : Nat → Int32} (h : Rel n R Am) (a b : Int32) : eTA n R a b = eTA n (mrow Am) a b := by
  unfold eTA
  by_cases q : isR n a = true
  · rw [h _ (isR_ix hn q)]
  · rw [Bool.eq_false_iff.mpr q, Bool.false_and, Bool.false_and]
theorem mdN_c {R R' : Nat → Nat → Int32} : ∀ m, (∀ i, i < m → R i = R' i) → mdN R m = mdN R' m
  | 0, _ => rfl
  | m + 1, h => by
    show mdN R m + dI (dg (R m)) = mdN R' m + dI (dg (R' m))
    rw [mdN_c m (fun i hi => h i (by omega)), h m (by omega)]
theorem mdg_c {n : Nat} {R : Nat → Nat → Int32} {Am : Nat → Int32} (h : Rel n R Am) : mdg R n = mdg (mrow Am) n := by
  unfold mdg; rw [mdN_c n h]
theorem dgH_c {R R' : Nat → Nat → Int32} {q : Int64} : ∀ m, (∀ i, i < m → R i = R' i) → dgH R q m = dgH R' q m
  | 0, _ => rfl
  | m + 1, h => by
    rw [← dgH_s, ← dgH_s, dgH_c m (fun i hi => h i (by omega)), h m (by omega)]
theorem dig_c {n : Nat} {R : Nat → Nat → Int32} {Am : Nat → Int32} (h : Rel n R Am) : dig n R = dig n (mrow Am) := by
  rw [← dig_e, ← dig_e, dgH_c n h]
theorem e1_t {n : Nat} {a : Int32} (h : e1 n a = 0) : isR n a = true := by
  unfold e1 at h
  split at h
  · assumption
  · exact absurd h (by decide)
