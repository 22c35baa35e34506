/-! what a degree says -/
theorem dgN_sp (f : Nat → Int32) : ∀ m, (∀ j, dgN f m ≤ j → j < m → f j = 0) ∧ (0 < dgN f m → ¬ f (dgN f m - 1) = 0)
  | 0 => ⟨fun j _ h => absurd h (Nat.not_lt_zero j), fun h => absurd h (Nat.lt_irrefl 0)⟩
  | m + 1 => by
    have ih := dgN_sp f m
    by_cases h : f m = 0
    · rw [show dgN f (m + 1) = dgN f m from if_pos h]
      refine ⟨fun j h1 h2 => ?_, ih.2⟩
      rcases Nat.lt_or_eq_of_le (Nat.le_of_lt_succ h2) with q | q
      · exact ih.1 j h1 q
      · rw [q]; exact h
    · rw [show dgN f (m + 1) = m + 1 from if_neg h]
      exact ⟨fun j h1 h2 => absurd h2 (by omega), fun _ => h⟩
theorem dg_top {f : Nat → Int32} {d : Nat} (h : dg f = d + 1) : ¬ f d = 0 := by
  have := (dgN_sp f 9).2 (by show 0 < dg f; omega)
  rw [show dgN f 9 = d + 1 from h] at this
  exact this
theorem dg_abv {f : Nat → Int32} {j : Nat} (h : dg f ≤ j) (h9 : j < 9) : f j = 0 := (dgN_sp f 9).1 j h h9
theorem dg_eq {f : Nat → Int32} {d : Nat} (hd : d ≤ 9) (h1 : ∀ j, d ≤ j → j < 9 → f j = 0) (h2 : 0 < d → ¬ f (d - 1) = 0) : dg f = d := by
  rcases Nat.lt_trichotomy (dg f) d with q | q | q
  · exact absurd (dg_abv (f := f) (j := d - 1) (by omega) (by omega)) (h2 (by omega))
  · exact q
  · obtain ⟨e, he⟩ : ∃ e, dg f = e + 1 := ⟨dg f - 1, by omega⟩
    have := dg_le f
    exact absurd (h1 e (by omega) (by omega)) (dg_top he)
theorem ptN_pos (f : Nat → Int32) : ∀ m, 0 < ptN f m ↔ 0 < dgN f m
  | 0 => Iff.rfl
  | m + 1 => by
    have ih := ptN_pos f m
    by_cases h : f m = 0
    · rw [show ptN f (m + 1) = ptN f m from if_pos h, show dgN f (m + 1) = dgN f m from if_pos h]; exact ih
    · rw [show ptN f (m + 1) = ptN f m + 1 from if_neg h, show dgN f (m + 1) = m + 1 from if_neg h]
      exact ⟨fun _ => Nat.succ_pos _, fun _ => Nat.succ_pos _⟩
theorem pt_pos (f : Nat → Int32) : 0 < pt f ↔ 0 < dg f := ptN_pos f 9
theorem pt_le (f : Nat → Int32) : pt f ≤ 9 := ptN_le f 9
/-! one division by x less a number -/
def caN (f : Nat → Int32) (x : Int32) : Nat → Int32
  | 0 => 0
  | i + 1 => caN f x i * x + f (8 - i)
theorem mvI_ge (x : Int32) (lo : Nat) : ∀ (c : Nat) (f : Nat → Int32) (j : Nat), lo + c ≤ j → mvI x lo c f j = f j
  | 0, _, _, _ => rfl
  | c + 1, f, j, h => by
    show mvI x lo c (upd f (lo + c) _) j = f j
    rw [mvI_ge x lo c _ j (by omega)]
    exact pk_un (by omega)
theorem mvI_lt (x : Int32) (lo : Nat) : ∀ (c : Nat) (f : Nat → Int32) (i : Nat), i < c → mvI x lo c f (lo + i) = f (lo + i) + x * mvI x lo c f (lo + i + 1)
  | 0, _, i, h => absurd h (Nat.not_lt_zero i)
  | c + 1, f, i, h => by
    show mvI x lo c (upd f (lo + c) _) (lo + i) = f (lo + i) + x * mvI x lo c (upd f (lo + c) _) (lo + i + 1)
    rcases Nat.lt_or_eq_of_le (Nat.le_of_lt_succ h) with q | q
    · rw [mvI_lt x lo c _ i q, pk_un (by omega)]
    · subst q
      rw [mvI_ge x lo i _ _ (Nat.le_refl _), mvI_ge x lo i _ _ (by omega), pk_us, pk_un (by omega)]
theorem mv8_ca (f : Nat → Int32) (x : Int32) : ∀ i, i < 9 → caN f x (i + 1) = mvI x 0 8 f (8 - i)
  | 0, _ => by
    rw [mvI_ge x 0 8 f _ (by omega)]
    show 0 * x + f 8 = f 8
    rw [Int32.zero_mul, Int32.zero_add]
  | i + 1, h => by
    have ih := mv8_ca f x i (by omega)
    show caN f x (i + 1) * x + f (8 - (i + 1)) = _
    rw [ih]
    have h1 := mvI_lt x 0 8 f (8 - (i + 1)) (by omega)
    rw [Nat.zero_add] at h1
    rw [h1, show 8 - (i + 1) + 1 = 8 - i by omega, Int32.mul_comm, Int32.add_comm]
theorem dvN_ge (x : Int32) : ∀ (j : Nat) (f : Nat → Int32) (c : Int32) (q : Nat), j ≤ q → dvN x j f c q = f q
  | 0, _, _, _, _ => rfl
  | j + 1, f, c, q, h => by
    show dvN x j (upd f j c) _ q = f q
    rw [dvN_ge x j _ _ q (by omega)]
    exact pk_un (by omega)
theorem dvN_ca (f : Nat → Int32) (x : Int32) : ∀ (j : Nat) (g : Nat → Int32), j ≤ 9 → (∀ q, q < j → g q = f q) → ∀ q, q < j → dvN x j g (caN f x (9 - j)) q = caN f x (8 - q)
  | 0, _, _, _, q, h => absurd h (Nat.not_lt_zero q)
  | j + 1, g, hj, hg, q, h => by
    show dvN x j (upd g j (caN f x (9 - (j + 1)))) (caN f x (9 - (j + 1)) * x + g j) q = _
    rcases Nat.lt_or_eq_of_le (Nat.le_of_lt_succ h) with z | z
    · have e : caN f x (9 - (j + 1)) * x + g j = caN f x (9 - j) := by
        rw [hg j (Nat.lt_succ_self j), show 9 - j = (8 - j) + 1 by omega, show 9 - (j + 1) = 8 - j by omega]
        show _ = caN f x (8 - j) * x + f (8 - (8 - j))
        rw [show 8 - (8 - j) = j by omega]
      rw [e]
      exact dvN_ca f x j _ (by omega) (fun q2 h2 => (pk_un (by omega)).trans (hg q2 (by omega))) q z
    · subst z
      rw [dvN_ge x q _ _ q (Nat.le_refl _), pk_us, show 9 - (q + 1) = 8 - q by omega]
theorem dvl_ca {f : Nat → Int32} {x : Int32} {q : Nat} (h : q < 9) : dvl f x q = caN f x (8 - q) := dvN_ca f x 9 f (Nat.le_refl 9) (fun _ _ => rfl) q h
theorem dvl_mv {f : Nat → Int32} {x : Int32} {q : Nat} (h : q < 9) : dvl f x q = if q < 8 then mvI x 0 8 f (q + 1) else 0 := by
  rw [dvl_ca h]
  by_cases h8 : q < 8
  · rw [if_pos h8, show 8 - q = (7 - q) + 1 by omega, mv8_ca f x (7 - q) (by omega), show 8 - (7 - q) = q + 1 by omega]
  · rw [if_neg h8, show 8 - q = 0 by omega]; rfl
theorem hg_ca (f : Nat → Int32) (x : Int32) : ∀ j, j ≤ 9 → hgN f x j (caN f x (9 - j)) = caN f x 9
  | 0, _ => rfl
  | j + 1, h => by
    show hgN f x j (caN f x (9 - (j + 1)) * x + f j) = _
    have e : caN f x (9 - (j + 1)) * x + f j = caN f x (9 - j) := by
      rw [show 9 - j = (8 - j) + 1 by omega, show 9 - (j + 1) = 8 - j by omega]
      show _ = caN f x (8 - j) * x + f (8 - (8 - j))
      rw [show 8 - (8 - j) = j by omega]
    rw [e]
    exact hg_ca f x j (by omega)
theorem ca_0 {f : Nat → Int32} {x : Int32} {d : Nat} (h : ∀ j, d ≤ j → j < 9 → f j = 0) : ∀ i, i + d ≤ 9 → caN f x i = 0
  | 0, _ => rfl
  | i + 1, hi => by
    show caN f x i * x + f (8 - i) = 0
    rw [ca_0 h i (by omega), h (8 - i) (by omega) (by omega), Int32.zero_mul, Int32.zero_add]
theorem dg_dvl {f : Nat → Int32} {x : Int32} {d : Nat} (h : dg f = d + 1) : dg (dvl f x) = d := by
  have h9 := dg_le f
  refine dg_eq (by omega) (fun j h1 h2 => ?_) (fun h0 => ?_)
  · rw [dvl_ca h2]
    exact ca_0 (d := d + 1) (fun j h1 h2 => dg_abv (by omega) h2) _ (by omega)
  · rw [dvl_ca (by omega), show 8 - (d - 1) = (8 - d) + 1 by omega]
    show ¬ caN f x (8 - d) * x + f (8 - (8 - d)) = 0
    rw [ca_0 (d := d + 1) (fun j h1 h2 => dg_abv (by omega) h2) _ (by omega), Int32.zero_mul, Int32.zero_add, show 8 - (8 - d) = d by omega]
    exact dg_top h
theorem hg_low {f : Nat → Int32} (h : dg f ≤ 1) (x : Int32) : hg f x = f 0 := by
  have e : hg f x = caN f x 9 := hg_ca f x 9 (Nat.le_refl 9)
  rw [e]
  show caN f x 8 * x + f (8 - 8) = f 0
  rw [ca_0 (d := 1) (fun j h1 h2 => dg_abv (by omega) h2) 8 (by omega), Int32.zero_mul, Int32.zero_add]
/-! one after the other -/
def tmN (x : Int32) : Nat → (Nat → Int32) × Nat → (Nat → Int32) × Nat
  | 0, S => S
  | t + 1, S => if 0 < pt S.1 ∧ hg S.1 x = 0 then tmN x t (dvl S.1 x, S.2 + 1) else S
def ppN : Nat → (Nat → Int32) → Nat → Nat
  | 0, _, c => c
  | n + 1, f, c => ppN n (tmN (gI (40 - n)) 8 (f, c)).1 (tmN (gI (40 - n)) 8 (f, c)).2
def pp (f : Nat → Int32) : Nat := ppN 41 f 0
theorem tm_no {f : Nat → Int32} (h : dg f ≤ 1) (x : Int32) : ¬ (0 < pt f ∧ hg f x = 0) := fun q => by
  have h1 := (pt_pos f).mp q.1
  have h2 := dg_top (f := f) (d := 0) (by omega)
  exact h2 ((hg_low h x).symm.trans q.2)
theorem tm_stop {f : Nat → Int32} {c : Nat} (h : dg f ≤ 1) (x : Int32) : ∀ t, tmN x t (f, c) = (f, c)
  | 0 => rfl
  | t + 1 => if_neg (tm_no h x)
theorem tm_big (x : Int32) : ∀ (t t' : Nat) (f : Nat → Int32) (c : Nat), dg f ≤ t + 1 → dg f ≤ t' + 1 → tmN x t (f, c) = tmN x t' (f, c)
  | 0, t', f, c, h, _ => by rw [tm_stop h, tm_stop h]
  | t + 1, 0, f, c, _, h => by rw [tm_stop h, tm_stop h]
  | t + 1, t' + 1, f, c, h, h' => by
    show (if 0 < pt f ∧ hg f x = 0 then tmN x t (dvl f x, c + 1) else (f, c)) = (if 0 < pt f ∧ hg f x = 0 then tmN x t' (dvl f x, c + 1) else (f, c))
    by_cases q : 0 < pt f ∧ hg f x = 0
    · rw [if_pos q, if_pos q]
      obtain ⟨d, hd⟩ : ∃ d, dg f = d + 1 := ⟨dg f - 1, by have := (pt_pos f).mp q.1; omega⟩
      have := dg_dvl (x := x) hd
      exact tm_big x t t' _ _ (by omega) (by omega)
    · rw [if_neg q, if_neg q]
theorem pp_low {f : Nat → Int32} (h : dg f ≤ 1) : ∀ (n c : Nat), ppN n f c = c
  | 0, _ => rfl
  | n + 1, c => by
    show ppN n (tmN (gI (40 - n)) 8 (f, c)).1 (tmN (gI (40 - n)) 8 (f, c)).2 = c
    rw [tm_stop h]
    exact pp_low h n c
theorem pp_skip {f : Nat → Int32} {n c : Nat} (h : ¬ hg f (gI (40 - n)) = 0) : ppN (n + 1) f c = ppN n f c := by
  show ppN n (tmN (gI (40 - n)) 8 (f, c)).1 (tmN (gI (40 - n)) 8 (f, c)).2 = _
  rw [show tmN (gI (40 - n)) 8 (f, c) = (f, c) from if_neg (fun q => h q.2)]
theorem pp_div {f : Nat → Int32} {n c : Nat} (hd : 2 ≤ dg f) (h : hg f (gI (40 - n)) = 0) : ppN (n + 1) f c = ppN (n + 1) (dvl f (gI (40 - n))) (c + 1) := by
  have e : tmN (gI (40 - n)) 8 (f, c) = tmN (gI (40 - n)) 8 (dvl f (gI (40 - n)), c + 1) := by
    rw [show tmN (gI (40 - n)) 8 (f, c) = tmN (gI (40 - n)) 7 (dvl f (gI (40 - n)), c + 1) from if_pos ⟨(pt_pos f).mpr (by omega), h⟩]
    obtain ⟨d, hd2⟩ : ∃ d, dg f = d + 1 := ⟨dg f - 1, by omega⟩
    have h1 := dg_dvl (x := gI (40 - n)) hd2
    have h2 := dg_le f
    exact tm_big _ 7 8 _ _ (by omega) (by omega)
  show ppN n (tmN (gI (40 - n)) 8 (f, c)).1 (tmN (gI (40 - n)) 8 (f, c)).2 = ppN n (tmN (gI (40 - n)) 8 (dvl f (gI (40 - n)), c + 1)).1 (tmN (gI (40 - n)) 8 (dvl f (gI (40 - n)), c + 1)).2
  rw [e]
theorem dI_le0 {d : Nat} (h : dI d ≤ 0) (hd : d ≤ 9) : d ≤ 1 := by
  cases d with
  | zero => omega
  | succ d =>
    rw [dI_s] at h
    have := (@nI_leI d 0 (by omega) (by omega)).mp h
    omega
theorem dI_nle0 {d : Nat} (h : ¬ dI d ≤ 0) (hd : d ≤ 9) : 2 ≤ d := by
  rcases Nat.lt_or_ge d 2 with q | q
  · have : d = 0 ∨ d = 1 := by omega
    rcases this with rfl | rfl <;> exact absurd (by decide) h
  · exact q
theorem gI_gt {j : Nat} (hj : j ≤ 41) (h : (20 : Int32) < gI j) : j = 41 := by
  rcases Nat.lt_or_eq_of_le hj with q | q
  · exact absurd h (gI_le j q)
  · exact q
theorem gI_lt41 {j : Nat} (hj : j ≤ 41) (h : ¬ (20 : Int32) < gI j) : j < 41 := by
  rcases Nat.lt_or_eq_of_le hj with q | q
  · exact q
  · subst q; exact absurd gI_41 h
theorem dn8 {G : Nat → Int32} {f : Nat → Int32} {x : Int32} (hG : G = mvI x 0 8 f) {q : Nat} (h : q < 9) : upd (fl (fun q => G (q + 1)) G 8) 8 0 q = dvl f x q := by
  subst hG
  rw [dvl_mv h]
  by_cases h8 : q < 8
  · rw [if_pos h8, pk_un (by omega), fl_in h8]
  · rw [if_neg h8, show q = 8 by omega, pk_us]
/-! shifts -/
theorem mvI_0 (lo : Nat) : ∀ (c : Nat) (f : Nat → Int32), mvI 0 lo c f = f
  | 0, _ => rfl
  | c + 1, f => by
    show mvI 0 lo c (upd f (lo + c) (f (lo + c) + 0 * f (lo + c + 1))) = f
    have e : upd f (lo + c) (f (lo + c) + 0 * f (lo + c + 1)) = f := funext fun j => by
      unfold upd
      by_cases h : j = lo + c
      · subst h; rw [if_pos rfl, Int32.zero_mul, Int32.add_zero]
      · rw [if_neg h]
    rw [e]
    exact mvI_0 lo c f
theorem mvO_0 (f : Nat → Int32) : ∀ n, mvO 0 f n = f
  | 0 => rfl
  | n + 1 => by
    show mvI 0 n (8 - n) (mvO 0 f n) = f
    rw [mvI_0, mvO_0 f n]
theorem mv_0 (f : Nat → Int32) : mv f 0 = f := mvO_0 f 8
def bsI (f : Nat → Int32) (x : Int32) (S : Int32 × Nat) : Int32 × Nat := if pt (mv f x) < S.2 then (x, pt (mv f x)) else S
def bsN (f : Nat → Int32) : Nat → Int32 × Nat
  | 0 => (0, pt f)
  | i + 1 => bsI f (-1 * nI (i + 1)) (bsI f (1 * nI (i + 1)) (bsN f i))
def bs (f : Nat → Int32) : Int32 := (bsN f 20).1
def bsS (f : Nat → Int32) : Nat → Int32 × Nat
  | 0 => (0, 99)
  | i + 1 => bsN f i
theorem bsS_s (f : Nat → Int32) : ∀ i, bsS f (i + 1) = bsI f (-1 * nI i) (bsI f (1 * nI i) (bsS f i))
  | 0 => by
    have h := pt_le f
    show (0, pt f) = bsI f (-1 * nI 0) (bsI f (1 * nI 0) (0, 99))
    rw [show -1 * nI 0 = (0 : Int32) by decide, show 1 * nI 0 = (0 : Int32) by decide]
    unfold bsI
    rw [mv_0, if_pos (show pt f < 99 by omega)]
    exact (if_neg (Nat.lt_irrefl _)).symm
  | i + 1 => rfl
theorem bsI_le {f : Nat → Int32} {x : Int32} {S : Int32 × Nat} (h : S.2 ≤ 99) : (bsI f x S).2 ≤ 99 := by
  unfold bsI
  have := pt_le (mv f x)
  split
  · show pt (mv f x) ≤ 99; omega
  · exact h
theorem bsS_le (f : Nat → Int32) : ∀ i, (bsS f i).2 ≤ 99
  | 0 => Nat.le_refl 99
  | i + 1 => by rw [bsS_s]; exact bsI_le (bsI_le (bsS_le f i))
theorem bs_t {f : Nat → Int32} {x : Int32} {S : Int32 × Nat} (h : S.2 ≤ 99) (c : nI (ptN (mv f x) 9) < nI S.2) : bsI f x S = (x, pt (mv f x)) := by
  have h1 := pt_le (mv f x)
  exact if_pos ((nI_ltI (show ptN (mv f x) 9 < 2 ^ 31 by have : ptN (mv f x) 9 ≤ 9 := h1; omega) (by omega)).mp c)
theorem bs_f {f : Nat → Int32} {x : Int32} {S : Int32 × Nat} (h : S.2 ≤ 99) (c : ¬ nI (ptN (mv f x) 9) < nI S.2) : bsI f x S = S := by
  have h1 := pt_le (mv f x)
  exact if_neg fun q => c ((nI_ltI (show ptN (mv f x) 9 < 2 ^ 31 by have : ptN (mv f x) 9 ≤ 9 := h1; omega) (by omega)).mpr q)
/-! the mean degree -/
def sdN (R : Nat → Nat → Int32) : Nat → Nat
  | 0 => 0
  | i + 1 => sdN R i + dg (R i)
theorem sdN_le (R : Nat → Nat → Int32) : ∀ i, sdN R i ≤ 9 * i
  | 0 => Nat.le_refl 0
  | i + 1 => by
    have h1 := sdN_le R i
    have h2 := dg_le (R i)
    show sdN R i + dg (R i) ≤ _
    omega
theorem mdN_sd (R : Nat → Nat → Int32) : ∀ i, mdN R i = nI (sdN R i) - nI i
  | 0 => by show (0 : Int32) = nI 0 - nI 0; decide
  | i + 1 => by
    show mdN R i + dI (dg (R i)) = nI (sdN R i + dg (R i)) - nI (i + 1)
    rw [mdN_sd R i, ← nI_add, ← nI_1]
    unfold dI
    rw [Int32.sub_eq_add_neg, Int32.sub_eq_add_neg, Int32.sub_eq_add_neg, Int32.neg_add, Int32.sub_eq_add_neg]
    generalize nI (sdN R i) = a1
    generalize nI (dg (R i)) = a2
    generalize -nI i = a3
    generalize (-1 : Int32) = a4
    rw [Int32.add_assoc, Int32.add_assoc, ← Int32.add_assoc a3 a2 a4, Int32.add_comm a3 a2, Int32.add_assoc]
def mdg (R : Nat → Nat → Int32) (n : Nat) : UInt64 := if n = 0 then 0 else FP.ddiv (FP.i2d (mdN R n)) (FP.i2d (nI n))
theorem md_n64 {R : Nat → Nat → Int32} {n : Nat} (hn : n ≤ 16) (h0 : 0 < n) : vf_n64 (FP.ddiv (FP.i2d (mdN R n)) (FP.i2d (nI n))) := by
  rw [mdN_sd]
  have := sdN_le R n
  exact md_dec n (by omega) h0 _ (by omega)
set_option maxHeartbeats 4000000 in
set_option maxRecDepth 100000 in
/-- parts -/
theorem m_X3_parts (l : Launch) (D : va_G) (k : Nat → ClassId) {md : Nat → Nat} {th : Int32} {n : Nat} {Am Wk Mo : Nat → Int32} {v cp : Nat} {bt : Nat → Int32} {ml cn : Int32} {Y : va_W} {i : Nat} (hi : i < 16) : CtI l D k yX3_parts (wU yX3_parts cX3_parts 5 (some .int)) (rmL 2 0 0) [.ref (md 0), .int (nI i)] (MW k md th (nI n) Am Wk Mo v cp bt ml cn Y) (fun r w' => r = nI (pp (mrow Am i)) ∧ ∃ Wk', w' = (MW k md th (nI n) Am Wk' Mo v cp bt ml cn Y)) := by
  refine openI (own := RX3) rfl (by decide) (Nat.le_of_ble_eq_true rfl) rfl ?_
  intro p e s m args below meth c A C hrt9 hnm
  obtain ⟨Q, hQ⟩ : ∃ Q, Q = (MQ below (va_Qi (fun r w' => r = nI (pp (mrow Am i)) ∧ ∃ Wk', w' = (MW k md th (nI n) Am Wk' Mo v cp bt ml cn Y)) (cBA D A) A) args s 0 0 A) := ⟨_, rfl⟩
  show WP p l e (rmL 2 0 0) s m args below meth c D A 5 (MW k md th (nI n) Am Wk Mo v cp bt ml cn Y) [(0, .ref (md 0)), (1, .int (nI i))] 0 0 (MQ below (va_Qi (fun r w' => r = nI (pp (mrow Am i)) ∧ ∃ Wk', w' = (MW k md th (nI n) Am Wk' Mo v cp bt ml cn Y)) (cBA D A) A) args s 0 0 A) 0 []
  rw [← hQ]
  refine p_aload_n C rfl 0 rfl dX3_parts_0 ?_
  refine p_iload_n C rfl 1 rfl dX3_parts_1 ?_
  refine p_aload_n C rfl 0 rfl dX3_parts_2 ?_
  refine p_get (v := .ref (md 2)) (T := TX3) C 0 rfl rfl 3 (by decide) inX3 qfl_X3_13 (fun _ h9 => h9) rfl dX3_parts_3 ?_
  refine c_Vv (As := [.int (nI i), .ref (md 2)]) (rest := []) C (m_X3_take l D k (i := i) (by omega)) 0 rfl rfl rfl qml_X3_55 qim_X3_take qse_X3_X3_take qin_X3 qco_X3_take nd_X3_take ⟨Nat.le_of_ble_eq_true rfl, Nat.le_of_ble_eq_true rfl⟩ (Nat.le_of_ble_eq_true rfl) ⟨Nat.le_of_ble_eq_true rfl, Nat.le_of_ble_eq_true rfl⟩ rfl dX3_parts_6 (fun w9 h9 => ?_)
  obtain rfl := h9
  refine p_iconst (v := (nI 0)) C (by decide) dX3_parts_9 ?_
  refine p_istore_n (lv9 := [(2, .int (nI 0)), (0, .ref (md 0)), (1, .int (nI i))]) C rfl (by decide) rfl dX3_parts_10 ?_
  refine p_bipush (v := (gI 0)) C (by decide) dX3_parts_11 ?_
  refine p_istore_n (lv9 := [(3, .int (gI 0)), (2, .int (nI 0)), (0, .ref (md 0)), (1, .int (nI i))]) C rfl (by decide) rfl dX3_parts_13 ?_
  refine p_lv (lv9 := [(0, .ref (md 0)), (1, .int (nI i)), (2, .int (nI 0)), (3, .int (gI 0))]) [2, 3, 1, 0] rfl ?_
  have lp14 : ∀ (n14 : Nat) (F : Nat → Int32) (j c9 : Nat), (hm : 41 - j + dg F ≤ n14) → (hj : j ≤ 41) → (hI : pp (mrow Am i) = ppN (41 - j) F c9) → WP p l e (rmL 2 0 0) s m args below meth c D A 5 (MW k md th (nI n) Am F Mo v cp bt ml cn Y) [(0, .ref (md 0)), (1, .int (nI i)), (2, .int (nI c9)), (3, .int (gI j))] 0 0 Q 14 [] := by
    intro n14
    induction n14 with
    | zero =>
      intro F j c9 hm hj hI
      obtain rfl : j = 41 := by omega
      refine p_iload_n C rfl 3 rfl dX3_parts_14 ?_
      refine p_bipush (v := 20) C (by decide) dX3_parts_15 ?_
      refine p_icmp_gt C 102 (by decide) dX3_parts_17 (fun c_17 => ?_) (fun c_17 => absurd gI_41 c_17)
      refine p_iload_n C rfl 2 rfl dX3_parts_102 ?_
      rw [hQ]
      exact r_i C hrt9 (⟨by rw [hI]; rfl, _, rfl⟩) (by decide) (by decide) dX3_parts_103
    | succ n14 ih14 =>
      intro F j c9 hm hj hI
      have hdF := dg_le F
      refine p_iload_n C rfl 3 rfl dX3_parts_14 ?_
      refine p_bipush (v := 20) C (by decide) dX3_parts_15 ?_
      refine p_icmp_gt C 102 (by decide) dX3_parts_17 (fun c_17 => ?_) (fun c_17 => ?_)
      · obtain rfl : j = 41 := gI_gt hj c_17
        refine p_iload_n C rfl 2 rfl dX3_parts_102 ?_
        rw [hQ]
        exact r_i C hrt9 (⟨by rw [hI]; rfl, _, rfl⟩) (by decide) (by decide) dX3_parts_103
      · have hj2 := gI_lt41 hj c_17
        refine p_aload_n C rfl 0 rfl dX3_parts_20 ?_
        refine p_get (v := .ref (md 2)) (T := TX3) C 0 rfl rfl 3 (by decide) inX3 qfl_X3_13 (fun _ h9 => h9) rfl dX3_parts_21 ?_
        refine c_Si (As := [.ref (md 2)]) (rest := []) C (m_X3_degree l D k (u := 2)  rfl) qml_X3_161 qst_X3_degree qin_X3 qco_X3_degree nd_X3_degree ⟨Nat.le_of_ble_eq_true rfl, Nat.le_of_ble_eq_true rfl⟩ (Nat.le_of_ble_eq_true rfl) ⟨Nat.le_of_ble_eq_true rfl, Nat.le_of_ble_eq_true rfl⟩ rfl dX3_parts_24 (fun r9 w9 h9 => ?_)
        obtain ⟨rfl, rfl⟩ := h9
        refine p_if_le C 102 (by decide) dX3_parts_27 (fun c_27 => ?_) (fun c_27 => ?_)
        · have hd1 := dI_le0 c_27 hdF
          refine p_iload_n C rfl 2 rfl dX3_parts_102 ?_
          rw [hQ]
          exact r_i C hrt9 (⟨by rw [hI, pp_low hd1], _, rfl⟩) (by decide) (by decide) dX3_parts_103
        · have hd2 := dI_nle0 c_27 hdF
          refine p_aload_n C rfl 0 rfl dX3_parts_30 ?_
          refine p_get (v := .ref (md 2)) (T := TX3) C 0 rfl rfl 3 (by decide) inX3 qfl_X3_13 (fun _ h9 => h9) rfl dX3_parts_31 ?_
          refine p_iload_n C rfl 3 rfl dX3_parts_34 ?_
          refine c_Si (As := [.ref (md 2), .int (gI j)]) (rest := []) C (m_X3_eat l D k (u := 2) (x := (gI j)) rfl) qml_X3_58 qst_X3_eat qin_X3 qco_X3_eat nd_X3_eat ⟨Nat.le_of_ble_eq_true rfl, Nat.le_of_ble_eq_true rfl⟩ (Nat.le_of_ble_eq_true rfl) ⟨Nat.le_of_ble_eq_true rfl, Nat.le_of_ble_eq_true rfl⟩ rfl dX3_parts_35 (fun r9 w9 h9 => ?_)
          obtain ⟨rfl, rfl⟩ := h9
          refine p_if_eq C 47 (by decide) dX3_parts_38 (fun c_38 => ?_) (fun c_38 => ?_)
          · refine p_aload_n C rfl 0 rfl dX3_parts_47 ?_
            refine p_get (v := .ref (md 2)) (T := TX3) C 0 rfl rfl 3 (by decide) inX3 qfl_X3_13 (fun _ h9 => h9) rfl dX3_parts_48 ?_
            refine p_iload_n C rfl 3 rfl dX3_parts_51 ?_
            refine p_iconst (v := 0) C (by decide) dX3_parts_52 ?_
            refine c_Sv (As := [.ref (md 2), .int (gI j), .int 0]) (rest := []) C (m_X3_divideBy l D k (u := 2) (x := (gI j)) (i := 0) rfl (by omega)) qml_X3_62 qst_X3_divideBy qin_X3 qco_X3_divideBy nd_X3_divideBy ⟨Nat.le_of_ble_eq_true rfl, Nat.le_of_ble_eq_true rfl⟩ (Nat.le_of_ble_eq_true rfl) ⟨Nat.le_of_ble_eq_true rfl, Nat.le_of_ble_eq_true rfl⟩ rfl dX3_parts_53 (fun w9 h9 => ?_)
            obtain rfl := h9
            refine p_w (w9 := (MW k md th (nI n) Am (mvI (gI j) 0 (8 - 0) F) Mo v cp bt ml cn Y)) (rfl) ?_
            refine p_iconst (v := 0) C (by decide) dX3_parts_56 ?_
            refine p_istore (lv9 := [(4, .int 0), (0, .ref (md 0)), (1, .int (nI i)), (2, .int (nI c9)), (3, .int (gI j))]) C (by decide) rfl dX3_parts_57 ?_
            refine p_w (w9 := (MW k md th (nI n) Am (fl (fun q => (mvI (gI j) 0 8 F) (q + 1)) (mvI (gI j) 0 8 F) 0) Mo v cp bt ml cn Y)) (by rw [fl_0]) ?_
            refine p_lv (lv9 := [(0, .ref (md 0)), (1, .int (nI i)), (2, .int (nI c9)), (3, .int (gI j)), (4, .int 0)]) [1, 2, 3, 4, 0] rfl ?_
            have lp59 : ∀ (n59 : Nat) (q9 : Nat), (hq9 : q9 + n59 = 8) → WP p l e (rmL 2 0 0) s m args below meth c D A 5 (MW k md th (nI n) Am (fl (fun q => (mvI (gI j) 0 8 F) (q + 1)) (mvI (gI j) 0 8 F) q9) Mo v cp bt ml cn Y) [(0, .ref (md 0)), (1, .int (nI i)), (2, .int (nI c9)), (3, .int (gI j)), (4, .int (nI q9))] 0 0 Q 59 [] := by
              intro n59
              induction n59 with
              | zero =>
                intro q9 hq9
                obtain rfl : q9 = 8 := by omega
                refine p_iload C 4 rfl dX3_parts_59 ?_
                refine p_bipush (v := 8) C (by decide) dX3_parts_61 ?_
                refine p_icmp_ge C 88 (by decide) dX3_parts_63 (fun c_63 => ?_) (fun c_63 => absurd c_63 (by decide))
                refine p_aload_n C rfl 0 rfl dX3_parts_88 ?_
                refine p_get (v := .ref (md 2)) (T := TX3) C 0 rfl rfl 3 (by decide) inX3 qfl_X3_13 (fun _ h9 => h9) rfl dX3_parts_89 ?_
                refine p_bipush (v := (nI 8)) C (by decide) dX3_parts_92 ?_
                refine p_iconst (v := 0) C (by decide) dX3_parts_94 ?_
                refine p_iast (w9 := (MW k md th (nI n) Am (upd (fl (fun q => (mvI (gI j) 0 8 F) (q + 1)) (mvI (gI j) 0 8 F) 8) 8 0) Mo v cp bt ml cn Y)) C 2 rfl (vp_in_nI (n := 8) (N := 9) (by omega) (by omega)) (by rw [show ((nI 8)).toNatClampNeg = 8 from nI_clamp (by omega)]; exact rfl) dX3_parts_95 ?_
                refine p_arr (n := 9) (w9 := (MW k md th (nI n) Am (dvl F (gI j)) Mo v cp bt ml cn Y)) 2 rfl (dvl F (gI j)) (fun q hq => dn8 rfl hq) rfl ?_
                refine p_iinc (lv9 := [(2, .int (nI (c9 + 1))), (0, .ref (md 0)), (1, .int (nI i)), (3, .int (gI j)), (4, .int (nI 8))]) (v := (nI (c9 + 1))) C (j := 2) rfl (i_up c9) (by decide) rfl dX3_parts_96 ?_
                refine p_goto C 14 (by decide) dX3_parts_99 ?_
                refine p_lv (lv9 := [(0, .ref (md 0)), (1, .int (nI i)), (2, .int (nI (c9 + 1))), (3, .int (gI j))]) [1, 2, 0, 3] rfl ?_
                exact ih14 (dvl F (gI j)) j (c9 + 1) (by rw [dg_dvl (d := dg F - 1) (by omega)]; omega) hj (hI.trans (by have e9 := pp_div (f := F) (n := 40 - j) (c := c9) hd2 (by rw [show 40 - (40 - j) = j by omega]; exact c_38); rw [show 40 - (40 - j) = j by omega, show 40 - j + 1 = 41 - j by omega] at e9; exact e9))
              | succ n59 ih59 =>
                intro q9 hq9
                have hq8 : q9 < 8 := by omega
                refine p_iload C 4 rfl dX3_parts_59 ?_
                refine p_bipush (v := 8) C (by decide) dX3_parts_61 ?_
                refine p_icmp_ge C 88 (by decide) dX3_parts_63 (fun c_63 => absurd c_63 (nI_ge (b := 8) hq8 (by decide))) (fun c_63 => ?_)
                refine p_aload_n C rfl 0 rfl dX3_parts_66 ?_
                refine p_get (v := .ref (md 2)) (T := TX3) C 0 rfl rfl 3 (by decide) inX3 qfl_X3_13 (fun _ h9 => h9) rfl dX3_parts_67 ?_
                refine p_iload C 4 rfl dX3_parts_70 ?_
                refine p_aload_n C rfl 0 rfl dX3_parts_72 ?_
                refine p_get (v := .ref (md 2)) (T := TX3) C 0 rfl rfl 3 (by decide) inX3 qfl_X3_13 (fun _ h9 => h9) rfl dX3_parts_73 ?_
                refine p_iload C 4 rfl dX3_parts_76 ?_
                refine p_iconst (v := 1) C (by decide) dX3_parts_78 ?_
                refine p_iadd C dX3_parts_79 ?_
                refine p_int (y := (nI (q9 + 1))) (nI_1 q9) ?_
                refine p_iald (v := ((fl (fun q => (mvI (gI j) 0 8 F) (q + 1)) (mvI (gI j) 0 8 F) q9) (q9 + 1))) C 2 rfl (vp_in_nI (n := (q9 + 1)) (N := 9) (by omega) (by omega)) (by rw [show ((nI (q9 + 1))).toNatClampNeg = (q9 + 1) from nI_clamp (by omega)]) dX3_parts_80 ?_
                refine p_iast (w9 := (MW k md th (nI n) Am (fl (fun q => (mvI (gI j) 0 8 F) (q + 1)) (mvI (gI j) 0 8 F) (q9 + 1)) Mo v cp bt ml cn Y)) C 2 rfl (vp_in_nI (n := q9) (N := 9) (by omega) (by omega)) (by rw [show ((nI q9)).toNatClampNeg = q9 from nI_clamp (by omega), show upd (fl (fun q => (mvI (gI j) 0 8 F) (q + 1)) (mvI (gI j) 0 8 F) q9) q9 ((fl (fun q => (mvI (gI j) 0 8 F) (q + 1)) (mvI (gI j) 0 8 F) q9) (q9 + 1)) = (fl (fun q => (mvI (gI j) 0 8 F) (q + 1)) (mvI (gI j) 0 8 F) (q9 + 1)) from fl_s (fl_out (by omega))]; exact rfl) dX3_parts_81 ?_
                refine p_iinc (lv9 := [(4, .int (nI (q9 + 1))), (0, .ref (md 0)), (1, .int (nI i)), (2, .int (nI c9)), (3, .int (gI j))]) (v := (nI (q9 + 1))) C (j := 4) rfl (i_up q9) (by decide) rfl dX3_parts_82 ?_
                refine p_goto C 59 (by decide) dX3_parts_85 ?_
                refine p_lv (lv9 := [(0, .ref (md 0)), (1, .int (nI i)), (2, .int (nI c9)), (3, .int (gI j)), (4, .int (nI (q9 + 1)))]) [1, 2, 3, 4, 0] rfl ?_
                exact ih59 (q9 + 1) (by omega)
            exact lp59 8 0 rfl
          · refine p_iinc (lv9 := [(3, .int (gI (j + 1))), (0, .ref (md 0)), (1, .int (nI i)), (2, .int (nI c9))]) (v := (gI (j + 1))) C (j := 3) rfl (gI_s j) (by decide) rfl dX3_parts_41 ?_
            refine p_goto C 14 (by decide) dX3_parts_44 ?_
            refine p_lv (lv9 := [(0, .ref (md 0)), (1, .int (nI i)), (2, .int (nI c9)), (3, .int (gI (j + 1)))]) [1, 2, 3, 0] rfl ?_
            exact ih14 F (j + 1) c9 (by omega) (by omega) (hI.trans (by rw [show 41 - j = (40 - j) + 1 by omega, show 41 - (j + 1) = 40 - j by omega]; exact pp_skip (by rw [show 40 - (40 - j) = j by omega]; exact c_38)))
  exact lp14 (41 - 0 + dg (mrow Am i)) _ 0 0 (Nat.le_refl _) (by omega) rfl
set_option maxHeartbeats 4000000 in
set_option maxRecDepth 100000 in
/-- X3_plainParts -/
theorem m_X3_plainParts (l : Launch) (D : va_G) (k : Nat → ClassId) {md : Nat → Nat} {th : Int32} {n : Nat} {Am Wk Mo : Nat → Int32} {v cp : Nat} {bt : Nat → Int32} {ml cn : Int32} {Y : va_W} (hn : n ≤ 16) {rc : Int32} : CtI l D k yX3_plainParts (wU yX3_plainParts cX3_plainParts 2 (some .int)) (rmL 4 0 0) [.ref (md 0), .int rc] (MW k md th (nI n) Am Wk Mo v cp bt ml cn Y) (fun r w' => ∃ Wk' Mo' : Nat → Int32, w' = (MW k md (e1 n rc) (nI n) Am Wk' Mo' v cp bt ml cn Y) ∧ ((e1 n rc) = 0 → r = nI (pp (mrow Am (ix rc))))) := by
  refine openI (own := RX3) rfl (by decide) (Nat.le_of_ble_eq_true rfl) rfl ?_
  intro p e s m args below meth c A C hrt9 hnm
  obtain ⟨Q, hQ⟩ : ∃ Q, Q = (MQ below (va_Qi (fun r w' => ∃ Wk' Mo' : Nat → Int32, w' = (MW k md (e1 n rc) (nI n) Am Wk' Mo' v cp bt ml cn Y) ∧ ((e1 n rc) = 0 → r = nI (pp (mrow Am (ix rc))))) (cBA D A) A) args s 0 0 A) := ⟨_, rfl⟩
  show WP p l e (rmL 4 0 0) s m args below meth c D A 2 (MW k md th (nI n) Am Wk Mo v cp bt ml cn Y) [(0, .ref (md 0)), (1, .int rc)] 0 0 (MQ below (va_Qi (fun r w' => ∃ Wk' Mo' : Nat → Int32, w' = (MW k md (e1 n rc) (nI n) Am Wk' Mo' v cp bt ml cn Y) ∧ ((e1 n rc) = 0 → r = nI (pp (mrow Am (ix rc))))) (cBA D A) A) args s 0 0 A) 0 []
  rw [← hQ]
  refine p_aload_n C rfl 0 rfl dX3_plainParts_0 ?_
  refine p_iconst (v := 0) C (by decide) dX3_plainParts_1 ?_
  refine p_put (w9 := (MW k md 0 (nI n) Am Wk Mo v cp bt ml cn Y)) (v := .int 0) (T := TX3) C tyX3 tyX3_ok nmX3 0 rfl rfl 0 (by decide) inX3 qfl_X3_26 (fun _ h9 => h9) rfl rfl rfl (Nat.le_of_ble_eq_true rfl) rfl dX3_plainParts_2 ?_
  refine p_aload_n C rfl 0 rfl dX3_plainParts_5 ?_
  refine p_iload_n C rfl 1 rfl dX3_plainParts_6 ?_
  refine c_Vi (As := [.int rc]) (rest := []) C (m_X3_isRecipe l D k (x := rc)) 0 rfl rfl rfl qml_X3_73 qim_X3_isRecipe qse_X3_X3_isRecipe qin_X3 qco_X3_isRecipe nd_X3_isRecipe ⟨Nat.le_of_ble_eq_true rfl, Nat.le_of_ble_eq_true rfl⟩ (Nat.le_of_ble_eq_true rfl) ⟨Nat.le_of_ble_eq_true rfl, Nat.le_of_ble_eq_true rfl⟩ rfl dX3_plainParts_7 (fun r9 w9 h9 => ?_)
  obtain ⟨e9, rfl⟩ := h9
  refine p_int e9 ?_
  refine p_if_eq C 21 (by decide) dX3_plainParts_10 (fun c_10 => ?_) (fun c_10 => ?_)
  · have hr := bI_eq c_10
    refine p_aload_n C rfl 0 rfl dX3_plainParts_21 ?_
    refine p_iconst (v := 1) C (by decide) dX3_plainParts_22 ?_
    refine c_Vi (As := [.int 1]) (rest := []) C (m_X3_no l D k (x := 1)) 0 rfl rfl rfl qml_X3_66 qim_X3_no qse_X3_X3_no qin_X3 qco_X3_no nd_X3_no ⟨Nat.le_of_ble_eq_true rfl, Nat.le_of_ble_eq_true rfl⟩ (Nat.le_of_ble_eq_true rfl) ⟨Nat.le_of_ble_eq_true rfl, Nat.le_of_ble_eq_true rfl⟩ rfl dX3_plainParts_23 (fun r9 w9 h9 => ?_)
    obtain ⟨e9, rfl⟩ := h9
    refine p_int e9 ?_
    rw [hQ]
    exact r_i C hrt9 (⟨_, _, by rw [show e1 n rc = 1 from by unfold e1; rw [hr]; rfl], fun q => absurd q (by rw [show e1 n rc = 1 from by unfold e1; rw [hr]; rfl]; exact one_n0)⟩) (by decide) (by decide) dX3_plainParts_26
  · obtain ⟨i, hi, rfl⟩ := isR_spec hn (bI_ne c_10)
    have vi := isR_of hn hi
    refine p_aload_n C rfl 0 rfl dX3_plainParts_13 ?_
    refine p_iload_n C rfl 1 rfl dX3_plainParts_14 ?_
    refine c_Vi (As := [.int (nI i)]) (rest := []) C (m_X3_parts l D k (i := i) (by omega)) 0 rfl rfl rfl qml_X3_164 qim_X3_parts qse_X3_X3_parts qin_X3 qco_X3_parts nd_X3_parts ⟨Nat.le_of_ble_eq_true rfl, Nat.le_of_ble_eq_true rfl⟩ (Nat.le_of_ble_eq_true rfl) ⟨Nat.le_of_ble_eq_true rfl, Nat.le_of_ble_eq_true rfl⟩ rfl dX3_plainParts_15 (fun r9 w9 h9 => ?_)
    obtain ⟨e9, WkP, rfl⟩ := h9
    refine p_int e9 ?_
    refine p_goto C 26 (by decide) dX3_plainParts_18 ?_
    rw [hQ]
    exact r_i C hrt9 (⟨_, _, by rw [show e1 n (nI i) = 0 from by unfold e1; rw [vi]; rfl], fun _ => by rw [ix_nI (by omega)]⟩) (by decide) (by decide) dX3_plainParts_26
set_option maxHeartbeats 4000000 in
set_option maxRecDepth 100000 in
/-- shiftFor -/
theorem m_X3_shiftFor (l : Launch) (D : va_G) (k : Nat → ClassId) {md : Nat → Nat} {th : Int32} {n : Nat} {Am Wk Mo : Nat → Int32} {v cp : Nat} {bt : Nat → Int32} {ml cn : Int32} {Y : va_W} {i : Nat} (hi : i < 16) : CtI l D k yX3_shiftFor (wU yX3_shiftFor cX3_shiftFor 8 (some .int)) (rmL 2 0 0) [.ref (md 0), .int (nI i)] (MW k md th (nI n) Am Wk Mo v cp bt ml cn Y) (fun r w' => r = bs (mrow Am i) ∧ ∃ Wk', w' = (MW k md th (nI n) Am Wk' Mo v cp bt ml cn Y)) := by
  refine openI (own := RX3) rfl (by decide) (Nat.le_of_ble_eq_true rfl) rfl ?_
  intro p e s m args below meth c A C hrt9 hnm
  obtain ⟨Q, hQ⟩ : ∃ Q, Q = (MQ below (va_Qi (fun r w' => r = bs (mrow Am i) ∧ ∃ Wk', w' = (MW k md th (nI n) Am Wk' Mo v cp bt ml cn Y)) (cBA D A) A) args s 0 0 A) := ⟨_, rfl⟩
  show WP p l e (rmL 2 0 0) s m args below meth c D A 8 (MW k md th (nI n) Am Wk Mo v cp bt ml cn Y) [(0, .ref (md 0)), (1, .int (nI i))] 0 0 (MQ below (va_Qi (fun r w' => r = bs (mrow Am i) ∧ ∃ Wk', w' = (MW k md th (nI n) Am Wk' Mo v cp bt ml cn Y)) (cBA D A) A) args s 0 0 A) 0 []
  rw [← hQ]
  refine p_iconst (v := 0) C (by decide) dX3_shiftFor_0 ?_
  refine p_istore_n (lv9 := [(2, .int 0), (0, .ref (md 0)), (1, .int (nI i))]) C rfl (by decide) rfl dX3_shiftFor_1 ?_
  refine p_bipush (v := (nI 99)) C (by decide) dX3_shiftFor_2 ?_
  refine p_istore_n (lv9 := [(3, .int (nI 99)), (2, .int 0), (0, .ref (md 0)), (1, .int (nI i))]) C rfl (by decide) rfl dX3_shiftFor_4 ?_
  refine p_iconst (v := (nI 0)) C (by decide) dX3_shiftFor_5 ?_
  refine p_istore (lv9 := [(4, .int (nI 0)), (3, .int (nI 99)), (2, .int 0), (0, .ref (md 0)), (1, .int (nI i))]) C (by decide) rfl dX3_shiftFor_6 ?_
  refine p_lv (lv9 := [(0, .ref (md 0)), (1, .int (nI i)), (2, .int 0), (3, .int (nI 99)), (4, .int (nI 0))]) [3, 4, 2, 1, 0] rfl ?_
  refine p_lvE (lv9 := [(0, .ref (md 0)), (1, .int (nI i)), (2, .int ((bsS (mrow Am i) 0).1)), (3, .int (nI (bsS (mrow Am i) 0).2)), (4, .int (nI 0))]) rfl ?_
  have lp8 : ∀ (n8 : Nat) (W9 : Nat → Int32) (j : Nat), (hj : j + n8 = 21) → WP p l e (rmL 2 0 0) s m args below meth c D A 8 (MW k md th (nI n) Am W9 Mo v cp bt ml cn Y) [(0, .ref (md 0)), (1, .int (nI i)), (2, .int ((bsS (mrow Am i) j).1)), (3, .int (nI (bsS (mrow Am i) j).2)), (4, .int (nI j))] 0 0 Q 8 [] := by
    intro n8
    induction n8 with
    | zero =>
      intro W9 j hj
      obtain rfl : j = 21 := by omega
      refine p_iload C 4 rfl dX3_shiftFor_8 ?_
      refine p_bipush (v := 20) C (by decide) dX3_shiftFor_10 ?_
      refine p_icmp_gt C 114 (by decide) dX3_shiftFor_12 (fun c_12 => ?_) (fun c_12 => absurd c_12 (by decide))
      refine p_iload_n C rfl 2 rfl dX3_shiftFor_114 ?_
      rw [hQ]
      exact r_i C hrt9 (⟨rfl, _, rfl⟩) (by decide) (by decide) dX3_shiftFor_115
    | succ n8 ih8 =>
      intro W9 j hj
      have hj2 : j ≤ 20 := by omega
      refine p_iload C 4 rfl dX3_shiftFor_8 ?_
      refine p_bipush (v := 20) C (by decide) dX3_shiftFor_10 ?_
      refine p_icmp_gt C 114 (by decide) dX3_shiftFor_12 (fun c_12 => absurd c_12 (nI_nlt (a := 20) (b := j) hj2 (by decide))) (fun c_12 => ?_)
      refine p_iconst (v := 1) C (by decide) dX3_shiftFor_15 ?_
      refine p_istore (lv9 := [(5, .int 1), (0, .ref (md 0)), (1, .int (nI i)), (2, .int ((bsS (mrow Am i) j).1)), (3, .int (nI (bsS (mrow Am i) j).2)), (4, .int (nI j))]) C (by decide) rfl dX3_shiftFor_16 ?_
      refine p_iload C 0 rfl dX3_shiftFor_18 ?_
      refine p_iconst (v := (-1)) C (by decide) dX3_shiftFor_20 ?_
      refine p_icmp_lt C 108 (by decide) dX3_shiftFor_21 (fun c_21 => absurd c_21 (by decide)) (fun c_21 => ?_)
      refine p_aload_n C rfl 1 rfl dX3_shiftFor_24 ?_
      refine p_iload_n C rfl 2 rfl dX3_shiftFor_25 ?_
      refine p_aload_n C rfl 1 rfl dX3_shiftFor_26 ?_
      refine p_get (v := .ref (md 2)) (T := TX3) C 0 rfl rfl 3 (by decide) inX3 qfl_X3_13 (fun _ h9 => h9) rfl dX3_shiftFor_27 ?_
      refine c_Vv (As := [.int (nI i), .ref (md 2)]) (rest := []) C (m_X3_take l D k (i := i) (by omega)) 0 rfl rfl rfl qml_X3_55 qim_X3_take qse_X3_X3_take qin_X3 qco_X3_take nd_X3_take ⟨Nat.le_of_ble_eq_true rfl, Nat.le_of_ble_eq_true rfl⟩ (Nat.le_of_ble_eq_true rfl) ⟨Nat.le_of_ble_eq_true rfl, Nat.le_of_ble_eq_true rfl⟩ rfl dX3_shiftFor_30 (fun w9 h9 => ?_)
      obtain rfl := h9
      refine p_aload_n C rfl 1 rfl dX3_shiftFor_33 ?_
      refine p_get (v := .ref (md 2)) (T := TX3) C 0 rfl rfl 3 (by decide) inX3 qfl_X3_13 (fun _ h9 => h9) rfl dX3_shiftFor_34 ?_
      refine p_iload C 0 rfl dX3_shiftFor_37 ?_
      refine p_iload C 5 rfl dX3_shiftFor_39 ?_
      refine p_imul C dX3_shiftFor_41 ?_
      refine c_Sv (As := [.ref (md 2), .int (1 * (nI j))]) (rest := []) C (m_X3_shiftRow l D k (u := 2) (x := (1 * (nI j))) rfl) qml_X3_77 qst_X3_shiftRow qin_X3 qco_X3_shiftRow nd_X3_shiftRow ⟨Nat.le_of_ble_eq_true rfl, Nat.le_of_ble_eq_true rfl⟩ (Nat.le_of_ble_eq_true rfl) ⟨Nat.le_of_ble_eq_true rfl, Nat.le_of_ble_eq_true rfl⟩ rfl dX3_shiftFor_42 (fun w9 h9 => ?_)
      obtain rfl := h9
      refine p_w (w9 := (MW k md th (nI n) Am (mv (mrow Am i) (1 * (nI j))) Mo v cp bt ml cn Y)) (rfl) ?_
      refine p_iconst (v := (nI 0)) C (by decide) dX3_shiftFor_45 ?_
      refine p_istore (lv9 := [(6, .int (nI 0)), (5, .int 1), (0, .ref (md 0)), (1, .int (nI i)), (2, .int ((bsS (mrow Am i) j).1)), (3, .int (nI (bsS (mrow Am i) j).2)), (4, .int (nI j))]) C (by decide) rfl dX3_shiftFor_46 ?_
      refine p_iconst (v := (nI 0)) C (by decide) dX3_shiftFor_48 ?_
      refine p_istore (lv9 := [(7, .int (nI 0)), (6, .int (nI 0)), (5, .int 1), (0, .ref (md 0)), (1, .int (nI i)), (2, .int ((bsS (mrow Am i) j).1)), (3, .int (nI (bsS (mrow Am i) j).2)), (4, .int (nI j))]) C (by decide) rfl dX3_shiftFor_49 ?_
      refine p_lv (lv9 := [(0, .ref (md 0)), (1, .int (nI i)), (2, .int ((bsS (mrow Am i) j).1)), (3, .int (nI (bsS (mrow Am i) j).2)), (4, .int (nI j)), (5, .int 1), (6, .int (nI 0)), (7, .int (nI 0))]) [3, 4, 5, 6, 7, 2, 1, 0] rfl ?_
      have lp51 : ∀ (n51 : Nat) (q9 : Nat), (hq9 : q9 + n51 = 9) → WP p l e (rmL 2 0 0) s m args below meth c D A 8 (MW k md th (nI n) Am (mv (mrow Am i) (1 * (nI j))) Mo v cp bt ml cn Y) [(0, .ref (md 0)), (1, .int (nI i)), (2, .int ((bsS (mrow Am i) j).1)), (3, .int (nI (bsS (mrow Am i) j).2)), (4, .int (nI j)), (5, .int 1), (6, .int (nI (ptN (mv (mrow Am i) (1 * (nI j))) q9))), (7, .int (nI q9))] 0 0 Q 51 [] := by
        intro n51
        induction n51 with
        | zero =>
          intro q9 hq9
          obtain rfl : q9 = 9 := by omega
          refine p_iload C 7 rfl dX3_shiftFor_51 ?_
          refine p_bipush (v := 9) C (by decide) dX3_shiftFor_53 ?_
          refine p_icmp_ge C 84 (by decide) dX3_shiftFor_55 (fun c_55 => ?_) (fun c_55 => absurd c_55 (by decide))
          refine p_iload C 6 rfl dX3_shiftFor_84 ?_
          refine p_iload_n C rfl 3 rfl dX3_shiftFor_86 ?_
          refine p_icmp_lt C 93 (by decide) dX3_shiftFor_87 (fun c_87 => ?_) (fun c_87 => ?_)
          · refine p_iload C 5 rfl dX3_shiftFor_93 ?_
            refine p_iload C 4 rfl dX3_shiftFor_95 ?_
            refine p_imul C dX3_shiftFor_97 ?_
            refine p_istore_n (lv9 := [(2, .int (1 * (nI j))), (0, .ref (md 0)), (1, .int (nI i)), (3, .int (nI (bsS (mrow Am i) j).2)), (4, .int (nI j)), (5, .int 1), (6, .int (nI (ptN (mv (mrow Am i) (1 * (nI j))) 9))), (7, .int (nI 9))]) C rfl (by decide) rfl dX3_shiftFor_98 ?_
            refine p_iload C 6 rfl dX3_shiftFor_99 ?_
            refine p_istore_n (lv9 := [(3, .int (nI (ptN (mv (mrow Am i) (1 * (nI j))) 9))), (2, .int (1 * (nI j))), (0, .ref (md 0)), (1, .int (nI i)), (4, .int (nI j)), (5, .int 1), (6, .int (nI (ptN (mv (mrow Am i) (1 * (nI j))) 9))), (7, .int (nI 9))]) C rfl (by decide) rfl dX3_shiftFor_101 ?_
            refine p_lv (lv9 := [(0, .ref (md 0)), (1, .int (nI i)), (2, .int (1 * (nI j))), (3, .int (nI (ptN (mv (mrow Am i) (1 * (nI j))) 9))), (4, .int (nI j)), (5, .int 1)]) [2, 3, 1, 0, 4, 5] rfl ?_
            refine p_lvE (lv9 := [(0, .ref (md 0)), (1, .int (nI i)), (2, .int ((bsI (mrow Am i) (1 * nI j) (bsS (mrow Am i) j)).1)), (3, .int (nI (bsI (mrow Am i) (1 * nI j) (bsS (mrow Am i) j)).2)), (4, .int (nI j)), (5, .int 1)]) (by rw [bs_t (bsS_le _ _) c_87] <;> rfl) ?_
            refine p_iinc (lv9 := [(5, .int (-1)), (0, .ref (md 0)), (1, .int (nI i)), (2, .int ((bsI (mrow Am i) (1 * nI j) (bsS (mrow Am i) j)).1)), (3, .int (nI (bsI (mrow Am i) (1 * nI j) (bsS (mrow Am i) j)).2)), (4, .int (nI j))]) (v := (-1)) C (j := 5) rfl (by decide) (by decide) rfl dX3_shiftFor_102 ?_
            refine p_goto C 18 (by decide) dX3_shiftFor_105 ?_
            refine p_iload C 0 rfl dX3_shiftFor_18 ?_
            refine p_iconst (v := (-1)) C (by decide) dX3_shiftFor_20 ?_
            refine p_icmp_lt C 108 (by decide) dX3_shiftFor_21 (fun c_21 => absurd c_21 (by decide)) (fun c_21 => ?_)
            refine p_aload_n C rfl 1 rfl dX3_shiftFor_24 ?_
            refine p_iload_n C rfl 2 rfl dX3_shiftFor_25 ?_
            refine p_aload_n C rfl 1 rfl dX3_shiftFor_26 ?_
            refine p_get (v := .ref (md 2)) (T := TX3) C 0 rfl rfl 3 (by decide) inX3 qfl_X3_13 (fun _ h9 => h9) rfl dX3_shiftFor_27 ?_
            refine c_Vv (As := [.int (nI i), .ref (md 2)]) (rest := []) C (m_X3_take l D k (i := i) (by omega)) 0 rfl rfl rfl qml_X3_55 qim_X3_take qse_X3_X3_take qin_X3 qco_X3_take nd_X3_take ⟨Nat.le_of_ble_eq_true rfl, Nat.le_of_ble_eq_true rfl⟩ (Nat.le_of_ble_eq_true rfl) ⟨Nat.le_of_ble_eq_true rfl, Nat.le_of_ble_eq_true rfl⟩ rfl dX3_shiftFor_30 (fun w9 h9 => ?_)
            obtain rfl := h9
            refine p_aload_n C rfl 1 rfl dX3_shiftFor_33 ?_
            refine p_get (v := .ref (md 2)) (T := TX3) C 0 rfl rfl 3 (by decide) inX3 qfl_X3_13 (fun _ h9 => h9) rfl dX3_shiftFor_34 ?_
            refine p_iload C 0 rfl dX3_shiftFor_37 ?_
            refine p_iload C 5 rfl dX3_shiftFor_39 ?_
            refine p_imul C dX3_shiftFor_41 ?_
            refine c_Sv (As := [.ref (md 2), .int ((-1) * (nI j))]) (rest := []) C (m_X3_shiftRow l D k (u := 2) (x := ((-1) * (nI j))) rfl) qml_X3_77 qst_X3_shiftRow qin_X3 qco_X3_shiftRow nd_X3_shiftRow ⟨Nat.le_of_ble_eq_true rfl, Nat.le_of_ble_eq_true rfl⟩ (Nat.le_of_ble_eq_true rfl) ⟨Nat.le_of_ble_eq_true rfl, Nat.le_of_ble_eq_true rfl⟩ rfl dX3_shiftFor_42 (fun w9 h9 => ?_)
            obtain rfl := h9
            refine p_w (w9 := (MW k md th (nI n) Am (mv (mrow Am i) ((-1) * (nI j))) Mo v cp bt ml cn Y)) (rfl) ?_
            refine p_iconst (v := (nI 0)) C (by decide) dX3_shiftFor_45 ?_
            refine p_istore (lv9 := [(6, .int (nI 0)), (5, .int (-1)), (0, .ref (md 0)), (1, .int (nI i)), (2, .int ((bsI (mrow Am i) (1 * nI j) (bsS (mrow Am i) j)).1)), (3, .int (nI (bsI (mrow Am i) (1 * nI j) (bsS (mrow Am i) j)).2)), (4, .int (nI j))]) C (by decide) rfl dX3_shiftFor_46 ?_
            refine p_iconst (v := (nI 0)) C (by decide) dX3_shiftFor_48 ?_
            refine p_istore (lv9 := [(7, .int (nI 0)), (6, .int (nI 0)), (5, .int (-1)), (0, .ref (md 0)), (1, .int (nI i)), (2, .int ((bsI (mrow Am i) (1 * nI j) (bsS (mrow Am i) j)).1)), (3, .int (nI (bsI (mrow Am i) (1 * nI j) (bsS (mrow Am i) j)).2)), (4, .int (nI j))]) C (by decide) rfl dX3_shiftFor_49 ?_
            refine p_lv (lv9 := [(0, .ref (md 0)), (1, .int (nI i)), (2, .int ((bsI (mrow Am i) (1 * nI j) (bsS (mrow Am i) j)).1)), (3, .int (nI (bsI (mrow Am i) (1 * nI j) (bsS (mrow Am i) j)).2)), (4, .int (nI j)), (5, .int (-1)), (6, .int (nI 0)), (7, .int (nI 0))]) [3, 4, 5, 6, 7, 2, 1, 0] rfl ?_
            have lp51 : ∀ (n51 : Nat) (q9 : Nat), (hq9 : q9 + n51 = 9) → WP p l e (rmL 2 0 0) s m args below meth c D A 8 (MW k md th (nI n) Am (mv (mrow Am i) ((-1) * (nI j))) Mo v cp bt ml cn Y) [(0, .ref (md 0)), (1, .int (nI i)), (2, .int ((bsI (mrow Am i) (1 * nI j) (bsS (mrow Am i) j)).1)), (3, .int (nI (bsI (mrow Am i) (1 * nI j) (bsS (mrow Am i) j)).2)), (4, .int (nI j)), (5, .int (-1)), (6, .int (nI (ptN (mv (mrow Am i) ((-1) * (nI j))) q9))), (7, .int (nI q9))] 0 0 Q 51 [] := by
              intro n51
              induction n51 with
              | zero =>
                intro q9 hq9
                obtain rfl : q9 = 9 := by omega
                refine p_iload C 7 rfl dX3_shiftFor_51 ?_
                refine p_bipush (v := 9) C (by decide) dX3_shiftFor_53 ?_
                refine p_icmp_ge C 84 (by decide) dX3_shiftFor_55 (fun c_55 => ?_) (fun c_55 => absurd c_55 (by decide))
                refine p_iload C 6 rfl dX3_shiftFor_84 ?_
                refine p_iload_n C rfl 3 rfl dX3_shiftFor_86 ?_
                refine p_icmp_lt C 93 (by decide) dX3_shiftFor_87 (fun c_87 => ?_) (fun c_87 => ?_)
                · refine p_iload C 5 rfl dX3_shiftFor_93 ?_
                  refine p_iload C 4 rfl dX3_shiftFor_95 ?_
                  refine p_imul C dX3_shiftFor_97 ?_
                  refine p_istore_n (lv9 := [(2, .int ((-1) * (nI j))), (0, .ref (md 0)), (1, .int (nI i)), (3, .int (nI (bsI (mrow Am i) (1 * nI j) (bsS (mrow Am i) j)).2)), (4, .int (nI j)), (5, .int (-1)), (6, .int (nI (ptN (mv (mrow Am i) ((-1) * (nI j))) 9))), (7, .int (nI 9))]) C rfl (by decide) rfl dX3_shiftFor_98 ?_
                  refine p_iload C 6 rfl dX3_shiftFor_99 ?_
                  refine p_istore_n (lv9 := [(3, .int (nI (ptN (mv (mrow Am i) ((-1) * (nI j))) 9))), (2, .int ((-1) * (nI j))), (0, .ref (md 0)), (1, .int (nI i)), (4, .int (nI j)), (5, .int (-1)), (6, .int (nI (ptN (mv (mrow Am i) ((-1) * (nI j))) 9))), (7, .int (nI 9))]) C rfl (by decide) rfl dX3_shiftFor_101 ?_
                  refine p_lv (lv9 := [(0, .ref (md 0)), (1, .int (nI i)), (2, .int ((-1) * (nI j))), (3, .int (nI (ptN (mv (mrow Am i) ((-1) * (nI j))) 9))), (4, .int (nI j)), (5, .int (-1))]) [2, 3, 1, 0, 4, 5] rfl ?_
                  refine p_lvE (lv9 := [(0, .ref (md 0)), (1, .int (nI i)), (2, .int ((bsI (mrow Am i) (-1 * nI j) (bsI (mrow Am i) (1 * nI j) (bsS (mrow Am i) j))).1)), (3, .int (nI (bsI (mrow Am i) (-1 * nI j) (bsI (mrow Am i) (1 * nI j) (bsS (mrow Am i) j))).2)), (4, .int (nI j)), (5, .int (-1))]) (by rw [bs_t (bsI_le (bsS_le _ _)) c_87] <;> rfl) ?_
                  refine p_iinc (lv9 := [(5, .int (-3)), (0, .ref (md 0)), (1, .int (nI i)), (2, .int ((bsI (mrow Am i) (-1 * nI j) (bsI (mrow Am i) (1 * nI j) (bsS (mrow Am i) j))).1)), (3, .int (nI (bsI (mrow Am i) (-1 * nI j) (bsI (mrow Am i) (1 * nI j) (bsS (mrow Am i) j))).2)), (4, .int (nI j))]) (v := (-3)) C (j := 5) rfl (by decide) (by decide) rfl dX3_shiftFor_102 ?_
                  refine p_goto C 18 (by decide) dX3_shiftFor_105 ?_
                  refine p_iload C 0 rfl dX3_shiftFor_18 ?_
                  refine p_iconst (v := (-1)) C (by decide) dX3_shiftFor_20 ?_
                  refine p_icmp_lt C 108 (by decide) dX3_shiftFor_21 (fun c_21 => ?_) (fun c_21 => absurd c_21 (by decide))
                  refine p_iinc (lv9 := [(4, .int (nI (j + 1))), (5, .int (-3)), (0, .ref (md 0)), (1, .int (nI i)), (2, .int ((bsI (mrow Am i) (-1 * nI j) (bsI (mrow Am i) (1 * nI j) (bsS (mrow Am i) j))).1)), (3, .int (nI (bsI (mrow Am i) (-1 * nI j) (bsI (mrow Am i) (1 * nI j) (bsS (mrow Am i) j))).2))]) (v := (nI (j + 1))) C (j := 5) rfl (i_up j) (by decide) rfl dX3_shiftFor_108 ?_
                  refine p_goto C 8 (by decide) dX3_shiftFor_111 ?_
                  refine p_lv (lv9 := [(0, .ref (md 0)), (1, .int (nI i)), (2, .int ((bsI (mrow Am i) (-1 * nI j) (bsI (mrow Am i) (1 * nI j) (bsS (mrow Am i) j))).1)), (3, .int (nI (bsI (mrow Am i) (-1 * nI j) (bsI (mrow Am i) (1 * nI j) (bsS (mrow Am i) j))).2)), (4, .int (nI (j + 1)))]) [2, 3, 4, 5, 0] rfl ?_
                  refine p_lvE (lv9 := [(0, .ref (md 0)), (1, .int (nI i)), (2, .int ((bsS (mrow Am i) (j + 1)).1)), (3, .int (nI (bsS (mrow Am i) (j + 1)).2)), (4, .int (nI (j + 1)))]) (by rw [bsS_s]) ?_
                  exact ih8 _ (j + 1) (by omega)
                · refine p_goto C 102 (by decide) dX3_shiftFor_90 ?_
                  refine p_lv (lv9 := [(0, .ref (md 0)), (1, .int (nI i)), (2, .int ((bsI (mrow Am i) (1 * nI j) (bsS (mrow Am i) j)).1)), (3, .int (nI (bsI (mrow Am i) (1 * nI j) (bsS (mrow Am i) j)).2)), (4, .int (nI j)), (5, .int (-1))]) [0, 1, 2, 3, 4, 5] rfl ?_
                  refine p_lvE (lv9 := [(0, .ref (md 0)), (1, .int (nI i)), (2, .int ((bsI (mrow Am i) (-1 * nI j) (bsI (mrow Am i) (1 * nI j) (bsS (mrow Am i) j))).1)), (3, .int (nI (bsI (mrow Am i) (-1 * nI j) (bsI (mrow Am i) (1 * nI j) (bsS (mrow Am i) j))).2)), (4, .int (nI j)), (5, .int (-1))]) (by rw [bs_f (bsI_le (bsS_le _ _)) c_87] <;> rfl) ?_
                  refine p_iinc (lv9 := [(5, .int (-3)), (0, .ref (md 0)), (1, .int (nI i)), (2, .int ((bsI (mrow Am i) (-1 * nI j) (bsI (mrow Am i) (1 * nI j) (bsS (mrow Am i) j))).1)), (3, .int (nI (bsI (mrow Am i) (-1 * nI j) (bsI (mrow Am i) (1 * nI j) (bsS (mrow Am i) j))).2)), (4, .int (nI j))]) (v := (-3)) C (j := 5) rfl (by decide) (by decide) rfl dX3_shiftFor_102 ?_
                  refine p_goto C 18 (by decide) dX3_shiftFor_105 ?_
                  refine p_iload C 0 rfl dX3_shiftFor_18 ?_
                  refine p_iconst (v := (-1)) C (by decide) dX3_shiftFor_20 ?_
                  refine p_icmp_lt C 108 (by decide) dX3_shiftFor_21 (fun c_21 => ?_) (fun c_21 => absurd c_21 (by decide))
                  refine p_iinc (lv9 := [(4, .int (nI (j + 1))), (5, .int (-3)), (0, .ref (md 0)), (1, .int (nI i)), (2, .int ((bsI (mrow Am i) (-1 * nI j) (bsI (mrow Am i) (1 * nI j) (bsS (mrow Am i) j))).1)), (3, .int (nI (bsI (mrow Am i) (-1 * nI j) (bsI (mrow Am i) (1 * nI j) (bsS (mrow Am i) j))).2))]) (v := (nI (j + 1))) C (j := 5) rfl (i_up j) (by decide) rfl dX3_shiftFor_108 ?_
                  refine p_goto C 8 (by decide) dX3_shiftFor_111 ?_
                  refine p_lv (lv9 := [(0, .ref (md 0)), (1, .int (nI i)), (2, .int ((bsI (mrow Am i) (-1 * nI j) (bsI (mrow Am i) (1 * nI j) (bsS (mrow Am i) j))).1)), (3, .int (nI (bsI (mrow Am i) (-1 * nI j) (bsI (mrow Am i) (1 * nI j) (bsS (mrow Am i) j))).2)), (4, .int (nI (j + 1)))]) [2, 3, 4, 5, 0] rfl ?_
                  refine p_lvE (lv9 := [(0, .ref (md 0)), (1, .int (nI i)), (2, .int ((bsS (mrow Am i) (j + 1)).1)), (3, .int (nI (bsS (mrow Am i) (j + 1)).2)), (4, .int (nI (j + 1)))]) (by rw [bsS_s]) ?_
                  exact ih8 _ (j + 1) (by omega)
              | succ n51 ih51 =>
                intro q9 hq9
                have hq8 : q9 < 9 := by omega
                refine p_iload C 7 rfl dX3_shiftFor_51 ?_
                refine p_bipush (v := 9) C (by decide) dX3_shiftFor_53 ?_
                refine p_icmp_ge C 84 (by decide) dX3_shiftFor_55 (fun c_55 => absurd c_55 (nI_ge (b := 9) hq8 (by decide))) (fun c_55 => ?_)
                refine p_iload C 6 rfl dX3_shiftFor_58 ?_
                refine p_aload_n C rfl 0 rfl dX3_shiftFor_60 ?_
                refine p_get (v := .ref (md 2)) (T := TX3) C 0 rfl rfl 3 (by decide) inX3 qfl_X3_13 (fun _ h9 => h9) rfl dX3_shiftFor_61 ?_
                refine p_iload C 7 rfl dX3_shiftFor_64 ?_
                refine p_iald (v := ((mv (mrow Am i) ((-1) * (nI j))) q9)) C 2 rfl (vp_in_nI (n := q9) (N := 9) (by omega) (by omega)) (by rw [show ((nI q9)).toNatClampNeg = q9 from nI_clamp (by omega)]) dX3_shiftFor_66 ?_
                refine p_if_ne C 74 (by decide) dX3_shiftFor_67 (fun c_67 => ?_) (fun c_67 => ?_)
                · refine p_iconst (v := 1) C (by decide) dX3_shiftFor_74 ?_
                  refine p_iadd C dX3_shiftFor_75 ?_
                  refine p_int (y := (nI (ptN (mv (mrow Am i) ((-1) * (nI j))) (q9 + 1)))) (by rw [show ptN (mv (mrow Am i) ((-1) * (nI j))) (q9 + 1) = ptN (mv (mrow Am i) ((-1) * (nI j))) q9 + 1 from if_neg c_67]; exact nI_1 _) ?_
                  refine p_istore (lv9 := [(6, .int (nI (ptN (mv (mrow Am i) ((-1) * (nI j))) (q9 + 1)))), (0, .ref (md 0)), (1, .int (nI i)), (2, .int ((bsI (mrow Am i) (1 * nI j) (bsS (mrow Am i) j)).1)), (3, .int (nI (bsI (mrow Am i) (1 * nI j) (bsS (mrow Am i) j)).2)), (4, .int (nI j)), (5, .int (-1)), (7, .int (nI q9))]) C (by decide) rfl dX3_shiftFor_76 ?_
                  refine p_iinc (lv9 := [(7, .int (nI (q9 + 1))), (6, .int (nI (ptN (mv (mrow Am i) ((-1) * (nI j))) (q9 + 1)))), (0, .ref (md 0)), (1, .int (nI i)), (2, .int ((bsI (mrow Am i) (1 * nI j) (bsS (mrow Am i) j)).1)), (3, .int (nI (bsI (mrow Am i) (1 * nI j) (bsS (mrow Am i) j)).2)), (4, .int (nI j)), (5, .int (-1))]) (v := (nI (q9 + 1))) C (j := 7) rfl (i_up q9) (by decide) rfl dX3_shiftFor_78 ?_
                  refine p_goto C 51 (by decide) dX3_shiftFor_81 ?_
                  refine p_lv (lv9 := [(0, .ref (md 0)), (1, .int (nI i)), (2, .int ((bsI (mrow Am i) (1 * nI j) (bsS (mrow Am i) j)).1)), (3, .int (nI (bsI (mrow Am i) (1 * nI j) (bsS (mrow Am i) j)).2)), (4, .int (nI j)), (5, .int (-1)), (6, .int (nI (ptN (mv (mrow Am i) ((-1) * (nI j))) (q9 + 1)))), (7, .int (nI (q9 + 1)))]) [2, 3, 4, 5, 6, 7, 1, 0] rfl ?_
                  exact ih51 (q9 + 1) (by omega)
                · refine p_iconst (v := 0) C (by decide) dX3_shiftFor_70 ?_
                  refine p_goto C 75 (by decide) dX3_shiftFor_71 ?_
                  refine p_iadd C dX3_shiftFor_75 ?_
                  refine p_int (y := (nI (ptN (mv (mrow Am i) ((-1) * (nI j))) (q9 + 1)))) ((Int32.add_zero _).trans (by rw [show ptN (mv (mrow Am i) ((-1) * (nI j))) (q9 + 1) = ptN (mv (mrow Am i) ((-1) * (nI j))) q9 from if_pos c_67])) ?_
                  refine p_istore (lv9 := [(6, .int (nI (ptN (mv (mrow Am i) ((-1) * (nI j))) (q9 + 1)))), (0, .ref (md 0)), (1, .int (nI i)), (2, .int ((bsI (mrow Am i) (1 * nI j) (bsS (mrow Am i) j)).1)), (3, .int (nI (bsI (mrow Am i) (1 * nI j) (bsS (mrow Am i) j)).2)), (4, .int (nI j)), (5, .int (-1)), (7, .int (nI q9))]) C (by decide) rfl dX3_shiftFor_76 ?_
                  refine p_iinc (lv9 := [(7, .int (nI (q9 + 1))), (6, .int (nI (ptN (mv (mrow Am i) ((-1) * (nI j))) (q9 + 1)))), (0, .ref (md 0)), (1, .int (nI i)), (2, .int ((bsI (mrow Am i) (1 * nI j) (bsS (mrow Am i) j)).1)), (3, .int (nI (bsI (mrow Am i) (1 * nI j) (bsS (mrow Am i) j)).2)), (4, .int (nI j)), (5, .int (-1))]) (v := (nI (q9 + 1))) C (j := 7) rfl (i_up q9) (by decide) rfl dX3_shiftFor_78 ?_
                  refine p_goto C 51 (by decide) dX3_shiftFor_81 ?_
                  refine p_lv (lv9 := [(0, .ref (md 0)), (1, .int (nI i)), (2, .int ((bsI (mrow Am i) (1 * nI j) (bsS (mrow Am i) j)).1)), (3, .int (nI (bsI (mrow Am i) (1 * nI j) (bsS (mrow Am i) j)).2)), (4, .int (nI j)), (5, .int (-1)), (6, .int (nI (ptN (mv (mrow Am i) ((-1) * (nI j))) (q9 + 1)))), (7, .int (nI (q9 + 1)))]) [2, 3, 4, 5, 6, 7, 1, 0] rfl ?_
                  exact ih51 (q9 + 1) (by omega)
            exact lp51 9 0 rfl
          · refine p_goto C 102 (by decide) dX3_shiftFor_90 ?_
            refine p_lv (lv9 := [(0, .ref (md 0)), (1, .int (nI i)), (2, .int ((bsS (mrow Am i) j).1)), (3, .int (nI (bsS (mrow Am i) j).2)), (4, .int (nI j)), (5, .int 1)]) [0, 1, 2, 3, 4, 5] rfl ?_
            refine p_lvE (lv9 := [(0, .ref (md 0)), (1, .int (nI i)), (2, .int ((bsI (mrow Am i) (1 * nI j) (bsS (mrow Am i) j)).1)), (3, .int (nI (bsI (mrow Am i) (1 * nI j) (bsS (mrow Am i) j)).2)), (4, .int (nI j)), (5, .int 1)]) (by rw [bs_f (bsS_le _ _) c_87] <;> rfl) ?_
            refine p_iinc (lv9 := [(5, .int (-1)), (0, .ref (md 0)), (1, .int (nI i)), (2, .int ((bsI (mrow Am i) (1 * nI j) (bsS (mrow Am i) j)).1)), (3, .int (nI (bsI (mrow Am i) (1 * nI j) (bsS (mrow Am i) j)).2)), (4, .int (nI j))]) (v := (-1)) C (j := 5) rfl (by decide) (by decide) rfl dX3_shiftFor_102 ?_
            refine p_goto C 18 (by decide) dX3_shiftFor_105 ?_
            refine p_iload C 0 rfl dX3_shiftFor_18 ?_
            refine p_iconst (v := (-1)) C (by decide) dX3_shiftFor_20 ?_
            refine p_icmp_lt C 108 (by decide) dX3_shiftFor_21 (fun c_21 => absurd c_21 (by decide)) (fun c_21 => ?_)
            refine p_aload_n C rfl 1 rfl dX3_shiftFor_24 ?_
            refine p_iload_n C rfl 2 rfl dX3_shiftFor_25 ?_
            refine p_aload_n C rfl 1 rfl dX3_shiftFor_26 ?_
            refine p_get (v := .ref (md 2)) (T := TX3) C 0 rfl rfl 3 (by decide) inX3 qfl_X3_13 (fun _ h9 => h9) rfl dX3_shiftFor_27 ?_
            refine c_Vv (As := [.int (nI i), .ref (md 2)]) (rest := []) C (m_X3_take l D k (i := i) (by omega)) 0 rfl rfl rfl qml_X3_55 qim_X3_take qse_X3_X3_take qin_X3 qco_X3_take nd_X3_take ⟨Nat.le_of_ble_eq_true rfl, Nat.le_of_ble_eq_true rfl⟩ (Nat.le_of_ble_eq_true rfl) ⟨Nat.le_of_ble_eq_true rfl, Nat.le_of_ble_eq_true rfl⟩ rfl dX3_shiftFor_30 (fun w9 h9 => ?_)
            obtain rfl := h9
            refine p_aload_n C rfl 1 rfl dX3_shiftFor_33 ?_
            refine p_get (v := .ref (md 2)) (T := TX3) C 0 rfl rfl 3 (by decide) inX3 qfl_X3_13 (fun _ h9 => h9) rfl dX3_shiftFor_34 ?_
            refine p_iload C 0 rfl dX3_shiftFor_37 ?_
            refine p_iload C 5 rfl dX3_shiftFor_39 ?_
            refine p_imul C dX3_shiftFor_41 ?_
            refine c_Sv (As := [.ref (md 2), .int ((-1) * (nI j))]) (rest := []) C (m_X3_shiftRow l D k (u := 2) (x := ((-1) * (nI j))) rfl) qml_X3_77 qst_X3_shiftRow qin_X3 qco_X3_shiftRow nd_X3_shiftRow ⟨Nat.le_of_ble_eq_true rfl, Nat.le_of_ble_eq_true rfl⟩ (Nat.le_of_ble_eq_true rfl) ⟨Nat.le_of_ble_eq_true rfl, Nat.le_of_ble_eq_true rfl⟩ rfl dX3_shiftFor_42 (fun w9 h9 => ?_)
            obtain rfl := h9
            refine p_w (w9 := (MW k md th (nI n) Am (mv (mrow Am i) ((-1) * (nI j))) Mo v cp bt ml cn Y)) (rfl) ?_
            refine p_iconst (v := (nI 0)) C (by decide) dX3_shiftFor_45 ?_
            refine p_istore (lv9 := [(6, .int (nI 0)), (5, .int (-1)), (0, .ref (md 0)), (1, .int (nI i)), (2, .int ((bsI (mrow Am i) (1 * nI j) (bsS (mrow Am i) j)).1)), (3, .int (nI (bsI (mrow Am i) (1 * nI j) (bsS (mrow Am i) j)).2)), (4, .int (nI j))]) C (by decide) rfl dX3_shiftFor_46 ?_
            refine p_iconst (v := (nI 0)) C (by decide) dX3_shiftFor_48 ?_
            refine p_istore (lv9 := [(7, .int (nI 0)), (6, .int (nI 0)), (5, .int (-1)), (0, .ref (md 0)), (1, .int (nI i)), (2, .int ((bsI (mrow Am i) (1 * nI j) (bsS (mrow Am i) j)).1)), (3, .int (nI (bsI (mrow Am i) (1 * nI j) (bsS (mrow Am i) j)).2)), (4, .int (nI j))]) C (by decide) rfl dX3_shiftFor_49 ?_
            refine p_lv (lv9 := [(0, .ref (md 0)), (1, .int (nI i)), (2, .int ((bsI (mrow Am i) (1 * nI j) (bsS (mrow Am i) j)).1)), (3, .int (nI (bsI (mrow Am i) (1 * nI j) (bsS (mrow Am i) j)).2)), (4, .int (nI j)), (5, .int (-1)), (6, .int (nI 0)), (7, .int (nI 0))]) [3, 4, 5, 6, 7, 2, 1, 0] rfl ?_
            have lp51 : ∀ (n51 : Nat) (q9 : Nat), (hq9 : q9 + n51 = 9) → WP p l e (rmL 2 0 0) s m args below meth c D A 8 (MW k md th (nI n) Am (mv (mrow Am i) ((-1) * (nI j))) Mo v cp bt ml cn Y) [(0, .ref (md 0)), (1, .int (nI i)), (2, .int ((bsI (mrow Am i) (1 * nI j) (bsS (mrow Am i) j)).1)), (3, .int (nI (bsI (mrow Am i) (1 * nI j) (bsS (mrow Am i) j)).2)), (4, .int (nI j)), (5, .int (-1)), (6, .int (nI (ptN (mv (mrow Am i) ((-1) * (nI j))) q9))), (7, .int (nI q9))] 0 0 Q 51 [] := by
              intro n51
              induction n51 with
              | zero =>
                intro q9 hq9
                obtain rfl : q9 = 9 := by omega
                refine p_iload C 7 rfl dX3_shiftFor_51 ?_
                refine p_bipush (v := 9) C (by decide) dX3_shiftFor_53 ?_
                refine p_icmp_ge C 84 (by decide) dX3_shiftFor_55 (fun c_55 => ?_) (fun c_55 => absurd c_55 (by decide))
                refine p_iload C 6 rfl dX3_shiftFor_84 ?_
                refine p_iload_n C rfl 3 rfl dX3_shiftFor_86 ?_
                refine p_icmp_lt C 93 (by decide) dX3_shiftFor_87 (fun c_87 => ?_) (fun c_87 => ?_)
                · refine p_iload C 5 rfl dX3_shiftFor_93 ?_
                  refine p_iload C 4 rfl dX3_shiftFor_95 ?_
                  refine p_imul C dX3_shiftFor_97 ?_
                  refine p_istore_n (lv9 := [(2, .int ((-1) * (nI j))), (0, .ref (md 0)), (1, .int (nI i)), (3, .int (nI (bsI (mrow Am i) (1 * nI j) (bsS (mrow Am i) j)).2)), (4, .int (nI j)), (5, .int (-1)), (6, .int (nI (ptN (mv (mrow Am i) ((-1) * (nI j))) 9))), (7, .int (nI 9))]) C rfl (by decide) rfl dX3_shiftFor_98 ?_
                  refine p_iload C 6 rfl dX3_shiftFor_99 ?_
                  refine p_istore_n (lv9 := [(3, .int (nI (ptN (mv (mrow Am i) ((-1) * (nI j))) 9))), (2, .int ((-1) * (nI j))), (0, .ref (md 0)), (1, .int (nI i)), (4, .int (nI j)), (5, .int (-1)), (6, .int (nI (ptN (mv (mrow Am i) ((-1) * (nI j))) 9))), (7, .int (nI 9))]) C rfl (by decide) rfl dX3_shiftFor_101 ?_
                  refine p_lv (lv9 := [(0, .ref (md 0)), (1, .int (nI i)), (2, .int ((-1) * (nI j))), (3, .int (nI (ptN (mv (mrow Am i) ((-1) * (nI j))) 9))), (4, .int (nI j)), (5, .int (-1))]) [2, 3, 1, 0, 4, 5] rfl ?_
                  refine p_lvE (lv9 := [(0, .ref (md 0)), (1, .int (nI i)), (2, .int ((bsI (mrow Am i) (-1 * nI j) (bsI (mrow Am i) (1 * nI j) (bsS (mrow Am i) j))).1)), (3, .int (nI (bsI (mrow Am i) (-1 * nI j) (bsI (mrow Am i) (1 * nI j) (bsS (mrow Am i) j))).2)), (4, .int (nI j)), (5, .int (-1))]) (by rw [bs_t (bsI_le (bsS_le _ _)) c_87] <;> rfl) ?_
                  refine p_iinc (lv9 := [(5, .int (-3)), (0, .ref (md 0)), (1, .int (nI i)), (2, .int ((bsI (mrow Am i) (-1 * nI j) (bsI (mrow Am i) (1 * nI j) (bsS (mrow Am i) j))).1)), (3, .int (nI (bsI (mrow Am i) (-1 * nI j) (bsI (mrow Am i) (1 * nI j) (bsS (mrow Am i) j))).2)), (4, .int (nI j))]) (v := (-3)) C (j := 5) rfl (by decide) (by decide) rfl dX3_shiftFor_102 ?_
                  refine p_goto C 18 (by decide) dX3_shiftFor_105 ?_
                  refine p_iload C 0 rfl dX3_shiftFor_18 ?_
                  refine p_iconst (v := (-1)) C (by decide) dX3_shiftFor_20 ?_
                  refine p_icmp_lt C 108 (by decide) dX3_shiftFor_21 (fun c_21 => ?_) (fun c_21 => absurd c_21 (by decide))
                  refine p_iinc (lv9 := [(4, .int (nI (j + 1))), (5, .int (-3)), (0, .ref (md 0)), (1, .int (nI i)), (2, .int ((bsI (mrow Am i) (-1 * nI j) (bsI (mrow Am i) (1 * nI j) (bsS (mrow Am i) j))).1)), (3, .int (nI (bsI (mrow Am i) (-1 * nI j) (bsI (mrow Am i) (1 * nI j) (bsS (mrow Am i) j))).2))]) (v := (nI (j + 1))) C (j := 5) rfl (i_up j) (by decide) rfl dX3_shiftFor_108 ?_
                  refine p_goto C 8 (by decide) dX3_shiftFor_111 ?_
                  refine p_lv (lv9 := [(0, .ref (md 0)), (1, .int (nI i)), (2, .int ((bsI (mrow Am i) (-1 * nI j) (bsI (mrow Am i) (1 * nI j) (bsS (mrow Am i) j))).1)), (3, .int (nI (bsI (mrow Am i) (-1 * nI j) (bsI (mrow Am i) (1 * nI j) (bsS (mrow Am i) j))).2)), (4, .int (nI (j + 1)))]) [2, 3, 4, 5, 0] rfl ?_
                  refine p_lvE (lv9 := [(0, .ref (md 0)), (1, .int (nI i)), (2, .int ((bsS (mrow Am i) (j + 1)).1)), (3, .int (nI (bsS (mrow Am i) (j + 1)).2)), (4, .int (nI (j + 1)))]) (by rw [bsS_s]) ?_
                  exact ih8 _ (j + 1) (by omega)
                · refine p_goto C 102 (by decide) dX3_shiftFor_90 ?_
                  refine p_lv (lv9 := [(0, .ref (md 0)), (1, .int (nI i)), (2, .int ((bsI (mrow Am i) (1 * nI j) (bsS (mrow Am i) j)).1)), (3, .int (nI (bsI (mrow Am i) (1 * nI j) (bsS (mrow Am i) j)).2)), (4, .int (nI j)), (5, .int (-1))]) [0, 1, 2, 3, 4, 5] rfl ?_
                  refine p_lvE (lv9 := [(0, .ref (md 0)), (1, .int (nI i)), (2, .int ((bsI (mrow Am i) (-1 * nI j) (bsI (mrow Am i) (1 * nI j) (bsS (mrow Am i) j))).1)), (3, .int (nI (bsI (mrow Am i) (-1 * nI j) (bsI (mrow Am i) (1 * nI j) (bsS (mrow Am i) j))).2)), (4, .int (nI j)), (5, .int (-1))]) (by rw [bs_f (bsI_le (bsS_le _ _)) c_87] <;> rfl) ?_
                  refine p_iinc (lv9 := [(5, .int (-3)), (0, .ref (md 0)), (1, .int (nI i)), (2, .int ((bsI (mrow Am i) (-1 * nI j) (bsI (mrow Am i) (1 * nI j) (bsS (mrow Am i) j))).1)), (3, .int (nI (bsI (mrow Am i) (-1 * nI j) (bsI (mrow Am i) (1 * nI j) (bsS (mrow Am i) j))).2)), (4, .int (nI j))]) (v := (-3)) C (j := 5) rfl (by decide) (by decide) rfl dX3_shiftFor_102 ?_
                  refine p_goto C 18 (by decide) dX3_shiftFor_105 ?_
                  refine p_iload C 0 rfl dX3_shiftFor_18 ?_
                  refine p_iconst (v := (-1)) C (by decide) dX3_shiftFor_20 ?_
                  refine p_icmp_lt C 108 (by decide) dX3_shiftFor_21 (fun c_21 => ?_) (fun c_21 => absurd c_21 (by decide))
                  refine p_iinc (lv9 := [(4, .int (nI (j + 1))), (5, .int (-3)), (0, .ref (md 0)), (1, .int (nI i)), (2, .int ((bsI (mrow Am i) (-1 * nI j) (bsI (mrow Am i) (1 * nI j) (bsS (mrow Am i) j))).1)), (3, .int (nI (bsI (mrow Am i) (-1 * nI j) (bsI (mrow Am i) (1 * nI j) (bsS (mrow Am i) j))).2))]) (v := (nI (j + 1))) C (j := 5) rfl (i_up j) (by decide) rfl dX3_shiftFor_108 ?_
                  refine p_goto C 8 (by decide) dX3_shiftFor_111 ?_
                  refine p_lv (lv9 := [(0, .ref (md 0)), (1, .int (nI i)), (2, .int ((bsI (mrow Am i) (-1 * nI j) (bsI (mrow Am i) (1 * nI j) (bsS (mrow Am i) j))).1)), (3, .int (nI (bsI (mrow Am i) (-1 * nI j) (bsI (mrow Am i) (1 * nI j) (bsS (mrow Am i) j))).2)), (4, .int (nI (j + 1)))]) [2, 3, 4, 5, 0] rfl ?_
                  refine p_lvE (lv9 := [(0, .ref (md 0)), (1, .int (nI i)), (2, .int ((bsS (mrow Am i) (j + 1)).1)), (3, .int (nI (bsS (mrow Am i) (j + 1)).2)), (4, .int (nI (j + 1)))]) (by rw [bsS_s]) ?_
                  exact ih8 _ (j + 1) (by omega)
              | succ n51 ih51 =>
                intro q9 hq9
                have hq8 : q9 < 9 := by omega
                refine p_iload C 7 rfl dX3_shiftFor_51 ?_
                refine p_bipush (v := 9) C (by decide) dX3_shiftFor_53 ?_
                refine p_icmp_ge C 84 (by decide) dX3_shiftFor_55 (fun c_55 => absurd c_55 (nI_ge (b := 9) hq8 (by decide))) (fun c_55 => ?_)
                refine p_iload C 6 rfl dX3_shiftFor_58 ?_
                refine p_aload_n C rfl 0 rfl dX3_shiftFor_60 ?_
                refine p_get (v := .ref (md 2)) (T := TX3) C 0 rfl rfl 3 (by decide) inX3 qfl_X3_13 (fun _ h9 => h9) rfl dX3_shiftFor_61 ?_
                refine p_iload C 7 rfl dX3_shiftFor_64 ?_
                refine p_iald (v := ((mv (mrow Am i) ((-1) * (nI j))) q9)) C 2 rfl (vp_in_nI (n := q9) (N := 9) (by omega) (by omega)) (by rw [show ((nI q9)).toNatClampNeg = q9 from nI_clamp (by omega)]) dX3_shiftFor_66 ?_
                refine p_if_ne C 74 (by decide) dX3_shiftFor_67 (fun c_67 => ?_) (fun c_67 => ?_)
                · refine p_iconst (v := 1) C (by decide) dX3_shiftFor_74 ?_
                  refine p_iadd C dX3_shiftFor_75 ?_
                  refine p_int (y := (nI (ptN (mv (mrow Am i) ((-1) * (nI j))) (q9 + 1)))) (by rw [show ptN (mv (mrow Am i) ((-1) * (nI j))) (q9 + 1) = ptN (mv (mrow Am i) ((-1) * (nI j))) q9 + 1 from if_neg c_67]; exact nI_1 _) ?_
                  refine p_istore (lv9 := [(6, .int (nI (ptN (mv (mrow Am i) ((-1) * (nI j))) (q9 + 1)))), (0, .ref (md 0)), (1, .int (nI i)), (2, .int ((bsI (mrow Am i) (1 * nI j) (bsS (mrow Am i) j)).1)), (3, .int (nI (bsI (mrow Am i) (1 * nI j) (bsS (mrow Am i) j)).2)), (4, .int (nI j)), (5, .int (-1)), (7, .int (nI q9))]) C (by decide) rfl dX3_shiftFor_76 ?_
                  refine p_iinc (lv9 := [(7, .int (nI (q9 + 1))), (6, .int (nI (ptN (mv (mrow Am i) ((-1) * (nI j))) (q9 + 1)))), (0, .ref (md 0)), (1, .int (nI i)), (2, .int ((bsI (mrow Am i) (1 * nI j) (bsS (mrow Am i) j)).1)), (3, .int (nI (bsI (mrow Am i) (1 * nI j) (bsS (mrow Am i) j)).2)), (4, .int (nI j)), (5, .int (-1))]) (v := (nI (q9 + 1))) C (j := 7) rfl (i_up q9) (by decide) rfl dX3_shiftFor_78 ?_
                  refine p_goto C 51 (by decide) dX3_shiftFor_81 ?_
                  refine p_lv (lv9 := [(0, .ref (md 0)), (1, .int (nI i)), (2, .int ((bsI (mrow Am i) (1 * nI j) (bsS (mrow Am i) j)).1)), (3, .int (nI (bsI (mrow Am i) (1 * nI j) (bsS (mrow Am i) j)).2)), (4, .int (nI j)), (5, .int (-1)), (6, .int (nI (ptN (mv (mrow Am i) ((-1) * (nI j))) (q9 + 1)))), (7, .int (nI (q9 + 1)))]) [2, 3, 4, 5, 6, 7, 1, 0] rfl ?_
                  exact ih51 (q9 + 1) (by omega)
                · refine p_iconst (v := 0) C (by decide) dX3_shiftFor_70 ?_
                  refine p_goto C 75 (by decide) dX3_shiftFor_71 ?_
                  refine p_iadd C dX3_shiftFor_75 ?_
                  refine p_int (y := (nI (ptN (mv (mrow Am i) ((-1) * (nI j))) (q9 + 1)))) ((Int32.add_zero _).trans (by rw [show ptN (mv (mrow Am i) ((-1) * (nI j))) (q9 + 1) = ptN (mv (mrow Am i) ((-1) * (nI j))) q9 from if_pos c_67])) ?_
                  refine p_istore (lv9 := [(6, .int (nI (ptN (mv (mrow Am i) ((-1) * (nI j))) (q9 + 1)))), (0, .ref (md 0)), (1, .int (nI i)), (2, .int ((bsI (mrow Am i) (1 * nI j) (bsS (mrow Am i) j)).1)), (3, .int (nI (bsI (mrow Am i) (1 * nI j) (bsS (mrow Am i) j)).2)), (4, .int (nI j)), (5, .int (-1)), (7, .int (nI q9))]) C (by decide) rfl dX3_shiftFor_76 ?_
                  refine p_iinc (lv9 := [(7, .int (nI (q9 + 1))), (6, .int (nI (ptN (mv (mrow Am i) ((-1) * (nI j))) (q9 + 1)))), (0, .ref (md 0)), (1, .int (nI i)), (2, .int ((bsI (mrow Am i) (1 * nI j) (bsS (mrow Am i) j)).1)), (3, .int (nI (bsI (mrow Am i) (1 * nI j) (bsS (mrow Am i) j)).2)), (4, .int (nI j)), (5, .int (-1))]) (v := (nI (q9 + 1))) C (j := 7) rfl (i_up q9) (by decide) rfl dX3_shiftFor_78 ?_
                  refine p_goto C 51 (by decide) dX3_shiftFor_81 ?_
                  refine p_lv (lv9 := [(0, .ref (md 0)), (1, .int (nI i)), (2, .int ((bsI (mrow Am i) (1 * nI j) (bsS (mrow Am i) j)).1)), (3, .int (nI (bsI (mrow Am i) (1 * nI j) (bsS (mrow Am i) j)).2)), (4, .int (nI j)), (5, .int (-1)), (6, .int (nI (ptN (mv (mrow Am i) ((-1) * (nI j))) (q9 + 1)))), (7, .int (nI (q9 + 1)))]) [2, 3, 4, 5, 6, 7, 1, 0] rfl ?_
                  exact ih51 (q9 + 1) (by omega)
            exact lp51 9 0 rfl
        | succ n51 ih51 =>
          intro q9 hq9
          have hq8 : q9 < 9 := by omega
          refine p_iload C 7 rfl dX3_shiftFor_51 ?_
          refine p_bipush (v := 9) C (by decide) dX3_shiftFor_53 ?_
          refine p_icmp_ge C 84 (by decide) dX3_shiftFor_55 (fun c_55 => absurd c_55 (nI_ge (b := 9) hq8 (by decide))) (fun c_55 => ?_)
          refine p_iload C 6 rfl dX3_shiftFor_58 ?_
          refine p_aload_n C rfl 0 rfl dX3_shiftFor_60 ?_
          refine p_get (v := .ref (md 2)) (T := TX3) C 0 rfl rfl 3 (by decide) inX3 qfl_X3_13 (fun _ h9 => h9) rfl dX3_shiftFor_61 ?_
          refine p_iload C 7 rfl dX3_shiftFor_64 ?_
          refine p_iald (v := ((mv (mrow Am i) (1 * (nI j))) q9)) C 2 rfl (vp_in_nI (n := q9) (N := 9) (by omega) (by omega)) (by rw [show ((nI q9)).toNatClampNeg = q9 from nI_clamp (by omega)]) dX3_shiftFor_66 ?_
          refine p_if_ne C 74 (by decide) dX3_shiftFor_67 (fun c_67 => ?_) (fun c_67 => ?_)
          · refine p_iconst (v := 1) C (by decide) dX3_shiftFor_74 ?_
            refine p_iadd C dX3_shiftFor_75 ?_
            refine p_int (y := (nI (ptN (mv (mrow Am i) (1 * (nI j))) (q9 + 1)))) (by rw [show ptN (mv (mrow Am i) (1 * (nI j))) (q9 + 1) = ptN (mv (mrow Am i) (1 * (nI j))) q9 + 1 from if_neg c_67]; exact nI_1 _) ?_
            refine p_istore (lv9 := [(6, .int (nI (ptN (mv (mrow Am i) (1 * (nI j))) (q9 + 1)))), (0, .ref (md 0)), (1, .int (nI i)), (2, .int ((bsS (mrow Am i) j).1)), (3, .int (nI (bsS (mrow Am i) j).2)), (4, .int (nI j)), (5, .int 1), (7, .int (nI q9))]) C (by decide) rfl dX3_shiftFor_76 ?_
            refine p_iinc (lv9 := [(7, .int (nI (q9 + 1))), (6, .int (nI (ptN (mv (mrow Am i) (1 * (nI j))) (q9 + 1)))), (0, .ref (md 0)), (1, .int (nI i)), (2, .int ((bsS (mrow Am i) j).1)), (3, .int (nI (bsS (mrow Am i) j).2)), (4, .int (nI j)), (5, .int 1)]) (v := (nI (q9 + 1))) C (j := 7) rfl (i_up q9) (by decide) rfl dX3_shiftFor_78 ?_
            refine p_goto C 51 (by decide) dX3_shiftFor_81 ?_
            refine p_lv (lv9 := [(0, .ref (md 0)), (1, .int (nI i)), (2, .int ((bsS (mrow Am i) j).1)), (3, .int (nI (bsS (mrow Am i) j).2)), (4, .int (nI j)), (5, .int 1), (6, .int (nI (ptN (mv (mrow Am i) (1 * (nI j))) (q9 + 1)))), (7, .int (nI (q9 + 1)))]) [2, 3, 4, 5, 6, 7, 1, 0] rfl ?_
            exact ih51 (q9 + 1) (by omega)
          · refine p_iconst (v := 0) C (by decide) dX3_shiftFor_70 ?_
            refine p_goto C 75 (by decide) dX3_shiftFor_71 ?_
            refine p_iadd C dX3_shiftFor_75 ?_
            refine p_int (y := (nI (ptN (mv (mrow Am i) (1 * (nI j))) (q9 + 1)))) ((Int32.add_zero _).trans (by rw [show ptN (mv (mrow Am i) (1 * (nI j))) (q9 + 1) = ptN (mv (mrow Am i) (1 * (nI j))) q9 from if_pos c_67])) ?_
            refine p_istore (lv9 := [(6, .int (nI (ptN (mv (mrow Am i) (1 * (nI j))) (q9 + 1)))), (0, .ref (md 0)), (1, .int (nI i)), (2, .int ((bsS (mrow Am i) j).1)), (3, .int (nI (bsS (mrow Am i) j).2)), (4, .int (nI j)), (5, .int 1), (7, .int (nI q9))]) C (by decide) rfl dX3_shiftFor_76 ?_
            refine p_iinc (lv9 := [(7, .int (nI (q9 + 1))), (6, .int (nI (ptN (mv (mrow Am i) (1 * (nI j))) (q9 + 1)))), (0, .ref (md 0)), (1, .int (nI i)), (2, .int ((bsS (mrow Am i) j).1)), (3, .int (nI (bsS (mrow Am i) j).2)), (4, .int (nI j)), (5, .int 1)]) (v := (nI (q9 + 1))) C (j := 7) rfl (i_up q9) (by decide) rfl dX3_shiftFor_78 ?_
            refine p_goto C 51 (by decide) dX3_shiftFor_81 ?_
            refine p_lv (lv9 := [(0, .ref (md 0)), (1, .int (nI i)), (2, .int ((bsS (mrow Am i) j).1)), (3, .int (nI (bsS (mrow Am i) j).2)), (4, .int (nI j)), (5, .int 1), (6, .int (nI (ptN (mv (mrow Am i) (1 * (nI j))) (q9 + 1)))), (7, .int (nI (q9 + 1)))]) [2, 3, 4, 5, 6, 7, 1, 0] rfl ?_
            exact ih51 (q9 + 1) (by omega)
      exact lp51 9 0 rfl
  exact lp8 21 _ 0 rfl
set_option maxHeartbeats 4000000 in
set_option maxRecDepth 100000 in
/-- X3_bestShift -/
theorem m_X3_bestShift (l : Launch) (D : va_G) (k : Nat → ClassId) {md : Nat → Nat} {th : Int32} {n : Nat} {Am Wk Mo : Nat → Int32} {v cp : Nat} {bt : Nat → Int32} {ml cn : Int32} {Y : va_W} (hn : n ≤ 16) {rc : Int32} : CtI l D k yX3_bestShift (wU yX3_bestShift cX3_bestShift 2 (some .int)) (rmL 4 0 0) [.ref (md 0), .int rc] (MW k md th (nI n) Am Wk Mo v cp bt ml cn Y) (fun r w' => ∃ Wk' Mo' : Nat → Int32, w' = (MW k md (e1 n rc) (nI n) Am Wk' Mo' v cp bt ml cn Y) ∧ ((e1 n rc) = 0 → r = bs (mrow Am (ix rc)))) := by
  refine openI (own := RX3) rfl (by decide) (Nat.le_of_ble_eq_true rfl) rfl ?_
  intro p e s m args below meth c A C hrt9 hnm
  obtain ⟨Q, hQ⟩ : ∃ Q, Q = (MQ below (va_Qi (fun r w' => ∃ Wk' Mo' : Nat → Int32, w' = (MW k md (e1 n rc) (nI n) Am Wk' Mo' v cp bt ml cn Y) ∧ ((e1 n rc) = 0 → r = bs (mrow Am (ix rc)))) (cBA D A) A) args s 0 0 A) := ⟨_, rfl⟩
  show WP p l e (rmL 4 0 0) s m args below meth c D A 2 (MW k md th (nI n) Am Wk Mo v cp bt ml cn Y) [(0, .ref (md 0)), (1, .int rc)] 0 0 (MQ below (va_Qi (fun r w' => ∃ Wk' Mo' : Nat → Int32, w' = (MW k md (e1 n rc) (nI n) Am Wk' Mo' v cp bt ml cn Y) ∧ ((e1 n rc) = 0 → r = bs (mrow Am (ix rc)))) (cBA D A) A) args s 0 0 A) 0 []
  rw [← hQ]
  refine p_aload_n C rfl 0 rfl dX3_bestShift_0 ?_
  refine p_iconst (v := 0) C (by decide) dX3_bestShift_1 ?_
  refine p_put (w9 := (MW k md 0 (nI n) Am Wk Mo v cp bt ml cn Y)) (v := .int 0) (T := TX3) C tyX3 tyX3_ok nmX3 0 rfl rfl 0 (by decide) inX3 qfl_X3_26 (fun _ h9 => h9) rfl rfl rfl (Nat.le_of_ble_eq_true rfl) rfl dX3_bestShift_2 ?_
  refine p_aload_n C rfl 0 rfl dX3_bestShift_5 ?_
  refine p_iload_n C rfl 1 rfl dX3_bestShift_6 ?_
  refine c_Vi (As := [.int rc]) (rest := []) C (m_X3_isRecipe l D k (x := rc)) 0 rfl rfl rfl qml_X3_73 qim_X3_isRecipe qse_X3_X3_isRecipe qin_X3 qco_X3_isRecipe nd_X3_isRecipe ⟨Nat.le_of_ble_eq_true rfl, Nat.le_of_ble_eq_true rfl⟩ (Nat.le_of_ble_eq_true rfl) ⟨Nat.le_of_ble_eq_true rfl, Nat.le_of_ble_eq_true rfl⟩ rfl dX3_bestShift_7 (fun r9 w9 h9 => ?_)
  obtain ⟨e9, rfl⟩ := h9
  refine p_int e9 ?_
  refine p_if_eq C 21 (by decide) dX3_bestShift_10 (fun c_10 => ?_) (fun c_10 => ?_)
  · have hr := bI_eq c_10
    refine p_aload_n C rfl 0 rfl dX3_bestShift_21 ?_
    refine p_iconst (v := 1) C (by decide) dX3_bestShift_22 ?_
    refine c_Vi (As := [.int 1]) (rest := []) C (m_X3_no l D k (x := 1)) 0 rfl rfl rfl qml_X3_66 qim_X3_no qse_X3_X3_no qin_X3 qco_X3_no nd_X3_no ⟨Nat.le_of_ble_eq_true rfl, Nat.le_of_ble_eq_true rfl⟩ (Nat.le_of_ble_eq_true rfl) ⟨Nat.le_of_ble_eq_true rfl, Nat.le_of_ble_eq_true rfl⟩ rfl dX3_bestShift_23 (fun r9 w9 h9 => ?_)
    obtain ⟨e9, rfl⟩ := h9
    refine p_int e9 ?_
    rw [hQ]
    exact r_i C hrt9 (⟨_, _, by rw [show e1 n rc = 1 from by unfold e1; rw [hr]; rfl], fun q => absurd q (by rw [show e1 n rc = 1 from by unfold e1; rw [hr]; rfl]; exact one_n0)⟩) (by decide) (by decide) dX3_bestShift_26
  · obtain ⟨i, hi, rfl⟩ := isR_spec hn (bI_ne c_10)
    have vi := isR_of hn hi
    refine p_aload_n C rfl 0 rfl dX3_bestShift_13 ?_
    refine p_iload_n C rfl 1 rfl dX3_bestShift_14 ?_
    refine c_Vi (As := [.int (nI i)]) (rest := []) C (m_X3_shiftFor l D k (i := i) (by omega)) 0 rfl rfl rfl qml_X3_167 qim_X3_shiftFor qse_X3_X3_shiftFor qin_X3 qco_X3_shiftFor nd_X3_shiftFor ⟨Nat.le_of_ble_eq_true rfl, Nat.le_of_ble_eq_true rfl⟩ (Nat.le_of_ble_eq_true rfl) ⟨Nat.le_of_ble_eq_true rfl, Nat.le_of_ble_eq_true rfl⟩ rfl dX3_bestShift_15 (fun r9 w9 h9 => ?_)
    obtain ⟨e9, WkS, rfl⟩ := h9
    refine p_int e9 ?_
    refine p_goto C 26 (by decide) dX3_bestShift_18 ?_
    rw [hQ]
    exact r_i C hrt9 (⟨_, _, by rw [show e1 n (nI i) = 0 from by unfold e1; rw [vi]; rfl], fun _ => by rw [ix_nI (by omega)]⟩) (by decide) (by decide) dX3_bestShift_26

set_option maxHeartbeats 4000000 in
set_option maxRecDepth 100000 in
/-- meanDegree -/
theorem m_X3_meanDegree (l : Launch) (D : va_G) (k : Nat → ClassId) {md : Nat → Nat} {th : Int32} {n : Nat} {Am Wk Mo : Nat → Int32} {v cp : Nat} {bt : Nat → Int32} {ml cn : Int32} {Y : va_W} (hn : n ≤ 16) : CtD l D k yX3_meanDegree (wU yX3_meanDegree cX3_meanDegree 3 (some .double)) (rmL 3 0 0) [.ref (md 0)] (MW k md th (nI n) Am Wk Mo v cp bt ml cn Y) (fun r w' => r = mdg (mrow Am) n ∧ w' = (MW k md 0 (nI n) Am Wk Mo v cp bt ml cn Y)) := by
  refine openD (own := RX3) rfl (by decide) (Nat.le_of_ble_eq_true rfl) rfl ?_
  intro p e s m args below meth c A C hrt9 hnm
  obtain ⟨Q, hQ⟩ : ∃ Q, Q = (MQ below (va_Qd (fun r w' => r = mdg (mrow Am) n ∧ w' = (MW k md 0 (nI n) Am Wk Mo v cp bt ml cn Y)) (cBA D A) A) args s 0 0 A) := ⟨_, rfl⟩
  show WP p l e (rmL 3 0 0) s m args below meth c D A 3 (MW k md th (nI n) Am Wk Mo v cp bt ml cn Y) [(0, .ref (md 0))] 0 0 (MQ below (va_Qd (fun r w' => r = mdg (mrow Am) n ∧ w' = (MW k md 0 (nI n) Am Wk Mo v cp bt ml cn Y)) (cBA D A) A) args s 0 0 A) 0 []
  rw [← hQ]
  refine p_aload_n C rfl 0 rfl dX3_meanDegree_0 ?_
  refine p_iconst (v := 0) C (by decide) dX3_meanDegree_1 ?_
  refine p_put (w9 := (MW k md 0 (nI n) Am Wk Mo v cp bt ml cn Y)) (v := .int 0) (T := TX3) C tyX3 tyX3_ok nmX3 0 rfl rfl 0 (by decide) inX3 qfl_X3_26 (fun _ h9 => h9) rfl rfl rfl (Nat.le_of_ble_eq_true rfl) rfl dX3_meanDegree_2 ?_
  refine p_iconst (v := 0) C (by decide) dX3_meanDegree_5 ?_
  refine p_istore_n (lv9 := [(1, .int 0), (0, .ref (md 0))]) C rfl (by decide) rfl dX3_meanDegree_6 ?_
  refine p_iconst (v := (nI 0)) C (by decide) dX3_meanDegree_7 ?_
  refine p_istore_n (lv9 := [(2, .int (nI 0)), (1, .int 0), (0, .ref (md 0))]) C rfl (by decide) rfl dX3_meanDegree_8 ?_
  refine p_lv (lv9 := [(0, .ref (md 0)), (1, .int 0), (2, .int (nI 0))]) [2, 1, 0] rfl ?_
  have lp9 : ∀ (n9 : Nat) (j : Nat), (hj : j + n9 = n) → WP p l e (rmL 3 0 0) s m args below meth c D A 3 (MW k md 0 (nI n) Am Wk Mo v cp bt ml cn Y) [(0, .ref (md 0)), (1, .int (mdN (mrow Am) j)), (2, .int (nI j))] 0 0 Q 9 [] := by
    intro n9
    induction n9 with
    | zero =>
      intro j hj
      obtain rfl : n = j := by omega
      refine p_iload_n C rfl 2 rfl dX3_meanDegree_9 ?_
      refine p_aload_n C rfl 0 rfl dX3_meanDegree_10 ?_
      refine p_get (v := .int (nI n)) (T := TX3) C 0 rfl rfl 1 (by decide) inX3 qfl_X3_30 (fun _ h9 => h9) rfl dX3_meanDegree_11 ?_
      refine p_icmp_ge C 31 (by decide) dX3_meanDegree_14 (fun c_14 => ?_) (fun c_14 => absurd (Int32.le_refl _) c_14)
      refine p_aload_n C rfl 0 rfl dX3_meanDegree_31 ?_
      refine p_get (v := .int (nI n)) (T := TX3) C 0 rfl rfl 1 (by decide) inX3 qfl_X3_30 (fun _ h9 => h9) rfl dX3_meanDegree_32 ?_
      refine p_if_ne C 42 (by decide) dX3_meanDegree_35 (fun c_35 => ?_) (fun c_35 => ?_)
      · have hn0 : 0 < n := Nat.pos_of_ne_zero (fun q => c_35 (by rw [q]; rfl))
        refine p_iload_n C rfl 1 rfl dX3_meanDegree_42 ?_
        refine p_i2d C dX3_meanDegree_43 ?_
        refine p_aload_n C rfl 0 rfl dX3_meanDegree_44 ?_
        refine p_get (v := .int (nI n)) (T := TX3) C 0 rfl rfl 1 (by decide) inX3 qfl_X3_30 (fun _ h9 => h9) rfl dX3_meanDegree_45 ?_
        refine p_i2d C dX3_meanDegree_48 ?_
        refine p_ddiv C (md_n64 hn hn0) dX3_meanDegree_49 ?_
        rw [hQ]
        exact r_d C hrt9 (⟨(if_neg (by omega)).symm, rfl⟩) (by decide) (by decide) dX3_meanDegree_50
      · have hn0 : n = 0 := (@nI_eq n 0 (by omega) (by omega)).mp c_35
        refine p_dconst0 C dX3_meanDegree_38 ?_
        refine p_goto C 50 (by decide) dX3_meanDegree_39 ?_
        rw [hQ]
        exact r_d C hrt9 (⟨(if_pos hn0).symm, rfl⟩) (by decide) (by decide) dX3_meanDegree_50
    | succ n9 ih9 =>
      intro j hj
      have hj2 : j < n := by omega
      refine p_iload_n C rfl 2 rfl dX3_meanDegree_9 ?_
      refine p_aload_n C rfl 0 rfl dX3_meanDegree_10 ?_
      refine p_get (v := .int (nI n)) (T := TX3) C 0 rfl rfl 1 (by decide) inX3 qfl_X3_30 (fun _ h9 => h9) rfl dX3_meanDegree_11 ?_
      refine p_icmp_ge C 31 (by decide) dX3_meanDegree_14 (fun c_14 => absurd c_14 (nI_ge hj2 (by omega))) (fun c_14 => ?_)
      refine p_iload_n C rfl 1 rfl dX3_meanDegree_17 ?_
      refine p_aload_n C rfl 0 rfl dX3_meanDegree_18 ?_
      refine p_iload_n C rfl 2 rfl dX3_meanDegree_19 ?_
      refine c_Vi (As := [.int (nI j)]) (rest := [.int (mdN (mrow Am) j)]) C (m_X3_degreeNow l D k (i := j) (by omega)) 0 rfl rfl rfl qml_X3_51 qim_X3_degreeNow qse_X3_X3_degreeNow qin_X3 qco_X3_degreeNow nd_X3_degreeNow ⟨Nat.le_of_ble_eq_true rfl, Nat.le_of_ble_eq_true rfl⟩ (Nat.le_of_ble_eq_true rfl) ⟨Nat.le_of_ble_eq_true rfl, Nat.le_of_ble_eq_true rfl⟩ rfl dX3_meanDegree_20 (fun r9 w9 h9 => ?_)
      obtain ⟨e9, rfl⟩ := h9
      refine p_int e9 ?_
      refine p_iadd C dX3_meanDegree_23 ?_
      refine p_int (y := (mdN (mrow Am) (j + 1))) (rfl : mdN (mrow Am) j + dI (dg (mrow Am j)) = mdN (mrow Am) (j + 1)) ?_
      refine p_istore_n (lv9 := [(1, .int (mdN (mrow Am) (j + 1))), (0, .ref (md 0)), (2, .int (nI j))]) C rfl (by decide) rfl dX3_meanDegree_24 ?_
      refine p_iinc (lv9 := [(2, .int (nI (j + 1))), (1, .int (mdN (mrow Am) (j + 1))), (0, .ref (md 0))]) (v := (nI (j + 1))) C (j := 2) rfl (i_up j) (by decide) rfl dX3_meanDegree_25 ?_
      refine p_goto C 9 (by decide) dX3_meanDegree_28 ?_
      refine p_lv (lv9 := [(0, .ref (md 0)), (1, .int (mdN (mrow Am) (j + 1))), (2, .int (nI (j + 1)))]) [2, 1, 0] rfl ?_
      exact ih9 (j + 1) (by omega)
  exact lp9 n 0 (by omega)
