/-- the guests from -20 on -/
def gI (j : Nat) : Int32 := nI j - 20
theorem gI_s (j : Nat) : gI j + Int32.ofInt 1 = gI (j + 1) := by
  unfold gI
  rw [← nI_1 j, show Int32.ofInt 1 = (1 : Int32) from rfl, Int32.sub_eq_add_neg, Int32.sub_eq_add_neg, Int32.add_assoc, Int32.add_assoc, Int32.add_comm (-20) 1]
theorem gI_le : ∀ j, j < 41 → ¬ (20 : Int32) < gI j := by decide +kernel
theorem gI_41 : (20 : Int32) < gI 41 := by decide
theorem gI_0 : gI 0 = (-20 : Int32) := by decide
def idN (f : Nat → Int32) : Nat → Nat
  | 0 => 0
  | j + 1 => if hg f (gI j) = 0 then idN f j + 1 else idN f j
def idl (f : Nat → Int32) : Nat := idN f 41
def fiN (f : Nat → Int32) : Nat → Int32
  | 0 => 99
  | n + 1 => if hg f (gI (40 - n)) = 0 then gI (40 - n) else fiN f n
def fi (f : Nat → Int32) : Int32 := fiN f 41
def leN (f : Nat → Int32) : Nat → Nat
  | 0 => 1
  | i + 1 => if hg f (nI (i + 2)) < hg f (nI (leN f i)) then i + 2 else leN f i
def lea (f : Nat → Int32) : Nat := leN f 19
def huN (f : Nat → Int32) : Nat → Int64
  | 0 => 0
  | i + 1 => huN f i + (hg f (nI (i + 1))).toInt64
/-- the last amount that is not 0, and how often the sign has changed -/
def scN (f : Nat → Int32) : Nat → Int32 × Nat
  | 0 => (0, 0)
  | i + 1 => if f i = 0 then scN f i else (f i, if ¬ (scN f i).1 = 0 ∧ ¬ ((scN f i).1 < 0 ↔ f i < 0) then (scN f i).2 + 1 else (scN f i).2)
def sc (f : Nat → Int32) : Nat := (scN f 9).2
def sgn (x : Int32) : Int32 := if x < 0 then -1 else if x = 0 then 0 else 1
theorem sgn_n {x : Int32} (h : x < 0) : sgn x = -1 := if_pos h
theorem sgn_0 : sgn 0 = 0 := by decide
theorem sgn_p {x : Int32} (h : ¬ x < 0) (h0 : ¬ x = 0) : sgn x = 1 := by unfold sgn; rw [if_neg h, if_neg h0]
theorem sgn_z {x : Int32} : sgn x = 0 ↔ x = 0 := by
  by_cases h : x < 0
  · rw [sgn_n h]
    exact ⟨fun q => absurd q (by decide), fun q => by subst q; exact absurd h (by decide)⟩
  · by_cases h0 : x = 0
    · subst h0; exact ⟨fun _ => rfl, fun _ => sgn_0⟩
    · rw [sgn_p h h0]
      exact ⟨fun q => absurd q (by decide), fun q => absurd q h0⟩
theorem sgn_mul {x y : Int32} : sgn x * sgn y < 0 ↔ ¬ x = 0 ∧ ¬ y = 0 ∧ ¬ (y < 0 ↔ x < 0) := by
  by_cases hx : x < 0 <;> by_cases hy : y < 0
  · rw [sgn_n hx, sgn_n hy]
    exact ⟨fun q => absurd q (by decide), fun q => absurd ⟨fun _ => hx, fun _ => hy⟩ q.2.2⟩
  · by_cases h0 : y = 0
    · subst h0; rw [sgn_n hx, sgn_0]
      exact ⟨fun q => absurd q (by decide), fun q => absurd rfl q.2.1⟩
    · rw [sgn_n hx, sgn_p hy h0]
      exact ⟨fun _ => ⟨fun q => by subst q; exact absurd hx (by decide), h0, fun q => hy (q.mpr hx)⟩, fun _ => by decide⟩
  · by_cases h0 : x = 0
    · subst h0; rw [sgn_n hy, sgn_0]
      exact ⟨fun q => absurd q (by decide), fun q => absurd rfl q.1⟩
    · rw [sgn_n hy, sgn_p hx h0]
      exact ⟨fun _ => ⟨h0, fun q => by subst q; exact absurd hy (by decide), fun q => hx (q.mp hy)⟩, fun _ => by decide⟩
  · by_cases h0 : x = 0
    · subst h0; rw [sgn_0, Int32.zero_mul]
      exact ⟨fun q => absurd q (by decide), fun q => absurd rfl q.1⟩
    · by_cases h1 : y = 0
      · subst h1; rw [sgn_0, Int32.mul_zero]
        exact ⟨fun q => absurd q (by decide), fun q => absurd rfl q.2.1⟩
      · rw [sgn_p hx h0, sgn_p hy h1]
        exact ⟨fun q => absurd q (by decide), fun q => absurd ⟨fun z => absurd z hy, fun z => absurd z hx⟩ q.2.2⟩
theorem sgn_bits (x : Int32) : ((x >>> ((31 : Int32) &&& 31)) ||| ((-x).toUInt32 >>> ((31 : Int32).toUInt32 &&& Int32.toUInt32 31)).toInt32) = sgn x := by
  have h1 := pk_shr x ((31 : Int32) &&& 31) 31 (by decide)
  have h2 := pk_ushr (-x) (31 : Int32) 31 (by decide)
  have hlt := x.toInt_lt
  have hle := x.le_toInt
  have e31 : ∀ z : Int, z >>> 31 = z / 2147483648 := fun z => by rw [Int.shiftRight_eq_div_pow]; rfl
  rw [e31] at h1
  by_cases hx : x < 0
  · rw [sgn_n hx]
    have hx2 : x.toInt < 0 := by have := Int32.lt_iff_toInt_lt.mp hx; exact this
    have e1 : x >>> ((31 : Int32) &&& 31) = -1 := Int32.toInt_inj.mp (by rw [h1]; show _ = (-1 : Int); omega)
    rw [e1]
    apply Int32.toBitVec_inj.mp
    rw [Int32.toBitVec_or]
    exact BitVec.allOnes_or
  · have hx2 : 0 ≤ x.toInt := by have := Int32.not_lt.mp hx; exact Int32.le_iff_toInt_le.mp this
    have e1 : x >>> ((31 : Int32) &&& 31) = 0 := Int32.toInt_inj.mp (by rw [h1]; show _ = (0 : Int); omega)
    rw [e1, Int32.zero_or]
    by_cases h0 : x = 0
    · subst h0; decide
    · rw [sgn_p hx h0]
      have h3 : 0 < x.toInt := by
        rcases Int.lt_or_eq_of_le hx2 with q | q
        · exact q
        · exact absurd (Int32.toInt_inj.mp (q.symm.trans rfl)) h0
      have h4 : (-x).toInt = -x.toInt := by rw [Int32.toInt_neg, Int.bmod_eq_of_le (by omega) (by omega)]
      have h5 : (-x).toBitVec.toNat = 4294967296 - x.toInt.toNat := by
        have h6 : (-x).toInt = (-x).toBitVec.toInt := rfl
        rw [h4, BitVec.toInt_eq_toNat_cond] at h6
        have h7 := (-x).toBitVec.isLt
        split at h6 <;> omega
      apply Int32.toBitVec_inj.mp
      apply BitVec.eq_of_toNat_eq
      rw [h2, h5]
      show _ = 1
      omega
theorem ch_sg (f : Nat → Int32) (i : Nat) : sgn (scN f (i + 1)).1 = if sgn (f i) = 0 then sgn (scN f i).1 else sgn (f i) := by
  show sgn (if f i = 0 then scN f i else (f i, if ¬ (scN f i).1 = 0 ∧ ¬ ((scN f i).1 < 0 ↔ f i < 0) then (scN f i).2 + 1 else (scN f i).2)).1 = _
  by_cases h : f i = 0
  · rw [if_pos h, if_pos (sgn_z.mpr h)]
  · rw [if_neg h, if_neg (fun q => h (sgn_z.mp q))]
theorem ch_ct (f : Nat → Int32) (i : Nat) : (scN f (i + 1)).2 = if sgn (f i) * sgn (scN f i).1 < 0 then (scN f i).2 + 1 else (scN f i).2 := by
  by_cases h : f i = 0
  · rw [if_neg (fun q => (sgn_mul.mp q).1 h)]
    show (if f i = 0 then scN f i else _).2 = _
    rw [if_pos h]
  · show (if f i = 0 then scN f i else (f i, if ¬ (scN f i).1 = 0 ∧ ¬ ((scN f i).1 < 0 ↔ f i < 0) then (scN f i).2 + 1 else (scN f i).2)).2 = _
    rw [if_neg h]
    by_cases q : ¬ (scN f i).1 = 0 ∧ ¬ ((scN f i).1 < 0 ↔ f i < 0)
    · rw [if_pos (sgn_mul.mpr ⟨h, q.1, q.2⟩)]; exact if_pos q
    · rw [if_neg (fun z => q (sgn_mul.mp z).2)]; exact if_neg q
theorem ab64 {x : Int32} (h : 0 ≤ lg_cmp x.toInt64 0) : x.toInt64 = lN (ab x) := ab_t h
set_option maxHeartbeats 4000000 in
set_option maxRecDepth 100000 in
/-- Integer.signum -/
theorem m_J6_signum (l : Launch) (D : va_G) (k : Nat → ClassId) {w : va_W} {x : Int32} : CtI l D k yJ6_signum_0f7a4 (wU yJ6_signum_0f7a4 cJ6_signum_0f7a4 1 (some .int)) (rmL 0 0 0) [.int x] w (fun r w' => r = sgn x ∧ w' = w) := by
  refine openI (own := RJ6) rfl (by decide) (Nat.le_of_ble_eq_true rfl) rfl ?_
  intro p e s m args below meth c A C hrt9 hnm
  obtain ⟨Q, hQ⟩ : ∃ Q, Q = (MQ below (va_Qi (fun r w' => r = sgn x ∧ w' = w) (cBA D A) A) args s 0 0 A) := ⟨_, rfl⟩
  show WP p l e (rmL 0 0 0) s m args below meth c D A 1 w [(0, .int x)] 0 0 (MQ below (va_Qi (fun r w' => r = sgn x ∧ w' = w) (cBA D A) A) args s 0 0 A) 0 []
  rw [← hQ]
  refine p_iload_n C rfl 0 rfl dJ6_signum_0f7a4_0 ?_
  refine p_bipush (v := 31) C (by decide) dJ6_signum_0f7a4_1 ?_
  refine p_ishr C dJ6_signum_0f7a4_3 ?_
  refine p_iload_n C rfl 0 rfl dJ6_signum_0f7a4_4 ?_
  refine p_ineg C dJ6_signum_0f7a4_5 ?_
  refine p_bipush (v := 31) C (by decide) dJ6_signum_0f7a4_6 ?_
  refine p_iushr C dJ6_signum_0f7a4_8 ?_
  refine p_ior C dJ6_signum_0f7a4_9 ?_
  rw [hQ]
  exact r_i C hrt9 (⟨sgn_bits x, rfl⟩) (by decide) (by decide) dJ6_signum_0f7a4_10
set_option maxHeartbeats 4000000 in
set_option maxRecDepth 100000 in
/-- X3_idle -/
theorem m_X3_idle (l : Launch) (D : va_G) (k : Nat → ClassId) {md : Nat → Nat} {th : Int32} {n : Nat} {Am Wk Mo : Nat → Int32} {v cp : Nat} {bt : Nat → Int32} {ml cn : Int32} {Y : va_W} {i : Nat} (hi : i < 16) : CtI l D k yX3_idle (wU yX3_idle cX3_idle 4 (some .int)) (rmL 1 0 0) [.ref (md 0), .int (nI i)] (MW k md th (nI n) Am Wk Mo v cp bt ml cn Y) (fun r w' => r = nI (idl (mrow Am i)) ∧ w' = (MW k md th (nI n) Am (mrow Am i) Mo v cp bt ml cn Y)) := by
  refine openI (own := RX3) rfl (by decide) (Nat.le_of_ble_eq_true rfl) rfl ?_
  intro p e s m args below meth c A C hrt9 hnm
  obtain ⟨Q, hQ⟩ : ∃ Q, Q = (MQ below (va_Qi (fun r w' => r = nI (idl (mrow Am i)) ∧ w' = (MW k md th (nI n) Am (mrow Am i) Mo v cp bt ml cn Y)) (cBA D A) A) args s 0 0 A) := ⟨_, rfl⟩
  show WP p l e (rmL 1 0 0) s m args below meth c D A 4 (MW k md th (nI n) Am Wk Mo v cp bt ml cn Y) [(0, .ref (md 0)), (1, .int (nI i))] 0 0 (MQ below (va_Qi (fun r w' => r = nI (idl (mrow Am i)) ∧ w' = (MW k md th (nI n) Am (mrow Am i) Mo v cp bt ml cn Y)) (cBA D A) A) args s 0 0 A) 0 []
  rw [← hQ]
  refine p_aload_n C rfl 0 rfl dX3_idle_0 ?_
  refine p_iload_n C rfl 1 rfl dX3_idle_1 ?_
  refine p_aload_n C rfl 0 rfl dX3_idle_2 ?_
  refine p_get (v := .ref (md 2)) (T := TX3) C 0 rfl rfl 3 (by decide) inX3 qfl_X3_13 (fun _ h9 => h9) rfl dX3_idle_3 ?_
  refine c_Vv (As := [.int (nI i), .ref (md 2)]) (rest := []) C (m_X3_take l D k (i := i) (by omega)) 0 rfl rfl rfl qml_X3_55 qim_X3_take qse_X3_X3_take qin_X3 qco_X3_take nd_X3_take ⟨Nat.le_of_ble_eq_true rfl, Nat.le_of_ble_eq_true rfl⟩ (Nat.le_of_ble_eq_true rfl) ⟨Nat.le_of_ble_eq_true rfl, Nat.le_of_ble_eq_true rfl⟩ rfl dX3_idle_6 (fun w9 h9 => ?_)
  obtain rfl := h9
  refine p_iconst (v := (nI 0)) C (by decide) dX3_idle_9 ?_
  refine p_istore_n (lv9 := [(2, .int (nI 0)), (0, .ref (md 0)), (1, .int (nI i))]) C rfl (by decide) rfl dX3_idle_10 ?_
  refine p_bipush (v := (gI 0)) C (by decide) dX3_idle_11 ?_
  refine p_istore_n (lv9 := [(3, .int (gI 0)), (2, .int (nI 0)), (0, .ref (md 0)), (1, .int (nI i))]) C rfl (by decide) rfl dX3_idle_13 ?_
  refine p_lv (lv9 := [(0, .ref (md 0)), (1, .int (nI i)), (2, .int (nI 0)), (3, .int (gI 0))]) [2, 3, 1, 0] rfl ?_
  have lp14 : ∀ (n14 : Nat) (j : Nat), (hj : j + n14 = 41) → WP p l e (rmL 1 0 0) s m args below meth c D A 4 (MW k md th (nI n) Am (mrow Am i) Mo v cp bt ml cn Y) [(0, .ref (md 0)), (1, .int (nI i)), (2, .int (nI (idN (mrow Am i) j))), (3, .int (gI j))] 0 0 Q 14 [] := by
    intro n14
    induction n14 with
    | zero =>
      intro j hj
      obtain rfl : j = 41 := by omega
      refine p_iload_n C rfl 3 rfl dX3_idle_14 ?_
      refine p_bipush (v := 20) C (by decide) dX3_idle_15 ?_
      refine p_icmp_gt C 45 (by decide) dX3_idle_17 (fun c_17 => ?_) (fun c_17 => absurd gI_41 c_17)
      refine p_iload_n C rfl 2 rfl dX3_idle_45 ?_
      rw [hQ]
      exact r_i C hrt9 (⟨rfl, rfl⟩) (by decide) (by decide) dX3_idle_46
    | succ n14 ih14 =>
      intro j hj
      have hj2 : j < 41 := by omega
      refine p_iload_n C rfl 3 rfl dX3_idle_14 ?_
      refine p_bipush (v := 20) C (by decide) dX3_idle_15 ?_
      refine p_icmp_gt C 45 (by decide) dX3_idle_17 (fun c_17 => absurd c_17 (gI_le j hj2)) (fun c_17 => ?_)
      refine p_iload_n C rfl 2 rfl dX3_idle_20 ?_
      refine p_aload_n C rfl 0 rfl dX3_idle_21 ?_
      refine p_get (v := .ref (md 2)) (T := TX3) C 0 rfl rfl 3 (by decide) inX3 qfl_X3_13 (fun _ h9 => h9) rfl dX3_idle_22 ?_
      refine p_iload_n C rfl 3 rfl dX3_idle_25 ?_
      refine c_Si (As := [.ref (md 2), .int (gI j)]) (rest := [.int (nI (idN (mrow Am i) j))]) C (m_X3_eat l D k (u := 2) (x := (gI j)) rfl) qml_X3_58 qst_X3_eat qin_X3 qco_X3_eat nd_X3_eat ⟨Nat.le_of_ble_eq_true rfl, Nat.le_of_ble_eq_true rfl⟩ (Nat.le_of_ble_eq_true rfl) ⟨Nat.le_of_ble_eq_true rfl, Nat.le_of_ble_eq_true rfl⟩ rfl dX3_idle_26 (fun r9 w9 h9 => ?_)
      obtain ⟨rfl, rfl⟩ := h9
      refine p_if_ne C 36 (by decide) dX3_idle_29 (fun c_29 => ?_) (fun c_29 => ?_)
      · refine p_iconst (v := 0) C (by decide) dX3_idle_36 ?_
        refine p_iadd C dX3_idle_37 ?_
        refine p_int (y := (nI (idN (mrow Am i) (j + 1)))) ((Int32.add_zero _).trans (by rw [show idN (mrow Am i) (j + 1) = idN (mrow Am i) j from if_neg c_29])) ?_
        refine p_istore_n (lv9 := [(2, .int (nI (idN (mrow Am i) (j + 1)))), (0, .ref (md 0)), (1, .int (nI i)), (3, .int (gI j))]) C rfl (by decide) rfl dX3_idle_38 ?_
        refine p_iinc (lv9 := [(3, .int (gI (j + 1))), (2, .int (nI (idN (mrow Am i) (j + 1)))), (0, .ref (md 0)), (1, .int (nI i))]) (v := (gI (j + 1))) C (j := 3) rfl (gI_s j) (by decide) rfl dX3_idle_39 ?_
        refine p_goto C 14 (by decide) dX3_idle_42 ?_
        refine p_lv (lv9 := [(0, .ref (md 0)), (1, .int (nI i)), (2, .int (nI (idN (mrow Am i) (j + 1)))), (3, .int (gI (j + 1)))]) [2, 3, 1, 0] rfl ?_
        exact ih14 (j + 1) (by omega)
      · refine p_iconst (v := 1) C (by decide) dX3_idle_32 ?_
        refine p_goto C 37 (by decide) dX3_idle_33 ?_
        refine p_iadd C dX3_idle_37 ?_
        refine p_int (y := (nI (idN (mrow Am i) (j + 1)))) (by rw [show idN (mrow Am i) (j + 1) = idN (mrow Am i) j + 1 from if_pos c_29]; exact nI_1 _) ?_
        refine p_istore_n (lv9 := [(2, .int (nI (idN (mrow Am i) (j + 1)))), (0, .ref (md 0)), (1, .int (nI i)), (3, .int (gI j))]) C rfl (by decide) rfl dX3_idle_38 ?_
        refine p_iinc (lv9 := [(3, .int (gI (j + 1))), (2, .int (nI (idN (mrow Am i) (j + 1)))), (0, .ref (md 0)), (1, .int (nI i))]) (v := (gI (j + 1))) C (j := 3) rfl (gI_s j) (by decide) rfl dX3_idle_39 ?_
        refine p_goto C 14 (by decide) dX3_idle_42 ?_
        refine p_lv (lv9 := [(0, .ref (md 0)), (1, .int (nI i)), (2, .int (nI (idN (mrow Am i) (j + 1)))), (3, .int (gI (j + 1)))]) [2, 3, 1, 0] rfl ?_
        exact ih14 (j + 1) (by omega)
  exact lp14 41 0 rfl
set_option maxHeartbeats 4000000 in
set_option maxRecDepth 100000 in
/-- first -/
theorem m_X3_first (l : Launch) (D : va_G) (k : Nat → ClassId) {md : Nat → Nat} {th : Int32} {n : Nat} {Am Wk Mo : Nat → Int32} {v cp : Nat} {bt : Nat → Int32} {ml cn : Int32} {Y : va_W}  : CtI l D k yX3_first (wU yX3_first cX3_first 2 (some .int)) (rmL 1 0 0) [.ref (md 0)] (MW k md th (nI n) Am Wk Mo v cp bt ml cn Y) (fun r w' => r = fi Wk ∧ w' = (MW k md th (nI n) Am Wk Mo v cp bt ml cn Y)) := by
  refine openI (own := RX3) rfl (by decide) (Nat.le_of_ble_eq_true rfl) rfl ?_
  intro p e s m args below meth c A C hrt9 hnm
  obtain ⟨Q, hQ⟩ : ∃ Q, Q = (MQ below (va_Qi (fun r w' => r = fi Wk ∧ w' = (MW k md th (nI n) Am Wk Mo v cp bt ml cn Y)) (cBA D A) A) args s 0 0 A) := ⟨_, rfl⟩
  show WP p l e (rmL 1 0 0) s m args below meth c D A 2 (MW k md th (nI n) Am Wk Mo v cp bt ml cn Y) [(0, .ref (md 0))] 0 0 (MQ below (va_Qi (fun r w' => r = fi Wk ∧ w' = (MW k md th (nI n) Am Wk Mo v cp bt ml cn Y)) (cBA D A) A) args s 0 0 A) 0 []
  rw [← hQ]
  refine p_bipush (v := (gI 0)) C (by decide) dX3_first_0 ?_
  refine p_istore_n (lv9 := [(1, .int (gI 0)), (0, .ref (md 0))]) C rfl (by decide) rfl dX3_first_2 ?_
  refine p_lv (lv9 := [(0, .ref (md 0)), (1, .int (gI 0))]) [1, 0] rfl ?_
  have lp3 : ∀ (n3 : Nat) (j : Nat), (hj : j + n3 = 41) → (hI : fi Wk = fiN Wk n3) → WP p l e (rmL 1 0 0) s m args below meth c D A 2 (MW k md th (nI n) Am Wk Mo v cp bt ml cn Y) [(0, .ref (md 0)), (1, .int (gI j))] 0 0 Q 3 [] := by
    intro n3
    induction n3 with
    | zero =>
      intro j hj hI
      obtain rfl : j = 41 := by omega
      refine p_iload_n C rfl 1 rfl dX3_first_3 ?_
      refine p_bipush (v := 20) C (by decide) dX3_first_4 ?_
      refine p_icmp_gt C 28 (by decide) dX3_first_6 (fun c_6 => ?_) (fun c_6 => absurd gI_41 c_6)
      refine p_bipush (v := 99) C (by decide) dX3_first_28 ?_
      rw [hQ]
      exact r_i C hrt9 (⟨hI.symm, rfl⟩) (by decide) (by decide) dX3_first_30
    | succ n3 ih3 =>
      intro j hj hI
      obtain rfl : j = 40 - n3 := by omega
      have hj2 : 40 - n3 < 41 := by omega
      refine p_iload_n C rfl 1 rfl dX3_first_3 ?_
      refine p_bipush (v := 20) C (by decide) dX3_first_4 ?_
      refine p_icmp_gt C 28 (by decide) dX3_first_6 (fun c_6 => absurd c_6 (gI_le _ hj2)) (fun c_6 => ?_)
      refine p_aload_n C rfl 0 rfl dX3_first_9 ?_
      refine p_get (v := .ref (md 2)) (T := TX3) C 0 rfl rfl 3 (by decide) inX3 qfl_X3_13 (fun _ h9 => h9) rfl dX3_first_10 ?_
      refine p_iload_n C rfl 1 rfl dX3_first_13 ?_
      refine c_Si (As := [.ref (md 2), .int (gI (40 - n3))]) (rest := []) C (m_X3_eat l D k (u := 2) (x := (gI (40 - n3))) rfl) qml_X3_58 qst_X3_eat qin_X3 qco_X3_eat nd_X3_eat ⟨Nat.le_of_ble_eq_true rfl, Nat.le_of_ble_eq_true rfl⟩ (Nat.le_of_ble_eq_true rfl) ⟨Nat.le_of_ble_eq_true rfl, Nat.le_of_ble_eq_true rfl⟩ rfl dX3_first_14 (fun r9 w9 h9 => ?_)
      obtain ⟨rfl, rfl⟩ := h9
      refine p_if_ne C 22 (by decide) dX3_first_17 (fun c_17 => ?_) (fun c_17 => ?_)
      · refine p_iinc (lv9 := [(1, .int (gI (40 - n3 + 1))), (0, .ref (md 0))]) (v := (gI (40 - n3 + 1))) C (j := 1) rfl (gI_s _) (by decide) rfl dX3_first_22 ?_
        refine p_goto C 3 (by decide) dX3_first_25 ?_
        refine p_lv (lv9 := [(0, .ref (md 0)), (1, .int (gI (40 - n3 + 1)))]) [1, 0] rfl ?_
        exact ih3 (40 - n3 + 1) (by omega) (hI.trans (if_neg c_17))
      · refine p_iload_n C rfl 1 rfl dX3_first_20 ?_
        rw [hQ]
        exact r_i C hrt9 (⟨by rw [hI]; exact (if_pos c_17).symm, rfl⟩) (by decide) (by decide) dX3_first_21
  exact lp3 41 0 rfl rfl
set_option maxHeartbeats 4000000 in
set_option maxRecDepth 100000 in
/-- X3_firstOf -/
theorem m_X3_firstOf (l : Launch) (D : va_G) (k : Nat → ClassId) {md : Nat → Nat} {th : Int32} {n : Nat} {Am Wk Mo : Nat → Int32} {v cp : Nat} {bt : Nat → Int32} {ml cn : Int32} {Y : va_W} {i : Nat} (hi : i < 16) : CtI l D k yX3_firstOf (wU yX3_firstOf cX3_firstOf 2 (some .int)) (rmL 2 0 0) [.ref (md 0), .int (nI i)] (MW k md th (nI n) Am Wk Mo v cp bt ml cn Y) (fun r w' => r = fi (mrow Am i) ∧ w' = (MW k md th (nI n) Am (mrow Am i) Mo v cp bt ml cn Y)) := by
  refine openI (own := RX3) rfl (by decide) (Nat.le_of_ble_eq_true rfl) rfl ?_
  intro p e s m args below meth c A C hrt9 hnm
  obtain ⟨Q, hQ⟩ : ∃ Q, Q = (MQ below (va_Qi (fun r w' => r = fi (mrow Am i) ∧ w' = (MW k md th (nI n) Am (mrow Am i) Mo v cp bt ml cn Y)) (cBA D A) A) args s 0 0 A) := ⟨_, rfl⟩
  show WP p l e (rmL 2 0 0) s m args below meth c D A 2 (MW k md th (nI n) Am Wk Mo v cp bt ml cn Y) [(0, .ref (md 0)), (1, .int (nI i))] 0 0 (MQ below (va_Qi (fun r w' => r = fi (mrow Am i) ∧ w' = (MW k md th (nI n) Am (mrow Am i) Mo v cp bt ml cn Y)) (cBA D A) A) args s 0 0 A) 0 []
  rw [← hQ]
  refine p_aload_n C rfl 0 rfl dX3_firstOf_0 ?_
  refine p_iload_n C rfl 1 rfl dX3_firstOf_1 ?_
  refine p_aload_n C rfl 0 rfl dX3_firstOf_2 ?_
  refine p_get (v := .ref (md 2)) (T := TX3) C 0 rfl rfl 3 (by decide) inX3 qfl_X3_13 (fun _ h9 => h9) rfl dX3_firstOf_3 ?_
  refine c_Vv (As := [.int (nI i), .ref (md 2)]) (rest := []) C (m_X3_take l D k (i := i) (by omega)) 0 rfl rfl rfl qml_X3_55 qim_X3_take qse_X3_X3_take qin_X3 qco_X3_take nd_X3_take ⟨Nat.le_of_ble_eq_true rfl, Nat.le_of_ble_eq_true rfl⟩ (Nat.le_of_ble_eq_true rfl) ⟨Nat.le_of_ble_eq_true rfl, Nat.le_of_ble_eq_true rfl⟩ rfl dX3_firstOf_6 (fun w9 h9 => ?_)
  obtain rfl := h9
  refine p_aload_n C rfl 0 rfl dX3_firstOf_9 ?_
  refine c_Vi (As := []) (rest := []) C (m_X3_first l D k ) 0 rfl rfl rfl qml_X3_125 qim_X3_first qse_X3_X3_first qin_X3 qco_X3_first nd_X3_first ⟨Nat.le_of_ble_eq_true rfl, Nat.le_of_ble_eq_true rfl⟩ (Nat.le_of_ble_eq_true rfl) ⟨Nat.le_of_ble_eq_true rfl, Nat.le_of_ble_eq_true rfl⟩ rfl dX3_firstOf_10 (fun r9 w9 h9 => ?_)
  obtain ⟨e9, rfl⟩ := h9
  refine p_int e9 ?_
  rw [hQ]
  exact r_i C hrt9 (⟨rfl, rfl⟩) (by decide) (by decide) dX3_firstOf_13
set_option maxHeartbeats 4000000 in
set_option maxRecDepth 100000 in
/-- X3_least -/
theorem m_X3_least (l : Launch) (D : va_G) (k : Nat → ClassId) {md : Nat → Nat} {th : Int32} {n : Nat} {Am Wk Mo : Nat → Int32} {v cp : Nat} {bt : Nat → Int32} {ml cn : Int32} {Y : va_W} {i : Nat} (hi : i < 16) : CtI l D k yX3_least (wU yX3_least cX3_least 4 (some .int)) (rmL 1 0 0) [.ref (md 0), .int (nI i)] (MW k md th (nI n) Am Wk Mo v cp bt ml cn Y) (fun r w' => r = nI (lea (mrow Am i)) ∧ w' = (MW k md th (nI n) Am (mrow Am i) Mo v cp bt ml cn Y)) := by
  refine openI (own := RX3) rfl (by decide) (Nat.le_of_ble_eq_true rfl) rfl ?_
  intro p e s m args below meth c A C hrt9 hnm
  obtain ⟨Q, hQ⟩ : ∃ Q, Q = (MQ below (va_Qi (fun r w' => r = nI (lea (mrow Am i)) ∧ w' = (MW k md th (nI n) Am (mrow Am i) Mo v cp bt ml cn Y)) (cBA D A) A) args s 0 0 A) := ⟨_, rfl⟩
  show WP p l e (rmL 1 0 0) s m args below meth c D A 4 (MW k md th (nI n) Am Wk Mo v cp bt ml cn Y) [(0, .ref (md 0)), (1, .int (nI i))] 0 0 (MQ below (va_Qi (fun r w' => r = nI (lea (mrow Am i)) ∧ w' = (MW k md th (nI n) Am (mrow Am i) Mo v cp bt ml cn Y)) (cBA D A) A) args s 0 0 A) 0 []
  rw [← hQ]
  refine p_aload_n C rfl 0 rfl dX3_least_0 ?_
  refine p_iload_n C rfl 1 rfl dX3_least_1 ?_
  refine p_aload_n C rfl 0 rfl dX3_least_2 ?_
  refine p_get (v := .ref (md 2)) (T := TX3) C 0 rfl rfl 3 (by decide) inX3 qfl_X3_13 (fun _ h9 => h9) rfl dX3_least_3 ?_
  refine c_Vv (As := [.int (nI i), .ref (md 2)]) (rest := []) C (m_X3_take l D k (i := i) (by omega)) 0 rfl rfl rfl qml_X3_55 qim_X3_take qse_X3_X3_take qin_X3 qco_X3_take nd_X3_take ⟨Nat.le_of_ble_eq_true rfl, Nat.le_of_ble_eq_true rfl⟩ (Nat.le_of_ble_eq_true rfl) ⟨Nat.le_of_ble_eq_true rfl, Nat.le_of_ble_eq_true rfl⟩ rfl dX3_least_6 (fun w9 h9 => ?_)
  obtain rfl := h9
  refine p_iconst (v := (nI 1)) C (by decide) dX3_least_9 ?_
  refine p_istore_n (lv9 := [(2, .int (nI 1)), (0, .ref (md 0)), (1, .int (nI i))]) C rfl (by decide) rfl dX3_least_10 ?_
  refine p_iconst (v := (nI 2)) C (by decide) dX3_least_11 ?_
  refine p_istore_n (lv9 := [(3, .int (nI 2)), (2, .int (nI 1)), (0, .ref (md 0)), (1, .int (nI i))]) C rfl (by decide) rfl dX3_least_12 ?_
  refine p_lv (lv9 := [(0, .ref (md 0)), (1, .int (nI i)), (2, .int (nI 1)), (3, .int (nI 2))]) [2, 3, 1, 0] rfl ?_
  have lp13 : ∀ (n13 : Nat) (j : Nat), (hj : j + n13 = 19) → WP p l e (rmL 1 0 0) s m args below meth c D A 4 (MW k md th (nI n) Am (mrow Am i) Mo v cp bt ml cn Y) [(0, .ref (md 0)), (1, .int (nI i)), (2, .int (nI (leN (mrow Am i) j))), (3, .int (nI (j + 2)))] 0 0 Q 13 [] := by
    intro n13
    induction n13 with
    | zero =>
      intro j hj
      obtain rfl : j = 19 := by omega
      refine p_iload_n C rfl 3 rfl dX3_least_13 ?_
      refine p_bipush (v := 20) C (by decide) dX3_least_14 ?_
      refine p_icmp_gt C 46 (by decide) dX3_least_16 (fun c_16 => ?_) (fun c_16 => absurd c_16 (by decide))
      refine p_iload_n C rfl 2 rfl dX3_least_46 ?_
      rw [hQ]
      exact r_i C hrt9 (⟨rfl, rfl⟩) (by decide) (by decide) dX3_least_47
    | succ n13 ih13 =>
      intro j hj
      have hj2 : j < 19 := by omega
      refine p_iload_n C rfl 3 rfl dX3_least_13 ?_
      refine p_bipush (v := 20) C (by decide) dX3_least_14 ?_
      refine p_icmp_gt C 46 (by decide) dX3_least_16 (fun c_16 => absurd c_16 (nI_nlt (a := 20) (b := j + 2) (by omega) (by omega))) (fun c_16 => ?_)
      refine p_aload_n C rfl 0 rfl dX3_least_19 ?_
      refine p_get (v := .ref (md 2)) (T := TX3) C 0 rfl rfl 3 (by decide) inX3 qfl_X3_13 (fun _ h9 => h9) rfl dX3_least_20 ?_
      refine p_iload_n C rfl 3 rfl dX3_least_23 ?_
      refine c_Si (As := [.ref (md 2), .int (nI (j + 2))]) (rest := []) C (m_X3_eat l D k (u := 2) (x := (nI (j + 2))) rfl) qml_X3_58 qst_X3_eat qin_X3 qco_X3_eat nd_X3_eat ⟨Nat.le_of_ble_eq_true rfl, Nat.le_of_ble_eq_true rfl⟩ (Nat.le_of_ble_eq_true rfl) ⟨Nat.le_of_ble_eq_true rfl, Nat.le_of_ble_eq_true rfl⟩ rfl dX3_least_24 (fun r9 w9 h9 => ?_)
      obtain ⟨rfl, rfl⟩ := h9
      refine p_aload_n C rfl 0 rfl dX3_least_27 ?_
      refine p_get (v := .ref (md 2)) (T := TX3) C 0 rfl rfl 3 (by decide) inX3 qfl_X3_13 (fun _ h9 => h9) rfl dX3_least_28 ?_
      refine p_iload_n C rfl 2 rfl dX3_least_31 ?_
      refine c_Si (As := [.ref (md 2), .int (nI (leN (mrow Am i) j))]) (rest := [.int (hg (mrow Am i) (nI (j + 2)))]) C (m_X3_eat l D k (u := 2) (x := (nI (leN (mrow Am i) j))) rfl) qml_X3_58 qst_X3_eat qin_X3 qco_X3_eat nd_X3_eat ⟨Nat.le_of_ble_eq_true rfl, Nat.le_of_ble_eq_true rfl⟩ (Nat.le_of_ble_eq_true rfl) ⟨Nat.le_of_ble_eq_true rfl, Nat.le_of_ble_eq_true rfl⟩ rfl dX3_least_32 (fun r9 w9 h9 => ?_)
      obtain ⟨rfl, rfl⟩ := h9
      refine p_icmp_ge C 40 (by decide) dX3_least_35 (fun c_35 => ?_) (fun c_35 => ?_)
      · refine p_lvE (lv9 := [(0, .ref (md 0)), (1, .int (nI i)), (2, .int (nI (leN (mrow Am i) (j + 1)))), (3, .int (nI (j + 2)))]) (by rw [show leN (mrow Am i) (j + 1) = leN (mrow Am i) j from if_neg (Int32.not_lt.mpr c_35)]) ?_
        refine p_iinc (lv9 := [(3, .int (nI (j + 1 + 2))), (0, .ref (md 0)), (1, .int (nI i)), (2, .int (nI (leN (mrow Am i) (j + 1))))]) (v := (nI (j + 1 + 2))) C (j := 3) rfl (i_up (j + 2)) (by decide) rfl dX3_least_40 ?_
        refine p_goto C 13 (by decide) dX3_least_43 ?_
        refine p_lv (lv9 := [(0, .ref (md 0)), (1, .int (nI i)), (2, .int (nI (leN (mrow Am i) (j + 1)))), (3, .int (nI (j + 1 + 2)))]) [1, 2, 3, 0] rfl ?_
        exact ih13 (j + 1) (by omega)
      · refine p_iload_n C rfl 3 rfl dX3_least_38 ?_
        refine p_istore_n (lv9 := [(2, .int (nI (j + 2))), (0, .ref (md 0)), (1, .int (nI i)), (3, .int (nI (j + 2)))]) C rfl (by decide) rfl dX3_least_39 ?_
        refine p_iinc (lv9 := [(3, .int (nI (j + 1 + 2))), (2, .int (nI (j + 2))), (0, .ref (md 0)), (1, .int (nI i))]) (v := (nI (j + 1 + 2))) C (j := 3) rfl (i_up (j + 2)) (by decide) rfl dX3_least_40 ?_
        refine p_goto C 13 (by decide) dX3_least_43 ?_
        refine p_lv (lv9 := [(0, .ref (md 0)), (1, .int (nI i)), (2, .int (nI (j + 2))), (3, .int (nI (j + 1 + 2)))]) [2, 3, 1, 0] rfl ?_
        refine p_lvE (lv9 := [(0, .ref (md 0)), (1, .int (nI i)), (2, .int (nI (leN (mrow Am i) (j + 1)))), (3, .int (nI (j + 1 + 2)))]) (by rw [show leN (mrow Am i) (j + 1) = j + 2 from if_pos (Int32.not_le.mp c_35)]) ?_
        exact ih13 (j + 1) (by omega)
  exact lp13 19 0 rfl
theorem lz_cmp {r : Nat} (h : r < 2 ^ 63) : lg_cmp (lN r) 0 ≤ 0 ↔ r = 0 := by
  rw [lg_cmp_le, show (0 : Int64) = lN 0 from rfl, pk_lLE h (by omega)]
  omega
theorem lz_zero {r : Nat} (h : r < 2 ^ 63) (c : lg_cmp (lN r) 0 ≤ 0) : r = 0 := (lz_cmp h).mp c
theorem lz_le {r : Nat} (h : r = 0) : lg_cmp (lN r) 0 ≤ 0 := by subst h; decide
theorem lz_pos {r : Nat} (c : ¬ lg_cmp (lN r) 0 ≤ 0) : 0 < r := Nat.pos_of_ne_zero (fun q => c (lz_le q))
theorem lz_ne {r : Nat} (c : ¬ lg_cmp (lN r) 0 ≤ 0) : ¬ lN r = 0 := fun q => c (by rw [q]; decide)
theorem gcd_le9 (a b : Nat) {m : Nat} (ha : a ≤ m) : Nat.gcd a b ≤ max m b := by
  rcases Nat.eq_zero_or_pos a with h | h
  · subst h; rw [Nat.gcd_zero_left]; exact Nat.le_max_right _ _
  · exact Nat.le_trans (Nat.le_of_dvd h (Nat.gcd_dvd_left a b)) (Nat.le_trans ha (Nat.le_max_left _ _))
set_option maxHeartbeats 4000000 in
set_option maxRecDepth 100000 in
/-- X3_contentOf -/
theorem m_X3_contentOf (l : Launch) (D : va_G) (k : Nat → ClassId) {md : Nat → Nat} {th : Int32} {n : Nat} {Am Wk Mo : Nat → Int32} {v cp : Nat} {bt : Nat → Int32} {ml cn : Int32} {Y : va_W} {i : Nat} (hi : i < 16) : CtL l D k yX3_contentOf (wU yX3_contentOf cX3_contentOf 9 (some .long)) (rmL 1 0 0) [.ref (md 0), .int (nI i)] (MW k md th (nI n) Am Wk Mo v cp bt ml cn Y) (fun r w' => r = lN (ct (mrow Am i)) ∧ w' = (MW k md th (nI n) Am Wk Mo v cp bt ml cn Y)) := by
  refine openL (own := RX3) rfl (by decide) (Nat.le_of_ble_eq_true rfl) rfl ?_
  intro p e s m args below meth c A C hrt9 hnm
  obtain ⟨Q, hQ⟩ : ∃ Q, Q = (MQ below (va_Ql (fun r w' => r = lN (ct (mrow Am i)) ∧ w' = (MW k md th (nI n) Am Wk Mo v cp bt ml cn Y)) (cBA D A) A) args s 0 0 A) := ⟨_, rfl⟩
  show WP p l e (rmL 1 0 0) s m args below meth c D A 9 (MW k md th (nI n) Am Wk Mo v cp bt ml cn Y) [(0, .ref (md 0)), (1, .int (nI i))] 0 0 (MQ below (va_Ql (fun r w' => r = lN (ct (mrow Am i)) ∧ w' = (MW k md th (nI n) Am Wk Mo v cp bt ml cn Y)) (cBA D A) A) args s 0 0 A) 0 []
  rw [← hQ]
  refine p_lconst (v := 0) C (by decide) dX3_contentOf_0 ?_
  refine p_lstore_n (lv9 := [(2, .long 0), (0, .ref (md 0)), (1, .int (nI i))]) C rfl (by decide) rfl dX3_contentOf_1 ?_
  refine p_iconst (v := (nI 0)) C (by decide) dX3_contentOf_2 ?_
  refine p_istore (lv9 := [(4, .int (nI 0)), (2, .long 0), (0, .ref (md 0)), (1, .int (nI i))]) C (by decide) rfl dX3_contentOf_3 ?_
  refine p_lv (lv9 := [(0, .ref (md 0)), (1, .int (nI i)), (2, .long 0), (4, .int (nI 0))]) [2, 3, 1, 0] rfl ?_
  have lp5 : ∀ (n5 : Nat) (j : Nat), (hj : j + n5 = 9) → (hB : ctN (mrow Am i) j ≤ 2147483648) → WP p l e (rmL 1 0 0) s m args below meth c D A 9 (MW k md th (nI n) Am Wk Mo v cp bt ml cn Y) [(0, .ref (md 0)), (1, .int (nI i)), (2, .long (lN (ctN (mrow Am i) j))), (4, .int (nI j))] 0 0 Q 5 [] := by
    intro n5
    induction n5 with
    | zero =>
      intro j hj hB
      obtain rfl : j = 9 := by omega
      refine p_iload C 3 rfl dX3_contentOf_5 ?_
      refine p_bipush (v := 9) C (by decide) dX3_contentOf_7 ?_
      refine p_icmp_ge C 54 (by decide) dX3_contentOf_9 (fun c_9 => ?_) (fun c_9 => absurd c_9 (by decide))
      refine p_lload_n C rfl 2 rfl dX3_contentOf_54 ?_
      rw [hQ]
      exact r_l C hrt9 (⟨rfl, rfl⟩) (by decide) (by decide) dX3_contentOf_55
    | succ n5 ih5 =>
      intro j hj hB
      have hj2 : j < 9 := by omega
      have hab := ab_le ((mrow Am i) j)
      refine p_iload C 3 rfl dX3_contentOf_5 ?_
      refine p_bipush (v := 9) C (by decide) dX3_contentOf_7 ?_
      refine p_icmp_ge C 54 (by decide) dX3_contentOf_9 (fun c_9 => absurd c_9 (nI_ge (b := 9) hj2 (by decide))) (fun c_9 => ?_)
      refine p_aload_n C rfl 0 rfl dX3_contentOf_12 ?_
      refine p_iload_n C rfl 1 rfl dX3_contentOf_13 ?_
      refine p_iload C 3 rfl dX3_contentOf_14 ?_
      refine c_Vi (As := [.int (nI i), .int (nI j)]) (rest := []) C (m_X3_at l D k (i := i) (j := j) (by omega) (by omega)) 0 rfl rfl rfl qml_X3_47 qim_X3_at qse_X3_X3_at qin_X3 qco_X3_at nd_X3_at ⟨Nat.le_of_ble_eq_true rfl, Nat.le_of_ble_eq_true rfl⟩ (Nat.le_of_ble_eq_true rfl) ⟨Nat.le_of_ble_eq_true rfl, Nat.le_of_ble_eq_true rfl⟩ rfl dX3_contentOf_16 (fun r9 w9 h9 => ?_)
      obtain ⟨e9, rfl⟩ := h9
      refine p_int e9 ?_
      refine p_i2l C dX3_contentOf_19 ?_
      refine p_labs (x := (mrow Am i j)) (rest := []) C qml_X3_101 qst_J9_abs_067f4 qin_J9 qma_abs_long (by decide) (Nat.le_of_ble_eq_true rfl) (by decide) (by decide) dX3_contentOf_20 ?_
      refine p_lstore (lv9 := [(5, .long (lN (ab (mrow Am i j)))), (0, .ref (md 0)), (1, .int (nI i)), (2, .long (lN (ctN (mrow Am i) j))), (4, .int (nI j))]) C (by decide) rfl dX3_contentOf_23 ?_
      refine p_lv (lv9 := [(0, .ref (md 0)), (1, .int (nI i)), (2, .long (lN (ctN (mrow Am i) j))), (4, .int (nI j)), (5, .long (lN (ab (mrow Am i j))))]) [1, 2, 3, 4, 0] rfl ?_
      have lp25 : ∀ (n25 : Nat) (d r : Nat), (hr : r ≤ n25) → (hG : Nat.gcd d r = ctN (mrow Am i) (j + 1)) → (hd : d ≤ 2147483648) → (hr2 : r ≤ 2147483648) → WP p l e (rmL 1 0 0) s m args below meth c D A 9 (MW k md th (nI n) Am Wk Mo v cp bt ml cn Y) [(0, .ref (md 0)), (1, .int (nI i)), (2, .long (lN d)), (4, .int (nI j)), (5, .long (lN r))] 0 0 Q 25 [] := by
        intro n25
        induction n25 with
        | zero =>
          intro d r hr hG hd hr2
          refine p_lload C 4 rfl dX3_contentOf_25 ?_
          refine p_lconst (v := 0) C (by decide) dX3_contentOf_27 ?_
          refine p_lcmp C dX3_contentOf_28 ?_
          refine p_if_le C 48 (by decide) dX3_contentOf_29 (fun c_29 => ?_) (fun c_29 => absurd (lz_le (Nat.le_zero.mp hr)) c_29)
          obtain rfl : r = 0 := lz_zero (by omega) c_29
          obtain rfl : d = ctN (mrow Am i) (j + 1) := by rw [← Nat.gcd_zero_right d]; exact hG
          refine p_iinc (lv9 := [(4, .int (nI (j + 1))), (0, .ref (md 0)), (1, .int (nI i)), (2, .long (lN (ctN (mrow Am i) (j + 1)))), (5, .long (lN 0))]) (v := (nI (j + 1))) C (j := 3) rfl (i_up j) (by decide) rfl dX3_contentOf_48 ?_
          refine p_goto C 5 (by decide) dX3_contentOf_51 ?_
          refine p_lv (lv9 := [(0, .ref (md 0)), (1, .int (nI i)), (2, .long (lN (ctN (mrow Am i) (j + 1)))), (4, .int (nI (j + 1)))]) [1, 2, 3, 0] rfl ?_
          exact ih5 (j + 1) (by omega) (Nat.le_trans (gcd_le9 _ _ hB) (by omega))
        | succ n25 ih25 =>
          intro d r hr hG hd hr2
          refine p_lload C 4 rfl dX3_contentOf_25 ?_
          refine p_lconst (v := 0) C (by decide) dX3_contentOf_27 ?_
          refine p_lcmp C dX3_contentOf_28 ?_
          refine p_if_le C 48 (by decide) dX3_contentOf_29 (fun c_29 => ?_) (fun c_29 => ?_)
          · obtain rfl : r = 0 := lz_zero (by omega) c_29
            obtain rfl : d = ctN (mrow Am i) (j + 1) := by rw [← Nat.gcd_zero_right d]; exact hG
            refine p_iinc (lv9 := [(4, .int (nI (j + 1))), (0, .ref (md 0)), (1, .int (nI i)), (2, .long (lN (ctN (mrow Am i) (j + 1)))), (5, .long (lN 0))]) (v := (nI (j + 1))) C (j := 3) rfl (i_up j) (by decide) rfl dX3_contentOf_48 ?_
            refine p_goto C 5 (by decide) dX3_contentOf_51 ?_
            refine p_lv (lv9 := [(0, .ref (md 0)), (1, .int (nI i)), (2, .long (lN (ctN (mrow Am i) (j + 1)))), (4, .int (nI (j + 1)))]) [1, 2, 3, 0] rfl ?_
            exact ih5 (j + 1) (by omega) (Nat.le_trans (gcd_le9 _ _ hB) (by omega))
          · have hr0 : 0 < r := lz_pos c_29
            refine p_lload_n C rfl 2 rfl dX3_contentOf_32 ?_
            refine p_lload C 4 rfl dX3_contentOf_33 ?_
            refine p_lrem C (lz_ne c_29) dX3_contentOf_35 ?_
            refine p_st (st9 := [.long (lN (d % r))]) (congrArg (fun z9 => Value.long z9 :: []) (pk_lRem (show d < 2 ^ 63 by omega) hr0 (by omega))) ?_
            refine p_lstore (lv9 := [(7, .long (lN (d % r))), (0, .ref (md 0)), (1, .int (nI i)), (2, .long (lN d)), (4, .int (nI j)), (5, .long (lN r))]) C (by decide) rfl dX3_contentOf_36 ?_
            refine p_lload C 5 rfl dX3_contentOf_38 ?_
            refine p_lstore_n (lv9 := [(2, .long (lN r)), (7, .long (lN (d % r))), (0, .ref (md 0)), (1, .int (nI i)), (4, .int (nI j)), (5, .long (lN r))]) C rfl (by decide) rfl dX3_contentOf_40 ?_
            refine p_lload C 1 rfl dX3_contentOf_41 ?_
            refine p_lstore (lv9 := [(5, .long (lN (d % r))), (2, .long (lN r)), (7, .long (lN (d % r))), (0, .ref (md 0)), (1, .int (nI i)), (4, .int (nI j))]) C (by decide) rfl dX3_contentOf_43 ?_
            refine p_goto C 25 (by decide) dX3_contentOf_45 ?_
            refine p_lv (lv9 := [(0, .ref (md 0)), (1, .int (nI i)), (2, .long (lN r)), (4, .int (nI j)), (5, .long (lN (d % r)))]) [3, 4, 1, 5, 0] rfl ?_
            exact ih25 r (d % r) (by have := Nat.mod_lt d hr0; omega) (by rw [← hG, Nat.gcd_comm r, ← Nat.gcd_rec, Nat.gcd_comm]) hr2 (by have := Nat.mod_lt d hr0; omega)
      exact lp25 (ab ((mrow Am i) j)) _ _ (Nat.le_refl _) rfl hB hab
  exact lp5 9 0 rfl (Nat.zero_le _)
set_option maxHeartbeats 4000000 in
set_option maxRecDepth 100000 in
/-- X3_changes -/
theorem m_X3_changes (l : Launch) (D : va_G) (k : Nat → ClassId) {md : Nat → Nat} {th : Int32} {n : Nat} {Am Wk Mo : Nat → Int32} {v cp : Nat} {bt : Nat → Int32} {ml cn : Int32} {Y : va_W} {i : Nat} (hi : i < 16) : CtI l D k yX3_changes (wU yX3_changes cX3_changes 6 (some .int)) (rmL 1 0 0) [.ref (md 0), .int (nI i)] (MW k md th (nI n) Am Wk Mo v cp bt ml cn Y) (fun r w' => r = nI (sc (mrow Am i)) ∧ w' = (MW k md th (nI n) Am Wk Mo v cp bt ml cn Y)) := by
  refine openI (own := RX3) rfl (by decide) (Nat.le_of_ble_eq_true rfl) rfl ?_
  intro p e s m args below meth c A C hrt9 hnm
  obtain ⟨Q, hQ⟩ : ∃ Q, Q = (MQ below (va_Qi (fun r w' => r = nI (sc (mrow Am i)) ∧ w' = (MW k md th (nI n) Am Wk Mo v cp bt ml cn Y)) (cBA D A) A) args s 0 0 A) := ⟨_, rfl⟩
  show WP p l e (rmL 1 0 0) s m args below meth c D A 6 (MW k md th (nI n) Am Wk Mo v cp bt ml cn Y) [(0, .ref (md 0)), (1, .int (nI i))] 0 0 (MQ below (va_Qi (fun r w' => r = nI (sc (mrow Am i)) ∧ w' = (MW k md th (nI n) Am Wk Mo v cp bt ml cn Y)) (cBA D A) A) args s 0 0 A) 0 []
  rw [← hQ]
  refine p_iconst (v := (nI 0)) C (by decide) dX3_changes_0 ?_
  refine p_istore_n (lv9 := [(2, .int (nI 0)), (0, .ref (md 0)), (1, .int (nI i))]) C rfl (by decide) rfl dX3_changes_1 ?_
  refine p_iconst (v := 0) C (by decide) dX3_changes_2 ?_
  refine p_istore_n (lv9 := [(3, .int 0), (2, .int (nI 0)), (0, .ref (md 0)), (1, .int (nI i))]) C rfl (by decide) rfl dX3_changes_3 ?_
  refine p_iconst (v := (nI 0)) C (by decide) dX3_changes_4 ?_
  refine p_istore (lv9 := [(4, .int (nI 0)), (3, .int 0), (2, .int (nI 0)), (0, .ref (md 0)), (1, .int (nI i))]) C (by decide) rfl dX3_changes_5 ?_
  refine p_lv (lv9 := [(0, .ref (md 0)), (1, .int (nI i)), (2, .int (nI 0)), (3, .int 0), (4, .int (nI 0))]) [3, 4, 2, 1, 0] rfl ?_
  have lp7 : ∀ (n7 : Nat) (j : Nat), (hj : j + n7 = 9) → WP p l e (rmL 1 0 0) s m args below meth c D A 6 (MW k md th (nI n) Am Wk Mo v cp bt ml cn Y) [(0, .ref (md 0)), (1, .int (nI i)), (2, .int (nI (scN (mrow Am i) j).2)), (3, .int (sgn (scN (mrow Am i) j).1)), (4, .int (nI j))] 0 0 Q 7 [] := by
    intro n7
    induction n7 with
    | zero =>
      intro j hj
      obtain rfl : j = 9 := by omega
      refine p_iload C 4 rfl dX3_changes_7 ?_
      refine p_bipush (v := 9) C (by decide) dX3_changes_9 ?_
      refine p_icmp_ge C 59 (by decide) dX3_changes_11 (fun c_11 => ?_) (fun c_11 => absurd c_11 (by decide))
      refine p_iload_n C rfl 2 rfl dX3_changes_59 ?_
      rw [hQ]
      exact r_i C hrt9 (⟨rfl, rfl⟩) (by decide) (by decide) dX3_changes_60
    | succ n7 ih7 =>
      intro j hj
      have hj2 : j < 9 := by omega
      refine p_iload C 4 rfl dX3_changes_7 ?_
      refine p_bipush (v := 9) C (by decide) dX3_changes_9 ?_
      refine p_icmp_ge C 59 (by decide) dX3_changes_11 (fun c_11 => absurd c_11 (nI_ge (b := 9) hj2 (by decide))) (fun c_11 => ?_)
      refine p_aload_n C rfl 0 rfl dX3_changes_14 ?_
      refine p_iload_n C rfl 1 rfl dX3_changes_15 ?_
      refine p_iload C 4 rfl dX3_changes_16 ?_
      refine c_Vi (As := [.int (nI i), .int (nI j)]) (rest := []) C (m_X3_at l D k (i := i) (j := j) (by omega) (by omega)) 0 rfl rfl rfl qml_X3_47 qim_X3_at qse_X3_X3_at qin_X3 qco_X3_at nd_X3_at ⟨Nat.le_of_ble_eq_true rfl, Nat.le_of_ble_eq_true rfl⟩ (Nat.le_of_ble_eq_true rfl) ⟨Nat.le_of_ble_eq_true rfl, Nat.le_of_ble_eq_true rfl⟩ rfl dX3_changes_18 (fun r9 w9 h9 => ?_)
      obtain ⟨e9, rfl⟩ := h9
      refine p_int e9 ?_
      refine c_Si (As := [.int (mrow Am i j)]) (rest := []) C (m_J6_signum l D k (x := (mrow Am i j))) qml_X3_111 qst_J6_signum_0f7a4 qin_J6 qco_J6_signum_0f7a4 nd_J6_signum_0f7a4 ⟨Nat.le_of_ble_eq_true rfl, Nat.le_of_ble_eq_true rfl⟩ (Nat.le_of_ble_eq_true rfl) ⟨Nat.le_of_ble_eq_true rfl, Nat.le_of_ble_eq_true rfl⟩ rfl dX3_changes_21 (fun r9 w9 h9 => ?_)
      obtain ⟨e9, rfl⟩ := h9
      refine p_int e9 ?_
      refine p_istore (lv9 := [(5, .int (sgn (mrow Am i j))), (0, .ref (md 0)), (1, .int (nI i)), (2, .int (nI (scN (mrow Am i) j).2)), (3, .int (sgn (scN (mrow Am i) j).1)), (4, .int (nI j))]) C (by decide) rfl dX3_changes_24 ?_
      refine p_iload_n C rfl 3 rfl dX3_changes_26 ?_
      refine p_iload C 0 rfl dX3_changes_27 ?_
      refine p_iload_n C rfl 4 rfl dX3_changes_29 ?_
      refine p_imul C dX3_changes_30 ?_
      refine p_if_ge C 38 (by decide) dX3_changes_31 (fun c_31 => ?_) (fun c_31 => ?_)
      · refine p_iconst (v := 0) C (by decide) dX3_changes_38 ?_
        refine p_iadd C dX3_changes_39 ?_
        refine p_int (y := (nI (scN (mrow Am i) (j + 1)).2)) ((Int32.add_zero _).trans (by rw [ch_ct, if_neg (Int32.not_lt.mpr c_31)])) ?_
        refine p_istore_n (lv9 := [(2, .int (nI (scN (mrow Am i) (j + 1)).2)), (5, .int (sgn (mrow Am i j))), (0, .ref (md 0)), (1, .int (nI i)), (3, .int (sgn (scN (mrow Am i) j).1)), (4, .int (nI j))]) C rfl (by decide) rfl dX3_changes_40 ?_
        refine p_iload C 1 rfl dX3_changes_41 ?_
        refine p_if_ne C 50 (by decide) dX3_changes_43 (fun c_43 => ?_) (fun c_43 => ?_)
        · refine p_iload C 1 rfl dX3_changes_50 ?_
          refine p_int (y := (sgn (scN (mrow Am i) (j + 1)).1)) (by rw [ch_sg, if_neg c_43]) ?_
          refine p_istore_n (lv9 := [(3, .int (sgn (scN (mrow Am i) (j + 1)).1)), (2, .int (nI (scN (mrow Am i) (j + 1)).2)), (5, .int (sgn (mrow Am i j))), (0, .ref (md 0)), (1, .int (nI i)), (4, .int (nI j))]) C rfl (by decide) rfl dX3_changes_52 ?_
          refine p_iinc (lv9 := [(4, .int (nI (j + 1))), (3, .int (sgn (scN (mrow Am i) (j + 1)).1)), (2, .int (nI (scN (mrow Am i) (j + 1)).2)), (5, .int (sgn (mrow Am i j))), (0, .ref (md 0)), (1, .int (nI i))]) (v := (nI (j + 1))) C (j := 5) rfl (i_up j) (by decide) rfl dX3_changes_53 ?_
          refine p_goto C 7 (by decide) dX3_changes_56 ?_
          refine p_lv (lv9 := [(0, .ref (md 0)), (1, .int (nI i)), (2, .int (nI (scN (mrow Am i) (j + 1)).2)), (3, .int (sgn (scN (mrow Am i) (j + 1)).1)), (4, .int (nI (j + 1)))]) [4, 5, 2, 1, 0] rfl ?_
          exact ih7 (j + 1) (by omega)
        · refine p_iload_n C rfl 4 rfl dX3_changes_46 ?_
          refine p_goto C 52 (by decide) dX3_changes_47 ?_
          refine p_int (y := (sgn (scN (mrow Am i) (j + 1)).1)) (by rw [ch_sg, if_pos c_43]) ?_
          refine p_istore_n (lv9 := [(3, .int (sgn (scN (mrow Am i) (j + 1)).1)), (2, .int (nI (scN (mrow Am i) (j + 1)).2)), (5, .int (sgn (mrow Am i j))), (0, .ref (md 0)), (1, .int (nI i)), (4, .int (nI j))]) C rfl (by decide) rfl dX3_changes_52 ?_
          refine p_iinc (lv9 := [(4, .int (nI (j + 1))), (3, .int (sgn (scN (mrow Am i) (j + 1)).1)), (2, .int (nI (scN (mrow Am i) (j + 1)).2)), (5, .int (sgn (mrow Am i j))), (0, .ref (md 0)), (1, .int (nI i))]) (v := (nI (j + 1))) C (j := 5) rfl (i_up j) (by decide) rfl dX3_changes_53 ?_
          refine p_goto C 7 (by decide) dX3_changes_56 ?_
          refine p_lv (lv9 := [(0, .ref (md 0)), (1, .int (nI i)), (2, .int (nI (scN (mrow Am i) (j + 1)).2)), (3, .int (sgn (scN (mrow Am i) (j + 1)).1)), (4, .int (nI (j + 1)))]) [4, 5, 2, 1, 0] rfl ?_
          exact ih7 (j + 1) (by omega)
      · refine p_iconst (v := 1) C (by decide) dX3_changes_34 ?_
        refine p_goto C 39 (by decide) dX3_changes_35 ?_
        refine p_iadd C dX3_changes_39 ?_
        refine p_int (y := (nI (scN (mrow Am i) (j + 1)).2)) (by rw [ch_ct, if_pos (Int32.not_le.mp c_31)]; exact nI_1 _) ?_
        refine p_istore_n (lv9 := [(2, .int (nI (scN (mrow Am i) (j + 1)).2)), (5, .int (sgn (mrow Am i j))), (0, .ref (md 0)), (1, .int (nI i)), (3, .int (sgn (scN (mrow Am i) j).1)), (4, .int (nI j))]) C rfl (by decide) rfl dX3_changes_40 ?_
        refine p_iload C 1 rfl dX3_changes_41 ?_
        refine p_if_ne C 50 (by decide) dX3_changes_43 (fun c_43 => ?_) (fun c_43 => ?_)
        · refine p_iload C 1 rfl dX3_changes_50 ?_
          refine p_int (y := (sgn (scN (mrow Am i) (j + 1)).1)) (by rw [ch_sg, if_neg c_43]) ?_
          refine p_istore_n (lv9 := [(3, .int (sgn (scN (mrow Am i) (j + 1)).1)), (2, .int (nI (scN (mrow Am i) (j + 1)).2)), (5, .int (sgn (mrow Am i j))), (0, .ref (md 0)), (1, .int (nI i)), (4, .int (nI j))]) C rfl (by decide) rfl dX3_changes_52 ?_
          refine p_iinc (lv9 := [(4, .int (nI (j + 1))), (3, .int (sgn (scN (mrow Am i) (j + 1)).1)), (2, .int (nI (scN (mrow Am i) (j + 1)).2)), (5, .int (sgn (mrow Am i j))), (0, .ref (md 0)), (1, .int (nI i))]) (v := (nI (j + 1))) C (j := 5) rfl (i_up j) (by decide) rfl dX3_changes_53 ?_
          refine p_goto C 7 (by decide) dX3_changes_56 ?_
          refine p_lv (lv9 := [(0, .ref (md 0)), (1, .int (nI i)), (2, .int (nI (scN (mrow Am i) (j + 1)).2)), (3, .int (sgn (scN (mrow Am i) (j + 1)).1)), (4, .int (nI (j + 1)))]) [4, 5, 2, 1, 0] rfl ?_
          exact ih7 (j + 1) (by omega)
        · refine p_iload_n C rfl 4 rfl dX3_changes_46 ?_
          refine p_goto C 52 (by decide) dX3_changes_47 ?_
          refine p_int (y := (sgn (scN (mrow Am i) (j + 1)).1)) (by rw [ch_sg, if_pos c_43]) ?_
          refine p_istore_n (lv9 := [(3, .int (sgn (scN (mrow Am i) (j + 1)).1)), (2, .int (nI (scN (mrow Am i) (j + 1)).2)), (5, .int (sgn (mrow Am i j))), (0, .ref (md 0)), (1, .int (nI i)), (4, .int (nI j))]) C rfl (by decide) rfl dX3_changes_52 ?_
          refine p_iinc (lv9 := [(4, .int (nI (j + 1))), (3, .int (sgn (scN (mrow Am i) (j + 1)).1)), (2, .int (nI (scN (mrow Am i) (j + 1)).2)), (5, .int (sgn (mrow Am i j))), (0, .ref (md 0)), (1, .int (nI i))]) (v := (nI (j + 1))) C (j := 5) rfl (i_up j) (by decide) rfl dX3_changes_53 ?_
          refine p_goto C 7 (by decide) dX3_changes_56 ?_
          refine p_lv (lv9 := [(0, .ref (md 0)), (1, .int (nI i)), (2, .int (nI (scN (mrow Am i) (j + 1)).2)), (3, .int (sgn (scN (mrow Am i) (j + 1)).1)), (4, .int (nI (j + 1)))]) [4, 5, 2, 1, 0] rfl ?_
          exact ih7 (j + 1) (by omega)
  exact lp7 9 0 rfl
