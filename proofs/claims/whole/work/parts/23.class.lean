/-- which exception a code tells of -/
def exn (e : Int32) : String := if e = 1 then "java/lang/IndexOutOfBoundsException" else if e = 2 then "java/lang/IllegalArgumentException" else "java/lang/IllegalStateException"
theorem exn_1 : exn 1 = "java/lang/IndexOutOfBoundsException" := rfl
theorem exn_2 : exn 2 = "java/lang/IllegalArgumentException" := rfl
theorem exn_3 : exn 3 = "java/lang/IllegalStateException" := rfl
theorem isR_hi {n : Nat} (hn : n ≤ 16) {v : Int32} (h : ¬ v < nI n) : isR n v = false := by
  refine decide_eq_false fun q => h ?_
  obtain ⟨i, hi, rfl⟩ := isR_spec hn (decide_eq_true q)
  exact nI_lt hi (by omega)
theorem isR_lo {n : Nat} (hn : n ≤ 16) {v : Int32} (h0 : ¬ v < 0) (h : v < nI n) : isR n v = true := by
  obtain ⟨j, hj, rfl⟩ := nI_of h0
  have := (nI_ltI hj (by omega)).mp h
  exact isR_of hn this
theorem isF_lo8 {v : Int32} (h0 : ¬ v < 0) (h : ¬ 8 < v) : ∃ p9, p9 < 9 ∧ v = nI p9 := by
  obtain ⟨j, hj, rfl⟩ := nI_of h0
  refine ⟨j, ?_, rfl⟩
  have : nI j ≤ nI 8 := Int32.not_lt.mp h
  rw [nI_leI hj (by omega)] at this
  omega
theorem isF8 : ∀ p, p < 9 → isF (nI p) 0 8 = true := by decide +kernel
theorem ctN_le (f : Nat → Int32) : ∀ j, ctN f j ≤ 2147483648
  | 0 => Nat.zero_le _
  | j + 1 => by
    have h1 := gcd_le9 (ctN f j) (ab (f j)) (ctN_le f j)
    have h2 := ab_le (f j)
    show Nat.gcd _ _ ≤ _
    omega
theorem isF_no1 {v lo hi : Int32} (h : v < lo) : isF v lo hi = false := decide_eq_false fun q => absurd q.1 (Int32.not_le.mpr h)
theorem isF_no2 {v lo hi : Int32} (h : hi < v) : isF v lo hi = false := decide_eq_false fun q => absurd q.2 (Int32.not_le.mpr h)
theorem isF_yes {v lo hi : Int32} (h : ¬ v < lo) (h2 : ¬ hi < v) : isF v lo hi = true := decide_eq_true ⟨Int32.not_lt.mp h, Int32.not_lt.mp h2⟩
set_option maxHeartbeats 4000000 in
set_option maxRecDepth 100000 in
/-- X2_rowOf -/
theorem m_X2_rowOf (l : Launch) (D : va_G) (k : Nat → ClassId) (hfl : l.stackTraces = false) {ad r : Nat → Nat} {n : Nat} {R : Nat → Nat → Int32} {T U tx : Nat → Int32} {sz : Int32} {Y : va_W} (hn : n ≤ 16) {rc : Int32} : XtR l D k yX2_rowOf (wU yX2_rowOf cX2_rowOf 2 (some (.array .int))) (rmL 0 1 6) [.ref (ad 0), .int rc] (KW k ad r (nI n) R T U tx sz Y) (fun a w' => ∃ i, i < n ∧ rc = nI i ∧ a = r i ∧ w' = (KW k ad r (nI n) R T U tx sz Y)) (fun E w' => isR n rc = false ∧ E = "java/lang/IndexOutOfBoundsException" ∧ w' = (KW k ad r (nI n) R T U tx sz Y)) := by
  refine openXR (own := RX2) rfl (by decide) (Nat.le_of_ble_eq_true rfl) rfl ?_
  intro p e s m args below meth c A C hrt9 hnm hE
  obtain ⟨Q, hQ⟩ : ∃ Q, Q = (vx_MQ below (va_Qr (fun _ => True) (fun w' a t => (fun a w' => ∃ i, i < n ∧ rc = nI i ∧ a = r i ∧ w' = (KW k ad r (nI n) R T U tx sz Y)) a w' ∧ cBA D A w' t) A) (xXA D A (fun E w' => isR n rc = false ∧ E = "java/lang/IndexOutOfBoundsException" ∧ w' = (KW k ad r (nI n) R T U tx sz Y))) args s 1 6 A) := ⟨_, rfl⟩
  show WP p l e (rmL 0 1 6) s m args below meth c D A 2 (KW k ad r (nI n) R T U tx sz Y) [(0, .ref (ad 0)), (1, .int rc)] 0 0 (vx_MQ below (va_Qr (fun _ => True) (fun w' a t => (fun a w' => ∃ i, i < n ∧ rc = nI i ∧ a = r i ∧ w' = (KW k ad r (nI n) R T U tx sz Y)) a w' ∧ cBA D A w' t) A) (xXA D A (fun E w' => isR n rc = false ∧ E = "java/lang/IndexOutOfBoundsException" ∧ w' = (KW k ad r (nI n) R T U tx sz Y))) args s 1 6 A) 0 []
  rw [← hQ]
  refine p_iload_n C rfl 1 rfl dX2_rowOf_0 ?_
  refine p_if_lt C 12 (by decide) dX2_rowOf_1 (fun c_1 => ?_) (fun c_1 => ?_)
  · rw [hQ]
    exact x_throw C hfl hE (E := "java/lang/IndexOutOfBoundsException") (names := ["java/lang/RuntimeException", "java/lang/Exception"]) (by decide +kernel) (by decide +kernel) qcl_X2_112 qin_IndexOutOfBoundsException (is := 178) (ic := 116) (text := "there is no such recipe") (by decide +kernel) at_X2_116 dX2_rowOf_12 dX2_rowOf_15 dX2_rowOf_16 dX2_rowOf_18 dX2_rowOf_21 (by decide) (by decide) (by decide) (by decide) (by decide) (by decide) (⟨isF_no1 c_1, rfl, rfl⟩)
  · refine p_iload_n C rfl 1 rfl dX2_rowOf_4 ?_
    refine p_aload_n C rfl 0 rfl dX2_rowOf_5 ?_
    refine p_get (v := .int (nI n)) (T := TX2) C 0 rfl rfl 1 (by decide) inX2 qfl_X2_14 (fun _ h9 => h9) rfl dX2_rowOf_6 ?_
    refine p_icmp_lt C 22 (by decide) dX2_rowOf_9 (fun c_9 => ?_) (fun c_9 => ?_)
    · obtain ⟨i, hi, rfl⟩ := isR_spec hn (isR_lo hn c_1 c_9)
      refine p_aload_n C rfl 0 rfl dX2_rowOf_22 ?_
      refine p_get (v := .ref (ad 1)) (T := TX2) C 0 rfl rfl 0 (by decide) inX2 qfl_X2_11 (fun _ h9 => h9) rfl dX2_rowOf_23 ?_
      refine p_iload_n C rfl 1 rfl dX2_rowOf_26 ?_
      refine p_qald (v := (r i)) C 1 rfl (vp_in_nI (n := i) (N := 16) (by omega) (by omega)) (by rw [show ((nI i)).toNatClampNeg = i from nI_clamp (by omega)]; exact if_pos (by omega)) dX2_rowOf_27 ?_
      rw [hQ]
      exact rx_r C hrt9 (Or.inr ⟨_, rfl⟩) (⟨i, hi, rfl, rfl, rfl⟩) (by (try simp only [rmL_c, rmL_s]); omega) (by (try simp only [rmL_c, rmL_s]); omega) dX2_rowOf_28
    · rw [hQ]
      exact x_throw C hfl hE (E := "java/lang/IndexOutOfBoundsException") (names := ["java/lang/RuntimeException", "java/lang/Exception"]) (by decide +kernel) (by decide +kernel) qcl_X2_112 qin_IndexOutOfBoundsException (is := 178) (ic := 116) (text := "there is no such recipe") (by decide +kernel) at_X2_116 dX2_rowOf_12 dX2_rowOf_15 dX2_rowOf_16 dX2_rowOf_18 dX2_rowOf_21 (by decide) (by decide) (by decide) (by decide) (by decide) (by decide) (⟨isR_hi hn c_9, rfl, rfl⟩)
set_option maxHeartbeats 4000000 in
set_option maxRecDepth 100000 in
/-- X2_requirePower -/
theorem m_X2_requirePower (l : Launch) (D : va_G) (k : Nat → ClassId) (hfl : l.stackTraces = false) {w : va_W} {pw : Int32} : XtV l D k yX2_requirePower (wU yX2_requirePower cX2_requirePower 1 (none)) (rmL 0 1 6) [.int pw] w (fun w' => (∃ p9, p9 < 9 ∧ pw = nI p9) ∧ w' = w) (fun E w' => isF pw 0 8 = false ∧ E = "java/lang/IndexOutOfBoundsException" ∧ w' = w) := by
  refine openXV (own := RX2) rfl (by decide) (Nat.le_of_ble_eq_true rfl) rfl ?_
  intro p e s m args below meth c A C hrt9 hnm hE
  obtain ⟨Q, hQ⟩ : ∃ Q, Q = (vx_MQ below (va_Qv (fun w' => (∃ p9, p9 < 9 ∧ pw = nI p9) ∧ w' = w) (cBA D A) A) (xXA D A (fun E w' => isF pw 0 8 = false ∧ E = "java/lang/IndexOutOfBoundsException" ∧ w' = w)) args s 1 6 A) := ⟨_, rfl⟩
  show WP p l e (rmL 0 1 6) s m args below meth c D A 1 w [(0, .int pw)] 0 0 (vx_MQ below (va_Qv (fun w' => (∃ p9, p9 < 9 ∧ pw = nI p9) ∧ w' = w) (cBA D A) A) (xXA D A (fun E w' => isF pw 0 8 = false ∧ E = "java/lang/IndexOutOfBoundsException" ∧ w' = w)) args s 1 6 A) 0 []
  rw [← hQ]
  refine p_iload_n C rfl 0 rfl dX2_requirePower_0 ?_
  refine p_if_lt C 10 (by decide) dX2_requirePower_1 (fun c_1 => ?_) (fun c_1 => ?_)
  · rw [hQ]
    exact x_throw C hfl hE (E := "java/lang/IndexOutOfBoundsException") (names := ["java/lang/RuntimeException", "java/lang/Exception"]) (by decide +kernel) (by decide +kernel) qcl_X2_112 qin_IndexOutOfBoundsException (is := 180) (ic := 116) (text := "the power is not 0 to 8") (by decide +kernel) at_X2_116 dX2_requirePower_10 dX2_requirePower_13 dX2_requirePower_14 dX2_requirePower_16 dX2_requirePower_19 (by decide) (by decide) (by decide) (by decide) (by decide) (by decide) (⟨isF_no1 c_1, rfl, rfl⟩)
  · refine p_iload_n C rfl 0 rfl dX2_requirePower_4 ?_
    refine p_bipush (v := 8) C (by decide) dX2_requirePower_5 ?_
    refine p_icmp_le C 20 (by decide) dX2_requirePower_7 (fun c_7 => ?_) (fun c_7 => ?_)
    · rw [hQ]
      exact rx_v C hrt9 (⟨isF_lo8 c_1 (Int32.not_lt.mpr c_7), rfl⟩) (by (try simp only [rmL_c, rmL_s]); omega) (by (try simp only [rmL_c, rmL_s]); omega) dX2_requirePower_20
    · rw [hQ]
      exact x_throw C hfl hE (E := "java/lang/IndexOutOfBoundsException") (names := ["java/lang/RuntimeException", "java/lang/Exception"]) (by decide +kernel) (by decide +kernel) qcl_X2_112 qin_IndexOutOfBoundsException (is := 180) (ic := 116) (text := "the power is not 0 to 8") (by decide +kernel) at_X2_116 dX2_requirePower_10 dX2_requirePower_13 dX2_requirePower_14 dX2_requirePower_16 dX2_requirePower_19 (by decide) (by decide) (by decide) (by decide) (by decide) (by decide) (⟨isF_no2 (Int32.not_le.mp c_7), rfl, rfl⟩)
set_option maxHeartbeats 4000000 in
set_option maxRecDepth 100000 in
/-- X2_newRow -/
theorem m_X2_newRow (l : Launch) (D : va_G) (k : Nat → ClassId) (hfl : l.stackTraces = false) {ad r : Nat → Nat} {n : Nat} {R : Nat → Nat → Int32} {T U tx : Nat → Int32} {sz : Int32} {Y : va_W} (hn : n ≤ 16)  : XtR l D k yX2_newRow (wU yX2_newRow cX2_newRow 2 (some (.array .int))) (rmL 1 1 6) [.ref (ad 0)] (KW k ad r (nI n) R T U tx sz Y) (fun a w' => n < 16 ∧ a = r n ∧ w' = (KW k ad r (nI (n + 1)) (upR R n (fun _ => 0)) T U tx sz Y)) (fun E w' => n = 16 ∧ E = "java/lang/IllegalStateException" ∧ w' = (KW k ad r (nI n) R T U tx sz Y)) := by
  refine openXR (own := RX2) rfl (by decide) (Nat.le_of_ble_eq_true rfl) rfl ?_
  intro p e s m args below meth c A C hrt9 hnm hE
  obtain ⟨Q, hQ⟩ : ∃ Q, Q = (vx_MQ below (va_Qr (fun _ => True) (fun w' a t => (fun a w' => n < 16 ∧ a = r n ∧ w' = (KW k ad r (nI (n + 1)) (upR R n (fun _ => 0)) T U tx sz Y)) a w' ∧ cBA D A w' t) A) (xXA D A (fun E w' => n = 16 ∧ E = "java/lang/IllegalStateException" ∧ w' = (KW k ad r (nI n) R T U tx sz Y))) args s 1 6 A) := ⟨_, rfl⟩
  show WP p l e (rmL 1 1 6) s m args below meth c D A 2 (KW k ad r (nI n) R T U tx sz Y) [(0, .ref (ad 0))] 0 0 (vx_MQ below (va_Qr (fun _ => True) (fun w' a t => (fun a w' => n < 16 ∧ a = r n ∧ w' = (KW k ad r (nI (n + 1)) (upR R n (fun _ => 0)) T U tx sz Y)) a w' ∧ cBA D A w' t) A) (xXA D A (fun E w' => n = 16 ∧ E = "java/lang/IllegalStateException" ∧ w' = (KW k ad r (nI n) R T U tx sz Y))) args s 1 6 A) 0 []
  rw [← hQ]
  refine p_aload_n C rfl 0 rfl dX2_newRow_0 ?_
  refine p_get (v := .int (nI n)) (T := TX2) C 0 rfl rfl 1 (by decide) inX2 qfl_X2_14 (fun _ h9 => h9) rfl dX2_newRow_1 ?_
  refine p_bipush (v := (nI 16)) C (by decide) dX2_newRow_4 ?_
  refine p_icmp_lt C 19 (by decide) dX2_newRow_6 (fun c_6 => ?_) (fun c_6 => ?_)
  · have h16 : n < 16 := Nat.lt_of_not_le fun z9 => nI_nlt z9 (by omega) c_6
    refine p_aload_n C rfl 0 rfl dX2_newRow_19 ?_
    refine p_get (v := .ref (ad 1)) (T := TX2) C 0 rfl rfl 0 (by decide) inX2 qfl_X2_11 (fun _ h9 => h9) rfl dX2_newRow_20 ?_
    refine p_aload_n C rfl 0 rfl dX2_newRow_23 ?_
    refine p_get (v := .int (nI n)) (T := TX2) C 0 rfl rfl 1 (by decide) inX2 qfl_X2_14 (fun _ h9 => h9) rfl dX2_newRow_24 ?_
    refine p_qald (v := (r n)) C 1 rfl (vp_in_nI (n := n) (N := 16) (by omega) (by omega)) (by rw [show ((nI n)).toNatClampNeg = n from nI_clamp (by omega)]; exact if_pos (by omega)) dX2_newRow_27 ?_
    refine p_astore_n (lv9 := [(1, .ref (r n)), (0, .ref (ad 0))]) C rfl (by decide) rfl dX2_newRow_28 ?_
    refine p_aload_n C rfl 0 rfl dX2_newRow_29 ?_
    refine c_Sv (As := [.ref (r n)]) (rest := []) C (m_X1_clear l D k (u := (n + 6)) (KW_row h16)) qml_X2_184 qst_X1_clear qin_X1 qco_X1_clear nd_X1_clear ⟨Nat.le_of_ble_eq_true rfl, Nat.le_of_ble_eq_true rfl⟩ (Nat.le_of_ble_eq_true rfl) ⟨Nat.le_of_ble_eq_true rfl, Nat.le_of_ble_eq_true rfl⟩ rfl dX2_newRow_30 (fun w9 h9 => ?_)
    obtain rfl := h9
    refine p_w (w9 := (KW k ad r (nI n) (upR R n (fun _ => 0)) T U tx sz Y)) (KW_srow h16) ?_
    refine p_aload_n C rfl 1 rfl dX2_newRow_33 ?_
    refine p_dup C rfl dX2_newRow_34 ?_
    refine p_get (v := .int (nI n)) (T := TX2) C 0 rfl rfl 1 (by decide) inX2 qfl_X2_14 (fun _ h9 => h9) rfl dX2_newRow_35 ?_
    refine p_iconst (v := 1) C (by decide) dX2_newRow_38 ?_
    refine p_iadd C dX2_newRow_39 ?_
    refine p_int (y := (nI (n + 1))) (nI_1 n) ?_
    refine p_put (w9 := (KW k ad r (nI (n + 1)) (upR R n (fun _ => 0)) T U tx sz Y)) (v := .int (nI (n + 1))) (T := TX2) C tyX2 tyX2_ok nmX2 0 rfl rfl 1 (by decide) inX2 qfl_X2_14 (fun _ h9 => h9) rfl rfl rfl (Nat.le_of_ble_eq_true rfl) rfl dX2_newRow_40 ?_
    refine p_aload_n C rfl 0 rfl dX2_newRow_43 ?_
    rw [hQ]
    exact rx_r C hrt9 (Or.inr ⟨_, rfl⟩) (⟨h16, rfl, rfl⟩) (by (try simp only [rmL_c, rmL_s]); omega) (by (try simp only [rmL_c, rmL_s]); omega) dX2_newRow_44
  · rw [hQ]
    exact x_throw C hfl hE (E := "java/lang/IllegalStateException") (names := ["java/lang/RuntimeException", "java/lang/Exception"]) (by decide +kernel) (by decide +kernel) qcl_X2_81 qin_IllegalStateException (is := 182) (ic := 85) (text := "there are 16 recipes") (by decide +kernel) at_X2_85 dX2_newRow_9 dX2_newRow_12 dX2_newRow_13 dX2_newRow_15 dX2_newRow_18 (by decide) (by decide) (by decide) (by decide) (by decide) (by decide) (⟨Nat.le_antisymm hn (Nat.le_of_not_lt fun z9 => c_6 (nI_lt z9 (by decide))), rfl, rfl⟩)
set_option maxHeartbeats 4000000 in
set_option maxRecDepth 100000 in
/-- X2_degreeOf -/
theorem m_X2_degreeOf (l : Launch) (D : va_G) (k : Nat → ClassId) (hfl : l.stackTraces = false) {ad r : Nat → Nat} {n : Nat} {R : Nat → Nat → Int32} {T U tx : Nat → Int32} {sz : Int32} {Y : va_W} (hn : n ≤ 16) {rc : Int32} : XtI l D k yX2_degreeOf (wU yX2_degreeOf cX2_degreeOf 2 (some .int)) (rmL 2 1 6) [.ref (ad 0), .int rc] (KW k ad r (nI n) R T U tx sz Y) (fun v9 w' => (e1 n rc) = 0 ∧ v9 = dI (dg (R (ix rc))) ∧ ∃ (T' U' tx' : Nat → Int32) (sz' : Int32), w' = (KW k ad r (nI n) R T' U' tx' sz' Y)) (fun E w' => ¬ (e1 n rc) = 0 ∧ E = exn (e1 n rc) ∧ ∃ (T' U' tx' : Nat → Int32) (sz' : Int32), w' = (KW k ad r (nI n) R T' U' tx' sz' Y)) := by
  refine openXI (own := RX2) rfl (by decide) (Nat.le_of_ble_eq_true rfl) rfl ?_
  intro p e s m args below meth c A C hrt9 hnm hE
  obtain ⟨Q, hQ⟩ : ∃ Q, Q = (vx_MQ below (va_Qi (fun v9 w' => (e1 n rc) = 0 ∧ v9 = dI (dg (R (ix rc))) ∧ ∃ (T' U' tx' : Nat → Int32) (sz' : Int32), w' = (KW k ad r (nI n) R T' U' tx' sz' Y)) (cBA D A) A) (xXA D A (fun E w' => ¬ (e1 n rc) = 0 ∧ E = exn (e1 n rc) ∧ ∃ (T' U' tx' : Nat → Int32) (sz' : Int32), w' = (KW k ad r (nI n) R T' U' tx' sz' Y))) args s 1 6 A) := ⟨_, rfl⟩
  show WP p l e (rmL 2 1 6) s m args below meth c D A 2 (KW k ad r (nI n) R T U tx sz Y) [(0, .ref (ad 0)), (1, .int rc)] 0 0 (vx_MQ below (va_Qi (fun v9 w' => (e1 n rc) = 0 ∧ v9 = dI (dg (R (ix rc))) ∧ ∃ (T' U' tx' : Nat → Int32) (sz' : Int32), w' = (KW k ad r (nI n) R T' U' tx' sz' Y)) (cBA D A) A) (xXA D A (fun E w' => ¬ (e1 n rc) = 0 ∧ E = exn (e1 n rc) ∧ ∃ (T' U' tx' : Nat → Int32) (sz' : Int32), w' = (KW k ad r (nI n) R T' U' tx' sz' Y))) args s 1 6 A) 0 []
  rw [← hQ]
  refine p_aload_n C rfl 0 rfl dX2_degreeOf_0 ?_
  refine p_iload_n C rfl 1 rfl dX2_degreeOf_1 ?_
  refine cx_Vr (As := [.int rc]) (rest := []) C (m_X2_rowOf l D k hfl hn (rc := rc)) 0 rfl rfl rfl qml_X2_36 qim_X2_rowOf qse_X2_X2_rowOf qin_X2 qco_X2_rowOf nd_X2_rowOf ⟨Nat.le_of_ble_eq_true rfl, Nat.le_of_ble_eq_true rfl⟩ (Nat.le_of_ble_eq_true rfl) ⟨Nat.le_of_ble_eq_true rfl, Nat.le_of_ble_eq_true rfl⟩ rfl dX2_degreeOf_2 (fun E9 w9 h9 => by obtain ⟨hx9, rfl, rfl⟩ := h9; rw [hQ]; exact x_out C hE ⟨by rw [show (e1 n rc) = 1 from by unfold e1; rw [hx9]; rfl]; exact one_n0, by rw [show (e1 n rc) = 1 from by unfold e1; rw [hx9]; rfl]; exact exn_1.symm, _, _, _, _, rfl⟩ (by (try simp only [rmL_c, rmL_s]); omega) (by (try simp only [rmL_c, rmL_s]); omega)) (fun r9 w9 h9 => ?_)
  obtain ⟨i, hi, rfl, rfl, rfl⟩ := h9
  have vi := isR_of hn hi
  have hi6 : i < 16 := by omega
  refine c_Si (As := [.ref (r i)]) (rest := []) C (m_X1_degree l D k (u := (i + 6))  (KW_row hi6)) qml_X2_51 qst_X1_degree qin_X1 qco_X1_degree nd_X1_degree ⟨Nat.le_of_ble_eq_true rfl, Nat.le_of_ble_eq_true rfl⟩ (Nat.le_of_ble_eq_true rfl) ⟨Nat.le_of_ble_eq_true rfl, Nat.le_of_ble_eq_true rfl⟩ rfl dX2_degreeOf_5 (fun r9 w9 h9 => ?_)
  obtain ⟨rfl, rfl⟩ := h9
  rw [hQ]
  exact rx_i C hrt9 (⟨by unfold e1; rw [vi]; rfl, by rw [ix_nI (by omega)]; try rfl, _, _, _, _, rfl⟩) (by (try simp only [rmL_c, rmL_s]); omega) (by (try simp only [rmL_c, rmL_s]); omega) dX2_degreeOf_8
set_option maxHeartbeats 4000000 in
set_option maxRecDepth 100000 in
/-- X2_isPlain -/
theorem m_X2_isPlain (l : Launch) (D : va_G) (k : Nat → ClassId) (hfl : l.stackTraces = false) {ad r : Nat → Nat} {n : Nat} {R : Nat → Nat → Int32} {T U tx : Nat → Int32} {sz : Int32} {Y : va_W} (hn : n ≤ 16) {rc : Int32} : XtI l D k yX2_isPlain (wU yX2_isPlain cX2_isPlain 2 (some .boolean)) (rmL 3 1 6) [.ref (ad 0), .int rc] (KW k ad r (nI n) R T U tx sz Y) (fun v9 w' => (e1 n rc) = 0 ∧ v9 = bI (pln (R (ix rc))) ∧ ∃ (T' U' tx' : Nat → Int32) (sz' : Int32), w' = (KW k ad r (nI n) R T' U' tx' sz' Y)) (fun E w' => ¬ (e1 n rc) = 0 ∧ E = exn (e1 n rc) ∧ ∃ (T' U' tx' : Nat → Int32) (sz' : Int32), w' = (KW k ad r (nI n) R T' U' tx' sz' Y)) := by
  refine openXI (own := RX2) rfl (by decide) (Nat.le_of_ble_eq_true rfl) rfl ?_
  intro p e s m args below meth c A C hrt9 hnm hE
  obtain ⟨Q, hQ⟩ : ∃ Q, Q = (vx_MQ below (va_Qi (fun v9 w' => (e1 n rc) = 0 ∧ v9 = bI (pln (R (ix rc))) ∧ ∃ (T' U' tx' : Nat → Int32) (sz' : Int32), w' = (KW k ad r (nI n) R T' U' tx' sz' Y)) (cBA D A) A) (xXA D A (fun E w' => ¬ (e1 n rc) = 0 ∧ E = exn (e1 n rc) ∧ ∃ (T' U' tx' : Nat → Int32) (sz' : Int32), w' = (KW k ad r (nI n) R T' U' tx' sz' Y))) args s 1 6 A) := ⟨_, rfl⟩
  show WP p l e (rmL 3 1 6) s m args below meth c D A 2 (KW k ad r (nI n) R T U tx sz Y) [(0, .ref (ad 0)), (1, .int rc)] 0 0 (vx_MQ below (va_Qi (fun v9 w' => (e1 n rc) = 0 ∧ v9 = bI (pln (R (ix rc))) ∧ ∃ (T' U' tx' : Nat → Int32) (sz' : Int32), w' = (KW k ad r (nI n) R T' U' tx' sz' Y)) (cBA D A) A) (xXA D A (fun E w' => ¬ (e1 n rc) = 0 ∧ E = exn (e1 n rc) ∧ ∃ (T' U' tx' : Nat → Int32) (sz' : Int32), w' = (KW k ad r (nI n) R T' U' tx' sz' Y))) args s 1 6 A) 0 []
  rw [← hQ]
  refine p_aload_n C rfl 0 rfl dX2_isPlain_0 ?_
  refine p_iload_n C rfl 1 rfl dX2_isPlain_1 ?_
  refine cx_Vr (As := [.int rc]) (rest := []) C (m_X2_rowOf l D k hfl hn (rc := rc)) 0 rfl rfl rfl qml_X2_36 qim_X2_rowOf qse_X2_X2_rowOf qin_X2 qco_X2_rowOf nd_X2_rowOf ⟨Nat.le_of_ble_eq_true rfl, Nat.le_of_ble_eq_true rfl⟩ (Nat.le_of_ble_eq_true rfl) ⟨Nat.le_of_ble_eq_true rfl, Nat.le_of_ble_eq_true rfl⟩ rfl dX2_isPlain_2 (fun E9 w9 h9 => by obtain ⟨hx9, rfl, rfl⟩ := h9; rw [hQ]; exact x_out C hE ⟨by rw [show (e1 n rc) = 1 from by unfold e1; rw [hx9]; rfl]; exact one_n0, by rw [show (e1 n rc) = 1 from by unfold e1; rw [hx9]; rfl]; exact exn_1.symm, _, _, _, _, rfl⟩ (by (try simp only [rmL_c, rmL_s]); omega) (by (try simp only [rmL_c, rmL_s]); omega)) (fun r9 w9 h9 => ?_)
  obtain ⟨i, hi, rfl, rfl, rfl⟩ := h9
  have vi := isR_of hn hi
  have hi6 : i < 16 := by omega
  refine c_Si (As := [.ref (r i)]) (rest := []) C (m_X1_plain l D k (u := (i + 6))  (KW_row hi6)) qml_X2_75 qst_X1_plain qin_X1 qco_X1_plain nd_X1_plain ⟨Nat.le_of_ble_eq_true rfl, Nat.le_of_ble_eq_true rfl⟩ (Nat.le_of_ble_eq_true rfl) ⟨Nat.le_of_ble_eq_true rfl, Nat.le_of_ble_eq_true rfl⟩ rfl dX2_isPlain_5 (fun r9 w9 h9 => ?_)
  obtain ⟨rfl, rfl⟩ := h9
  rw [hQ]
  exact rx_z C hrt9 (bI_n _) (⟨by unfold e1; rw [vi]; rfl, by rw [ix_nI (by omega)]; try rfl, _, _, _, _, rfl⟩) (by (try simp only [rmL_c, rmL_s]); omega) (by (try simp only [rmL_c, rmL_s]); omega) dX2_isPlain_8
set_option maxHeartbeats 4000000 in
set_option maxRecDepth 100000 in
/-- X2_hunger -/
theorem m_X2_hunger (l : Launch) (D : va_G) (k : Nat → ClassId) (hfl : l.stackTraces = false) {ad r : Nat → Nat} {n : Nat} {R : Nat → Nat → Int32} {T U tx : Nat → Int32} {sz : Int32} {Y : va_W} (hn : n ≤ 16) {rc x : Int32} : XtI l D k yX2_hunger (wU yX2_hunger cX2_hunger 3 (some .int)) (rmL 2 1 6) [.ref (ad 0), .int rc, .int x] (KW k ad r (nI n) R T U tx sz Y) (fun v9 w' => (e1 n rc) = 0 ∧ v9 = hg (R (ix rc)) x ∧ ∃ (T' U' tx' : Nat → Int32) (sz' : Int32), w' = (KW k ad r (nI n) R T' U' tx' sz' Y)) (fun E w' => ¬ (e1 n rc) = 0 ∧ E = exn (e1 n rc) ∧ ∃ (T' U' tx' : Nat → Int32) (sz' : Int32), w' = (KW k ad r (nI n) R T' U' tx' sz' Y)) := by
  refine openXI (own := RX2) rfl (by decide) (Nat.le_of_ble_eq_true rfl) rfl ?_
  intro p e s m args below meth c A C hrt9 hnm hE
  obtain ⟨Q, hQ⟩ : ∃ Q, Q = (vx_MQ below (va_Qi (fun v9 w' => (e1 n rc) = 0 ∧ v9 = hg (R (ix rc)) x ∧ ∃ (T' U' tx' : Nat → Int32) (sz' : Int32), w' = (KW k ad r (nI n) R T' U' tx' sz' Y)) (cBA D A) A) (xXA D A (fun E w' => ¬ (e1 n rc) = 0 ∧ E = exn (e1 n rc) ∧ ∃ (T' U' tx' : Nat → Int32) (sz' : Int32), w' = (KW k ad r (nI n) R T' U' tx' sz' Y))) args s 1 6 A) := ⟨_, rfl⟩
  show WP p l e (rmL 2 1 6) s m args below meth c D A 3 (KW k ad r (nI n) R T U tx sz Y) [(0, .ref (ad 0)), (1, .int rc), (2, .int x)] 0 0 (vx_MQ below (va_Qi (fun v9 w' => (e1 n rc) = 0 ∧ v9 = hg (R (ix rc)) x ∧ ∃ (T' U' tx' : Nat → Int32) (sz' : Int32), w' = (KW k ad r (nI n) R T' U' tx' sz' Y)) (cBA D A) A) (xXA D A (fun E w' => ¬ (e1 n rc) = 0 ∧ E = exn (e1 n rc) ∧ ∃ (T' U' tx' : Nat → Int32) (sz' : Int32), w' = (KW k ad r (nI n) R T' U' tx' sz' Y))) args s 1 6 A) 0 []
  rw [← hQ]
  refine p_aload_n C rfl 0 rfl dX2_hunger_0 ?_
  refine p_iload_n C rfl 1 rfl dX2_hunger_1 ?_
  refine cx_Vr (As := [.int rc]) (rest := []) C (m_X2_rowOf l D k hfl hn (rc := rc)) 0 rfl rfl rfl qml_X2_36 qim_X2_rowOf qse_X2_X2_rowOf qin_X2 qco_X2_rowOf nd_X2_rowOf ⟨Nat.le_of_ble_eq_true rfl, Nat.le_of_ble_eq_true rfl⟩ (Nat.le_of_ble_eq_true rfl) ⟨Nat.le_of_ble_eq_true rfl, Nat.le_of_ble_eq_true rfl⟩ rfl dX2_hunger_2 (fun E9 w9 h9 => by obtain ⟨hx9, rfl, rfl⟩ := h9; rw [hQ]; exact x_out C hE ⟨by rw [show (e1 n rc) = 1 from by unfold e1; rw [hx9]; rfl]; exact one_n0, by rw [show (e1 n rc) = 1 from by unfold e1; rw [hx9]; rfl]; exact exn_1.symm, _, _, _, _, rfl⟩ (by (try simp only [rmL_c, rmL_s]); omega) (by (try simp only [rmL_c, rmL_s]); omega)) (fun r9 w9 h9 => ?_)
  obtain ⟨i, hi, rfl, rfl, rfl⟩ := h9
  have vi := isR_of hn hi
  have hi6 : i < 16 := by omega
  refine p_iload_n C rfl 2 rfl dX2_hunger_5 ?_
  refine c_Si (As := [.ref (r i), .int x]) (rest := []) C (m_X1_hungerFor l D k (u := (i + 6)) (x := x) (KW_row hi6)) qml_X2_98 qst_X1_hungerFor qin_X1 qco_X1_hungerFor nd_X1_hungerFor ⟨Nat.le_of_ble_eq_true rfl, Nat.le_of_ble_eq_true rfl⟩ (Nat.le_of_ble_eq_true rfl) ⟨Nat.le_of_ble_eq_true rfl, Nat.le_of_ble_eq_true rfl⟩ rfl dX2_hunger_6 (fun r9 w9 h9 => ?_)
  obtain ⟨rfl, rfl⟩ := h9
  rw [hQ]
  exact rx_i C hrt9 (⟨by unfold e1; rw [vi]; rfl, by rw [ix_nI (by omega)], _, _, _, _, rfl⟩) (by (try simp only [rmL_c, rmL_s]); omega) (by (try simp only [rmL_c, rmL_s]); omega) dX2_hunger_9
set_option maxHeartbeats 4000000 in
set_option maxRecDepth 100000 in
/-- X2_amountOf -/
theorem m_X2_amountOf (l : Launch) (D : va_G) (k : Nat → ClassId) (hfl : l.stackTraces = false) {ad r : Nat → Nat} {n : Nat} {R : Nat → Nat → Int32} {T U tx : Nat → Int32} {sz : Int32} {Y : va_W} (hn : n ≤ 16) {rc pw : Int32} : XtI l D k yX2_amountOf (wU yX2_amountOf cX2_amountOf 4 (some .int)) (rmL 2 2 12) [.ref (ad 0), .int rc, .int pw] (KW k ad r (nI n) R T U tx sz Y) (fun v9 w' => (eAmt n rc pw) = 0 ∧ v9 = (R (ix rc)) (ix pw) ∧ ∃ (T' U' tx' : Nat → Int32) (sz' : Int32), w' = (KW k ad r (nI n) R T' U' tx' sz' Y)) (fun E w' => ¬ (eAmt n rc pw) = 0 ∧ E = exn (eAmt n rc pw) ∧ ∃ (T' U' tx' : Nat → Int32) (sz' : Int32), w' = (KW k ad r (nI n) R T' U' tx' sz' Y)) := by
  refine openXI (own := RX2) rfl (by decide) (Nat.le_of_ble_eq_true rfl) rfl ?_
  intro p e s m args below meth c A C hrt9 hnm hE
  obtain ⟨Q, hQ⟩ : ∃ Q, Q = (vx_MQ below (va_Qi (fun v9 w' => (eAmt n rc pw) = 0 ∧ v9 = (R (ix rc)) (ix pw) ∧ ∃ (T' U' tx' : Nat → Int32) (sz' : Int32), w' = (KW k ad r (nI n) R T' U' tx' sz' Y)) (cBA D A) A) (xXA D A (fun E w' => ¬ (eAmt n rc pw) = 0 ∧ E = exn (eAmt n rc pw) ∧ ∃ (T' U' tx' : Nat → Int32) (sz' : Int32), w' = (KW k ad r (nI n) R T' U' tx' sz' Y))) args s 2 12 A) := ⟨_, rfl⟩
  show WP p l e (rmL 2 2 12) s m args below meth c D A 4 (KW k ad r (nI n) R T U tx sz Y) [(0, .ref (ad 0)), (1, .int rc), (2, .int pw)] 0 0 (vx_MQ below (va_Qi (fun v9 w' => (eAmt n rc pw) = 0 ∧ v9 = (R (ix rc)) (ix pw) ∧ ∃ (T' U' tx' : Nat → Int32) (sz' : Int32), w' = (KW k ad r (nI n) R T' U' tx' sz' Y)) (cBA D A) A) (xXA D A (fun E w' => ¬ (eAmt n rc pw) = 0 ∧ E = exn (eAmt n rc pw) ∧ ∃ (T' U' tx' : Nat → Int32) (sz' : Int32), w' = (KW k ad r (nI n) R T' U' tx' sz' Y))) args s 2 12 A) 0 []
  rw [← hQ]
  refine p_aload_n C rfl 0 rfl dX2_amountOf_0 ?_
  refine p_iload_n C rfl 1 rfl dX2_amountOf_1 ?_
  refine cx_Vr (As := [.int rc]) (rest := []) C (m_X2_rowOf l D k hfl hn (rc := rc)) 0 rfl rfl rfl qml_X2_36 qim_X2_rowOf qse_X2_X2_rowOf qin_X2 qco_X2_rowOf nd_X2_rowOf ⟨Nat.le_of_ble_eq_true rfl, Nat.le_of_ble_eq_true rfl⟩ (Nat.le_of_ble_eq_true rfl) ⟨Nat.le_of_ble_eq_true rfl, Nat.le_of_ble_eq_true rfl⟩ rfl dX2_amountOf_2 (fun E9 w9 h9 => by obtain ⟨hx9, rfl, rfl⟩ := h9; rw [hQ]; exact x_out C hE ⟨by rw [show (eAmt n rc pw) = 1 from by unfold eAmt; rw [hx9]; rfl]; exact one_n0, by rw [show (eAmt n rc pw) = 1 from by unfold eAmt; rw [hx9]; rfl]; exact exn_1.symm, _, _, _, _, rfl⟩ (by (try simp only [rmL_c, rmL_s]); omega) (by (try simp only [rmL_c, rmL_s]); omega)) (fun r9 w9 h9 => ?_)
  obtain ⟨i, hi, rfl, rfl, rfl⟩ := h9
  have vi := isR_of hn hi
  have hi6 : i < 16 := by omega
  refine p_astore_n (lv9 := [(3, .ref (r i)), (0, .ref (ad 0)), (1, .int (nI i)), (2, .int pw)]) C rfl (by decide) rfl dX2_amountOf_5 ?_
  refine p_iload_n C rfl 3 rfl dX2_amountOf_6 ?_
  refine cx_Sv (As := [.int pw]) (rest := []) C (m_X2_requirePower l D k hfl (pw := pw)) qml_X2_40 qst_X2_requirePower qin_X2 qco_X2_requirePower nd_X2_requirePower ⟨Nat.le_of_ble_eq_true rfl, Nat.le_of_ble_eq_true rfl⟩ (Nat.le_of_ble_eq_true rfl) ⟨Nat.le_of_ble_eq_true rfl, Nat.le_of_ble_eq_true rfl⟩ rfl dX2_amountOf_7 (fun E9 w9 h9 => by obtain ⟨hx9, rfl, rfl⟩ := h9; rw [hQ]; exact x_out C hE ⟨by rw [show (eAmt n (nI i) pw) = 1 from by unfold eAmt; rw [vi, hx9]; rfl]; exact one_n0, by rw [show (eAmt n (nI i) pw) = 1 from by unfold eAmt; rw [vi, hx9]; rfl]; exact exn_1.symm, _, _, _, _, rfl⟩ (by (try simp only [rmL_c, rmL_s]); omega) (by (try simp only [rmL_c, rmL_s]); omega)) (fun w9 h9 => ?_)
  obtain ⟨⟨p9, hp9, rfl⟩, rfl⟩ := h9
  have vp9 := isF8 p9 hp9
  refine p_aload_n C rfl 0 rfl dX2_amountOf_10 ?_
  refine p_iload_n C rfl 3 rfl dX2_amountOf_11 ?_
  refine p_iald (v := ((R i) p9)) C (i + 6) (KW_row hi6) (vp_in_nI (n := p9) (N := 9) (by omega) (by omega)) (by rw [show ((nI p9)).toNatClampNeg = p9 from nI_clamp (by omega)]) dX2_amountOf_12 ?_
  rw [hQ]
  exact rx_i C hrt9 (⟨by unfold eAmt; rw [vi, vp9]; rfl, by rw [ix_nI (by omega), ix_nI (by omega)], _, _, _, _, rfl⟩) (by (try simp only [rmL_c, rmL_s]); omega) (by (try simp only [rmL_c, rmL_s]); omega) dX2_amountOf_13
set_option maxHeartbeats 4000000 in
set_option maxRecDepth 100000 in
/-- X2_idleGuests -/
theorem m_X2_idleGuests (l : Launch) (D : va_G) (k : Nat → ClassId) (hfl : l.stackTraces = false) {ad r : Nat → Nat} {n : Nat} {R : Nat → Nat → Int32} {T U tx : Nat → Int32} {sz : Int32} {Y : va_W} (hn : n ≤ 16) {rc : Int32} : XtI l D k yX2_idleGuests (wU yX2_idleGuests cX2_idleGuests 5 (some .int)) (rmL 2 1 6) [.ref (ad 0), .int rc] (KW k ad r (nI n) R T U tx sz Y) (fun v9 w' => (e1 n rc) = 0 ∧ v9 = nI (idl (R (ix rc))) ∧ ∃ (T' U' tx' : Nat → Int32) (sz' : Int32), w' = (KW k ad r (nI n) R T' U' tx' sz' Y)) (fun E w' => ¬ (e1 n rc) = 0 ∧ E = exn (e1 n rc) ∧ ∃ (T' U' tx' : Nat → Int32) (sz' : Int32), w' = (KW k ad r (nI n) R T' U' tx' sz' Y)) := by
  refine openXI (own := RX2) rfl (by decide) (Nat.le_of_ble_eq_true rfl) rfl ?_
  intro p e s m args below meth c A C hrt9 hnm hE
  obtain ⟨Q, hQ⟩ : ∃ Q, Q = (vx_MQ below (va_Qi (fun v9 w' => (e1 n rc) = 0 ∧ v9 = nI (idl (R (ix rc))) ∧ ∃ (T' U' tx' : Nat → Int32) (sz' : Int32), w' = (KW k ad r (nI n) R T' U' tx' sz' Y)) (cBA D A) A) (xXA D A (fun E w' => ¬ (e1 n rc) = 0 ∧ E = exn (e1 n rc) ∧ ∃ (T' U' tx' : Nat → Int32) (sz' : Int32), w' = (KW k ad r (nI n) R T' U' tx' sz' Y))) args s 1 6 A) := ⟨_, rfl⟩
  show WP p l e (rmL 2 1 6) s m args below meth c D A 5 (KW k ad r (nI n) R T U tx sz Y) [(0, .ref (ad 0)), (1, .int rc)] 0 0 (vx_MQ below (va_Qi (fun v9 w' => (e1 n rc) = 0 ∧ v9 = nI (idl (R (ix rc))) ∧ ∃ (T' U' tx' : Nat → Int32) (sz' : Int32), w' = (KW k ad r (nI n) R T' U' tx' sz' Y)) (cBA D A) A) (xXA D A (fun E w' => ¬ (e1 n rc) = 0 ∧ E = exn (e1 n rc) ∧ ∃ (T' U' tx' : Nat → Int32) (sz' : Int32), w' = (KW k ad r (nI n) R T' U' tx' sz' Y))) args s 1 6 A) 0 []
  rw [← hQ]
  refine p_aload_n C rfl 0 rfl dX2_idleGuests_0 ?_
  refine p_iload_n C rfl 1 rfl dX2_idleGuests_1 ?_
  refine cx_Vr (As := [.int rc]) (rest := []) C (m_X2_rowOf l D k hfl hn (rc := rc)) 0 rfl rfl rfl qml_X2_36 qim_X2_rowOf qse_X2_X2_rowOf qin_X2 qco_X2_rowOf nd_X2_rowOf ⟨Nat.le_of_ble_eq_true rfl, Nat.le_of_ble_eq_true rfl⟩ (Nat.le_of_ble_eq_true rfl) ⟨Nat.le_of_ble_eq_true rfl, Nat.le_of_ble_eq_true rfl⟩ rfl dX2_idleGuests_2 (fun E9 w9 h9 => by obtain ⟨hx9, rfl, rfl⟩ := h9; rw [hQ]; exact x_out C hE ⟨by rw [show (e1 n rc) = 1 from by unfold e1; rw [hx9]; rfl]; exact one_n0, by rw [show (e1 n rc) = 1 from by unfold e1; rw [hx9]; rfl]; exact exn_1.symm, _, _, _, _, rfl⟩ (by (try simp only [rmL_c, rmL_s]); omega) (by (try simp only [rmL_c, rmL_s]); omega)) (fun r9 w9 h9 => ?_)
  obtain ⟨i, hi, rfl, rfl, rfl⟩ := h9
  have vi := isR_of hn hi
  have hi6 : i < 16 := by omega
  refine p_astore_n (lv9 := [(2, .ref (r i)), (0, .ref (ad 0)), (1, .int (nI i))]) C rfl (by decide) rfl dX2_idleGuests_5 ?_
  refine p_iconst (v := (nI 0)) C (by decide) dX2_idleGuests_6 ?_
  refine p_istore_n (lv9 := [(3, .int (nI 0)), (2, .ref (r i)), (0, .ref (ad 0)), (1, .int (nI i))]) C rfl (by decide) rfl dX2_idleGuests_7 ?_
  refine p_bipush (v := (gI 0)) C (by decide) dX2_idleGuests_8 ?_
  refine p_istore (lv9 := [(4, .int (gI 0)), (3, .int (nI 0)), (2, .ref (r i)), (0, .ref (ad 0)), (1, .int (nI i))]) C (by decide) rfl dX2_idleGuests_10 ?_
  refine p_lv (lv9 := [(0, .ref (ad 0)), (2, .ref (r i)), (3, .int (nI 0)), (4, .int (gI 0))]) [3, 2, 1, 0] rfl ?_
  have lp12 : ∀ (n12 : Nat) (j : Nat), (hj : j + n12 = 41) → WP p l e (rmL 2 1 6) s m args below meth c D A 5 (KW k ad r (nI n) R T U tx sz Y) [(0, .ref (ad 0)), (2, .ref (r i)), (3, .int (nI (idN (R i) j))), (4, .int (gI j))] 1 6 Q 12 [] := by
    intro n12
    induction n12 with
    | zero =>
      intro j hj
      obtain rfl : j = 41 := by omega
      refine p_iload C 3 rfl dX2_idleGuests_12 ?_
      refine p_bipush (v := 20) C (by decide) dX2_idleGuests_14 ?_
      refine p_icmp_gt C 37 (by decide) dX2_idleGuests_16 (fun c_16 => ?_) (fun c_16 => absurd gI_41 c_16)
      refine p_iload_n C rfl 2 rfl dX2_idleGuests_37 ?_
      rw [hQ]
      exact rx_i C hrt9 (⟨by unfold e1; rw [vi]; rfl, by rw [ix_nI (by omega)]; try rfl, _, _, _, _, rfl⟩) (by (try simp only [rmL_c, rmL_s]); omega) (by (try simp only [rmL_c, rmL_s]); omega) dX2_idleGuests_38
    | succ n12 ih12 =>
      intro j hj
      refine p_iload C 3 rfl dX2_idleGuests_12 ?_
      refine p_bipush (v := 20) C (by decide) dX2_idleGuests_14 ?_
      refine p_icmp_gt C 37 (by decide) dX2_idleGuests_16 (fun c_16 => absurd c_16 (gI_le j (by omega))) (fun c_16 => ?_)
      refine p_aload_n C rfl 1 rfl dX2_idleGuests_19 ?_
      refine p_iload C 3 rfl dX2_idleGuests_20 ?_
      refine c_Si (As := [.ref (r i), .int (gI j)]) (rest := []) C (m_X1_hungerFor l D k (u := (i + 6)) (x := (gI j)) (KW_row hi6)) qml_X2_98 qst_X1_hungerFor qin_X1 qco_X1_hungerFor nd_X1_hungerFor ⟨Nat.le_of_ble_eq_true rfl, Nat.le_of_ble_eq_true rfl⟩ (Nat.le_of_ble_eq_true rfl) ⟨Nat.le_of_ble_eq_true rfl, Nat.le_of_ble_eq_true rfl⟩ rfl dX2_idleGuests_22 (fun r9 w9 h9 => ?_)
      obtain ⟨rfl, rfl⟩ := h9
      refine p_if_ne C 31 (by decide) dX2_idleGuests_25 (fun c_25 => ?_) (fun c_25 => ?_)
      · refine p_iinc (lv9 := [(4, .int (gI (j + 1))), (0, .ref (ad 0)), (2, .ref (r i)), (3, .int (nI (idN (R i) j)))]) (v := (gI (j + 1))) C (j := 3) rfl (gI_s j) (by decide) rfl dX2_idleGuests_31 ?_
        refine p_goto C 12 (by decide) dX2_idleGuests_34 ?_
        refine p_lv (lv9 := [(0, .ref (ad 0)), (2, .ref (r i)), (3, .int (nI (idN (R i) j))), (4, .int (gI (j + 1)))]) [1, 2, 3, 0] rfl ?_
        rw [show idN (R i) j = idN (R i) (j + 1) from (if_neg c_25).symm]
        exact ih12 (j + 1) (by omega)
      · refine p_iinc (lv9 := [(3, .int (nI (idN (R i) j + 1))), (0, .ref (ad 0)), (2, .ref (r i)), (4, .int (gI j))]) (v := (nI (idN (R i) j + 1))) C (j := 2) rfl (i_up _) (by decide) rfl dX2_idleGuests_28 ?_
        refine p_iinc (lv9 := [(4, .int (gI (j + 1))), (3, .int (nI (idN (R i) j + 1))), (0, .ref (ad 0)), (2, .ref (r i))]) (v := (gI (j + 1))) C (j := 3) rfl (gI_s j) (by decide) rfl dX2_idleGuests_31 ?_
        refine p_goto C 12 (by decide) dX2_idleGuests_34 ?_
        refine p_lv (lv9 := [(0, .ref (ad 0)), (2, .ref (r i)), (3, .int (nI (idN (R i) j + 1))), (4, .int (gI (j + 1)))]) [2, 3, 1, 0] rfl ?_
        rw [show idN (R i) j + 1 = idN (R i) (j + 1) from (if_pos c_25).symm]
        exact ih12 (j + 1) (by omega)
  exact lp12 41 0 (by decide)
set_option maxHeartbeats 4000000 in
set_option maxRecDepth 100000 in
/-- X2_firstIdle -/
theorem m_X2_firstIdle (l : Launch) (D : va_G) (k : Nat → ClassId) (hfl : l.stackTraces = false) {ad r : Nat → Nat} {n : Nat} {R : Nat → Nat → Int32} {T U tx : Nat → Int32} {sz : Int32} {Y : va_W} (hn : n ≤ 16) {rc : Int32} : XtI l D k yX2_firstIdle (wU yX2_firstIdle cX2_firstIdle 4 (some .int)) (rmL 2 1 6) [.ref (ad 0), .int rc] (KW k ad r (nI n) R T U tx sz Y) (fun v9 w' => (e1 n rc) = 0 ∧ v9 = fi (R (ix rc)) ∧ ∃ (T' U' tx' : Nat → Int32) (sz' : Int32), w' = (KW k ad r (nI n) R T' U' tx' sz' Y)) (fun E w' => ¬ (e1 n rc) = 0 ∧ E = exn (e1 n rc) ∧ ∃ (T' U' tx' : Nat → Int32) (sz' : Int32), w' = (KW k ad r (nI n) R T' U' tx' sz' Y)) := by
  refine openXI (own := RX2) rfl (by decide) (Nat.le_of_ble_eq_true rfl) rfl ?_
  intro p e s m args below meth c A C hrt9 hnm hE
  obtain ⟨Q, hQ⟩ : ∃ Q, Q = (vx_MQ below (va_Qi (fun v9 w' => (e1 n rc) = 0 ∧ v9 = fi (R (ix rc)) ∧ ∃ (T' U' tx' : Nat → Int32) (sz' : Int32), w' = (KW k ad r (nI n) R T' U' tx' sz' Y)) (cBA D A) A) (xXA D A (fun E w' => ¬ (e1 n rc) = 0 ∧ E = exn (e1 n rc) ∧ ∃ (T' U' tx' : Nat → Int32) (sz' : Int32), w' = (KW k ad r (nI n) R T' U' tx' sz' Y))) args s 1 6 A) := ⟨_, rfl⟩
  show WP p l e (rmL 2 1 6) s m args below meth c D A 4 (KW k ad r (nI n) R T U tx sz Y) [(0, .ref (ad 0)), (1, .int rc)] 0 0 (vx_MQ below (va_Qi (fun v9 w' => (e1 n rc) = 0 ∧ v9 = fi (R (ix rc)) ∧ ∃ (T' U' tx' : Nat → Int32) (sz' : Int32), w' = (KW k ad r (nI n) R T' U' tx' sz' Y)) (cBA D A) A) (xXA D A (fun E w' => ¬ (e1 n rc) = 0 ∧ E = exn (e1 n rc) ∧ ∃ (T' U' tx' : Nat → Int32) (sz' : Int32), w' = (KW k ad r (nI n) R T' U' tx' sz' Y))) args s 1 6 A) 0 []
  rw [← hQ]
  refine p_aload_n C rfl 0 rfl dX2_firstIdle_0 ?_
  refine p_iload_n C rfl 1 rfl dX2_firstIdle_1 ?_
  refine cx_Vr (As := [.int rc]) (rest := []) C (m_X2_rowOf l D k hfl hn (rc := rc)) 0 rfl rfl rfl qml_X2_36 qim_X2_rowOf qse_X2_X2_rowOf qin_X2 qco_X2_rowOf nd_X2_rowOf ⟨Nat.le_of_ble_eq_true rfl, Nat.le_of_ble_eq_true rfl⟩ (Nat.le_of_ble_eq_true rfl) ⟨Nat.le_of_ble_eq_true rfl, Nat.le_of_ble_eq_true rfl⟩ rfl dX2_firstIdle_2 (fun E9 w9 h9 => by obtain ⟨hx9, rfl, rfl⟩ := h9; rw [hQ]; exact x_out C hE ⟨by rw [show (e1 n rc) = 1 from by unfold e1; rw [hx9]; rfl]; exact one_n0, by rw [show (e1 n rc) = 1 from by unfold e1; rw [hx9]; rfl]; exact exn_1.symm, _, _, _, _, rfl⟩ (by (try simp only [rmL_c, rmL_s]); omega) (by (try simp only [rmL_c, rmL_s]); omega)) (fun r9 w9 h9 => ?_)
  obtain ⟨i, hi, rfl, rfl, rfl⟩ := h9
  have vi := isR_of hn hi
  have hi6 : i < 16 := by omega
  refine p_astore_n (lv9 := [(2, .ref (r i)), (0, .ref (ad 0)), (1, .int (nI i))]) C rfl (by decide) rfl dX2_firstIdle_5 ?_
  refine p_bipush (v := (gI 0)) C (by decide) dX2_firstIdle_6 ?_
  refine p_istore_n (lv9 := [(3, .int (gI 0)), (2, .ref (r i)), (0, .ref (ad 0)), (1, .int (nI i))]) C rfl (by decide) rfl dX2_firstIdle_8 ?_
  refine p_lv (lv9 := [(0, .ref (ad 0)), (2, .ref (r i)), (3, .int (gI 0))]) [2, 1, 0] rfl ?_
  have lp9 : ∀ (n9 : Nat) (j : Nat), (hj : j + n9 = 41) → (hI : fiN (R i) n9 = fi (R i)) → WP p l e (rmL 2 1 6) s m args below meth c D A 4 (KW k ad r (nI n) R T U tx sz Y) [(0, .ref (ad 0)), (2, .ref (r i)), (3, .int (gI j))] 1 6 Q 9 [] := by
    intro n9
    induction n9 with
    | zero =>
      intro j hj hI
      obtain rfl : j = 41 := by omega
      refine p_iload_n C rfl 2 rfl dX2_firstIdle_9 ?_
      refine p_bipush (v := 20) C (by decide) dX2_firstIdle_10 ?_
      refine p_icmp_gt C 31 (by decide) dX2_firstIdle_12 (fun c_12 => ?_) (fun c_12 => absurd gI_41 c_12)
      refine p_bipush (v := 99) C (by decide) dX2_firstIdle_31 ?_
      rw [hQ]
      exact rx_i C hrt9 (⟨by unfold e1; rw [vi]; rfl, by rw [ix_nI (by omega), ← hI]; try rfl, _, _, _, _, rfl⟩) (by (try simp only [rmL_c, rmL_s]); omega) (by (try simp only [rmL_c, rmL_s]); omega) dX2_firstIdle_33
    | succ n9 ih9 =>
      intro j hj hI
      obtain rfl : j = 40 - n9 := by omega
      refine p_iload_n C rfl 2 rfl dX2_firstIdle_9 ?_
      refine p_bipush (v := 20) C (by decide) dX2_firstIdle_10 ?_
      refine p_icmp_gt C 31 (by decide) dX2_firstIdle_12 (fun c_12 => absurd c_12 (gI_le (40 - n9) (by omega))) (fun c_12 => ?_)
      refine p_aload_n C rfl 1 rfl dX2_firstIdle_15 ?_
      refine p_iload_n C rfl 2 rfl dX2_firstIdle_16 ?_
      refine c_Si (As := [.ref (r i), .int (gI (40 - n9))]) (rest := []) C (m_X1_hungerFor l D k (u := (i + 6)) (x := (gI (40 - n9))) (KW_row hi6)) qml_X2_98 qst_X1_hungerFor qin_X1 qco_X1_hungerFor nd_X1_hungerFor ⟨Nat.le_of_ble_eq_true rfl, Nat.le_of_ble_eq_true rfl⟩ (Nat.le_of_ble_eq_true rfl) ⟨Nat.le_of_ble_eq_true rfl, Nat.le_of_ble_eq_true rfl⟩ rfl dX2_firstIdle_17 (fun r9 w9 h9 => ?_)
      obtain ⟨rfl, rfl⟩ := h9
      refine p_if_ne C 25 (by decide) dX2_firstIdle_20 (fun c_20 => ?_) (fun c_20 => ?_)
      · refine p_iinc (lv9 := [(3, .int (gI (40 - n9 + 1))), (0, .ref (ad 0)), (2, .ref (r i))]) (v := (gI (40 - n9 + 1))) C (j := 2) rfl (gI_s _) (by decide) rfl dX2_firstIdle_25 ?_
        refine p_goto C 9 (by decide) dX2_firstIdle_28 ?_
        refine p_lv (lv9 := [(0, .ref (ad 0)), (2, .ref (r i)), (3, .int (gI (40 - n9 + 1)))]) [1, 2, 0] rfl ?_
        exact ih9 (40 - n9 + 1) (by omega) ((if_neg c_20).symm.trans hI)
      · refine p_iload_n C rfl 2 rfl dX2_firstIdle_23 ?_
        rw [hQ]
        exact rx_i C hrt9 (⟨by unfold e1; rw [vi]; rfl, by rw [ix_nI (by omega), ← hI]; exact (if_pos c_20).symm, _, _, _, _, rfl⟩) (by (try simp only [rmL_c, rmL_s]); omega) (by (try simp only [rmL_c, rmL_s]); omega) dX2_firstIdle_24
  exact lp9 41 0 (by decide) rfl
set_option maxHeartbeats 4000000 in
set_option maxRecDepth 100000 in
/-- X2_cheapest -/
theorem m_X2_cheapest (l : Launch) (D : va_G) (k : Nat → ClassId) (hfl : l.stackTraces = false) {ad r : Nat → Nat} {n : Nat} {R : Nat → Nat → Int32} {T U tx : Nat → Int32} {sz : Int32} {Y : va_W} (hn : n ≤ 16) {rc : Int32} : XtI l D k yX2_cheapest (wU yX2_cheapest cX2_cheapest 7 (some .int)) (rmL 2 1 6) [.ref (ad 0), .int rc] (KW k ad r (nI n) R T U tx sz Y) (fun v9 w' => (e1 n rc) = 0 ∧ v9 = nI (lea (R (ix rc))) ∧ ∃ (T' U' tx' : Nat → Int32) (sz' : Int32), w' = (KW k ad r (nI n) R T' U' tx' sz' Y)) (fun E w' => ¬ (e1 n rc) = 0 ∧ E = exn (e1 n rc) ∧ ∃ (T' U' tx' : Nat → Int32) (sz' : Int32), w' = (KW k ad r (nI n) R T' U' tx' sz' Y)) := by
  refine openXI (own := RX2) rfl (by decide) (Nat.le_of_ble_eq_true rfl) rfl ?_
  intro p e s m args below meth c A C hrt9 hnm hE
  obtain ⟨Q, hQ⟩ : ∃ Q, Q = (vx_MQ below (va_Qi (fun v9 w' => (e1 n rc) = 0 ∧ v9 = nI (lea (R (ix rc))) ∧ ∃ (T' U' tx' : Nat → Int32) (sz' : Int32), w' = (KW k ad r (nI n) R T' U' tx' sz' Y)) (cBA D A) A) (xXA D A (fun E w' => ¬ (e1 n rc) = 0 ∧ E = exn (e1 n rc) ∧ ∃ (T' U' tx' : Nat → Int32) (sz' : Int32), w' = (KW k ad r (nI n) R T' U' tx' sz' Y))) args s 1 6 A) := ⟨_, rfl⟩
  show WP p l e (rmL 2 1 6) s m args below meth c D A 7 (KW k ad r (nI n) R T U tx sz Y) [(0, .ref (ad 0)), (1, .int rc)] 0 0 (vx_MQ below (va_Qi (fun v9 w' => (e1 n rc) = 0 ∧ v9 = nI (lea (R (ix rc))) ∧ ∃ (T' U' tx' : Nat → Int32) (sz' : Int32), w' = (KW k ad r (nI n) R T' U' tx' sz' Y)) (cBA D A) A) (xXA D A (fun E w' => ¬ (e1 n rc) = 0 ∧ E = exn (e1 n rc) ∧ ∃ (T' U' tx' : Nat → Int32) (sz' : Int32), w' = (KW k ad r (nI n) R T' U' tx' sz' Y))) args s 1 6 A) 0 []
  rw [← hQ]
  refine p_aload_n C rfl 0 rfl dX2_cheapest_0 ?_
  refine p_iload_n C rfl 1 rfl dX2_cheapest_1 ?_
  refine cx_Vr (As := [.int rc]) (rest := []) C (m_X2_rowOf l D k hfl hn (rc := rc)) 0 rfl rfl rfl qml_X2_36 qim_X2_rowOf qse_X2_X2_rowOf qin_X2 qco_X2_rowOf nd_X2_rowOf ⟨Nat.le_of_ble_eq_true rfl, Nat.le_of_ble_eq_true rfl⟩ (Nat.le_of_ble_eq_true rfl) ⟨Nat.le_of_ble_eq_true rfl, Nat.le_of_ble_eq_true rfl⟩ rfl dX2_cheapest_2 (fun E9 w9 h9 => by obtain ⟨hx9, rfl, rfl⟩ := h9; rw [hQ]; exact x_out C hE ⟨by rw [show (e1 n rc) = 1 from by unfold e1; rw [hx9]; rfl]; exact one_n0, by rw [show (e1 n rc) = 1 from by unfold e1; rw [hx9]; rfl]; exact exn_1.symm, _, _, _, _, rfl⟩ (by (try simp only [rmL_c, rmL_s]); omega) (by (try simp only [rmL_c, rmL_s]); omega)) (fun r9 w9 h9 => ?_)
  obtain ⟨i, hi, rfl, rfl, rfl⟩ := h9
  have vi := isR_of hn hi
  have hi6 : i < 16 := by omega
  refine p_astore_n (lv9 := [(2, .ref (r i)), (0, .ref (ad 0)), (1, .int (nI i))]) C rfl (by decide) rfl dX2_cheapest_5 ?_
  refine p_iconst (v := (nI 1)) C (by decide) dX2_cheapest_6 ?_
  refine p_istore_n (lv9 := [(3, .int (nI 1)), (2, .ref (r i)), (0, .ref (ad 0)), (1, .int (nI i))]) C rfl (by decide) rfl dX2_cheapest_7 ?_
  refine p_aload_n C rfl 1 rfl dX2_cheapest_8 ?_
  refine p_iload_n C rfl 0 rfl dX2_cheapest_9 ?_
  refine c_Si (As := [.ref (r i), .int (nI 1)]) (rest := []) C (m_X1_hungerFor l D k (u := (i + 6)) (x := (nI 1)) (KW_row hi6)) qml_X2_98 qst_X1_hungerFor qin_X1 qco_X1_hungerFor nd_X1_hungerFor ⟨Nat.le_of_ble_eq_true rfl, Nat.le_of_ble_eq_true rfl⟩ (Nat.le_of_ble_eq_true rfl) ⟨Nat.le_of_ble_eq_true rfl, Nat.le_of_ble_eq_true rfl⟩ rfl dX2_cheapest_10 (fun r9 w9 h9 => ?_)
  obtain ⟨rfl, rfl⟩ := h9
  refine p_istore (lv9 := [(4, .int (hg (R i) (nI 1))), (3, .int (nI 1)), (2, .ref (r i)), (0, .ref (ad 0)), (1, .int (nI i))]) C (by decide) rfl dX2_cheapest_13 ?_
  refine p_iconst (v := (nI 2)) C (by decide) dX2_cheapest_15 ?_
  refine p_istore (lv9 := [(5, .int (nI 2)), (4, .int (hg (R i) (nI 1))), (3, .int (nI 1)), (2, .ref (r i)), (0, .ref (ad 0)), (1, .int (nI i))]) C (by decide) rfl dX2_cheapest_16 ?_
  refine p_lv (lv9 := [(0, .ref (ad 0)), (2, .ref (r i)), (3, .int (nI 1)), (4, .int (hg (R i) (nI 1))), (5, .int (nI 2))]) [4, 3, 2, 1, 0] rfl ?_
  have lp18 : ∀ (n18 : Nat) (j : Nat), (hj : j + n18 = 19) → WP p l e (rmL 2 1 6) s m args below meth c D A 7 (KW k ad r (nI n) R T U tx sz Y) [(0, .ref (ad 0)), (2, .ref (r i)), (3, .int (nI (leN (R i) j))), (4, .int (hg (R i) (nI (leN (R i) j)))), (5, .int (nI (j + 2)))] 1 6 Q 18 [] := by
    intro n18
    induction n18 with
    | zero =>
      intro j hj
      obtain rfl : j = 19 := by omega
      refine p_iload C 4 rfl dX2_cheapest_18 ?_
      refine p_bipush (v := 20) C (by decide) dX2_cheapest_20 ?_
      refine p_icmp_gt C 53 (by decide) dX2_cheapest_22 (fun c_22 => ?_) (fun c_22 => absurd c_22 (by decide))
      refine p_iload_n C rfl 2 rfl dX2_cheapest_53 ?_
      rw [hQ]
      exact rx_i C hrt9 (⟨by unfold e1; rw [vi]; rfl, by rw [ix_nI (by omega)]; try rfl, _, _, _, _, rfl⟩) (by (try simp only [rmL_c, rmL_s]); omega) (by (try simp only [rmL_c, rmL_s]); omega) dX2_cheapest_54
    | succ n18 ih18 =>
      intro j hj
      refine p_iload C 4 rfl dX2_cheapest_18 ?_
      refine p_bipush (v := 20) C (by decide) dX2_cheapest_20 ?_
      refine p_icmp_gt C 53 (by decide) dX2_cheapest_22 (fun c_22 => absurd c_22 (nI_nlt (a := 20) (by omega) (by omega))) (fun c_22 => ?_)
      refine p_aload_n C rfl 1 rfl dX2_cheapest_25 ?_
      refine p_iload C 4 rfl dX2_cheapest_26 ?_
      refine c_Si (As := [.ref (r i), .int (nI (j + 2))]) (rest := []) C (m_X1_hungerFor l D k (u := (i + 6)) (x := (nI (j + 2))) (KW_row hi6)) qml_X2_98 qst_X1_hungerFor qin_X1 qco_X1_hungerFor nd_X1_hungerFor ⟨Nat.le_of_ble_eq_true rfl, Nat.le_of_ble_eq_true rfl⟩ (Nat.le_of_ble_eq_true rfl) ⟨Nat.le_of_ble_eq_true rfl, Nat.le_of_ble_eq_true rfl⟩ rfl dX2_cheapest_28 (fun r9 w9 h9 => ?_)
      obtain ⟨rfl, rfl⟩ := h9
      refine p_istore (lv9 := [(6, .int (hg (R i) (nI (j + 2)))), (0, .ref (ad 0)), (2, .ref (r i)), (3, .int (nI (leN (R i) j))), (4, .int (hg (R i) (nI (leN (R i) j)))), (5, .int (nI (j + 2)))]) C (by decide) rfl dX2_cheapest_31 ?_
      refine p_iload C 0 rfl dX2_cheapest_33 ?_
      refine p_iload C 4 rfl dX2_cheapest_35 ?_
      refine p_icmp_ge C 47 (by decide) dX2_cheapest_37 (fun c_37 => ?_) (fun c_37 => ?_)
      · refine p_iinc (lv9 := [(5, .int (nI (j + 1 + 2))), (6, .int (hg (R i) (nI (j + 2)))), (0, .ref (ad 0)), (2, .ref (r i)), (3, .int (nI (leN (R i) j))), (4, .int (hg (R i) (nI (leN (R i) j))))]) (v := (nI (j + 1 + 2))) C (j := 5) rfl ((i_up _).trans (by rw [Nat.add_right_comm])) (by decide) rfl dX2_cheapest_47 ?_
        refine p_goto C 18 (by decide) dX2_cheapest_50 ?_
        refine p_lv (lv9 := [(0, .ref (ad 0)), (2, .ref (r i)), (3, .int (nI (leN (R i) j))), (4, .int (hg (R i) (nI (leN (R i) j)))), (5, .int (nI (j + 1 + 2)))]) [2, 3, 4, 5, 0] rfl ?_
        rw [show leN (R i) j = leN (R i) (j + 1) from (if_neg (Int32.not_lt.mpr c_37)).symm]
        exact ih18 (j + 1) (by omega)
      · refine p_iload C 5 rfl dX2_cheapest_40 ?_
        refine p_istore_n (lv9 := [(3, .int (nI (j + 2))), (6, .int (hg (R i) (nI (j + 2)))), (0, .ref (ad 0)), (2, .ref (r i)), (4, .int (hg (R i) (nI (leN (R i) j)))), (5, .int (nI (j + 2)))]) C rfl (by decide) rfl dX2_cheapest_42 ?_
        refine p_iload C 1 rfl dX2_cheapest_43 ?_
        refine p_istore (lv9 := [(4, .int (hg (R i) (nI (j + 2)))), (3, .int (nI (j + 2))), (6, .int (hg (R i) (nI (j + 2)))), (0, .ref (ad 0)), (2, .ref (r i)), (5, .int (nI (j + 2)))]) C (by decide) rfl dX2_cheapest_45 ?_
        refine p_iinc (lv9 := [(5, .int (nI (j + 1 + 2))), (4, .int (hg (R i) (nI (j + 2)))), (3, .int (nI (j + 2))), (6, .int (hg (R i) (nI (j + 2)))), (0, .ref (ad 0)), (2, .ref (r i))]) (v := (nI (j + 1 + 2))) C (j := 5) rfl ((i_up _).trans (by rw [Nat.add_right_comm])) (by decide) rfl dX2_cheapest_47 ?_
        refine p_goto C 18 (by decide) dX2_cheapest_50 ?_
        refine p_lv (lv9 := [(0, .ref (ad 0)), (2, .ref (r i)), (3, .int (nI (j + 2))), (4, .int (hg (R i) (nI (j + 2)))), (5, .int (nI (j + 1 + 2)))]) [4, 5, 2, 1, 0] rfl ?_
        rw [show j + 2 = leN (R i) (j + 1) from (if_pos (Int32.not_le.mp c_37)).symm]
        exact ih18 (j + 1) (by omega)
  exact lp18 19 0 (by decide)
set_option maxHeartbeats 4000000 in
set_option maxRecDepth 100000 in
/-- X2_content -/
theorem m_X2_content (l : Launch) (D : va_G) (k : Nat → ClassId) (hfl : l.stackTraces = false) {ad r : Nat → Nat} {n : Nat} {R : Nat → Nat → Int32} {T U tx : Nat → Int32} {sz : Int32} {Y : va_W} (hn : n ≤ 16) {rc : Int32} : XtL l D k yX2_content (wU yX2_content cX2_content 6 (some .long)) (rmL 2 1 6) [.ref (ad 0), .int rc] (KW k ad r (nI n) R T U tx sz Y) (fun v9 w' => (e1 n rc) = 0 ∧ v9 = lN (ct (R (ix rc))) ∧ ∃ (T' U' tx' : Nat → Int32) (sz' : Int32), w' = (KW k ad r (nI n) R T' U' tx' sz' Y)) (fun E w' => ¬ (e1 n rc) = 0 ∧ E = exn (e1 n rc) ∧ ∃ (T' U' tx' : Nat → Int32) (sz' : Int32), w' = (KW k ad r (nI n) R T' U' tx' sz' Y)) := by
  refine openXL (own := RX2) rfl (by decide) (Nat.le_of_ble_eq_true rfl) rfl ?_
  intro p e s m args below meth c A C hrt9 hnm hE
  obtain ⟨Q, hQ⟩ : ∃ Q, Q = (vx_MQ below (va_Ql (fun v9 w' => (e1 n rc) = 0 ∧ v9 = lN (ct (R (ix rc))) ∧ ∃ (T' U' tx' : Nat → Int32) (sz' : Int32), w' = (KW k ad r (nI n) R T' U' tx' sz' Y)) (cBA D A) A) (xXA D A (fun E w' => ¬ (e1 n rc) = 0 ∧ E = exn (e1 n rc) ∧ ∃ (T' U' tx' : Nat → Int32) (sz' : Int32), w' = (KW k ad r (nI n) R T' U' tx' sz' Y))) args s 1 6 A) := ⟨_, rfl⟩
  show WP p l e (rmL 2 1 6) s m args below meth c D A 6 (KW k ad r (nI n) R T U tx sz Y) [(0, .ref (ad 0)), (1, .int rc)] 0 0 (vx_MQ below (va_Ql (fun v9 w' => (e1 n rc) = 0 ∧ v9 = lN (ct (R (ix rc))) ∧ ∃ (T' U' tx' : Nat → Int32) (sz' : Int32), w' = (KW k ad r (nI n) R T' U' tx' sz' Y)) (cBA D A) A) (xXA D A (fun E w' => ¬ (e1 n rc) = 0 ∧ E = exn (e1 n rc) ∧ ∃ (T' U' tx' : Nat → Int32) (sz' : Int32), w' = (KW k ad r (nI n) R T' U' tx' sz' Y))) args s 1 6 A) 0 []
  rw [← hQ]
  refine p_aload_n C rfl 0 rfl dX2_content_0 ?_
  refine p_iload_n C rfl 1 rfl dX2_content_1 ?_
  refine cx_Vr (As := [.int rc]) (rest := []) C (m_X2_rowOf l D k hfl hn (rc := rc)) 0 rfl rfl rfl qml_X2_36 qim_X2_rowOf qse_X2_X2_rowOf qin_X2 qco_X2_rowOf nd_X2_rowOf ⟨Nat.le_of_ble_eq_true rfl, Nat.le_of_ble_eq_true rfl⟩ (Nat.le_of_ble_eq_true rfl) ⟨Nat.le_of_ble_eq_true rfl, Nat.le_of_ble_eq_true rfl⟩ rfl dX2_content_2 (fun E9 w9 h9 => by obtain ⟨hx9, rfl, rfl⟩ := h9; rw [hQ]; exact x_out C hE ⟨by rw [show (e1 n rc) = 1 from by unfold e1; rw [hx9]; rfl]; exact one_n0, by rw [show (e1 n rc) = 1 from by unfold e1; rw [hx9]; rfl]; exact exn_1.symm, _, _, _, _, rfl⟩ (by (try simp only [rmL_c, rmL_s]); omega) (by (try simp only [rmL_c, rmL_s]); omega)) (fun r9 w9 h9 => ?_)
  obtain ⟨i, hi, rfl, rfl, rfl⟩ := h9
  have vi := isR_of hn hi
  have hi6 : i < 16 := by omega
  refine p_astore_n (lv9 := [(2, .ref (r i)), (0, .ref (ad 0)), (1, .int (nI i))]) C rfl (by decide) rfl dX2_content_5 ?_
  refine p_lconst (v := (lN 0)) C (by decide) dX2_content_6 ?_
  refine p_lstore_n (lv9 := [(3, .long (lN 0)), (2, .ref (r i)), (0, .ref (ad 0)), (1, .int (nI i))]) C rfl (by decide) rfl dX2_content_7 ?_
  refine p_iconst (v := (nI 0)) C (by decide) dX2_content_8 ?_
  refine p_istore (lv9 := [(5, .int (nI 0)), (3, .long (lN 0)), (2, .ref (r i)), (0, .ref (ad 0)), (1, .int (nI i))]) C (by decide) rfl dX2_content_9 ?_
  refine p_lv (lv9 := [(0, .ref (ad 0)), (2, .ref (r i)), (3, .long (lN 0)), (5, .int (nI 0))]) [3, 2, 1, 0] rfl ?_
  have lp11 : ∀ (n11 : Nat) (j : Nat), (hj : j + n11 = 9) → WP p l e (rmL 2 1 6) s m args below meth c D A 6 (KW k ad r (nI n) R T U tx sz Y) [(0, .ref (ad 0)), (2, .ref (r i)), (3, .long (lN (ctN (R i) j))), (5, .int (nI j))] 1 6 Q 11 [] := by
    intro n11
    induction n11 with
    | zero =>
      intro j hj
      obtain rfl : j = 9 := by omega
      refine p_iload C 3 rfl dX2_content_11 ?_
      refine p_bipush (v := 9) C (by decide) dX2_content_13 ?_
      refine p_icmp_ge C 36 (by decide) dX2_content_15 (fun c_15 => ?_) (fun c_15 => absurd c_15 (by decide))
      refine p_lload_n C rfl 2 rfl dX2_content_36 ?_
      rw [hQ]
      exact rx_l C hrt9 (⟨by unfold e1; rw [vi]; rfl, by rw [ix_nI (by omega)]; try rfl, _, _, _, _, rfl⟩) (by (try simp only [rmL_c, rmL_s]); omega) (by (try simp only [rmL_c, rmL_s]); omega) dX2_content_37
    | succ n11 ih11 =>
      intro j hj
      have hc9 := ctN_le (R i) j
      have hab := ab_le (R i j)
      refine p_iload C 3 rfl dX2_content_11 ?_
      refine p_bipush (v := 9) C (by decide) dX2_content_13 ?_
      refine p_icmp_ge C 36 (by decide) dX2_content_15 (fun c_15 => absurd c_15 (nI_ge (b := 9) (show j < 9 by omega) (by decide))) (fun c_15 => ?_)
      refine p_lload_n C rfl 2 rfl dX2_content_18 ?_
      refine p_aload_n C rfl 1 rfl dX2_content_19 ?_
      refine p_iload C 3 rfl dX2_content_20 ?_
      refine p_iald (v := ((R i) j)) C (i + 6) (KW_row hi6) (vp_in_nI (n := j) (N := 9) (by omega) (by omega)) (by rw [show ((nI j)).toNatClampNeg = j from nI_clamp (by omega)]) dX2_content_22 ?_
      refine c_Sl (As := [.int ((R i) j)]) (rest := [.long (lN (ctN (R i) j))]) C (m_X1_withoutSign l D k (x := ((R i) j))) qml_X2_90 qst_X1_withoutSign qin_X1 qco_X1_withoutSign nd_X1_withoutSign ⟨Nat.le_of_ble_eq_true rfl, Nat.le_of_ble_eq_true rfl⟩ (Nat.le_of_ble_eq_true rfl) ⟨Nat.le_of_ble_eq_true rfl, Nat.le_of_ble_eq_true rfl⟩ rfl dX2_content_23 (fun r9 w9 h9 => ?_)
      obtain ⟨rfl, rfl⟩ := h9
      refine c_Sl (As := [.long (lN (ctN (R i) j)), .long (lN (ab ((R i) j)))]) (rest := []) C (m_X1_commonDivisor l D k (a := (ctN (R i) j)) (b := (ab ((R i) j))) hc9 hab) qml_X2_94 qst_X1_commonDivisor qin_X1 qco_X1_commonDivisor nd_X1_commonDivisor ⟨Nat.le_of_ble_eq_true rfl, Nat.le_of_ble_eq_true rfl⟩ (Nat.le_of_ble_eq_true rfl) ⟨Nat.le_of_ble_eq_true rfl, Nat.le_of_ble_eq_true rfl⟩ rfl dX2_content_26 (fun r9 w9 h9 => ?_)
      obtain ⟨rfl, rfl⟩ := h9
      refine p_lstore_n (lv9 := [(3, .long (lN (Nat.gcd (ctN (R i) j) (ab ((R i) j))))), (0, .ref (ad 0)), (2, .ref (r i)), (5, .int (nI j))]) C rfl (by decide) rfl dX2_content_29 ?_
      refine p_iinc (lv9 := [(5, .int (nI (j + 1))), (3, .long (lN (Nat.gcd (ctN (R i) j) (ab ((R i) j))))), (0, .ref (ad 0)), (2, .ref (r i))]) (v := (nI (j + 1))) C (j := 3) rfl (i_up j) (by decide) rfl dX2_content_30 ?_
      refine p_goto C 11 (by decide) dX2_content_33 ?_
      refine p_lv (lv9 := [(0, .ref (ad 0)), (2, .ref (r i)), (3, .long (lN (Nat.gcd (ctN (R i) j) (ab ((R i) j))))), (5, .int (nI (j + 1)))]) [2, 3, 1, 0] rfl ?_
      exact ih11 (j + 1) (by omega)
  exact lp11 9 0 (by decide)
set_option maxHeartbeats 4000000 in
set_option maxRecDepth 100000 in
/-- X2_recipes -/
theorem m_X2_recipes (l : Launch) (D : va_G) (k : Nat → ClassId) {ad r : Nat → Nat} {n : Nat} {R : Nat → Nat → Int32} {T U tx : Nat → Int32} {sz : Int32} {Y : va_W} : CtI l D k yX2_recipes (wU yX2_recipes cX2_recipes 1 (some .int)) (rmL 0 0 0) [.ref (ad 0)] (KW k ad r (nI n) R T U tx sz Y) (fun v9 w' => v9 = nI n ∧ w' = (KW k ad r (nI n) R T U tx sz Y)) := by
  refine openI (own := RX2) rfl (by decide) (Nat.le_of_ble_eq_true rfl) rfl ?_
  intro p e s m args below meth c A C hrt9 hnm
  obtain ⟨Q, hQ⟩ : ∃ Q, Q = (MQ below (va_Qi (fun v9 w' => v9 = nI n ∧ w' = (KW k ad r (nI n) R T U tx sz Y)) (cBA D A) A) args s 0 0 A) := ⟨_, rfl⟩
  show WP p l e (rmL 0 0 0) s m args below meth c D A 1 (KW k ad r (nI n) R T U tx sz Y) [(0, .ref (ad 0))] 0 0 (MQ below (va_Qi (fun v9 w' => v9 = nI n ∧ w' = (KW k ad r (nI n) R T U tx sz Y)) (cBA D A) A) args s 0 0 A) 0 []
  rw [← hQ]
  refine p_aload_n C rfl 0 rfl dX2_recipes_0 ?_
  refine p_get (v := .int (nI n)) (T := TX2) C 0 rfl rfl 1 (by decide) inX2 qfl_X2_14 (fun _ h9 => h9) rfl dX2_recipes_1 ?_
  rw [hQ]
  exact r_i C hrt9 (⟨rfl, rfl⟩) (by decide) (by decide) dX2_recipes_4
