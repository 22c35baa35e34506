def exnA (_ : Int32) : String := "java/lang/IllegalStateException"
def exnJ (e : Int32) : String := if e = 1 then "java/lang/IndexOutOfBoundsException" else "java/lang/IllegalStateException"
theorem exnA_1 : exnA 1 = "java/lang/IllegalStateException" := rfl
theorem exnJ_1 : exnJ 1 = "java/lang/IndexOutOfBoundsException" := rfl
theorem exnJ_2 : exnJ 2 = "java/lang/IllegalStateException" := rfl
theorem le16 {n : Nat} (h : n < 16) : ¬ n = 16 := by omega
set_option maxHeartbeats 4000000 in
set_option maxRecDepth 100000 in
/-- X2_addRecipe -/
theorem m_X2_addRecipe (l : Launch) (D : va_G) (k : Nat → ClassId) (hfl : l.stackTraces = false) {ad r : Nat → Nat} {n : Nat} {R : Nat → Nat → Int32} {T U tx : Nat → Int32} {sz : Int32} {Y : va_W} (hn : n ≤ 16)  : XtI l D k yX2_addRecipe (wU yX2_addRecipe cX2_addRecipe 1 (some .int)) (rmL 2 1 6) [.ref (ad 0)] (KW k ad r (nI n) R T U tx sz Y) (fun v9 w' => (eAdd n) = 0 ∧ v9 = nI n ∧ ∃ (T' U' tx' : Nat → Int32) (sz' : Int32), w' = (KW k ad r (nI (n + 1)) (upR R n (fun _ => 0)) T' U' tx' sz' Y)) (fun E w' => ¬ (eAdd n) = 0 ∧ E = exnA (eAdd n) ∧ ∃ (T' U' tx' : Nat → Int32) (sz' : Int32), w' = (KW k ad r (nI n) R T' U' tx' sz' Y)) := by
  refine openXI (own := RX2) rfl (by decide) (Nat.le_of_ble_eq_true rfl) rfl ?_
  intro p e s m args below meth c A C hrt9 hnm hE
  obtain ⟨Q, hQ⟩ : ∃ Q, Q = (vx_MQ below (va_Qi (fun v9 w' => (eAdd n) = 0 ∧ v9 = nI n ∧ ∃ (T' U' tx' : Nat → Int32) (sz' : Int32), w' = (KW k ad r (nI (n + 1)) (upR R n (fun _ => 0)) T' U' tx' sz' Y)) (cBA D A) A) (xXA D A (fun E w' => ¬ (eAdd n) = 0 ∧ E = exnA (eAdd n) ∧ ∃ (T' U' tx' : Nat → Int32) (sz' : Int32), w' = (KW k ad r (nI n) R T' U' tx' sz' Y))) args s 1 6 A) := ⟨_, rfl⟩
  show WP p l e (rmL 2 1 6) s m args below meth c D A 1 (KW k ad r (nI n) R T U tx sz Y) [(0, .ref (ad 0))] 0 0 (vx_MQ below (va_Qi (fun v9 w' => (eAdd n) = 0 ∧ v9 = nI n ∧ ∃ (T' U' tx' : Nat → Int32) (sz' : Int32), w' = (KW k ad r (nI (n + 1)) (upR R n (fun _ => 0)) T' U' tx' sz' Y)) (cBA D A) A) (xXA D A (fun E w' => ¬ (eAdd n) = 0 ∧ E = exnA (eAdd n) ∧ ∃ (T' U' tx' : Nat → Int32) (sz' : Int32), w' = (KW k ad r (nI n) R T' U' tx' sz' Y))) args s 1 6 A) 0 []
  rw [← hQ]
  refine p_aload_n C rfl 0 rfl dX2_addRecipe_0 ?_
  refine cx_Vr (As := []) (rest := []) C (m_X2_newRow l D k hfl (n := n) (by omega)) 0 rfl rfl rfl qml_X2_32 qim_X2_newRow qse_X2_X2_newRow qin_X2 qco_X2_newRow nd_X2_newRow ⟨Nat.le_of_ble_eq_true rfl, Nat.le_of_ble_eq_true rfl⟩ (Nat.le_of_ble_eq_true rfl) ⟨Nat.le_of_ble_eq_true rfl, Nat.le_of_ble_eq_true rfl⟩ rfl dX2_addRecipe_1 (fun E9 w9 h9 => by obtain ⟨hx9, rfl, rfl⟩ := h9; rw [hQ]; exact x_out C hE ⟨by rw [show eAdd n = 1 from by unfold eAdd; exact if_pos hx9]; exact one_n0, by rw [show eAdd n = 1 from by unfold eAdd; exact if_pos hx9]; exact exnA_1.symm, _, _, _, _, rfl⟩ (by (try simp only [rmL_c, rmL_s]); omega) (by (try simp only [rmL_c, rmL_s]); omega)) (fun r9 w9 h9 => ?_)
  obtain ⟨h16, rfl, rfl⟩ := h9
  refine p_pop C rfl dX2_addRecipe_4 ?_
  refine p_aload_n C rfl 0 rfl dX2_addRecipe_5 ?_
  refine p_get (v := .int (nI (n + 1))) (T := TX2) C 0 rfl rfl 1 (by decide) inX2 qfl_X2_14 (fun _ h9 => h9) rfl dX2_addRecipe_6 ?_
  refine p_iconst (v := 1) C (by decide) dX2_addRecipe_9 ?_
  refine p_isub C dX2_addRecipe_10 ?_
  refine p_int (y := (nI n)) (nI_pred n) ?_
  rw [hQ]
  exact rx_i C hrt9 (⟨if_neg (le16 h16), rfl, _, _, _, _, rfl⟩) (by (try simp only [rmL_c, rmL_s]); omega) (by (try simp only [rmL_c, rmL_s]); omega) dX2_addRecipe_11
set_option maxHeartbeats 4000000 in
set_option maxRecDepth 100000 in
/-- X2_set -/
theorem m_X2_set (l : Launch) (D : va_G) (k : Nat → ClassId) (hfl : l.stackTraces = false) {ad r : Nat → Nat} {n : Nat} {R : Nat → Nat → Int32} {T U tx : Nat → Int32} {sz : Int32} {Y : va_W} (hn : n ≤ 16) {rc pw am : Int32} : XtI l D k yX2_set (wU yX2_set cX2_set 6 (some .int)) (rmL 2 3 18) [.ref (ad 0), .int rc, .int pw, .int am] (KW k ad r (nI n) R T U tx sz Y) (fun v9 w' => (eSet n rc pw am) = 0 ∧ v9 = (R (ix rc)) (ix pw) ∧ ∃ (T' U' tx' : Nat → Int32) (sz' : Int32), w' = (KW k ad r (nI n) (upR R (ix rc) (upd (R (ix rc)) (ix pw) am)) T' U' tx' sz' Y)) (fun E w' => ¬ (eSet n rc pw am) = 0 ∧ E = exn (eSet n rc pw am) ∧ ∃ (T' U' tx' : Nat → Int32) (sz' : Int32), w' = (KW k ad r (nI n) R T' U' tx' sz' Y)) := by
  refine openXI (own := RX2) rfl (by decide) (Nat.le_of_ble_eq_true rfl) rfl ?_
  intro p e s m args below meth c A C hrt9 hnm hE
  obtain ⟨Q, hQ⟩ : ∃ Q, Q = (vx_MQ below (va_Qi (fun v9 w' => (eSet n rc pw am) = 0 ∧ v9 = (R (ix rc)) (ix pw) ∧ ∃ (T' U' tx' : Nat → Int32) (sz' : Int32), w' = (KW k ad r (nI n) (upR R (ix rc) (upd (R (ix rc)) (ix pw) am)) T' U' tx' sz' Y)) (cBA D A) A) (xXA D A (fun E w' => ¬ (eSet n rc pw am) = 0 ∧ E = exn (eSet n rc pw am) ∧ ∃ (T' U' tx' : Nat → Int32) (sz' : Int32), w' = (KW k ad r (nI n) R T' U' tx' sz' Y))) args s 3 18 A) := ⟨_, rfl⟩
  show WP p l e (rmL 2 3 18) s m args below meth c D A 6 (KW k ad r (nI n) R T U tx sz Y) [(0, .ref (ad 0)), (1, .int rc), (2, .int pw), (3, .int am)] 0 0 (vx_MQ below (va_Qi (fun v9 w' => (eSet n rc pw am) = 0 ∧ v9 = (R (ix rc)) (ix pw) ∧ ∃ (T' U' tx' : Nat → Int32) (sz' : Int32), w' = (KW k ad r (nI n) (upR R (ix rc) (upd (R (ix rc)) (ix pw) am)) T' U' tx' sz' Y)) (cBA D A) A) (xXA D A (fun E w' => ¬ (eSet n rc pw am) = 0 ∧ E = exn (eSet n rc pw am) ∧ ∃ (T' U' tx' : Nat → Int32) (sz' : Int32), w' = (KW k ad r (nI n) R T' U' tx' sz' Y))) args s 3 18 A) 0 []
  rw [← hQ]
  refine p_aload_n C rfl 0 rfl dX2_set_0 ?_
  refine p_iload_n C rfl 1 rfl dX2_set_1 ?_
  refine cx_Vr (As := [.int rc]) (rest := []) C (m_X2_rowOf l D k hfl hn (rc := rc)) 0 rfl rfl rfl qml_X2_36 qim_X2_rowOf qse_X2_X2_rowOf qin_X2 qco_X2_rowOf nd_X2_rowOf ⟨Nat.le_of_ble_eq_true rfl, Nat.le_of_ble_eq_true rfl⟩ (Nat.le_of_ble_eq_true rfl) ⟨Nat.le_of_ble_eq_true rfl, Nat.le_of_ble_eq_true rfl⟩ rfl dX2_set_2 (fun E9 w9 h9 => by obtain ⟨hx9, rfl, rfl⟩ := h9; rw [hQ]; exact x_out C hE ⟨by rw [show eSet n rc pw am = 1 from by unfold eSet; rw [hx9]; rfl]; exact one_n0, by rw [show eSet n rc pw am = 1 from by unfold eSet; rw [hx9]; rfl]; exact exn_1.symm, _, _, _, _, rfl⟩ (by (try simp only [rmL_c, rmL_s]); omega) (by (try simp only [rmL_c, rmL_s]); omega)) (fun r9 w9 h9 => ?_)
  obtain ⟨i, hi, rfl, rfl, rfl⟩ := h9
  have vi := isR_of hn hi
  have hi6 : i < 16 := by omega
  refine p_astore (lv9 := [(4, .ref (r i)), (0, .ref (ad 0)), (1, .int (nI i)), (2, .int pw), (3, .int am)]) C (by decide) rfl dX2_set_5 ?_
  refine p_iload_n C rfl 3 rfl dX2_set_7 ?_
  refine cx_Sv (As := [.int pw]) (rest := []) C (m_X2_requirePower l D k hfl (pw := pw)) qml_X2_40 qst_X2_requirePower qin_X2 qco_X2_requirePower nd_X2_requirePower ⟨Nat.le_of_ble_eq_true rfl, Nat.le_of_ble_eq_true rfl⟩ (Nat.le_of_ble_eq_true rfl) ⟨Nat.le_of_ble_eq_true rfl, Nat.le_of_ble_eq_true rfl⟩ rfl dX2_set_8 (fun E9 w9 h9 => by obtain ⟨hx9, rfl, rfl⟩ := h9; rw [hQ]; exact x_out C hE ⟨by rw [show eSet n (nI i) pw am = 1 from by unfold eSet; rw [vi, hx9]; rfl]; exact one_n0, by rw [show eSet n (nI i) pw am = 1 from by unfold eSet; rw [vi, hx9]; rfl]; exact exn_1.symm, _, _, _, _, rfl⟩ (by (try simp only [rmL_c, rmL_s]); omega) (by (try simp only [rmL_c, rmL_s]); omega)) (fun w9 h9 => ?_)
  obtain ⟨⟨p9, hp9, rfl⟩, rfl⟩ := h9
  have vp9 := isF8 p9 hp9
  refine p_iload_n C rfl 4 rfl dX2_set_11 ?_
  refine p_sipush (v := (-999)) C (by decide) dX2_set_12 ?_
  refine p_icmp_lt C 25 (by decide) dX2_set_15 (fun c_15 => ?_) (fun c_15 => ?_)
  · rw [hQ]
    exact x_throw C hfl hE (E := "java/lang/IllegalArgumentException") (names := ["java/lang/RuntimeException", "java/lang/Exception"]) (by decide +kernel) (by decide +kernel) qcl_X2_44 qin_IllegalArgumentException (is := 46) (ic := 48) (text := "the amount is not -999 to 999") (by decide +kernel) at_X2_48 dX2_set_25 dX2_set_28 dX2_set_29 dX2_set_31 dX2_set_34 (by decide) (by decide) (by decide) (by decide) (by decide) (by decide) (⟨by rw [show eSet n (nI i) (nI p9) am = 2 from by unfold eSet; rw [vi, vp9, isF_no1 c_15]; rfl]; exact two_n0, by rw [show eSet n (nI i) (nI p9) am = 2 from by unfold eSet; rw [vi, vp9, isF_no1 c_15]; rfl]; exact exn_2.symm, _, _, _, _, rfl⟩)
  · refine p_iload_n C rfl 4 rfl dX2_set_18 ?_
    refine p_sipush (v := 999) C (by decide) dX2_set_19 ?_
    refine p_icmp_le C 35 (by decide) dX2_set_22 (fun c_22 => ?_) (fun c_22 => ?_)
    · refine p_aload C 0 rfl dX2_set_35 ?_
      refine p_iload_n C rfl 3 rfl dX2_set_37 ?_
      refine p_iald (v := ((R i) p9)) C (i + 6) (KW_row hi6) (vp_in_nI (n := p9) (N := 9) (by omega) (by omega)) (by rw [show ((nI p9)).toNatClampNeg = p9 from nI_clamp (by omega)]) dX2_set_38 ?_
      refine p_istore (lv9 := [(5, .int ((R i) p9)), (4, .ref (r i)), (0, .ref (ad 0)), (1, .int (nI i)), (2, .int (nI p9)), (3, .int am)]) C (by decide) rfl dX2_set_39 ?_
      refine p_aload C 1 rfl dX2_set_41 ?_
      refine p_iload_n C rfl 4 rfl dX2_set_43 ?_
      refine p_iload_n C rfl 5 rfl dX2_set_44 ?_
      refine p_iast (w9 := (KW k ad r (nI n) (upR R i (upd (R i) p9 am)) T U tx sz Y)) C (i + 6) (KW_row hi6) (vp_in_nI (n := p9) (N := 9) (by omega) (by omega)) (by rw [show ((nI p9)).toNatClampNeg = p9 from nI_clamp (by omega)]; exact KW_srow hi6) dX2_set_45 ?_
      refine p_iload C 0 rfl dX2_set_46 ?_
      rw [hQ]
      exact rx_i C hrt9 (⟨by unfold eSet; rw [vi, vp9, isF_yes c_15 (Int32.not_lt.mpr c_22)]; rfl, by rw [ix_nI (by omega), ix_nI (by omega)], _, _, _, _, by rw [ix_nI (by omega), ix_nI (by omega)]⟩) (by (try simp only [rmL_c, rmL_s]); omega) (by (try simp only [rmL_c, rmL_s]); omega) dX2_set_48
    · rw [hQ]
      exact x_throw C hfl hE (E := "java/lang/IllegalArgumentException") (names := ["java/lang/RuntimeException", "java/lang/Exception"]) (by decide +kernel) (by decide +kernel) qcl_X2_44 qin_IllegalArgumentException (is := 46) (ic := 48) (text := "the amount is not -999 to 999") (by decide +kernel) at_X2_48 dX2_set_25 dX2_set_28 dX2_set_29 dX2_set_31 dX2_set_34 (by decide) (by decide) (by decide) (by decide) (by decide) (by decide) (⟨by rw [show eSet n (nI i) (nI p9) am = 2 from by unfold eSet; rw [vi, vp9, isF_no2 (Int32.not_le.mp c_22)]; rfl]; exact two_n0, by rw [show eSet n (nI i) (nI p9) am = 2 from by unfold eSet; rw [vi, vp9, isF_no2 (Int32.not_le.mp c_22)]; rfl]; exact exn_2.symm, _, _, _, _, rfl⟩)
set_option maxHeartbeats 4000000 in
set_option maxRecDepth 100000 in
/-- X2_shift -/
theorem m_X2_shift (l : Launch) (D : va_G) (k : Nat → ClassId) (hfl : l.stackTraces = false) {ad r : Nat → Nat} {n : Nat} {R : Nat → Nat → Int32} {T U tx : Nat → Int32} {sz : Int32} {Y : va_W} (hn : n ≤ 16) {rc x : Int32} : XtI l D k yX2_shift (wU yX2_shift cX2_shift 4 (some .int)) (rmL 2 2 12) [.ref (ad 0), .int rc, .int x] (KW k ad r (nI n) R T U tx sz Y) (fun v9 w' => (eShift n rc x) = 0 ∧ v9 = mv (R (ix rc)) x 0 ∧ ∃ (T' U' tx' : Nat → Int32) (sz' : Int32), w' = (KW k ad r (nI n) (upR R (ix rc) (mv (R (ix rc)) x)) T' U' tx' sz' Y)) (fun E w' => ¬ (eShift n rc x) = 0 ∧ E = exn (eShift n rc x) ∧ ∃ (T' U' tx' : Nat → Int32) (sz' : Int32), w' = (KW k ad r (nI n) R T' U' tx' sz' Y)) := by
  refine openXI (own := RX2) rfl (by decide) (Nat.le_of_ble_eq_true rfl) rfl ?_
  intro p e s m args below meth c A C hrt9 hnm hE
  obtain ⟨Q, hQ⟩ : ∃ Q, Q = (vx_MQ below (va_Qi (fun v9 w' => (eShift n rc x) = 0 ∧ v9 = mv (R (ix rc)) x 0 ∧ ∃ (T' U' tx' : Nat → Int32) (sz' : Int32), w' = (KW k ad r (nI n) (upR R (ix rc) (mv (R (ix rc)) x)) T' U' tx' sz' Y)) (cBA D A) A) (xXA D A (fun E w' => ¬ (eShift n rc x) = 0 ∧ E = exn (eShift n rc x) ∧ ∃ (T' U' tx' : Nat → Int32) (sz' : Int32), w' = (KW k ad r (nI n) R T' U' tx' sz' Y))) args s 2 12 A) := ⟨_, rfl⟩
  show WP p l e (rmL 2 2 12) s m args below meth c D A 4 (KW k ad r (nI n) R T U tx sz Y) [(0, .ref (ad 0)), (1, .int rc), (2, .int x)] 0 0 (vx_MQ below (va_Qi (fun v9 w' => (eShift n rc x) = 0 ∧ v9 = mv (R (ix rc)) x 0 ∧ ∃ (T' U' tx' : Nat → Int32) (sz' : Int32), w' = (KW k ad r (nI n) (upR R (ix rc) (mv (R (ix rc)) x)) T' U' tx' sz' Y)) (cBA D A) A) (xXA D A (fun E w' => ¬ (eShift n rc x) = 0 ∧ E = exn (eShift n rc x) ∧ ∃ (T' U' tx' : Nat → Int32) (sz' : Int32), w' = (KW k ad r (nI n) R T' U' tx' sz' Y))) args s 2 12 A) 0 []
  rw [← hQ]
  refine p_aload_n C rfl 0 rfl dX2_shift_0 ?_
  refine p_iload_n C rfl 1 rfl dX2_shift_1 ?_
  refine cx_Vr (As := [.int rc]) (rest := []) C (m_X2_rowOf l D k hfl hn (rc := rc)) 0 rfl rfl rfl qml_X2_36 qim_X2_rowOf qse_X2_X2_rowOf qin_X2 qco_X2_rowOf nd_X2_rowOf ⟨Nat.le_of_ble_eq_true rfl, Nat.le_of_ble_eq_true rfl⟩ (Nat.le_of_ble_eq_true rfl) ⟨Nat.le_of_ble_eq_true rfl, Nat.le_of_ble_eq_true rfl⟩ rfl dX2_shift_2 (fun E9 w9 h9 => by obtain ⟨hx9, rfl, rfl⟩ := h9; rw [hQ]; exact x_out C hE ⟨by rw [show eShift n rc x = 1 from by unfold eShift; rw [hx9]; rfl]; exact one_n0, by rw [show eShift n rc x = 1 from by unfold eShift; rw [hx9]; rfl]; exact exn_1.symm, _, _, _, _, rfl⟩ (by (try simp only [rmL_c, rmL_s]); omega) (by (try simp only [rmL_c, rmL_s]); omega)) (fun r9 w9 h9 => ?_)
  obtain ⟨i, hi, rfl, rfl, rfl⟩ := h9
  have vi := isR_of hn hi
  have hi6 : i < 16 := by omega
  refine p_astore_n (lv9 := [(3, .ref (r i)), (0, .ref (ad 0)), (1, .int (nI i)), (2, .int x)]) C rfl (by decide) rfl dX2_shift_5 ?_
  refine p_iload_n C rfl 3 rfl dX2_shift_6 ?_
  refine p_bipush (v := (-20)) C (by decide) dX2_shift_7 ?_
  refine p_icmp_lt C 18 (by decide) dX2_shift_9 (fun c_9 => ?_) (fun c_9 => ?_)
  · rw [hQ]
    exact x_throw C hfl hE (E := "java/lang/IllegalArgumentException") (names := ["java/lang/RuntimeException", "java/lang/Exception"]) (by decide +kernel) (by decide +kernel) qcl_X2_44 qin_IllegalArgumentException (is := 61) (ic := 48) (text := "the guests are not -20 to 20") (by decide +kernel) at_X2_48 dX2_shift_18 dX2_shift_21 dX2_shift_22 dX2_shift_24 dX2_shift_27 (by decide) (by decide) (by decide) (by decide) (by decide) (by decide) (⟨by rw [show eShift n (nI i) x = 2 from by unfold eShift; rw [vi, isF_no1 c_9]; rfl]; exact two_n0, by rw [show eShift n (nI i) x = 2 from by unfold eShift; rw [vi, isF_no1 c_9]; rfl]; exact exn_2.symm, _, _, _, _, rfl⟩)
  · refine p_iload_n C rfl 3 rfl dX2_shift_12 ?_
    refine p_bipush (v := 20) C (by decide) dX2_shift_13 ?_
    refine p_icmp_le C 28 (by decide) dX2_shift_15 (fun c_15 => ?_) (fun c_15 => ?_)
    · refine p_aload_n C rfl 0 rfl dX2_shift_28 ?_
      refine p_iload_n C rfl 3 rfl dX2_shift_29 ?_
      refine c_Sv (As := [.ref (r i), .int x]) (rest := []) C (m_X1_moveBy l D k (u := (i + 6)) (x := x) (KW_row hi6)) qml_X2_63 qst_X1_moveBy qin_X1 qco_X1_moveBy nd_X1_moveBy ⟨Nat.le_of_ble_eq_true rfl, Nat.le_of_ble_eq_true rfl⟩ (Nat.le_of_ble_eq_true rfl) ⟨Nat.le_of_ble_eq_true rfl, Nat.le_of_ble_eq_true rfl⟩ rfl dX2_shift_30 (fun w9 h9 => ?_)
      obtain rfl := h9
      refine p_w (w9 := (KW k ad r (nI n) (upR R i (mv (R i) x)) T U tx sz Y)) (KW_srow hi6) ?_
      refine p_aload_n C rfl 0 rfl dX2_shift_33 ?_
      refine p_iconst (v := 0) C (by decide) dX2_shift_34 ?_
      refine p_iald (v := ((mv (R i) x) 0)) C (i + 6) (by have h9 := KW_row (k := k) (ad := ad) (r := r) (cn := (nI n)) (R := (upR R i (mv (R i) x))) (T := T) (U := U) (tx := tx) (sz := sz) (Y := Y) hi6; rw [upR_s _ _ _] at h9; exact h9) (vp_in_nI (n := 0) (N := 9) (by omega) (by omega)) (by rw [show (0 : Int32).toNatClampNeg = 0 from rfl]) dX2_shift_35 ?_
      rw [hQ]
      exact rx_i C hrt9 (⟨by unfold eShift; rw [vi, isF_yes c_9 (Int32.not_lt.mpr c_15)]; rfl, by rw [ix_nI (by omega)], _, _, _, _, by rw [ix_nI (by omega)]⟩) (by (try simp only [rmL_c, rmL_s]); omega) (by (try simp only [rmL_c, rmL_s]); omega) dX2_shift_36
    · rw [hQ]
      exact x_throw C hfl hE (E := "java/lang/IllegalArgumentException") (names := ["java/lang/RuntimeException", "java/lang/Exception"]) (by decide +kernel) (by decide +kernel) qcl_X2_44 qin_IllegalArgumentException (is := 61) (ic := 48) (text := "the guests are not -20 to 20") (by decide +kernel) at_X2_48 dX2_shift_18 dX2_shift_21 dX2_shift_22 dX2_shift_24 dX2_shift_27 (by decide) (by decide) (by decide) (by decide) (by decide) (by decide) (⟨by rw [show eShift n (nI i) x = 2 from by unfold eShift; rw [vi, isF_no2 (Int32.not_le.mp c_15)]; rfl]; exact two_n0, by rw [show eShift n (nI i) x = 2 from by unfold eShift; rw [vi, isF_no2 (Int32.not_le.mp c_15)]; rfl]; exact exn_2.symm, _, _, _, _, rfl⟩)
set_option maxHeartbeats 4000000 in
set_option maxRecDepth 100000 in
/-- X2_product -/
theorem m_X2_product (l : Launch) (D : va_G) (k : Nat → ClassId) (hfl : l.stackTraces = false) {ad r : Nat → Nat} {n : Nat} {R : Nat → Nat → Int32} {T U tx : Nat → Int32} {sz : Int32} {Y : va_W} (hn : n ≤ 16) {ra rb : Int32} : XtI l D k yX2_product (wU yX2_product cX2_product 5 (some .int)) (rmL 2 4 24) [.ref (ad 0), .int ra, .int rb] (KW k ad r (nI n) R T U tx sz Y) (fun v9 w' => (eProd n R ra rb) = 0 ∧ v9 = nI n ∧ ∃ (T' U' tx' : Nat → Int32) (sz' : Int32), w' = (KW k ad r (nI (n + 1)) (upR R n (n9 (cv (R (ix ra)) (R (ix rb))))) T' U' tx' sz' Y)) (fun E w' => ¬ (eProd n R ra rb) = 0 ∧ E = exn (eProd n R ra rb) ∧ ∃ (T' U' tx' : Nat → Int32) (sz' : Int32), w' = (KW k ad r (nI n) R T' U' tx' sz' Y)) := by
  refine openXI (own := RX2) rfl (by decide) (Nat.le_of_ble_eq_true rfl) rfl ?_
  intro p e s m args below meth c A C hrt9 hnm hE
  obtain ⟨Q, hQ⟩ : ∃ Q, Q = (vx_MQ below (va_Qi (fun v9 w' => (eProd n R ra rb) = 0 ∧ v9 = nI n ∧ ∃ (T' U' tx' : Nat → Int32) (sz' : Int32), w' = (KW k ad r (nI (n + 1)) (upR R n (n9 (cv (R (ix ra)) (R (ix rb))))) T' U' tx' sz' Y)) (cBA D A) A) (xXA D A (fun E w' => ¬ (eProd n R ra rb) = 0 ∧ E = exn (eProd n R ra rb) ∧ ∃ (T' U' tx' : Nat → Int32) (sz' : Int32), w' = (KW k ad r (nI n) R T' U' tx' sz' Y))) args s 4 24 A) := ⟨_, rfl⟩
  show WP p l e (rmL 2 4 24) s m args below meth c D A 5 (KW k ad r (nI n) R T U tx sz Y) [(0, .ref (ad 0)), (1, .int ra), (2, .int rb)] 0 0 (vx_MQ below (va_Qi (fun v9 w' => (eProd n R ra rb) = 0 ∧ v9 = nI n ∧ ∃ (T' U' tx' : Nat → Int32) (sz' : Int32), w' = (KW k ad r (nI (n + 1)) (upR R n (n9 (cv (R (ix ra)) (R (ix rb))))) T' U' tx' sz' Y)) (cBA D A) A) (xXA D A (fun E w' => ¬ (eProd n R ra rb) = 0 ∧ E = exn (eProd n R ra rb) ∧ ∃ (T' U' tx' : Nat → Int32) (sz' : Int32), w' = (KW k ad r (nI n) R T' U' tx' sz' Y))) args s 4 24 A) 0 []
  rw [← hQ]
  refine p_aload_n C rfl 0 rfl dX2_product_0 ?_
  refine p_iload_n C rfl 1 rfl dX2_product_1 ?_
  refine cx_Vr (As := [.int ra]) (rest := []) C (m_X2_rowOf l D k hfl hn (rc := ra)) 0 rfl rfl rfl qml_X2_36 qim_X2_rowOf qse_X2_X2_rowOf qin_X2 qco_X2_rowOf nd_X2_rowOf ⟨Nat.le_of_ble_eq_true rfl, Nat.le_of_ble_eq_true rfl⟩ (Nat.le_of_ble_eq_true rfl) ⟨Nat.le_of_ble_eq_true rfl, Nat.le_of_ble_eq_true rfl⟩ rfl dX2_product_2 (fun E9 w9 h9 => by obtain ⟨hx9, rfl, rfl⟩ := h9; rw [hQ]; exact x_out C hE ⟨by rw [show eProd n R ra rb = 1 from by unfold eProd; rw [hx9]; rfl]; exact one_n0, by rw [show eProd n R ra rb = 1 from by unfold eProd; rw [hx9]; rfl]; exact exn_1.symm, _, _, _, _, rfl⟩ (by (try simp only [rmL_c, rmL_s]); omega) (by (try simp only [rmL_c, rmL_s]); omega)) (fun r9 w9 h9 => ?_)
  obtain ⟨i, hi, rfl, rfl, rfl⟩ := h9
  have vi := isR_of hn hi
  have hi6 : i < 16 := by omega
  refine p_astore_n (lv9 := [(3, .ref (r i)), (0, .ref (ad 0)), (1, .int (nI i)), (2, .int rb)]) C rfl (by decide) rfl dX2_product_5 ?_
  refine p_aload_n C rfl 1 rfl dX2_product_6 ?_
  refine p_iload_n C rfl 3 rfl dX2_product_7 ?_
  refine cx_Vr (As := [.int rb]) (rest := []) C (m_X2_rowOf l D k hfl hn (rc := rb)) 0 rfl rfl rfl qml_X2_36 qim_X2_rowOf qse_X2_X2_rowOf qin_X2 qco_X2_rowOf nd_X2_rowOf ⟨Nat.le_of_ble_eq_true rfl, Nat.le_of_ble_eq_true rfl⟩ (Nat.le_of_ble_eq_true rfl) ⟨Nat.le_of_ble_eq_true rfl, Nat.le_of_ble_eq_true rfl⟩ rfl dX2_product_8 (fun E9 w9 h9 => by obtain ⟨hx9, rfl, rfl⟩ := h9; rw [hQ]; exact x_out C hE ⟨by rw [show eProd n R (nI i) rb = 1 from by unfold eProd; rw [vi, hx9]; rfl]; exact one_n0, by rw [show eProd n R (nI i) rb = 1 from by unfold eProd; rw [vi, hx9]; rfl]; exact exn_1.symm, _, _, _, _, rfl⟩ (by (try simp only [rmL_c, rmL_s]); omega) (by (try simp only [rmL_c, rmL_s]); omega)) (fun r9 w9 h9 => ?_)
  obtain ⟨j, hj, rfl, rfl, rfl⟩ := h9
  have vj := isR_of hn hj
  have hj6 : j < 16 := by omega
  refine p_astore (lv9 := [(4, .ref (r j)), (3, .ref (r i)), (0, .ref (ad 0)), (1, .int (nI i)), (2, .int (nI j))]) C (by decide) rfl dX2_product_11 ?_
  refine p_aload_n C rfl 1 rfl dX2_product_13 ?_
  refine c_Si (As := [.ref (r i)]) (rest := []) C (m_X1_degree l D k (u := (i + 6))  (KW_row hi6)) qml_X2_51 qst_X1_degree qin_X1 qco_X1_degree nd_X1_degree ⟨Nat.le_of_ble_eq_true rfl, Nat.le_of_ble_eq_true rfl⟩ (Nat.le_of_ble_eq_true rfl) ⟨Nat.le_of_ble_eq_true rfl, Nat.le_of_ble_eq_true rfl⟩ rfl dX2_product_14 (fun r9 w9 h9 => ?_)
  obtain ⟨rfl, rfl⟩ := h9
  refine p_aload C 0 rfl dX2_product_17 ?_
  refine c_Si (As := [.ref (r j)]) (rest := [.int (dI (dg (R i)))]) C (m_X1_degree l D k (u := (j + 6))  (KW_row hj6)) qml_X2_51 qst_X1_degree qin_X1 qco_X1_degree nd_X1_degree ⟨Nat.le_of_ble_eq_true rfl, Nat.le_of_ble_eq_true rfl⟩ (Nat.le_of_ble_eq_true rfl) ⟨Nat.le_of_ble_eq_true rfl, Nat.le_of_ble_eq_true rfl⟩ rfl dX2_product_19 (fun r9 w9 h9 => ?_)
  obtain ⟨rfl, rfl⟩ := h9
  refine p_iadd C dX2_product_22 ?_
  refine p_bipush (v := 8) C (by decide) dX2_product_23 ?_
  refine p_icmp_le C 38 (by decide) dX2_product_25 (fun c_25 => ?_) (fun c_25 => ?_)
  · refine p_aload_n C rfl 1 rfl dX2_product_38 ?_
    refine p_aload C 0 rfl dX2_product_39 ?_
    refine p_aload_n C rfl 2 rfl dX2_product_41 ?_
    refine cx_Vr (As := []) (rest := [.ref (r j), .ref (r i)]) C (m_X2_newRow l D k hfl (n := n) (by omega)) 0 rfl rfl rfl qml_X2_32 qim_X2_newRow qse_X2_X2_newRow qin_X2 qco_X2_newRow nd_X2_newRow ⟨Nat.le_of_ble_eq_true rfl, Nat.le_of_ble_eq_true rfl⟩ (Nat.le_of_ble_eq_true rfl) ⟨Nat.le_of_ble_eq_true rfl, Nat.le_of_ble_eq_true rfl⟩ rfl dX2_product_42 (fun E9 w9 h9 => by obtain ⟨hx9, rfl, rfl⟩ := h9; rw [hQ]; exact x_out C hE ⟨by rw [show eProd n R (nI i) (nI j) = 3 from by unfold eProd; rw [vi, vj, ix_nI (show i < 2 ^ 31 by omega), ix_nI (show j < 2 ^ 31 by omega)]; exact (if_neg (Int32.not_lt.mpr c_25)).trans (if_pos hx9)]; exact three_n0, by rw [show eProd n R (nI i) (nI j) = 3 from by unfold eProd; rw [vi, vj, ix_nI (show i < 2 ^ 31 by omega), ix_nI (show j < 2 ^ 31 by omega)]; exact (if_neg (Int32.not_lt.mpr c_25)).trans (if_pos hx9)]; exact exn_3.symm, _, _, _, _, rfl⟩ (by (try simp only [rmL_c, rmL_s]); omega) (by (try simp only [rmL_c, rmL_s]); omega)) (fun r9 w9 h9 => ?_)
    obtain ⟨h16, rfl, rfl⟩ := h9
    refine c_Sv (As := [.ref (r i), .ref (r j), .ref (r n)]) (rest := []) C (m_X1_multiply l D k (u := (i + 6)) (v := (j + 6)) (t := (n + 6)) (by have h9 := KW_row (k := k) (ad := ad) (r := r) (cn := (nI (n + 1))) (R := (upR R n (fun _ => 0))) (T := T) (U := U) (tx := tx) (sz := sz) (Y := Y) hi6; rw [upR_n _ _ (by omega)] at h9; exact h9) (by have h9 := KW_row (k := k) (ad := ad) (r := r) (cn := (nI (n + 1))) (R := (upR R n (fun _ => 0))) (T := T) (U := U) (tx := tx) (sz := sz) (Y := Y) hj6; rw [upR_n _ _ (by omega)] at h9; exact h9) (by have h9 := KW_row (k := k) (ad := ad) (r := r) (cn := (nI (n + 1))) (R := (upR R n (fun _ => 0))) (T := T) (U := U) (tx := tx) (sz := sz) (Y := Y) h16; rw [upR_s _ _ _] at h9; exact h9) (by omega) (by omega)) qml_X2_69 qst_X1_multiply qin_X1 qco_X1_multiply nd_X1_multiply ⟨Nat.le_of_ble_eq_true rfl, Nat.le_of_ble_eq_true rfl⟩ (Nat.le_of_ble_eq_true rfl) ⟨Nat.le_of_ble_eq_true rfl, Nat.le_of_ble_eq_true rfl⟩ rfl dX2_product_45 (fun w9 h9 => ?_)
    obtain rfl := h9
    refine p_w (w9 := (KW k ad r (nI (n + 1)) (upR R n (n9 (cv (R i) (R j)))) T U tx sz Y)) ((KW_srow h16).trans (by rw [upR_u])) ?_
    refine p_aload_n C rfl 2 rfl dX2_product_48 ?_
    refine p_get (v := .int (nI (n + 1))) (T := TX2) C 0 rfl rfl 1 (by decide) inX2 qfl_X2_14 (fun _ h9 => h9) rfl dX2_product_49 ?_
    refine p_iconst (v := 1) C (by decide) dX2_product_52 ?_
    refine p_isub C dX2_product_53 ?_
    refine p_int (y := (nI n)) (nI_pred n) ?_
    rw [hQ]
    exact rx_i C hrt9 (⟨by unfold eProd; rw [vi, vj, ix_nI (show i < 2 ^ 31 by omega), ix_nI (show j < 2 ^ 31 by omega)]; exact (if_neg (Int32.not_lt.mpr c_25)).trans (if_neg (le16 h16)), rfl, _, _, _, _, by rw [ix_nI (show i < 2 ^ 31 by omega), ix_nI (show j < 2 ^ 31 by omega)]⟩) (by (try simp only [rmL_c, rmL_s]); omega) (by (try simp only [rmL_c, rmL_s]); omega) dX2_product_54
  · rw [hQ]
    exact x_throw C hfl hE (E := "java/lang/IllegalArgumentException") (names := ["java/lang/RuntimeException", "java/lang/Exception"]) (by decide +kernel) (by decide +kernel) qcl_X2_44 qin_IllegalArgumentException (is := 67) (ic := 48) (text := "the degrees, added, are more than 8") (by decide +kernel) at_X2_48 dX2_product_28 dX2_product_31 dX2_product_32 dX2_product_34 dX2_product_37 (by decide) (by decide) (by decide) (by decide) (by decide) (by decide) (⟨by rw [show eProd n R (nI i) (nI j) = 2 from by unfold eProd; rw [vi, vj, ix_nI (show i < 2 ^ 31 by omega), ix_nI (show j < 2 ^ 31 by omega)]; exact if_pos (Int32.not_le.mp c_25)]; exact two_n0, by rw [show eProd n R (nI i) (nI j) = 2 from by unfold eProd; rw [vi, vj, ix_nI (show i < 2 ^ 31 by omega), ix_nI (show j < 2 ^ 31 by omega)]; exact if_pos (Int32.not_le.mp c_25)]; exact exn_2.symm, _, _, _, _, rfl⟩)
theorem nI_pred2 (n : Nat) : nI (n + 1 + 1) - 2 = nI n := by
  rw [show (2 : Int32) = 1 + 1 from rfl, show nI (n + 1 + 1) - (1 + 1) = nI (n + 1 + 1) - 1 - 1 from by rw [Int32.sub_sub], nI_pred, nI_pred]
set_option maxHeartbeats 4000000 in
set_option maxRecDepth 100000 in
/-- X2_divide -/
theorem m_X2_divide (l : Launch) (D : va_G) (k : Nat → ClassId) (hfl : l.stackTraces = false) {ad r : Nat → Nat} {n : Nat} {R : Nat → Nat → Int32} {T U tx : Nat → Int32} {sz : Int32} {Y : va_W} (hn : n ≤ 16) {ra rb : Int32} : XtI l D k yX2_divide (wU yX2_divide cX2_divide 7 (some .int)) (rmL 2 6 36) [.ref (ad 0), .int ra, .int rb] (KW k ad r (nI n) R T U tx sz Y) (fun v9 w' => (eDiv n R ra rb) = 0 ∧ v9 = nI n ∧ ∃ (T' U' tx' : Nat → Int32) (sz' : Int32), w' = (KW k ad r (nI (n + 1 + 1)) (upR (upR R n (sp (R (ix ra)) (R (ix rb))).1) (n + 1) (sp (R (ix ra)) (R (ix rb))).2) T' U' tx' sz' Y)) (fun E w' => ¬ (eDiv n R ra rb) = 0 ∧ E = exn (eDiv n R ra rb) ∧ ∃ (T' U' tx' : Nat → Int32) (sz' : Int32), w' = (KW k ad r (nI n) R T' U' tx' sz' Y)) := by
  refine openXI (own := RX2) rfl (by decide) (Nat.le_of_ble_eq_true rfl) rfl ?_
  intro p e s m args below meth c A C hrt9 hnm hE
  obtain ⟨Q, hQ⟩ : ∃ Q, Q = (vx_MQ below (va_Qi (fun v9 w' => (eDiv n R ra rb) = 0 ∧ v9 = nI n ∧ ∃ (T' U' tx' : Nat → Int32) (sz' : Int32), w' = (KW k ad r (nI (n + 1 + 1)) (upR (upR R n (sp (R (ix ra)) (R (ix rb))).1) (n + 1) (sp (R (ix ra)) (R (ix rb))).2) T' U' tx' sz' Y)) (cBA D A) A) (xXA D A (fun E w' => ¬ (eDiv n R ra rb) = 0 ∧ E = exn (eDiv n R ra rb) ∧ ∃ (T' U' tx' : Nat → Int32) (sz' : Int32), w' = (KW k ad r (nI n) R T' U' tx' sz' Y))) args s 6 36 A) := ⟨_, rfl⟩
  show WP p l e (rmL 2 6 36) s m args below meth c D A 7 (KW k ad r (nI n) R T U tx sz Y) [(0, .ref (ad 0)), (1, .int ra), (2, .int rb)] 0 0 (vx_MQ below (va_Qi (fun v9 w' => (eDiv n R ra rb) = 0 ∧ v9 = nI n ∧ ∃ (T' U' tx' : Nat → Int32) (sz' : Int32), w' = (KW k ad r (nI (n + 1 + 1)) (upR (upR R n (sp (R (ix ra)) (R (ix rb))).1) (n + 1) (sp (R (ix ra)) (R (ix rb))).2) T' U' tx' sz' Y)) (cBA D A) A) (xXA D A (fun E w' => ¬ (eDiv n R ra rb) = 0 ∧ E = exn (eDiv n R ra rb) ∧ ∃ (T' U' tx' : Nat → Int32) (sz' : Int32), w' = (KW k ad r (nI n) R T' U' tx' sz' Y))) args s 6 36 A) 0 []
  rw [← hQ]
  refine p_aload_n C rfl 0 rfl dX2_divide_0 ?_
  refine p_iload_n C rfl 1 rfl dX2_divide_1 ?_
  refine cx_Vr (As := [.int ra]) (rest := []) C (m_X2_rowOf l D k hfl hn (rc := ra)) 0 rfl rfl rfl qml_X2_36 qim_X2_rowOf qse_X2_X2_rowOf qin_X2 qco_X2_rowOf nd_X2_rowOf ⟨Nat.le_of_ble_eq_true rfl, Nat.le_of_ble_eq_true rfl⟩ (Nat.le_of_ble_eq_true rfl) ⟨Nat.le_of_ble_eq_true rfl, Nat.le_of_ble_eq_true rfl⟩ rfl dX2_divide_2 (fun E9 w9 h9 => by obtain ⟨hx9, rfl, rfl⟩ := h9; rw [hQ]; exact x_out C hE ⟨by rw [show eDiv n R ra rb = 1 from by unfold eDiv; rw [hx9]; rfl]; exact one_n0, by rw [show eDiv n R ra rb = 1 from by unfold eDiv; rw [hx9]; rfl]; exact exn_1.symm, _, _, _, _, rfl⟩ (by (try simp only [rmL_c, rmL_s]); omega) (by (try simp only [rmL_c, rmL_s]); omega)) (fun r9 w9 h9 => ?_)
  obtain ⟨i, hi, rfl, rfl, rfl⟩ := h9
  have vi := isR_of hn hi
  have hi6 : i < 16 := by omega
  refine p_astore_n (lv9 := [(3, .ref (r i)), (0, .ref (ad 0)), (1, .int (nI i)), (2, .int rb)]) C rfl (by decide) rfl dX2_divide_5 ?_
  refine p_aload_n C rfl 1 rfl dX2_divide_6 ?_
  refine p_iload_n C rfl 3 rfl dX2_divide_7 ?_
  refine cx_Vr (As := [.int rb]) (rest := []) C (m_X2_rowOf l D k hfl hn (rc := rb)) 0 rfl rfl rfl qml_X2_36 qim_X2_rowOf qse_X2_X2_rowOf qin_X2 qco_X2_rowOf nd_X2_rowOf ⟨Nat.le_of_ble_eq_true rfl, Nat.le_of_ble_eq_true rfl⟩ (Nat.le_of_ble_eq_true rfl) ⟨Nat.le_of_ble_eq_true rfl, Nat.le_of_ble_eq_true rfl⟩ rfl dX2_divide_8 (fun E9 w9 h9 => by obtain ⟨hx9, rfl, rfl⟩ := h9; rw [hQ]; exact x_out C hE ⟨by rw [show eDiv n R (nI i) rb = 1 from by unfold eDiv; rw [vi, hx9]; rfl]; exact one_n0, by rw [show eDiv n R (nI i) rb = 1 from by unfold eDiv; rw [vi, hx9]; rfl]; exact exn_1.symm, _, _, _, _, rfl⟩ (by (try simp only [rmL_c, rmL_s]); omega) (by (try simp only [rmL_c, rmL_s]); omega)) (fun r9 w9 h9 => ?_)
  obtain ⟨j, hj, rfl, rfl, rfl⟩ := h9
  have vj := isR_of hn hj
  have hj6 : j < 16 := by omega
  refine p_astore (lv9 := [(4, .ref (r j)), (3, .ref (r i)), (0, .ref (ad 0)), (1, .int (nI i)), (2, .int (nI j))]) C (by decide) rfl dX2_divide_11 ?_
  refine p_aload C 0 rfl dX2_divide_13 ?_
  refine c_Si (As := [.ref (r j)]) (rest := []) C (m_X1_plain l D k (u := (j + 6))  (KW_row hj6)) qml_X2_75 qst_X1_plain qin_X1 qco_X1_plain nd_X1_plain ⟨Nat.le_of_ble_eq_true rfl, Nat.le_of_ble_eq_true rfl⟩ (Nat.le_of_ble_eq_true rfl) ⟨Nat.le_of_ble_eq_true rfl, Nat.le_of_ble_eq_true rfl⟩ rfl dX2_divide_15 (fun r9 w9 h9 => ?_)
  obtain ⟨rfl, rfl⟩ := h9
  refine p_if_ne C 31 (by decide) dX2_divide_18 (fun c_18 => ?_) (fun c_18 => ?_)
  · have hpl := bI_ne c_18
    refine p_aload_n C rfl 2 rfl dX2_divide_31 ?_
    refine p_get (v := .int (nI n)) (T := TX2) C 0 rfl rfl 1 (by decide) inX2 qfl_X2_14 (fun _ h9 => h9) rfl dX2_divide_32 ?_
    refine p_bipush (v := (nI 14)) C (by decide) dX2_divide_35 ?_
    refine p_icmp_le C 50 (by decide) dX2_divide_37 (fun c_37 => ?_) (fun c_37 => ?_)
    · have hn14 : ¬ 14 < n := fun z9 => absurd c_37 (nI_ge (a := 14) z9 (by omega))
      refine p_aload_n C rfl 2 rfl dX2_divide_50 ?_
      refine cx_Vr (As := []) (rest := []) C (m_X2_newRow l D k hfl (n := n) (by omega)) 0 rfl rfl rfl qml_X2_32 qim_X2_newRow qse_X2_X2_newRow qin_X2 qco_X2_newRow nd_X2_newRow ⟨Nat.le_of_ble_eq_true rfl, Nat.le_of_ble_eq_true rfl⟩ (Nat.le_of_ble_eq_true rfl) ⟨Nat.le_of_ble_eq_true rfl, Nat.le_of_ble_eq_true rfl⟩ rfl dX2_divide_51 (fun E9 w9 h9 => by obtain ⟨hx9, -, -⟩ := h9; exact absurd hx9 (by omega)) (fun r9 w9 h9 => ?_)
      obtain ⟨h16, rfl, rfl⟩ := h9
      refine p_astore (lv9 := [(5, .ref (r n)), (4, .ref (r j)), (3, .ref (r i)), (0, .ref (ad 0)), (1, .int (nI i)), (2, .int (nI j))]) C (by decide) rfl dX2_divide_54 ?_
      refine p_aload_n C rfl 3 rfl dX2_divide_56 ?_
      refine cx_Vr (As := []) (rest := []) C (m_X2_newRow l D k hfl (n := (n + 1)) (by omega)) 0 rfl rfl rfl qml_X2_32 qim_X2_newRow qse_X2_X2_newRow qin_X2 qco_X2_newRow nd_X2_newRow ⟨Nat.le_of_ble_eq_true rfl, Nat.le_of_ble_eq_true rfl⟩ (Nat.le_of_ble_eq_true rfl) ⟨Nat.le_of_ble_eq_true rfl, Nat.le_of_ble_eq_true rfl⟩ rfl dX2_divide_57 (fun E9 w9 h9 => by obtain ⟨hx9, -, -⟩ := h9; exact absurd hx9 (by omega)) (fun r9 w9 h9 => ?_)
      obtain ⟨h16b, rfl, rfl⟩ := h9
      refine p_astore (lv9 := [(6, .ref (r (n + 1))), (5, .ref (r n)), (4, .ref (r j)), (3, .ref (r i)), (0, .ref (ad 0)), (1, .int (nI i)), (2, .int (nI j))]) C (by decide) rfl dX2_divide_60 ?_
      refine p_aload_n C rfl 3 rfl dX2_divide_62 ?_
      refine p_aload C 2 rfl dX2_divide_63 ?_
      refine p_aload C 1 rfl dX2_divide_65 ?_
      refine p_aload C 0 rfl dX2_divide_67 ?_
      refine c_Sv (As := [.ref (r i), .ref (r j), .ref (r n), .ref (r (n + 1))]) (rest := []) C (m_X1_split l D k (u := (i + 6)) (v := (j + 6)) (t := (n + 6)) (z := ((n + 1) + 6)) (by have h9 := KW_row (k := k) (ad := ad) (r := r) (cn := (nI (n + 1 + 1))) (R := (upR (upR R n (fun _ => 0)) (n + 1) (fun _ => 0))) (T := T) (U := U) (tx := tx) (sz := sz) (Y := Y) hi6; rw [upR_n _ _ (by omega), upR_n _ _ (by omega)] at h9; exact h9) (by have h9 := KW_row (k := k) (ad := ad) (r := r) (cn := (nI (n + 1 + 1))) (R := (upR (upR R n (fun _ => 0)) (n + 1) (fun _ => 0))) (T := T) (U := U) (tx := tx) (sz := sz) (Y := Y) hj6; rw [upR_n _ _ (by omega), upR_n _ _ (by omega)] at h9; exact h9) (by have h9 := KW_row (k := k) (ad := ad) (r := r) (cn := (nI (n + 1 + 1))) (R := (upR (upR R n (fun _ => 0)) (n + 1) (fun _ => 0))) (T := T) (U := U) (tx := tx) (sz := sz) (Y := Y) h16; rw [upR_n _ _ (by omega), upR_s _ _ _] at h9; exact h9) (by have h9 := KW_row (k := k) (ad := ad) (r := r) (cn := (nI (n + 1 + 1))) (R := (upR (upR R n (fun _ => 0)) (n + 1) (fun _ => 0))) (T := T) (U := U) (tx := tx) (sz := sz) (Y := Y) h16b; rw [upR_s _ _ _] at h9; exact h9) (by omega) (by omega) (by omega) (by omega) (by omega) (pln_pos hpl)) qml_X2_86 qst_X1_split qin_X1 qco_X1_split nd_X1_split ⟨Nat.le_of_ble_eq_true rfl, Nat.le_of_ble_eq_true rfl⟩ (Nat.le_of_ble_eq_true rfl) ⟨Nat.le_of_ble_eq_true rfl, Nat.le_of_ble_eq_true rfl⟩ rfl dX2_divide_69 (fun w9 h9 => ?_)
      obtain rfl := h9
      refine p_w (w9 := (KW k ad r (nI (n + 1 + 1)) (upR (upR R n ((sp (R i) (R j)).1)) (n + 1) ((sp (R i) (R j)).2)) T U tx sz Y)) ((congrArg (fun w8 : va_W => w8.set ((n + 1) + 6) ((r (n + 1)), aI k 9 ((sp (R i) (R j)).2))) ((KW_srow h16).trans (by rw [upR_c _ _ _ _ (by omega)]))).trans ((KW_srow h16b).trans (by rw [upR_u]))) ?_
      refine p_aload_n C rfl 4 rfl dX2_divide_72 ?_
      refine p_get (v := .int (nI (n + 1 + 1))) (T := TX2) C 0 rfl rfl 1 (by decide) inX2 qfl_X2_14 (fun _ h9 => h9) rfl dX2_divide_73 ?_
      refine p_iconst (v := 2) C (by decide) dX2_divide_76 ?_
      refine p_isub C dX2_divide_77 ?_
      refine p_int (y := (nI n)) (nI_pred2 n) ?_
      rw [hQ]
      exact rx_i C hrt9 (⟨by unfold eDiv; rw [vi, vj, ix_nI (show j < 2 ^ 31 by omega), hpl]; exact if_neg hn14, rfl, _, _, _, _, by rw [ix_nI (show i < 2 ^ 31 by omega), ix_nI (show j < 2 ^ 31 by omega)]⟩) (by (try simp only [rmL_c, rmL_s]); omega) (by (try simp only [rmL_c, rmL_s]); omega) dX2_divide_78
    · have hn14 : 14 < n := Nat.lt_of_not_le fun z9 => c_37 (nI_le (b := 14) z9 (by decide))
      rw [hQ]
      exact x_throw C hfl hE (E := "java/lang/IllegalStateException") (names := ["java/lang/RuntimeException", "java/lang/Exception"]) (by decide +kernel) (by decide +kernel) qcl_X2_81 qin_IllegalStateException (is := 83) (ic := 85) (text := "there is no room for two recipes") (by decide +kernel) at_X2_85 dX2_divide_40 dX2_divide_43 dX2_divide_44 dX2_divide_46 dX2_divide_49 (by decide) (by decide) (by decide) (by decide) (by decide) (by decide) (⟨by rw [show eDiv n R (nI i) (nI j) = 3 from by unfold eDiv; rw [vi, vj, ix_nI (show j < 2 ^ 31 by omega), hpl]; exact if_pos hn14]; exact three_n0, by rw [show eDiv n R (nI i) (nI j) = 3 from by unfold eDiv; rw [vi, vj, ix_nI (show j < 2 ^ 31 by omega), hpl]; exact if_pos hn14]; exact exn_3.symm, _, _, _, _, rfl⟩)
  · have hpl := bI_eq c_18
    rw [hQ]
    exact x_throw C hfl hE (E := "java/lang/IllegalArgumentException") (names := ["java/lang/RuntimeException", "java/lang/Exception"]) (by decide +kernel) (by decide +kernel) qcl_X2_44 qin_IllegalArgumentException (is := 79) (ic := 48) (text := "the recipe to divide by is not plain") (by decide +kernel) at_X2_48 dX2_divide_21 dX2_divide_24 dX2_divide_25 dX2_divide_27 dX2_divide_30 (by decide) (by decide) (by decide) (by decide) (by decide) (by decide) (⟨by rw [show eDiv n R (nI i) (nI j) = 2 from by unfold eDiv; rw [vi, vj, ix_nI (show j < 2 ^ 31 by omega), hpl]; rfl]; exact two_n0, by rw [show eDiv n R (nI i) (nI j) = 2 from by unfold eDiv; rw [vi, vj, ix_nI (show j < 2 ^ 31 by omega), hpl]; rfl]; exact exn_2.symm, _, _, _, _, rfl⟩)
def suF (f g : Nat → Int32) : Nat → Int32 := fl (fun q => f q + g q) (fun _ => 0) 9
def diF (f g : Nat → Int32) : Nat → Int32 := fl (fun q => f q - g q) (fun _ => 0) 9
def scF (f : Nat → Int32) (x : Int32) : Nat → Int32 := fl (fun q => f q * x) f 9
def drF (f : Nat → Int32) : Nat → Int32 := fl (fun q => f (q + 1) * nI (q + 1)) (fun _ => 0) 8
def chD (f g : Nat → Int32) : Nat → (Nat → Int32) → Nat → Int32
  | 0, h => h
  | m + 1, h => chD f g m (upd (n9 (n9 (cv h g))) 0 (n9 (n9 (cv h g)) 0 + f m))
def dK (R : Nat → Nat → Int32) (i c : Nat) : Nat → Nat → Int32 := fun q => if i ≤ q ∧ q < c then n9 (R (q + 1)) else R q
theorem dK_0 (R : Nat → Nat → Int32) (i : Nat) : dK R i i = R := funext fun q => if_neg (by omega)
theorem dK_n (R : Nat → Nat → Int32) (i c : Nat) : dK R i c (c + 1) = R (c + 1) := if_neg (by omega)
theorem dK_s {R : Nat → Nat → Int32} {i c : Nat} (h : i ≤ c) : upR (dK R i c) c (n9 (R (c + 1))) = dK R i (c + 1) := funext fun q => by
  by_cases e : q = c
  · subst e; rw [upR_s]; exact (if_pos ⟨h, Nat.lt_succ_self _⟩).symm
  · rw [upR_n _ _ e]
    unfold dK
    by_cases k : i ≤ q ∧ q < c
    · rw [if_pos k, if_pos ⟨k.1, by omega⟩]
    · rw [if_neg k, if_neg (by omega)]
set_option maxHeartbeats 4000000 in
set_option maxRecDepth 100000 in
/-- X2_sum -/
theorem m_X2_sum (l : Launch) (D : va_G) (k : Nat → ClassId) (hfl : l.stackTraces = false) {ad r : Nat → Nat} {n : Nat} {R : Nat → Nat → Int32} {T U tx : Nat → Int32} {sz : Int32} {Y : va_W} (hn : n ≤ 16) {ra rb : Int32} : XtI l D k yX2_sum (wU yX2_sum cX2_sum 7 (some .int)) (rmL 2 3 18) [.ref (ad 0), .int ra, .int rb] (KW k ad r (nI n) R T U tx sz Y) (fun v9 w' => (eJoin n ra rb) = 0 ∧ v9 = nI n ∧ ∃ (T' U' tx' : Nat → Int32) (sz' : Int32), w' = (KW k ad r (nI (n + 1)) (upR R n (suF (R (ix ra)) (R (ix rb)))) T' U' tx' sz' Y)) (fun E w' => ¬ (eJoin n ra rb) = 0 ∧ E = exnJ (eJoin n ra rb) ∧ ∃ (T' U' tx' : Nat → Int32) (sz' : Int32), w' = (KW k ad r (nI n) R T' U' tx' sz' Y)) := by
  refine openXI (own := RX2) rfl (by decide) (Nat.le_of_ble_eq_true rfl) rfl ?_
  intro p e s m args below meth c A C hrt9 hnm hE
  obtain ⟨Q, hQ⟩ : ∃ Q, Q = (vx_MQ below (va_Qi (fun v9 w' => (eJoin n ra rb) = 0 ∧ v9 = nI n ∧ ∃ (T' U' tx' : Nat → Int32) (sz' : Int32), w' = (KW k ad r (nI (n + 1)) (upR R n (suF (R (ix ra)) (R (ix rb)))) T' U' tx' sz' Y)) (cBA D A) A) (xXA D A (fun E w' => ¬ (eJoin n ra rb) = 0 ∧ E = exnJ (eJoin n ra rb) ∧ ∃ (T' U' tx' : Nat → Int32) (sz' : Int32), w' = (KW k ad r (nI n) R T' U' tx' sz' Y))) args s 3 18 A) := ⟨_, rfl⟩
  show WP p l e (rmL 2 3 18) s m args below meth c D A 7 (KW k ad r (nI n) R T U tx sz Y) [(0, .ref (ad 0)), (1, .int ra), (2, .int rb)] 0 0 (vx_MQ below (va_Qi (fun v9 w' => (eJoin n ra rb) = 0 ∧ v9 = nI n ∧ ∃ (T' U' tx' : Nat → Int32) (sz' : Int32), w' = (KW k ad r (nI (n + 1)) (upR R n (suF (R (ix ra)) (R (ix rb)))) T' U' tx' sz' Y)) (cBA D A) A) (xXA D A (fun E w' => ¬ (eJoin n ra rb) = 0 ∧ E = exnJ (eJoin n ra rb) ∧ ∃ (T' U' tx' : Nat → Int32) (sz' : Int32), w' = (KW k ad r (nI n) R T' U' tx' sz' Y))) args s 3 18 A) 0 []
  rw [← hQ]
  refine p_aload_n C rfl 0 rfl dX2_sum_0 ?_
  refine p_iload_n C rfl 1 rfl dX2_sum_1 ?_
  refine cx_Vr (As := [.int ra]) (rest := []) C (m_X2_rowOf l D k hfl hn (rc := ra)) 0 rfl rfl rfl qml_X2_36 qim_X2_rowOf qse_X2_X2_rowOf qin_X2 qco_X2_rowOf nd_X2_rowOf ⟨Nat.le_of_ble_eq_true rfl, Nat.le_of_ble_eq_true rfl⟩ (Nat.le_of_ble_eq_true rfl) ⟨Nat.le_of_ble_eq_true rfl, Nat.le_of_ble_eq_true rfl⟩ rfl dX2_sum_2 (fun E9 w9 h9 => by obtain ⟨hx9, rfl, rfl⟩ := h9; rw [hQ]; exact x_out C hE ⟨by rw [show eJoin n ra rb = 1 from by unfold eJoin; rw [hx9]; rfl]; exact one_n0, by rw [show eJoin n ra rb = 1 from by unfold eJoin; rw [hx9]; rfl]; exact exnJ_1.symm, _, _, _, _, rfl⟩ (by (try simp only [rmL_c, rmL_s]); omega) (by (try simp only [rmL_c, rmL_s]); omega)) (fun r9 w9 h9 => ?_)
  obtain ⟨i, hi, rfl, rfl, rfl⟩ := h9
  have vi := isR_of hn hi
  have hi6 : i < 16 := by omega
  refine p_astore_n (lv9 := [(3, .ref (r i)), (0, .ref (ad 0)), (1, .int (nI i)), (2, .int rb)]) C rfl (by decide) rfl dX2_sum_5 ?_
  refine p_aload_n C rfl 1 rfl dX2_sum_6 ?_
  refine p_iload_n C rfl 3 rfl dX2_sum_7 ?_
  refine cx_Vr (As := [.int rb]) (rest := []) C (m_X2_rowOf l D k hfl hn (rc := rb)) 0 rfl rfl rfl qml_X2_36 qim_X2_rowOf qse_X2_X2_rowOf qin_X2 qco_X2_rowOf nd_X2_rowOf ⟨Nat.le_of_ble_eq_true rfl, Nat.le_of_ble_eq_true rfl⟩ (Nat.le_of_ble_eq_true rfl) ⟨Nat.le_of_ble_eq_true rfl, Nat.le_of_ble_eq_true rfl⟩ rfl dX2_sum_8 (fun E9 w9 h9 => by obtain ⟨hx9, rfl, rfl⟩ := h9; rw [hQ]; exact x_out C hE ⟨by rw [show eJoin n (nI i) rb = 1 from by unfold eJoin; rw [vi, hx9]; rfl]; exact one_n0, by rw [show eJoin n (nI i) rb = 1 from by unfold eJoin; rw [vi, hx9]; rfl]; exact exnJ_1.symm, _, _, _, _, rfl⟩ (by (try simp only [rmL_c, rmL_s]); omega) (by (try simp only [rmL_c, rmL_s]); omega)) (fun r9 w9 h9 => ?_)
  obtain ⟨j, hj, rfl, rfl, rfl⟩ := h9
  have vj := isR_of hn hj
  have hj6 : j < 16 := by omega
  refine p_astore (lv9 := [(4, .ref (r j)), (3, .ref (r i)), (0, .ref (ad 0)), (1, .int (nI i)), (2, .int (nI j))]) C (by decide) rfl dX2_sum_11 ?_
  refine p_aload_n C rfl 2 rfl dX2_sum_13 ?_
  refine cx_Vr (As := []) (rest := []) C (m_X2_newRow l D k hfl (n := n) (by omega)) 0 rfl rfl rfl qml_X2_32 qim_X2_newRow qse_X2_X2_newRow qin_X2 qco_X2_newRow nd_X2_newRow ⟨Nat.le_of_ble_eq_true rfl, Nat.le_of_ble_eq_true rfl⟩ (Nat.le_of_ble_eq_true rfl) ⟨Nat.le_of_ble_eq_true rfl, Nat.le_of_ble_eq_true rfl⟩ rfl dX2_sum_14 (fun E9 w9 h9 => by obtain ⟨hx9, rfl, rfl⟩ := h9; rw [hQ]; exact x_out C hE ⟨by rw [show eJoin n (nI i) (nI j) = 2 from by unfold eJoin; rw [vi, vj]; exact if_pos hx9]; exact two_n0, by rw [show eJoin n (nI i) (nI j) = 2 from by unfold eJoin; rw [vi, vj]; exact if_pos hx9]; exact exnJ_2.symm, _, _, _, _, rfl⟩ (by (try simp only [rmL_c, rmL_s]); omega) (by (try simp only [rmL_c, rmL_s]); omega)) (fun r9 w9 h9 => ?_)
  obtain ⟨h16, rfl, rfl⟩ := h9
  refine p_astore (lv9 := [(5, .ref (r n)), (4, .ref (r j)), (3, .ref (r i)), (0, .ref (ad 0)), (1, .int (nI i)), (2, .int (nI j))]) C (by decide) rfl dX2_sum_17 ?_
  refine p_iconst (v := (nI 0)) C (by decide) dX2_sum_19 ?_
  refine p_istore (lv9 := [(6, .int (nI 0)), (5, .ref (r n)), (4, .ref (r j)), (3, .ref (r i)), (0, .ref (ad 0)), (1, .int (nI i)), (2, .int (nI j))]) C (by decide) rfl dX2_sum_20 ?_
  refine p_w (w9 := (KW k ad r (nI (n + 1)) (upR R n (fl (fun q => R i q + R j q) (fun _ => 0) 0)) T U tx sz Y)) (by rw [fl_0]) ?_
  refine p_lv (lv9 := [(0, .ref (ad 0)), (3, .ref (r i)), (4, .ref (r j)), (5, .ref (r n)), (6, .int (nI 0))]) [4, 3, 2, 1, 0] rfl ?_
  have lp22 : ∀ (n22 : Nat) (b9 : Nat), (hc : b9 + n22 = 9) → WP p l e (rmL 2 3 18) s m args below meth c D A 7 (KW k ad r (nI (n + 1)) (upR R n (fl (fun q => R i q + R j q) (fun _ => 0) b9)) T U tx sz Y) [(0, .ref (ad 0)), (3, .ref (r i)), (4, .ref (r j)), (5, .ref (r n)), (6, .int (nI b9))] 3 18 Q 22 [] := by
    intro n22
    induction n22 with
    | zero =>
      intro b9 hc
      obtain rfl : b9 = 9 := by omega
      refine p_iload C 4 rfl dX2_sum_22 ?_
      refine p_bipush (v := 9) C (by decide) dX2_sum_24 ?_
      refine p_icmp_ge C 50 (by decide) dX2_sum_26 (fun c_26 => ?_) (fun c_26 => absurd c_26 (by decide))
      refine p_aload_n C rfl 0 rfl dX2_sum_50 ?_
      refine p_get (v := .int (nI (n + 1))) (T := TX2) C 0 rfl rfl 1 (by decide) inX2 qfl_X2_14 (fun _ h9 => h9) rfl dX2_sum_51 ?_
      refine p_iconst (v := 1) C (by decide) dX2_sum_54 ?_
      refine p_isub C dX2_sum_55 ?_
      refine p_int (y := (nI n)) (nI_pred n) ?_
      rw [hQ]
      exact rx_i C hrt9 (⟨by unfold eJoin; rw [vi, vj]; exact if_neg (le16 h16), rfl, _, _, _, _, by unfold suF; rw [ix_nI (show i < 2 ^ 31 by omega), ix_nI (show j < 2 ^ 31 by omega)]⟩) (by (try simp only [rmL_c, rmL_s]); omega) (by (try simp only [rmL_c, rmL_s]); omega) dX2_sum_56
    | succ n22 ih22 =>
      intro b9 hc
      refine p_iload C 4 rfl dX2_sum_22 ?_
      refine p_bipush (v := 9) C (by decide) dX2_sum_24 ?_
      refine p_icmp_ge C 50 (by decide) dX2_sum_26 (fun c_26 => absurd c_26 (nI_ge (b := 9) (show b9 < 9 by omega) (by decide))) (fun c_26 => ?_)
      refine p_aload C 3 rfl dX2_sum_29 ?_
      refine p_iload C 4 rfl dX2_sum_31 ?_
      refine p_aload_n C rfl 1 rfl dX2_sum_33 ?_
      refine p_iload C 4 rfl dX2_sum_34 ?_
      refine p_iald (v := ((R i) b9)) C (i + 6) (by have h9 := KW_row (k := k) (ad := ad) (r := r) (cn := (nI (n + 1))) (R := (upR R n (fl (fun q => R i q + R j q) (fun _ => 0) b9))) (T := T) (U := U) (tx := tx) (sz := sz) (Y := Y) hi6; rw [upR_n _ _ (by omega)] at h9; exact h9) (vp_in_nI (n := b9) (N := 9) (by omega) (by omega)) (by rw [show ((nI b9)).toNatClampNeg = b9 from nI_clamp (by omega)]) dX2_sum_36 ?_
      refine p_aload C 2 rfl dX2_sum_37 ?_
      refine p_iload C 4 rfl dX2_sum_39 ?_
      refine p_iald (v := ((R j) b9)) C (j + 6) (by have h9 := KW_row (k := k) (ad := ad) (r := r) (cn := (nI (n + 1))) (R := (upR R n (fl (fun q => R i q + R j q) (fun _ => 0) b9))) (T := T) (U := U) (tx := tx) (sz := sz) (Y := Y) hj6; rw [upR_n _ _ (by omega)] at h9; exact h9) (vp_in_nI (n := b9) (N := 9) (by omega) (by omega)) (by rw [show ((nI b9)).toNatClampNeg = b9 from nI_clamp (by omega)]) dX2_sum_41 ?_
      refine p_iadd C dX2_sum_42 ?_
      refine p_iast (w9 := (KW k ad r (nI (n + 1)) (upR R n (fl (fun q => R i q + R j q) (fun _ => 0) (b9 + 1))) T U tx sz Y)) C (n + 6) (by have h9 := KW_row (k := k) (ad := ad) (r := r) (cn := (nI (n + 1))) (R := (upR R n (fl (fun q => R i q + R j q) (fun _ => 0) b9))) (T := T) (U := U) (tx := tx) (sz := sz) (Y := Y) h16; rw [upR_s _ _ _] at h9; exact h9) (vp_in_nI (n := b9) (N := 9) (by omega) (by omega)) (by rw [show ((nI b9)).toNatClampNeg = b9 from nI_clamp (by omega), show upd (fl (fun q => R i q + R j q) (fun _ => 0) b9) b9 (((R i) b9) + ((R j) b9)) = (fl (fun q => R i q + R j q) (fun _ => 0) (b9 + 1)) from fl_s rfl]; exact (KW_srow h16).trans (by rw [upR_u])) dX2_sum_43 ?_
      refine p_iinc (lv9 := [(6, .int (nI (b9 + 1))), (0, .ref (ad 0)), (3, .ref (r i)), (4, .ref (r j)), (5, .ref (r n))]) (v := (nI (b9 + 1))) C (j := 4) rfl (i_up b9) (by decide) rfl dX2_sum_44 ?_
      refine p_goto C 22 (by decide) dX2_sum_47 ?_
      refine p_lv (lv9 := [(0, .ref (ad 0)), (3, .ref (r i)), (4, .ref (r j)), (5, .ref (r n)), (6, .int (nI (b9 + 1)))]) [1, 2, 3, 4, 0] rfl ?_
      exact ih22 (b9 + 1) (by omega)
  exact lp22 9 0 rfl
set_option maxHeartbeats 4000000 in
set_option maxRecDepth 100000 in
/-- X2_difference -/
theorem m_X2_difference (l : Launch) (D : va_G) (k : Nat → ClassId) (hfl : l.stackTraces = false) {ad r : Nat → Nat} {n : Nat} {R : Nat → Nat → Int32} {T U tx : Nat → Int32} {sz : Int32} {Y : va_W} (hn : n ≤ 16) {ra rb : Int32} : XtI l D k yX2_difference (wU yX2_difference cX2_difference 7 (some .int)) (rmL 2 3 18) [.ref (ad 0), .int ra, .int rb] (KW k ad r (nI n) R T U tx sz Y) (fun v9 w' => (eJoin n ra rb) = 0 ∧ v9 = nI n ∧ ∃ (T' U' tx' : Nat → Int32) (sz' : Int32), w' = (KW k ad r (nI (n + 1)) (upR R n (diF (R (ix ra)) (R (ix rb)))) T' U' tx' sz' Y)) (fun E w' => ¬ (eJoin n ra rb) = 0 ∧ E = exnJ (eJoin n ra rb) ∧ ∃ (T' U' tx' : Nat → Int32) (sz' : Int32), w' = (KW k ad r (nI n) R T' U' tx' sz' Y)) := by
  refine openXI (own := RX2) rfl (by decide) (Nat.le_of_ble_eq_true rfl) rfl ?_
  intro p e s m args below meth c A C hrt9 hnm hE
  obtain ⟨Q, hQ⟩ : ∃ Q, Q = (vx_MQ below (va_Qi (fun v9 w' => (eJoin n ra rb) = 0 ∧ v9 = nI n ∧ ∃ (T' U' tx' : Nat → Int32) (sz' : Int32), w' = (KW k ad r (nI (n + 1)) (upR R n (diF (R (ix ra)) (R (ix rb)))) T' U' tx' sz' Y)) (cBA D A) A) (xXA D A (fun E w' => ¬ (eJoin n ra rb) = 0 ∧ E = exnJ (eJoin n ra rb) ∧ ∃ (T' U' tx' : Nat → Int32) (sz' : Int32), w' = (KW k ad r (nI n) R T' U' tx' sz' Y))) args s 3 18 A) := ⟨_, rfl⟩
  show WP p l e (rmL 2 3 18) s m args below meth c D A 7 (KW k ad r (nI n) R T U tx sz Y) [(0, .ref (ad 0)), (1, .int ra), (2, .int rb)] 0 0 (vx_MQ below (va_Qi (fun v9 w' => (eJoin n ra rb) = 0 ∧ v9 = nI n ∧ ∃ (T' U' tx' : Nat → Int32) (sz' : Int32), w' = (KW k ad r (nI (n + 1)) (upR R n (diF (R (ix ra)) (R (ix rb)))) T' U' tx' sz' Y)) (cBA D A) A) (xXA D A (fun E w' => ¬ (eJoin n ra rb) = 0 ∧ E = exnJ (eJoin n ra rb) ∧ ∃ (T' U' tx' : Nat → Int32) (sz' : Int32), w' = (KW k ad r (nI n) R T' U' tx' sz' Y))) args s 3 18 A) 0 []
  rw [← hQ]
  refine p_aload_n C rfl 0 rfl dX2_difference_0 ?_
  refine p_iload_n C rfl 1 rfl dX2_difference_1 ?_
  refine cx_Vr (As := [.int ra]) (rest := []) C (m_X2_rowOf l D k hfl hn (rc := ra)) 0 rfl rfl rfl qml_X2_36 qim_X2_rowOf qse_X2_X2_rowOf qin_X2 qco_X2_rowOf nd_X2_rowOf ⟨Nat.le_of_ble_eq_true rfl, Nat.le_of_ble_eq_true rfl⟩ (Nat.le_of_ble_eq_true rfl) ⟨Nat.le_of_ble_eq_true rfl, Nat.le_of_ble_eq_true rfl⟩ rfl dX2_difference_2 (fun E9 w9 h9 => by obtain ⟨hx9, rfl, rfl⟩ := h9; rw [hQ]; exact x_out C hE ⟨by rw [show eJoin n ra rb = 1 from by unfold eJoin; rw [hx9]; rfl]; exact one_n0, by rw [show eJoin n ra rb = 1 from by unfold eJoin; rw [hx9]; rfl]; exact exnJ_1.symm, _, _, _, _, rfl⟩ (by (try simp only [rmL_c, rmL_s]); omega) (by (try simp only [rmL_c, rmL_s]); omega)) (fun r9 w9 h9 => ?_)
  obtain ⟨i, hi, rfl, rfl, rfl⟩ := h9
  have vi := isR_of hn hi
  have hi6 : i < 16 := by omega
  refine p_astore_n (lv9 := [(3, .ref (r i)), (0, .ref (ad 0)), (1, .int (nI i)), (2, .int rb)]) C rfl (by decide) rfl dX2_difference_5 ?_
  refine p_aload_n C rfl 1 rfl dX2_difference_6 ?_
  refine p_iload_n C rfl 3 rfl dX2_difference_7 ?_
  refine cx_Vr (As := [.int rb]) (rest := []) C (m_X2_rowOf l D k hfl hn (rc := rb)) 0 rfl rfl rfl qml_X2_36 qim_X2_rowOf qse_X2_X2_rowOf qin_X2 qco_X2_rowOf nd_X2_rowOf ⟨Nat.le_of_ble_eq_true rfl, Nat.le_of_ble_eq_true rfl⟩ (Nat.le_of_ble_eq_true rfl) ⟨Nat.le_of_ble_eq_true rfl, Nat.le_of_ble_eq_true rfl⟩ rfl dX2_difference_8 (fun E9 w9 h9 => by obtain ⟨hx9, rfl, rfl⟩ := h9; rw [hQ]; exact x_out C hE ⟨by rw [show eJoin n (nI i) rb = 1 from by unfold eJoin; rw [vi, hx9]; rfl]; exact one_n0, by rw [show eJoin n (nI i) rb = 1 from by unfold eJoin; rw [vi, hx9]; rfl]; exact exnJ_1.symm, _, _, _, _, rfl⟩ (by (try simp only [rmL_c, rmL_s]); omega) (by (try simp only [rmL_c, rmL_s]); omega)) (fun r9 w9 h9 => ?_)
  obtain ⟨j, hj, rfl, rfl, rfl⟩ := h9
  have vj := isR_of hn hj
  have hj6 : j < 16 := by omega
  refine p_astore (lv9 := [(4, .ref (r j)), (3, .ref (r i)), (0, .ref (ad 0)), (1, .int (nI i)), (2, .int (nI j))]) C (by decide) rfl dX2_difference_11 ?_
  refine p_aload_n C rfl 2 rfl dX2_difference_13 ?_
  refine cx_Vr (As := []) (rest := []) C (m_X2_newRow l D k hfl (n := n) (by omega)) 0 rfl rfl rfl qml_X2_32 qim_X2_newRow qse_X2_X2_newRow qin_X2 qco_X2_newRow nd_X2_newRow ⟨Nat.le_of_ble_eq_true rfl, Nat.le_of_ble_eq_true rfl⟩ (Nat.le_of_ble_eq_true rfl) ⟨Nat.le_of_ble_eq_true rfl, Nat.le_of_ble_eq_true rfl⟩ rfl dX2_difference_14 (fun E9 w9 h9 => by obtain ⟨hx9, rfl, rfl⟩ := h9; rw [hQ]; exact x_out C hE ⟨by rw [show eJoin n (nI i) (nI j) = 2 from by unfold eJoin; rw [vi, vj]; exact if_pos hx9]; exact two_n0, by rw [show eJoin n (nI i) (nI j) = 2 from by unfold eJoin; rw [vi, vj]; exact if_pos hx9]; exact exnJ_2.symm, _, _, _, _, rfl⟩ (by (try simp only [rmL_c, rmL_s]); omega) (by (try simp only [rmL_c, rmL_s]); omega)) (fun r9 w9 h9 => ?_)
  obtain ⟨h16, rfl, rfl⟩ := h9
  refine p_astore (lv9 := [(5, .ref (r n)), (4, .ref (r j)), (3, .ref (r i)), (0, .ref (ad 0)), (1, .int (nI i)), (2, .int (nI j))]) C (by decide) rfl dX2_difference_17 ?_
  refine p_iconst (v := (nI 0)) C (by decide) dX2_difference_19 ?_
  refine p_istore (lv9 := [(6, .int (nI 0)), (5, .ref (r n)), (4, .ref (r j)), (3, .ref (r i)), (0, .ref (ad 0)), (1, .int (nI i)), (2, .int (nI j))]) C (by decide) rfl dX2_difference_20 ?_
  refine p_w (w9 := (KW k ad r (nI (n + 1)) (upR R n (fl (fun q => R i q - R j q) (fun _ => 0) 0)) T U tx sz Y)) (by rw [fl_0]) ?_
  refine p_lv (lv9 := [(0, .ref (ad 0)), (3, .ref (r i)), (4, .ref (r j)), (5, .ref (r n)), (6, .int (nI 0))]) [4, 3, 2, 1, 0] rfl ?_
  have lp22 : ∀ (n22 : Nat) (b9 : Nat), (hc : b9 + n22 = 9) → WP p l e (rmL 2 3 18) s m args below meth c D A 7 (KW k ad r (nI (n + 1)) (upR R n (fl (fun q => R i q - R j q) (fun _ => 0) b9)) T U tx sz Y) [(0, .ref (ad 0)), (3, .ref (r i)), (4, .ref (r j)), (5, .ref (r n)), (6, .int (nI b9))] 3 18 Q 22 [] := by
    intro n22
    induction n22 with
    | zero =>
      intro b9 hc
      obtain rfl : b9 = 9 := by omega
      refine p_iload C 4 rfl dX2_difference_22 ?_
      refine p_bipush (v := 9) C (by decide) dX2_difference_24 ?_
      refine p_icmp_ge C 50 (by decide) dX2_difference_26 (fun c_26 => ?_) (fun c_26 => absurd c_26 (by decide))
      refine p_aload_n C rfl 0 rfl dX2_difference_50 ?_
      refine p_get (v := .int (nI (n + 1))) (T := TX2) C 0 rfl rfl 1 (by decide) inX2 qfl_X2_14 (fun _ h9 => h9) rfl dX2_difference_51 ?_
      refine p_iconst (v := 1) C (by decide) dX2_difference_54 ?_
      refine p_isub C dX2_difference_55 ?_
      refine p_int (y := (nI n)) (nI_pred n) ?_
      rw [hQ]
      exact rx_i C hrt9 (⟨by unfold eJoin; rw [vi, vj]; exact if_neg (le16 h16), rfl, _, _, _, _, by unfold diF; rw [ix_nI (show i < 2 ^ 31 by omega), ix_nI (show j < 2 ^ 31 by omega)]⟩) (by (try simp only [rmL_c, rmL_s]); omega) (by (try simp only [rmL_c, rmL_s]); omega) dX2_difference_56
    | succ n22 ih22 =>
      intro b9 hc
      refine p_iload C 4 rfl dX2_difference_22 ?_
      refine p_bipush (v := 9) C (by decide) dX2_difference_24 ?_
      refine p_icmp_ge C 50 (by decide) dX2_difference_26 (fun c_26 => absurd c_26 (nI_ge (b := 9) (show b9 < 9 by omega) (by decide))) (fun c_26 => ?_)
      refine p_aload C 3 rfl dX2_difference_29 ?_
      refine p_iload C 4 rfl dX2_difference_31 ?_
      refine p_aload_n C rfl 1 rfl dX2_difference_33 ?_
      refine p_iload C 4 rfl dX2_difference_34 ?_
      refine p_iald (v := ((R i) b9)) C (i + 6) (by have h9 := KW_row (k := k) (ad := ad) (r := r) (cn := (nI (n + 1))) (R := (upR R n (fl (fun q => R i q - R j q) (fun _ => 0) b9))) (T := T) (U := U) (tx := tx) (sz := sz) (Y := Y) hi6; rw [upR_n _ _ (by omega)] at h9; exact h9) (vp_in_nI (n := b9) (N := 9) (by omega) (by omega)) (by rw [show ((nI b9)).toNatClampNeg = b9 from nI_clamp (by omega)]) dX2_difference_36 ?_
      refine p_aload C 2 rfl dX2_difference_37 ?_
      refine p_iload C 4 rfl dX2_difference_39 ?_
      refine p_iald (v := ((R j) b9)) C (j + 6) (by have h9 := KW_row (k := k) (ad := ad) (r := r) (cn := (nI (n + 1))) (R := (upR R n (fl (fun q => R i q - R j q) (fun _ => 0) b9))) (T := T) (U := U) (tx := tx) (sz := sz) (Y := Y) hj6; rw [upR_n _ _ (by omega)] at h9; exact h9) (vp_in_nI (n := b9) (N := 9) (by omega) (by omega)) (by rw [show ((nI b9)).toNatClampNeg = b9 from nI_clamp (by omega)]) dX2_difference_41 ?_
      refine p_isub C dX2_difference_42 ?_
      refine p_iast (w9 := (KW k ad r (nI (n + 1)) (upR R n (fl (fun q => R i q - R j q) (fun _ => 0) (b9 + 1))) T U tx sz Y)) C (n + 6) (by have h9 := KW_row (k := k) (ad := ad) (r := r) (cn := (nI (n + 1))) (R := (upR R n (fl (fun q => R i q - R j q) (fun _ => 0) b9))) (T := T) (U := U) (tx := tx) (sz := sz) (Y := Y) h16; rw [upR_s _ _ _] at h9; exact h9) (vp_in_nI (n := b9) (N := 9) (by omega) (by omega)) (by rw [show ((nI b9)).toNatClampNeg = b9 from nI_clamp (by omega), show upd (fl (fun q => R i q - R j q) (fun _ => 0) b9) b9 (((R i) b9) - ((R j) b9)) = (fl (fun q => R i q - R j q) (fun _ => 0) (b9 + 1)) from fl_s rfl]; exact (KW_srow h16).trans (by rw [upR_u])) dX2_difference_43 ?_
      refine p_iinc (lv9 := [(6, .int (nI (b9 + 1))), (0, .ref (ad 0)), (3, .ref (r i)), (4, .ref (r j)), (5, .ref (r n))]) (v := (nI (b9 + 1))) C (j := 4) rfl (i_up b9) (by decide) rfl dX2_difference_44 ?_
      refine p_goto C 22 (by decide) dX2_difference_47 ?_
      refine p_lv (lv9 := [(0, .ref (ad 0)), (3, .ref (r i)), (4, .ref (r j)), (5, .ref (r n)), (6, .int (nI (b9 + 1)))]) [1, 2, 3, 4, 0] rfl ?_
      exact ih22 (b9 + 1) (by omega)
  exact lp22 9 0 rfl
theorem upR_id (R : Nat → Nat → Int32) (i : Nat) : upR R i (R i) = R := funext fun q => by
  by_cases e : q = i
  · subst e; exact upR_s _ _ _
  · exact upR_n _ _ e
set_option maxHeartbeats 4000000 in
set_option maxRecDepth 100000 in
/-- X2_scale -/
theorem m_X2_scale (l : Launch) (D : va_G) (k : Nat → ClassId) (hfl : l.stackTraces = false) {ad r : Nat → Nat} {n : Nat} {R : Nat → Nat → Int32} {T U tx : Nat → Int32} {sz : Int32} {Y : va_W} (hn : n ≤ 16) {rc x : Int32} : XtI l D k yX2_scale (wU yX2_scale cX2_scale 5 (some .int)) (rmL 2 1 6) [.ref (ad 0), .int rc, .int x] (KW k ad r (nI n) R T U tx sz Y) (fun v9 w' => (e1 n rc) = 0 ∧ v9 = dI (dg (scF (R (ix rc)) x)) ∧ ∃ (T' U' tx' : Nat → Int32) (sz' : Int32), w' = (KW k ad r (nI n) (upR R (ix rc) (scF (R (ix rc)) x)) T' U' tx' sz' Y)) (fun E w' => ¬ (e1 n rc) = 0 ∧ E = exn (e1 n rc) ∧ ∃ (T' U' tx' : Nat → Int32) (sz' : Int32), w' = (KW k ad r (nI n) R T' U' tx' sz' Y)) := by
  refine openXI (own := RX2) rfl (by decide) (Nat.le_of_ble_eq_true rfl) rfl ?_
  intro p e s m args below meth c A C hrt9 hnm hE
  obtain ⟨Q, hQ⟩ : ∃ Q, Q = (vx_MQ below (va_Qi (fun v9 w' => (e1 n rc) = 0 ∧ v9 = dI (dg (scF (R (ix rc)) x)) ∧ ∃ (T' U' tx' : Nat → Int32) (sz' : Int32), w' = (KW k ad r (nI n) (upR R (ix rc) (scF (R (ix rc)) x)) T' U' tx' sz' Y)) (cBA D A) A) (xXA D A (fun E w' => ¬ (e1 n rc) = 0 ∧ E = exn (e1 n rc) ∧ ∃ (T' U' tx' : Nat → Int32) (sz' : Int32), w' = (KW k ad r (nI n) R T' U' tx' sz' Y))) args s 1 6 A) := ⟨_, rfl⟩
  show WP p l e (rmL 2 1 6) s m args below meth c D A 5 (KW k ad r (nI n) R T U tx sz Y) [(0, .ref (ad 0)), (1, .int rc), (2, .int x)] 0 0 (vx_MQ below (va_Qi (fun v9 w' => (e1 n rc) = 0 ∧ v9 = dI (dg (scF (R (ix rc)) x)) ∧ ∃ (T' U' tx' : Nat → Int32) (sz' : Int32), w' = (KW k ad r (nI n) (upR R (ix rc) (scF (R (ix rc)) x)) T' U' tx' sz' Y)) (cBA D A) A) (xXA D A (fun E w' => ¬ (e1 n rc) = 0 ∧ E = exn (e1 n rc) ∧ ∃ (T' U' tx' : Nat → Int32) (sz' : Int32), w' = (KW k ad r (nI n) R T' U' tx' sz' Y))) args s 1 6 A) 0 []
  rw [← hQ]
  refine p_aload_n C rfl 0 rfl dX2_scale_0 ?_
  refine p_iload_n C rfl 1 rfl dX2_scale_1 ?_
  refine cx_Vr (As := [.int rc]) (rest := []) C (m_X2_rowOf l D k hfl hn (rc := rc)) 0 rfl rfl rfl qml_X2_36 qim_X2_rowOf qse_X2_X2_rowOf qin_X2 qco_X2_rowOf nd_X2_rowOf ⟨Nat.le_of_ble_eq_true rfl, Nat.le_of_ble_eq_true rfl⟩ (Nat.le_of_ble_eq_true rfl) ⟨Nat.le_of_ble_eq_true rfl, Nat.le_of_ble_eq_true rfl⟩ rfl dX2_scale_2 (fun E9 w9 h9 => by obtain ⟨hx9, rfl, rfl⟩ := h9; rw [hQ]; exact x_out C hE ⟨by rw [show e1 n rc = 1 from by unfold e1; rw [hx9]; rfl]; exact one_n0, by rw [show e1 n rc = 1 from by unfold e1; rw [hx9]; rfl]; exact exn_1.symm, _, _, _, _, rfl⟩ (by (try simp only [rmL_c, rmL_s]); omega) (by (try simp only [rmL_c, rmL_s]); omega)) (fun r9 w9 h9 => ?_)
  obtain ⟨i, hi, rfl, rfl, rfl⟩ := h9
  have vi := isR_of hn hi
  have hi6 : i < 16 := by omega
  refine p_astore_n (lv9 := [(3, .ref (r i)), (0, .ref (ad 0)), (1, .int (nI i)), (2, .int x)]) C rfl (by decide) rfl dX2_scale_5 ?_
  refine p_iconst (v := (nI 0)) C (by decide) dX2_scale_6 ?_
  refine p_istore (lv9 := [(4, .int (nI 0)), (3, .ref (r i)), (0, .ref (ad 0)), (1, .int (nI i)), (2, .int x)]) C (by decide) rfl dX2_scale_7 ?_
  refine p_w (w9 := (KW k ad r (nI n) (upR R i (fl (fun q => R i q * x) (R i) 0)) T U tx sz Y)) (by rw [fl_0, upR_id]) ?_
  refine p_lv (lv9 := [(0, .ref (ad 0)), (2, .int x), (3, .ref (r i)), (4, .int (nI 0))]) [2, 4, 1, 0] rfl ?_
  have lp9 : ∀ (n9 : Nat) (b9 : Nat), (hc : b9 + n9 = 9) → WP p l e (rmL 2 1 6) s m args below meth c D A 5 (KW k ad r (nI n) (upR R i (fl (fun q => R i q * x) (R i) b9)) T U tx sz Y) [(0, .ref (ad 0)), (2, .int x), (3, .ref (r i)), (4, .int (nI b9))] 1 6 Q 9 [] := by
    intro n9
    induction n9 with
    | zero =>
      intro b9 hc
      obtain rfl : b9 = 9 := by omega
      refine p_iload C 3 rfl dX2_scale_9 ?_
      refine p_bipush (v := 9) C (by decide) dX2_scale_11 ?_
      refine p_icmp_ge C 30 (by decide) dX2_scale_13 (fun c_13 => ?_) (fun c_13 => absurd c_13 (by decide))
      refine p_aload_n C rfl 2 rfl dX2_scale_30 ?_
      refine c_Si (As := [.ref (r i)]) (rest := []) C (m_X1_degree l D k (u := (i + 6))  (by have h9 := KW_row (k := k) (ad := ad) (r := r) (cn := (nI n)) (R := (upR R i (fl (fun q => R i q * x) (R i) 9))) (T := T) (U := U) (tx := tx) (sz := sz) (Y := Y) hi6; rw [upR_s _ _ _] at h9; exact h9)) qml_X2_51 qst_X1_degree qin_X1 qco_X1_degree nd_X1_degree ⟨Nat.le_of_ble_eq_true rfl, Nat.le_of_ble_eq_true rfl⟩ (Nat.le_of_ble_eq_true rfl) ⟨Nat.le_of_ble_eq_true rfl, Nat.le_of_ble_eq_true rfl⟩ rfl dX2_scale_31 (fun r9 w9 h9 => ?_)
      obtain ⟨rfl, rfl⟩ := h9
      rw [hQ]
      exact rx_i C hrt9 (⟨by unfold e1; rw [vi]; rfl, by rw [ix_nI (show i < 2 ^ 31 by omega)]; rfl, _, _, _, _, by rw [ix_nI (show i < 2 ^ 31 by omega)]; rfl⟩) (by (try simp only [rmL_c, rmL_s]); omega) (by (try simp only [rmL_c, rmL_s]); omega) dX2_scale_34
    | succ n9 ih9 =>
      intro b9 hc
      refine p_iload C 3 rfl dX2_scale_9 ?_
      refine p_bipush (v := 9) C (by decide) dX2_scale_11 ?_
      refine p_icmp_ge C 30 (by decide) dX2_scale_13 (fun c_13 => absurd c_13 (nI_ge (b := 9) (show b9 < 9 by omega) (by decide))) (fun c_13 => ?_)
      refine p_aload_n C rfl 2 rfl dX2_scale_16 ?_
      refine p_iload C 3 rfl dX2_scale_17 ?_
      refine p_dup2_11 C rfl rfl dX2_scale_19 ?_
      refine p_iald (v := ((fl (fun q => R i q * x) (R i) b9) b9)) C (i + 6) (by have h9 := KW_row (k := k) (ad := ad) (r := r) (cn := (nI n)) (R := (upR R i (fl (fun q => R i q * x) (R i) b9))) (T := T) (U := U) (tx := tx) (sz := sz) (Y := Y) hi6; rw [upR_s _ _ _] at h9; exact h9) (vp_in_nI (n := b9) (N := 9) (by omega) (by omega)) (by rw [show ((nI b9)).toNatClampNeg = b9 from nI_clamp (by omega)]) dX2_scale_20 ?_
      refine p_iload_n C rfl 1 rfl dX2_scale_21 ?_
      refine p_imul C dX2_scale_22 ?_
      refine p_iast (w9 := (KW k ad r (nI n) (upR R i (fl (fun q => R i q * x) (R i) (b9 + 1))) T U tx sz Y)) C (i + 6) (by have h9 := KW_row (k := k) (ad := ad) (r := r) (cn := (nI n)) (R := (upR R i (fl (fun q => R i q * x) (R i) b9))) (T := T) (U := U) (tx := tx) (sz := sz) (Y := Y) hi6; rw [upR_s _ _ _] at h9; exact h9) (vp_in_nI (n := b9) (N := 9) (by omega) (by omega)) (by rw [show ((nI b9)).toNatClampNeg = b9 from nI_clamp (by omega), show upd (fl (fun q => R i q * x) (R i) b9) b9 (((fl (fun q => R i q * x) (R i) b9) b9) * x) = (fl (fun q => R i q * x) (R i) (b9 + 1)) from fl_s (by rw [fl_out (Nat.le_refl b9)])]; exact (KW_srow hi6).trans (by rw [upR_u])) dX2_scale_23 ?_
      refine p_iinc (lv9 := [(4, .int (nI (b9 + 1))), (0, .ref (ad 0)), (2, .int x), (3, .ref (r i))]) (v := (nI (b9 + 1))) C (j := 3) rfl (i_up b9) (by decide) rfl dX2_scale_24 ?_
      refine p_goto C 9 (by decide) dX2_scale_27 ?_
      refine p_lv (lv9 := [(0, .ref (ad 0)), (2, .int x), (3, .ref (r i)), (4, .int (nI (b9 + 1)))]) [1, 2, 3, 0] rfl ?_
      exact ih9 (b9 + 1) (by omega)
  exact lp9 9 0 rfl
set_option maxHeartbeats 4000000 in
set_option maxRecDepth 100000 in
/-- X2_derive -/
theorem m_X2_derive (l : Launch) (D : va_G) (k : Nat → ClassId) (hfl : l.stackTraces = false) {ad r : Nat → Nat} {n : Nat} {R : Nat → Nat → Int32} {T U tx : Nat → Int32} {sz : Int32} {Y : va_W} (hn : n ≤ 16) {rc : Int32} : XtI l D k yX2_derive (wU yX2_derive cX2_derive 5 (some .int)) (rmL 2 2 12) [.ref (ad 0), .int rc] (KW k ad r (nI n) R T U tx sz Y) (fun v9 w' => (eDer n rc) = 0 ∧ v9 = nI n ∧ ∃ (T' U' tx' : Nat → Int32) (sz' : Int32), w' = (KW k ad r (nI (n + 1)) (upR R n (drF (R (ix rc)))) T' U' tx' sz' Y)) (fun E w' => ¬ (eDer n rc) = 0 ∧ E = exnJ (eDer n rc) ∧ ∃ (T' U' tx' : Nat → Int32) (sz' : Int32), w' = (KW k ad r (nI n) R T' U' tx' sz' Y)) := by
  refine openXI (own := RX2) rfl (by decide) (Nat.le_of_ble_eq_true rfl) rfl ?_
  intro p e s m args below meth c A C hrt9 hnm hE
  obtain ⟨Q, hQ⟩ : ∃ Q, Q = (vx_MQ below (va_Qi (fun v9 w' => (eDer n rc) = 0 ∧ v9 = nI n ∧ ∃ (T' U' tx' : Nat → Int32) (sz' : Int32), w' = (KW k ad r (nI (n + 1)) (upR R n (drF (R (ix rc)))) T' U' tx' sz' Y)) (cBA D A) A) (xXA D A (fun E w' => ¬ (eDer n rc) = 0 ∧ E = exnJ (eDer n rc) ∧ ∃ (T' U' tx' : Nat → Int32) (sz' : Int32), w' = (KW k ad r (nI n) R T' U' tx' sz' Y))) args s 2 12 A) := ⟨_, rfl⟩
  show WP p l e (rmL 2 2 12) s m args below meth c D A 5 (KW k ad r (nI n) R T U tx sz Y) [(0, .ref (ad 0)), (1, .int rc)] 0 0 (vx_MQ below (va_Qi (fun v9 w' => (eDer n rc) = 0 ∧ v9 = nI n ∧ ∃ (T' U' tx' : Nat → Int32) (sz' : Int32), w' = (KW k ad r (nI (n + 1)) (upR R n (drF (R (ix rc)))) T' U' tx' sz' Y)) (cBA D A) A) (xXA D A (fun E w' => ¬ (eDer n rc) = 0 ∧ E = exnJ (eDer n rc) ∧ ∃ (T' U' tx' : Nat → Int32) (sz' : Int32), w' = (KW k ad r (nI n) R T' U' tx' sz' Y))) args s 2 12 A) 0 []
  rw [← hQ]
  refine p_aload_n C rfl 0 rfl dX2_derive_0 ?_
  refine p_iload_n C rfl 1 rfl dX2_derive_1 ?_
  refine cx_Vr (As := [.int rc]) (rest := []) C (m_X2_rowOf l D k hfl hn (rc := rc)) 0 rfl rfl rfl qml_X2_36 qim_X2_rowOf qse_X2_X2_rowOf qin_X2 qco_X2_rowOf nd_X2_rowOf ⟨Nat.le_of_ble_eq_true rfl, Nat.le_of_ble_eq_true rfl⟩ (Nat.le_of_ble_eq_true rfl) ⟨Nat.le_of_ble_eq_true rfl, Nat.le_of_ble_eq_true rfl⟩ rfl dX2_derive_2 (fun E9 w9 h9 => by obtain ⟨hx9, rfl, rfl⟩ := h9; rw [hQ]; exact x_out C hE ⟨by rw [show eDer n rc = 1 from by unfold eDer; rw [hx9]; rfl]; exact one_n0, by rw [show eDer n rc = 1 from by unfold eDer; rw [hx9]; rfl]; exact exnJ_1.symm, _, _, _, _, rfl⟩ (by (try simp only [rmL_c, rmL_s]); omega) (by (try simp only [rmL_c, rmL_s]); omega)) (fun r9 w9 h9 => ?_)
  obtain ⟨i, hi, rfl, rfl, rfl⟩ := h9
  have vi := isR_of hn hi
  have hi6 : i < 16 := by omega
  refine p_astore_n (lv9 := [(2, .ref (r i)), (0, .ref (ad 0)), (1, .int (nI i))]) C rfl (by decide) rfl dX2_derive_5 ?_
  refine p_aload_n C rfl 1 rfl dX2_derive_6 ?_
  refine cx_Vr (As := []) (rest := []) C (m_X2_newRow l D k hfl (n := n) (by omega)) 0 rfl rfl rfl qml_X2_32 qim_X2_newRow qse_X2_X2_newRow qin_X2 qco_X2_newRow nd_X2_newRow ⟨Nat.le_of_ble_eq_true rfl, Nat.le_of_ble_eq_true rfl⟩ (Nat.le_of_ble_eq_true rfl) ⟨Nat.le_of_ble_eq_true rfl, Nat.le_of_ble_eq_true rfl⟩ rfl dX2_derive_7 (fun E9 w9 h9 => by obtain ⟨hx9, rfl, rfl⟩ := h9; rw [hQ]; exact x_out C hE ⟨by rw [show eDer n (nI i) = 2 from by unfold eDer; rw [vi]; exact if_pos hx9]; exact two_n0, by rw [show eDer n (nI i) = 2 from by unfold eDer; rw [vi]; exact if_pos hx9]; exact exnJ_2.symm, _, _, _, _, rfl⟩ (by (try simp only [rmL_c, rmL_s]); omega) (by (try simp only [rmL_c, rmL_s]); omega)) (fun r9 w9 h9 => ?_)
  obtain ⟨h16, rfl, rfl⟩ := h9
  refine p_astore_n (lv9 := [(3, .ref (r n)), (2, .ref (r i)), (0, .ref (ad 0)), (1, .int (nI i))]) C rfl (by decide) rfl dX2_derive_10 ?_
  refine p_iconst (v := (nI (0 + 1))) C (by decide) dX2_derive_11 ?_
  refine p_istore (lv9 := [(4, .int (nI (0 + 1))), (3, .ref (r n)), (2, .ref (r i)), (0, .ref (ad 0)), (1, .int (nI i))]) C (by decide) rfl dX2_derive_12 ?_
  refine p_w (w9 := (KW k ad r (nI (n + 1)) (upR R n (fl (fun q => R i (q + 1) * nI (q + 1)) (fun _ => 0) 0)) T U tx sz Y)) (by rw [fl_0]) ?_
  refine p_lv (lv9 := [(0, .ref (ad 0)), (2, .ref (r i)), (3, .ref (r n)), (4, .int (nI (0 + 1)))]) [3, 2, 1, 0] rfl ?_
  have lp14 : ∀ (n14 : Nat) (b9 : Nat), (hc : b9 + n14 = 8) → WP p l e (rmL 2 2 12) s m args below meth c D A 5 (KW k ad r (nI (n + 1)) (upR R n (fl (fun q => R i (q + 1) * nI (q + 1)) (fun _ => 0) b9)) T U tx sz Y) [(0, .ref (ad 0)), (2, .ref (r i)), (3, .ref (r n)), (4, .int (nI (b9 + 1)))] 2 12 Q 14 [] := by
    intro n14
    induction n14 with
    | zero =>
      intro b9 hc
      obtain rfl : b9 = 8 := by omega
      refine p_iload C 3 rfl dX2_derive_14 ?_
      refine p_bipush (v := 9) C (by decide) dX2_derive_16 ?_
      refine p_icmp_ge C 40 (by decide) dX2_derive_18 (fun c_18 => ?_) (fun c_18 => absurd c_18 (by decide))
      refine p_aload_n C rfl 0 rfl dX2_derive_40 ?_
      refine p_get (v := .int (nI (n + 1))) (T := TX2) C 0 rfl rfl 1 (by decide) inX2 qfl_X2_14 (fun _ h9 => h9) rfl dX2_derive_41 ?_
      refine p_iconst (v := 1) C (by decide) dX2_derive_44 ?_
      refine p_isub C dX2_derive_45 ?_
      refine p_int (y := (nI n)) (nI_pred n) ?_
      rw [hQ]
      exact rx_i C hrt9 (⟨by unfold eDer; rw [vi]; exact if_neg (le16 h16), rfl, _, _, _, _, by rw [ix_nI (show i < 2 ^ 31 by omega)]; rfl⟩) (by (try simp only [rmL_c, rmL_s]); omega) (by (try simp only [rmL_c, rmL_s]); omega) dX2_derive_46
    | succ n14 ih14 =>
      intro b9 hc
      refine p_iload C 3 rfl dX2_derive_14 ?_
      refine p_bipush (v := 9) C (by decide) dX2_derive_16 ?_
      refine p_icmp_ge C 40 (by decide) dX2_derive_18 (fun c_18 => absurd c_18 (nI_ge (b := 9) (show b9 + 1 < 9 by omega) (by decide))) (fun c_18 => ?_)
      refine p_aload_n C rfl 2 rfl dX2_derive_21 ?_
      refine p_iload C 3 rfl dX2_derive_22 ?_
      refine p_iconst (v := 1) C (by decide) dX2_derive_24 ?_
      refine p_isub C dX2_derive_25 ?_
      refine p_int (y := (nI b9)) (nI_pred b9) ?_
      refine p_aload_n C rfl 1 rfl dX2_derive_26 ?_
      refine p_iload C 3 rfl dX2_derive_27 ?_
      refine p_iald (v := ((R i) (b9 + 1))) C (i + 6) (by have h9 := KW_row (k := k) (ad := ad) (r := r) (cn := (nI (n + 1))) (R := (upR R n (fl (fun q => R i (q + 1) * nI (q + 1)) (fun _ => 0) b9))) (T := T) (U := U) (tx := tx) (sz := sz) (Y := Y) hi6; rw [upR_n _ _ (by omega)] at h9; exact h9) (vp_in_nI (n := (b9 + 1)) (N := 9) (by omega) (by omega)) (by rw [show ((nI (b9 + 1))).toNatClampNeg = (b9 + 1) from nI_clamp (by omega)]) dX2_derive_29 ?_
      refine p_iload C 3 rfl dX2_derive_30 ?_
      refine p_imul C dX2_derive_32 ?_
      refine p_iast (w9 := (KW k ad r (nI (n + 1)) (upR R n (fl (fun q => R i (q + 1) * nI (q + 1)) (fun _ => 0) (b9 + 1))) T U tx sz Y)) C (n + 6) (by have h9 := KW_row (k := k) (ad := ad) (r := r) (cn := (nI (n + 1))) (R := (upR R n (fl (fun q => R i (q + 1) * nI (q + 1)) (fun _ => 0) b9))) (T := T) (U := U) (tx := tx) (sz := sz) (Y := Y) h16; rw [upR_s _ _ _] at h9; exact h9) (vp_in_nI (n := b9) (N := 9) (by omega) (by omega)) (by rw [show ((nI b9)).toNatClampNeg = b9 from nI_clamp (by omega), show upd (fl (fun q => R i (q + 1) * nI (q + 1)) (fun _ => 0) b9) b9 (((R i) (b9 + 1)) * (nI (b9 + 1))) = (fl (fun q => R i (q + 1) * nI (q + 1)) (fun _ => 0) (b9 + 1)) from fl_s rfl]; exact (KW_srow h16).trans (by rw [upR_u])) dX2_derive_33 ?_
      refine p_iinc (lv9 := [(4, .int (nI (b9 + 1 + 1))), (0, .ref (ad 0)), (2, .ref (r i)), (3, .ref (r n))]) (v := (nI (b9 + 1 + 1))) C (j := 3) rfl (i_up _) (by decide) rfl dX2_derive_34 ?_
      refine p_goto C 14 (by decide) dX2_derive_37 ?_
      refine p_lv (lv9 := [(0, .ref (ad 0)), (2, .ref (r i)), (3, .ref (r n)), (4, .int (nI (b9 + 1 + 1)))]) [1, 2, 3, 0] rfl ?_
      exact ih14 (b9 + 1) (by omega)
  exact lp14 8 0 rfl
theorem nI_p1 {n : Nat} (h : 0 < n) : nI n - 1 = nI (n - 1) := by
  obtain ⟨m, rfl⟩ : ∃ m, n = m + 1 := ⟨n - 1, by omega⟩
  exact nI_pred m
set_option maxHeartbeats 4000000 in
set_option maxRecDepth 100000 in
/-- X2_drop -/
theorem m_X2_drop (l : Launch) (D : va_G) (k : Nat → ClassId) (hfl : l.stackTraces = false) {ad r : Nat → Nat} {n : Nat} {R : Nat → Nat → Int32} {T U tx : Nat → Int32} {sz : Int32} {Y : va_W} (hn : n ≤ 16) {rc : Int32} : XtI l D k yX2_drop (wU yX2_drop cX2_drop 4 (some .int)) (rmL 2 1 6) [.ref (ad 0), .int rc] (KW k ad r (nI n) R T U tx sz Y) (fun v9 w' => (e1 n rc) = 0 ∧ v9 = dI (dg (R (ix rc))) ∧ ∃ (T' U' tx' : Nat → Int32) (sz' : Int32), w' = (KW k ad r (nI (n - 1)) (dK R (ix rc) (n - 1)) T' U' tx' sz' Y)) (fun E w' => ¬ (e1 n rc) = 0 ∧ E = exn (e1 n rc) ∧ ∃ (T' U' tx' : Nat → Int32) (sz' : Int32), w' = (KW k ad r (nI n) R T' U' tx' sz' Y)) := by
  refine openXI (own := RX2) rfl (by decide) (Nat.le_of_ble_eq_true rfl) rfl ?_
  intro p e s m args below meth c A C hrt9 hnm hE
  obtain ⟨Q, hQ⟩ : ∃ Q, Q = (vx_MQ below (va_Qi (fun v9 w' => (e1 n rc) = 0 ∧ v9 = dI (dg (R (ix rc))) ∧ ∃ (T' U' tx' : Nat → Int32) (sz' : Int32), w' = (KW k ad r (nI (n - 1)) (dK R (ix rc) (n - 1)) T' U' tx' sz' Y)) (cBA D A) A) (xXA D A (fun E w' => ¬ (e1 n rc) = 0 ∧ E = exn (e1 n rc) ∧ ∃ (T' U' tx' : Nat → Int32) (sz' : Int32), w' = (KW k ad r (nI n) R T' U' tx' sz' Y))) args s 1 6 A) := ⟨_, rfl⟩
  show WP p l e (rmL 2 1 6) s m args below meth c D A 4 (KW k ad r (nI n) R T U tx sz Y) [(0, .ref (ad 0)), (1, .int rc)] 0 0 (vx_MQ below (va_Qi (fun v9 w' => (e1 n rc) = 0 ∧ v9 = dI (dg (R (ix rc))) ∧ ∃ (T' U' tx' : Nat → Int32) (sz' : Int32), w' = (KW k ad r (nI (n - 1)) (dK R (ix rc) (n - 1)) T' U' tx' sz' Y)) (cBA D A) A) (xXA D A (fun E w' => ¬ (e1 n rc) = 0 ∧ E = exn (e1 n rc) ∧ ∃ (T' U' tx' : Nat → Int32) (sz' : Int32), w' = (KW k ad r (nI n) R T' U' tx' sz' Y))) args s 1 6 A) 0 []
  rw [← hQ]
  refine p_aload_n C rfl 0 rfl dX2_drop_0 ?_
  refine p_iload_n C rfl 1 rfl dX2_drop_1 ?_
  refine cx_Vr (As := [.int rc]) (rest := []) C (m_X2_rowOf l D k hfl hn (rc := rc)) 0 rfl rfl rfl qml_X2_36 qim_X2_rowOf qse_X2_X2_rowOf qin_X2 qco_X2_rowOf nd_X2_rowOf ⟨Nat.le_of_ble_eq_true rfl, Nat.le_of_ble_eq_true rfl⟩ (Nat.le_of_ble_eq_true rfl) ⟨Nat.le_of_ble_eq_true rfl, Nat.le_of_ble_eq_true rfl⟩ rfl dX2_drop_2 (fun E9 w9 h9 => by obtain ⟨hx9, rfl, rfl⟩ := h9; rw [hQ]; exact x_out C hE ⟨by rw [show e1 n rc = 1 from by unfold e1; rw [hx9]; rfl]; exact one_n0, by rw [show e1 n rc = 1 from by unfold e1; rw [hx9]; rfl]; exact exn_1.symm, _, _, _, _, rfl⟩ (by (try simp only [rmL_c, rmL_s]); omega) (by (try simp only [rmL_c, rmL_s]); omega)) (fun r9 w9 h9 => ?_)
  obtain ⟨i, hi, rfl, rfl, rfl⟩ := h9
  have vi := isR_of hn hi
  have hi6 : i < 16 := by omega
  refine c_Si (As := [.ref (r i)]) (rest := []) C (m_X1_degree l D k (u := (i + 6))  (KW_row hi6)) qml_X2_51 qst_X1_degree qin_X1 qco_X1_degree nd_X1_degree ⟨Nat.le_of_ble_eq_true rfl, Nat.le_of_ble_eq_true rfl⟩ (Nat.le_of_ble_eq_true rfl) ⟨Nat.le_of_ble_eq_true rfl, Nat.le_of_ble_eq_true rfl⟩ rfl dX2_drop_5 (fun r9 w9 h9 => ?_)
  obtain ⟨rfl, rfl⟩ := h9
  refine p_istore_n (lv9 := [(2, .int (dI (dg (R i)))), (0, .ref (ad 0)), (1, .int (nI i))]) C rfl (by decide) rfl dX2_drop_8 ?_
  refine p_iload_n C rfl 2 rfl dX2_drop_9 ?_
  refine p_iconst (v := 1) C (by decide) dX2_drop_10 ?_
  refine p_iadd C dX2_drop_11 ?_
  refine p_int (y := (nI (i + 1))) (nI_1 i) ?_
  refine p_istore_n (lv9 := [(3, .int (nI (i + 1))), (2, .int (dI (dg (R i)))), (0, .ref (ad 0)), (1, .int (nI i))]) C rfl (by decide) rfl dX2_drop_12 ?_
  refine p_w (w9 := (KW k ad r (nI n) (dK R i i) T U tx sz Y)) (by rw [dK_0]) ?_
  refine p_lv (lv9 := [(0, .ref (ad 0)), (2, .int (dI (dg (R i)))), (3, .int (nI (i + 1)))]) [2, 1, 0] rfl ?_
  have lp13 : ∀ (n13 : Nat) (b9 : Nat), (hc : b9 + n13 = n - 1) → (hic : i ≤ b9) → WP p l e (rmL 2 1 6) s m args below meth c D A 4 (KW k ad r (nI n) (dK R i b9) T U tx sz Y) [(0, .ref (ad 0)), (2, .int (dI (dg (R i)))), (3, .int (nI (b9 + 1)))] 1 6 Q 13 [] := by
    intro n13
    induction n13 with
    | zero =>
      intro b9 hc hic
      obtain rfl : b9 = n - 1 := by omega
      refine p_iload_n C rfl 2 rfl dX2_drop_13 ?_
      refine p_aload_n C rfl 0 rfl dX2_drop_14 ?_
      refine p_get (v := .int (nI n)) (T := TX2) C 0 rfl rfl 1 (by decide) inX2 qfl_X2_14 (fun _ h9 => h9) rfl dX2_drop_15 ?_
      refine p_icmp_ge C 44 (by decide) dX2_drop_18 (fun c_18 => ?_) (fun c_18 => absurd (nI_le (by omega) (by omega)) c_18)
      refine p_aload_n C rfl 0 rfl dX2_drop_44 ?_
      refine p_dup C rfl dX2_drop_45 ?_
      refine p_get (v := .int (nI n)) (T := TX2) C 0 rfl rfl 1 (by decide) inX2 qfl_X2_14 (fun _ h9 => h9) rfl dX2_drop_46 ?_
      refine p_iconst (v := 1) C (by decide) dX2_drop_49 ?_
      refine p_isub C dX2_drop_50 ?_
      refine p_int (y := (nI (n - 1))) (nI_p1 (by omega)) ?_
      refine p_put (w9 := (KW k ad r (nI (n - 1)) (dK R i (n - 1)) T U tx sz Y)) (v := .int (nI (n - 1))) (T := TX2) C tyX2 tyX2_ok nmX2 0 rfl rfl 1 (by decide) inX2 qfl_X2_14 (fun _ h9 => h9) rfl rfl rfl (Nat.le_of_ble_eq_true rfl) rfl dX2_drop_51 ?_
      refine p_iload_n C rfl 1 rfl dX2_drop_54 ?_
      rw [hQ]
      exact rx_i C hrt9 (⟨by unfold e1; rw [vi]; rfl, by rw [ix_nI (show i < 2 ^ 31 by omega)], _, _, _, _, by rw [ix_nI (show i < 2 ^ 31 by omega)]⟩) (by (try simp only [rmL_c, rmL_s]); omega) (by (try simp only [rmL_c, rmL_s]); omega) dX2_drop_55
    | succ n13 ih13 =>
      intro b9 hc hic
      have hc6 : b9 < 16 := by omega
      have hc7 : b9 + 1 < 16 := by omega
      refine p_iload_n C rfl 2 rfl dX2_drop_13 ?_
      refine p_aload_n C rfl 0 rfl dX2_drop_14 ?_
      refine p_get (v := .int (nI n)) (T := TX2) C 0 rfl rfl 1 (by decide) inX2 qfl_X2_14 (fun _ h9 => h9) rfl dX2_drop_15 ?_
      refine p_icmp_ge C 44 (by decide) dX2_drop_18 (fun c_18 => absurd c_18 (nI_ge (show b9 + 1 < n by omega) (by omega))) (fun c_18 => ?_)
      refine p_aload_n C rfl 0 rfl dX2_drop_21 ?_
      refine p_get (v := .ref (ad 1)) (T := TX2) C 0 rfl rfl 0 (by decide) inX2 qfl_X2_11 (fun _ h9 => h9) rfl dX2_drop_22 ?_
      refine p_iload_n C rfl 2 rfl dX2_drop_25 ?_
      refine p_qald (v := (r (b9 + 1))) C 1 rfl (vp_in_nI (n := (b9 + 1)) (N := 16) (by omega) (by omega)) (by rw [show ((nI (b9 + 1))).toNatClampNeg = (b9 + 1) from nI_clamp (by omega)]; exact if_pos (by omega)) dX2_drop_26 ?_
      refine p_aload_n C rfl 0 rfl dX2_drop_27 ?_
      refine p_get (v := .ref (ad 1)) (T := TX2) C 0 rfl rfl 0 (by decide) inX2 qfl_X2_11 (fun _ h9 => h9) rfl dX2_drop_28 ?_
      refine p_iload_n C rfl 2 rfl dX2_drop_31 ?_
      refine p_iconst (v := 1) C (by decide) dX2_drop_32 ?_
      refine p_isub C dX2_drop_33 ?_
      refine p_int (y := (nI b9)) (nI_pred b9) ?_
      refine p_qald (v := (r b9)) C 1 rfl (vp_in_nI (n := b9) (N := 16) (by omega) (by omega)) (by rw [show ((nI b9)).toNatClampNeg = b9 from nI_clamp (by omega)]; exact if_pos (by omega)) dX2_drop_34 ?_
      refine c_Sv (As := [.ref (r (b9 + 1)), .ref (r b9)]) (rest := []) C (m_X1_copy l D k (u := ((b9 + 1) + 6)) (v := (b9 + 6)) (KW_row hc7) (KW_row hc6) (by omega)) qml_X2_57 qst_X1_copy qin_X1 qco_X1_copy nd_X1_copy ⟨Nat.le_of_ble_eq_true rfl, Nat.le_of_ble_eq_true rfl⟩ (Nat.le_of_ble_eq_true rfl) ⟨Nat.le_of_ble_eq_true rfl, Nat.le_of_ble_eq_true rfl⟩ rfl dX2_drop_35 (fun w9 h9 => ?_)
      obtain rfl := h9
      refine p_w (w9 := (KW k ad r (nI n) (upR (dK R i b9) b9 (n9 ((dK R i b9) (b9 + 1)))) T U tx sz Y)) (KW_srow hc6) ?_
      refine p_iinc (lv9 := [(3, .int (nI (b9 + 1 + 1))), (0, .ref (ad 0)), (2, .int (dI (dg (R i))))]) (v := (nI (b9 + 1 + 1))) C (j := 2) rfl (i_up _) (by decide) rfl dX2_drop_38 ?_
      refine p_goto C 13 (by decide) dX2_drop_41 ?_
      refine p_w (w9 := (KW k ad r (nI n) (dK R i (b9 + 1)) T U tx sz Y)) (by rw [dK_n, dK_s hic]) ?_
      refine p_lv (lv9 := [(0, .ref (ad 0)), (2, .int (dI (dg (R i)))), (3, .int (nI (b9 + 1 + 1)))]) [1, 2, 0] rfl ?_
      exact ih13 (b9 + 1) (by omega) (by omega)
  exact lp13 (n - 1 - i) i (by omega) (Nat.le_refl _)
set_option maxHeartbeats 4000000 in
set_option maxRecDepth 100000 in
/-- X2_chain -/
theorem m_X2_chain (l : Launch) (D : va_G) (k : Nat → ClassId) (hfl : l.stackTraces = false) {ad r : Nat → Nat} {n : Nat} {R : Nat → Nat → Int32} {T U tx : Nat → Int32} {sz : Int32} {Y : va_W} (hn : n ≤ 16) {ra rb : Int32} : XtI l D k yX2_chain (wU yX2_chain cX2_chain 7 (some .int)) (rmL 2 4 24) [.ref (ad 0), .int ra, .int rb] (KW k ad r (nI n) R T U tx sz Y) (fun v9 w' => (eChain n R ra rb) = 0 ∧ v9 = nI n ∧ ∃ (T' U' tx' : Nat → Int32) (sz' : Int32), w' = (KW k ad r (nI (n + 1)) (upR R n (chD (R (ix ra)) (R (ix rb)) (dg (R (ix ra))) (fun _ => 0))) T' U' tx' sz' Y)) (fun E w' => ¬ (eChain n R ra rb) = 0 ∧ E = exn (eChain n R ra rb) ∧ ∃ (T' U' tx' : Nat → Int32) (sz' : Int32), w' = (KW k ad r (nI n) R T' U' tx' sz' Y)) := by
  refine openXI (own := RX2) rfl (by decide) (Nat.le_of_ble_eq_true rfl) rfl ?_
  intro p e s m args below meth c A C hrt9 hnm hE
  obtain ⟨Q, hQ⟩ : ∃ Q, Q = (vx_MQ below (va_Qi (fun v9 w' => (eChain n R ra rb) = 0 ∧ v9 = nI n ∧ ∃ (T' U' tx' : Nat → Int32) (sz' : Int32), w' = (KW k ad r (nI (n + 1)) (upR R n (chD (R (ix ra)) (R (ix rb)) (dg (R (ix ra))) (fun _ => 0))) T' U' tx' sz' Y)) (cBA D A) A) (xXA D A (fun E w' => ¬ (eChain n R ra rb) = 0 ∧ E = exn (eChain n R ra rb) ∧ ∃ (T' U' tx' : Nat → Int32) (sz' : Int32), w' = (KW k ad r (nI n) R T' U' tx' sz' Y))) args s 4 24 A) := ⟨_, rfl⟩
  show WP p l e (rmL 2 4 24) s m args below meth c D A 7 (KW k ad r (nI n) R T U tx sz Y) [(0, .ref (ad 0)), (1, .int ra), (2, .int rb)] 0 0 (vx_MQ below (va_Qi (fun v9 w' => (eChain n R ra rb) = 0 ∧ v9 = nI n ∧ ∃ (T' U' tx' : Nat → Int32) (sz' : Int32), w' = (KW k ad r (nI (n + 1)) (upR R n (chD (R (ix ra)) (R (ix rb)) (dg (R (ix ra))) (fun _ => 0))) T' U' tx' sz' Y)) (cBA D A) A) (xXA D A (fun E w' => ¬ (eChain n R ra rb) = 0 ∧ E = exn (eChain n R ra rb) ∧ ∃ (T' U' tx' : Nat → Int32) (sz' : Int32), w' = (KW k ad r (nI n) R T' U' tx' sz' Y))) args s 4 24 A) 0 []
  rw [← hQ]
  refine p_aload_n C rfl 0 rfl dX2_chain_0 ?_
  refine p_iload_n C rfl 1 rfl dX2_chain_1 ?_
  refine cx_Vr (As := [.int ra]) (rest := []) C (m_X2_rowOf l D k hfl hn (rc := ra)) 0 rfl rfl rfl qml_X2_36 qim_X2_rowOf qse_X2_X2_rowOf qin_X2 qco_X2_rowOf nd_X2_rowOf ⟨Nat.le_of_ble_eq_true rfl, Nat.le_of_ble_eq_true rfl⟩ (Nat.le_of_ble_eq_true rfl) ⟨Nat.le_of_ble_eq_true rfl, Nat.le_of_ble_eq_true rfl⟩ rfl dX2_chain_2 (fun E9 w9 h9 => by obtain ⟨hx9, rfl, rfl⟩ := h9; rw [hQ]; exact x_out C hE ⟨by rw [show eChain n R ra rb = 1 from by unfold eChain; rw [hx9]; rfl]; exact one_n0, by rw [show eChain n R ra rb = 1 from by unfold eChain; rw [hx9]; rfl]; exact exn_1.symm, _, _, _, _, rfl⟩ (by (try simp only [rmL_c, rmL_s]); omega) (by (try simp only [rmL_c, rmL_s]); omega)) (fun r9 w9 h9 => ?_)
  obtain ⟨i, hi, rfl, rfl, rfl⟩ := h9
  have vi := isR_of hn hi
  have hi6 : i < 16 := by omega
  refine p_astore_n (lv9 := [(3, .ref (r i)), (0, .ref (ad 0)), (1, .int (nI i)), (2, .int rb)]) C rfl (by decide) rfl dX2_chain_5 ?_
  refine p_aload_n C rfl 1 rfl dX2_chain_6 ?_
  refine p_iload_n C rfl 3 rfl dX2_chain_7 ?_
  refine cx_Vr (As := [.int rb]) (rest := []) C (m_X2_rowOf l D k hfl hn (rc := rb)) 0 rfl rfl rfl qml_X2_36 qim_X2_rowOf qse_X2_X2_rowOf qin_X2 qco_X2_rowOf nd_X2_rowOf ⟨Nat.le_of_ble_eq_true rfl, Nat.le_of_ble_eq_true rfl⟩ (Nat.le_of_ble_eq_true rfl) ⟨Nat.le_of_ble_eq_true rfl, Nat.le_of_ble_eq_true rfl⟩ rfl dX2_chain_8 (fun E9 w9 h9 => by obtain ⟨hx9, rfl, rfl⟩ := h9; rw [hQ]; exact x_out C hE ⟨by rw [show eChain n R (nI i) rb = 1 from by unfold eChain; rw [vi, hx9]; rfl]; exact one_n0, by rw [show eChain n R (nI i) rb = 1 from by unfold eChain; rw [vi, hx9]; rfl]; exact exn_1.symm, _, _, _, _, rfl⟩ (by (try simp only [rmL_c, rmL_s]); omega) (by (try simp only [rmL_c, rmL_s]); omega)) (fun r9 w9 h9 => ?_)
  obtain ⟨j, hj, rfl, rfl, rfl⟩ := h9
  have vj := isR_of hn hj
  have hj6 : j < 16 := by omega
  refine p_astore (lv9 := [(4, .ref (r j)), (3, .ref (r i)), (0, .ref (ad 0)), (1, .int (nI i)), (2, .int (nI j))]) C (by decide) rfl dX2_chain_11 ?_
  refine p_aload_n C rfl 1 rfl dX2_chain_13 ?_
  refine c_Si (As := [.ref (r i)]) (rest := []) C (m_X1_degree l D k (u := (i + 6))  (KW_row hi6)) qml_X2_51 qst_X1_degree qin_X1 qco_X1_degree nd_X1_degree ⟨Nat.le_of_ble_eq_true rfl, Nat.le_of_ble_eq_true rfl⟩ (Nat.le_of_ble_eq_true rfl) ⟨Nat.le_of_ble_eq_true rfl, Nat.le_of_ble_eq_true rfl⟩ rfl dX2_chain_14 (fun r9 w9 h9 => ?_)
  obtain ⟨rfl, rfl⟩ := h9
  refine p_aload C 0 rfl dX2_chain_17 ?_
  refine c_Si (As := [.ref (r j)]) (rest := [.int (dI (dg (R i)))]) C (m_X1_degree l D k (u := (j + 6))  (KW_row hj6)) qml_X2_51 qst_X1_degree qin_X1 qco_X1_degree nd_X1_degree ⟨Nat.le_of_ble_eq_true rfl, Nat.le_of_ble_eq_true rfl⟩ (Nat.le_of_ble_eq_true rfl) ⟨Nat.le_of_ble_eq_true rfl, Nat.le_of_ble_eq_true rfl⟩ rfl dX2_chain_19 (fun r9 w9 h9 => ?_)
  obtain ⟨rfl, rfl⟩ := h9
  refine p_imul C dX2_chain_22 ?_
  refine p_bipush (v := 8) C (by decide) dX2_chain_23 ?_
  refine p_icmp_le C 38 (by decide) dX2_chain_25 (fun c_25 => ?_) (fun c_25 => ?_)
  · refine p_aload_n C rfl 2 rfl dX2_chain_38 ?_
    refine cx_Vr (As := []) (rest := []) C (m_X2_newRow l D k hfl (n := n) (by omega)) 0 rfl rfl rfl qml_X2_32 qim_X2_newRow qse_X2_X2_newRow qin_X2 qco_X2_newRow nd_X2_newRow ⟨Nat.le_of_ble_eq_true rfl, Nat.le_of_ble_eq_true rfl⟩ (Nat.le_of_ble_eq_true rfl) ⟨Nat.le_of_ble_eq_true rfl, Nat.le_of_ble_eq_true rfl⟩ rfl dX2_chain_39 (fun E9 w9 h9 => by obtain ⟨hx9, rfl, rfl⟩ := h9; rw [hQ]; exact x_out C hE ⟨by rw [show eChain n R (nI i) (nI j) = 3 from by unfold eChain; rw [vi, vj, ix_nI (show i < 2 ^ 31 by omega), ix_nI (show j < 2 ^ 31 by omega)]; exact (if_neg (Int32.not_lt.mpr c_25)).trans (if_pos hx9)]; exact three_n0, by rw [show eChain n R (nI i) (nI j) = 3 from by unfold eChain; rw [vi, vj, ix_nI (show i < 2 ^ 31 by omega), ix_nI (show j < 2 ^ 31 by omega)]; exact (if_neg (Int32.not_lt.mpr c_25)).trans (if_pos hx9)]; exact exn_3.symm, _, _, _, _, rfl⟩ (by (try simp only [rmL_c, rmL_s]); omega) (by (try simp only [rmL_c, rmL_s]); omega)) (fun r9 w9 h9 => ?_)
    obtain ⟨h16, rfl, rfl⟩ := h9
    refine p_astore (lv9 := [(5, .ref (r n)), (4, .ref (r j)), (3, .ref (r i)), (0, .ref (ad 0)), (1, .int (nI i)), (2, .int (nI j))]) C (by decide) rfl dX2_chain_42 ?_
    refine p_aload_n C rfl 2 rfl dX2_chain_44 ?_
    refine c_Si (As := [.ref (r i)]) (rest := []) C (m_X1_degree l D k (u := (i + 6))  (by have h9 := KW_row (k := k) (ad := ad) (r := r) (cn := (nI (n + 1))) (R := (upR R n (fun _ => 0))) (T := T) (U := U) (tx := tx) (sz := sz) (Y := Y) hi6; rw [upR_n _ _ (by omega)] at h9; exact h9)) qml_X2_51 qst_X1_degree qin_X1 qco_X1_degree nd_X1_degree ⟨Nat.le_of_ble_eq_true rfl, Nat.le_of_ble_eq_true rfl⟩ (Nat.le_of_ble_eq_true rfl) ⟨Nat.le_of_ble_eq_true rfl, Nat.le_of_ble_eq_true rfl⟩ rfl dX2_chain_45 (fun r9 w9 h9 => ?_)
    obtain ⟨rfl, rfl⟩ := h9
    refine p_istore (lv9 := [(6, .int (dI (dg (R i)))), (5, .ref (r n)), (4, .ref (r j)), (3, .ref (r i)), (0, .ref (ad 0)), (1, .int (nI i)), (2, .int (nI j))]) C (by decide) rfl dX2_chain_48 ?_
    refine p_lv (lv9 := [(0, .ref (ad 0)), (3, .ref (r i)), (4, .ref (r j)), (5, .ref (r n)), (6, .int (dI (dg (R i))))]) [4, 3, 2, 1, 0] rfl ?_
    have lp50 : ∀ (n50 : Nat) (h8 T8 : Nat → Int32), (hH : chD (R i) (R j) n50 h8 = chD (R i) (R j) (dg (R i)) (fun _ => 0)) → (hn5 : n50 ≤ 9) → WP p l e (rmL 2 4 24) s m args below meth c D A 7 (KW k ad r (nI (n + 1)) (upR R n h8) T8 U tx sz Y) [(0, .ref (ad 0)), (3, .ref (r i)), (4, .ref (r j)), (5, .ref (r n)), (6, .int (nI n50 - 1))] 3 18 Q 50 [] := by
      intro n50
      induction n50 with
      | zero =>
        intro h8 T8 hH hn5
        refine p_lvE (lv9 := [(0, .ref (ad 0)), (3, .ref (r i)), (4, .ref (r j)), (5, .ref (r n)), (6, .int (-1))]) (by rw [i_z1]) ?_
        refine p_iload C 4 rfl dX2_chain_50 ?_
        refine p_if_lt C 92 (by decide) dX2_chain_52 (fun c_52 => ?_) (fun c_52 => absurd c_52 (by decide))
        refine p_aload_n C rfl 0 rfl dX2_chain_92 ?_
        refine p_get (v := .int (nI (n + 1))) (T := TX2) C 0 rfl rfl 1 (by decide) inX2 qfl_X2_14 (fun _ h9 => h9) rfl dX2_chain_93 ?_
        refine p_iconst (v := 1) C (by decide) dX2_chain_96 ?_
        refine p_isub C dX2_chain_97 ?_
        refine p_int (y := (nI n)) (nI_pred n) ?_
        rw [hQ]
        exact rx_i C hrt9 (⟨by unfold eChain; rw [vi, vj, ix_nI (show i < 2 ^ 31 by omega), ix_nI (show j < 2 ^ 31 by omega)]; exact (if_neg (Int32.not_lt.mpr c_25)).trans (if_neg (le16 h16)), rfl, _, _, _, _, by rw [ix_nI (show i < 2 ^ 31 by omega), ix_nI (show j < 2 ^ 31 by omega), ← hH]; rfl⟩) (by (try simp only [rmL_c, rmL_s]); omega) (by (try simp only [rmL_c, rmL_s]); omega) dX2_chain_98
      | succ n50 ih50 =>
        intro h8 T8 hH hn5
        refine p_lvE (lv9 := [(0, .ref (ad 0)), (3, .ref (r i)), (4, .ref (r j)), (5, .ref (r n)), (6, .int (nI n50))]) (by rw [nI_pred]) ?_
        refine p_iload C 4 rfl dX2_chain_50 ?_
        refine p_if_lt C 92 (by decide) dX2_chain_52 (fun c_52 => absurd c_52 (nI_pos (by omega))) (fun c_52 => ?_)
        refine p_aload C 3 rfl dX2_chain_55 ?_
        refine p_aload C 2 rfl dX2_chain_57 ?_
        refine p_aload_n C rfl 0 rfl dX2_chain_59 ?_
        refine p_get (v := .ref (ad 2)) (T := TX2) C 0 rfl rfl 2 (by decide) inX2 qfl_X2_18 (fun _ h9 => h9) rfl dX2_chain_60 ?_
        refine c_Sv (As := [.ref (r n), .ref (r j), .ref (ad 2)]) (rest := []) C (m_X1_multiply l D k (u := (n + 6)) (v := (j + 6)) (t := 2) (by have h9 := KW_row (k := k) (ad := ad) (r := r) (cn := (nI (n + 1))) (R := (upR R n h8)) (T := T8) (U := U) (tx := tx) (sz := sz) (Y := Y) h16; rw [upR_s _ _ _] at h9; exact h9) (by have h9 := KW_row (k := k) (ad := ad) (r := r) (cn := (nI (n + 1))) (R := (upR R n h8)) (T := T8) (U := U) (tx := tx) (sz := sz) (Y := Y) hj6; rw [upR_n _ _ (by omega)] at h9; exact h9) rfl (by omega) (by omega)) qml_X2_69 qst_X1_multiply qin_X1 qco_X1_multiply nd_X1_multiply ⟨Nat.le_of_ble_eq_true rfl, Nat.le_of_ble_eq_true rfl⟩ (Nat.le_of_ble_eq_true rfl) ⟨Nat.le_of_ble_eq_true rfl, Nat.le_of_ble_eq_true rfl⟩ rfl dX2_chain_63 (fun w9 h9 => ?_)
        obtain rfl := h9
        refine p_w (w9 := (KW k ad r (nI (n + 1)) (upR R n h8) (n9 (cv h8 (R j))) U tx sz Y)) (rfl) ?_
        refine p_aload_n C rfl 0 rfl dX2_chain_66 ?_
        refine p_get (v := .ref (ad 2)) (T := TX2) C 0 rfl rfl 2 (by decide) inX2 qfl_X2_18 (fun _ h9 => h9) rfl dX2_chain_67 ?_
        refine p_aload C 3 rfl dX2_chain_70 ?_
        refine c_Sv (As := [.ref (ad 2), .ref (r n)]) (rest := []) C (m_X1_copy l D k (u := 2) (v := (n + 6)) rfl (by have h9 := KW_row (k := k) (ad := ad) (r := r) (cn := (nI (n + 1))) (R := (upR R n h8)) (T := (n9 (cv h8 (R j)))) (U := U) (tx := tx) (sz := sz) (Y := Y) h16; rw [upR_s _ _ _] at h9; exact h9) (by omega)) qml_X2_57 qst_X1_copy qin_X1 qco_X1_copy nd_X1_copy ⟨Nat.le_of_ble_eq_true rfl, Nat.le_of_ble_eq_true rfl⟩ (Nat.le_of_ble_eq_true rfl) ⟨Nat.le_of_ble_eq_true rfl, Nat.le_of_ble_eq_true rfl⟩ rfl dX2_chain_72 (fun w9 h9 => ?_)
        obtain rfl := h9
        refine p_w (w9 := (KW k ad r (nI (n + 1)) (upR R n (n9 (n9 (cv h8 (R j))))) (n9 (cv h8 (R j))) U tx sz Y)) ((KW_srow h16).trans (by rw [upR_u])) ?_
        refine p_aload C 3 rfl dX2_chain_75 ?_
        refine p_iconst (v := 0) C (by decide) dX2_chain_77 ?_
        refine p_dup2_11 C rfl rfl dX2_chain_78 ?_
        refine p_iald (v := ((n9 (n9 (cv h8 (R j)))) 0)) C (n + 6) (by have h9 := KW_row (k := k) (ad := ad) (r := r) (cn := (nI (n + 1))) (R := (upR R n (n9 (n9 (cv h8 (R j)))))) (T := (n9 (cv h8 (R j)))) (U := U) (tx := tx) (sz := sz) (Y := Y) h16; rw [upR_s _ _ _] at h9; exact h9) (vp_in_nI (n := 0) (N := 9) (by omega) (by omega)) (by rw [show (0 : Int32).toNatClampNeg = 0 from rfl]) dX2_chain_79 ?_
        refine p_aload_n C rfl 1 rfl dX2_chain_80 ?_
        refine p_iload C 4 rfl dX2_chain_81 ?_
        refine p_iald (v := ((R i) n50)) C (i + 6) (by have h9 := KW_row (k := k) (ad := ad) (r := r) (cn := (nI (n + 1))) (R := (upR R n (n9 (n9 (cv h8 (R j)))))) (T := (n9 (cv h8 (R j)))) (U := U) (tx := tx) (sz := sz) (Y := Y) hi6; rw [upR_n _ _ (by omega)] at h9; exact h9) (vp_in_nI (n := n50) (N := 9) (by omega) (by omega)) (by rw [show ((nI n50)).toNatClampNeg = n50 from nI_clamp (by omega)]) dX2_chain_83 ?_
        refine p_iadd C dX2_chain_84 ?_
        refine p_iast (w9 := (KW k ad r (nI (n + 1)) (upR R n (upd (n9 (n9 (cv h8 (R j)))) 0 (((n9 (n9 (cv h8 (R j)))) 0) + ((R i) n50)))) (n9 (cv h8 (R j))) U tx sz Y)) C (n + 6) (by have h9 := KW_row (k := k) (ad := ad) (r := r) (cn := (nI (n + 1))) (R := (upR R n (n9 (n9 (cv h8 (R j)))))) (T := (n9 (cv h8 (R j)))) (U := U) (tx := tx) (sz := sz) (Y := Y) h16; rw [upR_s _ _ _] at h9; exact h9) (vp_in_nI (n := 0) (N := 9) (by omega) (by omega)) (by rw [show (0 : Int32).toNatClampNeg = 0 from rfl]; exact (KW_srow h16).trans (by rw [upR_u])) dX2_chain_85 ?_
        refine p_iinc (lv9 := [(6, .int (nI n50 - 1)), (0, .ref (ad 0)), (3, .ref (r i)), (4, .ref (r j)), (5, .ref (r n))]) (v := (nI n50 - 1)) C (j := 4) rfl (i_dn _) (by decide) rfl dX2_chain_86 ?_
        refine p_goto C 50 (by decide) dX2_chain_89 ?_
        refine p_lv (lv9 := [(0, .ref (ad 0)), (3, .ref (r i)), (4, .ref (r j)), (5, .ref (r n)), (6, .int (nI n50 - 1))]) [1, 2, 3, 4, 0] rfl ?_
        exact ih50 _ _ hH (by omega)
    exact lp50 (dg (R i)) (fun _ => 0) T rfl (dg_le _)
  · rw [hQ]
    exact x_throw C hfl hE (E := "java/lang/IllegalArgumentException") (names := ["java/lang/RuntimeException", "java/lang/Exception"]) (by decide +kernel) (by decide +kernel) qcl_X2_44 qin_IllegalArgumentException (is := 73) (ic := 48) (text := "the degrees, multiplied, are more than 8") (by decide +kernel) at_X2_48 dX2_chain_28 dX2_chain_31 dX2_chain_32 dX2_chain_34 dX2_chain_37 (by decide) (by decide) (by decide) (by decide) (by decide) (by decide) (⟨by rw [show eChain n R (nI i) (nI j) = 2 from by unfold eChain; rw [vi, vj, ix_nI (show i < 2 ^ 31 by omega), ix_nI (show j < 2 ^ 31 by omega)]; exact if_pos (Int32.not_le.mp c_25)]; exact two_n0, by rw [show eChain n R (nI i) (nI j) = 2 from by unfold eChain; rw [vi, vj, ix_nI (show i < 2 ^ 31 by omega), ix_nI (show j < 2 ^ 31 by omega)]; exact if_pos (Int32.not_le.mp c_25)]; exact exn_2.symm, _, _, _, _, rfl⟩)
