theorem hgN_sub (f g : Nat → Int32) (x : Int32) : ∀ m a b, hgN (fun j => f j - g j) x m (a - b) = hgN f x m a - hgN g x m b
  | 0, _, _ => rfl
  | m + 1, a, b => by
    show hgN (fun j => f j - g j) x m ((a - b) * x + (f m - g m)) = hgN f x m (a * x + f m) - hgN g x m (b * x + g m)
    rw [← hgN_sub f g x m]
    congr 1
    rw [Int32.sub_mul]
    simp only [Int32.sub_eq_add_neg, Int32.neg_add, Int32.add_assoc]
    congr 1
    rw [← Int32.add_assoc, ← Int32.add_assoc, Int32.add_comm (-(b * x)) (f m)]
theorem hg_sub (f g : Nat → Int32) (x : Int32) : hg (fun j => f j - g j) x = hg f x - hg g x := by
  have := hgN_sub f g x 9 0 0
  rw [show (0 : Int32) - 0 = 0 from by decide] at this
  exact this
theorem sub0 {x y : Int32} : x - y = 0 ↔ x = y := by
  constructor
  · intro h
    have e : x = x - y + y := (Int32.sub_add_cancel x y).symm
    rw [e, h, Int32.zero_add]
  · intro h; subst h; exact Int32.sub_self _
theorem hg_ne {f g : Nat → Int32} {x : Int32} (h : ¬ hg f x = hg g x) : ¬ hg (fun j => f j - g j) x = 0 := fun q => h (sub0.mp ((hg_sub f g x).symm.trans q))
theorem hg_eq0 {f g : Nat → Int32} {x : Int32} (h : hg f x = hg g x) : hg (fun j => f j - g j) x = 0 := (hg_sub f g x).trans (sub0.mpr h)
set_option maxHeartbeats 4000000 in
set_option maxRecDepth 100000 in
/-- X2_agreeAt -/
theorem m_X2_agreeAt (l : Launch) (D : va_G) (k : Nat → ClassId) (hfl : l.stackTraces = false) {ad r : Nat → Nat} {n : Nat} {R : Nat → Nat → Int32} {T U tx : Nat → Int32} {sz : Int32} {Y : va_W} (hn : n ≤ 16) {ra rb : Int32} : XtI l D k yX2_agreeAt (wU yX2_agreeAt cX2_agreeAt 6 (some .int)) (rmL 2 2 12) [.ref (ad 0), .int ra, .int rb] (KW k ad r (nI n) R T U tx sz Y) (fun v9 w' => (e2 n ra rb) = 0 ∧ v9 = fi (fun q => (R (ix ra)) q - (R (ix rb)) q) ∧ ∃ (T' U' tx' : Nat → Int32) (sz' : Int32), w' = (KW k ad r (nI n) R T' U' tx' sz' Y)) (fun E w' => ¬ (e2 n ra rb) = 0 ∧ E = exn (e2 n ra rb) ∧ ∃ (T' U' tx' : Nat → Int32) (sz' : Int32), w' = (KW k ad r (nI n) R T' U' tx' sz' Y)) := by
  refine openXI (own := RX2) rfl (by decide) (Nat.le_of_ble_eq_true rfl) rfl ?_
  intro p e s m args below meth c A C hrt9 hnm hE
  obtain ⟨Q, hQ⟩ : ∃ Q, Q = (vx_MQ below (va_Qi (fun v9 w' => (e2 n ra rb) = 0 ∧ v9 = fi (fun q => (R (ix ra)) q - (R (ix rb)) q) ∧ ∃ (T' U' tx' : Nat → Int32) (sz' : Int32), w' = (KW k ad r (nI n) R T' U' tx' sz' Y)) (cBA D A) A) (xXA D A (fun E w' => ¬ (e2 n ra rb) = 0 ∧ E = exn (e2 n ra rb) ∧ ∃ (T' U' tx' : Nat → Int32) (sz' : Int32), w' = (KW k ad r (nI n) R T' U' tx' sz' Y))) args s 2 12 A) := ⟨_, rfl⟩
  show WP p l e (rmL 2 2 12) s m args below meth c D A 6 (KW k ad r (nI n) R T U tx sz Y) [(0, .ref (ad 0)), (1, .int ra), (2, .int rb)] 0 0 (vx_MQ below (va_Qi (fun v9 w' => (e2 n ra rb) = 0 ∧ v9 = fi (fun q => (R (ix ra)) q - (R (ix rb)) q) ∧ ∃ (T' U' tx' : Nat → Int32) (sz' : Int32), w' = (KW k ad r (nI n) R T' U' tx' sz' Y)) (cBA D A) A) (xXA D A (fun E w' => ¬ (e2 n ra rb) = 0 ∧ E = exn (e2 n ra rb) ∧ ∃ (T' U' tx' : Nat → Int32) (sz' : Int32), w' = (KW k ad r (nI n) R T' U' tx' sz' Y))) args s 2 12 A) 0 []
  rw [← hQ]
  refine p_aload_n C rfl 0 rfl dX2_agreeAt_0 ?_
  refine p_iload_n C rfl 1 rfl dX2_agreeAt_1 ?_
  refine cx_Vr (As := [.int ra]) (rest := []) C (m_X2_rowOf l D k hfl hn (rc := ra)) 0 rfl rfl rfl qml_X2_36 qim_X2_rowOf qse_X2_X2_rowOf qin_X2 qco_X2_rowOf nd_X2_rowOf ⟨Nat.le_of_ble_eq_true rfl, Nat.le_of_ble_eq_true rfl⟩ (Nat.le_of_ble_eq_true rfl) ⟨Nat.le_of_ble_eq_true rfl, Nat.le_of_ble_eq_true rfl⟩ rfl dX2_agreeAt_2 (fun E9 w9 h9 => by obtain ⟨hx9, rfl, rfl⟩ := h9; rw [hQ]; exact x_out C hE ⟨by rw [show e2 n ra rb = 1 from by unfold e2; rw [hx9]; rfl]; exact one_n0, by rw [show e2 n ra rb = 1 from by unfold e2; rw [hx9]; rfl]; exact exn_1.symm, _, _, _, _, rfl⟩ (by (try simp only [rmL_c, rmL_s]); omega) (by (try simp only [rmL_c, rmL_s]); omega)) (fun r9 w9 h9 => ?_)
  obtain ⟨i, hi, rfl, rfl, rfl⟩ := h9
  have vi := isR_of hn hi
  have hi6 : i < 16 := by omega
  refine p_astore_n (lv9 := [(3, .ref (r i)), (0, .ref (ad 0)), (1, .int (nI i)), (2, .int rb)]) C rfl (by decide) rfl dX2_agreeAt_5 ?_
  refine p_aload_n C rfl 1 rfl dX2_agreeAt_6 ?_
  refine p_iload_n C rfl 3 rfl dX2_agreeAt_7 ?_
  refine cx_Vr (As := [.int rb]) (rest := []) C (m_X2_rowOf l D k hfl hn (rc := rb)) 0 rfl rfl rfl qml_X2_36 qim_X2_rowOf qse_X2_X2_rowOf qin_X2 qco_X2_rowOf nd_X2_rowOf ⟨Nat.le_of_ble_eq_true rfl, Nat.le_of_ble_eq_true rfl⟩ (Nat.le_of_ble_eq_true rfl) ⟨Nat.le_of_ble_eq_true rfl, Nat.le_of_ble_eq_true rfl⟩ rfl dX2_agreeAt_8 (fun E9 w9 h9 => by obtain ⟨hx9, rfl, rfl⟩ := h9; rw [hQ]; exact x_out C hE ⟨by rw [show e2 n (nI i) rb = 1 from by unfold e2; rw [vi, hx9]; rfl]; exact one_n0, by rw [show e2 n (nI i) rb = 1 from by unfold e2; rw [vi, hx9]; rfl]; exact exn_1.symm, _, _, _, _, rfl⟩ (by (try simp only [rmL_c, rmL_s]); omega) (by (try simp only [rmL_c, rmL_s]); omega)) (fun r9 w9 h9 => ?_)
  obtain ⟨j, hj, rfl, rfl, rfl⟩ := h9
  have vj := isR_of hn hj
  have hj6 : j < 16 := by omega
  refine p_astore (lv9 := [(4, .ref (r j)), (3, .ref (r i)), (0, .ref (ad 0)), (1, .int (nI i)), (2, .int (nI j))]) C (by decide) rfl dX2_agreeAt_11 ?_
  refine p_bipush (v := (gI 0)) C (by decide) dX2_agreeAt_13 ?_
  refine p_istore (lv9 := [(5, .int (gI 0)), (4, .ref (r j)), (3, .ref (r i)), (0, .ref (ad 0)), (1, .int (nI i)), (2, .int (nI j))]) C (by decide) rfl dX2_agreeAt_15 ?_
  refine p_lv (lv9 := [(0, .ref (ad 0)), (3, .ref (r i)), (4, .ref (r j)), (5, .int (gI 0))]) [3, 2, 1, 0] rfl ?_
  have lp17 : ∀ (n17 : Nat) (b9 : Nat), (hb : b9 + n17 = 41) → (hI : fiN (fun q => R i q - R j q) n17 = fi (fun q => R i q - R j q)) → WP p l e (rmL 2 2 12) s m args below meth c D A 6 (KW k ad r (nI n) R T U tx sz Y) [(0, .ref (ad 0)), (3, .ref (r i)), (4, .ref (r j)), (5, .int (gI b9))] 2 12 Q 17 [] := by
    intro n17
    induction n17 with
    | zero =>
      intro b9 hb hI
      obtain rfl : b9 = 41 := by omega
      refine p_iload C 3 rfl dX2_agreeAt_17 ?_
      refine p_bipush (v := 20) C (by decide) dX2_agreeAt_19 ?_
      refine p_icmp_gt C 49 (by decide) dX2_agreeAt_21 (fun c_21 => ?_) (fun c_21 => absurd gI_41 c_21)
      refine p_bipush (v := 99) C (by decide) dX2_agreeAt_49 ?_
      rw [hQ]
      exact rx_i C hrt9 (⟨by unfold e2; rw [vi, vj]; rfl, by rw [ix_nI (show i < 2 ^ 31 by omega), ix_nI (show j < 2 ^ 31 by omega), ← hI]; try rfl, _, _, _, _, rfl⟩) (by (try simp only [rmL_c, rmL_s]); omega) (by (try simp only [rmL_c, rmL_s]); omega) dX2_agreeAt_51
    | succ n17 ih17 =>
      intro b9 hb hI
      obtain rfl : b9 = 40 - n17 := by omega
      refine p_iload C 3 rfl dX2_agreeAt_17 ?_
      refine p_bipush (v := 20) C (by decide) dX2_agreeAt_19 ?_
      refine p_icmp_gt C 49 (by decide) dX2_agreeAt_21 (fun c_21 => absurd c_21 (gI_le (40 - n17) (by omega))) (fun c_21 => ?_)
      refine p_aload_n C rfl 1 rfl dX2_agreeAt_24 ?_
      refine p_iload C 3 rfl dX2_agreeAt_25 ?_
      refine c_Si (As := [.ref (r i), .int (gI (40 - n17))]) (rest := []) C (m_X1_hungerFor l D k (u := (i + 6)) (x := (gI (40 - n17))) (KW_row hi6)) qml_X2_98 qst_X1_hungerFor qin_X1 qco_X1_hungerFor nd_X1_hungerFor ⟨Nat.le_of_ble_eq_true rfl, Nat.le_of_ble_eq_true rfl⟩ (Nat.le_of_ble_eq_true rfl) ⟨Nat.le_of_ble_eq_true rfl, Nat.le_of_ble_eq_true rfl⟩ rfl dX2_agreeAt_27 (fun r9 w9 h9 => ?_)
      obtain ⟨rfl, rfl⟩ := h9
      refine p_aload C 2 rfl dX2_agreeAt_30 ?_
      refine p_iload C 3 rfl dX2_agreeAt_32 ?_
      refine c_Si (As := [.ref (r j), .int (gI (40 - n17))]) (rest := [.int (hg (R i) (gI (40 - n17)))]) C (m_X1_hungerFor l D k (u := (j + 6)) (x := (gI (40 - n17))) (KW_row hj6)) qml_X2_98 qst_X1_hungerFor qin_X1 qco_X1_hungerFor nd_X1_hungerFor ⟨Nat.le_of_ble_eq_true rfl, Nat.le_of_ble_eq_true rfl⟩ (Nat.le_of_ble_eq_true rfl) ⟨Nat.le_of_ble_eq_true rfl, Nat.le_of_ble_eq_true rfl⟩ rfl dX2_agreeAt_34 (fun r9 w9 h9 => ?_)
      obtain ⟨rfl, rfl⟩ := h9
      refine p_icmp_ne C 43 (by decide) dX2_agreeAt_37 (fun c_37 => ?_) (fun c_37 => ?_)
      · refine p_iinc (lv9 := [(5, .int (gI (40 - n17 + 1))), (0, .ref (ad 0)), (3, .ref (r i)), (4, .ref (r j))]) (v := (gI (40 - n17 + 1))) C (j := 3) rfl (gI_s _) (by decide) rfl dX2_agreeAt_43 ?_
        refine p_goto C 17 (by decide) dX2_agreeAt_46 ?_
        refine p_lv (lv9 := [(0, .ref (ad 0)), (3, .ref (r i)), (4, .ref (r j)), (5, .int (gI (40 - n17 + 1)))]) [1, 2, 3, 0] rfl ?_
        exact ih17 (40 - n17 + 1) (by omega) ((if_neg (hg_ne c_37)).symm.trans hI)
      · refine p_iload C 3 rfl dX2_agreeAt_40 ?_
        rw [hQ]
        exact rx_i C hrt9 (⟨by unfold e2; rw [vi, vj]; rfl, by rw [ix_nI (show i < 2 ^ 31 by omega), ix_nI (show j < 2 ^ 31 by omega), ← hI]; exact (if_pos (hg_eq0 c_37)).symm, _, _, _, _, rfl⟩) (by (try simp only [rmL_c, rmL_s]); omega) (by (try simp only [rmL_c, rmL_s]); omega) dX2_agreeAt_42
  exact lp17 41 0 (by decide) rfl
theorem isF_1 {v : Int32} {N : Nat} (hN : N < 2 ^ 31) (h : ¬ v < 1) (h2 : ¬ nI N < v) : ∃ p9, 1 ≤ p9 ∧ p9 ≤ N ∧ v = nI p9 := by
  have h0 : ¬ v < 0 := fun q => h (Int32.lt_trans q (by decide))
  obtain ⟨j, hj, rfl⟩ := nI_of h0
  refine ⟨j, ?_, ?_, rfl⟩
  · exact Nat.le_of_not_lt fun q => h (nI_lt (b := 1) q (by decide))
  · exact Nat.le_of_not_lt fun q => h2 (nI_lt q hj)
theorem isF_150 : ∀ p, p < 51 → 1 ≤ p → isF (nI p) 1 50 = true := by decide +kernel
set_option maxHeartbeats 4000000 in
set_option maxRecDepth 100000 in
/-- X2_hungerUpTo -/
theorem m_X2_hungerUpTo (l : Launch) (D : va_G) (k : Nat → ClassId) (hfl : l.stackTraces = false) {ad r : Nat → Nat} {n : Nat} {R : Nat → Nat → Int32} {T U tx : Nat → Int32} {sz : Int32} {Y : va_W} (hn : n ≤ 16) {rc x : Int32} : XtL l D k yX2_hungerUpTo (wU yX2_hungerUpTo cX2_hungerUpTo 7 (some .long)) (rmL 2 2 12) [.ref (ad 0), .int rc, .int x] (KW k ad r (nI n) R T U tx sz Y) (fun v9 w' => (eUp n rc x) = 0 ∧ v9 = huN (R (ix rc)) (ix x) ∧ ∃ (T' U' tx' : Nat → Int32) (sz' : Int32), w' = (KW k ad r (nI n) R T' U' tx' sz' Y)) (fun E w' => ¬ (eUp n rc x) = 0 ∧ E = exn (eUp n rc x) ∧ ∃ (T' U' tx' : Nat → Int32) (sz' : Int32), w' = (KW k ad r (nI n) R T' U' tx' sz' Y)) := by
  refine openXL (own := RX2) rfl (by decide) (Nat.le_of_ble_eq_true rfl) rfl ?_
  intro p e s m args below meth c A C hrt9 hnm hE
  obtain ⟨Q, hQ⟩ : ∃ Q, Q = (vx_MQ below (va_Ql (fun v9 w' => (eUp n rc x) = 0 ∧ v9 = huN (R (ix rc)) (ix x) ∧ ∃ (T' U' tx' : Nat → Int32) (sz' : Int32), w' = (KW k ad r (nI n) R T' U' tx' sz' Y)) (cBA D A) A) (xXA D A (fun E w' => ¬ (eUp n rc x) = 0 ∧ E = exn (eUp n rc x) ∧ ∃ (T' U' tx' : Nat → Int32) (sz' : Int32), w' = (KW k ad r (nI n) R T' U' tx' sz' Y))) args s 2 12 A) := ⟨_, rfl⟩
  show WP p l e (rmL 2 2 12) s m args below meth c D A 7 (KW k ad r (nI n) R T U tx sz Y) [(0, .ref (ad 0)), (1, .int rc), (2, .int x)] 0 0 (vx_MQ below (va_Ql (fun v9 w' => (eUp n rc x) = 0 ∧ v9 = huN (R (ix rc)) (ix x) ∧ ∃ (T' U' tx' : Nat → Int32) (sz' : Int32), w' = (KW k ad r (nI n) R T' U' tx' sz' Y)) (cBA D A) A) (xXA D A (fun E w' => ¬ (eUp n rc x) = 0 ∧ E = exn (eUp n rc x) ∧ ∃ (T' U' tx' : Nat → Int32) (sz' : Int32), w' = (KW k ad r (nI n) R T' U' tx' sz' Y))) args s 2 12 A) 0 []
  rw [← hQ]
  refine p_aload_n C rfl 0 rfl dX2_hungerUpTo_0 ?_
  refine p_iload_n C rfl 1 rfl dX2_hungerUpTo_1 ?_
  refine cx_Vr (As := [.int rc]) (rest := []) C (m_X2_rowOf l D k hfl hn (rc := rc)) 0 rfl rfl rfl qml_X2_36 qim_X2_rowOf qse_X2_X2_rowOf qin_X2 qco_X2_rowOf nd_X2_rowOf ⟨Nat.le_of_ble_eq_true rfl, Nat.le_of_ble_eq_true rfl⟩ (Nat.le_of_ble_eq_true rfl) ⟨Nat.le_of_ble_eq_true rfl, Nat.le_of_ble_eq_true rfl⟩ rfl dX2_hungerUpTo_2 (fun E9 w9 h9 => by obtain ⟨hx9, rfl, rfl⟩ := h9; rw [hQ]; exact x_out C hE ⟨by rw [show eUp n rc x = 1 from by unfold eUp; rw [hx9]; rfl]; exact one_n0, by rw [show eUp n rc x = 1 from by unfold eUp; rw [hx9]; rfl]; exact exn_1.symm, _, _, _, _, rfl⟩ (by (try simp only [rmL_c, rmL_s]); omega) (by (try simp only [rmL_c, rmL_s]); omega)) (fun r9 w9 h9 => ?_)
  obtain ⟨i, hi, rfl, rfl, rfl⟩ := h9
  have vi := isR_of hn hi
  have hi6 : i < 16 := by omega
  refine p_astore_n (lv9 := [(3, .ref (r i)), (0, .ref (ad 0)), (1, .int (nI i)), (2, .int x)]) C rfl (by decide) rfl dX2_hungerUpTo_5 ?_
  refine p_iload_n C rfl 3 rfl dX2_hungerUpTo_6 ?_
  refine p_iconst (v := 1) C (by decide) dX2_hungerUpTo_7 ?_
  refine p_icmp_lt C 17 (by decide) dX2_hungerUpTo_8 (fun c_8 => ?_) (fun c_8 => ?_)
  · rw [hQ]
    exact x_throw C hfl hE (E := "java/lang/IllegalArgumentException") (names := ["java/lang/RuntimeException", "java/lang/Exception"]) (by decide +kernel) (by decide +kernel) qcl_X2_44 qin_IllegalArgumentException (is := 102) (ic := 48) (text := "the guests are not 1 to 50") (by decide +kernel) at_X2_48 dX2_hungerUpTo_17 dX2_hungerUpTo_20 dX2_hungerUpTo_21 dX2_hungerUpTo_23 dX2_hungerUpTo_26 (by decide) (by decide) (by decide) (by decide) (by decide) (by decide) (⟨by rw [show eUp n (nI i) x = 2 from by unfold eUp; rw [vi, isF_no1 c_8]; rfl]; exact two_n0, by rw [show eUp n (nI i) x = 2 from by unfold eUp; rw [vi, isF_no1 c_8]; rfl]; exact exn_2.symm, _, _, _, _, rfl⟩)
  · refine p_iload_n C rfl 3 rfl dX2_hungerUpTo_11 ?_
    refine p_bipush (v := 50) C (by decide) dX2_hungerUpTo_12 ?_
    refine p_icmp_le C 27 (by decide) dX2_hungerUpTo_14 (fun c_14 => ?_) (fun c_14 => ?_)
    · obtain ⟨p9, hp1, hp2, rfl⟩ := isF_1 (N := 50) (by decide) c_8 (Int32.not_lt.mpr c_14)
      have vp := isF_150 p9 (by omega) hp1
      refine p_lconst (v := 0) C (by decide) dX2_hungerUpTo_27 ?_
      refine p_lstore (lv9 := [(4, .long 0), (3, .ref (r i)), (0, .ref (ad 0)), (1, .int (nI i)), (2, .int (nI p9))]) C (by decide) rfl dX2_hungerUpTo_28 ?_
      refine p_iconst (v := (nI (0 + 1))) C (by decide) dX2_hungerUpTo_30 ?_
      refine p_istore (lv9 := [(6, .int (nI (0 + 1))), (4, .long 0), (3, .ref (r i)), (0, .ref (ad 0)), (1, .int (nI i)), (2, .int (nI p9))]) C (by decide) rfl dX2_hungerUpTo_31 ?_
      refine p_lv (lv9 := [(0, .ref (ad 0)), (2, .int (nI p9)), (3, .ref (r i)), (4, .long 0), (6, .int (nI (0 + 1)))]) [3, 5, 2, 1, 0] rfl ?_
      have lp33 : ∀ (n33 : Nat) (b9 : Nat), (hb : b9 + n33 = p9) → WP p l e (rmL 2 2 12) s m args below meth c D A 7 (KW k ad r (nI n) R T U tx sz Y) [(0, .ref (ad 0)), (2, .int (nI p9)), (3, .ref (r i)), (4, .long (huN (R i) b9)), (6, .int (nI (b9 + 1)))] 1 6 Q 33 [] := by
        intro n33
        induction n33 with
        | zero =>
          intro b9 hb
          obtain rfl : b9 = p9 := by omega
          refine p_iload C 4 rfl dX2_hungerUpTo_33 ?_
          refine p_iload_n C rfl 1 rfl dX2_hungerUpTo_35 ?_
          refine p_icmp_gt C 57 (by decide) dX2_hungerUpTo_36 (fun c_36 => ?_) (fun c_36 => absurd (nI_lt (Nat.lt_succ_self _) (by omega)) c_36)
          refine p_lload C 3 rfl dX2_hungerUpTo_57 ?_
          rw [hQ]
          exact rx_l C hrt9 (⟨by unfold eUp; rw [vi, vp]; rfl, by rw [ix_nI (show i < 2 ^ 31 by omega), ix_nI (by omega)], _, _, _, _, rfl⟩) (by (try simp only [rmL_c, rmL_s]); omega) (by (try simp only [rmL_c, rmL_s]); omega) dX2_hungerUpTo_59
        | succ n33 ih33 =>
          intro b9 hb
          refine p_iload C 4 rfl dX2_hungerUpTo_33 ?_
          refine p_iload_n C rfl 1 rfl dX2_hungerUpTo_35 ?_
          refine p_icmp_gt C 57 (by decide) dX2_hungerUpTo_36 (fun c_36 => absurd c_36 (nI_nlt (by omega) (by omega))) (fun c_36 => ?_)
          refine p_lload C 3 rfl dX2_hungerUpTo_39 ?_
          refine p_aload_n C rfl 2 rfl dX2_hungerUpTo_41 ?_
          refine p_iload C 4 rfl dX2_hungerUpTo_42 ?_
          refine c_Si (As := [.ref (r i), .int (nI (b9 + 1))]) (rest := [.long (huN (R i) b9)]) C (m_X1_hungerFor l D k (u := (i + 6)) (x := (nI (b9 + 1))) (KW_row hi6)) qml_X2_98 qst_X1_hungerFor qin_X1 qco_X1_hungerFor nd_X1_hungerFor ⟨Nat.le_of_ble_eq_true rfl, Nat.le_of_ble_eq_true rfl⟩ (Nat.le_of_ble_eq_true rfl) ⟨Nat.le_of_ble_eq_true rfl, Nat.le_of_ble_eq_true rfl⟩ rfl dX2_hungerUpTo_44 (fun r9 w9 h9 => ?_)
          obtain ⟨rfl, rfl⟩ := h9
          refine p_i2l C dX2_hungerUpTo_47 ?_
          refine p_ladd C dX2_hungerUpTo_48 ?_
          refine p_st (st9 := [.long (huN (R i) (b9 + 1))]) (congrArg (fun z9 => Value.long z9 :: []) rfl) ?_
          refine p_lstore (lv9 := [(4, .long (huN (R i) (b9 + 1))), (0, .ref (ad 0)), (2, .int (nI p9)), (3, .ref (r i)), (6, .int (nI (b9 + 1)))]) C (by decide) rfl dX2_hungerUpTo_49 ?_
          refine p_iinc (lv9 := [(6, .int (nI (b9 + 1 + 1))), (4, .long (huN (R i) (b9 + 1))), (0, .ref (ad 0)), (2, .int (nI p9)), (3, .ref (r i))]) (v := (nI (b9 + 1 + 1))) C (j := 4) rfl (i_up _) (by decide) rfl dX2_hungerUpTo_51 ?_
          refine p_goto C 33 (by decide) dX2_hungerUpTo_54 ?_
          refine p_lv (lv9 := [(0, .ref (ad 0)), (2, .int (nI p9)), (3, .ref (r i)), (4, .long (huN (R i) (b9 + 1))), (6, .int (nI (b9 + 1 + 1)))]) [2, 3, 4, 1, 0] rfl ?_
          exact ih33 (b9 + 1) (by omega)
      exact lp33 p9 0 (by omega)
    · rw [hQ]
      exact x_throw C hfl hE (E := "java/lang/IllegalArgumentException") (names := ["java/lang/RuntimeException", "java/lang/Exception"]) (by decide +kernel) (by decide +kernel) qcl_X2_44 qin_IllegalArgumentException (is := 102) (ic := 48) (text := "the guests are not 1 to 50") (by decide +kernel) at_X2_48 dX2_hungerUpTo_17 dX2_hungerUpTo_20 dX2_hungerUpTo_21 dX2_hungerUpTo_23 dX2_hungerUpTo_26 (by decide) (by decide) (by decide) (by decide) (by decide) (by decide) (⟨by rw [show eUp n (nI i) x = 2 from by unfold eUp; rw [vi, isF_no2 (Int32.not_le.mp c_14)]; rfl]; exact two_n0, by rw [show eUp n (nI i) x = 2 from by unfold eUp; rw [vi, isF_no2 (Int32.not_le.mp c_14)]; rfl]; exact exn_2.symm, _, _, _, _, rfl⟩)
set_option maxHeartbeats 4000000 in
set_option maxRecDepth 100000 in
/-- X2_textLength -/
theorem m_X2_textLength (l : Launch) (D : va_G) (k : Nat → ClassId) (hfl : l.stackTraces = false) {ad r : Nat → Nat} {n : Nat} {R : Nat → Nat → Int32} {T U tx : Nat → Int32} {sz : Int32} {Y : va_W} (hn : n ≤ 16) {rc : Int32} : XtI l D k yX2_textLength (wU yX2_textLength cX2_textLength 2 (some .int)) (rmL 5 1 6) [.ref (ad 0), .int rc] (KW k ad r (nI n) R T U tx sz Y) (fun v9 w' => (e1 n rc) = 0 ∧ v9 = nI (tx_ (R (ix rc))).length ∧ ∃ (T' U' tx' : Nat → Int32) (sz' : Int32), w' = (KW k ad r (nI n) R T' U' tx' sz' Y)) (fun E w' => ¬ (e1 n rc) = 0 ∧ E = exn (e1 n rc) ∧ ∃ (T' U' tx' : Nat → Int32) (sz' : Int32), w' = (KW k ad r (nI n) R T' U' tx' sz' Y)) := by
  refine openXI (own := RX2) rfl (by decide) (Nat.le_of_ble_eq_true rfl) rfl ?_
  intro p e s m args below meth c A C hrt9 hnm hE
  obtain ⟨Q, hQ⟩ : ∃ Q, Q = (vx_MQ below (va_Qi (fun v9 w' => (e1 n rc) = 0 ∧ v9 = nI (tx_ (R (ix rc))).length ∧ ∃ (T' U' tx' : Nat → Int32) (sz' : Int32), w' = (KW k ad r (nI n) R T' U' tx' sz' Y)) (cBA D A) A) (xXA D A (fun E w' => ¬ (e1 n rc) = 0 ∧ E = exn (e1 n rc) ∧ ∃ (T' U' tx' : Nat → Int32) (sz' : Int32), w' = (KW k ad r (nI n) R T' U' tx' sz' Y))) args s 1 6 A) := ⟨_, rfl⟩
  show WP p l e (rmL 5 1 6) s m args below meth c D A 2 (KW k ad r (nI n) R T U tx sz Y) [(0, .ref (ad 0)), (1, .int rc)] 0 0 (vx_MQ below (va_Qi (fun v9 w' => (e1 n rc) = 0 ∧ v9 = nI (tx_ (R (ix rc))).length ∧ ∃ (T' U' tx' : Nat → Int32) (sz' : Int32), w' = (KW k ad r (nI n) R T' U' tx' sz' Y)) (cBA D A) A) (xXA D A (fun E w' => ¬ (e1 n rc) = 0 ∧ E = exn (e1 n rc) ∧ ∃ (T' U' tx' : Nat → Int32) (sz' : Int32), w' = (KW k ad r (nI n) R T' U' tx' sz' Y))) args s 1 6 A) 0 []
  rw [← hQ]
  refine p_aload_n C rfl 0 rfl dX2_textLength_0 ?_
  refine p_get (v := .ref (ad 4)) (T := TX2) C 0 rfl rfl 4 (by decide) inX2 qfl_X2_28 (fun _ h9 => h9) rfl dX2_textLength_1 ?_
  refine p_aload_n C rfl 0 rfl dX2_textLength_4 ?_
  refine p_iload_n C rfl 1 rfl dX2_textLength_5 ?_
  refine cx_Vr (As := [.int rc]) (rest := [.ref (ad 4)]) C (m_X2_rowOf l D k hfl hn (rc := rc)) 0 rfl rfl rfl qml_X2_36 qim_X2_rowOf qse_X2_X2_rowOf qin_X2 qco_X2_rowOf nd_X2_rowOf ⟨Nat.le_of_ble_eq_true rfl, Nat.le_of_ble_eq_true rfl⟩ (Nat.le_of_ble_eq_true rfl) ⟨Nat.le_of_ble_eq_true rfl, Nat.le_of_ble_eq_true rfl⟩ rfl dX2_textLength_6 (fun E9 w9 h9 => by obtain ⟨hx9, rfl, rfl⟩ := h9; rw [hQ]; exact x_out C hE ⟨by rw [show (e1 n rc) = 1 from by unfold e1; rw [hx9]; rfl]; exact one_n0, by rw [show (e1 n rc) = 1 from by unfold e1; rw [hx9]; rfl]; exact exn_1.symm, _, _, _, _, rfl⟩ (by (try simp only [rmL_c, rmL_s]); omega) (by (try simp only [rmL_c, rmL_s]); omega)) (fun r9 w9 h9 => ?_)
  obtain ⟨i, hi, rfl, rfl, rfl⟩ := h9
  have vi := isR_of hn hi
  have hi6 : i < 16 := by omega
  refine c_Vv (As := [.ref (r i)]) (rest := []) C (m_X0_write l D k (i := i) hi6) 4 rfl rfl rfl qml_X2_104 qim_X0_write qse_X0_X0_write qin_X0 qco_X0_write nd_X0_write ⟨Nat.le_of_ble_eq_true rfl, Nat.le_of_ble_eq_true rfl⟩ (Nat.le_of_ble_eq_true rfl) ⟨Nat.le_of_ble_eq_true rfl, Nat.le_of_ble_eq_true rfl⟩ rfl dX2_textLength_9 (fun w9 h9 => ?_)
  obtain ⟨tx8, hh8, rfl⟩ := h9
  refine p_aload_n C rfl 0 rfl dX2_textLength_12 ?_
  refine p_get (v := .ref (ad 4)) (T := TX2) C 0 rfl rfl 4 (by decide) inX2 qfl_X2_28 (fun _ h9 => h9) rfl dX2_textLength_13 ?_
  refine c_Vi (As := []) (rest := []) C (m_X0_size l D k ) 4 rfl rfl rfl qml_X2_108 qim_X0_size qse_X0_X0_size qin_X0 qco_X0_size nd_X0_size ⟨Nat.le_of_ble_eq_true rfl, Nat.le_of_ble_eq_true rfl⟩ (Nat.le_of_ble_eq_true rfl) ⟨Nat.le_of_ble_eq_true rfl, Nat.le_of_ble_eq_true rfl⟩ rfl dX2_textLength_16 (fun r9 w9 h9 => ?_)
  obtain ⟨e9, rfl⟩ := h9
  refine p_int e9 ?_
  rw [hQ]
  exact rx_i C hrt9 (⟨by unfold e1; rw [vi]; rfl, by rw [ix_nI (by omega)]; try rfl, _, _, _, _, rfl⟩) (by (try simp only [rmL_c, rmL_s]); omega) (by (try simp only [rmL_c, rmL_s]); omega) dX2_textLength_19
set_option maxHeartbeats 4000000 in
set_option maxRecDepth 100000 in
/-- X2_textAt -/
theorem m_X2_textAt (l : Launch) (D : va_G) (k : Nat → ClassId) (hfl : l.stackTraces = false) {ad r : Nat → Nat} {n : Nat} {R : Nat → Nat → Int32} {T U tx : Nat → Int32} {sz : Int32} {Y : va_W} (hn : n ≤ 16) {rc a9 : Int32} : XtI l D k yX2_textAt (wU yX2_textAt cX2_textAt 3 (some .int)) (rmL 5 2 12) [.ref (ad 0), .int rc, .int a9] (KW k ad r (nI n) R T U tx sz Y) (fun v9 w' => (eTA n R rc a9) = 0 ∧ v9 = nI ((tx_ (R (ix rc))).getD (ix a9) 0) ∧ ∃ (T' U' tx' : Nat → Int32) (sz' : Int32), w' = (KW k ad r (nI n) R T' U' tx' sz' Y)) (fun E w' => ¬ (eTA n R rc a9) = 0 ∧ E = exn (eTA n R rc a9) ∧ ∃ (T' U' tx' : Nat → Int32) (sz' : Int32), w' = (KW k ad r (nI n) R T' U' tx' sz' Y)) := by
  refine openXI (own := RX2) rfl (by decide) (Nat.le_of_ble_eq_true rfl) rfl ?_
  intro p e s m args below meth c A C hrt9 hnm hE
  obtain ⟨Q, hQ⟩ : ∃ Q, Q = (vx_MQ below (va_Qi (fun v9 w' => (eTA n R rc a9) = 0 ∧ v9 = nI ((tx_ (R (ix rc))).getD (ix a9) 0) ∧ ∃ (T' U' tx' : Nat → Int32) (sz' : Int32), w' = (KW k ad r (nI n) R T' U' tx' sz' Y)) (cBA D A) A) (xXA D A (fun E w' => ¬ (eTA n R rc a9) = 0 ∧ E = exn (eTA n R rc a9) ∧ ∃ (T' U' tx' : Nat → Int32) (sz' : Int32), w' = (KW k ad r (nI n) R T' U' tx' sz' Y))) args s 2 12 A) := ⟨_, rfl⟩
  show WP p l e (rmL 5 2 12) s m args below meth c D A 3 (KW k ad r (nI n) R T U tx sz Y) [(0, .ref (ad 0)), (1, .int rc), (2, .int a9)] 0 0 (vx_MQ below (va_Qi (fun v9 w' => (eTA n R rc a9) = 0 ∧ v9 = nI ((tx_ (R (ix rc))).getD (ix a9) 0) ∧ ∃ (T' U' tx' : Nat → Int32) (sz' : Int32), w' = (KW k ad r (nI n) R T' U' tx' sz' Y)) (cBA D A) A) (xXA D A (fun E w' => ¬ (eTA n R rc a9) = 0 ∧ E = exn (eTA n R rc a9) ∧ ∃ (T' U' tx' : Nat → Int32) (sz' : Int32), w' = (KW k ad r (nI n) R T' U' tx' sz' Y))) args s 2 12 A) 0 []
  rw [← hQ]
  refine p_aload_n C rfl 0 rfl dX2_textAt_0 ?_
  refine p_get (v := .ref (ad 4)) (T := TX2) C 0 rfl rfl 4 (by decide) inX2 qfl_X2_28 (fun _ h9 => h9) rfl dX2_textAt_1 ?_
  refine p_aload_n C rfl 0 rfl dX2_textAt_4 ?_
  refine p_iload_n C rfl 1 rfl dX2_textAt_5 ?_
  refine cx_Vr (As := [.int rc]) (rest := [.ref (ad 4)]) C (m_X2_rowOf l D k hfl hn (rc := rc)) 0 rfl rfl rfl qml_X2_36 qim_X2_rowOf qse_X2_X2_rowOf qin_X2 qco_X2_rowOf nd_X2_rowOf ⟨Nat.le_of_ble_eq_true rfl, Nat.le_of_ble_eq_true rfl⟩ (Nat.le_of_ble_eq_true rfl) ⟨Nat.le_of_ble_eq_true rfl, Nat.le_of_ble_eq_true rfl⟩ rfl dX2_textAt_6 (fun E9 w9 h9 => by obtain ⟨hx9, rfl, rfl⟩ := h9; rw [hQ]; exact x_out C hE ⟨by rw [show eTA n R rc a9 = 1 from by unfold eTA; rw [hx9]; rfl]; exact one_n0, by rw [show eTA n R rc a9 = 1 from by unfold eTA; rw [hx9]; rfl]; exact exn_1.symm, _, _, _, _, rfl⟩ (by (try simp only [rmL_c, rmL_s]); omega) (by (try simp only [rmL_c, rmL_s]); omega)) (fun r9 w9 h9 => ?_)
  obtain ⟨i, hi, rfl, rfl, rfl⟩ := h9
  have vi := isR_of hn hi
  have hi6 : i < 16 := by omega
  refine c_Vv (As := [.ref (r i)]) (rest := []) C (m_X0_write l D k (i := i) hi6) 4 rfl rfl rfl qml_X2_104 qim_X0_write qse_X0_X0_write qin_X0 qco_X0_write nd_X0_write ⟨Nat.le_of_ble_eq_true rfl, Nat.le_of_ble_eq_true rfl⟩ (Nat.le_of_ble_eq_true rfl) ⟨Nat.le_of_ble_eq_true rfl, Nat.le_of_ble_eq_true rfl⟩ rfl dX2_textAt_9 (fun w9 h9 => ?_)
  obtain ⟨tx8, hh8, rfl⟩ := h9
  refine p_iload_n C rfl 2 rfl dX2_textAt_12 ?_
  refine p_if_lt C 27 (by decide) dX2_textAt_13 (fun c_13 => ?_) (fun c_13 => ?_)
  · rw [hQ]
    exact x_throw C hfl hE (E := "java/lang/IndexOutOfBoundsException") (names := ["java/lang/RuntimeException", "java/lang/Exception"]) (by decide +kernel) (by decide +kernel) qcl_X2_112 qin_IndexOutOfBoundsException (is := 114) (ic := 116) (text := "there is no such place") (by decide +kernel) at_X2_116 dX2_textAt_27 dX2_textAt_30 dX2_textAt_31 dX2_textAt_33 dX2_textAt_36 (by decide) (by decide) (by decide) (by decide) (by decide) (by decide) (⟨by rw [show eTA n R (nI i) a9 = 1 from by unfold eTA; rw [vi, ix_nI (show i < 2 ^ 31 by omega), ← tx_e, isF_lo c_13]; rfl]; exact one_n0, by rw [show eTA n R (nI i) a9 = 1 from by unfold eTA; rw [vi, ix_nI (show i < 2 ^ 31 by omega), ← tx_e, isF_lo c_13]; rfl]; exact exn_1.symm, _, _, _, _, rfl⟩)
  · refine p_iload_n C rfl 2 rfl dX2_textAt_16 ?_
    refine p_aload_n C rfl 0 rfl dX2_textAt_17 ?_
    refine p_get (v := .ref (ad 4)) (T := TX2) C 0 rfl rfl 4 (by decide) inX2 qfl_X2_28 (fun _ h9 => h9) rfl dX2_textAt_18 ?_
    refine c_Vi (As := []) (rest := [.int a9]) C (m_X0_size l D k ) 4 rfl rfl rfl qml_X2_108 qim_X0_size qse_X0_X0_size qin_X0 qco_X0_size nd_X0_size ⟨Nat.le_of_ble_eq_true rfl, Nat.le_of_ble_eq_true rfl⟩ (Nat.le_of_ble_eq_true rfl) ⟨Nat.le_of_ble_eq_true rfl, Nat.le_of_ble_eq_true rfl⟩ rfl dX2_textAt_21 (fun r9 w9 h9 => ?_)
    obtain ⟨e9, rfl⟩ := h9
    refine p_int e9 ?_
    refine p_icmp_lt C 37 (by decide) dX2_textAt_24 (fun c_24 => ?_) (fun c_24 => ?_)
    · obtain ⟨j9, hj9, rfl⟩ := nI_of c_13
      have htl : (tx_ (R i)).length ≤ 117 := by rw [tx_e]; exact tx_le _
      have hjl : j9 < (tx_ (R i)).length := (nI_ltI hj9 (by omega)).mp c_24
      have vj9 := isF_of (N := (tx_ (R i)).length) (by omega) hjl
      refine p_aload_n C rfl 0 rfl dX2_textAt_37 ?_
      refine p_get (v := .ref (ad 4)) (T := TX2) C 0 rfl rfl 4 (by decide) inX2 qfl_X2_28 (fun _ h9 => h9) rfl dX2_textAt_38 ?_
      refine p_iload_n C rfl 2 rfl dX2_textAt_41 ?_
      refine c_Vi (As := [.int (nI j9)]) (rest := []) C (m_X0_signAt l D k (q := (tx_ (R i)).length) htl) 4 rfl rfl rfl qml_X2_117 qim_X0_signAt qse_X0_X0_signAt qin_X0 qco_X0_signAt nd_X0_signAt ⟨Nat.le_of_ble_eq_true rfl, Nat.le_of_ble_eq_true rfl⟩ (Nat.le_of_ble_eq_true rfl) ⟨Nat.le_of_ble_eq_true rfl, Nat.le_of_ble_eq_true rfl⟩ rfl dX2_textAt_42 (fun r9 w9 h9 => ?_)
      obtain ⟨e9, rfl⟩ := h9
      have e8 := e9 vj9
      rw [hQ]
      exact rx_i C hrt9 (⟨by unfold eTA; rw [vi, ix_nI (show i < 2 ^ 31 by omega), ← tx_e, vj9]; rfl, by rw [e8, ix_nI (show i < 2 ^ 31 by omega), ix_nI (by omega)]; exact hh8 j9 hjl, _, _, _, _, rfl⟩) (by (try simp only [rmL_c, rmL_s]); omega) (by (try simp only [rmL_c, rmL_s]); omega) dX2_textAt_45
    · rw [hQ]
      exact x_throw C hfl hE (E := "java/lang/IndexOutOfBoundsException") (names := ["java/lang/RuntimeException", "java/lang/Exception"]) (by decide +kernel) (by decide +kernel) qcl_X2_112 qin_IndexOutOfBoundsException (is := 114) (ic := 116) (text := "there is no such place") (by decide +kernel) at_X2_116 dX2_textAt_27 dX2_textAt_30 dX2_textAt_31 dX2_textAt_33 dX2_textAt_36 (by decide) (by decide) (by decide) (by decide) (by decide) (by decide) (⟨by rw [show eTA n R (nI i) a9 = 1 from by unfold eTA; rw [vi, ix_nI (show i < 2 ^ 31 by omega), ← tx_e, isF_hi (by rw [tx_e]; exact tx_le _) (Int32.not_lt.mp c_24)]; rfl]; exact one_n0, by rw [show eTA n R (nI i) a9 = 1 from by unfold eTA; rw [vi, ix_nI (show i < 2 ^ 31 by omega), ← tx_e, isF_hi (by rw [tx_e]; exact tx_le _) (Int32.not_lt.mp c_24)]; rfl]; exact exn_1.symm, _, _, _, _, rfl⟩)
theorem pt_0 {f : Nat → Int32} : pt f = 0 ↔ dg f = 0 := by
  have := pt_pos f
  omega
theorem ipo_1 {f g : Nat → Int32} (h : pln g = true) (c : nI (pt (sp f g).2) = 0) : ipo f g = true := by
  have h2 : pt (sp f g).2 = 0 := (nI_e0 (by have := pt_le (sp f g).2; omega)).mp c
  unfold ipo; rw [h, decide_eq_true (pt_0.mp h2)]; rfl
theorem ipo_0 {f g : Nat → Int32} (h : pln g = true) (c : ¬ nI (pt (sp f g).2) = 0) : ipo f g = false := by
  unfold ipo; rw [h, decide_eq_false (fun q => c ((nI_e0 (by have := pt_le (sp f g).2; omega)).mpr (pt_0.mpr q)))]; rfl
theorem ipo_z {f g : Nat → Int32} (h : pln g = false) : ipo f g = false := by unfold ipo; rw [h]; rfl
set_option maxHeartbeats 4000000 in
set_option maxRecDepth 100000 in
/-- X2_isPartOf -/
theorem m_X2_isPartOf (l : Launch) (D : va_G) (k : Nat → ClassId) (hfl : l.stackTraces = false) {ad r : Nat → Nat} {n : Nat} {R : Nat → Nat → Int32} {T U tx : Nat → Int32} {sz : Int32} {Y : va_W} (hn : n ≤ 16) {ra rb : Int32} : XtI l D k yX2_isPartOf (wU yX2_isPartOf cX2_isPartOf 5 (some .boolean)) (rmL 2 2 12) [.ref (ad 0), .int ra, .int rb] (KW k ad r (nI n) R T U tx sz Y) (fun v9 w' => (e2 n ra rb) = 0 ∧ v9 = bI (ipo (R (ix ra)) (R (ix rb))) ∧ ∃ (T' U' tx' : Nat → Int32) (sz' : Int32), w' = (KW k ad r (nI n) R T' U' tx' sz' Y)) (fun E w' => ¬ (e2 n ra rb) = 0 ∧ E = exn (e2 n ra rb) ∧ ∃ (T' U' tx' : Nat → Int32) (sz' : Int32), w' = (KW k ad r (nI n) R T' U' tx' sz' Y)) := by
  refine openXI (own := RX2) rfl (by decide) (Nat.le_of_ble_eq_true rfl) rfl ?_
  intro p e s m args below meth c A C hrt9 hnm hE
  obtain ⟨Q, hQ⟩ : ∃ Q, Q = (vx_MQ below (va_Qi (fun v9 w' => (e2 n ra rb) = 0 ∧ v9 = bI (ipo (R (ix ra)) (R (ix rb))) ∧ ∃ (T' U' tx' : Nat → Int32) (sz' : Int32), w' = (KW k ad r (nI n) R T' U' tx' sz' Y)) (cBA D A) A) (xXA D A (fun E w' => ¬ (e2 n ra rb) = 0 ∧ E = exn (e2 n ra rb) ∧ ∃ (T' U' tx' : Nat → Int32) (sz' : Int32), w' = (KW k ad r (nI n) R T' U' tx' sz' Y))) args s 2 12 A) := ⟨_, rfl⟩
  show WP p l e (rmL 2 2 12) s m args below meth c D A 5 (KW k ad r (nI n) R T U tx sz Y) [(0, .ref (ad 0)), (1, .int ra), (2, .int rb)] 0 0 (vx_MQ below (va_Qi (fun v9 w' => (e2 n ra rb) = 0 ∧ v9 = bI (ipo (R (ix ra)) (R (ix rb))) ∧ ∃ (T' U' tx' : Nat → Int32) (sz' : Int32), w' = (KW k ad r (nI n) R T' U' tx' sz' Y)) (cBA D A) A) (xXA D A (fun E w' => ¬ (e2 n ra rb) = 0 ∧ E = exn (e2 n ra rb) ∧ ∃ (T' U' tx' : Nat → Int32) (sz' : Int32), w' = (KW k ad r (nI n) R T' U' tx' sz' Y))) args s 2 12 A) 0 []
  rw [← hQ]
  refine p_aload_n C rfl 0 rfl dX2_isPartOf_0 ?_
  refine p_iload_n C rfl 1 rfl dX2_isPartOf_1 ?_
  refine cx_Vr (As := [.int ra]) (rest := []) C (m_X2_rowOf l D k hfl hn (rc := ra)) 0 rfl rfl rfl qml_X2_36 qim_X2_rowOf qse_X2_X2_rowOf qin_X2 qco_X2_rowOf nd_X2_rowOf ⟨Nat.le_of_ble_eq_true rfl, Nat.le_of_ble_eq_true rfl⟩ (Nat.le_of_ble_eq_true rfl) ⟨Nat.le_of_ble_eq_true rfl, Nat.le_of_ble_eq_true rfl⟩ rfl dX2_isPartOf_2 (fun E9 w9 h9 => by obtain ⟨hx9, rfl, rfl⟩ := h9; rw [hQ]; exact x_out C hE ⟨by rw [show e2 n ra rb = 1 from by unfold e2; rw [hx9]; rfl]; exact one_n0, by rw [show e2 n ra rb = 1 from by unfold e2; rw [hx9]; rfl]; exact exn_1.symm, _, _, _, _, rfl⟩ (by (try simp only [rmL_c, rmL_s]); omega) (by (try simp only [rmL_c, rmL_s]); omega)) (fun r9 w9 h9 => ?_)
  obtain ⟨i, hi, rfl, rfl, rfl⟩ := h9
  have vi := isR_of hn hi
  have hi6 : i < 16 := by omega
  refine p_astore_n (lv9 := [(3, .ref (r i)), (0, .ref (ad 0)), (1, .int (nI i)), (2, .int rb)]) C rfl (by decide) rfl dX2_isPartOf_5 ?_
  refine p_aload_n C rfl 1 rfl dX2_isPartOf_6 ?_
  refine p_iload_n C rfl 3 rfl dX2_isPartOf_7 ?_
  refine cx_Vr (As := [.int rb]) (rest := []) C (m_X2_rowOf l D k hfl hn (rc := rb)) 0 rfl rfl rfl qml_X2_36 qim_X2_rowOf qse_X2_X2_rowOf qin_X2 qco_X2_rowOf nd_X2_rowOf ⟨Nat.le_of_ble_eq_true rfl, Nat.le_of_ble_eq_true rfl⟩ (Nat.le_of_ble_eq_true rfl) ⟨Nat.le_of_ble_eq_true rfl, Nat.le_of_ble_eq_true rfl⟩ rfl dX2_isPartOf_8 (fun E9 w9 h9 => by obtain ⟨hx9, rfl, rfl⟩ := h9; rw [hQ]; exact x_out C hE ⟨by rw [show e2 n (nI i) rb = 1 from by unfold e2; rw [vi, hx9]; rfl]; exact one_n0, by rw [show e2 n (nI i) rb = 1 from by unfold e2; rw [vi, hx9]; rfl]; exact exn_1.symm, _, _, _, _, rfl⟩ (by (try simp only [rmL_c, rmL_s]); omega) (by (try simp only [rmL_c, rmL_s]); omega)) (fun r9 w9 h9 => ?_)
  obtain ⟨j, hj, rfl, rfl, rfl⟩ := h9
  have vj := isR_of hn hj
  have hj6 : j < 16 := by omega
  refine p_astore (lv9 := [(4, .ref (r j)), (3, .ref (r i)), (0, .ref (ad 0)), (1, .int (nI i)), (2, .int (nI j))]) C (by decide) rfl dX2_isPartOf_11 ?_
  refine p_aload C 0 rfl dX2_isPartOf_13 ?_
  refine c_Si (As := [.ref (r j)]) (rest := []) C (m_X1_plain l D k (u := (j + 6))  (KW_row hj6)) qml_X2_75 qst_X1_plain qin_X1 qco_X1_plain nd_X1_plain ⟨Nat.le_of_ble_eq_true rfl, Nat.le_of_ble_eq_true rfl⟩ (Nat.le_of_ble_eq_true rfl) ⟨Nat.le_of_ble_eq_true rfl, Nat.le_of_ble_eq_true rfl⟩ rfl dX2_isPartOf_15 (fun r9 w9 h9 => ?_)
  obtain ⟨rfl, rfl⟩ := h9
  refine p_if_ne C 23 (by decide) dX2_isPartOf_18 (fun c_18 => ?_) (fun c_18 => ?_)
  · have hpl := bI_ne c_18
    refine p_aload_n C rfl 1 rfl dX2_isPartOf_23 ?_
    refine p_aload C 0 rfl dX2_isPartOf_24 ?_
    refine p_aload_n C rfl 2 rfl dX2_isPartOf_26 ?_
    refine p_get (v := .ref (ad 2)) (T := TX2) C 0 rfl rfl 2 (by decide) inX2 qfl_X2_18 (fun _ h9 => h9) rfl dX2_isPartOf_27 ?_
    refine p_aload_n C rfl 2 rfl dX2_isPartOf_30 ?_
    refine p_get (v := .ref (ad 3)) (T := TX2) C 0 rfl rfl 3 (by decide) inX2 qfl_X2_22 (fun _ h9 => h9) rfl dX2_isPartOf_31 ?_
    refine c_Sv (As := [.ref (r i), .ref (r j), .ref (ad 2), .ref (ad 3)]) (rest := []) C (m_X1_split l D k (u := (i + 6)) (v := (j + 6)) (t := 2) (z := 3) (KW_row hi6) (KW_row hj6) rfl rfl (by omega) (by omega) (by omega) (by omega) (by omega) (pln_pos hpl)) qml_X2_86 qst_X1_split qin_X1 qco_X1_split nd_X1_split ⟨Nat.le_of_ble_eq_true rfl, Nat.le_of_ble_eq_true rfl⟩ (Nat.le_of_ble_eq_true rfl) ⟨Nat.le_of_ble_eq_true rfl, Nat.le_of_ble_eq_true rfl⟩ rfl dX2_isPartOf_34 (fun w9 h9 => ?_)
    obtain rfl := h9
    refine p_w (w9 := (KW k ad r (nI n) R ((sp (R i) (R j)).1) ((sp (R i) (R j)).2) tx sz Y)) rfl ?_
    refine p_aload_n C rfl 2 rfl dX2_isPartOf_37 ?_
    refine p_get (v := .ref (ad 3)) (T := TX2) C 0 rfl rfl 3 (by decide) inX2 qfl_X2_22 (fun _ h9 => h9) rfl dX2_isPartOf_38 ?_
    refine c_Si (As := [.ref (ad 3)]) (rest := []) C (m_X1_parts l D k (u := 3)  rfl) qml_X2_121 qst_X1_parts qin_X1 qco_X1_parts nd_X1_parts ⟨Nat.le_of_ble_eq_true rfl, Nat.le_of_ble_eq_true rfl⟩ (Nat.le_of_ble_eq_true rfl) ⟨Nat.le_of_ble_eq_true rfl, Nat.le_of_ble_eq_true rfl⟩ rfl dX2_isPartOf_41 (fun r9 w9 h9 => ?_)
    obtain ⟨rfl, rfl⟩ := h9
    refine p_if_ne C 51 (by decide) dX2_isPartOf_44 (fun c_44 => ?_) (fun c_44 => ?_)
    · refine p_iconst (v := 0) C (by decide) dX2_isPartOf_51 ?_
      rw [hQ]
      exact rx_z C hrt9 (by first | exact bI_n _ | rfl) (⟨by unfold e2; rw [vi, vj]; rfl, by rw [ix_nI (show i < 2 ^ 31 by omega), ix_nI (show j < 2 ^ 31 by omega), ipo_0 hpl c_44]; try rfl, _, _, _, _, rfl⟩) (by (try simp only [rmL_c, rmL_s]); omega) (by (try simp only [rmL_c, rmL_s]); omega) dX2_isPartOf_52
    · refine p_iconst (v := 1) C (by decide) dX2_isPartOf_47 ?_
      refine p_goto C 52 (by decide) dX2_isPartOf_48 ?_
      rw [hQ]
      exact rx_z C hrt9 (by first | exact bI_n _ | rfl) (⟨by unfold e2; rw [vi, vj]; rfl, by rw [ix_nI (show i < 2 ^ 31 by omega), ix_nI (show j < 2 ^ 31 by omega), ipo_1 hpl c_44]; try rfl, _, _, _, _, rfl⟩) (by (try simp only [rmL_c, rmL_s]); omega) (by (try simp only [rmL_c, rmL_s]); omega) dX2_isPartOf_52
  · have hpl := bI_eq c_18
    refine p_iconst (v := 0) C (by decide) dX2_isPartOf_21 ?_
    rw [hQ]
    exact rx_z C hrt9 rfl (⟨by unfold e2; rw [vi, vj]; rfl, by rw [ix_nI (show i < 2 ^ 31 by omega), ix_nI (show j < 2 ^ 31 by omega), ipo_z hpl]; try rfl, _, _, _, _, rfl⟩) (by (try simp only [rmL_c, rmL_s]); omega) (by (try simp only [rmL_c, rmL_s]); omega) dX2_isPartOf_22
def dvT (f : Nat → Int32) (x : Int32) : Bool := decide (0 < pt f ∧ hg f x = 0)
set_option maxHeartbeats 4000000 in
set_option maxRecDepth 100000 in
/-- dividesTried -/
theorem m_X2_dividesTried (l : Launch) (D : va_G) (k : Nat → ClassId) {ad r : Nat → Nat} {n : Nat} {R : Nat → Nat → Int32} {T U tx : Nat → Int32} {sz : Int32} {Y : va_W} {x : Int32} : CtI l D k yX2_dividesTried (wU yX2_dividesTried cX2_dividesTried 2 (some .boolean)) (rmL 1 0 0) [.ref (ad 0), .int x] (KW k ad r (nI n) R T U tx sz Y) (fun v9 w' => v9 = bI (dvT T x) ∧ w' = (KW k ad r (nI n) R T U tx sz Y)) := by
  refine openI (own := RX2) rfl (by decide) (Nat.le_of_ble_eq_true rfl) rfl ?_
  intro p e s m args below meth c A C hrt9 hnm
  obtain ⟨Q, hQ⟩ : ∃ Q, Q = (MQ below (va_Qi (fun v9 w' => v9 = bI (dvT T x) ∧ w' = (KW k ad r (nI n) R T U tx sz Y)) (cBA D A) A) args s 0 0 A) := ⟨_, rfl⟩
  show WP p l e (rmL 1 0 0) s m args below meth c D A 2 (KW k ad r (nI n) R T U tx sz Y) [(0, .ref (ad 0)), (1, .int x)] 0 0 (MQ below (va_Qi (fun v9 w' => v9 = bI (dvT T x) ∧ w' = (KW k ad r (nI n) R T U tx sz Y)) (cBA D A) A) args s 0 0 A) 0 []
  rw [← hQ]
  refine p_aload_n C rfl 0 rfl dX2_dividesTried_0 ?_
  refine p_get (v := .ref (ad 2)) (T := TX2) C 0 rfl rfl 2 (by decide) inX2 qfl_X2_18 (fun _ h9 => h9) rfl dX2_dividesTried_1 ?_
  refine c_Si (As := [.ref (ad 2)]) (rest := []) C (m_X1_parts l D k (u := 2)  rfl) qml_X2_121 qst_X1_parts qin_X1 qco_X1_parts nd_X1_parts ⟨Nat.le_of_ble_eq_true rfl, Nat.le_of_ble_eq_true rfl⟩ (Nat.le_of_ble_eq_true rfl) ⟨Nat.le_of_ble_eq_true rfl, Nat.le_of_ble_eq_true rfl⟩ rfl dX2_dividesTried_4 (fun r9 w9 h9 => ?_)
  obtain ⟨rfl, rfl⟩ := h9
  refine p_if_le C 25 (by decide) dX2_dividesTried_7 (fun c_7 => ?_) (fun c_7 => ?_)
  · have hp0 : ¬ 0 < pt T := by have := (nI_le0 (by have := pt_le T; omega)).mp c_7; omega
    refine p_iconst (v := 0) C (by decide) dX2_dividesTried_25 ?_
    rw [hQ]
    exact r_z C hrt9 (by first | exact bI_n _ | rfl) (⟨by rw [show dvT T x = _ from decide_eq_false (fun z9 => hp0 z9.1)]; rfl, rfl⟩) (by decide) (by decide) dX2_dividesTried_26
  · have hp0 : 0 < pt T := Nat.pos_of_ne_zero fun z9 => c_7 ((nI_le0 (by have := pt_le T; omega)).mpr z9)
    refine p_aload_n C rfl 0 rfl dX2_dividesTried_10 ?_
    refine p_get (v := .ref (ad 2)) (T := TX2) C 0 rfl rfl 2 (by decide) inX2 qfl_X2_18 (fun _ h9 => h9) rfl dX2_dividesTried_11 ?_
    refine p_iload_n C rfl 1 rfl dX2_dividesTried_14 ?_
    refine c_Si (As := [.ref (ad 2), .int x]) (rest := []) C (m_X1_hungerFor l D k (u := 2) (x := x) rfl) qml_X2_98 qst_X1_hungerFor qin_X1 qco_X1_hungerFor nd_X1_hungerFor ⟨Nat.le_of_ble_eq_true rfl, Nat.le_of_ble_eq_true rfl⟩ (Nat.le_of_ble_eq_true rfl) ⟨Nat.le_of_ble_eq_true rfl, Nat.le_of_ble_eq_true rfl⟩ rfl dX2_dividesTried_15 (fun r9 w9 h9 => ?_)
    obtain ⟨rfl, rfl⟩ := h9
    refine p_if_ne C 25 (by decide) dX2_dividesTried_18 (fun c_18 => ?_) (fun c_18 => ?_)
    · refine p_iconst (v := 0) C (by decide) dX2_dividesTried_25 ?_
      rw [hQ]
      exact r_z C hrt9 (by first | exact bI_n _ | rfl) (⟨by rw [show dvT T x = _ from decide_eq_false (fun z9 => c_18 z9.2)]; rfl, rfl⟩) (by decide) (by decide) dX2_dividesTried_26
    · refine p_iconst (v := 1) C (by decide) dX2_dividesTried_21 ?_
      refine p_goto C 26 (by decide) dX2_dividesTried_22 ?_
      rw [hQ]
      exact r_z C hrt9 (by first | exact bI_n _ | rfl) (⟨by rw [show dvT T x = _ from decide_eq_true ⟨hp0, c_18⟩]; rfl, rfl⟩) (by decide) (by decide) dX2_dividesTried_26
set_option maxHeartbeats 4000000 in
set_option maxRecDepth 100000 in
/-- partsWhenMoved -/
theorem m_X2_partsWhenMoved (l : Launch) (D : va_G) (k : Nat → ClassId) {ad r : Nat → Nat} {n : Nat} {R : Nat → Nat → Int32} {T U tx : Nat → Int32} {sz : Int32} {Y : va_W} {i : Nat} {x : Int32} (hi : i < 16) : CtI l D k yX2_partsWhenMoved (wU yX2_partsWhenMoved cX2_partsWhenMoved 3 (some .int)) (rmL 1 0 0) [.ref (ad 0), .ref (r i), .int x] (KW k ad r (nI n) R T U tx sz Y) (fun v9 w' => v9 = nI (pt (mv (n9 (R i)) x)) ∧ ∃ T', w' = (KW k ad r (nI n) R T' U tx sz Y)) := by
  refine openI (own := RX2) rfl (by decide) (Nat.le_of_ble_eq_true rfl) rfl ?_
  intro p e s m args below meth c A C hrt9 hnm
  obtain ⟨Q, hQ⟩ : ∃ Q, Q = (MQ below (va_Qi (fun v9 w' => v9 = nI (pt (mv (n9 (R i)) x)) ∧ ∃ T', w' = (KW k ad r (nI n) R T' U tx sz Y)) (cBA D A) A) args s 0 0 A) := ⟨_, rfl⟩
  show WP p l e (rmL 1 0 0) s m args below meth c D A 3 (KW k ad r (nI n) R T U tx sz Y) [(0, .ref (ad 0)), (1, .ref (r i)), (2, .int x)] 0 0 (MQ below (va_Qi (fun v9 w' => v9 = nI (pt (mv (n9 (R i)) x)) ∧ ∃ T', w' = (KW k ad r (nI n) R T' U tx sz Y)) (cBA D A) A) args s 0 0 A) 0 []
  rw [← hQ]
  refine p_aload_n C rfl 1 rfl dX2_partsWhenMoved_0 ?_
  refine p_aload_n C rfl 0 rfl dX2_partsWhenMoved_1 ?_
  refine p_get (v := .ref (ad 2)) (T := TX2) C 0 rfl rfl 2 (by decide) inX2 qfl_X2_18 (fun _ h9 => h9) rfl dX2_partsWhenMoved_2 ?_
  refine c_Sv (As := [.ref (r i), .ref (ad 2)]) (rest := []) C (m_X1_copy l D k (u := (i + 6)) (v := 2) (KW_row hi) rfl (by omega)) qml_X2_57 qst_X1_copy qin_X1 qco_X1_copy nd_X1_copy ⟨Nat.le_of_ble_eq_true rfl, Nat.le_of_ble_eq_true rfl⟩ (Nat.le_of_ble_eq_true rfl) ⟨Nat.le_of_ble_eq_true rfl, Nat.le_of_ble_eq_true rfl⟩ rfl dX2_partsWhenMoved_5 (fun w9 h9 => ?_)
  obtain rfl := h9
  refine p_w (w9 := (KW k ad r (nI n) R (n9 (R i)) U tx sz Y)) (rfl) ?_
  refine p_aload_n C rfl 0 rfl dX2_partsWhenMoved_8 ?_
  refine p_get (v := .ref (ad 2)) (T := TX2) C 0 rfl rfl 2 (by decide) inX2 qfl_X2_18 (fun _ h9 => h9) rfl dX2_partsWhenMoved_9 ?_
  refine p_iload_n C rfl 2 rfl dX2_partsWhenMoved_12 ?_
  refine c_Sv (As := [.ref (ad 2), .int x]) (rest := []) C (m_X1_moveBy l D k (u := 2) (x := x) rfl) qml_X2_63 qst_X1_moveBy qin_X1 qco_X1_moveBy nd_X1_moveBy ⟨Nat.le_of_ble_eq_true rfl, Nat.le_of_ble_eq_true rfl⟩ (Nat.le_of_ble_eq_true rfl) ⟨Nat.le_of_ble_eq_true rfl, Nat.le_of_ble_eq_true rfl⟩ rfl dX2_partsWhenMoved_13 (fun w9 h9 => ?_)
  obtain rfl := h9
  refine p_w (w9 := (KW k ad r (nI n) R (mv (n9 (R i)) x) U tx sz Y)) (rfl) ?_
  refine p_aload_n C rfl 0 rfl dX2_partsWhenMoved_16 ?_
  refine p_get (v := .ref (ad 2)) (T := TX2) C 0 rfl rfl 2 (by decide) inX2 qfl_X2_18 (fun _ h9 => h9) rfl dX2_partsWhenMoved_17 ?_
  refine c_Si (As := [.ref (ad 2)]) (rest := []) C (m_X1_parts l D k (u := 2)  rfl) qml_X2_121 qst_X1_parts qin_X1 qco_X1_parts nd_X1_parts ⟨Nat.le_of_ble_eq_true rfl, Nat.le_of_ble_eq_true rfl⟩ (Nat.le_of_ble_eq_true rfl) ⟨Nat.le_of_ble_eq_true rfl, Nat.le_of_ble_eq_true rfl⟩ rfl dX2_partsWhenMoved_20 (fun r9 w9 h9 => ?_)
  obtain ⟨rfl, rfl⟩ := h9
  rw [hQ]
  exact r_i C hrt9 (⟨rfl, _, rfl⟩) (by decide) (by decide) dX2_partsWhenMoved_23
theorem tm_y {x : Int32} {t : Nat} {S : (Nat → Int32) × Nat} (h : dvT S.1 x = true) : tmN x (t + 1) S = tmN x t (dvl S.1 x, S.2 + 1) := if_pos (of_decide_eq_true h)
theorem tm_n {x : Int32} {t : Nat} {S : (Nat → Int32) × Nat} (h : dvT S.1 x = false) : tmN x (t + 1) S = S := if_neg (of_decide_eq_false h)
theorem ppN_s {q : Nat} {f : Nat → Int32} {c : Nat} : ppN (q + 1) f c = ppN q (tmN (gI (40 - q)) 8 (f, c)).1 (tmN (gI (40 - q)) 8 (f, c)).2 := rfl
theorem tmN_le (x : Int32) : ∀ t S, (tmN x t S).2 ≤ S.2 + t
  | 0, _ => Nat.le_refl _
  | t + 1, S => by
    unfold tmN
    split
    · have := tmN_le x t (dvl S.1 x, S.2 + 1)
      have e : (dvl S.1 x, S.2 + 1).2 = S.2 + 1 := rfl
      omega
    · omega
set_option maxHeartbeats 4000000 in
set_option maxRecDepth 100000 in
/-- X2_plainParts -/
theorem m_X2_plainParts (l : Launch) (D : va_G) (k : Nat → ClassId) (hfl : l.stackTraces = false) {ad r : Nat → Nat} {n : Nat} {R : Nat → Nat → Int32} {T U tx : Nat → Int32} {sz : Int32} {Y : va_W} (hn : n ≤ 16) {rc : Int32} : XtI l D k yX2_plainParts (wU yX2_plainParts cX2_plainParts 5 (some .int)) (rmL 3 1 6) [.ref (ad 0), .int rc] (KW k ad r (nI n) R T U tx sz Y) (fun v9 w' => (e1 n rc) = 0 ∧ v9 = nI (pp (n9 (R (ix rc)))) ∧ ∃ (T' U' tx' : Nat → Int32) (sz' : Int32), w' = (KW k ad r (nI n) R T' U' tx' sz' Y)) (fun E w' => ¬ (e1 n rc) = 0 ∧ E = exn (e1 n rc) ∧ ∃ (T' U' tx' : Nat → Int32) (sz' : Int32), w' = (KW k ad r (nI n) R T' U' tx' sz' Y)) := by
  refine openXI (own := RX2) rfl (by decide) (Nat.le_of_ble_eq_true rfl) rfl ?_
  intro p e s m args below meth c A C hrt9 hnm hE
  obtain ⟨Q, hQ⟩ : ∃ Q, Q = (vx_MQ below (va_Qi (fun v9 w' => (e1 n rc) = 0 ∧ v9 = nI (pp (n9 (R (ix rc)))) ∧ ∃ (T' U' tx' : Nat → Int32) (sz' : Int32), w' = (KW k ad r (nI n) R T' U' tx' sz' Y)) (cBA D A) A) (xXA D A (fun E w' => ¬ (e1 n rc) = 0 ∧ E = exn (e1 n rc) ∧ ∃ (T' U' tx' : Nat → Int32) (sz' : Int32), w' = (KW k ad r (nI n) R T' U' tx' sz' Y))) args s 1 6 A) := ⟨_, rfl⟩
  show WP p l e (rmL 3 1 6) s m args below meth c D A 5 (KW k ad r (nI n) R T U tx sz Y) [(0, .ref (ad 0)), (1, .int rc)] 0 0 (vx_MQ below (va_Qi (fun v9 w' => (e1 n rc) = 0 ∧ v9 = nI (pp (n9 (R (ix rc)))) ∧ ∃ (T' U' tx' : Nat → Int32) (sz' : Int32), w' = (KW k ad r (nI n) R T' U' tx' sz' Y)) (cBA D A) A) (xXA D A (fun E w' => ¬ (e1 n rc) = 0 ∧ E = exn (e1 n rc) ∧ ∃ (T' U' tx' : Nat → Int32) (sz' : Int32), w' = (KW k ad r (nI n) R T' U' tx' sz' Y))) args s 1 6 A) 0 []
  rw [← hQ]
  refine p_aload_n C rfl 0 rfl dX2_plainParts_0 ?_
  refine p_iload_n C rfl 1 rfl dX2_plainParts_1 ?_
  refine cx_Vr (As := [.int rc]) (rest := []) C (m_X2_rowOf l D k hfl hn (rc := rc)) 0 rfl rfl rfl qml_X2_36 qim_X2_rowOf qse_X2_X2_rowOf qin_X2 qco_X2_rowOf nd_X2_rowOf ⟨Nat.le_of_ble_eq_true rfl, Nat.le_of_ble_eq_true rfl⟩ (Nat.le_of_ble_eq_true rfl) ⟨Nat.le_of_ble_eq_true rfl, Nat.le_of_ble_eq_true rfl⟩ rfl dX2_plainParts_2 (fun E9 w9 h9 => by obtain ⟨hx9, rfl, rfl⟩ := h9; rw [hQ]; exact x_out C hE ⟨by rw [show e1 n rc = 1 from by unfold e1; rw [hx9]; rfl]; exact one_n0, by rw [show e1 n rc = 1 from by unfold e1; rw [hx9]; rfl]; exact exn_1.symm, _, _, _, _, rfl⟩ (by (try simp only [rmL_c, rmL_s]); omega) (by (try simp only [rmL_c, rmL_s]); omega)) (fun r9 w9 h9 => ?_)
  obtain ⟨i, hi, rfl, rfl, rfl⟩ := h9
  have vi := isR_of hn hi
  have hi6 : i < 16 := by omega
  refine p_aload_n C rfl 0 rfl dX2_plainParts_5 ?_
  refine p_get (v := .ref (ad 2)) (T := TX2) C 0 rfl rfl 2 (by decide) inX2 qfl_X2_18 (fun _ h9 => h9) rfl dX2_plainParts_6 ?_
  refine c_Sv (As := [.ref (r i), .ref (ad 2)]) (rest := []) C (m_X1_copy l D k (u := (i + 6)) (v := 2) (KW_row hi6) rfl (by omega)) qml_X2_57 qst_X1_copy qin_X1 qco_X1_copy nd_X1_copy ⟨Nat.le_of_ble_eq_true rfl, Nat.le_of_ble_eq_true rfl⟩ (Nat.le_of_ble_eq_true rfl) ⟨Nat.le_of_ble_eq_true rfl, Nat.le_of_ble_eq_true rfl⟩ rfl dX2_plainParts_9 (fun w9 h9 => ?_)
  obtain rfl := h9
  refine p_w (w9 := (KW k ad r (nI n) R (n9 (R i)) U tx sz Y)) (rfl) ?_
  refine p_iconst (v := (nI 0)) C (by decide) dX2_plainParts_12 ?_
  refine p_istore_n (lv9 := [(2, .int (nI 0)), (0, .ref (ad 0)), (1, .int (nI i))]) C rfl (by decide) rfl dX2_plainParts_13 ?_
  refine p_bipush (v := (gI 0)) C (by decide) dX2_plainParts_14 ?_
  refine p_istore_n (lv9 := [(3, .int (gI 0)), (2, .int (nI 0)), (0, .ref (ad 0)), (1, .int (nI i))]) C rfl (by decide) rfl dX2_plainParts_16 ?_
  refine p_lv (lv9 := [(0, .ref (ad 0)), (2, .int (nI 0)), (3, .int (gI 0))]) [2, 1, 0] rfl ?_
  have lp17 : ∀ (n17 : Nat) (b9 c9 : Nat) (F9 : Nat → Int32), (hb : b9 + n17 = 41) → (hI : ppN n17 F9 c9 = pp (n9 (R i))) → WP p l e (rmL 3 1 6) s m args below meth c D A 5 (KW k ad r (nI n) R F9 U tx sz Y) [(0, .ref (ad 0)), (2, .int (nI c9)), (3, .int (gI b9))] 1 6 Q 17 [] := by
    intro n17
    induction n17 with
    | zero =>
      intro b9 c9 F9 hb hI
      obtain rfl : b9 = 41 := by omega
      refine p_iload_n C rfl 2 rfl dX2_plainParts_17 ?_
      refine p_bipush (v := 20) C (by decide) dX2_plainParts_18 ?_
      refine p_icmp_gt C 64 (by decide) dX2_plainParts_20 (fun c_20 => ?_) (fun c_20 => absurd gI_41 c_20)
      refine p_iload_n C rfl 1 rfl dX2_plainParts_64 ?_
      rw [hQ]
      exact rx_i C hrt9 (⟨by unfold e1; rw [vi]; rfl, by rw [ix_nI (show i < 2 ^ 31 by omega), ← hI]; rfl, _, _, _, _, rfl⟩) (by (try simp only [rmL_c, rmL_s]); omega) (by (try simp only [rmL_c, rmL_s]); omega) dX2_plainParts_65
    | succ n17 ih17 =>
      intro b9 c9 F9 hb hI
      obtain rfl : b9 = 40 - n17 := by omega
      refine p_iload_n C rfl 2 rfl dX2_plainParts_17 ?_
      refine p_bipush (v := 20) C (by decide) dX2_plainParts_18 ?_
      refine p_icmp_gt C 64 (by decide) dX2_plainParts_20 (fun c_20 => absurd c_20 (gI_le (40 - n17) (by omega))) (fun c_20 => ?_)
      refine p_iconst (v := (nI 0)) C (by decide) dX2_plainParts_23 ?_
      refine p_istore (lv9 := [(4, .int (nI 0)), (0, .ref (ad 0)), (2, .int (nI c9)), (3, .int (gI (40 - n17)))]) C (by decide) rfl dX2_plainParts_24 ?_
      obtain ⟨X9, hX⟩ : ∃ X9, X9 = tmN (gI (40 - n17)) 8 (F9, c9) := ⟨_, rfl⟩
      refine p_lv (lv9 := [(0, .ref (ad 0)), (2, .int (nI c9)), (3, .int (gI (40 - n17))), (4, .int (nI 0))]) [1, 2, 3, 0] rfl ?_
      have lp26 : ∀ (n26 : Nat) (t9 c8 : Nat) (F8 : Nat → Int32), (ht : t9 + n26 = 8) → (hS : tmN (gI (40 - n17)) n26 (F8, c8) = X9) → WP p l e (rmL 3 1 6) s m args below meth c D A 5 (KW k ad r (nI n) R F8 U tx sz Y) [(0, .ref (ad 0)), (2, .int (nI c8)), (3, .int (gI (40 - n17))), (4, .int (nI t9))] 1 6 Q 26 [] := by
        intro n26
        induction n26 with
        | zero =>
          intro t9 c8 F8 ht hS
          obtain rfl : t9 = 8 := by omega
          refine p_iload C 3 rfl dX2_plainParts_26 ?_
          refine p_bipush (v := 8) C (by decide) dX2_plainParts_28 ?_
          refine p_icmp_ge C 58 (by decide) dX2_plainParts_30 (fun c_30 => ?_) (fun c_30 => absurd c_30 (by decide))
          refine p_iinc (lv9 := [(3, .int (gI (40 - n17 + 1))), (0, .ref (ad 0)), (2, .int (nI c8)), (4, .int (nI 8))]) (v := (gI (40 - n17 + 1))) C (j := 2) rfl (gI_s _) (by decide) rfl dX2_plainParts_58 ?_
          refine p_goto C 17 (by decide) dX2_plainParts_61 ?_
          have e9 : X9 = (F8, c8) := hS.symm
          rw [ppN_s, ← hX, e9] at hI
          refine p_lv (lv9 := [(0, .ref (ad 0)), (2, .int (nI c8)), (3, .int (gI (40 - n17 + 1)))]) [1, 2, 0] rfl ?_
          exact ih17 (40 - n17 + 1) c8 F8 (by omega) hI
        | succ n26 ih26 =>
          intro t9 c8 F8 ht hS
          refine p_iload C 3 rfl dX2_plainParts_26 ?_
          refine p_bipush (v := 8) C (by decide) dX2_plainParts_28 ?_
          refine p_icmp_ge C 58 (by decide) dX2_plainParts_30 (fun c_30 => absurd c_30 (nI_ge (b := 8) (show t9 < 8 by omega) (by decide))) (fun c_30 => ?_)
          refine p_aload_n C rfl 0 rfl dX2_plainParts_33 ?_
          refine p_iload_n C rfl 2 rfl dX2_plainParts_34 ?_
          refine c_Vi (As := [.int (gI (40 - n17))]) (rest := []) C (m_X2_dividesTried l D k (x := (gI (40 - n17)))) 0 rfl rfl rfl qml_X2_124 qim_X2_dividesTried qse_X2_X2_dividesTried qin_X2 qco_X2_dividesTried nd_X2_dividesTried ⟨Nat.le_of_ble_eq_true rfl, Nat.le_of_ble_eq_true rfl⟩ (Nat.le_of_ble_eq_true rfl) ⟨Nat.le_of_ble_eq_true rfl, Nat.le_of_ble_eq_true rfl⟩ rfl dX2_plainParts_35 (fun r9 w9 h9 => ?_)
          obtain ⟨e9, rfl⟩ := h9
          refine p_int e9 ?_
          refine p_if_eq C 58 (by decide) dX2_plainParts_38 (fun c_38 => ?_) (fun c_38 => ?_)
          · have hd0 := bI_eq c_38
            refine p_iinc (lv9 := [(3, .int (gI (40 - n17 + 1))), (0, .ref (ad 0)), (2, .int (nI c8)), (4, .int (nI t9))]) (v := (gI (40 - n17 + 1))) C (j := 2) rfl (gI_s _) (by decide) rfl dX2_plainParts_58 ?_
            refine p_goto C 17 (by decide) dX2_plainParts_61 ?_
            have e9 : X9 = (F8, c8) := hS.symm.trans (tm_n (t := n26) (S := (F8, c8)) hd0)
            rw [ppN_s, ← hX, e9] at hI
            refine p_lv (lv9 := [(0, .ref (ad 0)), (2, .int (nI c8)), (3, .int (gI (40 - n17 + 1)))]) [1, 2, 0] rfl ?_
            exact ih17 (40 - n17 + 1) c8 F8 (by omega) hI
          · have hd1 := bI_ne c_38
            refine p_aload_n C rfl 0 rfl dX2_plainParts_41 ?_
            refine p_get (v := .ref (ad 2)) (T := TX2) C 0 rfl rfl 2 (by decide) inX2 qfl_X2_18 (fun _ h9 => h9) rfl dX2_plainParts_42 ?_
            refine p_iload_n C rfl 2 rfl dX2_plainParts_45 ?_
            refine c_Sv (As := [.ref (ad 2), .int (gI (40 - n17))]) (rest := []) C (m_X1_divideByLess l D k (u := 2) (x := (gI (40 - n17))) rfl) qml_X2_128 qst_X1_divideByLess qin_X1 qco_X1_divideByLess nd_X1_divideByLess ⟨Nat.le_of_ble_eq_true rfl, Nat.le_of_ble_eq_true rfl⟩ (Nat.le_of_ble_eq_true rfl) ⟨Nat.le_of_ble_eq_true rfl, Nat.le_of_ble_eq_true rfl⟩ rfl dX2_plainParts_46 (fun w9 h9 => ?_)
            obtain rfl := h9
            refine p_w (w9 := (KW k ad r (nI n) R (dvl F8 (gI (40 - n17))) U tx sz Y)) (rfl) ?_
            refine p_iinc (lv9 := [(2, .int (nI (c8 + 1))), (0, .ref (ad 0)), (3, .int (gI (40 - n17))), (4, .int (nI t9))]) (v := (nI (c8 + 1))) C (j := 1) rfl (i_up c8) (by decide) rfl dX2_plainParts_49 ?_
            refine p_iinc (lv9 := [(4, .int (nI (t9 + 1))), (2, .int (nI (c8 + 1))), (0, .ref (ad 0)), (3, .int (gI (40 - n17)))]) (v := (nI (t9 + 1))) C (j := 3) rfl (i_up t9) (by decide) rfl dX2_plainParts_52 ?_
            refine p_goto C 26 (by decide) dX2_plainParts_55 ?_
            refine p_lv (lv9 := [(0, .ref (ad 0)), (2, .int (nI (c8 + 1))), (3, .int (gI (40 - n17))), (4, .int (nI (t9 + 1)))]) [2, 1, 3, 0] rfl ?_
            exact ih26 (t9 + 1) (c8 + 1) (dvl F8 (gI (40 - n17))) (by omega) ((tm_y (t := n26) (S := (F8, c8)) hd1).symm.trans hS)
      exact lp26 8 0 c9 F9 rfl hX.symm
  exact lp17 41 0 0 (n9 (R i)) (by decide) rfl
theorem bsI_y {f : Nat → Int32} {x : Int32} {S : Int32 × Nat} (h : nI (pt (mv f x)) < nI S.2) (hS : S.2 < 2 ^ 31) : bsI f x S = (x, pt (mv f x)) := if_pos ((nI_ltI (by have := pt_le (mv f x); omega) hS).mp h)
theorem bsI_n {f : Nat → Int32} {x : Int32} {S : Int32 × Nat} (h : nI S.2 ≤ nI (pt (mv f x))) (hS : S.2 < 2 ^ 31) : bsI f x S = S := if_neg (by have := (nI_leI hS (by have := pt_le (mv f x); omega)).mp h; omega)
theorem bsI_9 (f : Nat → Int32) (x : Int32) {S : Int32 × Nat} (h : S.2 ≤ 9) : (bsI f x S).2 ≤ 9 := by
  unfold bsI; split
  · exact pt_le _
  · exact h
theorem bsN_9 (f : Nat → Int32) : ∀ i, (bsN f i).2 ≤ 9
  | 0 => pt_le _
  | i + 1 => bsI_9 f _ (bsI_9 f _ (bsN_9 f i))
set_option maxHeartbeats 4000000 in
set_option maxRecDepth 100000 in
/-- X2_bestShift -/
theorem m_X2_bestShift (l : Launch) (D : va_G) (k : Nat → ClassId) (hfl : l.stackTraces = false) {ad r : Nat → Nat} {n : Nat} {R : Nat → Nat → Int32} {T U tx : Nat → Int32} {sz : Int32} {Y : va_W} (hn : n ≤ 16) (hnrm : ∀ i, i < n → n9 (R i) = R i) {rc : Int32} : XtI l D k yX2_bestShift (wU yX2_bestShift cX2_bestShift 8 (some .int)) (rmL 3 1 6) [.ref (ad 0), .int rc] (KW k ad r (nI n) R T U tx sz Y) (fun v9 w' => (e1 n rc) = 0 ∧ v9 = bs (n9 (R (ix rc))) ∧ ∃ (T' U' tx' : Nat → Int32) (sz' : Int32), w' = (KW k ad r (nI n) R T' U' tx' sz' Y)) (fun E w' => ¬ (e1 n rc) = 0 ∧ E = exn (e1 n rc) ∧ ∃ (T' U' tx' : Nat → Int32) (sz' : Int32), w' = (KW k ad r (nI n) R T' U' tx' sz' Y)) := by
  refine openXI (own := RX2) rfl (by decide) (Nat.le_of_ble_eq_true rfl) rfl ?_
  intro p e s m args below meth c A C hrt9 hnm hE
  obtain ⟨Q, hQ⟩ : ∃ Q, Q = (vx_MQ below (va_Qi (fun v9 w' => (e1 n rc) = 0 ∧ v9 = bs (n9 (R (ix rc))) ∧ ∃ (T' U' tx' : Nat → Int32) (sz' : Int32), w' = (KW k ad r (nI n) R T' U' tx' sz' Y)) (cBA D A) A) (xXA D A (fun E w' => ¬ (e1 n rc) = 0 ∧ E = exn (e1 n rc) ∧ ∃ (T' U' tx' : Nat → Int32) (sz' : Int32), w' = (KW k ad r (nI n) R T' U' tx' sz' Y))) args s 1 6 A) := ⟨_, rfl⟩
  show WP p l e (rmL 3 1 6) s m args below meth c D A 8 (KW k ad r (nI n) R T U tx sz Y) [(0, .ref (ad 0)), (1, .int rc)] 0 0 (vx_MQ below (va_Qi (fun v9 w' => (e1 n rc) = 0 ∧ v9 = bs (n9 (R (ix rc))) ∧ ∃ (T' U' tx' : Nat → Int32) (sz' : Int32), w' = (KW k ad r (nI n) R T' U' tx' sz' Y)) (cBA D A) A) (xXA D A (fun E w' => ¬ (e1 n rc) = 0 ∧ E = exn (e1 n rc) ∧ ∃ (T' U' tx' : Nat → Int32) (sz' : Int32), w' = (KW k ad r (nI n) R T' U' tx' sz' Y))) args s 1 6 A) 0 []
  rw [← hQ]
  refine p_aload_n C rfl 0 rfl dX2_bestShift_0 ?_
  refine p_iload_n C rfl 1 rfl dX2_bestShift_1 ?_
  refine cx_Vr (As := [.int rc]) (rest := []) C (m_X2_rowOf l D k hfl hn (rc := rc)) 0 rfl rfl rfl qml_X2_36 qim_X2_rowOf qse_X2_X2_rowOf qin_X2 qco_X2_rowOf nd_X2_rowOf ⟨Nat.le_of_ble_eq_true rfl, Nat.le_of_ble_eq_true rfl⟩ (Nat.le_of_ble_eq_true rfl) ⟨Nat.le_of_ble_eq_true rfl, Nat.le_of_ble_eq_true rfl⟩ rfl dX2_bestShift_2 (fun E9 w9 h9 => by obtain ⟨hx9, rfl, rfl⟩ := h9; rw [hQ]; exact x_out C hE ⟨by rw [show e1 n rc = 1 from by unfold e1; rw [hx9]; rfl]; exact one_n0, by rw [show e1 n rc = 1 from by unfold e1; rw [hx9]; rfl]; exact exn_1.symm, _, _, _, _, rfl⟩ (by (try simp only [rmL_c, rmL_s]); omega) (by (try simp only [rmL_c, rmL_s]); omega)) (fun r9 w9 h9 => ?_)
  obtain ⟨i, hi, rfl, rfl, rfl⟩ := h9
  have vi := isR_of hn hi
  have hi6 : i < 16 := by omega
  have hnr : n9 (R i) = R i := hnrm i hi
  refine p_astore_n (lv9 := [(2, .ref (r i)), (0, .ref (ad 0)), (1, .int (nI i))]) C rfl (by decide) rfl dX2_bestShift_5 ?_
  refine p_iconst (v := 0) C (by decide) dX2_bestShift_6 ?_
  refine p_istore_n (lv9 := [(3, .int 0), (2, .ref (r i)), (0, .ref (ad 0)), (1, .int (nI i))]) C rfl (by decide) rfl dX2_bestShift_7 ?_
  refine p_aload_n C rfl 1 rfl dX2_bestShift_8 ?_
  refine c_Si (As := [.ref (r i)]) (rest := []) C (m_X1_parts l D k (u := (i + 6))  (KW_row hi6)) qml_X2_121 qst_X1_parts qin_X1 qco_X1_parts nd_X1_parts ⟨Nat.le_of_ble_eq_true rfl, Nat.le_of_ble_eq_true rfl⟩ (Nat.le_of_ble_eq_true rfl) ⟨Nat.le_of_ble_eq_true rfl, Nat.le_of_ble_eq_true rfl⟩ rfl dX2_bestShift_9 (fun r9 w9 h9 => ?_)
  obtain ⟨rfl, rfl⟩ := h9
  refine p_istore (lv9 := [(4, .int (nI (pt (R i)))), (3, .int 0), (2, .ref (r i)), (0, .ref (ad 0)), (1, .int (nI i))]) C (by decide) rfl dX2_bestShift_12 ?_
  refine p_iconst (v := (nI 1)) C (by decide) dX2_bestShift_14 ?_
  refine p_istore (lv9 := [(5, .int (nI 1)), (4, .int (nI (pt (R i)))), (3, .int 0), (2, .ref (r i)), (0, .ref (ad 0)), (1, .int (nI i))]) C (by decide) rfl dX2_bestShift_15 ?_
  refine p_lv (lv9 := [(0, .ref (ad 0)), (2, .ref (r i)), (3, .int 0), (4, .int (nI (pt (R i)))), (5, .int (nI 1))]) [4, 3, 2, 1, 0] rfl ?_
  have lp17 : ∀ (n17 : Nat) (b9 : Nat) (T8 : Nat → Int32), (hb : b9 + n17 = 20) → WP p l e (rmL 3 1 6) s m args below meth c D A 8 (KW k ad r (nI n) R T8 U tx sz Y) [(0, .ref (ad 0)), (2, .ref (r i)), (3, .int ((bsN (R i) b9).1)), (4, .int (nI (bsN (R i) b9).2)), (5, .int (nI (b9 + 1)))] 1 6 Q 17 [] := by
    intro n17
    induction n17 with
    | zero =>
      intro b9 T8 hb
      obtain rfl : b9 = 20 := by omega
      refine p_iload C 4 rfl dX2_bestShift_17 ?_
      refine p_bipush (v := 20) C (by decide) dX2_bestShift_19 ?_
      refine p_icmp_gt C 74 (by decide) dX2_bestShift_21 (fun c_21 => ?_) (fun c_21 => absurd c_21 (by decide))
      refine p_iload_n C rfl 2 rfl dX2_bestShift_74 ?_
      rw [hQ]
      exact rx_i C hrt9 (⟨by unfold e1; rw [vi]; rfl, by rw [ix_nI (show i < 2 ^ 31 by omega), hnr]; rfl, _, _, _, _, rfl⟩) (by (try simp only [rmL_c, rmL_s]); omega) (by (try simp only [rmL_c, rmL_s]); omega) dX2_bestShift_75
    | succ n17 ih17 =>
      intro b9 T8 hb
      have hb0 := bsN_9 (R i) b9
      have hb1 := bsI_9 (R i) (1 * nI (b9 + 1)) hb0
      refine p_iload C 4 rfl dX2_bestShift_17 ?_
      refine p_bipush (v := 20) C (by decide) dX2_bestShift_19 ?_
      refine p_icmp_gt C 74 (by decide) dX2_bestShift_21 (fun c_21 => absurd c_21 (nI_nlt (a := 20) (by omega) (by omega))) (fun c_21 => ?_)
      refine p_iconst (v := 1) C (by decide) dX2_bestShift_24 ?_
      refine p_istore (lv9 := [(6, .int 1), (0, .ref (ad 0)), (2, .ref (r i)), (3, .int ((bsN (R i) b9).1)), (4, .int (nI (bsN (R i) b9).2)), (5, .int (nI (b9 + 1)))]) C (by decide) rfl dX2_bestShift_25 ?_
      refine p_iload C 0 rfl dX2_bestShift_27 ?_
      refine p_iconst (v := (-1)) C (by decide) dX2_bestShift_29 ?_
      refine p_icmp_lt C 68 (by decide) dX2_bestShift_30 (fun c_30 => absurd c_30 (by decide)) (fun c_30 => ?_)
      refine p_aload_n C rfl 1 rfl dX2_bestShift_33 ?_
      refine p_aload_n C rfl 2 rfl dX2_bestShift_34 ?_
      refine p_iload C 0 rfl dX2_bestShift_35 ?_
      refine p_iload C 5 rfl dX2_bestShift_37 ?_
      refine p_imul C dX2_bestShift_39 ?_
      refine c_Vi (As := [.ref (r i), .int (1 * (nI (b9 + 1)))]) (rest := []) C (m_X2_partsWhenMoved l D k (i := i) (x := (1 * (nI (b9 + 1)))) hi6) 0 rfl rfl rfl qml_X2_131 qim_X2_partsWhenMoved qse_X2_X2_partsWhenMoved qin_X2 qco_X2_partsWhenMoved nd_X2_partsWhenMoved ⟨Nat.le_of_ble_eq_true rfl, Nat.le_of_ble_eq_true rfl⟩ (Nat.le_of_ble_eq_true rfl) ⟨Nat.le_of_ble_eq_true rfl, Nat.le_of_ble_eq_true rfl⟩ rfl dX2_bestShift_40 (fun r9 w9 h9 => ?_)
      obtain ⟨e9, T7, rfl⟩ := h9
      refine p_int e9 ?_
      refine p_int (y := (nI (pt (mv (R i) (1 * (nI (b9 + 1))))))) (by rw [hnr]) ?_
      refine p_istore (lv9 := [(7, .int (nI (pt (mv (R i) (1 * (nI (b9 + 1))))))), (6, .int 1), (0, .ref (ad 0)), (2, .ref (r i)), (3, .int ((bsN (R i) b9).1)), (4, .int (nI (bsN (R i) b9).2)), (5, .int (nI (b9 + 1)))]) C (by decide) rfl dX2_bestShift_43 ?_
      refine p_iload C 0 rfl dX2_bestShift_45 ?_
      refine p_iload C 5 rfl dX2_bestShift_47 ?_
      refine p_icmp_ge C 62 (by decide) dX2_bestShift_49 (fun c_49 => ?_) (fun c_49 => ?_)
      · have hs1 : bsI (R i) (1 * nI (b9 + 1)) (bsN (R i) b9) = (bsN (R i) b9) := bsI_n c_49 (by omega)
        refine p_lv (lv9 := [(0, .ref (ad 0)), (2, .ref (r i)), (3, .int ((bsN (R i) b9).1)), (4, .int (nI (bsN (R i) b9).2)), (5, .int (nI (b9 + 1))), (6, .int 1)]) [2, 3, 4, 5, 6, 1] rfl ?_
        refine p_lvE (lv9 := [(0, .ref (ad 0)), (2, .ref (r i)), (3, .int ((bsI (R i) (1 * nI (b9 + 1)) (bsN (R i) b9)).1)), (4, .int (nI (bsI (R i) (1 * nI (b9 + 1)) (bsN (R i) b9)).2)), (5, .int (nI (b9 + 1))), (6, .int 1)]) (by rw [hs1]) ?_
        refine p_iinc (lv9 := [(6, .int (-1)), (0, .ref (ad 0)), (2, .ref (r i)), (3, .int ((bsI (R i) (1 * nI (b9 + 1)) (bsN (R i) b9)).1)), (4, .int (nI (bsI (R i) (1 * nI (b9 + 1)) (bsN (R i) b9)).2)), (5, .int (nI (b9 + 1)))]) (v := (-1)) C (j := 5) rfl (by decide) (by decide) rfl dX2_bestShift_62 ?_
        refine p_goto C 27 (by decide) dX2_bestShift_65 ?_
        refine p_iload C 0 rfl dX2_bestShift_27 ?_
        refine p_iconst (v := (-1)) C (by decide) dX2_bestShift_29 ?_
        refine p_icmp_lt C 68 (by decide) dX2_bestShift_30 (fun c_30 => absurd c_30 (by decide)) (fun c_30 => ?_)
        refine p_aload_n C rfl 1 rfl dX2_bestShift_33 ?_
        refine p_aload_n C rfl 2 rfl dX2_bestShift_34 ?_
        refine p_iload C 0 rfl dX2_bestShift_35 ?_
        refine p_iload C 5 rfl dX2_bestShift_37 ?_
        refine p_imul C dX2_bestShift_39 ?_
        refine c_Vi (As := [.ref (r i), .int ((-1) * (nI (b9 + 1)))]) (rest := []) C (m_X2_partsWhenMoved l D k (i := i) (x := ((-1) * (nI (b9 + 1)))) hi6) 0 rfl rfl rfl qml_X2_131 qim_X2_partsWhenMoved qse_X2_X2_partsWhenMoved qin_X2 qco_X2_partsWhenMoved nd_X2_partsWhenMoved ⟨Nat.le_of_ble_eq_true rfl, Nat.le_of_ble_eq_true rfl⟩ (Nat.le_of_ble_eq_true rfl) ⟨Nat.le_of_ble_eq_true rfl, Nat.le_of_ble_eq_true rfl⟩ rfl dX2_bestShift_40 (fun r9 w9 h9 => ?_)
        obtain ⟨e9, T7, rfl⟩ := h9
        refine p_int e9 ?_
        refine p_int (y := (nI (pt (mv (R i) ((-1) * (nI (b9 + 1))))))) (by rw [hnr]) ?_
        refine p_istore (lv9 := [(7, .int (nI (pt (mv (R i) ((-1) * (nI (b9 + 1))))))), (6, .int (-1)), (0, .ref (ad 0)), (2, .ref (r i)), (3, .int ((bsI (R i) (1 * nI (b9 + 1)) (bsN (R i) b9)).1)), (4, .int (nI (bsI (R i) (1 * nI (b9 + 1)) (bsN (R i) b9)).2)), (5, .int (nI (b9 + 1)))]) C (by decide) rfl dX2_bestShift_43 ?_
        refine p_iload C 0 rfl dX2_bestShift_45 ?_
        refine p_iload C 5 rfl dX2_bestShift_47 ?_
        refine p_icmp_ge C 62 (by decide) dX2_bestShift_49 (fun c_49 => ?_) (fun c_49 => ?_)
        · have hs2 : bsI (R i) ((-1) * nI (b9 + 1)) (bsI (R i) (1 * nI (b9 + 1)) (bsN (R i) b9)) = (bsI (R i) (1 * nI (b9 + 1)) (bsN (R i) b9)) := bsI_n c_49 (by omega)
          refine p_lv (lv9 := [(0, .ref (ad 0)), (2, .ref (r i)), (3, .int ((bsI (R i) (1 * nI (b9 + 1)) (bsN (R i) b9)).1)), (4, .int (nI (bsI (R i) (1 * nI (b9 + 1)) (bsN (R i) b9)).2)), (5, .int (nI (b9 + 1))), (6, .int (-1))]) [2, 3, 4, 5, 6, 1] rfl ?_
          refine p_lvE (lv9 := [(0, .ref (ad 0)), (2, .ref (r i)), (3, .int ((bsI (R i) ((-1) * nI (b9 + 1)) (bsI (R i) (1 * nI (b9 + 1)) (bsN (R i) b9))).1)), (4, .int (nI (bsI (R i) ((-1) * nI (b9 + 1)) (bsI (R i) (1 * nI (b9 + 1)) (bsN (R i) b9))).2)), (5, .int (nI (b9 + 1))), (6, .int (-1))]) (by rw [hs2]) ?_
          refine p_iinc (lv9 := [(6, .int (-3)), (0, .ref (ad 0)), (2, .ref (r i)), (3, .int ((bsI (R i) ((-1) * nI (b9 + 1)) (bsI (R i) (1 * nI (b9 + 1)) (bsN (R i) b9))).1)), (4, .int (nI (bsI (R i) ((-1) * nI (b9 + 1)) (bsI (R i) (1 * nI (b9 + 1)) (bsN (R i) b9))).2)), (5, .int (nI (b9 + 1)))]) (v := (-3)) C (j := 5) rfl (by decide) (by decide) rfl dX2_bestShift_62 ?_
          refine p_goto C 27 (by decide) dX2_bestShift_65 ?_
          refine p_iload C 0 rfl dX2_bestShift_27 ?_
          refine p_iconst (v := (-1)) C (by decide) dX2_bestShift_29 ?_
          refine p_icmp_lt C 68 (by decide) dX2_bestShift_30 (fun c_30 => ?_) (fun c_30 => absurd (by decide) c_30)
          refine p_iinc (lv9 := [(5, .int (nI (b9 + 1 + 1))), (6, .int (-3)), (0, .ref (ad 0)), (2, .ref (r i)), (3, .int ((bsI (R i) ((-1) * nI (b9 + 1)) (bsI (R i) (1 * nI (b9 + 1)) (bsN (R i) b9))).1)), (4, .int (nI (bsI (R i) ((-1) * nI (b9 + 1)) (bsI (R i) (1 * nI (b9 + 1)) (bsN (R i) b9))).2))]) (v := (nI (b9 + 1 + 1))) C (j := 5) rfl (i_up _) (by decide) rfl dX2_bestShift_68 ?_
          refine p_goto C 17 (by decide) dX2_bestShift_71 ?_
          refine p_lv (lv9 := [(0, .ref (ad 0)), (2, .ref (r i)), (3, .int ((bsI (R i) ((-1) * nI (b9 + 1)) (bsI (R i) (1 * nI (b9 + 1)) (bsN (R i) b9))).1)), (4, .int (nI (bsI (R i) ((-1) * nI (b9 + 1)) (bsI (R i) (1 * nI (b9 + 1)) (bsN (R i) b9))).2)), (5, .int (nI (b9 + 1 + 1)))]) [2, 3, 4, 5, 0] rfl ?_
          exact ih17 (b9 + 1) _ (by omega)
        · have hs2 : bsI (R i) ((-1) * nI (b9 + 1)) (bsI (R i) (1 * nI (b9 + 1)) (bsN (R i) b9)) = ((-1) * nI (b9 + 1), pt (mv (R i) ((-1) * nI (b9 + 1)))) := bsI_y (Int32.not_le.mp c_49) (by omega)
          refine p_iload C 1 rfl dX2_bestShift_52 ?_
          refine p_iload C 6 rfl dX2_bestShift_54 ?_
          refine p_imul C dX2_bestShift_56 ?_
          refine p_istore_n (lv9 := [(3, .int ((-1) * (nI (b9 + 1)))), (7, .int (nI (pt (mv (R i) ((-1) * (nI (b9 + 1))))))), (6, .int (-1)), (0, .ref (ad 0)), (2, .ref (r i)), (4, .int (nI (bsI (R i) (1 * nI (b9 + 1)) (bsN (R i) b9)).2)), (5, .int (nI (b9 + 1)))]) C rfl (by decide) rfl dX2_bestShift_57 ?_
          refine p_iload C 1 rfl dX2_bestShift_58 ?_
          refine p_istore (lv9 := [(4, .int (nI (pt (mv (R i) ((-1) * (nI (b9 + 1))))))), (3, .int ((-1) * (nI (b9 + 1)))), (7, .int (nI (pt (mv (R i) ((-1) * (nI (b9 + 1))))))), (6, .int (-1)), (0, .ref (ad 0)), (2, .ref (r i)), (5, .int (nI (b9 + 1)))]) C (by decide) rfl dX2_bestShift_60 ?_
          refine p_lv (lv9 := [(0, .ref (ad 0)), (2, .ref (r i)), (3, .int ((-1) * (nI (b9 + 1)))), (4, .int (nI (pt (mv (R i) ((-1) * (nI (b9 + 1))))))), (5, .int (nI (b9 + 1))), (6, .int (-1))]) [4, 5, 1, 0, 6, 3] rfl ?_
          refine p_lvE (lv9 := [(0, .ref (ad 0)), (2, .ref (r i)), (3, .int ((bsI (R i) ((-1) * nI (b9 + 1)) (bsI (R i) (1 * nI (b9 + 1)) (bsN (R i) b9))).1)), (4, .int (nI (bsI (R i) ((-1) * nI (b9 + 1)) (bsI (R i) (1 * nI (b9 + 1)) (bsN (R i) b9))).2)), (5, .int (nI (b9 + 1))), (6, .int (-1))]) (by rw [hs2]) ?_
          refine p_iinc (lv9 := [(6, .int (-3)), (0, .ref (ad 0)), (2, .ref (r i)), (3, .int ((bsI (R i) ((-1) * nI (b9 + 1)) (bsI (R i) (1 * nI (b9 + 1)) (bsN (R i) b9))).1)), (4, .int (nI (bsI (R i) ((-1) * nI (b9 + 1)) (bsI (R i) (1 * nI (b9 + 1)) (bsN (R i) b9))).2)), (5, .int (nI (b9 + 1)))]) (v := (-3)) C (j := 5) rfl (by decide) (by decide) rfl dX2_bestShift_62 ?_
          refine p_goto C 27 (by decide) dX2_bestShift_65 ?_
          refine p_iload C 0 rfl dX2_bestShift_27 ?_
          refine p_iconst (v := (-1)) C (by decide) dX2_bestShift_29 ?_
          refine p_icmp_lt C 68 (by decide) dX2_bestShift_30 (fun c_30 => ?_) (fun c_30 => absurd (by decide) c_30)
          refine p_iinc (lv9 := [(5, .int (nI (b9 + 1 + 1))), (6, .int (-3)), (0, .ref (ad 0)), (2, .ref (r i)), (3, .int ((bsI (R i) ((-1) * nI (b9 + 1)) (bsI (R i) (1 * nI (b9 + 1)) (bsN (R i) b9))).1)), (4, .int (nI (bsI (R i) ((-1) * nI (b9 + 1)) (bsI (R i) (1 * nI (b9 + 1)) (bsN (R i) b9))).2))]) (v := (nI (b9 + 1 + 1))) C (j := 5) rfl (i_up _) (by decide) rfl dX2_bestShift_68 ?_
          refine p_goto C 17 (by decide) dX2_bestShift_71 ?_
          refine p_lv (lv9 := [(0, .ref (ad 0)), (2, .ref (r i)), (3, .int ((bsI (R i) ((-1) * nI (b9 + 1)) (bsI (R i) (1 * nI (b9 + 1)) (bsN (R i) b9))).1)), (4, .int (nI (bsI (R i) ((-1) * nI (b9 + 1)) (bsI (R i) (1 * nI (b9 + 1)) (bsN (R i) b9))).2)), (5, .int (nI (b9 + 1 + 1)))]) [2, 3, 4, 5, 0] rfl ?_
          exact ih17 (b9 + 1) _ (by omega)
      · have hs1 : bsI (R i) (1 * nI (b9 + 1)) (bsN (R i) b9) = (1 * nI (b9 + 1), pt (mv (R i) (1 * nI (b9 + 1)))) := bsI_y (Int32.not_le.mp c_49) (by omega)
        refine p_iload C 1 rfl dX2_bestShift_52 ?_
        refine p_iload C 6 rfl dX2_bestShift_54 ?_
        refine p_imul C dX2_bestShift_56 ?_
        refine p_istore_n (lv9 := [(3, .int (1 * (nI (b9 + 1)))), (7, .int (nI (pt (mv (R i) (1 * (nI (b9 + 1))))))), (6, .int 1), (0, .ref (ad 0)), (2, .ref (r i)), (4, .int (nI (bsN (R i) b9).2)), (5, .int (nI (b9 + 1)))]) C rfl (by decide) rfl dX2_bestShift_57 ?_
        refine p_iload C 1 rfl dX2_bestShift_58 ?_
        refine p_istore (lv9 := [(4, .int (nI (pt (mv (R i) (1 * (nI (b9 + 1))))))), (3, .int (1 * (nI (b9 + 1)))), (7, .int (nI (pt (mv (R i) (1 * (nI (b9 + 1))))))), (6, .int 1), (0, .ref (ad 0)), (2, .ref (r i)), (5, .int (nI (b9 + 1)))]) C (by decide) rfl dX2_bestShift_60 ?_
        refine p_lv (lv9 := [(0, .ref (ad 0)), (2, .ref (r i)), (3, .int (1 * (nI (b9 + 1)))), (4, .int (nI (pt (mv (R i) (1 * (nI (b9 + 1))))))), (5, .int (nI (b9 + 1))), (6, .int 1)]) [4, 5, 1, 0, 6, 3] rfl ?_
        refine p_lvE (lv9 := [(0, .ref (ad 0)), (2, .ref (r i)), (3, .int ((bsI (R i) (1 * nI (b9 + 1)) (bsN (R i) b9)).1)), (4, .int (nI (bsI (R i) (1 * nI (b9 + 1)) (bsN (R i) b9)).2)), (5, .int (nI (b9 + 1))), (6, .int 1)]) (by rw [hs1]) ?_
        refine p_iinc (lv9 := [(6, .int (-1)), (0, .ref (ad 0)), (2, .ref (r i)), (3, .int ((bsI (R i) (1 * nI (b9 + 1)) (bsN (R i) b9)).1)), (4, .int (nI (bsI (R i) (1 * nI (b9 + 1)) (bsN (R i) b9)).2)), (5, .int (nI (b9 + 1)))]) (v := (-1)) C (j := 5) rfl (by decide) (by decide) rfl dX2_bestShift_62 ?_
        refine p_goto C 27 (by decide) dX2_bestShift_65 ?_
        refine p_iload C 0 rfl dX2_bestShift_27 ?_
        refine p_iconst (v := (-1)) C (by decide) dX2_bestShift_29 ?_
        refine p_icmp_lt C 68 (by decide) dX2_bestShift_30 (fun c_30 => absurd c_30 (by decide)) (fun c_30 => ?_)
        refine p_aload_n C rfl 1 rfl dX2_bestShift_33 ?_
        refine p_aload_n C rfl 2 rfl dX2_bestShift_34 ?_
        refine p_iload C 0 rfl dX2_bestShift_35 ?_
        refine p_iload C 5 rfl dX2_bestShift_37 ?_
        refine p_imul C dX2_bestShift_39 ?_
        refine c_Vi (As := [.ref (r i), .int ((-1) * (nI (b9 + 1)))]) (rest := []) C (m_X2_partsWhenMoved l D k (i := i) (x := ((-1) * (nI (b9 + 1)))) hi6) 0 rfl rfl rfl qml_X2_131 qim_X2_partsWhenMoved qse_X2_X2_partsWhenMoved qin_X2 qco_X2_partsWhenMoved nd_X2_partsWhenMoved ⟨Nat.le_of_ble_eq_true rfl, Nat.le_of_ble_eq_true rfl⟩ (Nat.le_of_ble_eq_true rfl) ⟨Nat.le_of_ble_eq_true rfl, Nat.le_of_ble_eq_true rfl⟩ rfl dX2_bestShift_40 (fun r9 w9 h9 => ?_)
        obtain ⟨e9, T7, rfl⟩ := h9
        refine p_int e9 ?_
        refine p_int (y := (nI (pt (mv (R i) ((-1) * (nI (b9 + 1))))))) (by rw [hnr]) ?_
        refine p_istore (lv9 := [(7, .int (nI (pt (mv (R i) ((-1) * (nI (b9 + 1))))))), (6, .int (-1)), (0, .ref (ad 0)), (2, .ref (r i)), (3, .int ((bsI (R i) (1 * nI (b9 + 1)) (bsN (R i) b9)).1)), (4, .int (nI (bsI (R i) (1 * nI (b9 + 1)) (bsN (R i) b9)).2)), (5, .int (nI (b9 + 1)))]) C (by decide) rfl dX2_bestShift_43 ?_
        refine p_iload C 0 rfl dX2_bestShift_45 ?_
        refine p_iload C 5 rfl dX2_bestShift_47 ?_
        refine p_icmp_ge C 62 (by decide) dX2_bestShift_49 (fun c_49 => ?_) (fun c_49 => ?_)
        · have hs2 : bsI (R i) ((-1) * nI (b9 + 1)) (bsI (R i) (1 * nI (b9 + 1)) (bsN (R i) b9)) = (bsI (R i) (1 * nI (b9 + 1)) (bsN (R i) b9)) := bsI_n c_49 (by omega)
          refine p_lv (lv9 := [(0, .ref (ad 0)), (2, .ref (r i)), (3, .int ((bsI (R i) (1 * nI (b9 + 1)) (bsN (R i) b9)).1)), (4, .int (nI (bsI (R i) (1 * nI (b9 + 1)) (bsN (R i) b9)).2)), (5, .int (nI (b9 + 1))), (6, .int (-1))]) [2, 3, 4, 5, 6, 1] rfl ?_
          refine p_lvE (lv9 := [(0, .ref (ad 0)), (2, .ref (r i)), (3, .int ((bsI (R i) ((-1) * nI (b9 + 1)) (bsI (R i) (1 * nI (b9 + 1)) (bsN (R i) b9))).1)), (4, .int (nI (bsI (R i) ((-1) * nI (b9 + 1)) (bsI (R i) (1 * nI (b9 + 1)) (bsN (R i) b9))).2)), (5, .int (nI (b9 + 1))), (6, .int (-1))]) (by rw [hs2]) ?_
          refine p_iinc (lv9 := [(6, .int (-3)), (0, .ref (ad 0)), (2, .ref (r i)), (3, .int ((bsI (R i) ((-1) * nI (b9 + 1)) (bsI (R i) (1 * nI (b9 + 1)) (bsN (R i) b9))).1)), (4, .int (nI (bsI (R i) ((-1) * nI (b9 + 1)) (bsI (R i) (1 * nI (b9 + 1)) (bsN (R i) b9))).2)), (5, .int (nI (b9 + 1)))]) (v := (-3)) C (j := 5) rfl (by decide) (by decide) rfl dX2_bestShift_62 ?_
          refine p_goto C 27 (by decide) dX2_bestShift_65 ?_
          refine p_iload C 0 rfl dX2_bestShift_27 ?_
          refine p_iconst (v := (-1)) C (by decide) dX2_bestShift_29 ?_
          refine p_icmp_lt C 68 (by decide) dX2_bestShift_30 (fun c_30 => ?_) (fun c_30 => absurd (by decide) c_30)
          refine p_iinc (lv9 := [(5, .int (nI (b9 + 1 + 1))), (6, .int (-3)), (0, .ref (ad 0)), (2, .ref (r i)), (3, .int ((bsI (R i) ((-1) * nI (b9 + 1)) (bsI (R i) (1 * nI (b9 + 1)) (bsN (R i) b9))).1)), (4, .int (nI (bsI (R i) ((-1) * nI (b9 + 1)) (bsI (R i) (1 * nI (b9 + 1)) (bsN (R i) b9))).2))]) (v := (nI (b9 + 1 + 1))) C (j := 5) rfl (i_up _) (by decide) rfl dX2_bestShift_68 ?_
          refine p_goto C 17 (by decide) dX2_bestShift_71 ?_
          refine p_lv (lv9 := [(0, .ref (ad 0)), (2, .ref (r i)), (3, .int ((bsI (R i) ((-1) * nI (b9 + 1)) (bsI (R i) (1 * nI (b9 + 1)) (bsN (R i) b9))).1)), (4, .int (nI (bsI (R i) ((-1) * nI (b9 + 1)) (bsI (R i) (1 * nI (b9 + 1)) (bsN (R i) b9))).2)), (5, .int (nI (b9 + 1 + 1)))]) [2, 3, 4, 5, 0] rfl ?_
          exact ih17 (b9 + 1) _ (by omega)
        · have hs2 : bsI (R i) ((-1) * nI (b9 + 1)) (bsI (R i) (1 * nI (b9 + 1)) (bsN (R i) b9)) = ((-1) * nI (b9 + 1), pt (mv (R i) ((-1) * nI (b9 + 1)))) := bsI_y (Int32.not_le.mp c_49) (by omega)
          refine p_iload C 1 rfl dX2_bestShift_52 ?_
          refine p_iload C 6 rfl dX2_bestShift_54 ?_
          refine p_imul C dX2_bestShift_56 ?_
          refine p_istore_n (lv9 := [(3, .int ((-1) * (nI (b9 + 1)))), (7, .int (nI (pt (mv (R i) ((-1) * (nI (b9 + 1))))))), (6, .int (-1)), (0, .ref (ad 0)), (2, .ref (r i)), (4, .int (nI (bsI (R i) (1 * nI (b9 + 1)) (bsN (R i) b9)).2)), (5, .int (nI (b9 + 1)))]) C rfl (by decide) rfl dX2_bestShift_57 ?_
          refine p_iload C 1 rfl dX2_bestShift_58 ?_
          refine p_istore (lv9 := [(4, .int (nI (pt (mv (R i) ((-1) * (nI (b9 + 1))))))), (3, .int ((-1) * (nI (b9 + 1)))), (7, .int (nI (pt (mv (R i) ((-1) * (nI (b9 + 1))))))), (6, .int (-1)), (0, .ref (ad 0)), (2, .ref (r i)), (5, .int (nI (b9 + 1)))]) C (by decide) rfl dX2_bestShift_60 ?_
          refine p_lv (lv9 := [(0, .ref (ad 0)), (2, .ref (r i)), (3, .int ((-1) * (nI (b9 + 1)))), (4, .int (nI (pt (mv (R i) ((-1) * (nI (b9 + 1))))))), (5, .int (nI (b9 + 1))), (6, .int (-1))]) [4, 5, 1, 0, 6, 3] rfl ?_
          refine p_lvE (lv9 := [(0, .ref (ad 0)), (2, .ref (r i)), (3, .int ((bsI (R i) ((-1) * nI (b9 + 1)) (bsI (R i) (1 * nI (b9 + 1)) (bsN (R i) b9))).1)), (4, .int (nI (bsI (R i) ((-1) * nI (b9 + 1)) (bsI (R i) (1 * nI (b9 + 1)) (bsN (R i) b9))).2)), (5, .int (nI (b9 + 1))), (6, .int (-1))]) (by rw [hs2]) ?_
          refine p_iinc (lv9 := [(6, .int (-3)), (0, .ref (ad 0)), (2, .ref (r i)), (3, .int ((bsI (R i) ((-1) * nI (b9 + 1)) (bsI (R i) (1 * nI (b9 + 1)) (bsN (R i) b9))).1)), (4, .int (nI (bsI (R i) ((-1) * nI (b9 + 1)) (bsI (R i) (1 * nI (b9 + 1)) (bsN (R i) b9))).2)), (5, .int (nI (b9 + 1)))]) (v := (-3)) C (j := 5) rfl (by decide) (by decide) rfl dX2_bestShift_62 ?_
          refine p_goto C 27 (by decide) dX2_bestShift_65 ?_
          refine p_iload C 0 rfl dX2_bestShift_27 ?_
          refine p_iconst (v := (-1)) C (by decide) dX2_bestShift_29 ?_
          refine p_icmp_lt C 68 (by decide) dX2_bestShift_30 (fun c_30 => ?_) (fun c_30 => absurd (by decide) c_30)
          refine p_iinc (lv9 := [(5, .int (nI (b9 + 1 + 1))), (6, .int (-3)), (0, .ref (ad 0)), (2, .ref (r i)), (3, .int ((bsI (R i) ((-1) * nI (b9 + 1)) (bsI (R i) (1 * nI (b9 + 1)) (bsN (R i) b9))).1)), (4, .int (nI (bsI (R i) ((-1) * nI (b9 + 1)) (bsI (R i) (1 * nI (b9 + 1)) (bsN (R i) b9))).2))]) (v := (nI (b9 + 1 + 1))) C (j := 5) rfl (i_up _) (by decide) rfl dX2_bestShift_68 ?_
          refine p_goto C 17 (by decide) dX2_bestShift_71 ?_
          refine p_lv (lv9 := [(0, .ref (ad 0)), (2, .ref (r i)), (3, .int ((bsI (R i) ((-1) * nI (b9 + 1)) (bsI (R i) (1 * nI (b9 + 1)) (bsN (R i) b9))).1)), (4, .int (nI (bsI (R i) ((-1) * nI (b9 + 1)) (bsI (R i) (1 * nI (b9 + 1)) (bsN (R i) b9))).2)), (5, .int (nI (b9 + 1 + 1)))]) [2, 3, 4, 5, 0] rfl ?_
          exact ih17 (b9 + 1) _ (by omega)
  exact lp17 20 0 T (by decide)
