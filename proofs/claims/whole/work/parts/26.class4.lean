theorem sc_0 {f : Nat → Int32} {j : Nat} (h : f j = 0) : scN f (j + 1) = scN f j := if_pos h
theorem sc_a {f : Nat → Int32} {j : Nat} (h : ¬ f j = 0) (h2 : ¬ (¬ (scN f j).1 = 0 ∧ ¬ ((scN f j).1 < 0 ↔ f j < 0))) : scN f (j + 1) = (f j, (scN f j).2) := by
  show (if f j = 0 then scN f j else (f j, if _ then _ else _)) = _
  rw [if_neg h, if_neg h2]
theorem sc_b {f : Nat → Int32} {j : Nat} (h : ¬ f j = 0) (h2 : ¬ (scN f j).1 = 0 ∧ ¬ ((scN f j).1 < 0 ↔ f j < 0)) : scN f (j + 1) = (f j, (scN f j).2 + 1) := by
  show (if f j = 0 then scN f j else (f j, if _ then _ else _)) = _
  rw [if_neg h, if_pos h2]
set_option maxHeartbeats 4000000 in
set_option maxRecDepth 100000 in
/-- X2_signChanges -/
theorem m_X2_signChanges (l : Launch) (D : va_G) (k : Nat → ClassId) (hfl : l.stackTraces = false) {ad r : Nat → Nat} {n : Nat} {R : Nat → Nat → Int32} {T U tx : Nat → Int32} {sz : Int32} {Y : va_W} (hn : n ≤ 16) {rc : Int32} : XtI l D k yX2_signChanges (wU yX2_signChanges cX2_signChanges 7 (some .int)) (rmL 2 1 6) [.ref (ad 0), .int rc] (KW k ad r (nI n) R T U tx sz Y) (fun v9 w' => (e1 n rc) = 0 ∧ v9 = nI (sc (R (ix rc))) ∧ ∃ (T' U' tx' : Nat → Int32) (sz' : Int32), w' = (KW k ad r (nI n) R T' U' tx' sz' Y)) (fun E w' => ¬ (e1 n rc) = 0 ∧ E = exn (e1 n rc) ∧ ∃ (T' U' tx' : Nat → Int32) (sz' : Int32), w' = (KW k ad r (nI n) R T' U' tx' sz' Y)) := by
  refine openXI (own := RX2) rfl (by decide) (Nat.le_of_ble_eq_true rfl) rfl ?_
  intro p e s m args below meth c A C hrt9 hnm hE
  obtain ⟨Q, hQ⟩ : ∃ Q, Q = (vx_MQ below (va_Qi (fun v9 w' => (e1 n rc) = 0 ∧ v9 = nI (sc (R (ix rc))) ∧ ∃ (T' U' tx' : Nat → Int32) (sz' : Int32), w' = (KW k ad r (nI n) R T' U' tx' sz' Y)) (cBA D A) A) (xXA D A (fun E w' => ¬ (e1 n rc) = 0 ∧ E = exn (e1 n rc) ∧ ∃ (T' U' tx' : Nat → Int32) (sz' : Int32), w' = (KW k ad r (nI n) R T' U' tx' sz' Y))) args s 1 6 A) := ⟨_, rfl⟩
  show WP p l e (rmL 2 1 6) s m args below meth c D A 7 (KW k ad r (nI n) R T U tx sz Y) [(0, .ref (ad 0)), (1, .int rc)] 0 0 (vx_MQ below (va_Qi (fun v9 w' => (e1 n rc) = 0 ∧ v9 = nI (sc (R (ix rc))) ∧ ∃ (T' U' tx' : Nat → Int32) (sz' : Int32), w' = (KW k ad r (nI n) R T' U' tx' sz' Y)) (cBA D A) A) (xXA D A (fun E w' => ¬ (e1 n rc) = 0 ∧ E = exn (e1 n rc) ∧ ∃ (T' U' tx' : Nat → Int32) (sz' : Int32), w' = (KW k ad r (nI n) R T' U' tx' sz' Y))) args s 1 6 A) 0 []
  rw [← hQ]
  refine p_aload_n C rfl 0 rfl dX2_signChanges_0 ?_
  refine p_iload_n C rfl 1 rfl dX2_signChanges_1 ?_
  refine cx_Vr (As := [.int rc]) (rest := []) C (m_X2_rowOf l D k hfl hn (rc := rc)) 0 rfl rfl rfl qml_X2_36 qim_X2_rowOf qse_X2_X2_rowOf qin_X2 qco_X2_rowOf nd_X2_rowOf ⟨Nat.le_of_ble_eq_true rfl, Nat.le_of_ble_eq_true rfl⟩ (Nat.le_of_ble_eq_true rfl) ⟨Nat.le_of_ble_eq_true rfl, Nat.le_of_ble_eq_true rfl⟩ rfl dX2_signChanges_2 (fun E9 w9 h9 => by obtain ⟨hx9, rfl, rfl⟩ := h9; rw [hQ]; exact x_out C hE ⟨by rw [show e1 n rc = 1 from by unfold e1; rw [hx9]; rfl]; exact one_n0, by rw [show e1 n rc = 1 from by unfold e1; rw [hx9]; rfl]; exact exn_1.symm, _, _, _, _, rfl⟩ (by (try simp only [rmL_c, rmL_s]); omega) (by (try simp only [rmL_c, rmL_s]); omega)) (fun r9 w9 h9 => ?_)
  obtain ⟨i, hi, rfl, rfl, rfl⟩ := h9
  have vi := isR_of hn hi
  have hi6 : i < 16 := by omega
  refine p_astore_n (lv9 := [(2, .ref (r i)), (0, .ref (ad 0)), (1, .int (nI i))]) C rfl (by decide) rfl dX2_signChanges_5 ?_
  refine p_iconst (v := (nI 0)) C (by decide) dX2_signChanges_6 ?_
  refine p_istore_n (lv9 := [(3, .int (nI 0)), (2, .ref (r i)), (0, .ref (ad 0)), (1, .int (nI i))]) C rfl (by decide) rfl dX2_signChanges_7 ?_
  refine p_iconst (v := 0) C (by decide) dX2_signChanges_8 ?_
  refine p_istore (lv9 := [(4, .int 0), (3, .int (nI 0)), (2, .ref (r i)), (0, .ref (ad 0)), (1, .int (nI i))]) C (by decide) rfl dX2_signChanges_9 ?_
  refine p_iconst (v := (nI 0)) C (by decide) dX2_signChanges_11 ?_
  refine p_istore (lv9 := [(5, .int (nI 0)), (4, .int 0), (3, .int (nI 0)), (2, .ref (r i)), (0, .ref (ad 0)), (1, .int (nI i))]) C (by decide) rfl dX2_signChanges_12 ?_
  refine p_lv (lv9 := [(0, .ref (ad 0)), (2, .ref (r i)), (3, .int (nI 0)), (4, .int 0), (5, .int (nI 0))]) [4, 3, 2, 1, 0] rfl ?_
  have lp14 : ∀ (n14 : Nat) (b9 : Nat), (hb : b9 + n14 = 9) → WP p l e (rmL 2 1 6) s m args below meth c D A 7 (KW k ad r (nI n) R T U tx sz Y) [(0, .ref (ad 0)), (2, .ref (r i)), (3, .int (nI (scN (R i) b9).2)), (4, .int ((scN (R i) b9).1)), (5, .int (nI b9))] 1 6 Q 14 [] := by
    intro n14
    induction n14 with
    | zero =>
      intro b9 hb
      obtain rfl : b9 = 9 := by omega
      refine p_iload C 4 rfl dX2_signChanges_14 ?_
      refine p_bipush (v := 9) C (by decide) dX2_signChanges_16 ?_
      refine p_icmp_ge C 73 (by decide) dX2_signChanges_18 (fun c_18 => ?_) (fun c_18 => absurd c_18 (by decide))
      refine p_iload_n C rfl 2 rfl dX2_signChanges_73 ?_
      rw [hQ]
      exact rx_i C hrt9 (⟨by unfold e1; rw [vi]; rfl, by rw [ix_nI (show i < 2 ^ 31 by omega)]; rfl, _, _, _, _, rfl⟩) (by (try simp only [rmL_c, rmL_s]); omega) (by (try simp only [rmL_c, rmL_s]); omega) dX2_signChanges_74
    | succ n14 ih14 =>
      intro b9 hb
      refine p_iload C 4 rfl dX2_signChanges_14 ?_
      refine p_bipush (v := 9) C (by decide) dX2_signChanges_16 ?_
      refine p_icmp_ge C 73 (by decide) dX2_signChanges_18 (fun c_18 => absurd c_18 (nI_ge (b := 9) (show b9 < 9 by omega) (by decide))) (fun c_18 => ?_)
      refine p_aload_n C rfl 1 rfl dX2_signChanges_21 ?_
      refine p_iload C 4 rfl dX2_signChanges_22 ?_
      refine p_iald (v := ((R i) b9)) C (i + 6) (KW_row hi6) (vp_in_nI (n := b9) (N := 9) (by omega) (by omega)) (by rw [show ((nI b9)).toNatClampNeg = b9 from nI_clamp (by omega)]) dX2_signChanges_24 ?_
      refine p_istore (lv9 := [(6, .int ((R i) b9)), (0, .ref (ad 0)), (2, .ref (r i)), (3, .int (nI (scN (R i) b9).2)), (4, .int ((scN (R i) b9).1)), (5, .int (nI b9))]) C (by decide) rfl dX2_signChanges_25 ?_
      refine p_iload C 0 rfl dX2_signChanges_27 ?_
      refine p_if_eq C 67 (by decide) dX2_signChanges_29 (fun c_29 => ?_) (fun c_29 => ?_)
      · refine p_iinc (lv9 := [(5, .int (nI (b9 + 1))), (6, .int ((R i) b9)), (0, .ref (ad 0)), (2, .ref (r i)), (3, .int (nI (scN (R i) b9).2)), (4, .int ((scN (R i) b9).1))]) (v := (nI (b9 + 1))) C (j := 5) rfl (i_up b9) (by decide) rfl dX2_signChanges_67 ?_
        refine p_goto C 14 (by decide) dX2_signChanges_70 ?_
        refine p_lv (lv9 := [(0, .ref (ad 0)), (2, .ref (r i)), (3, .int (nI (scN (R i) b9).2)), (4, .int ((scN (R i) b9).1)), (5, .int (nI (b9 + 1)))]) [2, 3, 4, 5, 0] rfl ?_
        refine p_lvE (lv9 := [(0, .ref (ad 0)), (2, .ref (r i)), (3, .int (nI (scN (R i) (b9 + 1)).2)), (4, .int ((scN (R i) (b9 + 1)).1)), (5, .int (nI (b9 + 1)))]) (by rw [sc_0 c_29]) ?_
        exact ih14 (b9 + 1) (by omega)
      · refine p_iload C 4 rfl dX2_signChanges_32 ?_
        refine p_if_eq C 63 (by decide) dX2_signChanges_34 (fun c_34 => ?_) (fun c_34 => ?_)
        · refine p_iload C 0 rfl dX2_signChanges_63 ?_
          refine p_istore (lv9 := [(4, .int ((R i) b9)), (6, .int ((R i) b9)), (0, .ref (ad 0)), (2, .ref (r i)), (3, .int (nI (scN (R i) b9).2)), (5, .int (nI b9))]) C (by decide) rfl dX2_signChanges_65 ?_
          refine p_iinc (lv9 := [(5, .int (nI (b9 + 1))), (4, .int ((R i) b9)), (6, .int ((R i) b9)), (0, .ref (ad 0)), (2, .ref (r i)), (3, .int (nI (scN (R i) b9).2))]) (v := (nI (b9 + 1))) C (j := 5) rfl (i_up b9) (by decide) rfl dX2_signChanges_67 ?_
          refine p_goto C 14 (by decide) dX2_signChanges_70 ?_
          refine p_lv (lv9 := [(0, .ref (ad 0)), (2, .ref (r i)), (3, .int (nI (scN (R i) b9).2)), (4, .int ((R i) b9)), (5, .int (nI (b9 + 1)))]) [3, 4, 5, 1, 0] rfl ?_
          refine p_lvE (lv9 := [(0, .ref (ad 0)), (2, .ref (r i)), (3, .int (nI (scN (R i) (b9 + 1)).2)), (4, .int ((scN (R i) (b9 + 1)).1)), (5, .int (nI (b9 + 1)))]) (by rw [sc_a c_29 (fun z9 => z9.1 c_34)]) ?_
          exact ih14 (b9 + 1) (by omega)
        · refine p_iload C 4 rfl dX2_signChanges_37 ?_
          refine p_if_ge C 46 (by decide) dX2_signChanges_39 (fun c_39 => ?_) (fun c_39 => ?_)
          · refine p_iconst (v := 0) C (by decide) dX2_signChanges_46 ?_
            refine p_iload C 0 rfl dX2_signChanges_47 ?_
            refine p_if_ge C 56 (by decide) dX2_signChanges_49 (fun c_49 => ?_) (fun c_49 => ?_)
            · refine p_iconst (v := 0) C (by decide) dX2_signChanges_56 ?_
              refine p_icmp_eq C 63 (by decide) dX2_signChanges_57 (fun c_57 => ?_) (fun c_57 => absurd c_57 (by decide))
              refine p_iload C 0 rfl dX2_signChanges_63 ?_
              refine p_istore (lv9 := [(4, .int ((R i) b9)), (6, .int ((R i) b9)), (0, .ref (ad 0)), (2, .ref (r i)), (3, .int (nI (scN (R i) b9).2)), (5, .int (nI b9))]) C (by decide) rfl dX2_signChanges_65 ?_
              refine p_iinc (lv9 := [(5, .int (nI (b9 + 1))), (4, .int ((R i) b9)), (6, .int ((R i) b9)), (0, .ref (ad 0)), (2, .ref (r i)), (3, .int (nI (scN (R i) b9).2))]) (v := (nI (b9 + 1))) C (j := 5) rfl (i_up b9) (by decide) rfl dX2_signChanges_67 ?_
              refine p_goto C 14 (by decide) dX2_signChanges_70 ?_
              refine p_lv (lv9 := [(0, .ref (ad 0)), (2, .ref (r i)), (3, .int (nI (scN (R i) b9).2)), (4, .int ((R i) b9)), (5, .int (nI (b9 + 1)))]) [3, 4, 5, 1, 0] rfl ?_
              refine p_lvE (lv9 := [(0, .ref (ad 0)), (2, .ref (r i)), (3, .int (nI (scN (R i) (b9 + 1)).2)), (4, .int ((scN (R i) (b9 + 1)).1)), (5, .int (nI (b9 + 1)))]) (by rw [sc_a c_29 (fun z9 => z9.2 (iff_of_false (Int32.not_lt.mpr c_39) (Int32.not_lt.mpr c_49)))]) ?_
              exact ih14 (b9 + 1) (by omega)
            · refine p_iconst (v := 1) C (by decide) dX2_signChanges_52 ?_
              refine p_goto C 57 (by decide) dX2_signChanges_53 ?_
              refine p_icmp_eq C 63 (by decide) dX2_signChanges_57 (fun c_57 => absurd c_57 (by decide)) (fun c_57 => ?_)
              refine p_iinc (lv9 := [(3, .int (nI ((scN (R i) b9).2 + 1))), (6, .int ((R i) b9)), (0, .ref (ad 0)), (2, .ref (r i)), (4, .int ((scN (R i) b9).1)), (5, .int (nI b9))]) (v := (nI ((scN (R i) b9).2 + 1))) C (j := 3) rfl (i_up _) (by decide) rfl dX2_signChanges_60 ?_
              refine p_iload C 1 rfl dX2_signChanges_63 ?_
              refine p_istore (lv9 := [(4, .int ((R i) b9)), (3, .int (nI ((scN (R i) b9).2 + 1))), (6, .int ((R i) b9)), (0, .ref (ad 0)), (2, .ref (r i)), (5, .int (nI b9))]) C (by decide) rfl dX2_signChanges_65 ?_
              refine p_iinc (lv9 := [(5, .int (nI (b9 + 1))), (4, .int ((R i) b9)), (3, .int (nI ((scN (R i) b9).2 + 1))), (6, .int ((R i) b9)), (0, .ref (ad 0)), (2, .ref (r i))]) (v := (nI (b9 + 1))) C (j := 5) rfl (i_up b9) (by decide) rfl dX2_signChanges_67 ?_
              refine p_goto C 14 (by decide) dX2_signChanges_70 ?_
              refine p_lv (lv9 := [(0, .ref (ad 0)), (2, .ref (r i)), (3, .int (nI ((scN (R i) b9).2 + 1))), (4, .int ((R i) b9)), (5, .int (nI (b9 + 1)))]) [4, 5, 2, 1, 0] rfl ?_
              refine p_lvE (lv9 := [(0, .ref (ad 0)), (2, .ref (r i)), (3, .int (nI (scN (R i) (b9 + 1)).2)), (4, .int ((scN (R i) (b9 + 1)).1)), (5, .int (nI (b9 + 1)))]) (by rw [sc_b c_29 ⟨c_34, fun z9 => (Int32.not_lt.mpr c_39) (z9.mpr (Int32.not_le.mp c_49))⟩]) ?_
              exact ih14 (b9 + 1) (by omega)
          · refine p_iconst (v := 1) C (by decide) dX2_signChanges_42 ?_
            refine p_goto C 47 (by decide) dX2_signChanges_43 ?_
            refine p_iload C 0 rfl dX2_signChanges_47 ?_
            refine p_if_ge C 56 (by decide) dX2_signChanges_49 (fun c_49 => ?_) (fun c_49 => ?_)
            · refine p_iconst (v := 0) C (by decide) dX2_signChanges_56 ?_
              refine p_icmp_eq C 63 (by decide) dX2_signChanges_57 (fun c_57 => absurd c_57 (by decide)) (fun c_57 => ?_)
              refine p_iinc (lv9 := [(3, .int (nI ((scN (R i) b9).2 + 1))), (6, .int ((R i) b9)), (0, .ref (ad 0)), (2, .ref (r i)), (4, .int ((scN (R i) b9).1)), (5, .int (nI b9))]) (v := (nI ((scN (R i) b9).2 + 1))) C (j := 3) rfl (i_up _) (by decide) rfl dX2_signChanges_60 ?_
              refine p_iload C 1 rfl dX2_signChanges_63 ?_
              refine p_istore (lv9 := [(4, .int ((R i) b9)), (3, .int (nI ((scN (R i) b9).2 + 1))), (6, .int ((R i) b9)), (0, .ref (ad 0)), (2, .ref (r i)), (5, .int (nI b9))]) C (by decide) rfl dX2_signChanges_65 ?_
              refine p_iinc (lv9 := [(5, .int (nI (b9 + 1))), (4, .int ((R i) b9)), (3, .int (nI ((scN (R i) b9).2 + 1))), (6, .int ((R i) b9)), (0, .ref (ad 0)), (2, .ref (r i))]) (v := (nI (b9 + 1))) C (j := 5) rfl (i_up b9) (by decide) rfl dX2_signChanges_67 ?_
              refine p_goto C 14 (by decide) dX2_signChanges_70 ?_
              refine p_lv (lv9 := [(0, .ref (ad 0)), (2, .ref (r i)), (3, .int (nI ((scN (R i) b9).2 + 1))), (4, .int ((R i) b9)), (5, .int (nI (b9 + 1)))]) [4, 5, 2, 1, 0] rfl ?_
              refine p_lvE (lv9 := [(0, .ref (ad 0)), (2, .ref (r i)), (3, .int (nI (scN (R i) (b9 + 1)).2)), (4, .int ((scN (R i) (b9 + 1)).1)), (5, .int (nI (b9 + 1)))]) (by rw [sc_b c_29 ⟨c_34, fun z9 => (Int32.not_lt.mpr c_49) (z9.mp (Int32.not_le.mp c_39))⟩]) ?_
              exact ih14 (b9 + 1) (by omega)
            · refine p_iconst (v := 1) C (by decide) dX2_signChanges_52 ?_
              refine p_goto C 57 (by decide) dX2_signChanges_53 ?_
              refine p_icmp_eq C 63 (by decide) dX2_signChanges_57 (fun c_57 => ?_) (fun c_57 => absurd c_57 (by decide))
              refine p_iload C 0 rfl dX2_signChanges_63 ?_
              refine p_istore (lv9 := [(4, .int ((R i) b9)), (6, .int ((R i) b9)), (0, .ref (ad 0)), (2, .ref (r i)), (3, .int (nI (scN (R i) b9).2)), (5, .int (nI b9))]) C (by decide) rfl dX2_signChanges_65 ?_
              refine p_iinc (lv9 := [(5, .int (nI (b9 + 1))), (4, .int ((R i) b9)), (6, .int ((R i) b9)), (0, .ref (ad 0)), (2, .ref (r i)), (3, .int (nI (scN (R i) b9).2))]) (v := (nI (b9 + 1))) C (j := 5) rfl (i_up b9) (by decide) rfl dX2_signChanges_67 ?_
              refine p_goto C 14 (by decide) dX2_signChanges_70 ?_
              refine p_lv (lv9 := [(0, .ref (ad 0)), (2, .ref (r i)), (3, .int (nI (scN (R i) b9).2)), (4, .int ((R i) b9)), (5, .int (nI (b9 + 1)))]) [3, 4, 5, 1, 0] rfl ?_
              refine p_lvE (lv9 := [(0, .ref (ad 0)), (2, .ref (r i)), (3, .int (nI (scN (R i) (b9 + 1)).2)), (4, .int ((scN (R i) (b9 + 1)).1)), (5, .int (nI (b9 + 1)))]) (by rw [sc_a c_29 (fun z9 => z9.2 (iff_of_true (Int32.not_le.mp c_39) (Int32.not_le.mp c_49)))]) ?_
              exact ih14 (b9 + 1) (by omega)
  exact lp14 9 0 rfl
theorem e1_ok {n : Nat} {rc : Int32} (h : isR n rc = true) : e1 n rc = 0 := by unfold e1; rw [h]; rfl
theorem dgS_e (h x : Int64) : dgS h x = h * 31 + x := rfl
theorem dg8_s (f : Nat → Int32) (h : Int64) (j : Nat) : dg8 f h (j + 1) = dgS (dg8 f h j) (nuF f j).toInt64 := rfl
theorem dg3_e {f : Nat → Int32} {h : Int64} : ((h * 31 + (dI (dg f)).toInt64) * 31 + (bI (pln f)).toInt64) * 31 + lN (ct f) = dg3 f h := rfl
theorem gt_0 {a b c d e f g h : Int32} : [a, b, c, d, e, f, g, h].getD 0 0 = a := rfl
theorem nuF_0 (f : Nat → Int32) : nuF f 0 = nI (sc f) := gt_0
theorem dg8_0 {f : Nat → Int32} {h : Int64} : dg8 f h 0 * 31 + (nI (sc f)).toInt64 = dg8 f h 1 := by rw [dg8_s f h 0, nuF_0, dgS_e]
theorem gt_1 {a b c d e f g h : Int32} : [a, b, c, d, e, f, g, h].getD 1 0 = b := rfl
theorem nuF_1 (f : Nat → Int32) : nuF f 1 = hg f 3 := gt_1
theorem dg8_1 {f : Nat → Int32} {h : Int64} : dg8 f h 1 * 31 + (hg f 3).toInt64 = dg8 f h 2 := by rw [dg8_s f h 1, nuF_1, dgS_e]
theorem gt_2 {a b c d e f g h : Int32} : [a, b, c, d, e, f, g, h].getD 2 0 = c := rfl
theorem nuF_2 (f : Nat → Int32) : nuF f 2 = nI (idl f) := gt_2
theorem dg8_2 {f : Nat → Int32} {h : Int64} : dg8 f h 2 * 31 + (nI (idl f)).toInt64 = dg8 f h 3 := by rw [dg8_s f h 2, nuF_2, dgS_e]
theorem gt_3 {a b c d e f g h : Int32} : [a, b, c, d, e, f, g, h].getD 3 0 = d := rfl
theorem nuF_3 (f : Nat → Int32) : nuF f 3 = fi f := gt_3
theorem dg8_3 {f : Nat → Int32} {h : Int64} : dg8 f h 3 * 31 + (fi f).toInt64 = dg8 f h 4 := by rw [dg8_s f h 3, nuF_3, dgS_e]
theorem gt_4 {a b c d e f g h : Int32} : [a, b, c, d, e, f, g, h].getD 4 0 = e := rfl
theorem nuF_4 (f : Nat → Int32) : nuF f 4 = nI (lea f) := gt_4
theorem dg8_4 {f : Nat → Int32} {h : Int64} : dg8 f h 4 * 31 + (nI (lea f)).toInt64 = dg8 f h 5 := by rw [dg8_s f h 4, nuF_4, dgS_e]
theorem gt_5 {a b c d e f g h : Int32} : [a, b, c, d, e, f, g, h].getD 5 0 = f := rfl
theorem nuF_5 (f : Nat → Int32) : nuF f 5 = nI (Pilot.CPolyKitchenLaw_law_r8124_67c28d.tx f).length := gt_5
theorem dg8_5 {f : Nat → Int32} {h : Int64} : dg8 f h 5 * 31 + (nI (tx_ f).length).toInt64 = dg8 f h 6 := by rw [dg8_s f h 5, nuF_5, dgS_e, tx_e]
theorem gt_6 {a b c d e f g h : Int32} : [a, b, c, d, e, f, g, h].getD 6 0 = g := rfl
theorem nuF_6 (f : Nat → Int32) : nuF f 6 = nI (pp f) := gt_6
theorem dg8_6 {f : Nat → Int32} {h : Int64} : dg8 f h 6 * 31 + (nI (pp f)).toInt64 = dg8 f h 7 := by rw [dg8_s f h 6, nuF_6, dgS_e]
theorem gt_7 {a b c d e f g h : Int32} : [a, b, c, d, e, f, g, h].getD 7 0 = h := rfl
theorem nuF_7 (f : Nat → Int32) : nuF f 7 = bs f := gt_7
theorem dg8_7 {f : Nat → Int32} {h : Int64} : dg8 f h 7 * 31 + (bs f).toInt64 = dg8 f h 8 := by rw [dg8_s f h 7, nuF_7, dgS_e]
theorem dg8_z {f : Nat → Int32} {h : Int64} : dg8 f h 0 = h := rfl
theorem dgA_e {f : Nat → Int32} {h : Int64} {j : Nat} : dgA f h j * 31 + (f j).toInt64 = dgA f h (j + 1) := rfl
theorem dgA_z {f : Nat → Int32} {h : Int64} : dgA f h 0 = h := rfl
theorem dgH_s {R : Nat → Nat → Int32} {h : Int64} {i : Nat} : dgA (R i) (dg8 (R i) (dg3 (R i) (dgH R h i)) 8) 9 = dgH R h (i + 1) := rfl
theorem dig_e {R : Nat → Nat → Int32} {n : Nat} : dgH R (67549 + (nI n).toInt64) n = dig n R := rfl
theorem eAmt_ok {n : Nat} {rc pw : Int32} (h : isR n rc = true) (h2 : isF pw 0 8 = true) : eAmt n rc pw = 0 := by unfold eAmt; rw [h, h2]; rfl
set_option maxHeartbeats 4000000 in
set_option maxRecDepth 100000 in
/-- X2_meanDegree -/
theorem m_X2_meanDegree (l : Launch) (D : va_G) (k : Nat → ClassId) {ad r : Nat → Nat} {n : Nat} {R : Nat → Nat → Int32} {T U tx : Nat → Int32} {sz : Int32} {Y : va_W} (hfl : l.stackTraces = false) (hn : n ≤ 16) : CtD l D k yX2_meanDegree (wU yX2_meanDegree cX2_meanDegree 3 (some .double)) (rmL 3 16 96) [.ref (ad 0)] (KW k ad r (nI n) R T U tx sz Y) (fun v9 w' => v9 = mdg R n ∧ ∃ (T' U' tx' : Nat → Int32) (sz' : Int32), w' = (KW k ad r (nI n) R T' U' tx' sz' Y)) := by
  refine openD (own := RX2) rfl (by decide) (Nat.le_of_ble_eq_true rfl) rfl ?_
  intro p e s m args below meth c A C hrt9 hnm
  obtain ⟨Q, hQ⟩ : ∃ Q, Q = (MQ below (va_Qd (fun v9 w' => v9 = mdg R n ∧ ∃ (T' U' tx' : Nat → Int32) (sz' : Int32), w' = (KW k ad r (nI n) R T' U' tx' sz' Y)) (cBA D A) A) args s 16 96 A) := ⟨_, rfl⟩
  show WP p l e (rmL 3 16 96) s m args below meth c D A 3 (KW k ad r (nI n) R T U tx sz Y) [(0, .ref (ad 0))] 0 0 (MQ below (va_Qd (fun v9 w' => v9 = mdg R n ∧ ∃ (T' U' tx' : Nat → Int32) (sz' : Int32), w' = (KW k ad r (nI n) R T' U' tx' sz' Y)) (cBA D A) A) args s 16 96 A) 0 []
  rw [← hQ]
  refine p_aload_n C rfl 0 rfl dX2_meanDegree_0 ?_
  refine p_get (v := .int (nI n)) (T := TX2) C 0 rfl rfl 1 (by decide) inX2 qfl_X2_14 (fun _ h9 => h9) rfl dX2_meanDegree_1 ?_
  refine p_if_gt C 9 (by decide) dX2_meanDegree_4 (fun c_4 => ?_) (fun c_4 => ?_)
  · have hn0 : 0 < n := Nat.pos_of_ne_zero fun z9 => by subst z9; exact absurd c_4 (by decide)
    refine p_iconst (v := 0) C (by decide) dX2_meanDegree_9 ?_
    refine p_istore_n (lv9 := [(1, .int 0), (0, .ref (ad 0))]) C rfl (by decide) rfl dX2_meanDegree_10 ?_
    refine p_iconst (v := (nI 0)) C (by decide) dX2_meanDegree_11 ?_
    refine p_istore_n (lv9 := [(2, .int (nI 0)), (1, .int 0), (0, .ref (ad 0))]) C rfl (by decide) rfl dX2_meanDegree_12 ?_
    refine p_lv (lv9 := [(0, .ref (ad 0)), (1, .int 0), (2, .int (nI 0))]) [2, 1, 0] rfl ?_
    have lp13 : ∀ (n13 : Nat) (b9 c9 s9 : Nat) (T8 U8 tx8 : Nat → Int32) (sz8 : Int32), (hb : b9 + n13 = n) → (hc9 : c9 + n13 ≤ 16) → (hs9 : s9 + 6 * n13 ≤ 96) → WP p l e (rmL 3 16 96) s m args below meth c D A 3 (KW k ad r (nI n) R T8 U8 tx8 sz8 Y) [(0, .ref (ad 0)), (1, .int (mdN R b9)), (2, .int (nI b9))] c9 s9 Q 13 [] := by
      intro n13
      induction n13 with
      | zero =>
        intro b9 c9 s9 T8 U8 tx8 sz8 hb hc9 hs9
        have eb : b9 = n := by omega
        refine p_iload_n C rfl 2 rfl dX2_meanDegree_13 ?_
        refine p_aload_n C rfl 0 rfl dX2_meanDegree_14 ?_
        refine p_get (v := .int (nI n)) (T := TX2) C 0 rfl rfl 1 (by decide) inX2 qfl_X2_14 (fun _ h9 => h9) rfl dX2_meanDegree_15 ?_
        refine p_icmp_ge C 35 (by decide) dX2_meanDegree_18 (fun c_18 => ?_) (fun c_18 => absurd (nI_le (by omega) (by omega)) c_18)
        refine p_iload_n C rfl 1 rfl dX2_meanDegree_35 ?_
        refine p_i2d C dX2_meanDegree_36 ?_
        refine p_aload_n C rfl 0 rfl dX2_meanDegree_37 ?_
        refine p_get (v := .int (nI n)) (T := TX2) C 0 rfl rfl 1 (by decide) inX2 qfl_X2_14 (fun _ h9 => h9) rfl dX2_meanDegree_38 ?_
        refine p_i2d C dX2_meanDegree_41 ?_
        refine p_ddiv C (by rw [eb]; exact md_n64 (R := R) hn hn0) dX2_meanDegree_42 ?_
        rw [hQ]
        exact r_d C hrt9 (⟨by unfold mdg; rw [if_neg (by omega), eb], _, _, _, _, rfl⟩) (by (try simp only [rmL_c, rmL_s]); omega) (by (try simp only [rmL_c, rmL_s]); omega) dX2_meanDegree_43
      | succ n13 ih13 =>
        intro b9 c9 s9 T8 U8 tx8 sz8 hb hc9 hs9
        have vi := isR_of (n := n) hn (show b9 < n by omega)
        refine p_iload_n C rfl 2 rfl dX2_meanDegree_13 ?_
        refine p_aload_n C rfl 0 rfl dX2_meanDegree_14 ?_
        refine p_get (v := .int (nI n)) (T := TX2) C 0 rfl rfl 1 (by decide) inX2 qfl_X2_14 (fun _ h9 => h9) rfl dX2_meanDegree_15 ?_
        refine p_icmp_ge C 35 (by decide) dX2_meanDegree_18 (fun c_18 => absurd c_18 (nI_ge (by omega) (by omega))) (fun c_18 => ?_)
        refine p_iload_n C rfl 1 rfl dX2_meanDegree_21 ?_
        refine p_aload_n C rfl 0 rfl dX2_meanDegree_22 ?_
        refine p_iload_n C rfl 2 rfl dX2_meanDegree_23 ?_
        refine cx_Vi (As := [.int (nI b9)]) (rest := [.int (mdN R b9)]) C (m_X2_degreeOf l D k hfl (hn := hn)  (rc := (nI b9))) 0 rfl rfl rfl qml_X2_134 qim_X2_degreeOf qse_X2_X2_degreeOf qin_X2 qco_X2_degreeOf nd_X2_degreeOf ⟨Nat.le_of_ble_eq_true rfl, Nat.le_of_ble_eq_true rfl⟩ (Nat.le_of_ble_eq_true rfl) ⟨by (try simp only [rmL_c, rmL_s]); omega, by (try simp only [rmL_c, rmL_s]); omega⟩ rfl dX2_meanDegree_24 (fun E9 w9 h9 => absurd (e1_ok vi) h9.1) (fun r9 w9 h9 => ?_)
        obtain ⟨-, e9, T7, U7, tx7, sz7, rfl⟩ := h9
        refine p_int e9 ?_
        refine p_iadd C dX2_meanDegree_27 ?_
        refine p_int (y := (mdN R (b9 + 1))) (by rw [ix_nI (by omega)]; rfl) ?_
        refine p_istore_n (lv9 := [(1, .int (mdN R (b9 + 1))), (0, .ref (ad 0)), (2, .int (nI b9))]) C rfl (by decide) rfl dX2_meanDegree_28 ?_
        refine p_iinc (lv9 := [(2, .int (nI (b9 + 1))), (1, .int (mdN R (b9 + 1))), (0, .ref (ad 0))]) (v := (nI (b9 + 1))) C (j := 2) rfl (i_up b9) (by decide) rfl dX2_meanDegree_29 ?_
        refine p_goto C 13 (by decide) dX2_meanDegree_32 ?_
        refine p_lv (lv9 := [(0, .ref (ad 0)), (1, .int (mdN R (b9 + 1))), (2, .int (nI (b9 + 1)))]) [2, 1, 0] rfl ?_
        exact ih13 (b9 + 1) _ _ _ _ _ _ (by omega) (by (try simp only [rmL_c, rmL_s]); omega) (by (try simp only [rmL_c, rmL_s]); omega)
    exact lp13 n 0 0 0 T U tx sz (Nat.zero_add _) (by omega) (by omega)
  · have hn0 : n = 0 := Nat.le_zero.mp (Nat.le_of_not_lt fun z9 => c_4 (nI_lt (a := 0) z9 (by omega)))
    refine p_dconst0 C dX2_meanDegree_7 ?_
    rw [hQ]
    exact r_d C hrt9 (⟨by unfold mdg; rw [if_pos hn0], _, _, _, _, rfl⟩) (by decide) (by decide) dX2_meanDegree_8
set_option maxHeartbeats 4000000 in
set_option maxRecDepth 100000 in
/-- X2_digest -/
theorem m_X2_digest (l : Launch) (D : va_G) (k : Nat → ClassId) {ad r : Nat → Nat} {n : Nat} {R : Nat → Nat → Int32} {T U tx : Nat → Int32} {sz : Int32} {Y : va_W} (hfl : l.stackTraces = false) (hn : n ≤ 16) (hnrm : ∀ i, i < n → n9 (R i) = R i) : CtL l D k yX2_digest (wU yX2_digest cX2_digest 5 (some .long)) (rmL 6 480 2880) [.ref (ad 0)] (KW k ad r (nI n) R T U tx sz Y) (fun v9 w' => v9 = dig n R ∧ ∃ (T' U' tx' : Nat → Int32) (sz' : Int32), w' = (KW k ad r (nI n) R T' U' tx' sz' Y)) := by
  refine openL (own := RX2) rfl (by decide) (Nat.le_of_ble_eq_true rfl) rfl ?_
  intro p e s m args below meth c A C hrt9 hnm
  obtain ⟨Q, hQ⟩ : ∃ Q, Q = (MQ below (va_Ql (fun v9 w' => v9 = dig n R ∧ ∃ (T' U' tx' : Nat → Int32) (sz' : Int32), w' = (KW k ad r (nI n) R T' U' tx' sz' Y)) (cBA D A) A) args s 480 2880 A) := ⟨_, rfl⟩
  show WP p l e (rmL 6 480 2880) s m args below meth c D A 5 (KW k ad r (nI n) R T U tx sz Y) [(0, .ref (ad 0))] 0 0 (MQ below (va_Ql (fun v9 w' => v9 = dig n R ∧ ∃ (T' U' tx' : Nat → Int32) (sz' : Int32), w' = (KW k ad r (nI n) R T' U' tx' sz' Y)) (cBA D A) A) args s 480 2880 A) 0 []
  rw [← hQ]
  refine p_ldc2 (v := 67549) C qkl_X2_137 dX2_digest_0 ?_
  refine p_aload_n C rfl 0 rfl dX2_digest_3 ?_
  refine c_Vi (As := []) (rest := [.long 67549]) C (m_X2_recipes l D k ) 0 rfl rfl rfl qml_X2_139 qim_X2_recipes qse_X2_X2_recipes qin_X2 qco_X2_recipes nd_X2_recipes ⟨Nat.le_of_ble_eq_true rfl, Nat.le_of_ble_eq_true rfl⟩ (Nat.le_of_ble_eq_true rfl) ⟨Nat.le_of_ble_eq_true rfl, Nat.le_of_ble_eq_true rfl⟩ rfl dX2_digest_4 (fun r9 w9 h9 => ?_)
  obtain ⟨e9, rfl⟩ := h9
  refine p_int e9 ?_
  refine p_i2l C dX2_digest_7 ?_
  refine p_ladd C dX2_digest_8 ?_
  refine p_lstore_n (lv9 := [(1, .long (67549 + ((nI n).toInt64))), (0, .ref (ad 0))]) C rfl (by decide) rfl dX2_digest_9 ?_
  refine p_iconst (v := (nI 0)) C (by decide) dX2_digest_10 ?_
  refine p_istore_n (lv9 := [(3, .int (nI 0)), (1, .long (67549 + ((nI n).toInt64))), (0, .ref (ad 0))]) C rfl (by decide) rfl dX2_digest_11 ?_
  refine p_lv (lv9 := [(0, .ref (ad 0)), (1, .long (67549 + ((nI n).toInt64))), (3, .int (nI 0))]) [2, 1, 0] rfl ?_
  have lp12 : ∀ (n12 : Nat) (i c9 s9 : Nat) (T8 U8 tx8 : Nat → Int32) (sz8 : Int32), (hb : i + n12 = n) → (hc9 : c9 + 30 * n12 ≤ 480) → (hs9 : s9 + 180 * n12 ≤ 2880) → WP p l e (rmL 6 480 2880) s m args below meth c D A 5 (KW k ad r (nI n) R T8 U8 tx8 sz8 Y) [(0, .ref (ad 0)), (1, .long (dgH R (67549 + (nI n).toInt64) i)), (3, .int (nI i))] c9 s9 Q 12 [] := by
    intro n12
    induction n12 with
    | zero =>
      intro i c9 s9 T8 U8 tx8 sz8 hb hc9 hs9
      have ei : i = n := by omega
      refine p_iload_n C rfl 2 rfl dX2_digest_12 ?_
      refine p_aload_n C rfl 0 rfl dX2_digest_13 ?_
      refine p_get (v := .int (nI n)) (T := TX2) C 0 rfl rfl 1 (by decide) inX2 qfl_X2_14 (fun _ h9 => h9) rfl dX2_digest_14 ?_
      refine p_icmp_ge C 208 (by decide) dX2_digest_17 (fun c_17 => ?_) (fun c_17 => absurd (nI_le (by omega) (by omega)) c_17)
      refine p_lload_n C rfl 1 rfl dX2_digest_208 ?_
      rw [hQ]
      exact r_l C hrt9 (⟨by rw [ei]; exact dig_e, _, _, _, _, rfl⟩) (by (try simp only [rmL_c, rmL_s]); omega) (by (try simp only [rmL_c, rmL_s]); omega) dX2_digest_209
    | succ n12 ih12 =>
      intro i c9 s9 T8 U8 tx8 sz8 hb hc9 hs9
      have vi := isR_of (n := n) hn (show i < n by omega)
      have eix : ix (nI i) = i := ix_nI (by omega)
      have hii : i < n := by omega
      refine p_iload_n C rfl 2 rfl dX2_digest_12 ?_
      refine p_aload_n C rfl 0 rfl dX2_digest_13 ?_
      refine p_get (v := .int (nI n)) (T := TX2) C 0 rfl rfl 1 (by decide) inX2 qfl_X2_14 (fun _ h9 => h9) rfl dX2_digest_14 ?_
      refine p_icmp_ge C 208 (by decide) dX2_digest_17 (fun c_17 => absurd c_17 (nI_ge (by omega) (by omega))) (fun c_17 => ?_)
      refine p_lload_n C rfl 1 rfl dX2_digest_20 ?_
      refine p_ldc2 (v := 31) C qkl_X2_142 dX2_digest_21 ?_
      refine p_lmul C dX2_digest_24 ?_
      refine p_aload_n C rfl 0 rfl dX2_digest_25 ?_
      refine p_iload_n C rfl 2 rfl dX2_digest_26 ?_
      refine cx_Vi (As := [.int (nI i)]) (rest := [.long ((dgH R (67549 + (nI n).toInt64) i) * 31)]) C (m_X2_degreeOf l D k hfl (hn := hn)  (rc := (nI i))) 0 rfl rfl rfl qml_X2_134 qim_X2_degreeOf qse_X2_X2_degreeOf qin_X2 qco_X2_degreeOf nd_X2_degreeOf ⟨Nat.le_of_ble_eq_true rfl, Nat.le_of_ble_eq_true rfl⟩ (Nat.le_of_ble_eq_true rfl) ⟨by (try simp only [rmL_c, rmL_s]); omega, by (try simp only [rmL_c, rmL_s]); omega⟩ rfl dX2_digest_27 (fun E9 w9 h9 => absurd (e1_ok vi) h9.1) (fun r9 w9 h9 => ?_)
      obtain ⟨-, e9, T7, U7, tx7, sz7, rfl⟩ := h9
      refine p_int e9 ?_
      refine p_i2l C dX2_digest_30 ?_
      refine p_ladd C dX2_digest_31 ?_
      refine p_lstore_n (lv9 := [(1, .long (((dgH R (67549 + (nI n).toInt64) i) * 31) + ((dI (dg (R (ix (nI i))))).toInt64))), (0, .ref (ad 0)), (3, .int (nI i))]) C rfl (by decide) rfl dX2_digest_32 ?_
      refine p_lload_n C rfl 0 rfl dX2_digest_33 ?_
      refine p_ldc2 (v := 31) C qkl_X2_142 dX2_digest_34 ?_
      refine p_lmul C dX2_digest_37 ?_
      refine p_aload_n C rfl 1 rfl dX2_digest_38 ?_
      refine p_iload_n C rfl 2 rfl dX2_digest_39 ?_
      refine cx_Vi (As := [.int (nI i)]) (rest := [.long ((((dgH R (67549 + (nI n).toInt64) i) * 31) + ((dI (dg (R (ix (nI i))))).toInt64)) * 31)]) C (m_X2_isPlain l D k hfl (hn := hn)  (rc := (nI i))) 0 rfl rfl rfl qml_X2_144 qim_X2_isPlain qse_X2_X2_isPlain qin_X2 qco_X2_isPlain nd_X2_isPlain ⟨Nat.le_of_ble_eq_true rfl, Nat.le_of_ble_eq_true rfl⟩ (Nat.le_of_ble_eq_true rfl) ⟨by (try simp only [rmL_c, rmL_s]); omega, by (try simp only [rmL_c, rmL_s]); omega⟩ rfl dX2_digest_40 (fun E9 w9 h9 => absurd (e1_ok vi) h9.1) (fun r9 w9 h9 => ?_)
      obtain ⟨-, e9, T7, U7, tx7, sz7, rfl⟩ := h9
      refine p_int e9 ?_
      have j51 : WP p l e (rmL 6 480 2880) s m args below meth c D A 5 (KW k ad r (nI n) R T7 U7 tx7 sz7 Y) [(1, .long (((dgH R (67549 + (nI n).toInt64) i) * 31) + ((dI (dg (R (ix (nI i))))).toInt64))), (0, .ref (ad 0)), (3, .int (nI i))] (c9 + 1 + 1) (s9 + 6 + 6) Q 51 [.int (bI (pln (R (ix (nI i))))), .long ((((dgH R (67549 + (nI n).toInt64) i) * 31) + ((dI (dg (R (ix (nI i))))).toInt64)) * 31)] := by
        refine p_i2l C dX2_digest_51 ?_
        refine p_ladd C dX2_digest_52 ?_
        refine p_lstore_n (lv9 := [(1, .long (((((dgH R (67549 + (nI n).toInt64) i) * 31) + ((dI (dg (R (ix (nI i))))).toInt64)) * 31) + ((bI (pln (R (ix (nI i))))).toInt64))), (0, .ref (ad 0)), (3, .int (nI i))]) C rfl (by decide) rfl dX2_digest_53 ?_
        refine p_lload_n C rfl 0 rfl dX2_digest_54 ?_
        refine p_ldc2 (v := 31) C qkl_X2_142 dX2_digest_55 ?_
        refine p_lmul C dX2_digest_58 ?_
        refine p_aload_n C rfl 1 rfl dX2_digest_59 ?_
        refine p_iload_n C rfl 2 rfl dX2_digest_60 ?_
        refine cx_Vl (As := [.int (nI i)]) (rest := [.long ((((((dgH R (67549 + (nI n).toInt64) i) * 31) + ((dI (dg (R (ix (nI i))))).toInt64)) * 31) + ((bI (pln (R (ix (nI i))))).toInt64)) * 31)]) C (m_X2_content l D k hfl (hn := hn)  (rc := (nI i))) 0 rfl rfl rfl qml_X2_147 qim_X2_content qse_X2_X2_content qin_X2 qco_X2_content nd_X2_content ⟨Nat.le_of_ble_eq_true rfl, Nat.le_of_ble_eq_true rfl⟩ (Nat.le_of_ble_eq_true rfl) ⟨by (try simp only [rmL_c, rmL_s]); omega, by (try simp only [rmL_c, rmL_s]); omega⟩ rfl dX2_digest_61 (fun E9 w9 h9 => absurd (e1_ok vi) h9.1) (fun r9 w9 h9 => ?_)
        obtain ⟨-, e9, T7, U7, tx7, sz7, rfl⟩ := h9
        rw [e9]
        refine p_ladd C dX2_digest_64 ?_
        refine p_st (st9 := [.long (dg8 (R i) (dg3 (R i) (dgH R (67549 + (nI n).toInt64) i)) 0)]) (congrArg (fun z9 => Value.long z9 :: []) (by rw [eix, dg8_z]; exact dg3_e)) ?_
        refine p_lstore_n (lv9 := [(1, .long (dg8 (R i) (dg3 (R i) (dgH R (67549 + (nI n).toInt64) i)) 0)), (0, .ref (ad 0)), (3, .int (nI i))]) C rfl (by decide) rfl dX2_digest_65 ?_
        refine p_lload_n C rfl 0 rfl dX2_digest_66 ?_
        refine p_ldc2 (v := 31) C qkl_X2_142 dX2_digest_67 ?_
        refine p_lmul C dX2_digest_70 ?_
        refine p_aload_n C rfl 1 rfl dX2_digest_71 ?_
        refine p_iload_n C rfl 2 rfl dX2_digest_72 ?_
        refine cx_Vi (As := [.int (nI i)]) (rest := [.long ((dg8 (R i) (dg3 (R i) (dgH R (67549 + (nI n).toInt64) i)) 0) * 31)]) C (m_X2_signChanges l D k hfl (hn := hn)  (rc := (nI i))) 0 rfl rfl rfl qml_X2_150 qim_X2_signChanges qse_X2_X2_signChanges qin_X2 qco_X2_signChanges nd_X2_signChanges ⟨Nat.le_of_ble_eq_true rfl, Nat.le_of_ble_eq_true rfl⟩ (Nat.le_of_ble_eq_true rfl) ⟨by (try simp only [rmL_c, rmL_s]); omega, by (try simp only [rmL_c, rmL_s]); omega⟩ rfl dX2_digest_73 (fun E9 w9 h9 => absurd (e1_ok vi) h9.1) (fun r9 w9 h9 => ?_)
        obtain ⟨-, e9, T7, U7, tx7, sz7, rfl⟩ := h9
        refine p_int e9 ?_
        refine p_i2l C dX2_digest_76 ?_
        refine p_ladd C dX2_digest_77 ?_
        refine p_st (st9 := [.long (dg8 (R i) (dg3 (R i) (dgH R (67549 + (nI n).toInt64) i)) 1)]) (congrArg (fun z9 => Value.long z9 :: []) (by rw [eix]; exact dg8_0)) ?_
        refine p_lstore_n (lv9 := [(1, .long (dg8 (R i) (dg3 (R i) (dgH R (67549 + (nI n).toInt64) i)) 1)), (0, .ref (ad 0)), (3, .int (nI i))]) C rfl (by decide) rfl dX2_digest_78 ?_
        refine p_lload_n C rfl 0 rfl dX2_digest_79 ?_
        refine p_ldc2 (v := 31) C qkl_X2_142 dX2_digest_80 ?_
        refine p_lmul C dX2_digest_83 ?_
        refine p_aload_n C rfl 1 rfl dX2_digest_84 ?_
        refine p_iload_n C rfl 2 rfl dX2_digest_85 ?_
        refine p_iconst (v := 3) C (by decide) dX2_digest_86 ?_
        refine cx_Vi (As := [.int (nI i), .int 3]) (rest := [.long ((dg8 (R i) (dg3 (R i) (dgH R (67549 + (nI n).toInt64) i)) 1) * 31)]) C (m_X2_hunger l D k hfl (hn := hn)  (rc := (nI i)) (x := 3)) 0 rfl rfl rfl qml_X2_153 qim_X2_hunger qse_X2_X2_hunger qin_X2 qco_X2_hunger nd_X2_hunger ⟨Nat.le_of_ble_eq_true rfl, Nat.le_of_ble_eq_true rfl⟩ (Nat.le_of_ble_eq_true rfl) ⟨by (try simp only [rmL_c, rmL_s]); omega, by (try simp only [rmL_c, rmL_s]); omega⟩ rfl dX2_digest_87 (fun E9 w9 h9 => absurd (e1_ok vi) h9.1) (fun r9 w9 h9 => ?_)
        obtain ⟨-, e9, T7, U7, tx7, sz7, rfl⟩ := h9
        refine p_int e9 ?_
        refine p_i2l C dX2_digest_90 ?_
        refine p_ladd C dX2_digest_91 ?_
        refine p_st (st9 := [.long (dg8 (R i) (dg3 (R i) (dgH R (67549 + (nI n).toInt64) i)) 2)]) (congrArg (fun z9 => Value.long z9 :: []) (by rw [eix]; exact dg8_1)) ?_
        refine p_lstore_n (lv9 := [(1, .long (dg8 (R i) (dg3 (R i) (dgH R (67549 + (nI n).toInt64) i)) 2)), (0, .ref (ad 0)), (3, .int (nI i))]) C rfl (by decide) rfl dX2_digest_92 ?_
        refine p_lload_n C rfl 0 rfl dX2_digest_93 ?_
        refine p_ldc2 (v := 31) C qkl_X2_142 dX2_digest_94 ?_
        refine p_lmul C dX2_digest_97 ?_
        refine p_aload_n C rfl 1 rfl dX2_digest_98 ?_
        refine p_iload_n C rfl 2 rfl dX2_digest_99 ?_
        refine cx_Vi (As := [.int (nI i)]) (rest := [.long ((dg8 (R i) (dg3 (R i) (dgH R (67549 + (nI n).toInt64) i)) 2) * 31)]) C (m_X2_idleGuests l D k hfl (hn := hn)  (rc := (nI i))) 0 rfl rfl rfl qml_X2_157 qim_X2_idleGuests qse_X2_X2_idleGuests qin_X2 qco_X2_idleGuests nd_X2_idleGuests ⟨Nat.le_of_ble_eq_true rfl, Nat.le_of_ble_eq_true rfl⟩ (Nat.le_of_ble_eq_true rfl) ⟨by (try simp only [rmL_c, rmL_s]); omega, by (try simp only [rmL_c, rmL_s]); omega⟩ rfl dX2_digest_100 (fun E9 w9 h9 => absurd (e1_ok vi) h9.1) (fun r9 w9 h9 => ?_)
        obtain ⟨-, e9, T7, U7, tx7, sz7, rfl⟩ := h9
        refine p_int e9 ?_
        refine p_i2l C dX2_digest_103 ?_
        refine p_ladd C dX2_digest_104 ?_
        refine p_st (st9 := [.long (dg8 (R i) (dg3 (R i) (dgH R (67549 + (nI n).toInt64) i)) 3)]) (congrArg (fun z9 => Value.long z9 :: []) (by rw [eix]; exact dg8_2)) ?_
        refine p_lstore_n (lv9 := [(1, .long (dg8 (R i) (dg3 (R i) (dgH R (67549 + (nI n).toInt64) i)) 3)), (0, .ref (ad 0)), (3, .int (nI i))]) C rfl (by decide) rfl dX2_digest_105 ?_
        refine p_lload_n C rfl 0 rfl dX2_digest_106 ?_
        refine p_ldc2 (v := 31) C qkl_X2_142 dX2_digest_107 ?_
        refine p_lmul C dX2_digest_110 ?_
        refine p_aload_n C rfl 1 rfl dX2_digest_111 ?_
        refine p_iload_n C rfl 2 rfl dX2_digest_112 ?_
        refine cx_Vi (As := [.int (nI i)]) (rest := [.long ((dg8 (R i) (dg3 (R i) (dgH R (67549 + (nI n).toInt64) i)) 3) * 31)]) C (m_X2_firstIdle l D k hfl (hn := hn)  (rc := (nI i))) 0 rfl rfl rfl qml_X2_160 qim_X2_firstIdle qse_X2_X2_firstIdle qin_X2 qco_X2_firstIdle nd_X2_firstIdle ⟨Nat.le_of_ble_eq_true rfl, Nat.le_of_ble_eq_true rfl⟩ (Nat.le_of_ble_eq_true rfl) ⟨by (try simp only [rmL_c, rmL_s]); omega, by (try simp only [rmL_c, rmL_s]); omega⟩ rfl dX2_digest_113 (fun E9 w9 h9 => absurd (e1_ok vi) h9.1) (fun r9 w9 h9 => ?_)
        obtain ⟨-, e9, T7, U7, tx7, sz7, rfl⟩ := h9
        refine p_int e9 ?_
        refine p_i2l C dX2_digest_116 ?_
        refine p_ladd C dX2_digest_117 ?_
        refine p_st (st9 := [.long (dg8 (R i) (dg3 (R i) (dgH R (67549 + (nI n).toInt64) i)) 4)]) (congrArg (fun z9 => Value.long z9 :: []) (by rw [eix]; exact dg8_3)) ?_
        refine p_lstore_n (lv9 := [(1, .long (dg8 (R i) (dg3 (R i) (dgH R (67549 + (nI n).toInt64) i)) 4)), (0, .ref (ad 0)), (3, .int (nI i))]) C rfl (by decide) rfl dX2_digest_118 ?_
        refine p_lload_n C rfl 0 rfl dX2_digest_119 ?_
        refine p_ldc2 (v := 31) C qkl_X2_142 dX2_digest_120 ?_
        refine p_lmul C dX2_digest_123 ?_
        refine p_aload_n C rfl 1 rfl dX2_digest_124 ?_
        refine p_iload_n C rfl 2 rfl dX2_digest_125 ?_
        refine cx_Vi (As := [.int (nI i)]) (rest := [.long ((dg8 (R i) (dg3 (R i) (dgH R (67549 + (nI n).toInt64) i)) 4) * 31)]) C (m_X2_cheapest l D k hfl (hn := hn)  (rc := (nI i))) 0 rfl rfl rfl qml_X2_163 qim_X2_cheapest qse_X2_X2_cheapest qin_X2 qco_X2_cheapest nd_X2_cheapest ⟨Nat.le_of_ble_eq_true rfl, Nat.le_of_ble_eq_true rfl⟩ (Nat.le_of_ble_eq_true rfl) ⟨by (try simp only [rmL_c, rmL_s]); omega, by (try simp only [rmL_c, rmL_s]); omega⟩ rfl dX2_digest_126 (fun E9 w9 h9 => absurd (e1_ok vi) h9.1) (fun r9 w9 h9 => ?_)
        obtain ⟨-, e9, T7, U7, tx7, sz7, rfl⟩ := h9
        refine p_int e9 ?_
        refine p_i2l C dX2_digest_129 ?_
        refine p_ladd C dX2_digest_130 ?_
        refine p_st (st9 := [.long (dg8 (R i) (dg3 (R i) (dgH R (67549 + (nI n).toInt64) i)) 5)]) (congrArg (fun z9 => Value.long z9 :: []) (by rw [eix]; exact dg8_4)) ?_
        refine p_lstore_n (lv9 := [(1, .long (dg8 (R i) (dg3 (R i) (dgH R (67549 + (nI n).toInt64) i)) 5)), (0, .ref (ad 0)), (3, .int (nI i))]) C rfl (by decide) rfl dX2_digest_131 ?_
        refine p_lload_n C rfl 0 rfl dX2_digest_132 ?_
        refine p_ldc2 (v := 31) C qkl_X2_142 dX2_digest_133 ?_
        refine p_lmul C dX2_digest_136 ?_
        refine p_aload_n C rfl 1 rfl dX2_digest_137 ?_
        refine p_iload_n C rfl 2 rfl dX2_digest_138 ?_
        refine cx_Vi (As := [.int (nI i)]) (rest := [.long ((dg8 (R i) (dg3 (R i) (dgH R (67549 + (nI n).toInt64) i)) 5) * 31)]) C (m_X2_textLength l D k hfl (hn := hn)  (rc := (nI i))) 0 rfl rfl rfl qml_X2_166 qim_X2_textLength qse_X2_X2_textLength qin_X2 qco_X2_textLength nd_X2_textLength ⟨Nat.le_of_ble_eq_true rfl, Nat.le_of_ble_eq_true rfl⟩ (Nat.le_of_ble_eq_true rfl) ⟨by (try simp only [rmL_c, rmL_s]); omega, by (try simp only [rmL_c, rmL_s]); omega⟩ rfl dX2_digest_139 (fun E9 w9 h9 => absurd (e1_ok vi) h9.1) (fun r9 w9 h9 => ?_)
        obtain ⟨-, e9, T7, U7, tx7, sz7, rfl⟩ := h9
        refine p_int e9 ?_
        refine p_i2l C dX2_digest_142 ?_
        refine p_ladd C dX2_digest_143 ?_
        refine p_st (st9 := [.long (dg8 (R i) (dg3 (R i) (dgH R (67549 + (nI n).toInt64) i)) 6)]) (congrArg (fun z9 => Value.long z9 :: []) (by rw [eix]; exact dg8_5)) ?_
        refine p_lstore_n (lv9 := [(1, .long (dg8 (R i) (dg3 (R i) (dgH R (67549 + (nI n).toInt64) i)) 6)), (0, .ref (ad 0)), (3, .int (nI i))]) C rfl (by decide) rfl dX2_digest_144 ?_
        refine p_lload_n C rfl 0 rfl dX2_digest_145 ?_
        refine p_ldc2 (v := 31) C qkl_X2_142 dX2_digest_146 ?_
        refine p_lmul C dX2_digest_149 ?_
        refine p_aload_n C rfl 1 rfl dX2_digest_150 ?_
        refine p_iload_n C rfl 2 rfl dX2_digest_151 ?_
        refine cx_Vi (As := [.int (nI i)]) (rest := [.long ((dg8 (R i) (dg3 (R i) (dgH R (67549 + (nI n).toInt64) i)) 6) * 31)]) C (m_X2_plainParts l D k hfl (hn := hn)  (rc := (nI i))) 0 rfl rfl rfl qml_X2_169 qim_X2_plainParts qse_X2_X2_plainParts qin_X2 qco_X2_plainParts nd_X2_plainParts ⟨Nat.le_of_ble_eq_true rfl, Nat.le_of_ble_eq_true rfl⟩ (Nat.le_of_ble_eq_true rfl) ⟨by (try simp only [rmL_c, rmL_s]); omega, by (try simp only [rmL_c, rmL_s]); omega⟩ rfl dX2_digest_152 (fun E9 w9 h9 => absurd (e1_ok vi) h9.1) (fun r9 w9 h9 => ?_)
        obtain ⟨-, e9, T7, U7, tx7, sz7, rfl⟩ := h9
        refine p_int e9 ?_
        refine p_i2l C dX2_digest_155 ?_
        refine p_ladd C dX2_digest_156 ?_
        refine p_st (st9 := [.long (dg8 (R i) (dg3 (R i) (dgH R (67549 + (nI n).toInt64) i)) 7)]) (congrArg (fun z9 => Value.long z9 :: []) (by rw [eix, hnrm i hii]; exact dg8_6)) ?_
        refine p_lstore_n (lv9 := [(1, .long (dg8 (R i) (dg3 (R i) (dgH R (67549 + (nI n).toInt64) i)) 7)), (0, .ref (ad 0)), (3, .int (nI i))]) C rfl (by decide) rfl dX2_digest_157 ?_
        refine p_lload_n C rfl 0 rfl dX2_digest_158 ?_
        refine p_ldc2 (v := 31) C qkl_X2_142 dX2_digest_159 ?_
        refine p_lmul C dX2_digest_162 ?_
        refine p_aload_n C rfl 1 rfl dX2_digest_163 ?_
        refine p_iload_n C rfl 2 rfl dX2_digest_164 ?_
        refine cx_Vi (As := [.int (nI i)]) (rest := [.long ((dg8 (R i) (dg3 (R i) (dgH R (67549 + (nI n).toInt64) i)) 7) * 31)]) C (m_X2_bestShift l D k hfl (hn := hn) (hnrm := hnrm) (rc := (nI i))) 0 rfl rfl rfl qml_X2_172 qim_X2_bestShift qse_X2_X2_bestShift qin_X2 qco_X2_bestShift nd_X2_bestShift ⟨Nat.le_of_ble_eq_true rfl, Nat.le_of_ble_eq_true rfl⟩ (Nat.le_of_ble_eq_true rfl) ⟨by (try simp only [rmL_c, rmL_s]); omega, by (try simp only [rmL_c, rmL_s]); omega⟩ rfl dX2_digest_165 (fun E9 w9 h9 => absurd (e1_ok vi) h9.1) (fun r9 w9 h9 => ?_)
        obtain ⟨-, e9, T7, U7, tx7, sz7, rfl⟩ := h9
        refine p_int e9 ?_
        refine p_i2l C dX2_digest_168 ?_
        refine p_ladd C dX2_digest_169 ?_
        refine p_st (st9 := [.long (dg8 (R i) (dg3 (R i) (dgH R (67549 + (nI n).toInt64) i)) 8)]) (congrArg (fun z9 => Value.long z9 :: []) (by rw [eix, hnrm i hii]; exact dg8_7)) ?_
        refine p_lstore_n (lv9 := [(1, .long (dg8 (R i) (dg3 (R i) (dgH R (67549 + (nI n).toInt64) i)) 8)), (0, .ref (ad 0)), (3, .int (nI i))]) C rfl (by decide) rfl dX2_digest_170 ?_
        refine p_iconst (v := (nI 0)) C (by decide) dX2_digest_171 ?_
        refine p_istore (lv9 := [(4, .int (nI 0)), (1, .long (dg8 (R i) (dg3 (R i) (dgH R (67549 + (nI n).toInt64) i)) 8)), (0, .ref (ad 0)), (3, .int (nI i))]) C (by decide) rfl dX2_digest_172 ?_
        refine p_lv (lv9 := [(0, .ref (ad 0)), (1, .long (dg8 (R i) (dg3 (R i) (dgH R (67549 + (nI n).toInt64) i)) 8)), (3, .int (nI i)), (4, .int (nI 0))]) [2, 1, 3, 0] rfl ?_
        obtain ⟨d9, hd9⟩ : ∃ d9, d9 = c9 + 1 + 1 + 1 + 1 + 1 + 1 + 1 + 1 + 1 + 1 + 1 := ⟨_, rfl⟩
        obtain ⟨t9, ht9⟩ : ∃ t9, t9 = s9 + 6 + 6 + 6 + 6 + 6 + 6 + 6 + 6 + 6 + 6 + 6 := ⟨_, rfl⟩
        refine p_lvE (lv9 := [(0, .ref (ad 0)), (1, .long (dgA (R i) (dg8 (R i) (dg3 (R i) (dgH R (67549 + (nI n).toInt64) i)) 8) 0)), (3, .int (nI i)), (4, .int (nI 0))]) (by rw [dgA_z]) ?_
        have lp174 : ∀ (n174 : Nat) (j d9 t9 : Nat) (T8 U8 tx8 : Nat → Int32) (sz8 : Int32), (hj : j + n174 = 9) → (hd9 : d9 + 2 * n174 ≤ c9 + 30) → (ht9 : t9 + 12 * n174 ≤ s9 + 180) → WP p l e (rmL 6 480 2880) s m args below meth c D A 5 (KW k ad r (nI n) R T8 U8 tx8 sz8 Y) [(0, .ref (ad 0)), (1, .long (dgA (R i) (dg8 (R i) (dg3 (R i) (dgH R (67549 + (nI n).toInt64) i)) 8) j)), (3, .int (nI i)), (4, .int (nI j))] d9 t9 Q 174 [] := by
          intro n174
          induction n174 with
          | zero =>
            intro j d9 t9 T8 U8 tx8 sz8 hj hd9 ht9
            obtain rfl : j = 9 := by omega
            refine p_lvE (lv9 := [(0, .ref (ad 0)), (1, .long (dgH R (67549 + (nI n).toInt64) (i + 1))), (3, .int (nI i)), (4, .int (nI 9))]) (by rw [dgH_s]) ?_
            refine p_iload C 3 rfl dX2_digest_174 ?_
            refine p_bipush (v := 9) C (by decide) dX2_digest_176 ?_
            refine p_icmp_ge C 202 (by decide) dX2_digest_178 (fun c_178 => ?_) (fun c_178 => absurd c_178 (by decide))
            refine p_iinc (lv9 := [(3, .int (nI (i + 1))), (0, .ref (ad 0)), (1, .long (dgH R (67549 + (nI n).toInt64) (i + 1))), (4, .int (nI 9))]) (v := (nI (i + 1))) C (j := 2) rfl (i_up i) (by decide) rfl dX2_digest_202 ?_
            refine p_goto C 12 (by decide) dX2_digest_205 ?_
            refine p_lv (lv9 := [(0, .ref (ad 0)), (1, .long (dgH R (67549 + (nI n).toInt64) (i + 1))), (3, .int (nI (i + 1)))]) [1, 2, 0] rfl ?_
            exact ih12 (i + 1) _ _ _ _ _ _ (by omega) (by (try simp only [rmL_c, rmL_s]); omega) (by (try simp only [rmL_c, rmL_s]); omega)
          | succ n174 ih174 =>
            intro j d9 t9 T8 U8 tx8 sz8 hj hd9 ht9
            have vp := isF8 j (by omega)
            have ejx : ix (nI j) = j := ix_nI (by omega)
            refine p_iload C 3 rfl dX2_digest_174 ?_
            refine p_bipush (v := 9) C (by decide) dX2_digest_176 ?_
            refine p_icmp_ge C 202 (by decide) dX2_digest_178 (fun c_178 => absurd c_178 (nI_ge (b := 9) (show j < 9 by omega) (by decide))) (fun c_178 => ?_)
            refine p_lload_n C rfl 1 rfl dX2_digest_181 ?_
            refine p_ldc2 (v := 31) C qkl_X2_142 dX2_digest_182 ?_
            refine p_lmul C dX2_digest_185 ?_
            refine p_aload_n C rfl 0 rfl dX2_digest_186 ?_
            refine p_iload_n C rfl 2 rfl dX2_digest_187 ?_
            refine p_iload C 3 rfl dX2_digest_188 ?_
            refine cx_Vi (As := [.int (nI i), .int (nI j)]) (rest := [.long ((dgA (R i) (dg8 (R i) (dg3 (R i) (dgH R (67549 + (nI n).toInt64) i)) 8) j) * 31)]) C (m_X2_amountOf l D k hfl (hn := hn)  (rc := (nI i)) (pw := (nI j))) 0 rfl rfl rfl qml_X2_175 qim_X2_amountOf qse_X2_X2_amountOf qin_X2 qco_X2_amountOf nd_X2_amountOf ⟨Nat.le_of_ble_eq_true rfl, Nat.le_of_ble_eq_true rfl⟩ (Nat.le_of_ble_eq_true rfl) ⟨by (try simp only [rmL_c, rmL_s]); omega, by (try simp only [rmL_c, rmL_s]); omega⟩ rfl dX2_digest_190 (fun E9 w9 h9 => absurd (eAmt_ok vi vp) h9.1) (fun r9 w9 h9 => ?_)
            obtain ⟨-, e9, T7, U7, tx7, sz7, rfl⟩ := h9
            refine p_int e9 ?_
            refine p_i2l C dX2_digest_193 ?_
            refine p_ladd C dX2_digest_194 ?_
            refine p_st (st9 := [.long (dgA (R i) (dg8 (R i) (dg3 (R i) (dgH R (67549 + (nI n).toInt64) i)) 8) (j + 1))]) (congrArg (fun z9 => Value.long z9 :: []) (by rw [eix, ejx]; exact dgA_e)) ?_
            refine p_lstore_n (lv9 := [(1, .long (dgA (R i) (dg8 (R i) (dg3 (R i) (dgH R (67549 + (nI n).toInt64) i)) 8) (j + 1))), (0, .ref (ad 0)), (3, .int (nI i)), (4, .int (nI j))]) C rfl (by decide) rfl dX2_digest_195 ?_
            refine p_iinc (lv9 := [(4, .int (nI (j + 1))), (1, .long (dgA (R i) (dg8 (R i) (dg3 (R i) (dgH R (67549 + (nI n).toInt64) i)) 8) (j + 1))), (0, .ref (ad 0)), (3, .int (nI i))]) (v := (nI (j + 1))) C (j := 3) rfl (i_up j) (by decide) rfl dX2_digest_196 ?_
            refine p_goto C 174 (by decide) dX2_digest_199 ?_
            refine p_lv (lv9 := [(0, .ref (ad 0)), (1, .long (dgA (R i) (dg8 (R i) (dg3 (R i) (dgH R (67549 + (nI n).toInt64) i)) 8) (j + 1))), (3, .int (nI i)), (4, .int (nI (j + 1)))]) [2, 1, 3, 0] rfl ?_
            exact ih174 (j + 1) _ _ _ _ _ _ (by omega) (by (try simp only [rmL_c, rmL_s]); omega) (by (try simp only [rmL_c, rmL_s]); omega)
        exact lp174 9 0 _ _ _ _ _ _ rfl (by (try simp only [rmL_c, rmL_s]); omega) (by (try simp only [rmL_c, rmL_s]); omega)
      refine p_if_eq C 50 (by decide) dX2_digest_43 (fun c_43 => ?_) (fun c_43 => ?_)
      · refine p_iconst (v := 0) C (by decide) dX2_digest_50 ?_
        refine p_st (st9 := [.int (bI (pln (R (ix (nI i))))), .long ((((dgH R (67549 + (nI n).toInt64) i) * 31) + ((dI (dg (R (ix (nI i))))).toInt64)) * 31)]) (by rw [bI_eq c_43]; rfl) ?_
        exact j51
      · refine p_iconst (v := 1) C (by decide) dX2_digest_46 ?_
        refine p_goto C 51 (by decide) dX2_digest_47 ?_
        refine p_st (st9 := [.int (bI (pln (R (ix (nI i))))), .long ((((dgH R (67549 + (nI n).toInt64) i) * 31) + ((dI (dg (R (ix (nI i))))).toInt64)) * 31)]) (by rw [bI_ne c_43]; rfl) ?_
        exact j51
  exact lp12 n 0 0 0 T U tx sz (Nat.zero_add _) (by omega) (by omega)
