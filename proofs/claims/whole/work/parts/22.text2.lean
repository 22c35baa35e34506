theorem nar_cc : ∀ c, c < 128 → vp_nar .char (nI c) = nI c := by decide +kernel
/-- a unit of ten -/
def un (d : Nat) : Nat := 1000000000 / 10 ^ d
theorem un_s (d : Nat) : un d / 10 = un (d + 1) := by
  unfold un
  rw [Nat.div_div_eq_div_mul, Nat.pow_succ]
theorem un_le (d : Nat) : un d ≤ 1000000000 := Nat.div_le_self _ _
theorem un_p : ∀ d, d < 10 → un d = 10 ^ (9 - d) := by decide +kernel
theorem un_pos {d : Nat} (h : d < 10) : 0 < un d := by rw [un_p d h]; exact Nat.pow_pos (by omega)
theorem pdN_s {v d : Nat} (h : d < 10) : pdN v (d + 1) = if un d ≤ v then pdN v d ++ [48 + v / un d % 10] else pdN v d := by
  rw [un_p d h]; rfl
theorem l_lt {a b : Nat} (ha : a < 2 ^ 62) (hb : b < 2 ^ 62) : lg_cmp (lN a) (lN b) < 0 ↔ a < b := by
  rw [lg_cmp_lt, pk_lLT (by omega) (by omega)]
theorem l_le0 {a : Nat} (h : 0 < a) (ha : a < 2 ^ 62) : ¬ lg_cmp (lN a) 0 ≤ 0 := fun q => by
  rw [lg_cmp_le, show (0 : Int64) = lN 0 from rfl, pk_lLE (by omega) (by omega)] at q
  omega
theorem l_48 (a : Nat) : 48 + lN a = lN (48 + a) := by
  rw [show (48 : Int64) = lN 48 from rfl, lN_add]
theorem l_10 : (10 : Int64) = lN 10 := rfl
theorem l_ne1 {a : Nat} (h : a < 2 ^ 62) : ¬ lg_cmp (lN a) 1 = 0 ↔ ¬ a = 1 := by
  rw [lg_cmp_eq, show (1 : Int64) = lN 1 from rfl, pk_lEQ (by omega) (by omega)]
theorem nI_lt1 {a b : Nat} (ha : a < 2 ^ 31) (hb : b < 2 ^ 31) : nI a < nI b ↔ a < b := nI_ltI ha hb
set_option maxHeartbeats 4000000 in
set_option maxRecDepth 100000 in
/-- X0_size -/
theorem m_X0_size (l : Launch) (D : va_G) (k : Nat → ClassId) {ad r : Nat → Nat} {cn : Int32} {R : Nat → Nat → Int32} {T U tx : Nat → Int32} {sz : Int32} {Y : va_W}  : CtI l D k yX0_size (wU yX0_size cX0_size 1 (some .int)) (rmL 0 0 0) [.ref (ad 4)] (KW k ad r cn R T U tx sz Y) (fun v9 w' => v9 = sz ∧ w' = (KW k ad r cn R T U tx sz Y)) := by
  refine openI (own := RX0) rfl (by decide) (Nat.le_of_ble_eq_true rfl) rfl ?_
  intro p e s m args below meth c A C hrt9 hnm
  obtain ⟨Q, hQ⟩ : ∃ Q, Q = (MQ below (va_Qi (fun v9 w' => v9 = sz ∧ w' = (KW k ad r cn R T U tx sz Y)) (cBA D A) A) args s 0 0 A) := ⟨_, rfl⟩
  show WP p l e (rmL 0 0 0) s m args below meth c D A 1 (KW k ad r cn R T U tx sz Y) [(0, .ref (ad 4))] 0 0 (MQ below (va_Qi (fun v9 w' => v9 = sz ∧ w' = (KW k ad r cn R T U tx sz Y)) (cBA D A) A) args s 0 0 A) 0 []
  rw [← hQ]
  refine p_aload_n C rfl 0 rfl dX0_size_0 ?_
  refine p_get (v := .int sz) (T := TX0) C 4 rfl rfl 1 (by decide) inX0 qfl_X0_15 (fun _ h9 => h9) rfl dX0_size_1 ?_
  rw [hQ]
  exact r_i C hrt9 (⟨rfl, rfl⟩) (by decide) (by decide) dX0_size_4
set_option maxHeartbeats 4000000 in
set_option maxRecDepth 100000 in
/-- X0_put -/
theorem m_X0_put (l : Launch) (D : va_G) (k : Nat → ClassId) {ad r : Nat → Nat} {cn : Int32} {R : Nat → Nat → Int32} {T U tx : Nat → Int32} {Y : va_W} {q c9 : Nat} (hq : q < 117) (hc : c9 < 128) : CtV l D k yX0_put (wU yX0_put cX0_put 2 (none)) (rmL 0 0 0) [.ref (ad 4), .int (nI c9)] (KW k ad r cn R T U tx (nI q) Y) (fun w' => w' = (KW k ad r cn R T U (upd tx q (nI c9)) (nI (q + 1)) Y)) := by
  refine openV (own := RX0) rfl (by decide) (Nat.le_of_ble_eq_true rfl) rfl ?_
  intro p e s m args below meth c A C hrt9 hnm
  obtain ⟨Q, hQ⟩ : ∃ Q, Q = (MQ below (va_Qv (fun w' => w' = (KW k ad r cn R T U (upd tx q (nI c9)) (nI (q + 1)) Y)) (cBA D A) A) args s 0 0 A) := ⟨_, rfl⟩
  show WP p l e (rmL 0 0 0) s m args below meth c D A 2 (KW k ad r cn R T U tx (nI q) Y) [(0, .ref (ad 4)), (1, .int (nI c9))] 0 0 (MQ below (va_Qv (fun w' => w' = (KW k ad r cn R T U (upd tx q (nI c9)) (nI (q + 1)) Y)) (cBA D A) A) args s 0 0 A) 0 []
  rw [← hQ]
  refine p_aload_n C rfl 0 rfl dX0_put_0 ?_
  refine p_get (v := .int (nI q)) (T := TX0) C 4 rfl rfl 1 (by decide) inX0 qfl_X0_15 (fun _ h9 => h9) rfl dX0_put_1 ?_
  refine p_bipush (v := (nI 117)) C (by decide) dX0_put_4 ?_
  refine p_icmp_ge C 29 (by decide) dX0_put_6 (fun c_6 => absurd c_6 (nI_ge (b := 117) hq (by decide))) (fun c_6 => ?_)
  refine p_aload_n C rfl 0 rfl dX0_put_9 ?_
  refine p_get (v := .ref (ad 5)) (T := TX0) C 4 rfl rfl 0 (by decide) inX0 qfl_X0_11 (fun _ h9 => h9) rfl dX0_put_10 ?_
  refine p_aload_n C rfl 0 rfl dX0_put_13 ?_
  refine p_get (v := .int (nI q)) (T := TX0) C 4 rfl rfl 1 (by decide) inX0 qfl_X0_15 (fun _ h9 => h9) rfl dX0_put_14 ?_
  refine p_iload_n C rfl 1 rfl dX0_put_17 ?_
  refine p_cast2 (y := (nI c9)) (w9 := (KW k ad r cn R T U (upd tx q (nI c9)) (nI q) Y)) C 5 rfl (vp_in_nI (n := q) (N := 117) (by omega) (by omega)) (nar_cc c9 hc) (by rw [show ((nI q)).toNatClampNeg = q from nI_clamp (by omega)]; exact rfl) dX0_put_18 ?_
  refine p_aload_n C rfl 0 rfl dX0_put_19 ?_
  refine p_dup C rfl dX0_put_20 ?_
  refine p_get (v := .int (nI q)) (T := TX0) C 4 rfl rfl 1 (by decide) inX0 qfl_X0_15 (fun _ h9 => h9) rfl dX0_put_21 ?_
  refine p_iconst (v := 1) C (by decide) dX0_put_24 ?_
  refine p_iadd C dX0_put_25 ?_
  refine p_int (y := (nI (q + 1))) (nI_1 q) ?_
  refine p_put (w9 := (KW k ad r cn R T U (upd tx q (nI c9)) (nI (q + 1)) Y)) (v := .int (nI (q + 1))) (T := TX0) C tyX0 tyX0_ok nmX0 4 rfl rfl 1 (by decide) inX0 qfl_X0_15 (fun _ h9 => h9) rfl rfl rfl (Nat.le_of_ble_eq_true rfl) rfl dX0_put_26 ?_
  rw [hQ]
  exact r_v C hrt9 rfl (by decide) (by decide) dX0_put_29
set_option maxHeartbeats 4000000 in
set_option maxRecDepth 100000 in
/-- X0_putDigits -/
theorem m_X0_putDigits (l : Launch) (D : va_G) (k : Nat → ClassId) {ad r : Nat → Nat} {cn : Int32} {R : Nat → Nat → Int32} {T U tx : Nat → Int32} {Y : va_W} {t : List Nat} {u : Nat} (hu : u < 10000000000) (hl : t.length + 10 ≤ 117) (ht : tHas tx t) : CtV l D k yX0_putDigits (wU yX0_putDigits cX0_putDigits 6 (none)) (rmL 1 0 0) [.ref (ad 4), .long (lN u)] (KW k ad r cn R T U tx (nI t.length) Y) (fun w' => ∃ tx', tHas tx' (t ++ pdN u 10) ∧ w' = (KW k ad r cn R T U tx' (nI (t ++ pdN u 10).length) Y)) := by
  refine openV (own := RX0) rfl (by decide) (Nat.le_of_ble_eq_true rfl) rfl ?_
  intro p e s m args below meth c A C hrt9 hnm
  obtain ⟨Q, hQ⟩ : ∃ Q, Q = (MQ below (va_Qv (fun w' => ∃ tx', tHas tx' (t ++ pdN u 10) ∧ w' = (KW k ad r cn R T U tx' (nI (t ++ pdN u 10).length) Y)) (cBA D A) A) args s 0 0 A) := ⟨_, rfl⟩
  show WP p l e (rmL 1 0 0) s m args below meth c D A 6 (KW k ad r cn R T U tx (nI t.length) Y) [(0, .ref (ad 4)), (1, .long (lN u))] 0 0 (MQ below (va_Qv (fun w' => ∃ tx', tHas tx' (t ++ pdN u 10) ∧ w' = (KW k ad r cn R T U tx' (nI (t ++ pdN u 10).length) Y)) (cBA D A) A) args s 0 0 A) 0 []
  rw [← hQ]
  refine p_ldc2 (v := (lN (un 0))) C qkl_X0_37 dX0_putDigits_0 ?_
  refine p_lstore_n (lv9 := [(3, .long (lN (un 0))), (0, .ref (ad 4)), (1, .long (lN u))]) C rfl (by decide) rfl dX0_putDigits_3 ?_
  refine p_iconst (v := (nI 0)) C (by decide) dX0_putDigits_4 ?_
  refine p_istore (lv9 := [(5, .int (nI 0)), (3, .long (lN (un 0))), (0, .ref (ad 4)), (1, .long (lN u))]) C (by decide) rfl dX0_putDigits_5 ?_
  refine p_w (w9 := (KW k ad r cn R T U tx (nI (t ++ pdN u 0).length) Y)) (by rw [show pdN u 0 = [] from rfl, List.append_nil]) ?_
  refine p_lv (lv9 := [(0, .ref (ad 4)), (1, .long (lN u)), (3, .long (lN (un 0))), (5, .int (nI 0))]) [2, 3, 1, 0] rfl ?_
  have lp7 : ∀ (n7 : Nat) (d9 : Nat) (tx9 : Nat → Int32), (hd : d9 + n7 = 10) → (hh : tHas tx9 (t ++ pdN u d9)) → WP p l e (rmL 1 0 0) s m args below meth c D A 6 (KW k ad r cn R T U tx9 (nI (t ++ pdN u d9).length) Y) [(0, .ref (ad 4)), (1, .long (lN u)), (3, .long (lN (un d9))), (5, .int (nI d9))] 0 0 Q 7 [] := by
    intro n7
    induction n7 with
    | zero =>
      intro d9 tx9 hd hh
      obtain rfl : d9 = 10 := by omega
      refine p_iload C 3 rfl dX0_putDigits_7 ?_
      refine p_bipush (v := (nI 10)) C (by decide) dX0_putDigits_9 ?_
      refine p_icmp_ge C 55 (by decide) dX0_putDigits_11 (fun c_11 => ?_) (fun c_11 => absurd c_11 (by decide))
      rw [hQ]
      exact r_v C hrt9 (⟨_, hh, rfl⟩) (by decide) (by decide) dX0_putDigits_55
    | succ n7 ih7 =>
      intro d9 tx9 hd hh
      have hpd := @pdN_le u d9
      have hun := un_le d9
      have hup := @un_pos d9 (by omega)
      have hll : (t ++ pdN u d9).length = t.length + (pdN u d9).length := List.length_append
      have hu0 : (lN (un d9)) ≠ 0 := fun z9 => by rw [show (0 : Int64) = lN 0 from rfl, pk_lEQ (by omega) (by omega)] at z9; omega
      refine p_iload C 3 rfl dX0_putDigits_7 ?_
      refine p_bipush (v := (nI 10)) C (by decide) dX0_putDigits_9 ?_
      refine p_icmp_ge C 55 (by decide) dX0_putDigits_11 (fun c_11 => absurd c_11 (nI_ge (b := 10) (show d9 < 10 by omega) (by decide))) (fun c_11 => ?_)
      refine p_lload_n C rfl 2 rfl dX0_putDigits_14 ?_
      refine p_lconst (v := 0) C (by decide) dX0_putDigits_15 ?_
      refine p_lcmp C dX0_putDigits_16 ?_
      refine p_if_le C 43 (by decide) dX0_putDigits_17 (fun c_17 => absurd c_17 (l_le0 hup (by omega))) (fun c_17 => ?_)
      refine p_lload_n C rfl 1 rfl dX0_putDigits_20 ?_
      refine p_lload_n C rfl 2 rfl dX0_putDigits_21 ?_
      refine p_lcmp C dX0_putDigits_22 ?_
      refine p_if_lt C 43 (by decide) dX0_putDigits_23 (fun c_23 => ?_) (fun c_23 => ?_)
      · have hlt : ¬ un d9 ≤ u := Nat.not_le.mpr ((l_lt (by omega) (by omega)).mp c_23)
        refine p_lload_n C rfl 2 rfl dX0_putDigits_43 ?_
        refine p_ldc2 (v := 10) C qkl_X0_41 dX0_putDigits_44 ?_
        refine p_ldiv C (by decide) dX0_putDigits_47 ?_
        refine p_st (st9 := [.long (lN (un (d9 + 1)))]) (congrArg (fun z9 => Value.long z9 :: []) (by rw [l_10, pk_lDiv (by omega) (by omega) (by omega), un_s])) ?_
        refine p_lstore_n (lv9 := [(3, .long (lN (un (d9 + 1)))), (0, .ref (ad 4)), (1, .long (lN u)), (5, .int (nI d9))]) C rfl (by decide) rfl dX0_putDigits_48 ?_
        refine p_iinc (lv9 := [(5, .int (nI (d9 + 1))), (3, .long (lN (un (d9 + 1)))), (0, .ref (ad 4)), (1, .long (lN u))]) (v := (nI (d9 + 1))) C (j := 3) rfl (i_up d9) (by decide) rfl dX0_putDigits_49 ?_
        refine p_goto C 7 (by decide) dX0_putDigits_52 ?_
        have e9 := @pdN_s u d9 (by omega)
        rw [show (t ++ pdN u d9) = (t ++ pdN u (d9 + 1)) from by rw [e9, if_neg hlt]] at hh ⊢
        refine p_lv (lv9 := [(0, .ref (ad 4)), (1, .long (lN u)), (3, .long (lN (un (d9 + 1)))), (5, .int (nI (d9 + 1)))]) [2, 3, 1, 0] rfl ?_
        exact ih7 (d9 + 1) tx9 (by omega) hh
      · have hge : un d9 ≤ u := Nat.le_of_not_lt fun z9 => c_23 ((l_lt (by omega) (by omega)).mpr z9)
        have hm := Nat.mod_lt (u / un d9) (show 0 < 10 by omega)
        have hdv := Nat.div_le_self u (un d9)
        refine p_aload_n C rfl 0 rfl dX0_putDigits_26 ?_
        refine p_ldc2 (v := 48) C qkl_X0_39 dX0_putDigits_27 ?_
        refine p_lload_n C rfl 1 rfl dX0_putDigits_30 ?_
        refine p_lload_n C rfl 2 rfl dX0_putDigits_31 ?_
        refine p_ldiv C hu0 dX0_putDigits_32 ?_
        refine p_st (st9 := [.long (lN (u / un d9)), .long 48, .ref (ad 4)]) (congrArg (fun z9 => Value.long z9 :: [.long 48, .ref (ad 4)]) (pk_lDiv (by omega) hup (by omega))) ?_
        refine p_ldc2 (v := 10) C qkl_X0_41 dX0_putDigits_33 ?_
        refine p_lrem C (by decide) dX0_putDigits_36 ?_
        refine p_st (st9 := [.long (lN (u / un d9 % 10)), .long 48, .ref (ad 4)]) (congrArg (fun z9 => Value.long z9 :: [.long 48, .ref (ad 4)]) (by rw [l_10]; exact pk_lRem (by omega) (by omega) (by omega))) ?_
        refine p_ladd C dX0_putDigits_37 ?_
        refine p_st (st9 := [.long (lN (48 + u / un d9 % 10)), .ref (ad 4)]) (congrArg (fun z9 => Value.long z9 :: [.ref (ad 4)]) (l_48 _)) ?_
        refine p_l2i C dX0_putDigits_38 ?_
        refine p_int (y := (nI (48 + u / un d9 % 10))) (lN_i _) ?_
        refine p_i2c C dX0_putDigits_39 ?_
        refine p_int (y := (nI (48 + u / un d9 % 10))) (i2c_c _ (by omega)) ?_
        refine c_Vv (As := [.int (nI (48 + u / un d9 % 10))]) (rest := []) C (m_X0_put l D k (q := ((t ++ pdN u d9).length)) (c9 := (48 + u / un d9 % 10)) (by omega) (by omega)) 4 rfl rfl rfl qml_X0_23 qim_X0_put qse_X0_X0_put qin_X0 qco_X0_put nd_X0_put ⟨Nat.le_of_ble_eq_true rfl, Nat.le_of_ble_eq_true rfl⟩ (Nat.le_of_ble_eq_true rfl) ⟨Nat.le_of_ble_eq_true rfl, Nat.le_of_ble_eq_true rfl⟩ rfl dX0_putDigits_40 (fun w9 h9 => ?_)
        obtain rfl := h9
        refine p_lload_n C rfl 2 rfl dX0_putDigits_43 ?_
        refine p_ldc2 (v := 10) C qkl_X0_41 dX0_putDigits_44 ?_
        refine p_ldiv C (by decide) dX0_putDigits_47 ?_
        refine p_st (st9 := [.long (lN (un (d9 + 1)))]) (congrArg (fun z9 => Value.long z9 :: []) (by rw [l_10, pk_lDiv (by omega) (by omega) (by omega), un_s])) ?_
        refine p_lstore_n (lv9 := [(3, .long (lN (un (d9 + 1)))), (0, .ref (ad 4)), (1, .long (lN u)), (5, .int (nI d9))]) C rfl (by decide) rfl dX0_putDigits_48 ?_
        refine p_iinc (lv9 := [(5, .int (nI (d9 + 1))), (3, .long (lN (un (d9 + 1)))), (0, .ref (ad 4)), (1, .long (lN u))]) (v := (nI (d9 + 1))) C (j := 3) rfl (i_up d9) (by decide) rfl dX0_putDigits_49 ?_
        refine p_goto C 7 (by decide) dX0_putDigits_52 ?_
        have e9 : t ++ pdN u (d9 + 1) = (t ++ pdN u d9) ++ [48 + u / un d9 % 10] := by rw [@pdN_s u d9 (by omega), if_pos hge, List.append_assoc]
        have hln : (t ++ pdN u (d9 + 1)).length = (t ++ pdN u d9).length + 1 := by rw [e9, List.length_append]; rfl
        refine p_w (w9 := (KW k ad r cn R T U (upd tx9 ((t ++ pdN u d9).length) (nI (48 + u / un d9 % 10))) (nI (t ++ pdN u (d9 + 1)).length) Y)) (by rw [hln]) ?_
        refine p_lv (lv9 := [(0, .ref (ad 4)), (1, .long (lN u)), (3, .long (lN (un (d9 + 1)))), (5, .int (nI (d9 + 1)))]) [2, 3, 1, 0] rfl ?_
        exact ih7 (d9 + 1) _ (by omega) (by rw [e9]; exact (tHas_put hh (48 + u / un d9 % 10)))
  exact lp7 10 0 tx rfl (by rw [show pdN u 0 = [] from rfl, List.append_nil]; exact ht)
set_option maxHeartbeats 4000000 in
set_option maxRecDepth 100000 in
/-- X0_putPart -/
theorem m_X0_putPart (l : Launch) (D : va_G) (k : Nat → ClassId) {ad r : Nat → Nat} {cn : Int32} {R : Nat → Nat → Int32} {T U tx : Nat → Int32} {Y : va_W} {t : List Nat} {x : Int32} {q9 : Nat} (hx : ¬ x = 0) (hq : q9 < 9) (hl : t.length + 13 * (q9 + 1) ≤ 117) (ht : tHas tx t) : CtV l D k yX0_putPart (wU yX0_putPart cX0_putPart 5 (none)) (rmL 2 0 0) [.ref (ad 4), .int x, .int (nI q9)] (KW k ad r cn R T U tx (nI t.length) Y) (fun w' => ∃ tx', tHas tx' (paL x q9 t) ∧ w' = (KW k ad r cn R T U tx' (nI (paL x q9 t).length) Y)) := by
  refine openV (own := RX0) rfl (by decide) (Nat.le_of_ble_eq_true rfl) rfl ?_
  intro p e s m args below meth c A C hrt9 hnm
  obtain ⟨Q, hQ⟩ : ∃ Q, Q = (MQ below (va_Qv (fun w' => ∃ tx', tHas tx' (paL x q9 t) ∧ w' = (KW k ad r cn R T U tx' (nI (paL x q9 t).length) Y)) (cBA D A) A) args s 0 0 A) := ⟨_, rfl⟩
  show WP p l e (rmL 2 0 0) s m args below meth c D A 5 (KW k ad r cn R T U tx (nI t.length) Y) [(0, .ref (ad 4)), (1, .int x), (2, .int (nI q9))] 0 0 (MQ below (va_Qv (fun w' => ∃ tx', tHas tx' (paL x q9 t) ∧ w' = (KW k ad r cn R T U tx' (nI (paL x q9 t).length) Y)) (cBA D A) A) args s 0 0 A) 0 []
  rw [← hQ]
  have hab := ab_pos hx
  have hab2 := ab_le x
  have := sgL_le x t
  have := dgL_le x q9
  have := xL_le q9
  have := pL_le q9
  have : (t ++ sgL x t).length = (t).length + (sgL x t).length := List.length_append
  have : (t ++ sgL x t ++ dgL x q9).length = (t ++ sgL x t).length + (dgL x q9).length := List.length_append
  have : (t ++ sgL x t ++ dgL x q9 ++ xL q9).length = (t ++ sgL x t ++ dgL x q9).length + (xL q9).length := List.length_append
  have j57 : ∀ (tx9 : Nat → Int32), tHas tx9 (t ++ sgL x t ++ dgL x q9 ++ xL q9) → WP p l e (rmL 2 0 0) s m args below meth c D A 5 (KW k ad r cn R T U tx9 (nI (t ++ sgL x t ++ dgL x q9 ++ xL q9).length) Y) [(0, .ref (ad 4)), (1, .int x), (2, .int (nI q9))] 0 0 Q 57 [] := by
    intro tx9 hh
    refine p_iload_n C rfl 2 rfl dX0_putPart_57 ?_
    refine p_iconst (v := (nI 2)) C (by decide) dX0_putPart_58 ?_
    refine p_icmp_lt C 68 (by decide) dX0_putPart_59 (fun c_59 => ?_) (fun c_59 => ?_)
    · have es : pL q9 = [] := if_neg (by have := (nI_ltI (b := 2) (by omega) (by omega)).mp c_59; omega)
      have hln : (paL x q9 t).length = (t ++ sgL x t ++ dgL x q9 ++ xL q9).length := by rw [show paL x q9 t = t ++ sgL x t ++ dgL x q9 ++ xL q9 ++ pL q9 from rfl]; rw [es]; rw [List.append_nil]
      have hta : tHas tx9 (paL x q9 t) := by rw [show paL x q9 t = t ++ sgL x t ++ dgL x q9 ++ xL q9 ++ pL q9 from rfl]; rw [es]; rw [List.append_nil]; exact hh
      refine p_w (w9 := (KW k ad r cn R T U tx9 (nI (paL x q9 t).length) Y)) (by rw [hln]) ?_
      rw [hQ]
      exact r_v C hrt9 ⟨_, hta, rfl⟩ (by (try simp only [rmL_c, rmL_s]); omega) (by (try simp only [rmL_c, rmL_s]); omega) dX0_putPart_68
    · have hq2 : 2 ≤ q9 := Nat.le_of_not_lt fun z9 => c_59 ((nI_ltI (b := 2) (by omega) (by omega)).mpr z9)
      refine p_aload_n C rfl 0 rfl dX0_putPart_62 ?_
      refine p_iload_n C rfl 2 rfl dX0_putPart_63 ?_
      refine p_i2l C dX0_putPart_64 ?_
      refine p_st (st9 := [.long (lN q9), .ref (ad 4)]) (congrArg (fun z9 => Value.long z9 :: [.ref (ad 4)]) (nI_l (by omega))) ?_
      refine c_Vv (As := [.long (lN q9)]) (rest := []) C (m_X0_putDigits l D k (t := (t ++ sgL x t ++ dgL x q9 ++ xL q9)) (u := q9) (by omega) (by omega) hh) 4 rfl rfl rfl qml_X0_33 qim_X0_putDigits qse_X0_X0_putDigits qin_X0 qco_X0_putDigits nd_X0_putDigits ⟨Nat.le_of_ble_eq_true rfl, Nat.le_of_ble_eq_true rfl⟩ (Nat.le_of_ble_eq_true rfl) ⟨Nat.le_of_ble_eq_true rfl, Nat.le_of_ble_eq_true rfl⟩ rfl dX0_putPart_65 (fun w9 h9 => ?_)
      obtain ⟨tx8, hh8, rfl⟩ := h9
      rw [pdN_dec (v := q9) (by omega) (by omega)] at hh8 ⊢
      have es : pL q9 = decL q9 := (if_pos (Nat.le_of_not_lt fun z9 => c_59 ((nI_ltI (b := 2) (by omega) (by omega)).mpr z9))).trans (decL_1 q9 (by omega)).symm
      have hln : (paL x q9 t).length = ((t ++ sgL x t ++ dgL x q9 ++ xL q9) ++ decL q9).length := by rw [show paL x q9 t = t ++ sgL x t ++ dgL x q9 ++ xL q9 ++ pL q9 from rfl]; rw [es]; try (first | rfl | exact List.length_append)
      have hta : tHas tx8 (paL x q9 t) := by rw [show paL x q9 t = t ++ sgL x t ++ dgL x q9 ++ xL q9 ++ pL q9 from rfl]; rw [es]; exact hh8
      refine p_w (w9 := (KW k ad r cn R T U tx8 (nI (paL x q9 t).length) Y)) (by rw [hln]) ?_
      rw [hQ]
      exact r_v C hrt9 ⟨_, hta, rfl⟩ (by (try simp only [rmL_c, rmL_s]); omega) (by (try simp only [rmL_c, rmL_s]); omega) dX0_putPart_68
  have j46 : ∀ (tx9 : Nat → Int32), tHas tx9 (t ++ sgL x t ++ dgL x q9) → WP p l e (rmL 2 0 0) s m args below meth c D A 5 (KW k ad r cn R T U tx9 (nI (t ++ sgL x t ++ dgL x q9).length) Y) [(0, .ref (ad 4)), (1, .int x), (2, .int (nI q9))] 0 0 Q 46 [] := by
    intro tx9 hh
    refine p_iload_n C rfl 2 rfl dX0_putPart_46 ?_
    refine p_iconst (v := (nI 1)) C (by decide) dX0_putPart_47 ?_
    refine p_icmp_lt C 57 (by decide) dX0_putPart_48 (fun c_48 => ?_) (fun c_48 => ?_)
    · have es : xL q9 = [] := if_neg (by have := (nI_ltI (b := 1) (by omega) (by omega)).mp c_48; omega)
      have hln : (t ++ sgL x t ++ dgL x q9 ++ xL q9).length = (t ++ sgL x t ++ dgL x q9).length := by rw [es]; rw [List.append_nil]
      have hta : tHas tx9 (t ++ sgL x t ++ dgL x q9 ++ xL q9) := by rw [es]; rw [List.append_nil]; exact hh
      refine p_w (w9 := (KW k ad r cn R T U tx9 (nI (t ++ sgL x t ++ dgL x q9 ++ xL q9).length) Y)) (by rw [hln]) ?_
      exact j57 _ hta
    · refine p_aload_n C rfl 0 rfl dX0_putPart_51 ?_
      refine p_bipush (v := 120) C (by decide) dX0_putPart_52 ?_
      refine c_Vv (As := [.int 120]) (rest := []) C (m_X0_put l D k (q := ((t ++ sgL x t ++ dgL x q9).length)) (c9 := 120) (by omega) (by omega)) 4 rfl rfl rfl qml_X0_23 qim_X0_put qse_X0_X0_put qin_X0 qco_X0_put nd_X0_put ⟨Nat.le_of_ble_eq_true rfl, Nat.le_of_ble_eq_true rfl⟩ (Nat.le_of_ble_eq_true rfl) ⟨Nat.le_of_ble_eq_true rfl, Nat.le_of_ble_eq_true rfl⟩ rfl dX0_putPart_54 (fun w9 h9 => ?_)
      obtain rfl := h9
      have es : xL q9 = [120] := if_pos (Nat.le_of_not_lt fun z9 => c_48 ((nI_ltI (b := 1) (by omega) (by omega)).mpr z9))
      have hln : (t ++ sgL x t ++ dgL x q9 ++ xL q9).length = (((t ++ sgL x t ++ dgL x q9).length) + 1) := by rw [es]; try (first | rfl | exact List.length_append)
      have hta : tHas (upd tx9 ((t ++ sgL x t ++ dgL x q9).length) (nI 120)) (t ++ sgL x t ++ dgL x q9 ++ xL q9) := by rw [es]; exact (tHas_put hh 120)
      refine p_w (w9 := (KW k ad r cn R T U (upd tx9 ((t ++ sgL x t ++ dgL x q9).length) (nI 120)) (nI (t ++ sgL x t ++ dgL x q9 ++ xL q9).length) Y)) (by rw [hln]) ?_
      exact j57 _ hta
  have j26 : ∀ (tx9 : Nat → Int32), tHas tx9 (t ++ sgL x t) → WP p l e (rmL 2 0 0) s m args below meth c D A 5 (KW k ad r cn R T U tx9 (nI (t ++ sgL x t).length) Y) [(0, .ref (ad 4)), (1, .int x), (2, .int (nI q9))] 0 0 Q 26 [] := by
    intro tx9 hh
    refine p_iload_n C rfl 1 rfl dX0_putPart_26 ?_
    refine c_Sl (As := [.int x]) (rest := []) C (m_X1_withoutSign l D k (x := x)) qml_X0_27 qst_X1_withoutSign qin_X1 qco_X1_withoutSign nd_X1_withoutSign ⟨Nat.le_of_ble_eq_true rfl, Nat.le_of_ble_eq_true rfl⟩ (Nat.le_of_ble_eq_true rfl) ⟨Nat.le_of_ble_eq_true rfl, Nat.le_of_ble_eq_true rfl⟩ rfl dX0_putPart_27 (fun r9 w9 h9 => ?_)
    obtain ⟨rfl, rfl⟩ := h9
    refine p_lstore_n (lv9 := [(3, .long (lN (ab x))), (0, .ref (ad 4)), (1, .int x), (2, .int (nI q9))]) C rfl (by decide) rfl dX0_putPart_30 ?_
    refine p_lload_n C rfl 0 rfl dX0_putPart_31 ?_
    refine p_lconst (v := 1) C (by decide) dX0_putPart_32 ?_
    refine p_lcmp C dX0_putPart_33 ?_
    refine p_if_ne C 41 (by decide) dX0_putPart_34 (fun c_34 => ?_) (fun c_34 => ?_)
    · refine p_aload_n C rfl 1 rfl dX0_putPart_41 ?_
      refine p_lload_n C rfl 0 rfl dX0_putPart_42 ?_
      refine c_Vv (As := [.long (lN (ab x))]) (rest := []) C (m_X0_putDigits l D k (t := (t ++ sgL x t)) (u := (ab x)) (by omega) (by omega) hh) 4 rfl rfl rfl qml_X0_33 qim_X0_putDigits qse_X0_X0_putDigits qin_X0 qco_X0_putDigits nd_X0_putDigits ⟨Nat.le_of_ble_eq_true rfl, Nat.le_of_ble_eq_true rfl⟩ (Nat.le_of_ble_eq_true rfl) ⟨Nat.le_of_ble_eq_true rfl, Nat.le_of_ble_eq_true rfl⟩ rfl dX0_putPart_43 (fun w9 h9 => ?_)
      obtain ⟨tx8, hh8, rfl⟩ := h9
      rw [pdN_dec (v := (ab x)) (by omega) (by omega)] at hh8 ⊢
      refine p_lv (lv9 := [(0, .ref (ad 4)), (1, .int x), (2, .int (nI q9))]) [1, 2, 3] rfl ?_
      have es : dgL x q9 = decL (ab x) := if_neg (fun z9 => (l_ne1 (by omega)).mp c_34 z9.1)
      have hln : (t ++ sgL x t ++ dgL x q9).length = ((t ++ sgL x t) ++ decL (ab x)).length := by rw [es]; try (first | rfl | exact List.length_append)
      have hta : tHas tx8 (t ++ sgL x t ++ dgL x q9) := by rw [es]; exact hh8
      refine p_w (w9 := (KW k ad r cn R T U tx8 (nI (t ++ sgL x t ++ dgL x q9).length) Y)) (by rw [hln]) ?_
      exact j46 _ hta
    · refine p_iload_n C rfl 3 rfl dX0_putPart_37 ?_
      refine p_if_ne C 46 (by decide) dX0_putPart_38 (fun c_38 => ?_) (fun c_38 => ?_)
      · refine p_lv (lv9 := [(0, .ref (ad 4)), (1, .int x), (2, .int (nI q9))]) [1, 2, 3] rfl ?_
        have es : dgL x q9 = [] := if_pos ⟨Decidable.not_not.mp fun z9 => (l_ne1 (by omega)).mpr z9 c_34, fun z9 => c_38 ((nI_e0 (by omega)).mpr z9)⟩
        have hln : (t ++ sgL x t ++ dgL x q9).length = (t ++ sgL x t).length := by rw [es]; rw [List.append_nil]
        have hta : tHas tx9 (t ++ sgL x t ++ dgL x q9) := by rw [es]; rw [List.append_nil]; exact hh
        refine p_w (w9 := (KW k ad r cn R T U tx9 (nI (t ++ sgL x t ++ dgL x q9).length) Y)) (by rw [hln]) ?_
        exact j46 _ hta
      · refine p_aload_n C rfl 1 rfl dX0_putPart_41 ?_
        refine p_lload_n C rfl 0 rfl dX0_putPart_42 ?_
        refine c_Vv (As := [.long (lN (ab x))]) (rest := []) C (m_X0_putDigits l D k (t := (t ++ sgL x t)) (u := (ab x)) (by omega) (by omega) hh) 4 rfl rfl rfl qml_X0_33 qim_X0_putDigits qse_X0_X0_putDigits qin_X0 qco_X0_putDigits nd_X0_putDigits ⟨Nat.le_of_ble_eq_true rfl, Nat.le_of_ble_eq_true rfl⟩ (Nat.le_of_ble_eq_true rfl) ⟨Nat.le_of_ble_eq_true rfl, Nat.le_of_ble_eq_true rfl⟩ rfl dX0_putPart_43 (fun w9 h9 => ?_)
        obtain ⟨tx8, hh8, rfl⟩ := h9
        rw [pdN_dec (v := (ab x)) (by omega) (by omega)] at hh8 ⊢
        refine p_lv (lv9 := [(0, .ref (ad 4)), (1, .int x), (2, .int (nI q9))]) [1, 2, 3] rfl ?_
        have es : dgL x q9 = decL (ab x) := if_neg (fun z9 => z9.2 ((nI_e0 (by omega)).mp c_38))
        have hln : (t ++ sgL x t ++ dgL x q9).length = ((t ++ sgL x t) ++ decL (ab x)).length := by rw [es]; try (first | rfl | exact List.length_append)
        have hta : tHas tx8 (t ++ sgL x t ++ dgL x q9) := by rw [es]; exact hh8
        refine p_w (w9 := (KW k ad r cn R T U tx8 (nI (t ++ sgL x t ++ dgL x q9).length) Y)) (by rw [hln]) ?_
        exact j46 _ hta
  refine p_iload_n C rfl 1 rfl dX0_putPart_0 ?_
  refine p_if_ge C 13 (by decide) dX0_putPart_1 (fun c_1 => ?_) (fun c_1 => ?_)
  · refine p_aload_n C rfl 0 rfl dX0_putPart_13 ?_
    refine p_get (v := .int (nI t.length)) (T := TX0) C 4 rfl rfl 1 (by decide) inX0 qfl_X0_15 (fun _ h9 => h9) rfl dX0_putPart_14 ?_
    refine p_if_le C 26 (by decide) dX0_putPart_17 (fun c_17 => ?_) (fun c_17 => ?_)
    · have es : sgL x t = [] := (if_neg (Int32.not_lt.mpr c_1)).trans (if_neg (by have := (nI_le0 (by omega)).mp c_17; omega))
      have hln : (t ++ sgL x t).length = t.length := by rw [es]; rw [List.append_nil]
      have hta : tHas tx (t ++ sgL x t) := by rw [es]; rw [List.append_nil]; exact ht
      refine p_w (w9 := (KW k ad r cn R T U tx (nI (t ++ sgL x t).length) Y)) (by rw [hln]) ?_
      exact j26 _ hta
    · refine p_aload_n C rfl 0 rfl dX0_putPart_20 ?_
      refine p_bipush (v := 43) C (by decide) dX0_putPart_21 ?_
      refine c_Vv (As := [.int 43]) (rest := []) C (m_X0_put l D k (q := t.length) (c9 := 43) (by omega) (by omega)) 4 rfl rfl rfl qml_X0_23 qim_X0_put qse_X0_X0_put qin_X0 qco_X0_put nd_X0_put ⟨Nat.le_of_ble_eq_true rfl, Nat.le_of_ble_eq_true rfl⟩ (Nat.le_of_ble_eq_true rfl) ⟨Nat.le_of_ble_eq_true rfl, Nat.le_of_ble_eq_true rfl⟩ rfl dX0_putPart_23 (fun w9 h9 => ?_)
      obtain rfl := h9
      have es : sgL x t = [43] := (if_neg (Int32.not_lt.mpr c_1)).trans (if_pos (Nat.pos_of_ne_zero fun z9 => c_17 ((nI_le0 (by omega)).mpr z9)))
      have hln : (t ++ sgL x t).length = (t.length + 1) := by rw [es]; try (first | rfl | exact List.length_append)
      have hta : tHas (upd tx t.length (nI 43)) (t ++ sgL x t) := by rw [es]; exact (tHas_put ht 43)
      refine p_w (w9 := (KW k ad r cn R T U (upd tx t.length (nI 43)) (nI (t ++ sgL x t).length) Y)) (by rw [hln]) ?_
      exact j26 _ hta
  · refine p_aload_n C rfl 0 rfl dX0_putPart_4 ?_
    refine p_bipush (v := 45) C (by decide) dX0_putPart_5 ?_
    refine c_Vv (As := [.int 45]) (rest := []) C (m_X0_put l D k (q := t.length) (c9 := 45) (by omega) (by omega)) 4 rfl rfl rfl qml_X0_23 qim_X0_put qse_X0_X0_put qin_X0 qco_X0_put nd_X0_put ⟨Nat.le_of_ble_eq_true rfl, Nat.le_of_ble_eq_true rfl⟩ (Nat.le_of_ble_eq_true rfl) ⟨Nat.le_of_ble_eq_true rfl, Nat.le_of_ble_eq_true rfl⟩ rfl dX0_putPart_7 (fun w9 h9 => ?_)
    obtain rfl := h9
    refine p_goto C 26 (by decide) dX0_putPart_10 ?_
    have es : sgL x t = [45] := if_pos (Int32.not_le.mp c_1)
    have hln : (t ++ sgL x t).length = (t.length + 1) := by rw [es]; try (first | rfl | exact List.length_append)
    have hta : tHas (upd tx t.length (nI 45)) (t ++ sgL x t) := by rw [es]; exact (tHas_put ht 45)
    refine p_w (w9 := (KW k ad r cn R T U (upd tx t.length (nI 45)) (nI (t ++ sgL x t).length) Y)) (by rw [hln]) ?_
    exact j26 _ hta
def tx_ (f : Nat → Int32) : List Nat := txE (txN f 9 [])
theorem tx_e (f : Nat → Int32) : tx_ f = Pilot.CPolyKitchenLaw_law_r8124_67c28d.tx f := rfl
set_option maxHeartbeats 4000000 in
set_option maxRecDepth 100000 in
/-- X0_write -/
theorem m_X0_write (l : Launch) (D : va_G) (k : Nat → ClassId) {ad r : Nat → Nat} {cn : Int32} {R : Nat → Nat → Int32} {T U tx : Nat → Int32} {sz : Int32} {Y : va_W} {i : Nat} (hi : i < 16) : CtV l D k yX0_write (wU yX0_write cX0_write 3 (none)) (rmL 3 0 0) [.ref (ad 4), .ref (r i)] (KW k ad r cn R T U tx sz Y) (fun w' => ∃ tx', tHas tx' (tx_ (R i)) ∧ w' = (KW k ad r cn R T U tx' (nI (tx_ (R i)).length) Y)) := by
  refine openV (own := RX0) rfl (by decide) (Nat.le_of_ble_eq_true rfl) rfl ?_
  intro p e s m args below meth c A C hrt9 hnm
  obtain ⟨Q, hQ⟩ : ∃ Q, Q = (MQ below (va_Qv (fun w' => ∃ tx', tHas tx' (tx_ (R i)) ∧ w' = (KW k ad r cn R T U tx' (nI (tx_ (R i)).length) Y)) (cBA D A) A) args s 0 0 A) := ⟨_, rfl⟩
  show WP p l e (rmL 3 0 0) s m args below meth c D A 3 (KW k ad r cn R T U tx sz Y) [(0, .ref (ad 4)), (1, .ref (r i))] 0 0 (MQ below (va_Qv (fun w' => ∃ tx', tHas tx' (tx_ (R i)) ∧ w' = (KW k ad r cn R T U tx' (nI (tx_ (R i)).length) Y)) (cBA D A) A) args s 0 0 A) 0 []
  rw [← hQ]
  refine p_aload_n C rfl 0 rfl dX0_write_0 ?_
  refine p_iconst (v := (nI 0)) C (by decide) dX0_write_1 ?_
  refine p_put (w9 := (KW k ad r cn R T U tx (nI 0) Y)) (v := .int (nI 0)) (T := TX0) C tyX0 tyX0_ok nmX0 4 rfl rfl 1 (by decide) inX0 qfl_X0_15 (fun _ h9 => h9) rfl rfl rfl (Nat.le_of_ble_eq_true rfl) rfl dX0_write_2 ?_
  refine p_bipush (v := (nI 9 - 1)) C (by decide) dX0_write_5 ?_
  refine p_istore_n (lv9 := [(2, .int (nI 9 - 1)), (0, .ref (ad 4)), (1, .ref (r i))]) C rfl (by decide) rfl dX0_write_7 ?_
  refine p_lv (lv9 := [(0, .ref (ad 4)), (1, .ref (r i)), (2, .int (nI 9 - 1))]) [1, 2, 0] rfl ?_
  have lp8 : ∀ (n8 : Nat) (t : List Nat) (tx9 : Nat → Int32), (hh : tHas tx9 t) → (hl : t.length + 13 * n8 ≤ 117) → (hT : txN (R i) n8 t = txN (R i) 9 []) → (hn : n8 ≤ 9) → WP p l e (rmL 3 0 0) s m args below meth c D A 3 (KW k ad r cn R T U tx9 (nI t.length) Y) [(0, .ref (ad 4)), (1, .ref (r i)), (2, .int (nI n8 - 1))] 0 0 Q 8 [] := by
    intro n8
    induction n8 with
    | zero =>
      intro t tx9 hh hl hT hn
      have hE : tx_ (R i) = txE t := by unfold tx_; rw [← hT]; rfl
      refine p_lvE (lv9 := [(0, .ref (ad 4)), (1, .ref (r i)), (2, .int (-1))]) (by rw [i_z1]) ?_
      refine p_iload_n C rfl 2 rfl dX0_write_8 ?_
      refine p_if_lt C 32 (by decide) dX0_write_9 (fun c_9 => ?_) (fun c_9 => absurd c_9 (by decide))
      refine p_aload_n C rfl 0 rfl dX0_write_32 ?_
      refine p_get (v := .int (nI t.length)) (T := TX0) C 4 rfl rfl 1 (by decide) inX0 qfl_X0_15 (fun _ h9 => h9) rfl dX0_write_33 ?_
      refine p_if_ne C 45 (by decide) dX0_write_36 (fun c_36 => ?_) (fun c_36 => ?_)
      · have h0 : ¬ t.length = 0 := fun z9 => c_36 ((nI_e0 (by omega)).mpr z9)
        rw [show txE t = t from if_neg h0] at hE
        rw [hQ]
        exact r_v C hrt9 (⟨_, by rw [hE]; exact hh, by rw [hE]⟩) (by decide) (by decide) dX0_write_45
      · have h0 : t.length = 0 := (nI_e0 (by omega)).mp c_36
        have h00 : t = [] := List.length_eq_zero_iff.mp h0
        rw [show txE t = [48] from if_pos h0] at hE
        have hln : (tx_ (R i)).length = t.length + 1 := by rw [hE, h0]; rfl
        have hfn : tHas (upd tx9 t.length (nI 48)) [48] := by have h8 := tHas_put hh 48; rwa [show t ++ [48] = [48] from by rw [h00]; rfl] at h8
        refine p_aload_n C rfl 0 rfl dX0_write_39 ?_
        refine p_bipush (v := 48) C (by decide) dX0_write_40 ?_
        refine c_Vv (As := [.int 48]) (rest := []) C (m_X0_put l D k (q := t.length) (c9 := 48) (by omega) (by omega)) 4 rfl rfl rfl qml_X0_23 qim_X0_put qse_X0_X0_put qin_X0 qco_X0_put nd_X0_put ⟨Nat.le_of_ble_eq_true rfl, Nat.le_of_ble_eq_true rfl⟩ (Nat.le_of_ble_eq_true rfl) ⟨Nat.le_of_ble_eq_true rfl, Nat.le_of_ble_eq_true rfl⟩ rfl dX0_write_42 (fun w9 h9 => ?_)
        obtain rfl := h9
        rw [hQ]
        exact r_v C hrt9 (⟨_, by rw [hE]; exact hfn, by rw [hln]⟩) (by decide) (by decide) dX0_write_45
    | succ n8 ih8 =>
      intro t tx9 hh hl hT hn
      refine p_lvE (lv9 := [(0, .ref (ad 4)), (1, .ref (r i)), (2, .int (nI n8))]) (by rw [nI_pred]) ?_
      refine p_iload_n C rfl 2 rfl dX0_write_8 ?_
      refine p_if_lt C 32 (by decide) dX0_write_9 (fun c_9 => absurd c_9 (nI_pos (by omega))) (fun c_9 => ?_)
      refine p_aload_n C rfl 1 rfl dX0_write_12 ?_
      refine p_iload_n C rfl 2 rfl dX0_write_13 ?_
      refine p_iald (v := ((R i) n8)) C (i + 6) (KW_row hi) (vp_in_nI (n := n8) (N := 9) (by omega) (by omega)) (by rw [show ((nI n8)).toNatClampNeg = n8 from nI_clamp (by omega)]) dX0_write_14 ?_
      refine p_if_eq C 26 (by decide) dX0_write_15 (fun c_15 => ?_) (fun c_15 => ?_)
      · refine p_iinc (lv9 := [(2, .int (nI n8 - 1)), (0, .ref (ad 4)), (1, .ref (r i))]) (v := (nI n8 - 1)) C (j := 2) rfl (i_dn _) (by decide) rfl dX0_write_26 ?_
        refine p_goto C 8 (by decide) dX0_write_29 ?_
        refine p_lv (lv9 := [(0, .ref (ad 4)), (1, .ref (r i)), (2, .int (nI n8 - 1))]) [1, 2, 0] rfl ?_
        exact ih8 t tx9 hh (by omega) ((show _ = txN _ n8 (if _ then _ else _) from (by rw [if_pos c_15])).trans hT) (by omega)
      · have hpl := paL_le (R i n8) n8 t
        refine p_aload_n C rfl 0 rfl dX0_write_18 ?_
        refine p_aload_n C rfl 1 rfl dX0_write_19 ?_
        refine p_iload_n C rfl 2 rfl dX0_write_20 ?_
        refine p_iald (v := ((R i) n8)) C (i + 6) (KW_row hi) (vp_in_nI (n := n8) (N := 9) (by omega) (by omega)) (by rw [show ((nI n8)).toNatClampNeg = n8 from nI_clamp (by omega)]) dX0_write_21 ?_
        refine p_iload_n C rfl 2 rfl dX0_write_22 ?_
        refine c_Vv (As := [.int ((R i) n8), .int (nI n8)]) (rest := []) C (m_X0_putPart l D k (t := t) (x := R i n8) (q9 := n8) c_15 (by omega) (by omega) hh) 4 rfl rfl rfl qml_X0_19 qim_X0_putPart qse_X0_X0_putPart qin_X0 qco_X0_putPart nd_X0_putPart ⟨Nat.le_of_ble_eq_true rfl, Nat.le_of_ble_eq_true rfl⟩ (Nat.le_of_ble_eq_true rfl) ⟨Nat.le_of_ble_eq_true rfl, Nat.le_of_ble_eq_true rfl⟩ rfl dX0_write_23 (fun w9 h9 => ?_)
        obtain ⟨tx8, hh8, rfl⟩ := h9
        refine p_iinc (lv9 := [(2, .int (nI n8 - 1)), (0, .ref (ad 4)), (1, .ref (r i))]) (v := (nI n8 - 1)) C (j := 2) rfl (i_dn _) (by decide) rfl dX0_write_26 ?_
        refine p_goto C 8 (by decide) dX0_write_29 ?_
        refine p_lv (lv9 := [(0, .ref (ad 4)), (1, .ref (r i)), (2, .int (nI n8 - 1))]) [1, 2, 0] rfl ?_
        exact ih8 (paL (R i n8) n8 t) tx8 hh8 (by omega) ((show _ = txN _ n8 (if _ then _ else _) from (by rw [if_neg c_15])).trans hT) (by omega)
  exact lp8 9 [] tx (tHas_nil _) (by decide) rfl (Nat.le_refl _)
theorem isF_lo {v hi : Int32} (h : v < 0) : isF v 0 hi = false := decide_eq_false fun q => absurd q.1 (Int32.not_le.mpr h)
theorem isF_hi {v : Int32} {q : Nat} (hq : q ≤ 117) (h : nI q ≤ v) : isF v 0 (nI q - 1) = false := by
  refine decide_eq_false fun z => ?_
  rcases q with _ | q
  · have := Int32.le_trans z.1 z.2
    rw [i_z1] at this
    exact absurd this (by decide)
  · rw [nI_pred] at z
    have := Int32.le_trans h z.2
    rw [nI_leI (by omega) (by omega)] at this
    omega
set_option maxHeartbeats 4000000 in
set_option maxRecDepth 100000 in
/-- X0_signAt -/
theorem m_X0_signAt (l : Launch) (D : va_G) (k : Nat → ClassId) {ad r : Nat → Nat} {cn : Int32} {R : Nat → Nat → Int32} {T U tx : Nat → Int32} {Y : va_W} {q : Nat} {a9 : Int32} (hq : q ≤ 117) : CtI l D k yX0_signAt (wU yX0_signAt cX0_signAt 2 (some .int)) (rmL 0 0 0) [.ref (ad 4), .int a9] (KW k ad r cn R T U tx (nI q) Y) (fun v9 w' => (isF a9 0 (nI q - 1) = true → v9 = tx (ix a9)) ∧ w' = (KW k ad r cn R T U tx (nI q) Y)) := by
  refine openI (own := RX0) rfl (by decide) (Nat.le_of_ble_eq_true rfl) rfl ?_
  intro p e s m args below meth c A C hrt9 hnm
  obtain ⟨Q, hQ⟩ : ∃ Q, Q = (MQ below (va_Qi (fun v9 w' => (isF a9 0 (nI q - 1) = true → v9 = tx (ix a9)) ∧ w' = (KW k ad r cn R T U tx (nI q) Y)) (cBA D A) A) args s 0 0 A) := ⟨_, rfl⟩
  show WP p l e (rmL 0 0 0) s m args below meth c D A 2 (KW k ad r cn R T U tx (nI q) Y) [(0, .ref (ad 4)), (1, .int a9)] 0 0 (MQ below (va_Qi (fun v9 w' => (isF a9 0 (nI q - 1) = true → v9 = tx (ix a9)) ∧ w' = (KW k ad r cn R T U tx (nI q) Y)) (cBA D A) A) args s 0 0 A) 0 []
  rw [← hQ]
  refine p_iload_n C rfl 1 rfl dX0_signAt_0 ?_
  refine p_if_lt C 21 (by decide) dX0_signAt_1 (fun c_1 => ?_) (fun c_1 => ?_)
  · refine p_iconst (v := 0) C (by decide) dX0_signAt_21 ?_
    rw [hQ]
    exact r_i C hrt9 (⟨fun z9 => absurd z9 (by rw [isF_lo c_1]; decide), rfl⟩) (by decide) (by decide) dX0_signAt_22
  · refine p_iload_n C rfl 1 rfl dX0_signAt_4 ?_
    refine p_aload_n C rfl 0 rfl dX0_signAt_5 ?_
    refine p_get (v := .int (nI q)) (T := TX0) C 4 rfl rfl 1 (by decide) inX0 qfl_X0_15 (fun _ h9 => h9) rfl dX0_signAt_6 ?_
    refine p_icmp_ge C 21 (by decide) dX0_signAt_9 (fun c_9 => ?_) (fun c_9 => ?_)
    · refine p_iconst (v := 0) C (by decide) dX0_signAt_21 ?_
      rw [hQ]
      exact r_i C hrt9 (⟨fun z9 => absurd z9 (by rw [isF_hi hq c_9]; decide), rfl⟩) (by decide) (by decide) dX0_signAt_22
    · obtain ⟨j9, hj9, rfl⟩ := nI_of c_1
      have hjq : j9 < q := Nat.lt_of_not_le fun z9 => c_9 (nI_le z9 (by omega))
      refine p_aload_n C rfl 0 rfl dX0_signAt_12 ?_
      refine p_get (v := .ref (ad 5)) (T := TX0) C 4 rfl rfl 0 (by decide) inX0 qfl_X0_11 (fun _ h9 => h9) rfl dX0_signAt_13 ?_
      refine p_iload_n C rfl 1 rfl dX0_signAt_16 ?_
      refine p_cald (v := (tx j9)) C 5 rfl (by rw [show (nI j9) = nI j9 from rfl]; exact vp_in_nI (n := j9) (N := 117) (by omega) (by omega)) (by rw [show ((nI j9)).toNatClampNeg = j9 from by rw [show (nI j9) = nI j9 from rfl]; exact nI_clamp (by omega)]) dX0_signAt_17 ?_
      refine p_goto C 22 (by decide) dX0_signAt_18 ?_
      rw [hQ]
      exact r_i C hrt9 (⟨fun _ => congrArg tx (nI_clamp (by omega)).symm, rfl⟩) (by decide) (by decide) dX0_signAt_22
