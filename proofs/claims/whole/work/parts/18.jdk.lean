theorem rmL_c {d a b : Nat} : (rmL d a b).cells = a := rfl
theorem rmL_s {d a b : Nat} : (rmL d a b).slots = b := rfl
theorem app_at {w : va_W} {x : Nat × va_E} : (w ++ [x])[w.length]? = some x := by
  rw [List.getElem?_append_right (Nat.le_refl _), Nat.sub_self]; rfl
theorem app_set {w : va_W} {x y : Nat × va_E} : (w ++ [x]).set w.length y = w ++ [y] := by
  rw [List.set_append_right _ _ (Nat.le_refl _), Nat.sub_self]; rfl
/-- the room that grows with the builder -/
def gwC (q cp : Nat) : Nat := if q ≤ cp then 0 else 1
def gwS (q cp : Nat) : Nat := if q ≤ cp then 0 else 2 * cp + 2
def cwA (q cp : Nat) : Nat := if q ≤ cp then cp else 2 * cp + 2
theorem le_sub0 {q cp : Nat} (hq : q < 2 ^ 30) (hc : cp < 2 ^ 30) : nI q - nI cp ≤ 0 ↔ q ≤ cp := by
  have h := pk_sub_toInt hq hc
  rw [Int32.le_iff_toInt_le, h, Int32.toInt_zero]
  omega
theorem mx2 {cp q : Nat} (h : cp < q) (h2 : q ≤ 2 * cp + 2) (hc : cp < 2 ^ 28) : (if nI (q - cp) < nI (cp + 2) then nI (cp + 2) else nI (q - cp)) = nI (cp + 2) := by
  by_cases e : q - cp < cp + 2
  · rw [if_pos (nI_lt e (by omega))]
  · rw [if_neg (nI_nlt (by omega) (by omega)), show q - cp = cp + 2 by omega]
theorem mn2 {cp N : Nat} (h : cp ≤ N) (hN : N < 2 ^ 31) : (if nI N < nI cp then nI N else nI cp) = nI cp := if_neg (nI_nlt h hN)
theorem i2b_c : ∀ c, c < 128 → (nI c).toInt8.toInt32 = nI c := by decide +kernel
theorem i2c_c : ∀ c, c < 256 → ((nI c).toUInt32 % 65536).toInt32 = nI c := by decide +kernel
theorem and255 : ∀ c, c < 256 → nI c &&& 255 = nI c := by decide +kernel
theorem ln_neg {a : Nat} (h : a < 2 ^ 62) : (-lN a).toInt = -(a : Int) := by
  rw [Int64.toInt_neg, pk_lT (by omega), Int.bmod_eq_of_le (by omega) (by omega)]
theorem ln_nle {a b : Nat} (ha : a < 2 ^ 62) (hb : b < 2 ^ 62) : lg_cmp (-lN a) (-lN b) ≤ 0 ↔ b ≤ a := by
  rw [lg_cmp_le, Int64.le_iff_toInt_le, ln_neg ha, ln_neg hb]
  omega
theorem ln_10 (a : Nat) : 10 * -lN a = -lN (10 * a) := by
  rw [Int64.mul_neg, ← lN_mul]; rfl
theorem ln_i {a : Nat} : (-lN a).toInt32 = -nI a := by
  rw [Int64.toInt32_neg, lN_i]
theorem ln_ge0 {a : Nat} (h : a < 2 ^ 62) : 0 ≤ lg_cmp (lN a) 0 := by
  rw [lg_cmp_ge, show (0 : Int64) = lN 0 from rfl, pk_lLE (by omega) (by omega)]
  omega
theorem ln_nlt0 {a : Nat} (h : a < 2 ^ 62) : ¬ lg_cmp (lN a) 0 < 0 := fun q => absurd q (Int32.not_lt.mpr (ln_ge0 h))
theorem ln_min {w : Nat} (h : w ≤ 2147483648) (c : ¬ 0 < lg_cmp (-lN w) (-2147483648)) : w = 2147483648 := by
  have c2 : lg_cmp (-lN w) (-lN 2147483648) ≤ 0 := Int32.not_lt.mp c
  have := (ln_nle (by omega) (by omega)).mp c2
  omega
theorem ln_min2 {w : Nat} (h : w ≤ 2147483648) (c : 0 < lg_cmp (-lN w) (-2147483648)) : w < 2147483648 := by
  rcases Nat.lt_or_eq_of_le h with q | q
  · exact q
  · subst q; exact absurd c (by decide)
set_option maxHeartbeats 4000000 in
set_option maxRecDepth 100000 in
/-- J5_isLatin1_aae02 -/
theorem m_J5_isLatin1 (l : Launch) (D : va_G) (k : Nat → ClassId) {md : Nat → Nat} {th : Int32} {n : Nat} {Am Wk Mo : Nat → Int32} {v cp cn : Nat} {bt : Nat → Int32} {ml : Int32} {Y : va_W}  : CtI l D k yJ5_isLatin1_aae02 (wU yJ5_isLatin1_aae02 cJ5_isLatin1_aae02 1 (some .boolean)) (rmL 0 0 0) [.ref (md 4)] (MW k md th (nI n) Am Wk Mo v cp bt ml (nI cn) Y) (fun r w' => r = 1 ∧ w' = (MW k md th (nI n) Am Wk Mo v cp bt ml (nI cn) Y)) := by
  refine openI (own := RJ5) rfl (by decide) (Nat.le_of_ble_eq_true rfl) rfl ?_
  intro p e s m args below meth c A C hrt9 hnm
  obtain ⟨Q, hQ⟩ : ∃ Q, Q = (MQ below (va_Qi (fun r w' => r = 1 ∧ w' = (MW k md th (nI n) Am Wk Mo v cp bt ml (nI cn) Y)) (cBA D A) A) args s 0 0 A) := ⟨_, rfl⟩
  show WP p l e (rmL 0 0 0) s m args below meth c D A 1 (MW k md th (nI n) Am Wk Mo v cp bt ml (nI cn) Y) [(0, .ref (md 4))] 0 0 (MQ below (va_Qi (fun r w' => r = 1 ∧ w' = (MW k md th (nI n) Am Wk Mo v cp bt ml (nI cn) Y)) (cBA D A) A) args s 0 0 A) 0 []
  rw [← hQ]
  refine p_gets (v := .int 1) C C.2.2.2.2.2.2.2.2.2.2.2.2.1 qfl_J5_18 (fun _ h9 => h9) dJ5_isLatin1_aae02_0 ?_
  refine p_if_eq C 17 (by decide) dJ5_isLatin1_aae02_3 (fun c_3 => absurd c_3 (by decide)) (fun c_3 => ?_)
  refine p_aload_n C rfl 0 rfl dJ5_isLatin1_aae02_6 ?_
  refine p_get (v := .int 0) (T := TJ4) C 4 rfl rfl 1 (by decide) inJ4 qfl_J5_22 (fun _ h9 => h9) rfl dJ5_isLatin1_aae02_7 ?_
  refine p_if_ne C 17 (by decide) dJ5_isLatin1_aae02_10 (fun c_10 => absurd c_10 (by decide)) (fun c_10 => ?_)
  refine p_iconst (v := 1) C (by decide) dJ5_isLatin1_aae02_13 ?_
  refine p_goto C 18 (by decide) dJ5_isLatin1_aae02_14 ?_
  rw [hQ]
  exact r_z C hrt9 rfl (⟨rfl, rfl⟩) (by decide) (by decide) dJ5_isLatin1_aae02_18
set_option maxHeartbeats 4000000 in
set_option maxRecDepth 100000 in
/-- J5_length_8abf5 -/
theorem m_J5_length (l : Launch) (D : va_G) (k : Nat → ClassId) {md : Nat → Nat} {th : Int32} {n : Nat} {Am Wk Mo : Nat → Int32} {v cp cn : Nat} {bt : Nat → Int32} {ml : Int32} {Y : va_W}  : CtI l D k yJ5_length_8abf5 (wU yJ5_length_8abf5 cJ5_length_8abf5 1 (some .int)) (rmL 0 0 0) [.ref (md 4)] (MW k md th (nI n) Am Wk Mo v cp bt ml (nI cn) Y) (fun r w' => r = nI cn ∧ w' = (MW k md th (nI n) Am Wk Mo v cp bt ml (nI cn) Y)) := by
  refine openI (own := RJ5) rfl (by decide) (Nat.le_of_ble_eq_true rfl) rfl ?_
  intro p e s m args below meth c A C hrt9 hnm
  obtain ⟨Q, hQ⟩ : ∃ Q, Q = (MQ below (va_Qi (fun r w' => r = nI cn ∧ w' = (MW k md th (nI n) Am Wk Mo v cp bt ml (nI cn) Y)) (cBA D A) A) args s 0 0 A) := ⟨_, rfl⟩
  show WP p l e (rmL 0 0 0) s m args below meth c D A 1 (MW k md th (nI n) Am Wk Mo v cp bt ml (nI cn) Y) [(0, .ref (md 4))] 0 0 (MQ below (va_Qi (fun r w' => r = nI cn ∧ w' = (MW k md th (nI n) Am Wk Mo v cp bt ml (nI cn) Y)) (cBA D A) A) args s 0 0 A) 0 []
  rw [← hQ]
  refine p_aload_n C rfl 0 rfl dJ5_length_8abf5_0 ?_
  refine p_get (v := .int (nI cn)) (T := TJ4) C 4 rfl rfl 3 (by decide) inJ4 qfl_J5_79 (fun _ h9 => h9) rfl dJ5_length_8abf5_1 ?_
  rw [hQ]
  exact r_i C hrt9 (⟨rfl, rfl⟩) (by decide) (by decide) dJ5_length_8abf5_4
set_option maxHeartbeats 4000000 in
set_option maxRecDepth 100000 in
/-- J4_length_8abf5 -/
theorem m_J4_length (l : Launch) (D : va_G) (k : Nat → ClassId) {md : Nat → Nat} {th : Int32} {n : Nat} {Am Wk Mo : Nat → Int32} {v cp cn : Nat} {bt : Nat → Int32} {ml : Int32} {Y : va_W}  : CtI l D k yJ4_length_8abf5 (wU yJ4_length_8abf5 cJ4_length_8abf5 1 (some .int)) (rmL 1 0 0) [.ref (md 4)] (MW k md th (nI n) Am Wk Mo v cp bt ml (nI cn) Y) (fun r w' => r = nI cn ∧ w' = (MW k md th (nI n) Am Wk Mo v cp bt ml (nI cn) Y)) := by
  refine openI (own := RJ4) rfl (by decide) (Nat.le_of_ble_eq_true rfl) rfl ?_
  intro p e s m args below meth c A C hrt9 hnm
  obtain ⟨Q, hQ⟩ : ∃ Q, Q = (MQ below (va_Qi (fun r w' => r = nI cn ∧ w' = (MW k md th (nI n) Am Wk Mo v cp bt ml (nI cn) Y)) (cBA D A) A) args s 0 0 A) := ⟨_, rfl⟩
  show WP p l e (rmL 1 0 0) s m args below meth c D A 1 (MW k md th (nI n) Am Wk Mo v cp bt ml (nI cn) Y) [(0, .ref (md 4))] 0 0 (MQ below (va_Qi (fun r w' => r = nI cn ∧ w' = (MW k md th (nI n) Am Wk Mo v cp bt ml (nI cn) Y)) (cBA D A) A) args s 0 0 A) 0 []
  rw [← hQ]
  refine p_aload_n C rfl 0 rfl dJ4_length_8abf5_0 ?_
  refine c_SUi (As := []) (rest := []) C (m_J5_length l D k ) 4 rfl rfl qml_J4_343 qsm_J5_J5_length__I qsu_J4_J5 qim_J5_length_8abf5 qin_J5 qco_J5_length_8abf5 (by decide) nd_J5_length_8abf5 ⟨Nat.le_of_ble_eq_true rfl, Nat.le_of_ble_eq_true rfl⟩ (Nat.le_of_ble_eq_true rfl) ⟨Nat.le_of_ble_eq_true rfl, Nat.le_of_ble_eq_true rfl⟩ rfl dJ4_length_8abf5_1 (fun r9 w9 h9 => ?_)
  obtain ⟨e9, rfl⟩ := h9
  refine p_int e9 ?_
  rw [hQ]
  exact r_i C hrt9 (⟨rfl, rfl⟩) (by decide) (by decide) dJ4_length_8abf5_4
set_option maxHeartbeats 4000000 in
set_option maxRecDepth 100000 in
/-- newLength -/
theorem m_J8_newLength (l : Launch) (D : va_G) (k : Nat → ClassId) {w : va_W} {cp q : Nat} (h1 : cp < q) (h2 : q ≤ 2 * cp + 2) (h3 : cp < 65536) : CtI l D k yJ8_newLength_cabcc (wU yJ8_newLength_cabcc cJ8_newLength_cabcc 4 (some .int)) (rmL 0 0 0) [.int (nI cp), .int (nI (q - cp)), .int (nI (cp + 2))] w (fun r w' => r = nI (2 * cp + 2) ∧ w' = w) := by
  refine openI (own := RJ8) rfl (by decide) (Nat.le_of_ble_eq_true rfl) rfl ?_
  intro p e s m args below meth c A C hrt9 hnm
  obtain ⟨Q, hQ⟩ : ∃ Q, Q = (MQ below (va_Qi (fun r w' => r = nI (2 * cp + 2) ∧ w' = w) (cBA D A) A) args s 0 0 A) := ⟨_, rfl⟩
  show WP p l e (rmL 0 0 0) s m args below meth c D A 4 w [(0, .int (nI cp)), (1, .int (nI (q - cp))), (2, .int (nI (cp + 2)))] 0 0 (MQ below (va_Qi (fun r w' => r = nI (2 * cp + 2) ∧ w' = w) (cBA D A) A) args s 0 0 A) 0 []
  rw [← hQ]
  refine p_iload_n C rfl 0 rfl dJ8_newLength_cabcc_0 ?_
  refine p_iload_n C rfl 1 rfl dJ8_newLength_cabcc_1 ?_
  refine p_iload_n C rfl 2 rfl dJ8_newLength_cabcc_2 ?_
  refine p_max (z := nI (cp + 2)) (rest := [.int (nI cp)]) C qml_J8_194 qst_J9_max_7cf53 qin_J9 qma_max (by decide) (Nat.le_of_ble_eq_true rfl) (by decide) (by decide) (mx2 h1 h2 (by omega)) dJ8_newLength_cabcc_3 ?_
  refine p_iadd C dJ8_newLength_cabcc_6 ?_
  refine p_int (y := (nI (2 * cp + 2))) (by rw [nI_add, show cp + (cp + 2) = 2 * cp + 2 by omega]) ?_
  refine p_istore_n (lv9 := [(3, .int (nI (2 * cp + 2))), (0, .int (nI cp)), (1, .int (nI (q - cp))), (2, .int (nI (cp + 2)))]) C rfl (by decide) rfl dJ8_newLength_cabcc_7 ?_
  refine p_iconst (v := (nI 0)) C (by decide) dJ8_newLength_cabcc_8 ?_
  refine p_iload_n C rfl 0 rfl dJ8_newLength_cabcc_9 ?_
  refine p_icmp_ge C 21 (by decide) dJ8_newLength_cabcc_10 (fun c_10 => absurd c_10 (nI_ge (show 0 < 2 * cp + 2 by omega) (by omega))) (fun c_10 => ?_)
  refine p_iload_n C rfl 0 rfl dJ8_newLength_cabcc_13 ?_
  refine p_ldc C qk_J8_200 dJ8_newLength_cabcc_14 ?_
  refine p_icmp_gt C 21 (by decide) dJ8_newLength_cabcc_16 (fun c_16 => absurd c_16 (nI_nlt (a := 2147483639) (b := 2 * cp + 2) (by omega) (by omega))) (fun c_16 => ?_)
  refine p_iload_n C rfl 0 rfl dJ8_newLength_cabcc_19 ?_
  rw [hQ]
  exact r_i C hrt9 (⟨rfl, rfl⟩) (by decide) (by decide) dJ8_newLength_cabcc_20
set_option maxHeartbeats 4000000 in
set_option maxRecDepth 100000 in
/-- J5_newCapacity_0f7a4 -/
theorem m_J5_newCapacity (l : Launch) (D : va_G) (k : Nat → ClassId) {md : Nat → Nat} {th : Int32} {n : Nat} {Am Wk Mo : Nat → Int32} {v cp cn : Nat} {bt : Nat → Int32} {ml : Int32} {Y : va_W} {q : Nat} (h1 : cp < q) (h2 : q ≤ 2 * cp + 2) (h3 : cp < 65536 / 4) : CtI l D k yJ5_newCapacity_0f7a4 (wU yJ5_newCapacity_0f7a4 cJ5_newCapacity_0f7a4 6 (some .int)) (rmL 1 0 0) [.ref (md 4), .int (nI q)] (MW k md th (nI n) Am Wk Mo v cp bt ml (nI cn) Y) (fun r w' => r = nI (2 * cp + 2) ∧ w' = (MW k md th (nI n) Am Wk Mo v cp bt ml (nI cn) Y)) := by
  refine openI (own := RJ5) rfl (by decide) (Nat.le_of_ble_eq_true rfl) rfl ?_
  intro p e s m args below meth c A C hrt9 hnm
  obtain ⟨Q, hQ⟩ : ∃ Q, Q = (MQ below (va_Qi (fun r w' => r = nI (2 * cp + 2) ∧ w' = (MW k md th (nI n) Am Wk Mo v cp bt ml (nI cn) Y)) (cBA D A) A) args s 0 0 A) := ⟨_, rfl⟩
  show WP p l e (rmL 1 0 0) s m args below meth c D A 6 (MW k md th (nI n) Am Wk Mo v cp bt ml (nI cn) Y) [(0, .ref (md 4)), (1, .int (nI q))] 0 0 (MQ below (va_Qi (fun r w' => r = nI (2 * cp + 2) ∧ w' = (MW k md th (nI n) Am Wk Mo v cp bt ml (nI cn) Y)) (cBA D A) A) args s 0 0 A) 0 []
  rw [← hQ]
  refine p_aload_n C rfl 0 rfl dJ5_newCapacity_0f7a4_0 ?_
  refine p_get (v := .ref v) (T := TJ4) C 4 rfl rfl 0 (by decide) inJ4 qfl_J5_15 (fun _ h9 => h9) rfl dJ5_newCapacity_0f7a4_1 ?_
  refine p_alen (v := (nI cp)) C 5 4 rfl rfl rfl dJ5_newCapacity_0f7a4_4 ?_
  refine p_istore_n (lv9 := [(2, .int (nI cp)), (0, .ref (md 4)), (1, .int (nI q))]) C rfl (by decide) rfl dJ5_newCapacity_0f7a4_5 ?_
  refine p_iload_n C rfl 2 rfl dJ5_newCapacity_0f7a4_6 ?_
  refine p_aload_n C rfl 1 rfl dJ5_newCapacity_0f7a4_7 ?_
  refine p_get (v := .int 0) (T := TJ4) C 4 rfl rfl 1 (by decide) inJ4 qfl_J5_22 (fun _ h9 => h9) rfl dJ5_newCapacity_0f7a4_8 ?_
  refine p_ishl C dJ5_newCapacity_0f7a4_11 ?_
  refine p_int (y := (nI q)) (sb_shl0 _) ?_
  refine p_istore_n (lv9 := [(3, .int (nI q)), (2, .int (nI cp)), (0, .ref (md 4)), (1, .int (nI q))]) C rfl (by decide) rfl dJ5_newCapacity_0f7a4_12 ?_
  refine p_iload_n C rfl 0 rfl dJ5_newCapacity_0f7a4_13 ?_
  refine p_iload_n C rfl 1 rfl dJ5_newCapacity_0f7a4_14 ?_
  refine p_isub C dJ5_newCapacity_0f7a4_15 ?_
  refine p_int (y := (nI (q - cp))) (pk_sub (by omega)) ?_
  refine p_istore (lv9 := [(4, .int (nI (q - cp))), (3, .int (nI q)), (2, .int (nI cp)), (0, .ref (md 4)), (1, .int (nI q))]) C (by decide) rfl dJ5_newCapacity_0f7a4_16 ?_
  refine p_iload_n C rfl 2 rfl dJ5_newCapacity_0f7a4_18 ?_
  refine p_iload C 0 rfl dJ5_newCapacity_0f7a4_19 ?_
  refine p_iload_n C rfl 2 rfl dJ5_newCapacity_0f7a4_21 ?_
  refine p_iconst (v := 2) C (by decide) dJ5_newCapacity_0f7a4_22 ?_
  refine p_aload_n C rfl 3 rfl dJ5_newCapacity_0f7a4_23 ?_
  refine p_get (v := .int 0) (T := TJ4) C 4 rfl rfl 1 (by decide) inJ4 qfl_J5_22 (fun _ h9 => h9) rfl dJ5_newCapacity_0f7a4_24 ?_
  refine p_ishl C dJ5_newCapacity_0f7a4_27 ?_
  refine p_int (y := 2) (sb_shl0 _) ?_
  refine p_iadd C dJ5_newCapacity_0f7a4_28 ?_
  refine p_int (y := (nI (cp + 2))) (nI_add cp 2) ?_
  refine c_Si (As := [.int (nI cp), .int (nI (q - cp)), .int (nI (cp + 2))]) (rest := []) C (m_J8_newLength l D k (cp := cp) (q := q) h1 h2 (by omega)) qml_J5_114 qst_J8_newLength_cabcc qin_J8 qco_J8_newLength_cabcc nd_J8_newLength_cabcc ⟨Nat.le_of_ble_eq_true rfl, Nat.le_of_ble_eq_true rfl⟩ (Nat.le_of_ble_eq_true rfl) ⟨Nat.le_of_ble_eq_true rfl, Nat.le_of_ble_eq_true rfl⟩ rfl dJ5_newCapacity_0f7a4_29 (fun r9 w9 h9 => ?_)
  obtain ⟨e9, rfl⟩ := h9
  refine p_int e9 ?_
  refine p_istore (lv9 := [(5, .int (nI (2 * cp + 2))), (4, .int (nI (q - cp))), (3, .int (nI q)), (2, .int (nI cp)), (0, .ref (md 4)), (1, .int (nI q))]) C (by decide) rfl dJ5_newCapacity_0f7a4_32 ?_
  refine p_iload C 0 rfl dJ5_newCapacity_0f7a4_34 ?_
  refine p_ldc C qk_J5_39 dJ5_newCapacity_0f7a4_36 ?_
  refine p_icmp_ne C 51 (by decide) dJ5_newCapacity_0f7a4_38 (fun c_38 => ?_) (fun c_38 => absurd c_38 (fun z => absurd ((@nI_eq (2 * cp + 2) 2147483647 (by omega) (by omega)).mp z) (by omega)))
  refine p_iload C 0 rfl dJ5_newCapacity_0f7a4_51 ?_
  refine p_aload_n C rfl 4 rfl dJ5_newCapacity_0f7a4_53 ?_
  refine p_get (v := .int 0) (T := TJ4) C 4 rfl rfl 1 (by decide) inJ4 qfl_J5_22 (fun _ h9 => h9) rfl dJ5_newCapacity_0f7a4_54 ?_
  refine p_ishr C dJ5_newCapacity_0f7a4_57 ?_
  refine p_int (y := (nI (2 * cp + 2))) (sb_shr0 _) ?_
  rw [hQ]
  exact r_i C hrt9 (⟨rfl, rfl⟩) (by decide) (by decide) dJ5_newCapacity_0f7a4_58
set_option maxHeartbeats 4000000 in
set_option maxRecDepth 100000 in
/-- J7_copyOf_9075b -/
theorem m_J7_copyOf (l : Launch) (D : va_G) (k : Nat → ClassId) {md : Nat → Nat} {th : Int32} {n : Nat} {Am Wk Mo : Nat → Int32} {v cp cn : Nat} {bt : Nat → Int32} {ml : Int32} {Y : va_W} {N : Nat} (h1 : cp < N) (h2 : N < 65536) (hft : sb_Fit bt) : CtR l D k yJ7_copyOf_9075b (wU yJ7_copyOf_9075b cJ7_copyOf_9075b 3 (some (.array .byte))) (rmL 0 1 N) [.ref v, .int (nI N)] (MW k md th (nI n) Am Wk Mo v cp bt ml (nI cn) Y) (fun a w' => ∃ bt', sb_Fit bt' ∧ (∀ j, j < cp → bt' j = bt j) ∧ w' = (MW k md th (nI n) Am Wk Mo v cp bt ml (nI cn) Y) ++ [(a, aB k N bt')]) := by
  refine openR (own := RJ7) rfl (by decide) (Nat.le_of_ble_eq_true rfl) rfl ?_
  intro p e s m args below meth c A C hrt9 hnm
  obtain ⟨Q, hQ⟩ : ∃ Q, Q = (MQ below (va_Qr (fun _ => True) (fun w' a t => (fun a w' => ∃ bt', sb_Fit bt' ∧ (∀ j, j < cp → bt' j = bt j) ∧ w' = (MW k md th (nI n) Am Wk Mo v cp bt ml (nI cn) Y) ++ [(a, aB k N bt')]) a w' ∧ cBA D A w' t) A) args s 1 N A) := ⟨_, rfl⟩
  show WP p l e (rmL 0 1 N) s m args below meth c D A 3 (MW k md th (nI n) Am Wk Mo v cp bt ml (nI cn) Y) [(0, .ref v), (1, .int (nI N))] 0 0 (MQ below (va_Qr (fun _ => True) (fun w' a t => (fun a w' => ∃ bt', sb_Fit bt' ∧ (∀ j, j < cp → bt' j = bt j) ∧ w' = (MW k md th (nI n) Am Wk Mo v cp bt ml (nI cn) Y) ++ [(a, aB k N bt')]) a w' ∧ cBA D A w' t) A) args s 1 N A) 0 []
  rw [← hQ]
  refine p_iload_n C rfl 1 rfl dJ7_copyOf_9075b_0 ?_
  refine p_aload_n C rfl 0 rfl dJ7_copyOf_9075b_1 ?_
  refine p_alen (v := (nI cp)) C 5 4 rfl rfl rfl dJ7_copyOf_9075b_2 ?_
  refine p_icmp_ne C 14 (by decide) dJ7_copyOf_9075b_3 (fun c_3 => ?_) (fun c_3 => absurd c_3 (fun z : nI N = nI cp => absurd ((nI_eq (by omega) (by omega)).mp z) (by omega)))
  refine p_iload_n C rfl 1 rfl dJ7_copyOf_9075b_14 ?_
  refine p_newa_b (N := N) C qaC_byte (by omega) (by show 0 + 1 ≤ 1; omega) (by show 0 + N ≤ N; omega) dJ7_copyOf_9075b_15 (fun q9 => ?_)
  refine p_astore_n (lv9 := [(2, .ref q9), (0, .ref v), (1, .int (nI N))]) C rfl (by decide) rfl dJ7_copyOf_9075b_17 ?_
  refine p_aload_n C rfl 1 rfl dJ7_copyOf_9075b_18 ?_
  refine p_iconst (v := (nI 0)) C (by decide) dJ7_copyOf_9075b_19 ?_
  refine p_aload_n C rfl 0 rfl dJ7_copyOf_9075b_20 ?_
  refine p_iconst (v := (nI 0)) C (by decide) dJ7_copyOf_9075b_21 ?_
  refine p_aload_n C rfl 1 rfl dJ7_copyOf_9075b_22 ?_
  refine p_alen (v := (nI cp)) C 5 4 rfl rfl rfl dJ7_copyOf_9075b_23 ?_
  refine p_iload_n C rfl 2 rfl dJ7_copyOf_9075b_24 ?_
  refine p_min (z := nI cp) (rest := [.int (nI 0), .ref q9, .int (nI 0), .ref v]) C qml_J7_304 qst_J9_min_7cf53 qin_J9 qma_min (Nat.le_of_ble_eq_true rfl) (Nat.le_of_ble_eq_true rfl) (by show 0 + 1 ≤ 1; omega) (by show 0 + N ≤ N; omega) (mn2 (by omega) (by omega)) dJ7_copyOf_9075b_25 ?_
  refine p_copyb (rest := []) (sp := 0) (dp := 0) (n := cp) (w9 := ((MW k md th (nI n) Am Wk Mo v cp bt ml (nI cn) Y) ++ [(q9, aB k N (va_cpy bt (fun _ => 0) 0 0 cp))])) C qml_J7_150 qnt_arraycopyName qst_arraycopyName qin_J10 5 (MW k md th (nI n) Am Wk Mo v cp bt ml (nI cn) Y).length rfl app_at hft (by omega) (by omega) (by omega) (by omega) (Nat.le_of_ble_eq_true rfl) (by show _ ≤ 300 * 0 + 300; decide +kernel) app_set dJ7_copyOf_9075b_28 ?_
  refine p_aload_n C rfl 0 rfl dJ7_copyOf_9075b_31 ?_
  rw [hQ]
  exact r_r C hrt9 (Or.inr ⟨_, rfl⟩) (⟨_, sb_fitC hft sb_fit0, fun j hj => sb_cpy0 hj, rfl⟩) (by (try simp only [rmL_c, rmL_s]); omega) (by (try simp only [rmL_c, rmL_s]); omega) dJ7_copyOf_9075b_32
set_option maxHeartbeats 4000000 in
set_option maxRecDepth 100000 in
/-- J5_ensureCapacityInternal_d00df -/
theorem m_J5_ens_a (l : Launch) (D : va_G) (k : Nat → ClassId) {md : Nat → Nat} {th : Int32} {n : Nat} {Am Wk Mo : Nat → Int32} {v cp cn : Nat} {bt : Nat → Int32} {ml : Int32} {Y : va_W} {q : Nat} (h1 : q ≤ cp) (h3 : cp < 65536 / 4) : CtV l D k yJ5_ensureCapacityInternal_d00df (wU yJ5_ensureCapacityInternal_d00df cJ5_ensureCapacityInternal_d00df 3 (none)) (rmL 0 0 0) [.ref (md 4), .int (nI q)] (MW k md th (nI n) Am Wk Mo v cp bt ml (nI cn) Y) (fun w' => w' = (MW k md th (nI n) Am Wk Mo v cp bt ml (nI cn) Y)) := by
  refine openV (own := RJ5) rfl (by decide) (Nat.le_of_ble_eq_true rfl) rfl ?_
  intro p e s m args below meth c A C hrt9 hnm
  obtain ⟨Q, hQ⟩ : ∃ Q, Q = (MQ below (va_Qv (fun w' => w' = (MW k md th (nI n) Am Wk Mo v cp bt ml (nI cn) Y)) (cBA D A) A) args s 0 0 A) := ⟨_, rfl⟩
  show WP p l e (rmL 0 0 0) s m args below meth c D A 3 (MW k md th (nI n) Am Wk Mo v cp bt ml (nI cn) Y) [(0, .ref (md 4)), (1, .int (nI q))] 0 0 (MQ below (va_Qv (fun w' => w' = (MW k md th (nI n) Am Wk Mo v cp bt ml (nI cn) Y)) (cBA D A) A) args s 0 0 A) 0 []
  rw [← hQ]
  refine p_aload_n C rfl 0 rfl dJ5_ensureCapacityInternal_d00df_0 ?_
  refine p_get (v := .ref v) (T := TJ4) C 4 rfl rfl 0 (by decide) inJ4 qfl_J5_15 (fun _ h9 => h9) rfl dJ5_ensureCapacityInternal_d00df_1 ?_
  refine p_alen (v := (nI cp)) C 5 4 rfl rfl rfl dJ5_ensureCapacityInternal_d00df_4 ?_
  refine p_aload_n C rfl 0 rfl dJ5_ensureCapacityInternal_d00df_5 ?_
  refine p_get (v := .int 0) (T := TJ4) C 4 rfl rfl 1 (by decide) inJ4 qfl_J5_22 (fun _ h9 => h9) rfl dJ5_ensureCapacityInternal_d00df_6 ?_
  refine p_ishr C dJ5_ensureCapacityInternal_d00df_9 ?_
  refine p_int (y := (nI cp)) (sb_shr0 _) ?_
  refine p_istore_n (lv9 := [(2, .int (nI cp)), (0, .ref (md 4)), (1, .int (nI q))]) C rfl (by decide) rfl dJ5_ensureCapacityInternal_d00df_10 ?_
  refine p_iload_n C rfl 2 rfl dJ5_ensureCapacityInternal_d00df_11 ?_
  refine p_iload_n C rfl 0 rfl dJ5_ensureCapacityInternal_d00df_12 ?_
  refine p_isub C dJ5_ensureCapacityInternal_d00df_13 ?_
  refine p_if_le C 38 (by decide) dJ5_ensureCapacityInternal_d00df_14 (fun c_14 => ?_) (fun c_14 => absurd ((le_sub0 (by omega) (by omega)).mpr h1) c_14)
  rw [hQ]
  exact r_v C hrt9 rfl (by decide) (by decide) dJ5_ensureCapacityInternal_d00df_38
set_option maxHeartbeats 4000000 in
set_option maxRecDepth 100000 in
/-- J5_ensureCapacityInternal_d00df -/
theorem m_J5_ens_b (l : Launch) (D : va_G) (k : Nat → ClassId) {md : Nat → Nat} {th : Int32} {n : Nat} {Am Wk Mo : Nat → Int32} {v cp cn : Nat} {bt : Nat → Int32} {ml : Int32} {Y : va_W} {q : Nat} (h1 : cp < q) (h2 : q ≤ 2 * cp + 2) (h3 : cp < 65536 / 4) (hft : sb_Fit bt) : CtV l D k yJ5_ensureCapacityInternal_d00df (wU yJ5_ensureCapacityInternal_d00df cJ5_ensureCapacityInternal_d00df 3 (none)) (rmL 2 1 (2 * cp + 2)) [.ref (md 4), .int (nI q)] (MW k md th (nI n) Am Wk Mo v cp bt ml (nI cn) Y) (fun w' => ∃ v' bt', sb_Fit bt' ∧ (∀ j, j < cp → bt' j = bt j) ∧ w' = (MW k md th (nI n) Am Wk Mo v' (2 * cp + 2) bt' ml (nI cn) Y)) := by
  refine openV (own := RJ5) rfl (by decide) (Nat.le_of_ble_eq_true rfl) rfl ?_
  intro p e s m args below meth c A C hrt9 hnm
  obtain ⟨Q, hQ⟩ : ∃ Q, Q = (MQ below (va_Qv (fun w' => ∃ v' bt', sb_Fit bt' ∧ (∀ j, j < cp → bt' j = bt j) ∧ w' = (MW k md th (nI n) Am Wk Mo v' (2 * cp + 2) bt' ml (nI cn) Y)) (cBA D A) A) args s 1 (2 * cp + 2) A) := ⟨_, rfl⟩
  show WP p l e (rmL 2 1 (2 * cp + 2)) s m args below meth c D A 3 (MW k md th (nI n) Am Wk Mo v cp bt ml (nI cn) Y) [(0, .ref (md 4)), (1, .int (nI q))] 0 0 (MQ below (va_Qv (fun w' => ∃ v' bt', sb_Fit bt' ∧ (∀ j, j < cp → bt' j = bt j) ∧ w' = (MW k md th (nI n) Am Wk Mo v' (2 * cp + 2) bt' ml (nI cn) Y)) (cBA D A) A) args s 1 (2 * cp + 2) A) 0 []
  rw [← hQ]
  refine p_aload_n C rfl 0 rfl dJ5_ensureCapacityInternal_d00df_0 ?_
  refine p_get (v := .ref v) (T := TJ4) C 4 rfl rfl 0 (by decide) inJ4 qfl_J5_15 (fun _ h9 => h9) rfl dJ5_ensureCapacityInternal_d00df_1 ?_
  refine p_alen (v := (nI cp)) C 5 4 rfl rfl rfl dJ5_ensureCapacityInternal_d00df_4 ?_
  refine p_aload_n C rfl 0 rfl dJ5_ensureCapacityInternal_d00df_5 ?_
  refine p_get (v := .int 0) (T := TJ4) C 4 rfl rfl 1 (by decide) inJ4 qfl_J5_22 (fun _ h9 => h9) rfl dJ5_ensureCapacityInternal_d00df_6 ?_
  refine p_ishr C dJ5_ensureCapacityInternal_d00df_9 ?_
  refine p_int (y := (nI cp)) (sb_shr0 _) ?_
  refine p_istore_n (lv9 := [(2, .int (nI cp)), (0, .ref (md 4)), (1, .int (nI q))]) C rfl (by decide) rfl dJ5_ensureCapacityInternal_d00df_10 ?_
  refine p_iload_n C rfl 2 rfl dJ5_ensureCapacityInternal_d00df_11 ?_
  refine p_iload_n C rfl 0 rfl dJ5_ensureCapacityInternal_d00df_12 ?_
  refine p_isub C dJ5_ensureCapacityInternal_d00df_13 ?_
  refine p_if_le C 38 (by decide) dJ5_ensureCapacityInternal_d00df_14 (fun c_14 => absurd c_14 (fun z => absurd ((le_sub0 (by omega) (by omega)).mp z) (by omega))) (fun c_14 => ?_)
  refine p_aload_n C rfl 1 rfl dJ5_ensureCapacityInternal_d00df_17 ?_
  refine p_aload_n C rfl 1 rfl dJ5_ensureCapacityInternal_d00df_18 ?_
  refine p_get (v := .ref v) (T := TJ4) C 4 rfl rfl 0 (by decide) inJ4 qfl_J5_15 (fun _ h9 => h9) rfl dJ5_ensureCapacityInternal_d00df_19 ?_
  refine p_aload_n C rfl 1 rfl dJ5_ensureCapacityInternal_d00df_22 ?_
  refine p_iload_n C rfl 2 rfl dJ5_ensureCapacityInternal_d00df_23 ?_
  refine c_Ui (As := [.int (nI q)]) (rest := [.ref v, .ref (md 4)]) C (m_J5_newCapacity l D k (q := q) h1 h2 h3) 4 rfl rfl qml_J5_104 qsm_J5_J5_newCapacity_I_I qse_J4_J5_newCapacity_0f7a4 qim_J5_newCapacity_0f7a4 qin_J5 qco_J5_newCapacity_0f7a4 nd_J5_newCapacity_0f7a4 ⟨Nat.le_of_ble_eq_true rfl, Nat.le_of_ble_eq_true rfl⟩ (Nat.le_of_ble_eq_true rfl) ⟨Nat.le_of_ble_eq_true rfl, by (try simp only [rmL_c, rmL_s]); omega⟩ rfl dJ5_ensureCapacityInternal_d00df_24 (fun r9 w9 h9 => ?_)
  obtain ⟨e9, rfl⟩ := h9
  refine p_int e9 ?_
  refine p_aload_n C rfl 1 rfl dJ5_ensureCapacityInternal_d00df_27 ?_
  refine p_get (v := .int 0) (T := TJ4) C 4 rfl rfl 1 (by decide) inJ4 qfl_J5_22 (fun _ h9 => h9) rfl dJ5_ensureCapacityInternal_d00df_28 ?_
  refine p_ishl C dJ5_ensureCapacityInternal_d00df_31 ?_
  refine p_int (y := (nI (2 * cp + 2))) (sb_shl0 _) ?_
  refine c_Sr (As := [.ref v, .int (nI (2 * cp + 2))]) (rest := [.ref (md 4)]) C (m_J7_copyOf l D k (N := (2 * cp + 2)) (by omega) (by omega) hft) qml_J5_108 qst_J7_copyOf_9075b qin_J7 qco_J7_copyOf_9075b nd_J7_copyOf_9075b ⟨Nat.le_of_ble_eq_true rfl, Nat.le_of_ble_eq_true rfl⟩ (Nat.le_of_ble_eq_true rfl) ⟨Nat.le_of_ble_eq_true rfl, by (try simp only [rmL_c, rmL_s]); omega⟩ rfl dJ5_ensureCapacityInternal_d00df_32 (fun r9 w9 h9 => ?_)
  obtain ⟨bt9, hft9, hk9, rfl⟩ := h9
  refine p_put (w9 := (MW k md th (nI n) Am Wk Mo v cp bt ml (nI cn) Y).set 4 (md 4, oK 3 [.ref r9, .int 0, .int ml, .int (nI cn)]) ++ [(r9, aB k (2 * cp + 2) bt9)]) (v := .ref r9) (T := TJ4) C tyJ4 tyJ4_ok nmJ4 4 rfl rfl 0 (by decide) inJ4 qfl_J5_15 (fun _ h9 => h9) rfl rfl rfl (Nat.le_of_ble_eq_true rfl) rfl dJ5_ensureCapacityInternal_d00df_35 ?_
  refine p_last9 (w9 := (MW k md th (nI n) Am Wk Mo r9 (2 * cp + 2) bt9 ml (nI cn) Y)) 5 rfl ?_
  rw [hQ]
  exact r_v C hrt9 (⟨_, _, hft9, hk9, rfl⟩) (by (try simp only [rmL_c, rmL_s]); omega) (by (try simp only [rmL_c, rmL_s]); omega) dJ5_ensureCapacityInternal_d00df_38
set_option maxHeartbeats 4000000 in
set_option maxRecDepth 100000 in
/-- J5_setLength_d00df -/
theorem m_J5_setLength (l : Launch) (D : va_G) (k : Nat → ClassId) {md : Nat → Nat} {th : Int32} {n : Nat} {Am Wk Mo : Nat → Int32} {v cp cn : Nat} {bt : Nat → Int32} {ml : Int32} {Y : va_W} (h3 : cp < 65536 / 4) (hm : cn < 65536) : CtV l D k yJ5_setLength_d00df (wU yJ5_setLength_d00df cJ5_setLength_d00df 2 (none)) (rmL 3 0 0) [.ref (md 4), .int (nI 0)] (MW k md th (nI n) Am Wk Mo v cp bt ml (nI cn) Y) (fun w' => ∃ ml', w' = (MW k md th (nI n) Am Wk Mo v cp bt ml' (nI 0) Y)) := by
  refine openV (own := RJ5) rfl (by decide) (Nat.le_of_ble_eq_true rfl) rfl ?_
  intro p e s m args below meth c A C hrt9 hnm
  obtain ⟨Q, hQ⟩ : ∃ Q, Q = (MQ below (va_Qv (fun w' => ∃ ml', w' = (MW k md th (nI n) Am Wk Mo v cp bt ml' (nI 0) Y)) (cBA D A) A) args s 0 0 A) := ⟨_, rfl⟩
  show WP p l e (rmL 3 0 0) s m args below meth c D A 2 (MW k md th (nI n) Am Wk Mo v cp bt ml (nI cn) Y) [(0, .ref (md 4)), (1, .int (nI 0))] 0 0 (MQ below (va_Qv (fun w' => ∃ ml', w' = (MW k md th (nI n) Am Wk Mo v cp bt ml' (nI 0) Y)) (cBA D A) A) args s 0 0 A) 0 []
  rw [← hQ]
  refine p_iload_n C rfl 1 rfl dJ5_setLength_d00df_0 ?_
  refine p_if_ge C 13 (by decide) dJ5_setLength_d00df_1 (fun c_1 => ?_) (fun c_1 => absurd c_1 (by decide))
  refine p_aload_n C rfl 0 rfl dJ5_setLength_d00df_13 ?_
  refine p_iload_n C rfl 1 rfl dJ5_setLength_d00df_14 ?_
  refine c_Uv (As := [.int (nI 0)]) (rest := []) C (m_J5_ens_a l D k (q := 0) (by omega) (by omega)) 4 rfl rfl qml_J5_100 qsm_J5_J5_ensureCapacityInternal_I_V qse_J4_J5_ensureCapacityInternal_d00df qim_J5_ensureCapacityInternal_d00df qin_J5 qco_J5_ensureCapacityInternal_d00df nd_J5_ensureCapacityInternal_d00df ⟨Nat.le_of_ble_eq_true rfl, Nat.le_of_ble_eq_true rfl⟩ (Nat.le_of_ble_eq_true rfl) ⟨Nat.le_of_ble_eq_true rfl, Nat.le_of_ble_eq_true rfl⟩ rfl dJ5_setLength_d00df_15 (fun w9 h9 => ?_)
  obtain rfl := h9
  refine p_aload_n C rfl 0 rfl dJ5_setLength_d00df_18 ?_
  refine p_get (v := .int (nI cn)) (T := TJ4) C 4 rfl rfl 3 (by decide) inJ4 qfl_J5_79 (fun _ h9 => h9) rfl dJ5_setLength_d00df_19 ?_
  refine p_iload_n C rfl 1 rfl dJ5_setLength_d00df_22 ?_
  refine p_icmp_ge C 63 (by decide) dJ5_setLength_d00df_23 (fun c_23 => ?_) (fun c_23 => absurd (nI_pos' (n := cn) (by omega)) c_23)
  refine p_aload_n C rfl 0 rfl dJ5_setLength_d00df_63 ?_
  refine p_get (v := .int (nI cn)) (T := TJ4) C 4 rfl rfl 3 (by decide) inJ4 qfl_J5_79 (fun _ h9 => h9) rfl dJ5_setLength_d00df_64 ?_
  refine p_iload_n C rfl 1 rfl dJ5_setLength_d00df_67 ?_
  refine p_icmp_le C 76 (by decide) dJ5_setLength_d00df_68 (fun c_68 => ?_) (fun c_68 => ?_)
  · refine p_aload_n C rfl 0 rfl dJ5_setLength_d00df_76 ?_
    refine p_iload_n C rfl 1 rfl dJ5_setLength_d00df_77 ?_
    refine p_put (w9 := (MW k md th (nI n) Am Wk Mo v cp bt ml (nI 0) Y)) (v := .int (nI 0)) (T := TJ4) C tyJ4 tyJ4_ok nmJ4 4 rfl rfl 3 (by decide) inJ4 qfl_J5_79 (fun _ h9 => h9) rfl rfl rfl (Nat.le_of_ble_eq_true rfl) rfl dJ5_setLength_d00df_78 ?_
    rw [hQ]
    exact r_v C hrt9 (⟨_, rfl⟩) (by decide) (by decide) dJ5_setLength_d00df_81
  · refine p_aload_n C rfl 0 rfl dJ5_setLength_d00df_71 ?_
    refine p_iconst (v := 1) C (by decide) dJ5_setLength_d00df_72 ?_
    refine p_put (w9 := (MW k md th (nI n) Am Wk Mo v cp bt 1 (nI cn) Y)) (v := .int 1) (T := TJ4) C tyJ4 tyJ4_ok nmJ4 4 rfl rfl 2 (by decide) inJ4 qfl_J5_73 (fun _ h9 => h9) rfl rfl rfl (Nat.le_of_ble_eq_true rfl) rfl dJ5_setLength_d00df_73 ?_
    refine p_aload_n C rfl 0 rfl dJ5_setLength_d00df_76 ?_
    refine p_iload_n C rfl 1 rfl dJ5_setLength_d00df_77 ?_
    refine p_put (w9 := (MW k md th (nI n) Am Wk Mo v cp bt 1 (nI 0) Y)) (v := .int (nI 0)) (T := TJ4) C tyJ4 tyJ4_ok nmJ4 4 rfl rfl 3 (by decide) inJ4 qfl_J5_79 (fun _ h9 => h9) rfl rfl rfl (Nat.le_of_ble_eq_true rfl) rfl dJ5_setLength_d00df_78 ?_
    rw [hQ]
    exact r_v C hrt9 (⟨_, rfl⟩) (by decide) (by decide) dJ5_setLength_d00df_81
set_option maxHeartbeats 4000000 in
set_option maxRecDepth 100000 in
/-- J4_setLength_d00df -/
theorem m_J4_setLength (l : Launch) (D : va_G) (k : Nat → ClassId) {md : Nat → Nat} {th : Int32} {n : Nat} {Am Wk Mo : Nat → Int32} {v cp cn : Nat} {bt : Nat → Int32} {ml : Int32} {Y : va_W} (h3 : cp < 65536 / 4) (hm : cn < 65536) : CtV l D k yJ4_setLength_d00df (wU yJ4_setLength_d00df cJ4_setLength_d00df 2 (none)) (rmL 4 0 0) [.ref (md 4), .int (nI 0)] (MW k md th (nI n) Am Wk Mo v cp bt ml (nI cn) Y) (fun w' => ∃ ml', w' = (MW k md th (nI n) Am Wk Mo v cp bt ml' (nI 0) Y)) := by
  refine openV (own := RJ4) rfl (by decide) (Nat.le_of_ble_eq_true rfl) rfl ?_
  intro p e s m args below meth c A C hrt9 hnm
  obtain ⟨Q, hQ⟩ : ∃ Q, Q = (MQ below (va_Qv (fun w' => ∃ ml', w' = (MW k md th (nI n) Am Wk Mo v cp bt ml' (nI 0) Y)) (cBA D A) A) args s 0 0 A) := ⟨_, rfl⟩
  show WP p l e (rmL 4 0 0) s m args below meth c D A 2 (MW k md th (nI n) Am Wk Mo v cp bt ml (nI cn) Y) [(0, .ref (md 4)), (1, .int (nI 0))] 0 0 (MQ below (va_Qv (fun w' => ∃ ml', w' = (MW k md th (nI n) Am Wk Mo v cp bt ml' (nI 0) Y)) (cBA D A) A) args s 0 0 A) 0 []
  rw [← hQ]
  refine p_aload_n C rfl 0 rfl dJ4_setLength_d00df_0 ?_
  refine p_iload_n C rfl 1 rfl dJ4_setLength_d00df_1 ?_
  refine c_SUv (As := [.int (nI 0)]) (rest := []) C (m_J5_setLength l D k h3 hm) 4 rfl rfl qml_J4_333 qsm_J5_J5_setLength_I_V qsu_J4_J5 qim_J5_setLength_d00df qin_J5 qco_J5_setLength_d00df (by decide) nd_J5_setLength_d00df ⟨Nat.le_of_ble_eq_true rfl, Nat.le_of_ble_eq_true rfl⟩ (Nat.le_of_ble_eq_true rfl) ⟨Nat.le_of_ble_eq_true rfl, Nat.le_of_ble_eq_true rfl⟩ rfl dJ4_setLength_d00df_2 (fun w9 h9 => ?_)
  obtain ⟨ml9, rfl⟩ := h9
  rw [hQ]
  exact r_v C hrt9 (⟨_, rfl⟩) (by decide) (by decide) dJ4_setLength_d00df_5
set_option maxHeartbeats 4000000 in
set_option maxRecDepth 100000 in
/-- canEncode -/
theorem m_J1_canEncode (l : Launch) (D : va_G) (k : Nat → ClassId) {w : va_W} {c9 : Nat} (hc : c9 < 128) : CtI l D k yJ1_canEncode_fc78d (wU yJ1_canEncode_fc78d cJ1_canEncode_fc78d 1 (some .boolean)) (rmL 0 0 0) [.int (nI c9)] w (fun r w' => r = 1 ∧ w' = w) := by
  refine openI (own := RJ1) rfl (by decide) (Nat.le_of_ble_eq_true rfl) rfl ?_
  intro p e s m args below meth c A C hrt9 hnm
  obtain ⟨Q, hQ⟩ : ∃ Q, Q = (MQ below (va_Qi (fun r w' => r = 1 ∧ w' = w) (cBA D A) A) args s 0 0 A) := ⟨_, rfl⟩
  show WP p l e (rmL 0 0 0) s m args below meth c D A 1 w [(0, .int (nI c9))] 0 0 (MQ below (va_Qi (fun r w' => r = 1 ∧ w' = w) (cBA D A) A) args s 0 0 A) 0 []
  rw [← hQ]
  refine p_iload_n C rfl 0 rfl dJ1_canEncode_fc78d_0 ?_
  refine p_sipush (v := 255) C (by decide) dJ1_canEncode_fc78d_1 ?_
  refine p_icmp_gt C 11 (by decide) dJ1_canEncode_fc78d_4 (fun c_4 => absurd c_4 (nI_nlt (a := 255) (b := c9) (by omega) (by omega))) (fun c_4 => ?_)
  refine p_iconst (v := 1) C (by decide) dJ1_canEncode_fc78d_7 ?_
  refine p_goto C 12 (by decide) dJ1_canEncode_fc78d_8 ?_
  rw [hQ]
  exact r_z C hrt9 rfl (⟨rfl, rfl⟩) (by decide) (by decide) dJ1_canEncode_fc78d_12
set_option maxHeartbeats 4000000 in
set_option maxRecDepth 100000 in
/-- J5_append_3fe6f -/
theorem m_J5_appC_a (l : Launch) (D : va_G) (k : Nat → ClassId) {md : Nat → Nat} {th : Int32} {n : Nat} {Am Wk Mo : Nat → Int32} {v cp cn : Nat} {bt : Nat → Int32} {ml : Int32} {Y : va_W} {c9 : Nat} (hc : c9 < 128) (h1 : cn + 1 ≤ cp) (h3 : cp < 65536 / 4) (hft : sb_Fit bt) : CtR l D k yJ5_append_3fe6f (wU yJ5_append_3fe6f cJ5_append_3fe6f 2 (some (.object "java/lang/AbstractStringBuilder"))) (rmL 3 0 0) [.ref (md 4), .int (nI c9)] (MW k md th (nI n) Am Wk Mo v cp bt ml (nI cn) Y) (fun a w' => a = md 4 ∧ ∃ v' bt', sb_Fit bt' ∧ (∀ j, j < cn → bt' j = bt j) ∧ bt' cn = nI c9 ∧ w' = (MW k md th (nI n) Am Wk Mo v' cp bt' ml (nI (cn + 1)) Y)) := by
  refine openR (own := RJ5) rfl (by decide) (Nat.le_of_ble_eq_true rfl) rfl ?_
  intro p e s m args below meth c A C hrt9 hnm
  obtain ⟨Q, hQ⟩ : ∃ Q, Q = (MQ below (va_Qr (fun _ => True) (fun w' a t => (fun a w' => a = md 4 ∧ ∃ v' bt', sb_Fit bt' ∧ (∀ j, j < cn → bt' j = bt j) ∧ bt' cn = nI c9 ∧ w' = (MW k md th (nI n) Am Wk Mo v' cp bt' ml (nI (cn + 1)) Y)) a w' ∧ cBA D A w' t) A) args s 0 0 A) := ⟨_, rfl⟩
  show WP p l e (rmL 3 0 0) s m args below meth c D A 2 (MW k md th (nI n) Am Wk Mo v cp bt ml (nI cn) Y) [(0, .ref (md 4)), (1, .int (nI c9))] 0 0 (MQ below (va_Qr (fun _ => True) (fun w' a t => (fun a w' => a = md 4 ∧ ∃ v' bt', sb_Fit bt' ∧ (∀ j, j < cn → bt' j = bt j) ∧ bt' cn = nI c9 ∧ w' = (MW k md th (nI n) Am Wk Mo v' cp bt' ml (nI (cn + 1)) Y)) a w' ∧ cBA D A w' t) A) args s 0 0 A) 0 []
  rw [← hQ]
  refine p_aload_n C rfl 0 rfl dJ5_append_3fe6f_0 ?_
  refine p_aload_n C rfl 0 rfl dJ5_append_3fe6f_1 ?_
  refine p_get (v := .int (nI cn)) (T := TJ4) C 4 rfl rfl 3 (by decide) inJ4 qfl_J5_79 (fun _ h9 => h9) rfl dJ5_append_3fe6f_2 ?_
  refine p_iconst (v := 1) C (by decide) dJ5_append_3fe6f_5 ?_
  refine p_iadd C dJ5_append_3fe6f_6 ?_
  refine p_int (y := (nI (cn + 1))) (nI_1 cn) ?_
  refine c_Uv (As := [.int (nI (cn + 1))]) (rest := []) C (m_J5_ens_a l D k (q := (cn + 1)) (by omega) (by omega)) 4 rfl rfl qml_J5_100 qsm_J5_J5_ensureCapacityInternal_I_V qse_J4_J5_ensureCapacityInternal_d00df qim_J5_ensureCapacityInternal_d00df qin_J5 qco_J5_ensureCapacityInternal_d00df nd_J5_ensureCapacityInternal_d00df ⟨Nat.le_of_ble_eq_true rfl, Nat.le_of_ble_eq_true rfl⟩ (Nat.le_of_ble_eq_true rfl) ⟨Nat.le_of_ble_eq_true rfl, Nat.le_of_ble_eq_true rfl⟩ rfl dJ5_append_3fe6f_7 (fun w9 h9 => ?_)
  obtain rfl := h9
  refine p_aload_n C rfl 0 rfl dJ5_append_3fe6f_10 ?_
  refine c_Ui (As := []) (rest := []) C (m_J5_isLatin1 l D k ) 4 rfl rfl qml_J5_83 qsm_J5_J5_isLatin1__Z qse_J4_J5_isLatin1_aae02 qim_J5_isLatin1_aae02 qin_J5 qco_J5_isLatin1_aae02 nd_J5_isLatin1_aae02 ⟨Nat.le_of_ble_eq_true rfl, Nat.le_of_ble_eq_true rfl⟩ (Nat.le_of_ble_eq_true rfl) ⟨Nat.le_of_ble_eq_true rfl, Nat.le_of_ble_eq_true rfl⟩ rfl dJ5_append_3fe6f_11 (fun r9 w9 h9 => ?_)
  obtain ⟨e9, rfl⟩ := h9
  refine p_int e9 ?_
  refine p_if_eq C 45 (by decide) dJ5_append_3fe6f_14 (fun c_14 => absurd c_14 (by decide)) (fun c_14 => ?_)
  refine p_iload_n C rfl 1 rfl dJ5_append_3fe6f_17 ?_
  refine c_Si (As := [.int (nI c9)]) (rest := []) C (m_J1_canEncode l D k (c9 := c9) hc) qml_J5_191 qst_J1_canEncode_fc78d qin_J1 qco_J1_canEncode_fc78d nd_J1_canEncode_fc78d ⟨Nat.le_of_ble_eq_true rfl, Nat.le_of_ble_eq_true rfl⟩ (Nat.le_of_ble_eq_true rfl) ⟨Nat.le_of_ble_eq_true rfl, Nat.le_of_ble_eq_true rfl⟩ rfl dJ5_append_3fe6f_18 (fun r9 w9 h9 => ?_)
  obtain ⟨e9, rfl⟩ := h9
  refine p_int e9 ?_
  refine p_if_eq C 45 (by decide) dJ5_append_3fe6f_21 (fun c_21 => absurd c_21 (by decide)) (fun c_21 => ?_)
  refine p_aload_n C rfl 0 rfl dJ5_append_3fe6f_24 ?_
  refine p_get (v := .ref v) (T := TJ4) C 4 rfl rfl 0 (by decide) inJ4 qfl_J5_15 (fun _ h9 => h9) rfl dJ5_append_3fe6f_25 ?_
  refine p_aload_n C rfl 0 rfl dJ5_append_3fe6f_28 ?_
  refine p_dup C rfl dJ5_append_3fe6f_29 ?_
  refine p_get (v := .int (nI cn)) (T := TJ4) C 4 rfl rfl 3 (by decide) inJ4 qfl_J5_79 (fun _ h9 => h9) rfl dJ5_append_3fe6f_30 ?_
  refine p_dup_x1 C rfl rfl dJ5_append_3fe6f_33 ?_
  refine p_iconst (v := 1) C (by decide) dJ5_append_3fe6f_34 ?_
  refine p_iadd C dJ5_append_3fe6f_35 ?_
  refine p_int (y := (nI (cn + 1))) (nI_1 cn) ?_
  refine p_put (w9 := (MW k md th (nI n) Am Wk Mo v cp bt ml (nI (cn + 1)) Y)) (v := .int (nI (cn + 1))) (T := TJ4) C tyJ4 tyJ4_ok nmJ4 4 rfl rfl 3 (by decide) inJ4 qfl_J5_79 (fun _ h9 => h9) rfl rfl rfl (Nat.le_of_ble_eq_true rfl) rfl dJ5_append_3fe6f_36 ?_
  refine p_iload_n C rfl 1 rfl dJ5_append_3fe6f_39 ?_
  refine p_i2b C dJ5_append_3fe6f_40 ?_
  refine p_int (y := (nI c9)) (i2b_c c9 hc) ?_
  refine p_bast2 (y := (nI c9)) (w9 := (MW k md th (nI n) Am Wk Mo v cp (upd bt cn (nI c9)) ml (nI (cn + 1)) Y)) C 5 rfl (vp_in_nI (n := cn) (N := cp) (by omega) (by omega)) (nar_b c9 hc) (by rw [show ((nI cn)).toNatClampNeg = cn from nI_clamp (by omega)]; exact rfl) dJ5_append_3fe6f_41 ?_
  refine p_goto C 75 (by decide) dJ5_append_3fe6f_42 ?_
  refine p_aload_n C rfl 0 rfl dJ5_append_3fe6f_75 ?_
  rw [hQ]
  exact r_r C hrt9 (Or.inl ⟨_, rfl⟩) (⟨rfl, _, _, sb_fitU hft (fit_b c9 hc), fun j hj => pk_un (by omega), pk_us, rfl⟩) (by decide) (by decide) dJ5_append_3fe6f_76
set_option maxHeartbeats 4000000 in
set_option maxRecDepth 100000 in
/-- J5_append_3fe6f -/
theorem m_J5_appC_b (l : Launch) (D : va_G) (k : Nat → ClassId) {md : Nat → Nat} {th : Int32} {n : Nat} {Am Wk Mo : Nat → Int32} {v cp cn : Nat} {bt : Nat → Int32} {ml : Int32} {Y : va_W} {c9 : Nat} (hc : c9 < 128) (h1 : cp < cn + 1) (hm : cn ≤ cp) (h3 : cp < 65536 / 4) (hft : sb_Fit bt) : CtR l D k yJ5_append_3fe6f (wU yJ5_append_3fe6f cJ5_append_3fe6f 2 (some (.object "java/lang/AbstractStringBuilder"))) (rmL 3 1 (2 * cp + 2)) [.ref (md 4), .int (nI c9)] (MW k md th (nI n) Am Wk Mo v cp bt ml (nI cn) Y) (fun a w' => a = md 4 ∧ ∃ v' bt', sb_Fit bt' ∧ (∀ j, j < cn → bt' j = bt j) ∧ bt' cn = nI c9 ∧ w' = (MW k md th (nI n) Am Wk Mo v' (2 * cp + 2) bt' ml (nI (cn + 1)) Y)) := by
  refine openR (own := RJ5) rfl (by decide) (Nat.le_of_ble_eq_true rfl) rfl ?_
  intro p e s m args below meth c A C hrt9 hnm
  obtain ⟨Q, hQ⟩ : ∃ Q, Q = (MQ below (va_Qr (fun _ => True) (fun w' a t => (fun a w' => a = md 4 ∧ ∃ v' bt', sb_Fit bt' ∧ (∀ j, j < cn → bt' j = bt j) ∧ bt' cn = nI c9 ∧ w' = (MW k md th (nI n) Am Wk Mo v' (2 * cp + 2) bt' ml (nI (cn + 1)) Y)) a w' ∧ cBA D A w' t) A) args s 1 (2 * cp + 2) A) := ⟨_, rfl⟩
  show WP p l e (rmL 3 1 (2 * cp + 2)) s m args below meth c D A 2 (MW k md th (nI n) Am Wk Mo v cp bt ml (nI cn) Y) [(0, .ref (md 4)), (1, .int (nI c9))] 0 0 (MQ below (va_Qr (fun _ => True) (fun w' a t => (fun a w' => a = md 4 ∧ ∃ v' bt', sb_Fit bt' ∧ (∀ j, j < cn → bt' j = bt j) ∧ bt' cn = nI c9 ∧ w' = (MW k md th (nI n) Am Wk Mo v' (2 * cp + 2) bt' ml (nI (cn + 1)) Y)) a w' ∧ cBA D A w' t) A) args s 1 (2 * cp + 2) A) 0 []
  rw [← hQ]
  refine p_aload_n C rfl 0 rfl dJ5_append_3fe6f_0 ?_
  refine p_aload_n C rfl 0 rfl dJ5_append_3fe6f_1 ?_
  refine p_get (v := .int (nI cn)) (T := TJ4) C 4 rfl rfl 3 (by decide) inJ4 qfl_J5_79 (fun _ h9 => h9) rfl dJ5_append_3fe6f_2 ?_
  refine p_iconst (v := 1) C (by decide) dJ5_append_3fe6f_5 ?_
  refine p_iadd C dJ5_append_3fe6f_6 ?_
  refine p_int (y := (nI (cn + 1))) (nI_1 cn) ?_
  refine c_Uv (As := [.int (nI (cn + 1))]) (rest := []) C (m_J5_ens_b l D k (q := (cn + 1)) (by omega) (by omega) (by omega) hft) 4 rfl rfl qml_J5_100 qsm_J5_J5_ensureCapacityInternal_I_V qse_J4_J5_ensureCapacityInternal_d00df qim_J5_ensureCapacityInternal_d00df qin_J5 qco_J5_ensureCapacityInternal_d00df nd_J5_ensureCapacityInternal_d00df ⟨Nat.le_of_ble_eq_true rfl, Nat.le_of_ble_eq_true rfl⟩ (Nat.le_of_ble_eq_true rfl) ⟨Nat.le_of_ble_eq_true rfl, by (try simp only [rmL_c, rmL_s]); omega⟩ rfl dJ5_append_3fe6f_7 (fun w9 h9 => ?_)
  obtain ⟨v9, bt9, hft9, hk9, rfl⟩ := h9
  refine p_aload_n C rfl 0 rfl dJ5_append_3fe6f_10 ?_
  refine c_Ui (As := []) (rest := []) C (m_J5_isLatin1 l D k ) 4 rfl rfl qml_J5_83 qsm_J5_J5_isLatin1__Z qse_J4_J5_isLatin1_aae02 qim_J5_isLatin1_aae02 qin_J5 qco_J5_isLatin1_aae02 nd_J5_isLatin1_aae02 ⟨Nat.le_of_ble_eq_true rfl, Nat.le_of_ble_eq_true rfl⟩ (Nat.le_of_ble_eq_true rfl) ⟨Nat.le_of_ble_eq_true rfl, by (try simp only [rmL_c, rmL_s]); omega⟩ rfl dJ5_append_3fe6f_11 (fun r9 w9 h9 => ?_)
  obtain ⟨e9, rfl⟩ := h9
  refine p_int e9 ?_
  refine p_if_eq C 45 (by decide) dJ5_append_3fe6f_14 (fun c_14 => absurd c_14 (by decide)) (fun c_14 => ?_)
  refine p_iload_n C rfl 1 rfl dJ5_append_3fe6f_17 ?_
  refine c_Si (As := [.int (nI c9)]) (rest := []) C (m_J1_canEncode l D k (c9 := c9) hc) qml_J5_191 qst_J1_canEncode_fc78d qin_J1 qco_J1_canEncode_fc78d nd_J1_canEncode_fc78d ⟨Nat.le_of_ble_eq_true rfl, Nat.le_of_ble_eq_true rfl⟩ (Nat.le_of_ble_eq_true rfl) ⟨Nat.le_of_ble_eq_true rfl, by (try simp only [rmL_c, rmL_s]); omega⟩ rfl dJ5_append_3fe6f_18 (fun r9 w9 h9 => ?_)
  obtain ⟨e9, rfl⟩ := h9
  refine p_int e9 ?_
  refine p_if_eq C 45 (by decide) dJ5_append_3fe6f_21 (fun c_21 => absurd c_21 (by decide)) (fun c_21 => ?_)
  refine p_aload_n C rfl 0 rfl dJ5_append_3fe6f_24 ?_
  refine p_get (v := .ref v9) (T := TJ4) C 4 rfl rfl 0 (by decide) inJ4 qfl_J5_15 (fun _ h9 => h9) rfl dJ5_append_3fe6f_25 ?_
  refine p_aload_n C rfl 0 rfl dJ5_append_3fe6f_28 ?_
  refine p_dup C rfl dJ5_append_3fe6f_29 ?_
  refine p_get (v := .int (nI cn)) (T := TJ4) C 4 rfl rfl 3 (by decide) inJ4 qfl_J5_79 (fun _ h9 => h9) rfl dJ5_append_3fe6f_30 ?_
  refine p_dup_x1 C rfl rfl dJ5_append_3fe6f_33 ?_
  refine p_iconst (v := 1) C (by decide) dJ5_append_3fe6f_34 ?_
  refine p_iadd C dJ5_append_3fe6f_35 ?_
  refine p_int (y := (nI (cn + 1))) (nI_1 cn) ?_
  refine p_put (w9 := (MW k md th (nI n) Am Wk Mo v9 (2 * cp + 2) bt9 ml (nI (cn + 1)) Y)) (v := .int (nI (cn + 1))) (T := TJ4) C tyJ4 tyJ4_ok nmJ4 4 rfl rfl 3 (by decide) inJ4 qfl_J5_79 (fun _ h9 => h9) rfl rfl rfl (Nat.le_of_ble_eq_true rfl) rfl dJ5_append_3fe6f_36 ?_
  refine p_iload_n C rfl 1 rfl dJ5_append_3fe6f_39 ?_
  refine p_i2b C dJ5_append_3fe6f_40 ?_
  refine p_int (y := (nI c9)) (i2b_c c9 hc) ?_
  refine p_bast2 (y := (nI c9)) (w9 := (MW k md th (nI n) Am Wk Mo v9 (2 * cp + 2) (upd bt9 cn (nI c9)) ml (nI (cn + 1)) Y)) C 5 rfl (vp_in_nI (n := cn) (N := (2 * cp + 2)) (by omega) (by omega)) (nar_b c9 hc) (by rw [show ((nI cn)).toNatClampNeg = cn from nI_clamp (by omega)]; exact rfl) dJ5_append_3fe6f_41 ?_
  refine p_goto C 75 (by decide) dJ5_append_3fe6f_42 ?_
  refine p_aload_n C rfl 0 rfl dJ5_append_3fe6f_75 ?_
  rw [hQ]
  exact r_r C hrt9 (Or.inl ⟨_, rfl⟩) (⟨rfl, _, _, sb_fitU hft9 (fit_b c9 hc), fun j hj => (pk_un (by omega)).trans (hk9 j (by omega)), pk_us, rfl⟩) (by (try simp only [rmL_c, rmL_s]); omega) (by (try simp only [rmL_c, rmL_s]); omega) dJ5_append_3fe6f_76
theorem gwC_a {q cp : Nat} (h : q ≤ cp) : gwC q cp = 0 := if_pos h
theorem gwS_a {q cp : Nat} (h : q ≤ cp) : gwS q cp = 0 := if_pos h
theorem cwA_a {q cp : Nat} (h : q ≤ cp) : cwA q cp = cp := if_pos h
theorem gwC_b {q cp : Nat} (h : cp < q) : gwC q cp = 1 := if_neg (by omega)
theorem gwS_b {q cp : Nat} (h : cp < q) : gwS q cp = 2 * cp + 2 := if_neg (by omega)
theorem cwA_b {q cp : Nat} (h : cp < q) : cwA q cp = 2 * cp + 2 := if_neg (by omega)
theorem m_J5_appC (l : Launch) (D : va_G) (k : Nat → ClassId) {md : Nat → Nat} {th : Int32} {n : Nat} {Am Wk Mo : Nat → Int32} {v cp cn : Nat} {bt : Nat → Int32} {ml : Int32} {Y : va_W} {c9 : Nat} (hc : c9 < 128) (hm : cn ≤ cp) (h3 : cp < 65536 / 4) (hft : sb_Fit bt) : CtR l D k yJ5_append_3fe6f (wU yJ5_append_3fe6f cJ5_append_3fe6f 2 (some (.object "java/lang/AbstractStringBuilder"))) (rmL 3 (gwC (cn + 1) cp) (gwS (cn + 1) cp)) [.ref (md 4), .int (nI c9)] (MW k md th (nI n) Am Wk Mo v cp bt ml (nI cn) Y) (fun a w' => a = md 4 ∧ ∃ v' bt', sb_Fit bt' ∧ (∀ j, j < cn → bt' j = bt j) ∧ bt' cn = nI c9 ∧ w' = (MW k md th (nI n) Am Wk Mo v' (cwA (cn + 1) cp) bt' ml (nI (cn + 1)) Y)) := by
  by_cases h1 : (cn + 1) ≤ cp
  · have h := m_J5_appC_a l D k (md := md) (th := th) (n := n) (Am := Am) (Wk := Wk) (Mo := Mo) (v := v) (cp := cp) (cn := cn) (bt := bt) (ml := ml) (Y := Y) hc h1 h3 hft
    rw [gwC_a h1, gwS_a h1, cwA_a h1]
    exact h
  · have h2 : cp < (cn + 1) := by omega
    have h := m_J5_appC_b l D k (md := md) (th := th) (n := n) (Am := Am) (Wk := Wk) (Mo := Mo) (v := v) (cp := cp) (cn := cn) (bt := bt) (ml := ml) (Y := Y) hc h2 hm h3 hft
    rw [gwC_b h2, gwS_b h2, cwA_b h2]
    exact h
set_option maxHeartbeats 4000000 in
set_option maxRecDepth 100000 in
/-- J4_append_cf468 -/
theorem m_J4_appC (l : Launch) (D : va_G) (k : Nat → ClassId) {md : Nat → Nat} {th : Int32} {n : Nat} {Am Wk Mo : Nat → Int32} {v cp cn : Nat} {bt : Nat → Int32} {ml : Int32} {Y : va_W} {c9 : Nat} (hc : c9 < 128) (hm : cn ≤ cp) (h3 : cp < 65536 / 4) (hft : sb_Fit bt) : CtR l D k yJ4_append_cf468 (wU yJ4_append_cf468 cJ4_append_cf468 2 (some (.object "java/lang/StringBuilder"))) (rmL 4 (gwC (cn + 1) cp) (gwS (cn + 1) cp)) [.ref (md 4), .int (nI c9)] (MW k md th (nI n) Am Wk Mo v cp bt ml (nI cn) Y) (fun a w' => a = md 4 ∧ ∃ v' bt', sb_Fit bt' ∧ (∀ j, j < cn → bt' j = bt j) ∧ bt' cn = nI c9 ∧ w' = (MW k md th (nI n) Am Wk Mo v' (cwA (cn + 1) cp) bt' ml (nI (cn + 1)) Y)) := by
  refine openR (own := RJ4) rfl (by decide) (Nat.le_of_ble_eq_true rfl) rfl ?_
  intro p e s m args below meth c A C hrt9 hnm
  obtain ⟨Q, hQ⟩ : ∃ Q, Q = (MQ below (va_Qr (fun _ => True) (fun w' a t => (fun a w' => a = md 4 ∧ ∃ v' bt', sb_Fit bt' ∧ (∀ j, j < cn → bt' j = bt j) ∧ bt' cn = nI c9 ∧ w' = (MW k md th (nI n) Am Wk Mo v' (cwA (cn + 1) cp) bt' ml (nI (cn + 1)) Y)) a w' ∧ cBA D A w' t) A) args s (gwC (cn + 1) cp) (gwS (cn + 1) cp) A) := ⟨_, rfl⟩
  show WP p l e (rmL 4 (gwC (cn + 1) cp) (gwS (cn + 1) cp)) s m args below meth c D A 2 (MW k md th (nI n) Am Wk Mo v cp bt ml (nI cn) Y) [(0, .ref (md 4)), (1, .int (nI c9))] 0 0 (MQ below (va_Qr (fun _ => True) (fun w' a t => (fun a w' => a = md 4 ∧ ∃ v' bt', sb_Fit bt' ∧ (∀ j, j < cn → bt' j = bt j) ∧ bt' cn = nI c9 ∧ w' = (MW k md th (nI n) Am Wk Mo v' (cwA (cn + 1) cp) bt' ml (nI (cn + 1)) Y)) a w' ∧ cBA D A w' t) A) args s (gwC (cn + 1) cp) (gwS (cn + 1) cp) A) 0 []
  rw [← hQ]
  refine p_aload_n C rfl 0 rfl dJ4_append_cf468_0 ?_
  refine p_iload_n C rfl 1 rfl dJ4_append_cf468_1 ?_
  refine c_SUr (As := [.int (nI c9)]) (rest := []) C (m_J5_appC l D k hc hm h3 hft) 4 rfl rfl qml_J4_50 qsm_J5_J5_append_C_Ljava_lang_AbstractStringBuilder_ qsu_J4_J5 qim_J5_append_3fe6f qin_J5 qco_J5_append_3fe6f (by decide) nd_J5_append_3fe6f ⟨Nat.le_of_ble_eq_true rfl, Nat.le_of_ble_eq_true rfl⟩ (Nat.le_of_ble_eq_true rfl) ⟨by (try simp only [rmL_c, rmL_s]); omega, by (try simp only [rmL_c, rmL_s]); omega⟩ rfl dJ4_append_cf468_2 (fun r9 w9 h9 => ?_)
  obtain ⟨rfl, h8⟩ := h9
  refine p_pop C rfl dJ4_append_cf468_5 ?_
  refine p_aload_n C rfl 0 rfl dJ4_append_cf468_6 ?_
  rw [hQ]
  exact r_r C hrt9 (Or.inl ⟨_, rfl⟩) (⟨rfl, h8⟩) (by (try simp only [rmL_c, rmL_s]); omega) (by (try simp only [rmL_c, rmL_s]); omega) dJ4_append_cf468_7
theorem pw_b {i : Nat} (h : i ≤ 10) : 10 ^ i < 2 ^ 62 := Nat.lt_of_le_of_lt (Nat.pow_le_pow_right (by omega) h) (by decide)
theorem pw_le {u i : Nat} (h : i ≤ 10) (hu : u < 10000000000) (c : lg_cmp (-lN u) (-lN (10 ^ i)) ≤ 0) : 10 ^ i ≤ u := (ln_nle (by omega) (pw_b h)).mp c
theorem pw_lt {u i : Nat} (h : i ≤ 10) (hu : u < 10000000000) (c : ¬ lg_cmp (-lN u) (-lN (10 ^ i)) ≤ 0) : u < 10 ^ i := Nat.lt_of_not_le fun q => c ((ln_nle (by omega) (pw_b h)).mpr q)
theorem pw_10 {u i : Nat} (hu : u < 10000000000) (hb : True) (c : 10 ^ i ≤ u) : i + 1 ≤ 10 := by
  rcases Nat.lt_or_ge 9 i with q | q
  · have : 10 ^ 10 ≤ 10 ^ i := Nat.pow_le_pow_right (by omega) q
    have e : (10 : Nat) ^ 10 = 10000000000 := by decide
    omega
  · omega
set_option maxHeartbeats 4000000 in
set_option maxRecDepth 100000 in
/-- Long.stringSize -/
theorem m_J13_stringSize (l : Launch) (D : va_G) (k : Nat → ClassId) {w : va_W} {u : Nat} (hu : u < 10000000000) (hb : True) : CtI l D k yJ13_stringSize_95d88 (wU yJ13_stringSize_95d88 cJ13_stringSize_95d88 6 (some .int)) (rmL 0 0 0) [.long (lN u)] w (fun r w' => r = nI (sb_dg u) ∧ w' = w) := by
  refine openI (own := RJ13) rfl (by decide) (Nat.le_of_ble_eq_true rfl) rfl ?_
  intro p e s m args below meth c A C hrt9 hnm
  obtain ⟨Q, hQ⟩ : ∃ Q, Q = (MQ below (va_Qi (fun r w' => r = nI (sb_dg u) ∧ w' = w) (cBA D A) A) args s 0 0 A) := ⟨_, rfl⟩
  show WP p l e (rmL 0 0 0) s m args below meth c D A 6 w [(0, .long (lN u))] 0 0 (MQ below (va_Qi (fun r w' => r = nI (sb_dg u) ∧ w' = w) (cBA D A) A) args s 0 0 A) 0 []
  rw [← hQ]
  refine p_iconst (v := 1) C (by decide) dJ13_stringSize_95d88_0 ?_
  refine p_istore_n (lv9 := [(2, .int 1), (0, .long (lN u))]) C rfl (by decide) rfl dJ13_stringSize_95d88_1 ?_
  refine p_lload_n C rfl 1 rfl dJ13_stringSize_95d88_2 ?_
  refine p_lconst (v := 0) C (by decide) dJ13_stringSize_95d88_3 ?_
  refine p_lcmp C dJ13_stringSize_95d88_4 ?_
  refine p_if_lt C 13 (by decide) dJ13_stringSize_95d88_5 (fun c_5 => absurd c_5 (ln_nlt0 (by omega))) (fun c_5 => ?_)
  refine p_iconst (v := (nI 0)) C (by decide) dJ13_stringSize_95d88_8 ?_
  refine p_istore_n (lv9 := [(2, .int (nI 0)), (0, .long (lN u))]) C rfl (by decide) rfl dJ13_stringSize_95d88_9 ?_
  refine p_lload_n C rfl 1 rfl dJ13_stringSize_95d88_10 ?_
  refine p_lneg C dJ13_stringSize_95d88_11 ?_
  refine p_lstore_n (lv9 := [(0, .long (-(lN u))), (2, .int (nI 0))]) C rfl (by decide) rfl dJ13_stringSize_95d88_12 ?_
  refine p_ldc2 (v := (-lN (10 ^ 1))) C qkl_J13_140 dJ13_stringSize_95d88_13 ?_
  refine p_lstore_n (lv9 := [(3, .long (-lN (10 ^ 1))), (0, .long (-(lN u))), (2, .int (nI 0))]) C rfl (by decide) rfl dJ13_stringSize_95d88_16 ?_
  refine p_iconst (v := (nI 1)) C (by decide) dJ13_stringSize_95d88_17 ?_
  refine p_istore (lv9 := [(5, .int (nI 1)), (3, .long (-lN (10 ^ 1))), (0, .long (-(lN u))), (2, .int (nI 0))]) C (by decide) rfl dJ13_stringSize_95d88_18 ?_
  refine p_lv (lv9 := [(0, .long (-(lN u))), (2, .int (nI 0)), (3, .long (-lN (10 ^ 1))), (5, .int (nI 1))]) [2, 3, 1, 0] rfl ?_
  have lp20 : ∀ (n20 : Nat) (i : Nat), (hi : i + n20 = 19) → (h1 : 1 ≤ i) → (h2 : i ≤ 10) → (h3 : i = 1 ∨ 10 ^ (i - 1) ≤ u) → WP p l e (rmL 0 0 0) s m args below meth c D A 6 w [(0, .long (-lN u)), (2, .int (nI 0)), (3, .long (-lN (10 ^ i))), (5, .int (nI i))] 0 0 Q 20 [] := by
    intro n20
    induction n20 with
    | zero =>
      intro i hi h1 h2 h3
      omega
    | succ n20 ih20 =>
      intro i hi h1 h2 h3
      refine p_iload C 3 rfl dJ13_stringSize_95d88_20 ?_
      refine p_bipush (v := 19) C (by decide) dJ13_stringSize_95d88_22 ?_
      refine p_icmp_ge C 50 (by decide) dJ13_stringSize_95d88_24 (fun c_24 => absurd c_24 (nI_ge (b := 19) (show i < 19 by omega) (by decide))) (fun c_24 => ?_)
      refine p_lload_n C rfl 0 rfl dJ13_stringSize_95d88_27 ?_
      refine p_lload_n C rfl 2 rfl dJ13_stringSize_95d88_28 ?_
      refine p_lcmp C dJ13_stringSize_95d88_29 ?_
      refine p_if_le C 38 (by decide) dJ13_stringSize_95d88_30 (fun c_30 => ?_) (fun c_30 => ?_)
      · refine p_ldc2 (v := 10) C qkl_J13_53 dJ13_stringSize_95d88_38 ?_
        refine p_lload_n C rfl 2 rfl dJ13_stringSize_95d88_41 ?_
        refine p_lmul C dJ13_stringSize_95d88_42 ?_
        refine p_st (st9 := [.long (-lN (10 ^ (i + 1)))]) (congrArg (fun z9 => Value.long z9 :: []) (by rw [ln_10, Nat.pow_succ, Nat.mul_comm])) ?_
        refine p_lstore_n (lv9 := [(3, .long (-lN (10 ^ (i + 1)))), (0, .long (-lN u)), (2, .int (nI 0)), (5, .int (nI i))]) C rfl (by decide) rfl dJ13_stringSize_95d88_43 ?_
        refine p_iinc (lv9 := [(5, .int (nI (i + 1))), (3, .long (-lN (10 ^ (i + 1)))), (0, .long (-lN u)), (2, .int (nI 0))]) (v := (nI (i + 1))) C (j := 3) rfl (i_up i) (by decide) rfl dJ13_stringSize_95d88_44 ?_
        refine p_goto C 20 (by decide) dJ13_stringSize_95d88_47 ?_
        refine p_lv (lv9 := [(0, .long (-lN u)), (2, .int (nI 0)), (3, .long (-lN (10 ^ (i + 1)))), (5, .int (nI (i + 1)))]) [2, 3, 1, 0] rfl ?_
        exact ih20 (i + 1) (by omega) (by omega) (pw_10 hu hb (pw_le h2 hu c_30)) (Or.inr (by rw [Nat.add_sub_cancel]; exact pw_le h2 hu c_30))
      · refine p_iload C 3 rfl dJ13_stringSize_95d88_33 ?_
        refine p_iload_n C rfl 1 rfl dJ13_stringSize_95d88_35 ?_
        refine p_iadd C dJ13_stringSize_95d88_36 ?_
        rw [hQ]
        exact r_i C hrt9 (⟨by rw [sbd_of h1 h2 h3 (pw_lt h2 hu c_30)]; exact Int32.add_zero _, rfl⟩) (by decide) (by decide) dJ13_stringSize_95d88_37
  exact lp20 18 1 rfl (by omega) (by omega) (Or.inl rfl)
theorem dg_le9 {w : Nat} (h : w < 10) : sb_dg w = 1 := sbd_of (by omega) (by omega) (Or.inl rfl) (by omega)
theorem dg_2 {w : Nat} (h : 10 ≤ w) (h2 : w < 100) : sb_dg w = 2 := sbd_of (by omega) (by omega) (Or.inr (by show 10 ^ 1 ≤ w; omega)) (by show w < 10 ^ 2; omega)
theorem gch_t {m w u : Nat} {b : Nat → Int32} (h : 100 ≤ w) (hw : w < 2 ^ 31) (hd : ∀ j, j < sb_dg w → sb_dec u j = sb_dec w j) (ht : ∀ j, sb_dg w ≤ j → j < sb_dg u → b (m + j) = nI (sb_dec u j)) : ∀ j, sb_dg (w / 100) ≤ j → j < sb_dg u → upd (upd b (m + sb_dg w - 1) (nI (48 + w % 100 % 10))) (m + sb_dg (w / 100)) (nI (48 + w % 100 / 10)) (m + j) = nI (sb_dec u j) := fun j h1 h2 => by
  have e := sb_dg100 h hw
  by_cases q : j = sb_dg (w / 100)
  · subst q
    rw [pk_us, hd _ (by omega)]
    have := @dec_last2 w (by omega)
    rw [show sb_dg w - 2 = sb_dg (w / 100) by omega] at this
    rw [this]
    congr 1; omega
  · rw [pk_un (by omega)]
    by_cases q2 : j = sb_dg w - 1
    · subst q2
      rw [show m + (sb_dg w - 1) = m + sb_dg w - 1 by omega, pk_us, hd _ (by omega), dec_last]
      congr 1; omega
    · rw [pk_un (by omega)]
      exact ht j (by omega) h2
theorem gch_1 {m w u : Nat} {b : Nat → Int32} (h : w < 10) (hd : ∀ j, j < sb_dg w → sb_dec u j = sb_dec w j) (ht : ∀ j, sb_dg w ≤ j → j < sb_dg u → b (m + j) = nI (sb_dec u j)) : ∀ j, j < sb_dg u → upd b (m + sb_dg w - 1) (nI (48 + w % 10)) (m + j) = nI (sb_dec u j) := fun j h2 => by
  have e := dg_le9 h
  by_cases q : j = 0
  · subst q
    rw [show m + 0 = m + sb_dg w - 1 by omega, pk_us, hd _ (by omega)]
    have := @dec_last w
    rw [e] at this
    rw [this]
  · rw [pk_un (by omega)]; exact ht j (by omega) h2
theorem gch_2 {m w u : Nat} {b : Nat → Int32} (h : 10 ≤ w) (h9 : w < 100) (hd : ∀ j, j < sb_dg w → sb_dec u j = sb_dec w j) (ht : ∀ j, sb_dg w ≤ j → j < sb_dg u → b (m + j) = nI (sb_dec u j)) : ∀ j, j < sb_dg u → upd (upd b (m + sb_dg w - 1) (nI (48 + w % 10))) (m + sb_dg w - 1 - 1) (nI (48 + w / 10)) (m + j) = nI (sb_dec u j) := fun j h2 => by
  have e := dg_2 h h9
  by_cases q : j = 0
  · subst q
    rw [show m + 0 = m + sb_dg w - 1 - 1 by omega, pk_us, hd _ (by omega)]
    have := @dec_last2 w (by omega)
    rw [e] at this
    rw [this]
    congr 1; omega
  · rw [pk_un (by omega)]
    by_cases q2 : j = 1
    · subst q2
      rw [show m + 1 = m + sb_dg w - 1 by omega, pk_us, hd _ (by omega)]
      have := @dec_last w
      rw [e] at this
      rw [this]
    · rw [pk_un (by omega)]; exact ht j (by omega) h2
theorem gch_k {m a x y : Nat} {b bt : Nat → Int32} {v : Int32} (hk : ∀ j, j < m → b j = bt j) (h : m ≤ x) : ∀ j, j < m → upd b x v j = bt j := fun j hj => (pk_un (by omega)).trans (hk j hj)
theorem neg_gt {w c : Nat} (hw : w < 2 ^ 31) (hc : c < 2 ^ 31) (h : -nI c < -nI w) : w < c := (sb_nlt hc hw).mp h
theorem neg_ngt {w c : Nat} (hw : w < 2 ^ 31) (hc : c < 2 ^ 31) (h : ¬ -nI c < -nI w) : c ≤ w := Nat.le_of_not_lt fun q => h ((sb_nlt hc hw).mpr q)
theorem dec_mn : ∀ j, j < sb_dg 21474836 → sb_dec 2147483648 j = sb_dec 21474836 j := by decide +kernel
theorem dec_mt {m : Nat} {b : Nat → Int32} : ∀ j, sb_dg 21474836 ≤ j → j < sb_dg 2147483648 → upd (upd b (m + 9) 56) (m + 8) 52 (m + j) = nI (sb_dec 2147483648 j) := fun j h1 h2 => by
  have e1 : sb_dg 21474836 = 8 := by decide
  have e2 : sb_dg 2147483648 = 10 := by decide
  by_cases q : j = 8
  · subst q; rw [pk_us]; decide
  · have : j = 9 := by omega
    subst this; rw [pk_un (by omega), pk_us]; decide
theorem ln_id {w : Nat} (h : w < 2147483648) : (-lN w).toInt32 = -nI w := ln_i
set_option maxHeartbeats 4000000 in
set_option maxRecDepth 100000 in
/-- Long.getChars -/
theorem m_J13_getChars (l : Launch) (D : va_G) (k : Nat → ClassId) {md : Nat → Nat} {th : Int32} {n : Nat} {Am Wk Mo : Nat → Int32} {v cp cn : Nat} {bt : Nat → Int32} {ml : Int32} {Y : va_W} {u : Nat} (hu : u ≤ 2147483648) (hcp : cn + sb_dg u ≤ cp) (h3 : cp < 65536) (hft : sb_Fit bt) : CtI l D k yJ13_getChars_11360 (wU yJ13_getChars_11360 cJ13_getChars_11360 11 (some .int)) (rmL 0 0 0) [.long (lN u), .int (nI (cn + sb_dg u)), .ref v] (MW k md th (nI n) Am Wk Mo v cp bt ml (nI cn) Y) (fun _ w' => ∃ bt', sb_Fit bt' ∧ (∀ j, j < cn → bt' j = bt j) ∧ (∀ j, j < sb_dg u → bt' (cn + j) = nI (sb_dec u j)) ∧ w' = (MW k md th (nI n) Am Wk Mo v cp bt' ml (nI cn) Y)) := by
  refine openI (own := RJ13) rfl (by decide) (Nat.le_of_ble_eq_true rfl) rfl ?_
  intro p e s m args below meth c A C hrt9 hnm
  obtain ⟨Q, hQ⟩ : ∃ Q, Q = (MQ below (va_Qi (fun _ w' => ∃ bt', sb_Fit bt' ∧ (∀ j, j < cn → bt' j = bt j) ∧ (∀ j, j < sb_dg u → bt' (cn + j) = nI (sb_dec u j)) ∧ w' = (MW k md th (nI n) Am Wk Mo v cp bt' ml (nI cn) Y)) (cBA D A) A) args s 0 0 A) := ⟨_, rfl⟩
  show WP p l e (rmL 0 0 0) s m args below meth c D A 11 (MW k md th (nI n) Am Wk Mo v cp bt ml (nI cn) Y) [(0, .long (lN u)), (2, .int (nI (cn + sb_dg u))), (3, .ref v)] 0 0 (MQ below (va_Qi (fun _ w' => ∃ bt', sb_Fit bt' ∧ (∀ j, j < cn → bt' j = bt j) ∧ (∀ j, j < sb_dg u → bt' (cn + j) = nI (sb_dec u j)) ∧ w' = (MW k md th (nI n) Am Wk Mo v cp bt' ml (nI cn) Y)) (cBA D A) A) args s 0 0 A) 0 []
  rw [← hQ]
  obtain ⟨d1, hz1, ht1⟩ := C.2.2.2.2.2.2.2.2.2.2.2.2.2.2.1
  obtain ⟨d2, hz2, ht2⟩ := C.2.2.2.2.2.2.2.2.2.2.2.2.2.2.2.1
  refine p_iload_n C rfl 1 rfl dJ13_getChars_11360_0 ?_
  refine p_istore (lv9 := [(7, .int (nI (cn + sb_dg u))), (0, .long (lN u)), (2, .int (nI (cn + sb_dg u))), (3, .ref v)]) C (by decide) rfl dJ13_getChars_11360_1 ?_
  refine p_lload_n C rfl 1 rfl dJ13_getChars_11360_3 ?_
  refine p_lconst (v := 0) C (by decide) dJ13_getChars_11360_4 ?_
  refine p_lcmp C dJ13_getChars_11360_5 ?_
  refine p_if_ge C 13 (by decide) dJ13_getChars_11360_6 (fun c_6 => ?_) (fun c_6 => absurd (ln_ge0 (by omega)) c_6)
  refine p_iconst (v := 0) C (by decide) dJ13_getChars_11360_13 ?_
  refine p_istore (lv9 := [(8, .int 0), (7, .int (nI (cn + sb_dg u))), (0, .long (lN u)), (2, .int (nI (cn + sb_dg u))), (3, .ref v)]) C (by decide) rfl dJ13_getChars_11360_14 ?_
  refine p_iload C 0 rfl dJ13_getChars_11360_16 ?_
  refine p_if_ne C 24 (by decide) dJ13_getChars_11360_18 (fun c_18 => absurd c_18 (by decide)) (fun c_18 => ?_)
  refine p_lload_n C rfl 2 rfl dJ13_getChars_11360_21 ?_
  refine p_lneg C dJ13_getChars_11360_22 ?_
  refine p_lstore_n (lv9 := [(0, .long (-(lN u))), (8, .int 0), (7, .int (nI (cn + sb_dg u))), (2, .int (nI (cn + sb_dg u))), (3, .ref v)]) C rfl (by decide) rfl dJ13_getChars_11360_23 ?_
  refine p_lload_n C rfl 0 rfl dJ13_getChars_11360_24 ?_
  refine p_ldc2 (v := (-2147483648)) C qkl_J13_129 dJ13_getChars_11360_25 ?_
  refine p_lcmp C dJ13_getChars_11360_28 ?_
  refine p_if_gt C 82 (by decide) dJ13_getChars_11360_29 (fun c_29 => ?_) (fun c_29 => ?_)
  · have hu2 : u < 2147483648 := ln_min2 hu c_29
    refine p_lload_n C rfl 0 rfl dJ13_getChars_11360_82 ?_
    refine p_l2i C dJ13_getChars_11360_83 ?_
    refine p_int (y := (-nI u)) (ln_id hu2) ?_
    refine p_istore (lv9 := [(10, .int (-nI u)), (0, .long (-(lN u))), (8, .int 0), (7, .int (nI (cn + sb_dg u))), (2, .int (nI (cn + sb_dg u))), (3, .ref v)]) C (by decide) rfl dJ13_getChars_11360_84 ?_
    refine p_lv (lv9 := [(7, .int (nI (cn + sb_dg u))), (8, .int 0), (3, .ref v), (10, .int (-nI u))]) [3, 2, 5, 0] rfl ?_
    have lp86 : ∀ (n86 : Nat) (w9 : Nat) (b9 : Nat → Int32), (hi : w9 < n86) → (hw : w9 < 2 ^ 31) → (hd : ∀ j, j < sb_dg w9 → sb_dec u j = sb_dec w9 j) → (ht : ∀ j, sb_dg w9 ≤ j → j < sb_dg u → b9 (cn + j) = nI (sb_dec u j)) → (hk : ∀ j, j < cn → b9 j = bt j) → (hf : sb_Fit b9) → (hdl : sb_dg w9 ≤ sb_dg u) → WP p l e (rmL 0 0 0) s m args below meth c D A 11 (MW k md th (nI n) Am Wk Mo v cp b9 ml (nI cn) Y) [(7, .int (nI (cn + sb_dg w9))), (8, .int 0), (3, .ref v), (10, .int (-nI w9))] 0 0 Q 86 [] := by
      intro n86
      induction n86 with
      | zero =>
        intro w9 b9 hi hw hd ht hk hf hdl
        omega
      | succ n86 ih86 =>
        intro w9 b9 hi hw hd ht hk hf hdl
        have hg9 := sb_dg_in w9
        have hgu := sb_dg_in u
        refine p_iload C 3 rfl dJ13_getChars_11360_86 ?_
        refine p_bipush (v := (-100)) C (by decide) dJ13_getChars_11360_88 ?_
        refine p_icmp_gt C 143 (by decide) dJ13_getChars_11360_90 (fun c_90 => ?_) (fun c_90 => ?_)
        · have h100 : w9 < 100 := neg_gt (c := 100) hw (by omega) c_90
          refine p_aload_n C rfl 2 rfl dJ13_getChars_11360_143 ?_
          refine p_iinc (lv9 := [(7, .int (nI (cn + sb_dg w9 - 1))), (8, .int 0), (3, .ref v), (10, .int (-nI w9))]) (v := (nI (cn + sb_dg w9 - 1))) C (j := 0) rfl (by exact sb_m1 (by omega)) (by decide) rfl dJ13_getChars_11360_144 ?_
          refine p_iload C 0 rfl dJ13_getChars_11360_147 ?_
          refine p_gets (v := .ref d1) C hz1 qfl_J13_133 (fun _ h9 => h9) dJ13_getChars_11360_149 ?_
          refine p_iload C 3 rfl dJ13_getChars_11360_152 ?_
          refine p_ineg C dJ13_getChars_11360_154 ?_
          refine p_int (y := (nI w9)) Int32.neg_neg ?_
          refine p_tb (v := .int (nI (48 + w9 % 10))) C ht1 (vp_in_nI (by omega) (by omega)) (by show Value.int (nI (48 + ((nI w9)).toNatClampNeg % 10)) = _; rw [show ((nI w9)).toNatClampNeg = w9 from nI_clamp (by omega)]) dJ13_getChars_11360_155 ?_
          refine p_bast2 (y := (nI (48 + w9 % 10))) (w9 := (MW k md th (nI n) Am Wk Mo v cp (upd b9 (cn + sb_dg w9 - 1) (nI (48 + w9 % 10))) ml (nI cn) Y)) C 5 rfl (vp_in_nI (n := (cn + sb_dg w9 - 1)) (N := cp) (by omega) (by omega)) (nar_b (48 + w9 % 10) (by omega)) (by rw [show ((nI (cn + sb_dg w9 - 1))).toNatClampNeg = (cn + sb_dg w9 - 1) from nI_clamp (by omega)]; exact rfl) dJ13_getChars_11360_156 ?_
          refine p_iload C 3 rfl dJ13_getChars_11360_157 ?_
          refine p_bipush (v := (-9)) C (by decide) dJ13_getChars_11360_159 ?_
          refine p_icmp_ge C 178 (by decide) dJ13_getChars_11360_161 (fun c_161 => ?_) (fun c_161 => ?_)
          · have h10 : w9 < 10 := Nat.lt_succ_of_le ((sb_nle (a := 9) (by omega) hw).mp c_161)
            refine p_iload C 1 rfl dJ13_getChars_11360_178 ?_
            refine p_if_eq C 192 (by decide) dJ13_getChars_11360_180 (fun c_180 => ?_) (fun c_180 => absurd rfl c_180)
            refine p_iload C 0 rfl dJ13_getChars_11360_192 ?_
            rw [hQ]
            exact r_i C hrt9 (⟨_, sb_fitU hf (fit_b _ (by omega)), gch_k (a := 0) (y := 0) hk (by omega), gch_1 h10 hd ht, rfl⟩) (by decide) (by decide) dJ13_getChars_11360_194
          · have h10 : 10 ≤ w9 := Nat.lt_of_not_le fun z9 => c_161 ((sb_nle (a := 9) (by omega) hw).mpr z9)
            have e2 := dg_2 h10 h100
            refine p_aload_n C rfl 2 rfl dJ13_getChars_11360_164 ?_
            refine p_iinc (lv9 := [(7, .int (nI (cn + sb_dg w9 - 1 - 1))), (8, .int 0), (3, .ref v), (10, .int (-nI w9))]) (v := (nI (cn + sb_dg w9 - 1 - 1))) C (j := 0) rfl (by exact sb_m1 (by omega)) (by decide) rfl dJ13_getChars_11360_165 ?_
            refine p_iload C 0 rfl dJ13_getChars_11360_168 ?_
            refine p_gets (v := .ref d2) C hz2 qfl_J13_137 (fun _ h9 => h9) dJ13_getChars_11360_170 ?_
            refine p_iload C 3 rfl dJ13_getChars_11360_173 ?_
            refine p_ineg C dJ13_getChars_11360_175 ?_
            refine p_int (y := (nI w9)) Int32.neg_neg ?_
            refine p_tb (v := .int (nI (48 + w9 / 10))) C ht2 (vp_in_nI (by omega) (by omega)) (by show Value.int (nI (48 + ((nI w9)).toNatClampNeg / 10)) = _; rw [show ((nI w9)).toNatClampNeg = w9 from nI_clamp (by omega)]) dJ13_getChars_11360_176 ?_
            refine p_bast2 (y := (nI (48 + w9 / 10))) (w9 := (MW k md th (nI n) Am Wk Mo v cp (upd (upd b9 (cn + sb_dg w9 - 1) (nI (48 + w9 % 10))) (cn + sb_dg w9 - 1 - 1) (nI (48 + w9 / 10))) ml (nI cn) Y)) C 5 rfl (vp_in_nI (n := (cn + sb_dg w9 - 1 - 1)) (N := cp) (by omega) (by omega)) (nar_b (48 + w9 / 10) (by omega)) (by rw [show ((nI (cn + sb_dg w9 - 1 - 1))).toNatClampNeg = (cn + sb_dg w9 - 1 - 1) from nI_clamp (by omega)]; exact rfl) dJ13_getChars_11360_177 ?_
            refine p_iload C 1 rfl dJ13_getChars_11360_178 ?_
            refine p_if_eq C 192 (by decide) dJ13_getChars_11360_180 (fun c_180 => ?_) (fun c_180 => absurd rfl c_180)
            refine p_iload C 0 rfl dJ13_getChars_11360_192 ?_
            rw [hQ]
            exact r_i C hrt9 (⟨_, sb_fitU (sb_fitU hf (fit_b _ (by omega))) (fit_b _ (by omega)), gch_k (a := 0) (y := 0) (gch_k (a := 0) (y := 0) hk (by omega)) (by omega), gch_2 h10 h100 hd ht, rfl⟩) (by decide) (by decide) dJ13_getChars_11360_194
        · have h100 : 100 ≤ w9 := neg_ngt (c := 100) hw (by omega) c_90
          have e100 := sb_dg100 h100 hw
          refine p_iload C 3 rfl dJ13_getChars_11360_93 ?_
          refine p_bipush (v := 100) C (by decide) dJ13_getChars_11360_95 ?_
          refine p_idiv C (by decide) dJ13_getChars_11360_97 ?_
          refine p_int (y := (-nI (w9 / 100))) (sb_ndiv hw) ?_
          refine p_istore (lv9 := [(9, .int (-nI (w9 / 100))), (7, .int (nI (cn + sb_dg w9))), (8, .int 0), (3, .ref v), (10, .int (-nI w9))]) C (by decide) rfl dJ13_getChars_11360_98 ?_
          refine p_iload C 0 rfl dJ13_getChars_11360_100 ?_
          refine p_bipush (v := 100) C (by decide) dJ13_getChars_11360_102 ?_
          refine p_imul C dJ13_getChars_11360_104 ?_
          refine p_iload C 4 rfl dJ13_getChars_11360_105 ?_
          refine p_isub C dJ13_getChars_11360_107 ?_
          refine p_int (y := (nI (w9 % 100))) (sb_nrem hw) ?_
          refine p_istore (lv9 := [(6, .int (nI (w9 % 100))), (9, .int (-nI (w9 / 100))), (7, .int (nI (cn + sb_dg w9))), (8, .int 0), (3, .ref v), (10, .int (-nI w9))]) C (by decide) rfl dJ13_getChars_11360_108 ?_
          refine p_iload C 1 rfl dJ13_getChars_11360_110 ?_
          refine p_istore (lv9 := [(10, .int (-nI (w9 / 100))), (6, .int (nI (w9 % 100))), (9, .int (-nI (w9 / 100))), (7, .int (nI (cn + sb_dg w9))), (8, .int 0), (3, .ref v)]) C (by decide) rfl dJ13_getChars_11360_112 ?_
          refine p_aload_n C rfl 5 rfl dJ13_getChars_11360_114 ?_
          refine p_iinc (lv9 := [(7, .int (nI (cn + sb_dg w9 - 1))), (10, .int (-nI (w9 / 100))), (6, .int (nI (w9 % 100))), (9, .int (-nI (w9 / 100))), (8, .int 0), (3, .ref v)]) (v := (nI (cn + sb_dg w9 - 1))) C (j := 3) rfl (by exact sb_m1 (by omega)) (by decide) rfl dJ13_getChars_11360_115 ?_
          refine p_iload C 0 rfl dJ13_getChars_11360_118 ?_
          refine p_gets (v := .ref d1) C hz1 qfl_J13_133 (fun _ h9 => h9) dJ13_getChars_11360_120 ?_
          refine p_iload C 2 rfl dJ13_getChars_11360_123 ?_
          refine p_tb (v := .int (nI (48 + (w9 % 100) % 10))) C ht1 (vp_in_nI (by omega) (by omega)) (by show Value.int (nI (48 + ((nI (w9 % 100))).toNatClampNeg % 10)) = _; rw [show ((nI (w9 % 100))).toNatClampNeg = (w9 % 100) from nI_clamp (by omega)]) dJ13_getChars_11360_125 ?_
          refine p_bast2 (y := (nI (48 + (w9 % 100) % 10))) (w9 := (MW k md th (nI n) Am Wk Mo v cp (upd b9 (cn + sb_dg w9 - 1) (nI (48 + (w9 % 100) % 10))) ml (nI cn) Y)) C 5 rfl (vp_in_nI (n := (cn + sb_dg w9 - 1)) (N := cp) (by omega) (by omega)) (nar_b (48 + (w9 % 100) % 10) (by omega)) (by rw [show ((nI (cn + sb_dg w9 - 1))).toNatClampNeg = (cn + sb_dg w9 - 1) from nI_clamp (by omega)]; exact rfl) dJ13_getChars_11360_126 ?_
          refine p_aload_n C rfl 5 rfl dJ13_getChars_11360_127 ?_
          refine p_iinc (lv9 := [(7, .int (nI (cn + sb_dg (w9 / 100)))), (10, .int (-nI (w9 / 100))), (6, .int (nI (w9 % 100))), (9, .int (-nI (w9 / 100))), (8, .int 0), (3, .ref v)]) (v := (nI (cn + sb_dg (w9 / 100)))) C (j := 0) rfl (by exact (sb_m1 (by omega)).trans (congrArg nI (by omega))) (by decide) rfl dJ13_getChars_11360_128 ?_
          refine p_iload C 0 rfl dJ13_getChars_11360_131 ?_
          refine p_gets (v := .ref d2) C hz2 qfl_J13_137 (fun _ h9 => h9) dJ13_getChars_11360_133 ?_
          refine p_iload C 2 rfl dJ13_getChars_11360_136 ?_
          refine p_tb (v := .int (nI (48 + (w9 % 100) / 10))) C ht2 (vp_in_nI (by omega) (by omega)) (by show Value.int (nI (48 + ((nI (w9 % 100))).toNatClampNeg / 10)) = _; rw [show ((nI (w9 % 100))).toNatClampNeg = (w9 % 100) from nI_clamp (by omega)]) dJ13_getChars_11360_138 ?_
          refine p_bast2 (y := (nI (48 + (w9 % 100) / 10))) (w9 := (MW k md th (nI n) Am Wk Mo v cp (upd (upd b9 (cn + sb_dg w9 - 1) (nI (48 + (w9 % 100) % 10))) (cn + sb_dg (w9 / 100)) (nI (48 + (w9 % 100) / 10))) ml (nI cn) Y)) C 5 rfl (vp_in_nI (n := (cn + sb_dg (w9 / 100))) (N := cp) (by omega) (by omega)) (nar_b (48 + (w9 % 100) / 10) (by omega)) (by rw [show ((nI (cn + sb_dg (w9 / 100)))).toNatClampNeg = (cn + sb_dg (w9 / 100)) from nI_clamp (by omega)]; exact rfl) dJ13_getChars_11360_139 ?_
          refine p_goto C 86 (by decide) dJ13_getChars_11360_140 ?_
          refine p_lv (lv9 := [(7, .int (nI (cn + sb_dg (w9 / 100)))), (8, .int 0), (3, .ref v), (10, .int (-nI (w9 / 100)))]) [0, 4, 5, 1] rfl ?_
          exact ih86 (w9 / 100) _ (by omega) (by omega) (fun j hj => (hd j (by omega)).trans (dec_100 h100 hw hj)) (gch_t h100 hw hd ht) (gch_k (a := 0) (y := 0) (gch_k (a := 0) (y := 0) hk (by omega)) (by omega)) (sb_fitU (sb_fitU hf (fit_b _ (by omega))) (fit_b _ (by omega))) (by omega)
    exact lp86 (u + 1) u bt (by omega) (by omega) (fun _ _ => rfl) (fun j h1 h2 => absurd h2 (by omega)) (fun _ _ => rfl) hft (Nat.le_refl _)
  · have e29 := ln_min hu c_29
    have hg10 : sb_dg u = 10 := by rw [e29]; decide
    refine p_lvE (lv9 := [(0, .long (-(lN 2147483648))), (8, .int 0), (7, .int (nI (cn + sb_dg u))), (2, .int (nI (cn + sb_dg u))), (3, .ref v)]) (by rw [e29]) ?_
    refine p_lload_n C rfl 0 rfl dJ13_getChars_11360_32 ?_
    refine p_ldc2 (v := 100) C qkl_J13_131 dJ13_getChars_11360_33 ?_
    refine p_ldiv C (by decide) dJ13_getChars_11360_36 ?_
    refine p_st (st9 := [.long (-lN 21474836)]) (congrArg (fun z9 => Value.long z9 :: []) (by decide)) ?_
    refine p_lstore (lv9 := [(4, .long (-lN 21474836)), (0, .long (-(lN 2147483648))), (8, .int 0), (7, .int (nI (cn + sb_dg u))), (2, .int (nI (cn + sb_dg u))), (3, .ref v)]) C (by decide) rfl dJ13_getChars_11360_37 ?_
    refine p_lload C 0 rfl dJ13_getChars_11360_39 ?_
    refine p_ldc2 (v := 100) C qkl_J13_131 dJ13_getChars_11360_41 ?_
    refine p_lmul C dJ13_getChars_11360_44 ?_
    refine p_lload_n C rfl 1 rfl dJ13_getChars_11360_45 ?_
    refine p_lsub C dJ13_getChars_11360_46 ?_
    refine p_l2i C dJ13_getChars_11360_47 ?_
    refine p_int (y := 48) (by decide) ?_
    refine p_istore (lv9 := [(6, .int 48), (4, .long (-lN 21474836)), (0, .long (-(lN 2147483648))), (8, .int 0), (7, .int (nI (cn + sb_dg u))), (2, .int (nI (cn + sb_dg u))), (3, .ref v)]) C (by decide) rfl dJ13_getChars_11360_48 ?_
    refine p_lload C 1 rfl dJ13_getChars_11360_50 ?_
    refine p_lstore_n (lv9 := [(0, .long (-lN 21474836)), (6, .int 48), (4, .long (-lN 21474836)), (8, .int 0), (7, .int (nI (cn + sb_dg u))), (2, .int (nI (cn + sb_dg u))), (3, .ref v)]) C rfl (by decide) rfl dJ13_getChars_11360_52 ?_
    refine p_aload_n C rfl 6 rfl dJ13_getChars_11360_53 ?_
    refine p_iinc (lv9 := [(7, .int (nI (cn + 9))), (0, .long (-lN 21474836)), (6, .int 48), (4, .long (-lN 21474836)), (8, .int 0), (2, .int (nI (cn + sb_dg u))), (3, .ref v)]) (v := (nI (cn + 9))) C (j := 4) rfl (by rw [hg10]; exact @sb_m1 (cn + 10) (Nat.succ_pos _)) (by decide) rfl dJ13_getChars_11360_54 ?_
    refine p_iload C 0 rfl dJ13_getChars_11360_57 ?_
    refine p_gets (v := .ref d1) C hz1 qfl_J13_133 (fun _ h9 => h9) dJ13_getChars_11360_59 ?_
    refine p_iload C 2 rfl dJ13_getChars_11360_62 ?_
    refine p_tb (v := .int 56) C ht1 (vp_in_nI (n := 48) (N := 100) (by omega) (by omega)) (by decide) dJ13_getChars_11360_64 ?_
    refine p_bast2 (y := 56) (w9 := (MW k md th (nI n) Am Wk Mo v cp (upd bt (cn + 9) 56) ml (nI cn) Y)) C 5 rfl (vp_in_nI (n := (cn + 9)) (N := cp) (by omega) (by omega)) (nar_b 56 (by omega)) (by rw [show ((nI (cn + 9))).toNatClampNeg = (cn + 9) from nI_clamp (by omega)]; exact rfl) dJ13_getChars_11360_65 ?_
    refine p_aload_n C rfl 6 rfl dJ13_getChars_11360_66 ?_
    refine p_iinc (lv9 := [(7, .int (nI (cn + 8))), (0, .long (-lN 21474836)), (6, .int 48), (4, .long (-lN 21474836)), (8, .int 0), (2, .int (nI (cn + sb_dg u))), (3, .ref v)]) (v := (nI (cn + 8))) C (j := 0) rfl (by exact @sb_m1 (cn + 9) (Nat.succ_pos _)) (by decide) rfl dJ13_getChars_11360_67 ?_
    refine p_iload C 0 rfl dJ13_getChars_11360_70 ?_
    refine p_gets (v := .ref d2) C hz2 qfl_J13_137 (fun _ h9 => h9) dJ13_getChars_11360_72 ?_
    refine p_iload C 2 rfl dJ13_getChars_11360_75 ?_
    refine p_tb (v := .int 52) C ht2 (vp_in_nI (n := 48) (N := 100) (by omega) (by omega)) (by decide) dJ13_getChars_11360_77 ?_
    refine p_bast2 (y := 52) (w9 := (MW k md th (nI n) Am Wk Mo v cp (upd (upd bt (cn + 9) 56) (cn + 8) 52) ml (nI cn) Y)) C 5 rfl (vp_in_nI (n := (cn + 8)) (N := cp) (by omega) (by omega)) (nar_b 52 (by omega)) (by rw [show ((nI (cn + 8))).toNatClampNeg = (cn + 8) from nI_clamp (by omega)]; exact rfl) dJ13_getChars_11360_78 ?_
    refine p_goto C 24 (by decide) dJ13_getChars_11360_79 ?_
    refine p_lload_n C rfl 1 rfl dJ13_getChars_11360_24 ?_
    refine p_ldc2 (v := (-2147483648)) C qkl_J13_129 dJ13_getChars_11360_25 ?_
    refine p_lcmp C dJ13_getChars_11360_28 ?_
    refine p_if_gt C 82 (by decide) dJ13_getChars_11360_29 (fun c_29 => ?_) (fun c_29 => absurd (by decide) c_29)
    refine p_lload_n C rfl 1 rfl dJ13_getChars_11360_82 ?_
    refine p_l2i C dJ13_getChars_11360_83 ?_
    refine p_int (y := (-nI 21474836)) (by decide) ?_
    refine p_istore (lv9 := [(10, .int (-nI 21474836)), (7, .int (nI (cn + 8))), (0, .long (-lN 21474836)), (6, .int 48), (4, .long (-lN 21474836)), (8, .int 0), (2, .int (nI (cn + sb_dg u))), (3, .ref v)]) C (by decide) rfl dJ13_getChars_11360_84 ?_
    refine p_lvE (lv9 := [(10, .int (-nI 21474836)), (7, .int (nI (cn + sb_dg 21474836))), (0, .long (-lN 21474836)), (6, .int 48), (4, .long (-lN 21474836)), (8, .int 0), (2, .int (nI (cn + sb_dg u))), (3, .ref v)]) (by rw [show sb_dg 21474836 = 8 from by decide]) ?_
    refine p_lv (lv9 := [(7, .int (nI (cn + sb_dg 21474836))), (8, .int 0), (3, .ref v), (10, .int (-nI 21474836))]) [1, 5, 7, 0] rfl ?_
    have lp86 : ∀ (n86 : Nat) (w9 : Nat) (b9 : Nat → Int32), (hi : w9 < n86) → (hw : w9 < 2 ^ 31) → (hd : ∀ j, j < sb_dg w9 → sb_dec u j = sb_dec w9 j) → (ht : ∀ j, sb_dg w9 ≤ j → j < sb_dg u → b9 (cn + j) = nI (sb_dec u j)) → (hk : ∀ j, j < cn → b9 j = bt j) → (hf : sb_Fit b9) → (hdl : sb_dg w9 ≤ sb_dg u) → WP p l e (rmL 0 0 0) s m args below meth c D A 11 (MW k md th (nI n) Am Wk Mo v cp b9 ml (nI cn) Y) [(7, .int (nI (cn + sb_dg w9))), (8, .int 0), (3, .ref v), (10, .int (-nI w9))] 0 0 Q 86 [] := by
      intro n86
      induction n86 with
      | zero =>
        intro w9 b9 hi hw hd ht hk hf hdl
        omega
      | succ n86 ih86 =>
        intro w9 b9 hi hw hd ht hk hf hdl
        clear e29 hg10 c_29
        have hg9 := sb_dg_in w9
        have hgu := sb_dg_in u
        refine p_iload C 3 rfl dJ13_getChars_11360_86 ?_
        refine p_bipush (v := (-100)) C (by decide) dJ13_getChars_11360_88 ?_
        refine p_icmp_gt C 143 (by decide) dJ13_getChars_11360_90 (fun c_90 => ?_) (fun c_90 => ?_)
        · have h100 : w9 < 100 := neg_gt (c := 100) hw (by omega) c_90
          refine p_aload_n C rfl 2 rfl dJ13_getChars_11360_143 ?_
          refine p_iinc (lv9 := [(7, .int (nI (cn + sb_dg w9 - 1))), (8, .int 0), (3, .ref v), (10, .int (-nI w9))]) (v := (nI (cn + sb_dg w9 - 1))) C (j := 0) rfl (by exact sb_m1 (by omega)) (by decide) rfl dJ13_getChars_11360_144 ?_
          refine p_iload C 0 rfl dJ13_getChars_11360_147 ?_
          refine p_gets (v := .ref d1) C hz1 qfl_J13_133 (fun _ h9 => h9) dJ13_getChars_11360_149 ?_
          refine p_iload C 3 rfl dJ13_getChars_11360_152 ?_
          refine p_ineg C dJ13_getChars_11360_154 ?_
          refine p_int (y := (nI w9)) Int32.neg_neg ?_
          refine p_tb (v := .int (nI (48 + w9 % 10))) C ht1 (vp_in_nI (by omega) (by omega)) (by show Value.int (nI (48 + ((nI w9)).toNatClampNeg % 10)) = _; rw [show ((nI w9)).toNatClampNeg = w9 from nI_clamp (by omega)]) dJ13_getChars_11360_155 ?_
          refine p_bast2 (y := (nI (48 + w9 % 10))) (w9 := (MW k md th (nI n) Am Wk Mo v cp (upd b9 (cn + sb_dg w9 - 1) (nI (48 + w9 % 10))) ml (nI cn) Y)) C 5 rfl (vp_in_nI (n := (cn + sb_dg w9 - 1)) (N := cp) (by omega) (by omega)) (nar_b (48 + w9 % 10) (by omega)) (by rw [show ((nI (cn + sb_dg w9 - 1))).toNatClampNeg = (cn + sb_dg w9 - 1) from nI_clamp (by omega)]; exact rfl) dJ13_getChars_11360_156 ?_
          refine p_iload C 3 rfl dJ13_getChars_11360_157 ?_
          refine p_bipush (v := (-9)) C (by decide) dJ13_getChars_11360_159 ?_
          refine p_icmp_ge C 178 (by decide) dJ13_getChars_11360_161 (fun c_161 => ?_) (fun c_161 => ?_)
          · have h10 : w9 < 10 := Nat.lt_succ_of_le ((sb_nle (a := 9) (by omega) hw).mp c_161)
            refine p_iload C 1 rfl dJ13_getChars_11360_178 ?_
            refine p_if_eq C 192 (by decide) dJ13_getChars_11360_180 (fun c_180 => ?_) (fun c_180 => absurd rfl c_180)
            refine p_iload C 0 rfl dJ13_getChars_11360_192 ?_
            rw [hQ]
            exact r_i C hrt9 (⟨_, sb_fitU hf (fit_b _ (by omega)), gch_k (a := 0) (y := 0) hk (by omega), gch_1 h10 hd ht, rfl⟩) (by decide) (by decide) dJ13_getChars_11360_194
          · have h10 : 10 ≤ w9 := Nat.lt_of_not_le fun z9 => c_161 ((sb_nle (a := 9) (by omega) hw).mpr z9)
            have e2 := dg_2 h10 h100
            refine p_aload_n C rfl 2 rfl dJ13_getChars_11360_164 ?_
            refine p_iinc (lv9 := [(7, .int (nI (cn + sb_dg w9 - 1 - 1))), (8, .int 0), (3, .ref v), (10, .int (-nI w9))]) (v := (nI (cn + sb_dg w9 - 1 - 1))) C (j := 0) rfl (by exact sb_m1 (by omega)) (by decide) rfl dJ13_getChars_11360_165 ?_
            refine p_iload C 0 rfl dJ13_getChars_11360_168 ?_
            refine p_gets (v := .ref d2) C hz2 qfl_J13_137 (fun _ h9 => h9) dJ13_getChars_11360_170 ?_
            refine p_iload C 3 rfl dJ13_getChars_11360_173 ?_
            refine p_ineg C dJ13_getChars_11360_175 ?_
            refine p_int (y := (nI w9)) Int32.neg_neg ?_
            refine p_tb (v := .int (nI (48 + w9 / 10))) C ht2 (vp_in_nI (by omega) (by omega)) (by show Value.int (nI (48 + ((nI w9)).toNatClampNeg / 10)) = _; rw [show ((nI w9)).toNatClampNeg = w9 from nI_clamp (by omega)]) dJ13_getChars_11360_176 ?_
            refine p_bast2 (y := (nI (48 + w9 / 10))) (w9 := (MW k md th (nI n) Am Wk Mo v cp (upd (upd b9 (cn + sb_dg w9 - 1) (nI (48 + w9 % 10))) (cn + sb_dg w9 - 1 - 1) (nI (48 + w9 / 10))) ml (nI cn) Y)) C 5 rfl (vp_in_nI (n := (cn + sb_dg w9 - 1 - 1)) (N := cp) (by omega) (by omega)) (nar_b (48 + w9 / 10) (by omega)) (by rw [show ((nI (cn + sb_dg w9 - 1 - 1))).toNatClampNeg = (cn + sb_dg w9 - 1 - 1) from nI_clamp (by omega)]; exact rfl) dJ13_getChars_11360_177 ?_
            refine p_iload C 1 rfl dJ13_getChars_11360_178 ?_
            refine p_if_eq C 192 (by decide) dJ13_getChars_11360_180 (fun c_180 => ?_) (fun c_180 => absurd rfl c_180)
            refine p_iload C 0 rfl dJ13_getChars_11360_192 ?_
            rw [hQ]
            exact r_i C hrt9 (⟨_, sb_fitU (sb_fitU hf (fit_b _ (by omega))) (fit_b _ (by omega)), gch_k (a := 0) (y := 0) (gch_k (a := 0) (y := 0) hk (by omega)) (by omega), gch_2 h10 h100 hd ht, rfl⟩) (by decide) (by decide) dJ13_getChars_11360_194
        · have h100 : 100 ≤ w9 := neg_ngt (c := 100) hw (by omega) c_90
          have e100 := sb_dg100 h100 hw
          refine p_iload C 3 rfl dJ13_getChars_11360_93 ?_
          refine p_bipush (v := 100) C (by decide) dJ13_getChars_11360_95 ?_
          refine p_idiv C (by decide) dJ13_getChars_11360_97 ?_
          refine p_int (y := (-nI (w9 / 100))) (sb_ndiv hw) ?_
          refine p_istore (lv9 := [(9, .int (-nI (w9 / 100))), (7, .int (nI (cn + sb_dg w9))), (8, .int 0), (3, .ref v), (10, .int (-nI w9))]) C (by decide) rfl dJ13_getChars_11360_98 ?_
          refine p_iload C 0 rfl dJ13_getChars_11360_100 ?_
          refine p_bipush (v := 100) C (by decide) dJ13_getChars_11360_102 ?_
          refine p_imul C dJ13_getChars_11360_104 ?_
          refine p_iload C 4 rfl dJ13_getChars_11360_105 ?_
          refine p_isub C dJ13_getChars_11360_107 ?_
          refine p_int (y := (nI (w9 % 100))) (sb_nrem hw) ?_
          refine p_istore (lv9 := [(6, .int (nI (w9 % 100))), (9, .int (-nI (w9 / 100))), (7, .int (nI (cn + sb_dg w9))), (8, .int 0), (3, .ref v), (10, .int (-nI w9))]) C (by decide) rfl dJ13_getChars_11360_108 ?_
          refine p_iload C 1 rfl dJ13_getChars_11360_110 ?_
          refine p_istore (lv9 := [(10, .int (-nI (w9 / 100))), (6, .int (nI (w9 % 100))), (9, .int (-nI (w9 / 100))), (7, .int (nI (cn + sb_dg w9))), (8, .int 0), (3, .ref v)]) C (by decide) rfl dJ13_getChars_11360_112 ?_
          refine p_aload_n C rfl 5 rfl dJ13_getChars_11360_114 ?_
          refine p_iinc (lv9 := [(7, .int (nI (cn + sb_dg w9 - 1))), (10, .int (-nI (w9 / 100))), (6, .int (nI (w9 % 100))), (9, .int (-nI (w9 / 100))), (8, .int 0), (3, .ref v)]) (v := (nI (cn + sb_dg w9 - 1))) C (j := 3) rfl (by exact sb_m1 (by omega)) (by decide) rfl dJ13_getChars_11360_115 ?_
          refine p_iload C 0 rfl dJ13_getChars_11360_118 ?_
          refine p_gets (v := .ref d1) C hz1 qfl_J13_133 (fun _ h9 => h9) dJ13_getChars_11360_120 ?_
          refine p_iload C 2 rfl dJ13_getChars_11360_123 ?_
          refine p_tb (v := .int (nI (48 + (w9 % 100) % 10))) C ht1 (vp_in_nI (by omega) (by omega)) (by show Value.int (nI (48 + ((nI (w9 % 100))).toNatClampNeg % 10)) = _; rw [show ((nI (w9 % 100))).toNatClampNeg = (w9 % 100) from nI_clamp (by omega)]) dJ13_getChars_11360_125 ?_
          refine p_bast2 (y := (nI (48 + (w9 % 100) % 10))) (w9 := (MW k md th (nI n) Am Wk Mo v cp (upd b9 (cn + sb_dg w9 - 1) (nI (48 + (w9 % 100) % 10))) ml (nI cn) Y)) C 5 rfl (vp_in_nI (n := (cn + sb_dg w9 - 1)) (N := cp) (by omega) (by omega)) (nar_b (48 + (w9 % 100) % 10) (by omega)) (by rw [show ((nI (cn + sb_dg w9 - 1))).toNatClampNeg = (cn + sb_dg w9 - 1) from nI_clamp (by omega)]; exact rfl) dJ13_getChars_11360_126 ?_
          refine p_aload_n C rfl 5 rfl dJ13_getChars_11360_127 ?_
          refine p_iinc (lv9 := [(7, .int (nI (cn + sb_dg (w9 / 100)))), (10, .int (-nI (w9 / 100))), (6, .int (nI (w9 % 100))), (9, .int (-nI (w9 / 100))), (8, .int 0), (3, .ref v)]) (v := (nI (cn + sb_dg (w9 / 100)))) C (j := 0) rfl (by exact (sb_m1 (by omega)).trans (congrArg nI (by omega))) (by decide) rfl dJ13_getChars_11360_128 ?_
          refine p_iload C 0 rfl dJ13_getChars_11360_131 ?_
          refine p_gets (v := .ref d2) C hz2 qfl_J13_137 (fun _ h9 => h9) dJ13_getChars_11360_133 ?_
          refine p_iload C 2 rfl dJ13_getChars_11360_136 ?_
          refine p_tb (v := .int (nI (48 + (w9 % 100) / 10))) C ht2 (vp_in_nI (by omega) (by omega)) (by show Value.int (nI (48 + ((nI (w9 % 100))).toNatClampNeg / 10)) = _; rw [show ((nI (w9 % 100))).toNatClampNeg = (w9 % 100) from nI_clamp (by omega)]) dJ13_getChars_11360_138 ?_
          refine p_bast2 (y := (nI (48 + (w9 % 100) / 10))) (w9 := (MW k md th (nI n) Am Wk Mo v cp (upd (upd b9 (cn + sb_dg w9 - 1) (nI (48 + (w9 % 100) % 10))) (cn + sb_dg (w9 / 100)) (nI (48 + (w9 % 100) / 10))) ml (nI cn) Y)) C 5 rfl (vp_in_nI (n := (cn + sb_dg (w9 / 100))) (N := cp) (by omega) (by omega)) (nar_b (48 + (w9 % 100) / 10) (by omega)) (by rw [show ((nI (cn + sb_dg (w9 / 100)))).toNatClampNeg = (cn + sb_dg (w9 / 100)) from nI_clamp (by omega)]; exact rfl) dJ13_getChars_11360_139 ?_
          refine p_goto C 86 (by decide) dJ13_getChars_11360_140 ?_
          refine p_lv (lv9 := [(7, .int (nI (cn + sb_dg (w9 / 100)))), (8, .int 0), (3, .ref v), (10, .int (-nI (w9 / 100)))]) [0, 4, 5, 1] rfl ?_
          exact ih86 (w9 / 100) _ (by omega) (by omega) (fun j hj => (hd j (by omega)).trans (dec_100 h100 hw hj)) (gch_t h100 hw hd ht) (gch_k (a := 0) (y := 0) (gch_k (a := 0) (y := 0) hk (by omega)) (by omega)) (sb_fitU (sb_fitU hf (fit_b _ (by omega))) (fit_b _ (by omega))) (by omega)
    exact lp86 21474837 21474836 _ (by decide) (by decide) (fun j hj => by rw [e29]; exact dec_mn j hj) (fun j h1 h2 => by rw [e29] at h2 ⊢; exact dec_mt j h1 h2) (gch_k (a := 0) (y := 0) (gch_k (a := 0) (y := 0) (fun _ _ => rfl) (by omega)) (by omega)) (sb_fitU (sb_fitU hft (fit_b 56 (by omega))) (fit_b 52 (by omega))) (by rw [hg10]; decide)
set_option maxHeartbeats 4000000 in
set_option maxRecDepth 100000 in
/-- J5_append_66267 -/
theorem m_J5_appJ_a (l : Launch) (D : va_G) (k : Nat → ClassId) {md : Nat → Nat} {th : Int32} {n : Nat} {Am Wk Mo : Nat → Int32} {v cp cn : Nat} {bt : Nat → Int32} {ml : Int32} {Y : va_W} {u : Nat} (hu : u ≤ 2147483648) (h1 : cn + sb_dg u ≤ cp) (h3 : cp < 65536 / 4) (hft : sb_Fit bt) : CtR l D k yJ5_append_66267 (wU yJ5_append_66267 cJ5_append_66267 5 (some (.object "java/lang/AbstractStringBuilder"))) (rmL 3 0 0) [.ref (md 4), .long (lN u)] (MW k md th (nI n) Am Wk Mo v cp bt ml (nI cn) Y) (fun a w' => a = md 4 ∧ ∃ v' bt', sb_Fit bt' ∧ (∀ j, j < cn → bt' j = bt j) ∧ (∀ j, j < sb_dg u → bt' (cn + j) = nI (sb_dec u j)) ∧ w' = (MW k md th (nI n) Am Wk Mo v' cp bt' ml (nI (cn + sb_dg u)) Y)) := by
  refine openR (own := RJ5) rfl (by decide) (Nat.le_of_ble_eq_true rfl) rfl ?_
  intro p e s m args below meth c A C hrt9 hnm
  obtain ⟨Q, hQ⟩ : ∃ Q, Q = (MQ below (va_Qr (fun _ => True) (fun w' a t => (fun a w' => a = md 4 ∧ ∃ v' bt', sb_Fit bt' ∧ (∀ j, j < cn → bt' j = bt j) ∧ (∀ j, j < sb_dg u → bt' (cn + j) = nI (sb_dec u j)) ∧ w' = (MW k md th (nI n) Am Wk Mo v' cp bt' ml (nI (cn + sb_dg u)) Y)) a w' ∧ cBA D A w' t) A) args s 0 0 A) := ⟨_, rfl⟩
  show WP p l e (rmL 3 0 0) s m args below meth c D A 5 (MW k md th (nI n) Am Wk Mo v cp bt ml (nI cn) Y) [(0, .ref (md 4)), (1, .long (lN u))] 0 0 (MQ below (va_Qr (fun _ => True) (fun w' a t => (fun a w' => a = md 4 ∧ ∃ v' bt', sb_Fit bt' ∧ (∀ j, j < cn → bt' j = bt j) ∧ (∀ j, j < sb_dg u → bt' (cn + j) = nI (sb_dec u j)) ∧ w' = (MW k md th (nI n) Am Wk Mo v' cp bt' ml (nI (cn + sb_dg u)) Y)) a w' ∧ cBA D A w' t) A) args s 0 0 A) 0 []
  rw [← hQ]
  have hgu := sb_dg_in u
  refine p_aload_n C rfl 0 rfl dJ5_append_66267_0 ?_
  refine p_get (v := .int (nI cn)) (T := TJ4) C 4 rfl rfl 3 (by decide) inJ4 qfl_J5_79 (fun _ h9 => h9) rfl dJ5_append_66267_1 ?_
  refine p_istore_n (lv9 := [(3, .int (nI cn)), (0, .ref (md 4)), (1, .long (lN u))]) C rfl (by decide) rfl dJ5_append_66267_4 ?_
  refine p_iload_n C rfl 0 rfl dJ5_append_66267_5 ?_
  refine p_lload_n C rfl 2 rfl dJ5_append_66267_6 ?_
  refine c_Si (As := [.long (lN u)]) (rest := [.int (nI cn)]) C (m_J13_stringSize l D k (u := u) (by omega) trivial) qml_J5_254 qst_J13_stringSize_95d88 qin_J13 qco_J13_stringSize_95d88 nd_J13_stringSize_95d88 ⟨Nat.le_of_ble_eq_true rfl, Nat.le_of_ble_eq_true rfl⟩ (Nat.le_of_ble_eq_true rfl) ⟨Nat.le_of_ble_eq_true rfl, Nat.le_of_ble_eq_true rfl⟩ rfl dJ5_append_66267_7 (fun r9 w9 h9 => ?_)
  obtain ⟨e9, rfl⟩ := h9
  refine p_int e9 ?_
  refine p_iadd C dJ5_append_66267_10 ?_
  refine p_int (y := (nI (cn + sb_dg u))) (nI_add _ _) ?_
  refine p_istore (lv9 := [(4, .int (nI (cn + sb_dg u))), (3, .int (nI cn)), (0, .ref (md 4)), (1, .long (lN u))]) C (by decide) rfl dJ5_append_66267_11 ?_
  refine p_aload_n C rfl 2 rfl dJ5_append_66267_13 ?_
  refine p_iload C 0 rfl dJ5_append_66267_14 ?_
  refine c_Uv (As := [.int (nI (cn + sb_dg u))]) (rest := []) C (m_J5_ens_a l D k (q := (cn + sb_dg u)) (by omega) (by omega)) 4 rfl rfl qml_J5_100 qsm_J5_J5_ensureCapacityInternal_I_V qse_J4_J5_ensureCapacityInternal_d00df qim_J5_ensureCapacityInternal_d00df qin_J5 qco_J5_ensureCapacityInternal_d00df nd_J5_ensureCapacityInternal_d00df ⟨Nat.le_of_ble_eq_true rfl, Nat.le_of_ble_eq_true rfl⟩ (Nat.le_of_ble_eq_true rfl) ⟨Nat.le_of_ble_eq_true rfl, Nat.le_of_ble_eq_true rfl⟩ rfl dJ5_append_66267_16 (fun w9 h9 => ?_)
  obtain rfl := h9
  refine p_aload_n C rfl 2 rfl dJ5_append_66267_19 ?_
  refine c_Ui (As := []) (rest := []) C (m_J5_isLatin1 l D k ) 4 rfl rfl qml_J5_83 qsm_J5_J5_isLatin1__Z qse_J4_J5_isLatin1_aae02 qim_J5_isLatin1_aae02 qin_J5 qco_J5_isLatin1_aae02 nd_J5_isLatin1_aae02 ⟨Nat.le_of_ble_eq_true rfl, Nat.le_of_ble_eq_true rfl⟩ (Nat.le_of_ble_eq_true rfl) ⟨Nat.le_of_ble_eq_true rfl, Nat.le_of_ble_eq_true rfl⟩ rfl dJ5_append_66267_20 (fun r9 w9 h9 => ?_)
  obtain ⟨e9, rfl⟩ := h9
  refine p_int e9 ?_
  refine p_if_eq C 40 (by decide) dJ5_append_66267_23 (fun c_23 => absurd c_23 (by decide)) (fun c_23 => ?_)
  refine p_lload_n C rfl 3 rfl dJ5_append_66267_26 ?_
  refine p_iload C 0 rfl dJ5_append_66267_27 ?_
  refine p_aload_n C rfl 2 rfl dJ5_append_66267_29 ?_
  refine p_get (v := .ref v) (T := TJ4) C 4 rfl rfl 0 (by decide) inJ4 qfl_J5_15 (fun _ h9 => h9) rfl dJ5_append_66267_30 ?_
  refine c_Si (As := [.long (lN u), .int (nI (cn + sb_dg u)), .ref v]) (rest := []) C (m_J13_getChars l D k (u := u) hu (by omega) (by omega) hft) qml_J5_259 qst_J13_getChars_11360 qin_J13 qco_J13_getChars_11360 nd_J13_getChars_11360 ⟨Nat.le_of_ble_eq_true rfl, Nat.le_of_ble_eq_true rfl⟩ (Nat.le_of_ble_eq_true rfl) ⟨Nat.le_of_ble_eq_true rfl, Nat.le_of_ble_eq_true rfl⟩ rfl dJ5_append_66267_33 (fun r9 w9 h9 => ?_)
  obtain ⟨bt8, hft8, hk8, hd8, rfl⟩ := h9
  refine p_pop C rfl dJ5_append_66267_36 ?_
  refine p_goto C 52 (by decide) dJ5_append_66267_37 ?_
  refine p_aload_n C rfl 2 rfl dJ5_append_66267_52 ?_
  refine p_iload C 0 rfl dJ5_append_66267_53 ?_
  refine p_put (w9 := (MW k md th (nI n) Am Wk Mo v cp bt8 ml (nI (cn + sb_dg u)) Y)) (v := .int (nI (cn + sb_dg u))) (T := TJ4) C tyJ4 tyJ4_ok nmJ4 4 rfl rfl 3 (by decide) inJ4 qfl_J5_79 (fun _ h9 => h9) rfl rfl rfl (Nat.le_of_ble_eq_true rfl) rfl dJ5_append_66267_55 ?_
  refine p_aload_n C rfl 2 rfl dJ5_append_66267_58 ?_
  rw [hQ]
  exact r_r C hrt9 (Or.inl ⟨_, rfl⟩) (⟨rfl, _, _, hft8, hk8, hd8, rfl⟩) (by decide) (by decide) dJ5_append_66267_59
set_option maxHeartbeats 4000000 in
set_option maxRecDepth 100000 in
/-- J5_append_66267 -/
theorem m_J5_appJ_b (l : Launch) (D : va_G) (k : Nat → ClassId) {md : Nat → Nat} {th : Int32} {n : Nat} {Am Wk Mo : Nat → Int32} {v cp cn : Nat} {bt : Nat → Int32} {ml : Int32} {Y : va_W} {u : Nat} (hu : u ≤ 2147483648) (h1 : cp < cn + sb_dg u) (hm : cn ≤ cp) (h16 : 16 ≤ cp) (h3 : cp < 65536 / 4) (hft : sb_Fit bt) : CtR l D k yJ5_append_66267 (wU yJ5_append_66267 cJ5_append_66267 5 (some (.object "java/lang/AbstractStringBuilder"))) (rmL 3 1 (2 * cp + 2)) [.ref (md 4), .long (lN u)] (MW k md th (nI n) Am Wk Mo v cp bt ml (nI cn) Y) (fun a w' => a = md 4 ∧ ∃ v' bt', sb_Fit bt' ∧ (∀ j, j < cn → bt' j = bt j) ∧ (∀ j, j < sb_dg u → bt' (cn + j) = nI (sb_dec u j)) ∧ w' = (MW k md th (nI n) Am Wk Mo v' (2 * cp + 2) bt' ml (nI (cn + sb_dg u)) Y)) := by
  refine openR (own := RJ5) rfl (by decide) (Nat.le_of_ble_eq_true rfl) rfl ?_
  intro p e s m args below meth c A C hrt9 hnm
  obtain ⟨Q, hQ⟩ : ∃ Q, Q = (MQ below (va_Qr (fun _ => True) (fun w' a t => (fun a w' => a = md 4 ∧ ∃ v' bt', sb_Fit bt' ∧ (∀ j, j < cn → bt' j = bt j) ∧ (∀ j, j < sb_dg u → bt' (cn + j) = nI (sb_dec u j)) ∧ w' = (MW k md th (nI n) Am Wk Mo v' (2 * cp + 2) bt' ml (nI (cn + sb_dg u)) Y)) a w' ∧ cBA D A w' t) A) args s 1 (2 * cp + 2) A) := ⟨_, rfl⟩
  show WP p l e (rmL 3 1 (2 * cp + 2)) s m args below meth c D A 5 (MW k md th (nI n) Am Wk Mo v cp bt ml (nI cn) Y) [(0, .ref (md 4)), (1, .long (lN u))] 0 0 (MQ below (va_Qr (fun _ => True) (fun w' a t => (fun a w' => a = md 4 ∧ ∃ v' bt', sb_Fit bt' ∧ (∀ j, j < cn → bt' j = bt j) ∧ (∀ j, j < sb_dg u → bt' (cn + j) = nI (sb_dec u j)) ∧ w' = (MW k md th (nI n) Am Wk Mo v' (2 * cp + 2) bt' ml (nI (cn + sb_dg u)) Y)) a w' ∧ cBA D A w' t) A) args s 1 (2 * cp + 2) A) 0 []
  rw [← hQ]
  have hgu := sb_dg_in u
  refine p_aload_n C rfl 0 rfl dJ5_append_66267_0 ?_
  refine p_get (v := .int (nI cn)) (T := TJ4) C 4 rfl rfl 3 (by decide) inJ4 qfl_J5_79 (fun _ h9 => h9) rfl dJ5_append_66267_1 ?_
  refine p_istore_n (lv9 := [(3, .int (nI cn)), (0, .ref (md 4)), (1, .long (lN u))]) C rfl (by decide) rfl dJ5_append_66267_4 ?_
  refine p_iload_n C rfl 0 rfl dJ5_append_66267_5 ?_
  refine p_lload_n C rfl 2 rfl dJ5_append_66267_6 ?_
  refine c_Si (As := [.long (lN u)]) (rest := [.int (nI cn)]) C (m_J13_stringSize l D k (u := u) (by omega) trivial) qml_J5_254 qst_J13_stringSize_95d88 qin_J13 qco_J13_stringSize_95d88 nd_J13_stringSize_95d88 ⟨Nat.le_of_ble_eq_true rfl, Nat.le_of_ble_eq_true rfl⟩ (Nat.le_of_ble_eq_true rfl) ⟨Nat.le_of_ble_eq_true rfl, by (try simp only [rmL_c, rmL_s]); omega⟩ rfl dJ5_append_66267_7 (fun r9 w9 h9 => ?_)
  obtain ⟨e9, rfl⟩ := h9
  refine p_int e9 ?_
  refine p_iadd C dJ5_append_66267_10 ?_
  refine p_int (y := (nI (cn + sb_dg u))) (nI_add _ _) ?_
  refine p_istore (lv9 := [(4, .int (nI (cn + sb_dg u))), (3, .int (nI cn)), (0, .ref (md 4)), (1, .long (lN u))]) C (by decide) rfl dJ5_append_66267_11 ?_
  refine p_aload_n C rfl 2 rfl dJ5_append_66267_13 ?_
  refine p_iload C 0 rfl dJ5_append_66267_14 ?_
  refine c_Uv (As := [.int (nI (cn + sb_dg u))]) (rest := []) C (m_J5_ens_b l D k (q := (cn + sb_dg u)) (by omega) (by omega) (by omega) hft) 4 rfl rfl qml_J5_100 qsm_J5_J5_ensureCapacityInternal_I_V qse_J4_J5_ensureCapacityInternal_d00df qim_J5_ensureCapacityInternal_d00df qin_J5 qco_J5_ensureCapacityInternal_d00df nd_J5_ensureCapacityInternal_d00df ⟨Nat.le_of_ble_eq_true rfl, Nat.le_of_ble_eq_true rfl⟩ (Nat.le_of_ble_eq_true rfl) ⟨Nat.le_of_ble_eq_true rfl, by (try simp only [rmL_c, rmL_s]); omega⟩ rfl dJ5_append_66267_16 (fun w9 h9 => ?_)
  obtain ⟨v9, bt9, hft9, hk9, rfl⟩ := h9
  refine p_aload_n C rfl 2 rfl dJ5_append_66267_19 ?_
  refine c_Ui (As := []) (rest := []) C (m_J5_isLatin1 l D k ) 4 rfl rfl qml_J5_83 qsm_J5_J5_isLatin1__Z qse_J4_J5_isLatin1_aae02 qim_J5_isLatin1_aae02 qin_J5 qco_J5_isLatin1_aae02 nd_J5_isLatin1_aae02 ⟨Nat.le_of_ble_eq_true rfl, Nat.le_of_ble_eq_true rfl⟩ (Nat.le_of_ble_eq_true rfl) ⟨Nat.le_of_ble_eq_true rfl, by (try simp only [rmL_c, rmL_s]); omega⟩ rfl dJ5_append_66267_20 (fun r9 w9 h9 => ?_)
  obtain ⟨e9, rfl⟩ := h9
  refine p_int e9 ?_
  refine p_if_eq C 40 (by decide) dJ5_append_66267_23 (fun c_23 => absurd c_23 (by decide)) (fun c_23 => ?_)
  refine p_lload_n C rfl 3 rfl dJ5_append_66267_26 ?_
  refine p_iload C 0 rfl dJ5_append_66267_27 ?_
  refine p_aload_n C rfl 2 rfl dJ5_append_66267_29 ?_
  refine p_get (v := .ref v9) (T := TJ4) C 4 rfl rfl 0 (by decide) inJ4 qfl_J5_15 (fun _ h9 => h9) rfl dJ5_append_66267_30 ?_
  refine c_Si (As := [.long (lN u), .int (nI (cn + sb_dg u)), .ref v9]) (rest := []) C (m_J13_getChars l D k (u := u) hu (by omega) (by omega) hft9) qml_J5_259 qst_J13_getChars_11360 qin_J13 qco_J13_getChars_11360 nd_J13_getChars_11360 ⟨Nat.le_of_ble_eq_true rfl, Nat.le_of_ble_eq_true rfl⟩ (Nat.le_of_ble_eq_true rfl) ⟨Nat.le_of_ble_eq_true rfl, by (try simp only [rmL_c, rmL_s]); omega⟩ rfl dJ5_append_66267_33 (fun r9 w9 h9 => ?_)
  obtain ⟨bt8, hft8, hk8, hd8, rfl⟩ := h9
  refine p_pop C rfl dJ5_append_66267_36 ?_
  refine p_goto C 52 (by decide) dJ5_append_66267_37 ?_
  refine p_aload_n C rfl 2 rfl dJ5_append_66267_52 ?_
  refine p_iload C 0 rfl dJ5_append_66267_53 ?_
  refine p_put (w9 := (MW k md th (nI n) Am Wk Mo v9 (2 * cp + 2) bt8 ml (nI (cn + sb_dg u)) Y)) (v := .int (nI (cn + sb_dg u))) (T := TJ4) C tyJ4 tyJ4_ok nmJ4 4 rfl rfl 3 (by decide) inJ4 qfl_J5_79 (fun _ h9 => h9) rfl rfl rfl (Nat.le_of_ble_eq_true rfl) rfl dJ5_append_66267_55 ?_
  refine p_aload_n C rfl 2 rfl dJ5_append_66267_58 ?_
  rw [hQ]
  exact r_r C hrt9 (Or.inl ⟨_, rfl⟩) (⟨rfl, _, _, hft8, fun j hj => (hk8 j hj).trans (hk9 j (by omega)), hd8, rfl⟩) (by (try simp only [rmL_c, rmL_s]); omega) (by (try simp only [rmL_c, rmL_s]); omega) dJ5_append_66267_59
theorem m_J5_appJ (l : Launch) (D : va_G) (k : Nat → ClassId) {md : Nat → Nat} {th : Int32} {n : Nat} {Am Wk Mo : Nat → Int32} {v cp cn : Nat} {bt : Nat → Int32} {ml : Int32} {Y : va_W} {u : Nat} (hu : u ≤ 2147483648) (hm : cn ≤ cp) (h16 : 16 ≤ cp) (h3 : cp < 65536 / 4) (hft : sb_Fit bt) : CtR l D k yJ5_append_66267 (wU yJ5_append_66267 cJ5_append_66267 5 (some (.object "java/lang/AbstractStringBuilder"))) (rmL 3 (gwC (cn + sb_dg u) cp) (gwS (cn + sb_dg u) cp)) [.ref (md 4), .long (lN u)] (MW k md th (nI n) Am Wk Mo v cp bt ml (nI cn) Y) (fun a w' => a = md 4 ∧ ∃ v' bt', sb_Fit bt' ∧ (∀ j, j < cn → bt' j = bt j) ∧ (∀ j, j < sb_dg u → bt' (cn + j) = nI (sb_dec u j)) ∧ w' = (MW k md th (nI n) Am Wk Mo v' (cwA (cn + sb_dg u) cp) bt' ml (nI (cn + sb_dg u)) Y)) := by
  by_cases h1 : (cn + sb_dg u) ≤ cp
  · have h := m_J5_appJ_a l D k (md := md) (th := th) (n := n) (Am := Am) (Wk := Wk) (Mo := Mo) (v := v) (cp := cp) (cn := cn) (bt := bt) (ml := ml) (Y := Y) hu h1 h3 hft
    rw [gwC_a h1, gwS_a h1, cwA_a h1]
    exact h
  · have h2 : cp < (cn + sb_dg u) := by omega
    have h := m_J5_appJ_b l D k (md := md) (th := th) (n := n) (Am := Am) (Wk := Wk) (Mo := Mo) (v := v) (cp := cp) (cn := cn) (bt := bt) (ml := ml) (Y := Y) hu h2 hm h16 h3 hft
    rw [gwC_b h2, gwS_b h2, cwA_b h2]
    exact h
set_option maxHeartbeats 4000000 in
set_option maxRecDepth 100000 in
/-- J4_append_f7089 -/
theorem m_J4_appJ (l : Launch) (D : va_G) (k : Nat → ClassId) {md : Nat → Nat} {th : Int32} {n : Nat} {Am Wk Mo : Nat → Int32} {v cp cn : Nat} {bt : Nat → Int32} {ml : Int32} {Y : va_W} {u : Nat} (hu : u ≤ 2147483648) (hm : cn ≤ cp) (h16 : 16 ≤ cp) (h3 : cp < 65536 / 4) (hft : sb_Fit bt) : CtR l D k yJ4_append_f7089 (wU yJ4_append_f7089 cJ4_append_f7089 3 (some (.object "java/lang/StringBuilder"))) (rmL 4 (gwC (cn + sb_dg u) cp) (gwS (cn + sb_dg u) cp)) [.ref (md 4), .long (lN u)] (MW k md th (nI n) Am Wk Mo v cp bt ml (nI cn) Y) (fun a w' => a = md 4 ∧ ∃ v' bt', sb_Fit bt' ∧ (∀ j, j < cn → bt' j = bt j) ∧ (∀ j, j < sb_dg u → bt' (cn + j) = nI (sb_dec u j)) ∧ w' = (MW k md th (nI n) Am Wk Mo v' (cwA (cn + sb_dg u) cp) bt' ml (nI (cn + sb_dg u)) Y)) := by
  refine openR (own := RJ4) rfl (by decide) (Nat.le_of_ble_eq_true rfl) rfl ?_
  intro p e s m args below meth c A C hrt9 hnm
  obtain ⟨Q, hQ⟩ : ∃ Q, Q = (MQ below (va_Qr (fun _ => True) (fun w' a t => (fun a w' => a = md 4 ∧ ∃ v' bt', sb_Fit bt' ∧ (∀ j, j < cn → bt' j = bt j) ∧ (∀ j, j < sb_dg u → bt' (cn + j) = nI (sb_dec u j)) ∧ w' = (MW k md th (nI n) Am Wk Mo v' (cwA (cn + sb_dg u) cp) bt' ml (nI (cn + sb_dg u)) Y)) a w' ∧ cBA D A w' t) A) args s (gwC (cn + sb_dg u) cp) (gwS (cn + sb_dg u) cp) A) := ⟨_, rfl⟩
  show WP p l e (rmL 4 (gwC (cn + sb_dg u) cp) (gwS (cn + sb_dg u) cp)) s m args below meth c D A 3 (MW k md th (nI n) Am Wk Mo v cp bt ml (nI cn) Y) [(0, .ref (md 4)), (1, .long (lN u))] 0 0 (MQ below (va_Qr (fun _ => True) (fun w' a t => (fun a w' => a = md 4 ∧ ∃ v' bt', sb_Fit bt' ∧ (∀ j, j < cn → bt' j = bt j) ∧ (∀ j, j < sb_dg u → bt' (cn + j) = nI (sb_dec u j)) ∧ w' = (MW k md th (nI n) Am Wk Mo v' (cwA (cn + sb_dg u) cp) bt' ml (nI (cn + sb_dg u)) Y)) a w' ∧ cBA D A w' t) A) args s (gwC (cn + sb_dg u) cp) (gwS (cn + sb_dg u) cp) A) 0 []
  rw [← hQ]
  refine p_aload_n C rfl 0 rfl dJ4_append_f7089_0 ?_
  refine p_lload_n C rfl 1 rfl dJ4_append_f7089_1 ?_
  refine c_SUr (As := [.long (lN u)]) (rest := []) C (m_J5_appJ l D k hu hm h16 h3 hft) 4 rfl rfl qml_J4_56 qsm_J5_J5_append_J_Ljava_lang_AbstractStringBuilder_ qsu_J4_J5 qim_J5_append_66267 qin_J5 qco_J5_append_66267 (by decide) nd_J5_append_66267 ⟨Nat.le_of_ble_eq_true rfl, Nat.le_of_ble_eq_true rfl⟩ (Nat.le_of_ble_eq_true rfl) ⟨by (try simp only [rmL_c, rmL_s]); omega, by (try simp only [rmL_c, rmL_s]); omega⟩ rfl dJ4_append_f7089_2 (fun r9 w9 h9 => ?_)
  obtain ⟨rfl, h8⟩ := h9
  refine p_pop C rfl dJ4_append_f7089_5 ?_
  refine p_aload_n C rfl 0 rfl dJ4_append_f7089_6 ?_
  rw [hQ]
  exact r_r C hrt9 (Or.inl ⟨_, rfl⟩) (⟨rfl, h8⟩) (by (try simp only [rmL_c, rmL_s]); omega) (by (try simp only [rmL_c, rmL_s]); omega) dJ4_append_f7089_7
set_option maxHeartbeats 4000000 in
set_option maxRecDepth 100000 in
/-- Integer.stringSize, one digit -/
theorem m_J6_stringSize (l : Launch) (D : va_G) (k : Nat → ClassId) {w : va_W} {x9 : Nat} (hx : x9 < 10) : CtI l D k yJ6_stringSize_0f7a4 (wU yJ6_stringSize_0f7a4 cJ6_stringSize_0f7a4 4 (some .int)) (rmL 0 0 0) [.int (nI x9)] w (fun r w' => r = 1 ∧ w' = w) := by
  refine openI (own := RJ6) rfl (by decide) (Nat.le_of_ble_eq_true rfl) rfl ?_
  intro p e s m args below meth c A C hrt9 hnm
  obtain ⟨Q, hQ⟩ : ∃ Q, Q = (MQ below (va_Qi (fun r w' => r = 1 ∧ w' = w) (cBA D A) A) args s 0 0 A) := ⟨_, rfl⟩
  show WP p l e (rmL 0 0 0) s m args below meth c D A 4 w [(0, .int (nI x9))] 0 0 (MQ below (va_Qi (fun r w' => r = 1 ∧ w' = w) (cBA D A) A) args s 0 0 A) 0 []
  rw [← hQ]
  refine p_iconst (v := 1) C (by decide) dJ6_stringSize_0f7a4_0 ?_
  refine p_istore_n (lv9 := [(1, .int 1), (0, .int (nI x9))]) C rfl (by decide) rfl dJ6_stringSize_0f7a4_1 ?_
  refine p_iload_n C rfl 1 rfl dJ6_stringSize_0f7a4_2 ?_
  refine p_if_lt C 11 (by decide) dJ6_stringSize_0f7a4_3 (fun c_3 => absurd c_3 (nI_pos (by omega))) (fun c_3 => ?_)
  refine p_iconst (v := 0) C (by decide) dJ6_stringSize_0f7a4_6 ?_
  refine p_istore_n (lv9 := [(1, .int 0), (0, .int (nI x9))]) C rfl (by decide) rfl dJ6_stringSize_0f7a4_7 ?_
  refine p_iload_n C rfl 1 rfl dJ6_stringSize_0f7a4_8 ?_
  refine p_ineg C dJ6_stringSize_0f7a4_9 ?_
  refine p_istore_n (lv9 := [(0, .int (-(nI x9))), (1, .int 0)]) C rfl (by decide) rfl dJ6_stringSize_0f7a4_10 ?_
  refine p_bipush (v := (-10)) C (by decide) dJ6_stringSize_0f7a4_11 ?_
  refine p_istore_n (lv9 := [(2, .int (-10)), (0, .int (-(nI x9))), (1, .int 0)]) C rfl (by decide) rfl dJ6_stringSize_0f7a4_13 ?_
  refine p_iconst (v := 1) C (by decide) dJ6_stringSize_0f7a4_14 ?_
  refine p_istore_n (lv9 := [(3, .int 1), (2, .int (-10)), (0, .int (-(nI x9))), (1, .int 0)]) C rfl (by decide) rfl dJ6_stringSize_0f7a4_15 ?_
  refine p_iload_n C rfl 0 rfl dJ6_stringSize_0f7a4_16 ?_
  refine p_bipush (v := 10) C (by decide) dJ6_stringSize_0f7a4_17 ?_
  refine p_icmp_ge C 42 (by decide) dJ6_stringSize_0f7a4_19 (fun c_19 => absurd c_19 (by decide)) (fun c_19 => ?_)
  refine p_iload_n C rfl 2 rfl dJ6_stringSize_0f7a4_22 ?_
  refine p_iload_n C rfl 1 rfl dJ6_stringSize_0f7a4_23 ?_
  refine p_icmp_le C 31 (by decide) dJ6_stringSize_0f7a4_24 (fun c_24 => absurd c_24 (fun z9 => absurd ((sb_nle (a := x9) (b := 10) (by omega) (by omega)).mp z9) (by omega))) (fun c_24 => ?_)
  refine p_iload_n C rfl 0 rfl dJ6_stringSize_0f7a4_27 ?_
  refine p_iload_n C rfl 3 rfl dJ6_stringSize_0f7a4_28 ?_
  refine p_iadd C dJ6_stringSize_0f7a4_29 ?_
  refine p_int (y := 1) (by decide) ?_
  rw [hQ]
  exact r_i C hrt9 (⟨rfl, rfl⟩) (by decide) (by decide) dJ6_stringSize_0f7a4_30
set_option maxHeartbeats 4000000 in
set_option maxRecDepth 100000 in
/-- Integer.getChars, one digit -/
theorem m_J6_getChars (l : Launch) (D : va_G) (k : Nat → ClassId) {md : Nat → Nat} {th : Int32} {n : Nat} {Am Wk Mo : Nat → Int32} {v cp cn : Nat} {bt : Nat → Int32} {ml : Int32} {Y : va_W} {x9 : Nat} (hx : x9 < 10) (hcp : cn + 1 ≤ cp) (h3 : cp < 65536) (hft : sb_Fit bt) : CtI l D k yJ6_getChars_ba4f3 (wU yJ6_getChars_ba4f3 cJ6_getChars_ba4f3 7 (some .int)) (rmL 0 0 0) [.int (nI x9), .int (nI (cn + 1)), .ref v] (MW k md th (nI n) Am Wk Mo v cp bt ml (nI cn) Y) (fun _ w' => ∃ bt', sb_Fit bt' ∧ (∀ j, j < cn → bt' j = bt j) ∧ bt' cn = nI (48 + x9) ∧ w' = (MW k md th (nI n) Am Wk Mo v cp bt' ml (nI cn) Y)) := by
  refine openI (own := RJ6) rfl (by decide) (Nat.le_of_ble_eq_true rfl) rfl ?_
  intro p e s m args below meth c A C hrt9 hnm
  obtain ⟨Q, hQ⟩ : ∃ Q, Q = (MQ below (va_Qi (fun _ w' => ∃ bt', sb_Fit bt' ∧ (∀ j, j < cn → bt' j = bt j) ∧ bt' cn = nI (48 + x9) ∧ w' = (MW k md th (nI n) Am Wk Mo v cp bt' ml (nI cn) Y)) (cBA D A) A) args s 0 0 A) := ⟨_, rfl⟩
  show WP p l e (rmL 0 0 0) s m args below meth c D A 7 (MW k md th (nI n) Am Wk Mo v cp bt ml (nI cn) Y) [(0, .int (nI x9)), (1, .int (nI (cn + 1))), (2, .ref v)] 0 0 (MQ below (va_Qi (fun _ w' => ∃ bt', sb_Fit bt' ∧ (∀ j, j < cn → bt' j = bt j) ∧ bt' cn = nI (48 + x9) ∧ w' = (MW k md th (nI n) Am Wk Mo v cp bt' ml (nI cn) Y)) (cBA D A) A) args s 0 0 A) 0 []
  rw [← hQ]
  obtain ⟨d1, hz1, ht1⟩ := C.2.2.2.2.2.2.2.2.2.2.2.2.2.2.1
  refine p_iload_n C rfl 1 rfl dJ6_getChars_ba4f3_0 ?_
  refine p_istore (lv9 := [(5, .int (nI (cn + 1))), (0, .int (nI x9)), (1, .int (nI (cn + 1))), (2, .ref v)]) C (by decide) rfl dJ6_getChars_ba4f3_1 ?_
  refine p_iload_n C rfl 1 rfl dJ6_getChars_ba4f3_3 ?_
  refine p_if_ge C 11 (by decide) dJ6_getChars_ba4f3_4 (fun c_4 => ?_) (fun c_4 => absurd (nI_pos' (by omega)) c_4)
  refine p_iconst (v := 0) C (by decide) dJ6_getChars_ba4f3_11 ?_
  refine p_istore (lv9 := [(6, .int 0), (5, .int (nI (cn + 1))), (0, .int (nI x9)), (1, .int (nI (cn + 1))), (2, .ref v)]) C (by decide) rfl dJ6_getChars_ba4f3_12 ?_
  refine p_iload C 0 rfl dJ6_getChars_ba4f3_14 ?_
  refine p_if_ne C 22 (by decide) dJ6_getChars_ba4f3_16 (fun c_16 => absurd c_16 (by decide)) (fun c_16 => ?_)
  refine p_iload_n C rfl 2 rfl dJ6_getChars_ba4f3_19 ?_
  refine p_ineg C dJ6_getChars_ba4f3_20 ?_
  refine p_istore_n (lv9 := [(0, .int (-(nI x9))), (6, .int 0), (5, .int (nI (cn + 1))), (1, .int (nI (cn + 1))), (2, .ref v)]) C rfl (by decide) rfl dJ6_getChars_ba4f3_21 ?_
  refine p_iload_n C rfl 0 rfl dJ6_getChars_ba4f3_22 ?_
  refine p_bipush (v := (-100)) C (by decide) dJ6_getChars_ba4f3_23 ?_
  refine p_icmp_gt C 72 (by decide) dJ6_getChars_ba4f3_25 (fun c_25 => ?_) (fun c_25 => absurd ((sb_nlt (a := 100) (by omega) (by omega)).mpr (by omega)) c_25)
  refine p_aload_n C rfl 4 rfl dJ6_getChars_ba4f3_72 ?_
  refine p_iinc (lv9 := [(5, .int (nI cn)), (0, .int (-(nI x9))), (6, .int 0), (1, .int (nI (cn + 1))), (2, .ref v)]) (v := (nI cn)) C (j := 2) rfl (by exact sb_m1 (by omega)) (by decide) rfl dJ6_getChars_ba4f3_73 ?_
  refine p_iload C 0 rfl dJ6_getChars_ba4f3_76 ?_
  refine p_gets (v := .ref d1) C hz1 qfl_J6_83 (fun _ h9 => h9) dJ6_getChars_ba4f3_78 ?_
  refine p_iload_n C rfl 1 rfl dJ6_getChars_ba4f3_81 ?_
  refine p_ineg C dJ6_getChars_ba4f3_82 ?_
  refine p_int (y := (nI x9)) Int32.neg_neg ?_
  refine p_tb (v := .int (nI (48 + x9 % 10))) C ht1 (vp_in_nI (by omega) (by omega)) (by show Value.int (nI (48 + ((nI x9)).toNatClampNeg % 10)) = _; rw [show ((nI x9)).toNatClampNeg = x9 from nI_clamp (by omega)]) dJ6_getChars_ba4f3_83 ?_
  refine p_bast2 (y := (nI (48 + x9 % 10))) (w9 := (MW k md th (nI n) Am Wk Mo v cp (upd bt cn (nI (48 + x9 % 10))) ml (nI cn) Y)) C 5 rfl (vp_in_nI (n := cn) (N := cp) (by omega) (by omega)) (nar_b (48 + x9 % 10) (by omega)) (by rw [show ((nI cn)).toNatClampNeg = cn from nI_clamp (by omega)]; exact rfl) dJ6_getChars_ba4f3_84 ?_
  refine p_iload_n C rfl 1 rfl dJ6_getChars_ba4f3_85 ?_
  refine p_bipush (v := (-9)) C (by decide) dJ6_getChars_ba4f3_86 ?_
  refine p_icmp_ge C 104 (by decide) dJ6_getChars_ba4f3_88 (fun c_88 => ?_) (fun c_88 => absurd ((sb_nle (a := 9) (by omega) (by omega)).mpr (by omega)) c_88)
  refine p_iload C 2 rfl dJ6_getChars_ba4f3_104 ?_
  refine p_if_eq C 118 (by decide) dJ6_getChars_ba4f3_106 (fun c_106 => ?_) (fun c_106 => absurd rfl c_106)
  refine p_iload C 0 rfl dJ6_getChars_ba4f3_118 ?_
  rw [hQ]
  exact r_i C hrt9 (⟨_, sb_fitU hft (fit_b _ (by omega)), gch_k (a := 0) (y := 0) (fun _ _ => rfl) (Nat.le_refl _), by rw [pk_us, show 48 + x9 % 10 = 48 + x9 by omega], rfl⟩) (by decide) (by decide) dJ6_getChars_ba4f3_120
set_option maxHeartbeats 4000000 in
set_option maxRecDepth 100000 in
/-- J5_append_c97b9 -/
theorem m_J5_appI_a (l : Launch) (D : va_G) (k : Nat → ClassId) {md : Nat → Nat} {th : Int32} {n : Nat} {Am Wk Mo : Nat → Int32} {v cp cn : Nat} {bt : Nat → Int32} {ml : Int32} {Y : va_W} {x9 : Nat} (hx : x9 < 10) (h1 : cn + 1 ≤ cp) (h3 : cp < 65536 / 4) (hft : sb_Fit bt) : CtR l D k yJ5_append_c97b9 (wU yJ5_append_c97b9 cJ5_append_c97b9 4 (some (.object "java/lang/AbstractStringBuilder"))) (rmL 3 0 0) [.ref (md 4), .int (nI x9)] (MW k md th (nI n) Am Wk Mo v cp bt ml (nI cn) Y) (fun a w' => a = md 4 ∧ ∃ v' bt', sb_Fit bt' ∧ (∀ j, j < cn → bt' j = bt j) ∧ bt' cn = nI (48 + x9) ∧ w' = (MW k md th (nI n) Am Wk Mo v' cp bt' ml (nI (cn + 1)) Y)) := by
  refine openR (own := RJ5) rfl (by decide) (Nat.le_of_ble_eq_true rfl) rfl ?_
  intro p e s m args below meth c A C hrt9 hnm
  obtain ⟨Q, hQ⟩ : ∃ Q, Q = (MQ below (va_Qr (fun _ => True) (fun w' a t => (fun a w' => a = md 4 ∧ ∃ v' bt', sb_Fit bt' ∧ (∀ j, j < cn → bt' j = bt j) ∧ bt' cn = nI (48 + x9) ∧ w' = (MW k md th (nI n) Am Wk Mo v' cp bt' ml (nI (cn + 1)) Y)) a w' ∧ cBA D A w' t) A) args s 0 0 A) := ⟨_, rfl⟩
  show WP p l e (rmL 3 0 0) s m args below meth c D A 4 (MW k md th (nI n) Am Wk Mo v cp bt ml (nI cn) Y) [(0, .ref (md 4)), (1, .int (nI x9))] 0 0 (MQ below (va_Qr (fun _ => True) (fun w' a t => (fun a w' => a = md 4 ∧ ∃ v' bt', sb_Fit bt' ∧ (∀ j, j < cn → bt' j = bt j) ∧ bt' cn = nI (48 + x9) ∧ w' = (MW k md th (nI n) Am Wk Mo v' cp bt' ml (nI (cn + 1)) Y)) a w' ∧ cBA D A w' t) A) args s 0 0 A) 0 []
  rw [← hQ]
  refine p_aload_n C rfl 0 rfl dJ5_append_c97b9_0 ?_
  refine p_get (v := .int (nI cn)) (T := TJ4) C 4 rfl rfl 3 (by decide) inJ4 qfl_J5_79 (fun _ h9 => h9) rfl dJ5_append_c97b9_1 ?_
  refine p_istore_n (lv9 := [(2, .int (nI cn)), (0, .ref (md 4)), (1, .int (nI x9))]) C rfl (by decide) rfl dJ5_append_c97b9_4 ?_
  refine p_iload_n C rfl 0 rfl dJ5_append_c97b9_5 ?_
  refine p_iload_n C rfl 2 rfl dJ5_append_c97b9_6 ?_
  refine c_Si (As := [.int (nI x9)]) (rest := [.int (nI cn)]) C (m_J6_stringSize l D k (x9 := x9) hx) qml_J5_245 qst_J6_stringSize_0f7a4 qin_J6 qco_J6_stringSize_0f7a4 nd_J6_stringSize_0f7a4 ⟨Nat.le_of_ble_eq_true rfl, Nat.le_of_ble_eq_true rfl⟩ (Nat.le_of_ble_eq_true rfl) ⟨Nat.le_of_ble_eq_true rfl, Nat.le_of_ble_eq_true rfl⟩ rfl dJ5_append_c97b9_7 (fun r9 w9 h9 => ?_)
  obtain ⟨e9, rfl⟩ := h9
  refine p_int e9 ?_
  refine p_iadd C dJ5_append_c97b9_10 ?_
  refine p_int (y := (nI (cn + 1))) (nI_1 cn) ?_
  refine p_istore_n (lv9 := [(3, .int (nI (cn + 1))), (2, .int (nI cn)), (0, .ref (md 4)), (1, .int (nI x9))]) C rfl (by decide) rfl dJ5_append_c97b9_11 ?_
  refine p_aload_n C rfl 2 rfl dJ5_append_c97b9_12 ?_
  refine p_iload_n C rfl 0 rfl dJ5_append_c97b9_13 ?_
  refine c_Uv (As := [.int (nI (cn + 1))]) (rest := []) C (m_J5_ens_a l D k (q := (cn + 1)) (by omega) (by omega)) 4 rfl rfl qml_J5_100 qsm_J5_J5_ensureCapacityInternal_I_V qse_J4_J5_ensureCapacityInternal_d00df qim_J5_ensureCapacityInternal_d00df qin_J5 qco_J5_ensureCapacityInternal_d00df nd_J5_ensureCapacityInternal_d00df ⟨Nat.le_of_ble_eq_true rfl, Nat.le_of_ble_eq_true rfl⟩ (Nat.le_of_ble_eq_true rfl) ⟨Nat.le_of_ble_eq_true rfl, Nat.le_of_ble_eq_true rfl⟩ rfl dJ5_append_c97b9_14 (fun w9 h9 => ?_)
  obtain rfl := h9
  refine p_aload_n C rfl 2 rfl dJ5_append_c97b9_17 ?_
  refine c_Ui (As := []) (rest := []) C (m_J5_isLatin1 l D k ) 4 rfl rfl qml_J5_83 qsm_J5_J5_isLatin1__Z qse_J4_J5_isLatin1_aae02 qim_J5_isLatin1_aae02 qin_J5 qco_J5_isLatin1_aae02 nd_J5_isLatin1_aae02 ⟨Nat.le_of_ble_eq_true rfl, Nat.le_of_ble_eq_true rfl⟩ (Nat.le_of_ble_eq_true rfl) ⟨Nat.le_of_ble_eq_true rfl, Nat.le_of_ble_eq_true rfl⟩ rfl dJ5_append_c97b9_18 (fun r9 w9 h9 => ?_)
  obtain ⟨e9, rfl⟩ := h9
  refine p_int e9 ?_
  refine p_if_eq C 37 (by decide) dJ5_append_c97b9_21 (fun c_21 => absurd c_21 (by decide)) (fun c_21 => ?_)
  refine p_iload_n C rfl 3 rfl dJ5_append_c97b9_24 ?_
  refine p_iload_n C rfl 0 rfl dJ5_append_c97b9_25 ?_
  refine p_aload_n C rfl 2 rfl dJ5_append_c97b9_26 ?_
  refine p_get (v := .ref v) (T := TJ4) C 4 rfl rfl 0 (by decide) inJ4 qfl_J5_15 (fun _ h9 => h9) rfl dJ5_append_c97b9_27 ?_
  refine c_Si (As := [.int (nI x9), .int (nI (cn + 1)), .ref v]) (rest := []) C (m_J6_getChars l D k (x9 := x9) hx (by omega) (by omega) hft) qml_J5_248 qst_J6_getChars_ba4f3 qin_J6 qco_J6_getChars_ba4f3 nd_J6_getChars_ba4f3 ⟨Nat.le_of_ble_eq_true rfl, Nat.le_of_ble_eq_true rfl⟩ (Nat.le_of_ble_eq_true rfl) ⟨Nat.le_of_ble_eq_true rfl, Nat.le_of_ble_eq_true rfl⟩ rfl dJ5_append_c97b9_30 (fun r9 w9 h9 => ?_)
  obtain ⟨bt8, hft8, hk8, hd8, rfl⟩ := h9
  refine p_pop C rfl dJ5_append_c97b9_33 ?_
  refine p_goto C 48 (by decide) dJ5_append_c97b9_34 ?_
  refine p_aload_n C rfl 2 rfl dJ5_append_c97b9_48 ?_
  refine p_iload_n C rfl 0 rfl dJ5_append_c97b9_49 ?_
  refine p_put (w9 := (MW k md th (nI n) Am Wk Mo v cp bt8 ml (nI (cn + 1)) Y)) (v := .int (nI (cn + 1))) (T := TJ4) C tyJ4 tyJ4_ok nmJ4 4 rfl rfl 3 (by decide) inJ4 qfl_J5_79 (fun _ h9 => h9) rfl rfl rfl (Nat.le_of_ble_eq_true rfl) rfl dJ5_append_c97b9_50 ?_
  refine p_aload_n C rfl 2 rfl dJ5_append_c97b9_53 ?_
  rw [hQ]
  exact r_r C hrt9 (Or.inl ⟨_, rfl⟩) (⟨rfl, _, _, hft8, hk8, hd8, rfl⟩) (by decide) (by decide) dJ5_append_c97b9_54
set_option maxHeartbeats 4000000 in
set_option maxRecDepth 100000 in
/-- J5_append_c97b9 -/
theorem m_J5_appI_b (l : Launch) (D : va_G) (k : Nat → ClassId) {md : Nat → Nat} {th : Int32} {n : Nat} {Am Wk Mo : Nat → Int32} {v cp cn : Nat} {bt : Nat → Int32} {ml : Int32} {Y : va_W} {x9 : Nat} (hx : x9 < 10) (h1 : cp < cn + 1) (hm : cn ≤ cp) (h3 : cp < 65536 / 4) (hft : sb_Fit bt) : CtR l D k yJ5_append_c97b9 (wU yJ5_append_c97b9 cJ5_append_c97b9 4 (some (.object "java/lang/AbstractStringBuilder"))) (rmL 3 1 (2 * cp + 2)) [.ref (md 4), .int (nI x9)] (MW k md th (nI n) Am Wk Mo v cp bt ml (nI cn) Y) (fun a w' => a = md 4 ∧ ∃ v' bt', sb_Fit bt' ∧ (∀ j, j < cn → bt' j = bt j) ∧ bt' cn = nI (48 + x9) ∧ w' = (MW k md th (nI n) Am Wk Mo v' (2 * cp + 2) bt' ml (nI (cn + 1)) Y)) := by
  refine openR (own := RJ5) rfl (by decide) (Nat.le_of_ble_eq_true rfl) rfl ?_
  intro p e s m args below meth c A C hrt9 hnm
  obtain ⟨Q, hQ⟩ : ∃ Q, Q = (MQ below (va_Qr (fun _ => True) (fun w' a t => (fun a w' => a = md 4 ∧ ∃ v' bt', sb_Fit bt' ∧ (∀ j, j < cn → bt' j = bt j) ∧ bt' cn = nI (48 + x9) ∧ w' = (MW k md th (nI n) Am Wk Mo v' (2 * cp + 2) bt' ml (nI (cn + 1)) Y)) a w' ∧ cBA D A w' t) A) args s 1 (2 * cp + 2) A) := ⟨_, rfl⟩
  show WP p l e (rmL 3 1 (2 * cp + 2)) s m args below meth c D A 4 (MW k md th (nI n) Am Wk Mo v cp bt ml (nI cn) Y) [(0, .ref (md 4)), (1, .int (nI x9))] 0 0 (MQ below (va_Qr (fun _ => True) (fun w' a t => (fun a w' => a = md 4 ∧ ∃ v' bt', sb_Fit bt' ∧ (∀ j, j < cn → bt' j = bt j) ∧ bt' cn = nI (48 + x9) ∧ w' = (MW k md th (nI n) Am Wk Mo v' (2 * cp + 2) bt' ml (nI (cn + 1)) Y)) a w' ∧ cBA D A w' t) A) args s 1 (2 * cp + 2) A) 0 []
  rw [← hQ]
  refine p_aload_n C rfl 0 rfl dJ5_append_c97b9_0 ?_
  refine p_get (v := .int (nI cn)) (T := TJ4) C 4 rfl rfl 3 (by decide) inJ4 qfl_J5_79 (fun _ h9 => h9) rfl dJ5_append_c97b9_1 ?_
  refine p_istore_n (lv9 := [(2, .int (nI cn)), (0, .ref (md 4)), (1, .int (nI x9))]) C rfl (by decide) rfl dJ5_append_c97b9_4 ?_
  refine p_iload_n C rfl 0 rfl dJ5_append_c97b9_5 ?_
  refine p_iload_n C rfl 2 rfl dJ5_append_c97b9_6 ?_
  refine c_Si (As := [.int (nI x9)]) (rest := [.int (nI cn)]) C (m_J6_stringSize l D k (x9 := x9) hx) qml_J5_245 qst_J6_stringSize_0f7a4 qin_J6 qco_J6_stringSize_0f7a4 nd_J6_stringSize_0f7a4 ⟨Nat.le_of_ble_eq_true rfl, Nat.le_of_ble_eq_true rfl⟩ (Nat.le_of_ble_eq_true rfl) ⟨Nat.le_of_ble_eq_true rfl, by (try simp only [rmL_c, rmL_s]); omega⟩ rfl dJ5_append_c97b9_7 (fun r9 w9 h9 => ?_)
  obtain ⟨e9, rfl⟩ := h9
  refine p_int e9 ?_
  refine p_iadd C dJ5_append_c97b9_10 ?_
  refine p_int (y := (nI (cn + 1))) (nI_1 cn) ?_
  refine p_istore_n (lv9 := [(3, .int (nI (cn + 1))), (2, .int (nI cn)), (0, .ref (md 4)), (1, .int (nI x9))]) C rfl (by decide) rfl dJ5_append_c97b9_11 ?_
  refine p_aload_n C rfl 2 rfl dJ5_append_c97b9_12 ?_
  refine p_iload_n C rfl 0 rfl dJ5_append_c97b9_13 ?_
  refine c_Uv (As := [.int (nI (cn + 1))]) (rest := []) C (m_J5_ens_b l D k (q := (cn + 1)) (by omega) (by omega) (by omega) hft) 4 rfl rfl qml_J5_100 qsm_J5_J5_ensureCapacityInternal_I_V qse_J4_J5_ensureCapacityInternal_d00df qim_J5_ensureCapacityInternal_d00df qin_J5 qco_J5_ensureCapacityInternal_d00df nd_J5_ensureCapacityInternal_d00df ⟨Nat.le_of_ble_eq_true rfl, Nat.le_of_ble_eq_true rfl⟩ (Nat.le_of_ble_eq_true rfl) ⟨Nat.le_of_ble_eq_true rfl, by (try simp only [rmL_c, rmL_s]); omega⟩ rfl dJ5_append_c97b9_14 (fun w9 h9 => ?_)
  obtain ⟨v9, bt9, hft9, hk9, rfl⟩ := h9
  refine p_aload_n C rfl 2 rfl dJ5_append_c97b9_17 ?_
  refine c_Ui (As := []) (rest := []) C (m_J5_isLatin1 l D k ) 4 rfl rfl qml_J5_83 qsm_J5_J5_isLatin1__Z qse_J4_J5_isLatin1_aae02 qim_J5_isLatin1_aae02 qin_J5 qco_J5_isLatin1_aae02 nd_J5_isLatin1_aae02 ⟨Nat.le_of_ble_eq_true rfl, Nat.le_of_ble_eq_true rfl⟩ (Nat.le_of_ble_eq_true rfl) ⟨Nat.le_of_ble_eq_true rfl, by (try simp only [rmL_c, rmL_s]); omega⟩ rfl dJ5_append_c97b9_18 (fun r9 w9 h9 => ?_)
  obtain ⟨e9, rfl⟩ := h9
  refine p_int e9 ?_
  refine p_if_eq C 37 (by decide) dJ5_append_c97b9_21 (fun c_21 => absurd c_21 (by decide)) (fun c_21 => ?_)
  refine p_iload_n C rfl 3 rfl dJ5_append_c97b9_24 ?_
  refine p_iload_n C rfl 0 rfl dJ5_append_c97b9_25 ?_
  refine p_aload_n C rfl 2 rfl dJ5_append_c97b9_26 ?_
  refine p_get (v := .ref v9) (T := TJ4) C 4 rfl rfl 0 (by decide) inJ4 qfl_J5_15 (fun _ h9 => h9) rfl dJ5_append_c97b9_27 ?_
  refine c_Si (As := [.int (nI x9), .int (nI (cn + 1)), .ref v9]) (rest := []) C (m_J6_getChars l D k (x9 := x9) hx (by omega) (by omega) hft9) qml_J5_248 qst_J6_getChars_ba4f3 qin_J6 qco_J6_getChars_ba4f3 nd_J6_getChars_ba4f3 ⟨Nat.le_of_ble_eq_true rfl, Nat.le_of_ble_eq_true rfl⟩ (Nat.le_of_ble_eq_true rfl) ⟨Nat.le_of_ble_eq_true rfl, by (try simp only [rmL_c, rmL_s]); omega⟩ rfl dJ5_append_c97b9_30 (fun r9 w9 h9 => ?_)
  obtain ⟨bt8, hft8, hk8, hd8, rfl⟩ := h9
  refine p_pop C rfl dJ5_append_c97b9_33 ?_
  refine p_goto C 48 (by decide) dJ5_append_c97b9_34 ?_
  refine p_aload_n C rfl 2 rfl dJ5_append_c97b9_48 ?_
  refine p_iload_n C rfl 0 rfl dJ5_append_c97b9_49 ?_
  refine p_put (w9 := (MW k md th (nI n) Am Wk Mo v9 (2 * cp + 2) bt8 ml (nI (cn + 1)) Y)) (v := .int (nI (cn + 1))) (T := TJ4) C tyJ4 tyJ4_ok nmJ4 4 rfl rfl 3 (by decide) inJ4 qfl_J5_79 (fun _ h9 => h9) rfl rfl rfl (Nat.le_of_ble_eq_true rfl) rfl dJ5_append_c97b9_50 ?_
  refine p_aload_n C rfl 2 rfl dJ5_append_c97b9_53 ?_
  rw [hQ]
  exact r_r C hrt9 (Or.inl ⟨_, rfl⟩) (⟨rfl, _, _, hft8, fun j hj => (hk8 j hj).trans (hk9 j (by omega)), hd8, rfl⟩) (by (try simp only [rmL_c, rmL_s]); omega) (by (try simp only [rmL_c, rmL_s]); omega) dJ5_append_c97b9_54
theorem m_J5_appI (l : Launch) (D : va_G) (k : Nat → ClassId) {md : Nat → Nat} {th : Int32} {n : Nat} {Am Wk Mo : Nat → Int32} {v cp cn : Nat} {bt : Nat → Int32} {ml : Int32} {Y : va_W} {x9 : Nat} (hx : x9 < 10) (hm : cn ≤ cp) (h3 : cp < 65536 / 4) (hft : sb_Fit bt) : CtR l D k yJ5_append_c97b9 (wU yJ5_append_c97b9 cJ5_append_c97b9 4 (some (.object "java/lang/AbstractStringBuilder"))) (rmL 3 (gwC (cn + 1) cp) (gwS (cn + 1) cp)) [.ref (md 4), .int (nI x9)] (MW k md th (nI n) Am Wk Mo v cp bt ml (nI cn) Y) (fun a w' => a = md 4 ∧ ∃ v' bt', sb_Fit bt' ∧ (∀ j, j < cn → bt' j = bt j) ∧ bt' cn = nI (48 + x9) ∧ w' = (MW k md th (nI n) Am Wk Mo v' (cwA (cn + 1) cp) bt' ml (nI (cn + 1)) Y)) := by
  by_cases h1 : (cn + 1) ≤ cp
  · have h := m_J5_appI_a l D k (md := md) (th := th) (n := n) (Am := Am) (Wk := Wk) (Mo := Mo) (v := v) (cp := cp) (cn := cn) (bt := bt) (ml := ml) (Y := Y) hx h1 h3 hft
    rw [gwC_a h1, gwS_a h1, cwA_a h1]
    exact h
  · have h2 : cp < (cn + 1) := by omega
    have h := m_J5_appI_b l D k (md := md) (th := th) (n := n) (Am := Am) (Wk := Wk) (Mo := Mo) (v := v) (cp := cp) (cn := cn) (bt := bt) (ml := ml) (Y := Y) hx h2 hm h3 hft
    rw [gwC_b h2, gwS_b h2, cwA_b h2]
    exact h
set_option maxHeartbeats 4000000 in
set_option maxRecDepth 100000 in
/-- J4_append_bf812 -/
theorem m_J4_appI (l : Launch) (D : va_G) (k : Nat → ClassId) {md : Nat → Nat} {th : Int32} {n : Nat} {Am Wk Mo : Nat → Int32} {v cp cn : Nat} {bt : Nat → Int32} {ml : Int32} {Y : va_W} {x9 : Nat} (hx : x9 < 10) (hm : cn ≤ cp) (h3 : cp < 65536 / 4) (hft : sb_Fit bt) : CtR l D k yJ4_append_bf812 (wU yJ4_append_bf812 cJ4_append_bf812 2 (some (.object "java/lang/StringBuilder"))) (rmL 4 (gwC (cn + 1) cp) (gwS (cn + 1) cp)) [.ref (md 4), .int (nI x9)] (MW k md th (nI n) Am Wk Mo v cp bt ml (nI cn) Y) (fun a w' => a = md 4 ∧ ∃ v' bt', sb_Fit bt' ∧ (∀ j, j < cn → bt' j = bt j) ∧ bt' cn = nI (48 + x9) ∧ w' = (MW k md th (nI n) Am Wk Mo v' (cwA (cn + 1) cp) bt' ml (nI (cn + 1)) Y)) := by
  refine openR (own := RJ4) rfl (by decide) (Nat.le_of_ble_eq_true rfl) rfl ?_
  intro p e s m args below meth c A C hrt9 hnm
  obtain ⟨Q, hQ⟩ : ∃ Q, Q = (MQ below (va_Qr (fun _ => True) (fun w' a t => (fun a w' => a = md 4 ∧ ∃ v' bt', sb_Fit bt' ∧ (∀ j, j < cn → bt' j = bt j) ∧ bt' cn = nI (48 + x9) ∧ w' = (MW k md th (nI n) Am Wk Mo v' (cwA (cn + 1) cp) bt' ml (nI (cn + 1)) Y)) a w' ∧ cBA D A w' t) A) args s (gwC (cn + 1) cp) (gwS (cn + 1) cp) A) := ⟨_, rfl⟩
  show WP p l e (rmL 4 (gwC (cn + 1) cp) (gwS (cn + 1) cp)) s m args below meth c D A 2 (MW k md th (nI n) Am Wk Mo v cp bt ml (nI cn) Y) [(0, .ref (md 4)), (1, .int (nI x9))] 0 0 (MQ below (va_Qr (fun _ => True) (fun w' a t => (fun a w' => a = md 4 ∧ ∃ v' bt', sb_Fit bt' ∧ (∀ j, j < cn → bt' j = bt j) ∧ bt' cn = nI (48 + x9) ∧ w' = (MW k md th (nI n) Am Wk Mo v' (cwA (cn + 1) cp) bt' ml (nI (cn + 1)) Y)) a w' ∧ cBA D A w' t) A) args s (gwC (cn + 1) cp) (gwS (cn + 1) cp) A) 0 []
  rw [← hQ]
  refine p_aload_n C rfl 0 rfl dJ4_append_bf812_0 ?_
  refine p_iload_n C rfl 1 rfl dJ4_append_bf812_1 ?_
  refine c_SUr (As := [.int (nI x9)]) (rest := []) C (m_J5_appI l D k hx hm h3 hft) 4 rfl rfl qml_J4_53 qsm_J5_J5_append_I_Ljava_lang_AbstractStringBuilder_ qsu_J4_J5 qim_J5_append_c97b9 qin_J5 qco_J5_append_c97b9 (by decide) nd_J5_append_c97b9 ⟨Nat.le_of_ble_eq_true rfl, Nat.le_of_ble_eq_true rfl⟩ (Nat.le_of_ble_eq_true rfl) ⟨by (try simp only [rmL_c, rmL_s]); omega, by (try simp only [rmL_c, rmL_s]); omega⟩ rfl dJ4_append_bf812_2 (fun r9 w9 h9 => ?_)
  obtain ⟨rfl, h8⟩ := h9
  refine p_pop C rfl dJ4_append_bf812_5 ?_
  refine p_aload_n C rfl 0 rfl dJ4_append_bf812_6 ?_
  rw [hQ]
  exact r_r C hrt9 (Or.inl ⟨_, rfl⟩) (⟨rfl, h8⟩) (by (try simp only [rmL_c, rmL_s]); omega) (by (try simp only [rmL_c, rmL_s]); omega) dJ4_append_bf812_7
set_option maxHeartbeats 4000000 in
set_option maxRecDepth 100000 in
/-- Preconditions.checkIndex -/
theorem m_J3_checkIndex_n (l : Launch) (D : va_G) (k : Nat → ClassId) {w : va_W} {i9 N : Nat} (h9 : i9 < N) (hN : N < 65536) : CtI l D k yJ3_checkIndex_8e157 (wU yJ3_checkIndex_8e157 cJ3_checkIndex_8e157 3 (some .int)) (rmL 0 0 0) [.int (nI i9), .int (nI N), .null] w (fun r w' => r = nI i9 ∧ w' = w) := by
  refine openI (own := RJ3) rfl (by decide) (Nat.le_of_ble_eq_true rfl) rfl ?_
  intro p e s m args below meth c A C hrt9 hnm
  obtain ⟨Q, hQ⟩ : ∃ Q, Q = (MQ below (va_Qi (fun r w' => r = nI i9 ∧ w' = w) (cBA D A) A) args s 0 0 A) := ⟨_, rfl⟩
  show WP p l e (rmL 0 0 0) s m args below meth c D A 3 w [(0, .int (nI i9)), (1, .int (nI N)), (2, .null)] 0 0 (MQ below (va_Qi (fun r w' => r = nI i9 ∧ w' = w) (cBA D A) A) args s 0 0 A) 0 []
  rw [← hQ]
  refine p_iload_n C rfl 0 rfl dJ3_checkIndex_8e157_0 ?_
  refine p_if_lt C 9 (by decide) dJ3_checkIndex_8e157_1 (fun c_1 => absurd c_1 (nI_pos (by omega))) (fun c_1 => ?_)
  refine p_iload_n C rfl 0 rfl dJ3_checkIndex_8e157_4 ?_
  refine p_iload_n C rfl 1 rfl dJ3_checkIndex_8e157_5 ?_
  refine p_icmp_lt C 16 (by decide) dJ3_checkIndex_8e157_6 (fun c_6 => ?_) (fun c_6 => absurd (nI_lt h9 (by omega)) c_6)
  refine p_iload_n C rfl 0 rfl dJ3_checkIndex_8e157_16 ?_
  rw [hQ]
  exact r_i C hrt9 (⟨rfl, rfl⟩) (by decide) (by decide) dJ3_checkIndex_8e157_17
set_option maxHeartbeats 4000000 in
set_option maxRecDepth 100000 in
/-- Preconditions.checkIndex -/
theorem m_J3_checkIndex_r (l : Launch) (D : va_G) (k : Nat → ClassId) {w : va_W} {i9 N : Nat} (h9 : i9 < N) (hN : N < 65536) {x9 : Nat} : CtI l D k yJ3_checkIndex_8e157 (wU yJ3_checkIndex_8e157 cJ3_checkIndex_8e157 3 (some .int)) (rmL 0 0 0) [.int (nI i9), .int (nI N), (.ref x9)] w (fun r w' => r = nI i9 ∧ w' = w) := by
  refine openI (own := RJ3) rfl (by decide) (Nat.le_of_ble_eq_true rfl) rfl ?_
  intro p e s m args below meth c A C hrt9 hnm
  obtain ⟨Q, hQ⟩ : ∃ Q, Q = (MQ below (va_Qi (fun r w' => r = nI i9 ∧ w' = w) (cBA D A) A) args s 0 0 A) := ⟨_, rfl⟩
  show WP p l e (rmL 0 0 0) s m args below meth c D A 3 w [(0, .int (nI i9)), (1, .int (nI N)), (2, .ref x9)] 0 0 (MQ below (va_Qi (fun r w' => r = nI i9 ∧ w' = w) (cBA D A) A) args s 0 0 A) 0 []
  rw [← hQ]
  refine p_iload_n C rfl 0 rfl dJ3_checkIndex_8e157_0 ?_
  refine p_if_lt C 9 (by decide) dJ3_checkIndex_8e157_1 (fun c_1 => absurd c_1 (nI_pos (by omega))) (fun c_1 => ?_)
  refine p_iload_n C rfl 0 rfl dJ3_checkIndex_8e157_4 ?_
  refine p_iload_n C rfl 1 rfl dJ3_checkIndex_8e157_5 ?_
  refine p_icmp_lt C 16 (by decide) dJ3_checkIndex_8e157_6 (fun c_6 => ?_) (fun c_6 => absurd (nI_lt h9 (by omega)) c_6)
  refine p_iload_n C rfl 0 rfl dJ3_checkIndex_8e157_16 ?_
  rw [hQ]
  exact r_i C hrt9 (⟨rfl, rfl⟩) (by decide) (by decide) dJ3_checkIndex_8e157_17
set_option maxHeartbeats 4000000 in
set_option maxRecDepth 100000 in
/-- checkIndex -/
theorem m_J0_checkIndex (l : Launch) (D : va_G) (k : Nat → ClassId) {w : va_W} {i9 N : Nat} (h9 : i9 < N) (hN : N < 65536) : CtV l D k yJ0_checkIndex_df160 (wU yJ0_checkIndex_df160 cJ0_checkIndex_df160 2 (none)) (rmL 1 0 0) [.int (nI i9), .int (nI N)] w (fun w' => w' = w) := by
  refine openV (own := RJ0) rfl (by decide) (Nat.le_of_ble_eq_true rfl) rfl ?_
  intro p e s m args below meth c A C hrt9 hnm
  obtain ⟨Q, hQ⟩ : ∃ Q, Q = (MQ below (va_Qv (fun w' => w' = w) (cBA D A) A) args s 0 0 A) := ⟨_, rfl⟩
  show WP p l e (rmL 1 0 0) s m args below meth c D A 2 w [(0, .int (nI i9)), (1, .int (nI N))] 0 0 (MQ below (va_Qv (fun w' => w' = w) (cBA D A) A) args s 0 0 A) 0 []
  rw [← hQ]
  refine p_iload_n C rfl 0 rfl dJ0_checkIndex_df160_0 ?_
  refine p_iload_n C rfl 1 rfl dJ0_checkIndex_df160_1 ?_
  obtain hzf | ⟨x9, hzf⟩ := C.2.2.2.2.2.2.2.2.2.2.2.2.2.1
  · refine p_gets (v := .null) C hzf qfl_J0_1053 (fun _ h9 => h9) dJ0_checkIndex_df160_2 ?_
    refine c_Si (As := [.int (nI i9), .int (nI N), .null]) (rest := []) C (m_J3_checkIndex_n l D k (i9 := i9) (N := N) h9 hN) qml_J0_1059 qst_J3_checkIndex_8e157 qin_J3 qco_J3_checkIndex_8e157 nd_J3_checkIndex_8e157 ⟨Nat.le_of_ble_eq_true rfl, Nat.le_of_ble_eq_true rfl⟩ (Nat.le_of_ble_eq_true rfl) ⟨Nat.le_of_ble_eq_true rfl, Nat.le_of_ble_eq_true rfl⟩ rfl dJ0_checkIndex_df160_5 (fun r9 w9 h9 => ?_)
    obtain ⟨e9, rfl⟩ := h9
    refine p_int e9 ?_
    refine p_pop C rfl dJ0_checkIndex_df160_8 ?_
    rw [hQ]
    exact r_v C hrt9 rfl (by decide) (by decide) dJ0_checkIndex_df160_9
  · refine p_gets (v := (.ref x9)) C hzf qfl_J0_1053 (fun _ h9 => h9) dJ0_checkIndex_df160_2 ?_
    refine c_Si (As := [.int (nI i9), .int (nI N), .ref x9]) (rest := []) C (m_J3_checkIndex_r l D k (i9 := i9) (N := N) h9 hN) qml_J0_1059 qst_J3_checkIndex_8e157 qin_J3 qco_J3_checkIndex_8e157 nd_J3_checkIndex_8e157 ⟨Nat.le_of_ble_eq_true rfl, Nat.le_of_ble_eq_true rfl⟩ (Nat.le_of_ble_eq_true rfl) ⟨Nat.le_of_ble_eq_true rfl, Nat.le_of_ble_eq_true rfl⟩ rfl dJ0_checkIndex_df160_5 (fun r9 w9 h9 => ?_)
    obtain ⟨e9, rfl⟩ := h9
    refine p_int e9 ?_
    refine p_pop C rfl dJ0_checkIndex_df160_8 ?_
    rw [hQ]
    exact r_v C hrt9 rfl (by decide) (by decide) dJ0_checkIndex_df160_9
theorem nar_c : ∀ c, c < 128 → narrow .char (.int (nI c)) = .int (nI c) := by decide +kernel
theorem mn3 {cn cp : Nat} (h : cn ≤ cp) (h2 : cp < 2 ^ 31) : (if nI cp < nI cn then nI cp else nI cn) = nI cn := if_neg (nI_nlt h h2)
set_option maxHeartbeats 4000000 in
set_option maxRecDepth 100000 in
/-- J5_charAt_5068e -/
theorem m_J5_charAt (l : Launch) (D : va_G) (k : Nat → ClassId) {md : Nat → Nat} {th : Int32} {n : Nat} {Am Wk Mo : Nat → Int32} {v cp cn : Nat} {bt : Nat → Int32} {ml : Int32} {Y : va_W} {i9 c9 : Nat} (h1 : i9 < cn) (hm : cn ≤ cp) (h3 : cp < 65536) (hc : c9 < 128) (hb : bt i9 = nI c9) : CtI l D k yJ5_charAt_5068e (wU yJ5_charAt_5068e cJ5_charAt_5068e 5 (some .char)) (rmL 2 0 0) [.ref (md 4), .int (nI i9)] (MW k md th (nI n) Am Wk Mo v cp bt ml (nI cn) Y) (fun r w' => r = bt i9 ∧ w' = (MW k md th (nI n) Am Wk Mo v cp bt ml (nI cn) Y)) := by
  refine openI (own := RJ5) rfl (by decide) (Nat.le_of_ble_eq_true rfl) rfl ?_
  intro p e s m args below meth c A C hrt9 hnm
  obtain ⟨Q, hQ⟩ : ∃ Q, Q = (MQ below (va_Qi (fun r w' => r = bt i9 ∧ w' = (MW k md th (nI n) Am Wk Mo v cp bt ml (nI cn) Y)) (cBA D A) A) args s 0 0 A) := ⟨_, rfl⟩
  show WP p l e (rmL 2 0 0) s m args below meth c D A 5 (MW k md th (nI n) Am Wk Mo v cp bt ml (nI cn) Y) [(0, .ref (md 4)), (1, .int (nI i9))] 0 0 (MQ below (va_Qi (fun r w' => r = bt i9 ∧ w' = (MW k md th (nI n) Am Wk Mo v cp bt ml (nI cn) Y)) (cBA D A) A) args s 0 0 A) 0 []
  rw [← hQ]
  have hb1 : bt i9 &&& 255 = bt i9 := by rw [hb]; exact and255 _ (by omega)
  have hb2 : ((bt i9).toUInt32 % 65536).toInt32 = bt i9 := by rw [hb]; exact i2c_c _ (by omega)
  refine p_aload_n C rfl 0 rfl dJ5_charAt_5068e_0 ?_
  refine p_get (v := .int 0) (T := TJ4) C 4 rfl rfl 1 (by decide) inJ4 qfl_J5_22 (fun _ h9 => h9) rfl dJ5_charAt_5068e_1 ?_
  refine p_istore_n (lv9 := [(2, .int 0), (0, .ref (md 4)), (1, .int (nI i9))]) C rfl (by decide) rfl dJ5_charAt_5068e_4 ?_
  refine p_aload_n C rfl 1 rfl dJ5_charAt_5068e_5 ?_
  refine p_get (v := .ref v) (T := TJ4) C 4 rfl rfl 0 (by decide) inJ4 qfl_J5_15 (fun _ h9 => h9) rfl dJ5_charAt_5068e_6 ?_
  refine p_astore_n (lv9 := [(3, .ref v), (2, .int 0), (0, .ref (md 4)), (1, .int (nI i9))]) C rfl (by decide) rfl dJ5_charAt_5068e_9 ?_
  refine p_aload_n C rfl 2 rfl dJ5_charAt_5068e_10 ?_
  refine p_get (v := .int (nI cn)) (T := TJ4) C 4 rfl rfl 3 (by decide) inJ4 qfl_J5_79 (fun _ h9 => h9) rfl dJ5_charAt_5068e_11 ?_
  refine p_aload_n C rfl 0 rfl dJ5_charAt_5068e_14 ?_
  refine p_alen (v := (nI cp)) C 5 4 rfl rfl rfl dJ5_charAt_5068e_15 ?_
  refine p_iload_n C rfl 1 rfl dJ5_charAt_5068e_16 ?_
  refine p_ishr C dJ5_charAt_5068e_17 ?_
  refine p_int (y := (nI cp)) (sb_shr0 _) ?_
  refine p_min (z := nI cn) (rest := []) C qml_J5_138 qst_J9_min_7cf53 qin_J9 qma_min (Nat.le_of_ble_eq_true rfl) (Nat.le_of_ble_eq_true rfl) (by decide) (by decide) (mn3 (by omega) (by omega)) dJ5_charAt_5068e_18 ?_
  refine p_istore (lv9 := [(4, .int (nI cn)), (3, .ref v), (2, .int 0), (0, .ref (md 4)), (1, .int (nI i9))]) C (by decide) rfl dJ5_charAt_5068e_21 ?_
  refine p_iload_n C rfl 4 rfl dJ5_charAt_5068e_23 ?_
  refine p_iload C 0 rfl dJ5_charAt_5068e_24 ?_
  refine c_Sv (As := [.int (nI i9), .int (nI cn)]) (rest := []) C (m_J0_checkIndex l D k (i9 := i9) (N := cn) h1 (by omega)) qml_J5_144 qst_J0_checkIndex_df160 qin_J0 qco_J0_checkIndex_df160 nd_J0_checkIndex_df160 ⟨Nat.le_of_ble_eq_true rfl, Nat.le_of_ble_eq_true rfl⟩ (Nat.le_of_ble_eq_true rfl) ⟨Nat.le_of_ble_eq_true rfl, Nat.le_of_ble_eq_true rfl⟩ rfl dJ5_charAt_5068e_26 (fun w9 h9 => ?_)
  obtain rfl := h9
  refine p_iload_n C rfl 2 rfl dJ5_charAt_5068e_29 ?_
  refine p_if_ne C 42 (by decide) dJ5_charAt_5068e_30 (fun c_30 => absurd c_30 (by decide)) (fun c_30 => ?_)
  refine p_aload_n C rfl 1 rfl dJ5_charAt_5068e_33 ?_
  refine p_iload_n C rfl 4 rfl dJ5_charAt_5068e_34 ?_
  refine p_bald (v := (bt i9)) C 5 rfl (vp_in_nI (n := i9) (N := cp) (by omega) (by omega)) (by rw [show ((nI i9)).toNatClampNeg = i9 from nI_clamp (by omega)]) dJ5_charAt_5068e_35 ?_
  refine p_sipush (v := 255) C (by decide) dJ5_charAt_5068e_36 ?_
  refine p_iand C dJ5_charAt_5068e_39 ?_
  refine p_int (y := (bt i9)) hb1 ?_
  refine p_i2c C dJ5_charAt_5068e_40 ?_
  refine p_int (y := (bt i9)) hb2 ?_
  rw [hQ]
  exact r_z C hrt9 (by rw [hb]; exact nar_c _ hc) (⟨rfl, rfl⟩) (by decide) (by decide) dJ5_charAt_5068e_41
set_option maxHeartbeats 4000000 in
set_option maxRecDepth 100000 in
/-- J4_charAt_5068e -/
theorem m_J4_charAt (l : Launch) (D : va_G) (k : Nat → ClassId) {md : Nat → Nat} {th : Int32} {n : Nat} {Am Wk Mo : Nat → Int32} {v cp cn : Nat} {bt : Nat → Int32} {ml : Int32} {Y : va_W} {i9 c9 : Nat} (h1 : i9 < cn) (hm : cn ≤ cp) (h3 : cp < 65536) (hc : c9 < 128) (hb : bt i9 = nI c9) : CtI l D k yJ4_charAt_5068e (wU yJ4_charAt_5068e cJ4_charAt_5068e 2 (some .char)) (rmL 3 0 0) [.ref (md 4), .int (nI i9)] (MW k md th (nI n) Am Wk Mo v cp bt ml (nI cn) Y) (fun r w' => r = bt i9 ∧ w' = (MW k md th (nI n) Am Wk Mo v cp bt ml (nI cn) Y)) := by
  refine openI (own := RJ4) rfl (by decide) (Nat.le_of_ble_eq_true rfl) rfl ?_
  intro p e s m args below meth c A C hrt9 hnm
  obtain ⟨Q, hQ⟩ : ∃ Q, Q = (MQ below (va_Qi (fun r w' => r = bt i9 ∧ w' = (MW k md th (nI n) Am Wk Mo v cp bt ml (nI cn) Y)) (cBA D A) A) args s 0 0 A) := ⟨_, rfl⟩
  show WP p l e (rmL 3 0 0) s m args below meth c D A 2 (MW k md th (nI n) Am Wk Mo v cp bt ml (nI cn) Y) [(0, .ref (md 4)), (1, .int (nI i9))] 0 0 (MQ below (va_Qi (fun r w' => r = bt i9 ∧ w' = (MW k md th (nI n) Am Wk Mo v cp bt ml (nI cn) Y)) (cBA D A) A) args s 0 0 A) 0 []
  rw [← hQ]
  refine p_aload_n C rfl 0 rfl dJ4_charAt_5068e_0 ?_
  refine p_iload_n C rfl 1 rfl dJ4_charAt_5068e_1 ?_
  refine c_SUi (As := [.int (nI i9)]) (rest := []) C (m_J5_charAt l D k (i9 := i9) (c9 := c9) h1 hm h3 hc hb) 4 rfl rfl qml_J4_329 qsm_J5_J5_charAt_I_C qsu_J4_J5 qim_J5_charAt_5068e qin_J5 qco_J5_charAt_5068e (by decide) nd_J5_charAt_5068e ⟨Nat.le_of_ble_eq_true rfl, Nat.le_of_ble_eq_true rfl⟩ (Nat.le_of_ble_eq_true rfl) ⟨Nat.le_of_ble_eq_true rfl, Nat.le_of_ble_eq_true rfl⟩ rfl dJ4_charAt_5068e_2 (fun r9 w9 h9 => ?_)
  obtain ⟨e9, rfl⟩ := h9
  refine p_int e9 ?_
  rw [hQ]
  exact r_z C hrt9 (by rw [hb]; exact nar_c _ hc) (⟨rfl, rfl⟩) (by decide) (by decide) dJ4_charAt_5068e_5
