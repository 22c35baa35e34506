theorem app_at {w : va_W} {x : Nat × va_E} : (w ++ [x])[w.length]? = some x := by
  rw [List.getElem?_append_right (Nat.le_refl _), Nat.sub_self]; rfl
theorem app_set {w : va_W} {x y : Nat × va_E} : (w ++ [x]).set w.length y = w ++ [y] := by
  rw [List.set_append_right _ _ (Nat.le_refl _), Nat.sub_self]; rfl
/-- the room that grows with the builder -/
def gC (q cp : Nat) : Nat := if q ≤ cp then 0 else 1
def gS (q cp : Nat) : Nat := if q ≤ cp then 0 else 2 * cp + 2
def cA (q cp : Nat) : Nat := if q ≤ cp then cp else 2 * cp + 2
theorem le_sub0 {q cp : Nat} (hq : q < 2 ^ 30) (hc : cp < 2 ^ 30) : nI q - nI cp ≤ 0 ↔ q ≤ cp := by
  have h := pk_sub_toInt hq hc
  rw [Int32.le_iff_toInt_le, h, Int32.toInt_zero]
  omega
theorem mx2 {cp q : Nat} (h : cp < q) (h2 : q ≤ 2 * cp + 2) (hc : cp < 2 ^ 28) : (if nI (q - cp) < nI (cp + 2) then nI (cp + 2) else nI (q - cp)) = nI (cp + 2) := by
  by_cases e : q - cp < cp + 2
  · rw [if_pos (nI_lt e (by omega))]
  · rw [if_neg (nI_nlt (by omega) (by omega)), show q - cp = cp + 2 by omega]
theorem mn2 {cp N : Nat} (h : cp ≤ N) (hN : N < 2 ^ 31) : (if nI N < nI cp then nI N else nI cp) = nI cp := if_neg (nI_nlt h hN)
theorem i2b_c : ∀ c, c < 128 → (nI c).toInt8.toInt32 = nI c := by decide +kernel
theorem i2c_c : ∀ c, c < 256 → ((nI c).toUInt32 % 65536).toInt32 = nI c := by decide +kernel
theorem and255 : ∀ c, c < 256 → nI c &&& 255 = nI c := by decide +kernel
theorem ln_neg {a : Nat} (h : a < 2 ^ 62) : (-lN a).toInt = -(a : Int) := by
  rw [Int64.toInt_neg, pk_lT (by omega), Int.bmod_eq_of_le (by omega) (by omega)]
theorem ln_nle {a b : Nat} (ha : a < 2 ^ 62) (hb : b < 2 ^ 62) : lg_cmp (-lN a) (-lN b) ≤ 0 ↔ b ≤ a := by
  rw [lg_cmp_le, Int64.le_iff_toInt_le, ln_neg ha, ln_neg hb]
  omega
theorem ln_10 (a : Nat) : 10 * -lN a = -lN (10 * a) := by
  rw [Int64.mul_neg, ← lN_mul]; rfl
theorem ln_i {a : Nat} : (-lN a).toInt32 = -nI a := by
  rw [Int64.toInt32_neg, lN_i]
theorem ln_ge0 {a : Nat} (h : a < 2 ^ 62) : 0 ≤ lg_cmp (lN a) 0 := by
  rw [lg_cmp_ge, show (0 : Int64) = lN 0 from rfl, pk_lLE (by omega) (by omega)]
  omega
theorem ln_nlt0 {a : Nat} (h : a < 2 ^ 62) : ¬ lg_cmp (lN a) 0 < 0 := fun q => absurd q (Int32.not_lt.mpr (ln_ge0 h))
theorem ln_min {w : Nat} (h : w ≤ 2147483648) (c : ¬ 0 < lg_cmp (-lN w) (-2147483648)) : w = 2147483648 := by
  have c2 : lg_cmp (-lN w) (-lN 2147483648) ≤ 0 := Int32.not_lt.mp c
  have := (ln_nle (by omega) (by omega)).mp c2
  omega
theorem ln_min2 {w : Nat} (h : w ≤ 2147483648) (c : 0 < lg_cmp (-lN w) (-2147483648)) : w < 2147483648 := by
  rcases Nat.lt_or_eq_of_le h with q | q
  · exact q
  · subst q; exact absurd c (by decide)
set_option maxHeartbeats 4000000 in
set_option maxRecDepth 100000 in
/-- J5_isLatin1_aae02 -/
theorem m_J5_isLatin1 (l : Launch) (D : va_G) (k : Nat → ClassId) {md : Nat → Nat} {th : Int32} {n : Nat} {Am Wk Mo : Nat → Int32} {v cp m : Nat} {bt : Nat → Int32} {ml : Int32} {Y : va_W}  : CtI l D k yJ5_isLatin1_aae02 (wU yJ5_isLatin1_aae02 cJ5_isLatin1_aae02 1 (some .boolean)) (rmL 0 0 0) [.ref (md 4)] (MW k md th (nI n) Am Wk Mo v cp bt ml (nI m) Y) (fun r w' => r = 1 ∧ w' = (MW k md th (nI n) Am Wk Mo v cp bt ml (nI m) Y)) := by
  refine openI (own := RJ5) rfl (by decide) (Nat.le_of_ble_eq_true rfl) rfl ?_
  intro p e s m args below meth c A C hrt9 hnm
  obtain ⟨Q, hQ⟩ : ∃ Q, Q = (MQ below (va_Qi (fun r w' => r = 1 ∧ w' = (MW k md th (nI n) Am Wk Mo v cp bt ml (nI m) Y)) (cBA D A) A) args s 0 0 A) := ⟨_, rfl⟩
  show WP p l e (rmL 0 0 0) s m args below meth c D A 1 (MW k md th (nI n) Am Wk Mo v cp bt ml (nI m) Y) [(0, .ref (md 4))] 0 0 (MQ below (va_Qi (fun r w' => r = 1 ∧ w' = (MW k md th (nI n) Am Wk Mo v cp bt ml (nI m) Y)) (cBA D A) A) args s 0 0 A) 0 []
  rw [← hQ]
  refine p_gets (v := .int 1) C C.2.2.2.2.2.2.2.2.2.2.2.2.1 qfl_J5_18 (fun _ h9 => h9) dJ5_isLatin1_aae02_0 ?_
  refine p_if_eq C 17 (by decide) dJ5_isLatin1_aae02_3 (fun c_3 => absurd c_3 (by decide)) (fun c_3 => ?_)
  refine p_aload_n C rfl 0 rfl dJ5_isLatin1_aae02_6 ?_
  refine p_get (v := .int 0) (T := TJ4) C 4 rfl rfl 1 (by decide) inJ4 qfl_J5_22 (fun _ h9 => h9) rfl dJ5_isLatin1_aae02_7 ?_
  refine p_if_ne C 17 (by decide) dJ5_isLatin1_aae02_10 (fun c_10 => absurd c_10 (by decide)) (fun c_10 => ?_)
  refine p_iconst (v := 1) C (by decide) dJ5_isLatin1_aae02_13 ?_
  refine p_goto C 18 (by decide) dJ5_isLatin1_aae02_14 ?_
  rw [hQ]
  exact r_z C hrt9 rfl (⟨rfl, rfl⟩) (by decide) (by decide) dJ5_isLatin1_aae02_18
set_option maxHeartbeats 4000000 in
set_option maxRecDepth 100000 in
/-- J5_length_8abf5 -/
theorem m_J5_length (l : Launch) (D : va_G) (k : Nat → ClassId) {md : Nat → Nat} {th : Int32} {n : Nat} {Am Wk Mo : Nat → Int32} {v cp m : Nat} {bt : Nat → Int32} {ml : Int32} {Y : va_W}  : CtI l D k yJ5_length_8abf5 (wU yJ5_length_8abf5 cJ5_length_8abf5 1 (some .int)) (rmL 0 0 0) [.ref (md 4)] (MW k md th (nI n) Am Wk Mo v cp bt ml (nI m) Y) (fun r w' => r = nI m ∧ w' = (MW k md th (nI n) Am Wk Mo v cp bt ml (nI m) Y)) := by
  refine openI (own := RJ5) rfl (by decide) (Nat.le_of_ble_eq_true rfl) rfl ?_
  intro p e s m args below meth c A C hrt9 hnm
  obtain ⟨Q, hQ⟩ : ∃ Q, Q = (MQ below (va_Qi (fun r w' => r = nI m ∧ w' = (MW k md th (nI n) Am Wk Mo v cp bt ml (nI m) Y)) (cBA D A) A) args s 0 0 A) := ⟨_, rfl⟩
  show WP p l e (rmL 0 0 0) s m args below meth c D A 1 (MW k md th (nI n) Am Wk Mo v cp bt ml (nI m) Y) [(0, .ref (md 4))] 0 0 (MQ below (va_Qi (fun r w' => r = nI m ∧ w' = (MW k md th (nI n) Am Wk Mo v cp bt ml (nI m) Y)) (cBA D A) A) args s 0 0 A) 0 []
  rw [← hQ]
  refine p_aload_n C rfl 0 rfl dJ5_length_8abf5_0 ?_
  refine p_get (v := .int (nI m)) (T := TJ4) C 4 rfl rfl 3 (by decide) inJ4 qfl_J5_79 (fun _ h9 => h9) rfl dJ5_length_8abf5_1 ?_
  rw [hQ]
  exact r_i C hrt9 (⟨rfl, rfl⟩) (by decide) (by decide) dJ5_length_8abf5_4
set_option maxHeartbeats 4000000 in
set_option maxRecDepth 100000 in
/-- J4_length_8abf5 -/
theorem m_J4_length (l : Launch) (D : va_G) (k : Nat → ClassId) {md : Nat → Nat} {th : Int32} {n : Nat} {Am Wk Mo : Nat → Int32} {v cp m : Nat} {bt : Nat → Int32} {ml : Int32} {Y : va_W}  : CtI l D k yJ4_length_8abf5 (wU yJ4_length_8abf5 cJ4_length_8abf5 1 (some .int)) (rmL 1 0 0) [.ref (md 4)] (MW k md th (nI n) Am Wk Mo v cp bt ml (nI m) Y) (fun r w' => r = nI m ∧ w' = (MW k md th (nI n) Am Wk Mo v cp bt ml (nI m) Y)) := by
  refine openI (own := RJ4) rfl (by decide) (Nat.le_of_ble_eq_true rfl) rfl ?_
  intro p e s m args below meth c A C hrt9 hnm
  obtain ⟨Q, hQ⟩ : ∃ Q, Q = (MQ below (va_Qi (fun r w' => r = nI m ∧ w' = (MW k md th (nI n) Am Wk Mo v cp bt ml (nI m) Y)) (cBA D A) A) args s 0 0 A) := ⟨_, rfl⟩
  show WP p l e (rmL 1 0 0) s m args below meth c D A 1 (MW k md th (nI n) Am Wk Mo v cp bt ml (nI m) Y) [(0, .ref (md 4))] 0 0 (MQ below (va_Qi (fun r w' => r = nI m ∧ w' = (MW k md th (nI n) Am Wk Mo v cp bt ml (nI m) Y)) (cBA D A) A) args s 0 0 A) 0 []
  rw [← hQ]
  refine p_aload_n C rfl 0 rfl dJ4_length_8abf5_0 ?_
  refine c_SUi (As := []) (rest := []) C (m_J5_length l D k ) 4 rfl rfl qml_J4_343 qsm_J5_J5_length__I qsu_J4_J5 qim_J5_length_8abf5 qin_J5 qco_J5_length_8abf5 (by decide) nd_J5_length_8abf5 ⟨Nat.le_of_ble_eq_true rfl, Nat.le_of_ble_eq_true rfl⟩ (Nat.le_of_ble_eq_true rfl) ⟨Nat.le_of_ble_eq_true rfl, Nat.le_of_ble_eq_true rfl⟩ rfl dJ4_length_8abf5_1 (fun r9 w9 h9 => ?_)
  obtain ⟨e9, rfl⟩ := h9
  refine p_int e9 ?_
  rw [hQ]
  exact r_i C hrt9 (⟨rfl, rfl⟩) (by decide) (by decide) dJ4_length_8abf5_4
set_option maxHeartbeats 4000000 in
set_option maxRecDepth 100000 in
/-- newLength -/
theorem m_J8_newLength (l : Launch) (D : va_G) (k : Nat → ClassId) {w : va_W} {cp q : Nat} (h1 : cp < q) (h2 : q ≤ 2 * cp + 2) (h3 : cp < 65536) : CtI l D k yJ8_newLength_cabcc (wU yJ8_newLength_cabcc cJ8_newLength_cabcc 4 (some .int)) (rmL 0 0 0) [.int (nI cp), .int (nI (q - cp)), .int (nI (cp + 2))] w (fun r w' => r = nI (2 * cp + 2) ∧ w' = w) := by
  refine openI (own := RJ8) rfl (by decide) (Nat.le_of_ble_eq_true rfl) rfl ?_
  intro p e s m args below meth c A C hrt9 hnm
  obtain ⟨Q, hQ⟩ : ∃ Q, Q = (MQ below (va_Qi (fun r w' => r = nI (2 * cp + 2) ∧ w' = w) (cBA D A) A) args s 0 0 A) := ⟨_, rfl⟩
  show WP p l e (rmL 0 0 0) s m args below meth c D A 4 w [(0, .int (nI cp)), (1, .int (nI (q - cp))), (2, .int (nI (cp + 2)))] 0 0 (MQ below (va_Qi (fun r w' => r = nI (2 * cp + 2) ∧ w' = w) (cBA D A) A) args s 0 0 A) 0 []
  rw [← hQ]
  refine p_iload_n C rfl 0 rfl dJ8_newLength_cabcc_0 ?_
  refine p_iload_n C rfl 1 rfl dJ8_newLength_cabcc_1 ?_
  refine p_iload_n C rfl 2 rfl dJ8_newLength_cabcc_2 ?_
  refine p_max (z := nI (cp + 2)) (rest := [.int (nI cp)]) C qml_J8_194 qst_J9_max_7cf53 qin_J9 qma_max (by decide) (Nat.le_of_ble_eq_true rfl) (by decide) (by decide) (mx2 h1 h2 (by omega)) dJ8_newLength_cabcc_3 ?_
  refine p_iadd C dJ8_newLength_cabcc_6 ?_
  refine p_int (y := (nI (2 * cp + 2))) (by rw [nI_add, show cp + (cp + 2) = 2 * cp + 2 by omega]) ?_
  refine p_istore_n (lv9 := [(3, .int (nI (2 * cp + 2))), (0, .int (nI cp)), (1, .int (nI (q - cp))), (2, .int (nI (cp + 2)))]) C rfl (by decide) rfl dJ8_newLength_cabcc_7 ?_
  refine p_iconst (v := (nI 0)) C (by decide) dJ8_newLength_cabcc_8 ?_
  refine p_iload_n C rfl 0 rfl dJ8_newLength_cabcc_9 ?_
  refine p_icmp_ge C 21 (by decide) dJ8_newLength_cabcc_10 (fun c_10 => absurd c_10 (nI_ge (show 0 < 2 * cp + 2 by omega) (by omega))) (fun c_10 => ?_)
  refine p_iload_n C rfl 0 rfl dJ8_newLength_cabcc_13 ?_
  refine p_ldc C qk_J8_200 dJ8_newLength_cabcc_14 ?_
  refine p_icmp_gt C 21 (by decide) dJ8_newLength_cabcc_16 (fun c_16 => absurd c_16 (nI_nlt (a := 2147483639) (b := 2 * cp + 2) (by omega) (by omega))) (fun c_16 => ?_)
  refine p_iload_n C rfl 0 rfl dJ8_newLength_cabcc_19 ?_
  rw [hQ]
  exact r_i C hrt9 (⟨rfl, rfl⟩) (by decide) (by decide) dJ8_newLength_cabcc_20
set_option maxHeartbeats 4000000 in
set_option maxRecDepth 100000 in
/-- J5_newCapacity_0f7a4 -/
theorem m_J5_newCapacity (l : Launch) (D : va_G) (k : Nat → ClassId) {md : Nat → Nat} {th : Int32} {n : Nat} {Am Wk Mo : Nat → Int32} {v cp m : Nat} {bt : Nat → Int32} {ml : Int32} {Y : va_W} {q : Nat} (h1 : cp < q) (h2 : q ≤ 2 * cp + 2) (h3 : cp < 65536 / 4) : CtI l D k yJ5_newCapacity_0f7a4 (wU yJ5_newCapacity_0f7a4 cJ5_newCapacity_0f7a4 6 (some .int)) (rmL 1 0 0) [.ref (md 4), .int (nI q)] (MW k md th (nI n) Am Wk Mo v cp bt ml (nI m) Y) (fun r w' => r = nI (2 * cp + 2) ∧ w' = (MW k md th (nI n) Am Wk Mo v cp bt ml (nI m) Y)) := by
  refine openI (own := RJ5) rfl (by decide) (Nat.le_of_ble_eq_true rfl) rfl ?_
  intro p e s m args below meth c A C hrt9 hnm
  obtain ⟨Q, hQ⟩ : ∃ Q, Q = (MQ below (va_Qi (fun r w' => r = nI (2 * cp + 2) ∧ w' = (MW k md th (nI n) Am Wk Mo v cp bt ml (nI m) Y)) (cBA D A) A) args s 0 0 A) := ⟨_, rfl⟩
  show WP p l e (rmL 1 0 0) s m args below meth c D A 6 (MW k md th (nI n) Am Wk Mo v cp bt ml (nI m) Y) [(0, .ref (md 4)), (1, .int (nI q))] 0 0 (MQ below (va_Qi (fun r w' => r = nI (2 * cp + 2) ∧ w' = (MW k md th (nI n) Am Wk Mo v cp bt ml (nI m) Y)) (cBA D A) A) args s 0 0 A) 0 []
  rw [← hQ]
  refine p_aload_n C rfl 0 rfl dJ5_newCapacity_0f7a4_0 ?_
  refine p_get (v := .ref v) (T := TJ4) C 4 rfl rfl 0 (by decide) inJ4 qfl_J5_15 (fun _ h9 => h9) rfl dJ5_newCapacity_0f7a4_1 ?_
  refine p_alen (v := (nI cp)) C 5 4 rfl rfl rfl dJ5_newCapacity_0f7a4_4 ?_
  refine p_istore_n (lv9 := [(2, .int (nI cp)), (0, .ref (md 4)), (1, .int (nI q))]) C rfl (by decide) rfl dJ5_newCapacity_0f7a4_5 ?_
  refine p_iload_n C rfl 2 rfl dJ5_newCapacity_0f7a4_6 ?_
  refine p_aload_n C rfl 1 rfl dJ5_newCapacity_0f7a4_7 ?_
  refine p_get (v := .int 0) (T := TJ4) C 4 rfl rfl 1 (by decide) inJ4 qfl_J5_22 (fun _ h9 => h9) rfl dJ5_newCapacity_0f7a4_8 ?_
  refine p_ishl C dJ5_newCapacity_0f7a4_11 ?_
  refine p_int (y := (nI q)) (sb_shl0 _) ?_
  refine p_istore_n (lv9 := [(3, .int (nI q)), (2, .int (nI cp)), (0, .ref (md 4)), (1, .int (nI q))]) C rfl (by decide) rfl dJ5_newCapacity_0f7a4_12 ?_
  refine p_iload_n C rfl 0 rfl dJ5_newCapacity_0f7a4_13 ?_
  refine p_iload_n C rfl 1 rfl dJ5_newCapacity_0f7a4_14 ?_
  refine p_isub C dJ5_newCapacity_0f7a4_15 ?_
  refine p_int (y := (nI (q - cp))) (pk_sub (by omega)) ?_
  refine p_istore (lv9 := [(4, .int (nI (q - cp))), (3, .int (nI q)), (2, .int (nI cp)), (0, .ref (md 4)), (1, .int (nI q))]) C (by decide) rfl dJ5_newCapacity_0f7a4_16 ?_
  refine p_iload_n C rfl 2 rfl dJ5_newCapacity_0f7a4_18 ?_
  refine p_iload C 0 rfl dJ5_newCapacity_0f7a4_19 ?_
  refine p_iload_n C rfl 2 rfl dJ5_newCapacity_0f7a4_21 ?_
  refine p_iconst (v := 2) C (by decide) dJ5_newCapacity_0f7a4_22 ?_
  refine p_aload_n C rfl 3 rfl dJ5_newCapacity_0f7a4_23 ?_
  refine p_get (v := .int 0) (T := TJ4) C 4 rfl rfl 1 (by decide) inJ4 qfl_J5_22 (fun _ h9 => h9) rfl dJ5_newCapacity_0f7a4_24 ?_
  refine p_ishl C dJ5_newCapacity_0f7a4_27 ?_
  refine p_int (y := 2) (sb_shl0 _) ?_
  refine p_iadd C dJ5_newCapacity_0f7a4_28 ?_
  refine p_int (y := (nI (cp + 2))) (nI_add cp 2) ?_
  refine c_Si (As := [.int (nI cp), .int (nI (q - cp)), .int (nI (cp + 2))]) (rest := []) C (m_J8_newLength l D k (cp := cp) (q := q) h1 h2 h3) qml_J5_114 qst_J8_newLength_cabcc qin_J8 qco_J8_newLength_cabcc nd_J8_newLength_cabcc ⟨Nat.le_of_ble_eq_true rfl, Nat.le_of_ble_eq_true rfl⟩ (Nat.le_of_ble_eq_true rfl) ⟨Nat.le_of_ble_eq_true rfl, Nat.le_of_ble_eq_true rfl⟩ rfl dJ5_newCapacity_0f7a4_29 (fun r9 w9 h9 => ?_)
  obtain ⟨e9, rfl⟩ := h9
  refine p_int e9 ?_
  refine p_istore (lv9 := [(5, .int (nI (2 * cp + 2))), (4, .int (nI (q - cp))), (3, .int (nI q)), (2, .int (nI cp)), (0, .ref (md 4)), (1, .int (nI q))]) C (by decide) rfl dJ5_newCapacity_0f7a4_32 ?_
  refine p_iload C 0 rfl dJ5_newCapacity_0f7a4_34 ?_
  refine p_ldc C qk_J5_39 dJ5_newCapacity_0f7a4_36 ?_
  refine p_icmp_ne C 51 (by decide) dJ5_newCapacity_0f7a4_38 (fun c_38 => ?_) (fun c_38 => absurd (fun z : nI (2 * cp + 2) = 2147483647 => absurd ((@nI_eq (2 * cp + 2) 2147483647 (by omega) (by omega)).mp z) (by omega)) c_38)
  refine p_iload C 0 rfl dJ5_newCapacity_0f7a4_51 ?_
  refine p_aload_n C rfl 4 rfl dJ5_newCapacity_0f7a4_53 ?_
  refine p_get (v := .int 0) (T := TJ4) C 4 rfl rfl 1 (by decide) inJ4 qfl_J5_22 (fun _ h9 => h9) rfl dJ5_newCapacity_0f7a4_54 ?_
  refine p_ishr C dJ5_newCapacity_0f7a4_57 ?_
  refine p_int (y := (nI (2 * cp + 2))) (sb_shr0 _) ?_
  rw [hQ]
  exact r_i C hrt9 (⟨rfl, rfl⟩) (by decide) (by decide) dJ5_newCapacity_0f7a4_58
set_option maxHeartbeats 4000000 in
set_option maxRecDepth 100000 in
/-- J7_copyOf_9075b -/
theorem m_J7_copyOf (l : Launch) (D : va_G) (k : Nat → ClassId) {md : Nat → Nat} {th : Int32} {n : Nat} {Am Wk Mo : Nat → Int32} {v cp m : Nat} {bt : Nat → Int32} {ml : Int32} {Y : va_W} {N : Nat} (h1 : cp < N) (h2 : N < 65536) (hft : sb_Fit bt) : CtR l D k yJ7_copyOf_9075b (wU yJ7_copyOf_9075b cJ7_copyOf_9075b 3 (some (.array .byte))) (rmL 0 1 N) [.ref v, .int (nI N)] (MW k md th (nI n) Am Wk Mo v cp bt ml (nI m) Y) (fun a w' => ∃ bt', sb_Fit bt' ∧ (∀ j, j < cp → bt' j = bt j) ∧ w' = (MW k md th (nI n) Am Wk Mo v cp bt ml (nI m) Y) ++ [(a, aB k N bt')]) := by
  refine openR (own := RJ7) rfl (by decide) (Nat.le_of_ble_eq_true rfl) rfl ?_
  intro p e s m args below meth c A C hrt9 hnm
  obtain ⟨Q, hQ⟩ : ∃ Q, Q = (MQ below (va_Qr (fun _ => True) (fun w' a t => (fun a w' => ∃ bt', sb_Fit bt' ∧ (∀ j, j < cp → bt' j = bt j) ∧ w' = (MW k md th (nI n) Am Wk Mo v cp bt ml (nI m) Y) ++ [(a, aB k N bt')]) a w' ∧ cBA D A w' t) A) args s 1 N A) := ⟨_, rfl⟩
  show WP p l e (rmL 0 1 N) s m args below meth c D A 3 (MW k md th (nI n) Am Wk Mo v cp bt ml (nI m) Y) [(0, .ref v), (1, .int (nI N))] 0 0 (MQ below (va_Qr (fun _ => True) (fun w' a t => (fun a w' => ∃ bt', sb_Fit bt' ∧ (∀ j, j < cp → bt' j = bt j) ∧ w' = (MW k md th (nI n) Am Wk Mo v cp bt ml (nI m) Y) ++ [(a, aB k N bt')]) a w' ∧ cBA D A w' t) A) args s 1 N A) 0 []
  rw [← hQ]
  refine p_iload_n C rfl 1 rfl dJ7_copyOf_9075b_0 ?_
  refine p_aload_n C rfl 0 rfl dJ7_copyOf_9075b_1 ?_
  refine p_alen (v := (nI cp)) C 5 4 rfl rfl rfl dJ7_copyOf_9075b_2 ?_
  refine p_icmp_ne C 14 (by decide) dJ7_copyOf_9075b_3 (fun c_3 => ?_) (fun c_3 => absurd (fun z : nI N = nI cp => absurd ((nI_eq (by omega) (by omega)).mp z) (by omega)) c_3)
  refine p_iload_n C rfl 1 rfl dJ7_copyOf_9075b_14 ?_
  refine p_newa_b (N := N) C qaC_byte (by omega) (by show 0 + 1 ≤ 1; omega) (by show 0 + N ≤ N; omega) dJ7_copyOf_9075b_15 (fun q9 => ?_)
  refine p_astore_n (lv9 := [(2, .ref q9), (0, .ref v), (1, .int (nI N))]) C rfl (by decide) rfl dJ7_copyOf_9075b_17 ?_
  refine p_aload_n C rfl 1 rfl dJ7_copyOf_9075b_18 ?_
  refine p_iconst (v := (nI 0)) C (by decide) dJ7_copyOf_9075b_19 ?_
  refine p_aload_n C rfl 0 rfl dJ7_copyOf_9075b_20 ?_
  refine p_iconst (v := (nI 0)) C (by decide) dJ7_copyOf_9075b_21 ?_
  refine p_aload_n C rfl 1 rfl dJ7_copyOf_9075b_22 ?_
  refine p_alen (v := (nI cp)) C 5 4 rfl rfl rfl dJ7_copyOf_9075b_23 ?_
  refine p_iload_n C rfl 2 rfl dJ7_copyOf_9075b_24 ?_
  refine p_min (z := nI cp) (rest := [.int (nI 0), .ref q9, .int (nI 0), .ref v]) C qml_J7_304 qst_J9_min_7cf53 qin_J9 qma_min (by decide) (Nat.le_of_ble_eq_true rfl) (by show 0 + 1 ≤ 1; omega) (by show 0 + N ≤ N; omega) (mn2 (by omega) (by omega)) dJ7_copyOf_9075b_25 ?_
  refine p_copyb (rest := []) (sp := 0) (dp := 0) (n := cp) (w9 := ((MW k md th (nI n) Am Wk Mo v cp bt ml (nI m) Y) ++ [(q9, aB k N (va_cpy bt (fun _ => 0) 0 0 cp))])) C qml_J7_150 qnt_arraycopyName qst_arraycopyName qin_J10 5 (MW k md th (nI n) Am Wk Mo v cp bt ml (nI m) Y).length rfl app_at hft (by omega) (by omega) (by omega) (by omega) (by decide) (by decide +kernel) app_set dJ7_copyOf_9075b_28 ?_
  refine p_aload_n C rfl 0 rfl dJ7_copyOf_9075b_31 ?_
  rw [hQ]
  exact r_r C hrt9 (Or.inr ⟨_, rfl⟩) (⟨_, sb_fitC hft sb_fit0, fun j hj => sb_cpy0 hj, rfl⟩) (by omega) (by omega) dJ7_copyOf_9075b_32
set_option maxHeartbeats 4000000 in
set_option maxRecDepth 100000 in
/-- J5_ensureCapacityInternal_d00df -/
theorem m_J5_ens_a (l : Launch) (D : va_G) (k : Nat → ClassId) {md : Nat → Nat} {th : Int32} {n : Nat} {Am Wk Mo : Nat → Int32} {v cp m : Nat} {bt : Nat → Int32} {ml : Int32} {Y : va_W} {q : Nat} (h1 : q ≤ cp) (h3 : cp < 65536 / 4) : CtV l D k yJ5_ensureCapacityInternal_d00df (wU yJ5_ensureCapacityInternal_d00df cJ5_ensureCapacityInternal_d00df 3 (none)) (rmL 0 0 0) [.ref (md 4), .int (nI q)] (MW k md th (nI n) Am Wk Mo v cp bt ml (nI m) Y) (fun w' => w' = (MW k md th (nI n) Am Wk Mo v cp bt ml (nI m) Y)) := by
  refine openV (own := RJ5) rfl (by decide) (Nat.le_of_ble_eq_true rfl) rfl ?_
  intro p e s m args below meth c A C hrt9 hnm
  obtain ⟨Q, hQ⟩ : ∃ Q, Q = (MQ below (va_Qv (fun w' => w' = (MW k md th (nI n) Am Wk Mo v cp bt ml (nI m) Y)) (cBA D A) A) args s 0 0 A) := ⟨_, rfl⟩
  show WP p l e (rmL 0 0 0) s m args below meth c D A 3 (MW k md th (nI n) Am Wk Mo v cp bt ml (nI m) Y) [(0, .ref (md 4)), (1, .int (nI q))] 0 0 (MQ below (va_Qv (fun w' => w' = (MW k md th (nI n) Am Wk Mo v cp bt ml (nI m) Y)) (cBA D A) A) args s 0 0 A) 0 []
  rw [← hQ]
  refine p_aload_n C rfl 0 rfl dJ5_ensureCapacityInternal_d00df_0 ?_
  refine p_get (v := .ref v) (T := TJ4) C 4 rfl rfl 0 (by decide) inJ4 qfl_J5_15 (fun _ h9 => h9) rfl dJ5_ensureCapacityInternal_d00df_1 ?_
  refine p_alen (v := (nI cp)) C 5 4 rfl rfl rfl dJ5_ensureCapacityInternal_d00df_4 ?_
  refine p_aload_n C rfl 0 rfl dJ5_ensureCapacityInternal_d00df_5 ?_
  refine p_get (v := .int 0) (T := TJ4) C 4 rfl rfl 1 (by decide) inJ4 qfl_J5_22 (fun _ h9 => h9) rfl dJ5_ensureCapacityInternal_d00df_6 ?_
  refine p_ishr C dJ5_ensureCapacityInternal_d00df_9 ?_
  refine p_int (y := (nI cp)) (sb_shr0 _) ?_
  refine p_istore_n (lv9 := [(2, .int (nI cp)), (0, .ref (md 4)), (1, .int (nI q))]) C rfl (by decide) rfl dJ5_ensureCapacityInternal_d00df_10 ?_
  refine p_iload_n C rfl 2 rfl dJ5_ensureCapacityInternal_d00df_11 ?_
  refine p_iload_n C rfl 0 rfl dJ5_ensureCapacityInternal_d00df_12 ?_
  refine p_isub C dJ5_ensureCapacityInternal_d00df_13 ?_
  refine p_if_le C 38 (by decide) dJ5_ensureCapacityInternal_d00df_14 (fun c_14 => ?_) (fun c_14 => absurd ((le_sub0 (by omega) (by omega)).mpr h1) c_14)
  rw [hQ]
  exact r_v C hrt9 rfl (by decide) (by decide) dJ5_ensureCapacityInternal_d00df_38
set_option maxHeartbeats 4000000 in
set_option maxRecDepth 100000 in
/-- J5_ensureCapacityInternal_d00df -/
theorem m_J5_ens_b (l : Launch) (D : va_G) (k : Nat → ClassId) {md : Nat → Nat} {th : Int32} {n : Nat} {Am Wk Mo : Nat → Int32} {v cp m : Nat} {bt : Nat → Int32} {ml : Int32} {Y : va_W} {q : Nat} (h1 : cp < q) (h2 : q ≤ 2 * cp + 2) (h3 : cp < 65536 / 4) (hft : sb_Fit bt) : CtV l D k yJ5_ensureCapacityInternal_d00df (wU yJ5_ensureCapacityInternal_d00df cJ5_ensureCapacityInternal_d00df 3 (none)) (rmL 2 1 (2 * cp + 2)) [.ref (md 4), .int (nI q)] (MW k md th (nI n) Am Wk Mo v cp bt ml (nI m) Y) (fun w' => ∃ v' bt', sb_Fit bt' ∧ (∀ j, j < cp → bt' j = bt j) ∧ w' = (MW k md th (nI n) Am Wk Mo v' (2 * cp + 2) bt' ml (nI m) Y)) := by
  refine openV (own := RJ5) rfl (by decide) (Nat.le_of_ble_eq_true rfl) rfl ?_
  intro p e s m args below meth c A C hrt9 hnm
  obtain ⟨Q, hQ⟩ : ∃ Q, Q = (MQ below (va_Qv (fun w' => ∃ v' bt', sb_Fit bt' ∧ (∀ j, j < cp → bt' j = bt j) ∧ w' = (MW k md th (nI n) Am Wk Mo v' (2 * cp + 2) bt' ml (nI m) Y)) (cBA D A) A) args s 1 (2 * cp + 2) A) := ⟨_, rfl⟩
  show WP p l e (rmL 2 1 (2 * cp + 2)) s m args below meth c D A 3 (MW k md th (nI n) Am Wk Mo v cp bt ml (nI m) Y) [(0, .ref (md 4)), (1, .int (nI q))] 0 0 (MQ below (va_Qv (fun w' => ∃ v' bt', sb_Fit bt' ∧ (∀ j, j < cp → bt' j = bt j) ∧ w' = (MW k md th (nI n) Am Wk Mo v' (2 * cp + 2) bt' ml (nI m) Y)) (cBA D A) A) args s 1 (2 * cp + 2) A) 0 []
  rw [← hQ]
  refine p_aload_n C rfl 0 rfl dJ5_ensureCapacityInternal_d00df_0 ?_
  refine p_get (v := .ref v) (T := TJ4) C 4 rfl rfl 0 (by decide) inJ4 qfl_J5_15 (fun _ h9 => h9) rfl dJ5_ensureCapacityInternal_d00df_1 ?_
  refine p_alen (v := (nI cp)) C 5 4 rfl rfl rfl dJ5_ensureCapacityInternal_d00df_4 ?_
  refine p_aload_n C rfl 0 rfl dJ5_ensureCapacityInternal_d00df_5 ?_
  refine p_get (v := .int 0) (T := TJ4) C 4 rfl rfl 1 (by decide) inJ4 qfl_J5_22 (fun _ h9 => h9) rfl dJ5_ensureCapacityInternal_d00df_6 ?_
  refine p_ishr C dJ5_ensureCapacityInternal_d00df_9 ?_
  refine p_int (y := (nI cp)) (sb_shr0 _) ?_
  refine p_istore_n (lv9 := [(2, .int (nI cp)), (0, .ref (md 4)), (1, .int (nI q))]) C rfl (by decide) rfl dJ5_ensureCapacityInternal_d00df_10 ?_
  refine p_iload_n C rfl 2 rfl dJ5_ensureCapacityInternal_d00df_11 ?_
  refine p_iload_n C rfl 0 rfl dJ5_ensureCapacityInternal_d00df_12 ?_
  refine p_isub C dJ5_ensureCapacityInternal_d00df_13 ?_
  refine p_if_le C 38 (by decide) dJ5_ensureCapacityInternal_d00df_14 (fun c_14 => absurd c_14 (fun z => absurd ((le_sub0 (by omega) (by omega)).mp z) (by omega))) (fun c_14 => ?_)
  refine p_aload_n C rfl 1 rfl dJ5_ensureCapacityInternal_d00df_17 ?_
  refine p_aload_n C rfl 1 rfl dJ5_ensureCapacityInternal_d00df_18 ?_
  refine p_get (v := .ref v) (T := TJ4) C 4 rfl rfl 0 (by decide) inJ4 qfl_J5_15 (fun _ h9 => h9) rfl dJ5_ensureCapacityInternal_d00df_19 ?_
  refine p_aload_n C rfl 1 rfl dJ5_ensureCapacityInternal_d00df_22 ?_
  refine p_iload_n C rfl 2 rfl dJ5_ensureCapacityInternal_d00df_23 ?_
  refine c_Ui (As := [.int (nI q)]) (rest := [.ref v, .ref (md 4)]) C (m_J5_newCapacity l D k (q := q) h1 h2 h3) 4 rfl rfl qml_J5_104 qsm_J5_J5_newCapacity_I_I qse_J4_J5_newCapacity_0f7a4 qim_J5_newCapacity_0f7a4 qin_J5 qco_J5_newCapacity_0f7a4 nd_J5_newCapacity_0f7a4 ⟨Nat.le_of_ble_eq_true rfl, Nat.le_of_ble_eq_true rfl⟩ (Nat.le_of_ble_eq_true rfl) ⟨Nat.le_of_ble_eq_true rfl, by show 0 + 0 ≤ (2 * cp + 2); omega⟩ rfl dJ5_ensureCapacityInternal_d00df_24 (fun r9 w9 h9 => ?_)
  obtain ⟨e9, rfl⟩ := h9
  refine p_int e9 ?_
  refine p_aload_n C rfl 1 rfl dJ5_ensureCapacityInternal_d00df_27 ?_
  refine p_get (v := .int 0) (T := TJ4) C 4 rfl rfl 1 (by decide) inJ4 qfl_J5_22 (fun _ h9 => h9) rfl dJ5_ensureCapacityInternal_d00df_28 ?_
  refine p_ishl C dJ5_ensureCapacityInternal_d00df_31 ?_
  refine p_int (y := (nI (2 * cp + 2))) (sb_shl0 _) ?_
  refine c_Sr (As := [.ref v, .int (nI (2 * cp + 2))]) (rest := [.ref (md 4)]) C (m_J7_copyOf l D k (N := (2 * cp + 2)) (by omega) (by omega) hft) qml_J5_108 qst_J7_copyOf_9075b qin_J7 qco_J7_copyOf_9075b nd_J7_copyOf_9075b ⟨Nat.le_of_ble_eq_true rfl, Nat.le_of_ble_eq_true rfl⟩ (Nat.le_of_ble_eq_true rfl) ⟨Nat.le_of_ble_eq_true rfl, by show 0 + (2 * cp + 2) ≤ (2 * cp + 2); omega⟩ rfl dJ5_ensureCapacityInternal_d00df_32 (fun r9 w9 h9 => ?_)
  obtain ⟨bt9, hft9, hk9, rfl⟩ := h9
  refine p_put (w9 := (MW k md th (nI n) Am Wk Mo v cp bt ml (nI m) Y).set 4 (md 4, oK 3 [.ref r9, .int 0, .int ml, .int (nI m)]) ++ [(r9, aB k (2 * cp + 2) bt9)]) (v := .ref r9) (T := TJ4) C tyJ4 tyJ4_ok nmJ4 4 rfl rfl 0 (by decide) inJ4 qfl_J5_15 (fun _ h9 => h9) rfl rfl rfl (Nat.le_of_ble_eq_true rfl) rfl dJ5_ensureCapacityInternal_d00df_35 ?_
  refine p_last9 (w9 := (MW k md th (nI n) Am Wk Mo r9 (2 * cp + 2) bt9 ml (nI m) Y)) 5 rfl ?_
  rw [hQ]
  exact r_v C hrt9 (⟨_, _, hft9, hk9, rfl⟩) (by omega) (by omega) dJ5_ensureCapacityInternal_d00df_38
set_option maxHeartbeats 4000000 in
set_option maxRecDepth 100000 in
/-- J5_setLength_d00df -/
theorem m_J5_setLength (l : Launch) (D : va_G) (k : Nat → ClassId) {md : Nat → Nat} {th : Int32} {n : Nat} {Am Wk Mo : Nat → Int32} {v cp m : Nat} {bt : Nat → Int32} {ml : Int32} {Y : va_W} (h3 : cp < 65536 / 4) (hm : m < 65536) : CtV l D k yJ5_setLength_d00df (wU yJ5_setLength_d00df cJ5_setLength_d00df 2 (none)) (rmL 3 0 0) [.ref (md 4), .int (nI 0)] (MW k md th (nI n) Am Wk Mo v cp bt ml (nI m) Y) (fun w' => ∃ ml', w' = (MW k md th (nI n) Am Wk Mo v cp bt ml' (nI 0) Y)) := by
  refine openV (own := RJ5) rfl (by decide) (Nat.le_of_ble_eq_true rfl) rfl ?_
  intro p e s m args below meth c A C hrt9 hnm
  obtain ⟨Q, hQ⟩ : ∃ Q, Q = (MQ below (va_Qv (fun w' => ∃ ml', w' = (MW k md th (nI n) Am Wk Mo v cp bt ml' (nI 0) Y)) (cBA D A) A) args s 0 0 A) := ⟨_, rfl⟩
  show WP p l e (rmL 3 0 0) s m args below meth c D A 2 (MW k md th (nI n) Am Wk Mo v cp bt ml (nI m) Y) [(0, .ref (md 4)), (1, .int (nI 0))] 0 0 (MQ below (va_Qv (fun w' => ∃ ml', w' = (MW k md th (nI n) Am Wk Mo v cp bt ml' (nI 0) Y)) (cBA D A) A) args s 0 0 A) 0 []
  rw [← hQ]
  refine p_iload_n C rfl 1 rfl dJ5_setLength_d00df_0 ?_
  refine p_if_ge C 13 (by decide) dJ5_setLength_d00df_1 (fun c_1 => ?_) (fun c_1 => absurd c_1 (by decide))
  refine p_aload_n C rfl 0 rfl dJ5_setLength_d00df_13 ?_
  refine p_iload_n C rfl 1 rfl dJ5_setLength_d00df_14 ?_
  refine c_Uv (As := [.int (nI 0)]) (rest := []) C (m_J5_ens_a l D k (q := 0) (by omega) (by omega)) 4 rfl rfl qml_J5_100 qsm_J5_J5_ensureCapacityInternal_I_V qse_J4_J5_ensureCapacityInternal_d00df qim_J5_ensureCapacityInternal_d00df qin_J5 qco_J5_ensureCapacityInternal_d00df nd_J5_ensureCapacityInternal_d00df ⟨Nat.le_of_ble_eq_true rfl, Nat.le_of_ble_eq_true rfl⟩ (Nat.le_of_ble_eq_true rfl) ⟨Nat.le_of_ble_eq_true rfl, Nat.le_of_ble_eq_true rfl⟩ rfl dJ5_setLength_d00df_15 (fun w9 h9 => ?_)
  obtain rfl := h9
  refine p_aload_n C rfl 0 rfl dJ5_setLength_d00df_18 ?_
  refine p_get (v := .int (nI m)) (T := TJ4) C 4 rfl rfl 3 (by decide) inJ4 qfl_J5_79 (fun _ h9 => h9) rfl dJ5_setLength_d00df_19 ?_
  refine p_iload_n C rfl 1 rfl dJ5_setLength_d00df_22 ?_
  refine p_icmp_ge C 63 (by decide) dJ5_setLength_d00df_23 (fun c_23 => ?_) (fun c_23 => absurd (nI_pos' (n := m) (by omega)) c_23)
  refine p_aload_n C rfl 0 rfl dJ5_setLength_d00df_63 ?_
  refine p_get (v := .int (nI m)) (T := TJ4) C 4 rfl rfl 3 (by decide) inJ4 qfl_J5_79 (fun _ h9 => h9) rfl dJ5_setLength_d00df_64 ?_
  refine p_iload_n C rfl 1 rfl dJ5_setLength_d00df_67 ?_
  refine p_icmp_le C 76 (by decide) dJ5_setLength_d00df_68 (fun c_68 => ?_) (fun c_68 => ?_)
  · refine p_aload_n C rfl 0 rfl dJ5_setLength_d00df_76 ?_
    refine p_iload_n C rfl 1 rfl dJ5_setLength_d00df_77 ?_
    refine p_put (w9 := (MW k md th (nI n) Am Wk Mo v cp bt ml (nI 0) Y)) (v := .int (nI 0)) (T := TJ4) C tyJ4 tyJ4_ok nmJ4 4 rfl rfl 3 (by decide) inJ4 qfl_J5_79 (fun _ h9 => h9) rfl rfl rfl (Nat.le_of_ble_eq_true rfl) rfl dJ5_setLength_d00df_78 ?_
    rw [hQ]
    exact r_v C hrt9 (⟨_, rfl⟩) (by decide) (by decide) dJ5_setLength_d00df_81
  · refine p_aload_n C rfl 0 rfl dJ5_setLength_d00df_71 ?_
    refine p_iconst (v := 1) C (by decide) dJ5_setLength_d00df_72 ?_
    refine p_put (w9 := (MW k md th (nI n) Am Wk Mo v cp bt 1 (nI m) Y)) (v := .int 1) (T := TJ4) C tyJ4 tyJ4_ok nmJ4 4 rfl rfl 2 (by decide) inJ4 qfl_J5_73 (fun _ h9 => h9) rfl rfl rfl (Nat.le_of_ble_eq_true rfl) rfl dJ5_setLength_d00df_73 ?_
    refine p_aload_n C rfl 0 rfl dJ5_setLength_d00df_76 ?_
    refine p_iload_n C rfl 1 rfl dJ5_setLength_d00df_77 ?_
    refine p_put (w9 := (MW k md th (nI n) Am Wk Mo v cp bt 1 (nI 0) Y)) (v := .int (nI 0)) (T := TJ4) C tyJ4 tyJ4_ok nmJ4 4 rfl rfl 3 (by decide) inJ4 qfl_J5_79 (fun _ h9 => h9) rfl rfl rfl (Nat.le_of_ble_eq_true rfl) rfl dJ5_setLength_d00df_78 ?_
    rw [hQ]
    exact r_v C hrt9 (⟨_, rfl⟩) (by decide) (by decide) dJ5_setLength_d00df_81
set_option maxHeartbeats 4000000 in
set_option maxRecDepth 100000 in
/-- J4_setLength_d00df -/
theorem m_J4_setLength (l : Launch) (D : va_G) (k : Nat → ClassId) {md : Nat → Nat} {th : Int32} {n : Nat} {Am Wk Mo : Nat → Int32} {v cp m : Nat} {bt : Nat → Int32} {ml : Int32} {Y : va_W} (h3 : cp < 65536 / 4) (hm : m < 65536) : CtV l D k yJ4_setLength_d00df (wU yJ4_setLength_d00df cJ4_setLength_d00df 2 (none)) (rmL 4 0 0) [.ref (md 4), .int (nI 0)] (MW k md th (nI n) Am Wk Mo v cp bt ml (nI m) Y) (fun w' => ∃ ml', w' = (MW k md th (nI n) Am Wk Mo v cp bt ml' (nI 0) Y)) := by
  refine openV (own := RJ4) rfl (by decide) (Nat.le_of_ble_eq_true rfl) rfl ?_
  intro p e s m args below meth c A C hrt9 hnm
  obtain ⟨Q, hQ⟩ : ∃ Q, Q = (MQ below (va_Qv (fun w' => ∃ ml', w' = (MW k md th (nI n) Am Wk Mo v cp bt ml' (nI 0) Y)) (cBA D A) A) args s 0 0 A) := ⟨_, rfl⟩
  show WP p l e (rmL 4 0 0) s m args below meth c D A 2 (MW k md th (nI n) Am Wk Mo v cp bt ml (nI m) Y) [(0, .ref (md 4)), (1, .int (nI 0))] 0 0 (MQ below (va_Qv (fun w' => ∃ ml', w' = (MW k md th (nI n) Am Wk Mo v cp bt ml' (nI 0) Y)) (cBA D A) A) args s 0 0 A) 0 []
  rw [← hQ]
  refine p_aload_n C rfl 0 rfl dJ4_setLength_d00df_0 ?_
  refine p_iload_n C rfl 1 rfl dJ4_setLength_d00df_1 ?_
  refine c_SUv (As := [.int (nI 0)]) (rest := []) C (m_J5_setLength l D k h3 hm) 4 rfl rfl qml_J4_333 qsm_J5_J5_setLength_I_V qsu_J4_J5 qim_J5_setLength_d00df qin_J5 qco_J5_setLength_d00df (by decide) nd_J5_setLength_d00df ⟨Nat.le_of_ble_eq_true rfl, Nat.le_of_ble_eq_true rfl⟩ (Nat.le_of_ble_eq_true rfl) ⟨Nat.le_of_ble_eq_true rfl, Nat.le_of_ble_eq_true rfl⟩ rfl dJ4_setLength_d00df_2 (fun w9 h9 => ?_)
  obtain ⟨ml9, rfl⟩ := h9
  rw [hQ]
  exact r_v C hrt9 (⟨_, rfl⟩) (by decide) (by decide) dJ4_setLength_d00df_5
set_option maxHeartbeats 4000000 in
set_option maxRecDepth 100000 in
/-- canEncode -/
theorem m_J1_canEncode (l : Launch) (D : va_G) (k : Nat → ClassId) {w : va_W} {c9 : Nat} (hc : c9 < 128) : CtI l D k yJ1_canEncode_fc78d (wU yJ1_canEncode_fc78d cJ1_canEncode_fc78d 1 (some .boolean)) (rmL 0 0 0) [.int (nI c9)] w (fun r w' => r = 1 ∧ w' = w) := by
  refine openI (own := RJ1) rfl (by decide) (Nat.le_of_ble_eq_true rfl) rfl ?_
  intro p e s m args below meth c A C hrt9 hnm
  obtain ⟨Q, hQ⟩ : ∃ Q, Q = (MQ below (va_Qi (fun r w' => r = 1 ∧ w' = w) (cBA D A) A) args s 0 0 A) := ⟨_, rfl⟩
  show WP p l e (rmL 0 0 0) s m args below meth c D A 1 w [(0, .int (nI c9))] 0 0 (MQ below (va_Qi (fun r w' => r = 1 ∧ w' = w) (cBA D A) A) args s 0 0 A) 0 []
  rw [← hQ]
  refine p_iload_n C rfl 0 rfl dJ1_canEncode_fc78d_0 ?_
  refine p_sipush (v := 255) C (by decide) dJ1_canEncode_fc78d_1 ?_
  refine p_icmp_gt C 11 (by decide) dJ1_canEncode_fc78d_4 (fun c_4 => absurd c_4 (nI_nlt (a := 255) (b := c9) (by omega) (by omega))) (fun c_4 => ?_)
  refine p_iconst (v := 1) C (by decide) dJ1_canEncode_fc78d_7 ?_
  refine p_goto C 12 (by decide) dJ1_canEncode_fc78d_8 ?_
  rw [hQ]
  exact r_z C hrt9 rfl (⟨rfl, rfl⟩) (by decide) (by decide) dJ1_canEncode_fc78d_12
set_option maxHeartbeats 4000000 in
set_option maxRecDepth 100000 in
/-- J5_append_3fe6f -/
theorem m_J5_appC_a (l : Launch) (D : va_G) (k : Nat → ClassId) {md : Nat → Nat} {th : Int32} {n : Nat} {Am Wk Mo : Nat → Int32} {v cp m : Nat} {bt : Nat → Int32} {ml : Int32} {Y : va_W} {c9 : Nat} (hc : c9 < 128) (h1 : m + 1 ≤ cp) (h3 : cp < 65536 / 4) (hft : sb_Fit bt) : CtR l D k yJ5_append_3fe6f (wU yJ5_append_3fe6f cJ5_append_3fe6f 2 (some (.object "java/lang/AbstractStringBuilder"))) (rmL 3 0 0) [.ref (md 4), .int (nI c9)] (MW k md th (nI n) Am Wk Mo v cp bt ml (nI m) Y) (fun a w' => a = md 4 ∧ ∃ v' bt', sb_Fit bt' ∧ (∀ j, j < m → bt' j = bt j) ∧ bt' m = nI c9 ∧ w' = (MW k md th (nI n) Am Wk Mo v' cp bt' ml (nI (m + 1)) Y)) := by
  refine openR (own := RJ5) rfl (by decide) (Nat.le_of_ble_eq_true rfl) rfl ?_
  intro p e s m args below meth c A C hrt9 hnm
  obtain ⟨Q, hQ⟩ : ∃ Q, Q = (MQ below (va_Qr (fun _ => True) (fun w' a t => (fun a w' => a = md 4 ∧ ∃ v' bt', sb_Fit bt' ∧ (∀ j, j < m → bt' j = bt j) ∧ bt' m = nI c9 ∧ w' = (MW k md th (nI n) Am Wk Mo v' cp bt' ml (nI (m + 1)) Y)) a w' ∧ cBA D A w' t) A) args s 0 0 A) := ⟨_, rfl⟩
  show WP p l e (rmL 3 0 0) s m args below meth c D A 2 (MW k md th (nI n) Am Wk Mo v cp bt ml (nI m) Y) [(0, .ref (md 4)), (1, .int (nI c9))] 0 0 (MQ below (va_Qr (fun _ => True) (fun w' a t => (fun a w' => a = md 4 ∧ ∃ v' bt', sb_Fit bt' ∧ (∀ j, j < m → bt' j = bt j) ∧ bt' m = nI c9 ∧ w' = (MW k md th (nI n) Am Wk Mo v' cp bt' ml (nI (m + 1)) Y)) a w' ∧ cBA D A w' t) A) args s 0 0 A) 0 []
  rw [← hQ]
  refine p_aload_n C rfl 0 rfl dJ5_append_3fe6f_0 ?_
  refine p_aload_n C rfl 0 rfl dJ5_append_3fe6f_1 ?_
  refine p_get (v := .int (nI m)) (T := TJ4) C 4 rfl rfl 3 (by decide) inJ4 qfl_J5_79 (fun _ h9 => h9) rfl dJ5_append_3fe6f_2 ?_
  refine p_iconst (v := 1) C (by decide) dJ5_append_3fe6f_5 ?_
  refine p_iadd C dJ5_append_3fe6f_6 ?_
  refine p_int (y := (nI (m + 1))) (nI_1 m) ?_
  refine c_Uv (As := [.int (nI (m + 1))]) (rest := []) C (m_J5_ens_a l D k (q := (m + 1)) (by omega) (by omega)) 4 rfl rfl qml_J5_100 qsm_J5_J5_ensureCapacityInternal_I_V qse_J4_J5_ensureCapacityInternal_d00df qim_J5_ensureCapacityInternal_d00df qin_J5 qco_J5_ensureCapacityInternal_d00df nd_J5_ensureCapacityInternal_d00df ⟨Nat.le_of_ble_eq_true rfl, Nat.le_of_ble_eq_true rfl⟩ (Nat.le_of_ble_eq_true rfl) ⟨Nat.le_of_ble_eq_true rfl, Nat.le_of_ble_eq_true rfl⟩ rfl dJ5_append_3fe6f_7 (fun w9 h9 => ?_)
  obtain rfl := h9
  refine p_aload_n C rfl 0 rfl dJ5_append_3fe6f_10 ?_
  refine c_Ui (As := []) (rest := []) C (m_J5_isLatin1 l D k ) 4 rfl rfl qml_J5_83 qsm_J5_J5_isLatin1__Z qse_J4_J5_isLatin1_aae02 qim_J5_isLatin1_aae02 qin_J5 qco_J5_isLatin1_aae02 nd_J5_isLatin1_aae02 ⟨Nat.le_of_ble_eq_true rfl, Nat.le_of_ble_eq_true rfl⟩ (Nat.le_of_ble_eq_true rfl) ⟨Nat.le_of_ble_eq_true rfl, Nat.le_of_ble_eq_true rfl⟩ rfl dJ5_append_3fe6f_11 (fun r9 w9 h9 => ?_)
  obtain ⟨e9, rfl⟩ := h9
  refine p_int e9 ?_
  refine p_if_eq C 45 (by decide) dJ5_append_3fe6f_14 (fun c_14 => absurd c_14 (by decide)) (fun c_14 => ?_)
  refine p_iload_n C rfl 1 rfl dJ5_append_3fe6f_17 ?_
  refine c_Si (As := [.int (nI c9)]) (rest := []) C (m_J1_canEncode l D k (c9 := c9) hc) qml_J5_191 qst_J1_canEncode_fc78d qin_J1 qco_J1_canEncode_fc78d nd_J1_canEncode_fc78d ⟨Nat.le_of_ble_eq_true rfl, Nat.le_of_ble_eq_true rfl⟩ (Nat.le_of_ble_eq_true rfl) ⟨Nat.le_of_ble_eq_true rfl, Nat.le_of_ble_eq_true rfl⟩ rfl dJ5_append_3fe6f_18 (fun r9 w9 h9 => ?_)
  obtain ⟨e9, rfl⟩ := h9
  refine p_int e9 ?_
  refine p_if_eq C 45 (by decide) dJ5_append_3fe6f_21 (fun c_21 => absurd c_21 (by decide)) (fun c_21 => ?_)
  refine p_aload_n C rfl 0 rfl dJ5_append_3fe6f_24 ?_
  refine p_get (v := .ref v) (T := TJ4) C 4 rfl rfl 0 (by decide) inJ4 qfl_J5_15 (fun _ h9 => h9) rfl dJ5_append_3fe6f_25 ?_
  refine p_aload_n C rfl 0 rfl dJ5_append_3fe6f_28 ?_
  refine p_dup C rfl dJ5_append_3fe6f_29 ?_
  refine p_get (v := .int (nI m)) (T := TJ4) C 4 rfl rfl 3 (by decide) inJ4 qfl_J5_79 (fun _ h9 => h9) rfl dJ5_append_3fe6f_30 ?_
  refine p_dup_x1 C rfl rfl dJ5_append_3fe6f_33 ?_
  refine p_iconst (v := 1) C (by decide) dJ5_append_3fe6f_34 ?_
  refine p_iadd C dJ5_append_3fe6f_35 ?_
  refine p_int (y := (nI (m + 1))) (nI_1 m) ?_
  refine p_put (w9 := (MW k md th (nI n) Am Wk Mo v cp bt ml (nI (m + 1)) Y)) (v := .int (nI (m + 1))) (T := TJ4) C tyJ4 tyJ4_ok nmJ4 4 rfl rfl 3 (by decide) inJ4 qfl_J5_79 (fun _ h9 => h9) rfl rfl rfl (Nat.le_of_ble_eq_true rfl) rfl dJ5_append_3fe6f_36 ?_
  refine p_iload_n C rfl 1 rfl dJ5_append_3fe6f_39 ?_
  refine p_i2b C dJ5_append_3fe6f_40 ?_
  refine p_int (y := (nI c9)) (i2b_c c9 hc) ?_
  refine p_bast2 (y := (nI c9)) (w9 := (MW k md th (nI n) Am Wk Mo v cp (upd bt m (nI c9)) ml (nI (m + 1)) Y)) C 5 rfl (vp_in_nI (n := m) (N := cp) (by omega) (by omega)) (nar_b c9 hc) (by rw [show ((nI m)).toNatClampNeg = m from nI_clamp (by omega)]; exact rfl) dJ5_append_3fe6f_41 ?_
  refine p_goto C 75 (by decide) dJ5_append_3fe6f_42 ?_
  refine p_aload_n C rfl 0 rfl dJ5_append_3fe6f_75 ?_
  rw [hQ]
  exact r_r C hrt9 (Or.inl ⟨_, rfl⟩) (⟨rfl, _, _, sb_fitU hft (fit_b c9 hc), fun j hj => pk_un (by omega), pk_us, rfl⟩) (by decide) (by decide) dJ5_append_3fe6f_76
set_option maxHeartbeats 4000000 in
set_option maxRecDepth 100000 in
/-- J5_append_3fe6f -/
theorem m_J5_appC_b (l : Launch) (D : va_G) (k : Nat → ClassId) {md : Nat → Nat} {th : Int32} {n : Nat} {Am Wk Mo : Nat → Int32} {v cp m : Nat} {bt : Nat → Int32} {ml : Int32} {Y : va_W} {c9 : Nat} (hc : c9 < 128) (h1 : cp < m + 1) (hm : m ≤ cp) (h3 : cp < 65536 / 4) (hft : sb_Fit bt) : CtR l D k yJ5_append_3fe6f (wU yJ5_append_3fe6f cJ5_append_3fe6f 2 (some (.object "java/lang/AbstractStringBuilder"))) (rmL 3 1 (2 * cp + 2)) [.ref (md 4), .int (nI c9)] (MW k md th (nI n) Am Wk Mo v cp bt ml (nI m) Y) (fun a w' => a = md 4 ∧ ∃ v' bt', sb_Fit bt' ∧ (∀ j, j < m → bt' j = bt j) ∧ bt' m = nI c9 ∧ w' = (MW k md th (nI n) Am Wk Mo v' (2 * cp + 2) bt' ml (nI (m + 1)) Y)) := by
  refine openR (own := RJ5) rfl (by decide) (Nat.le_of_ble_eq_true rfl) rfl ?_
  intro p e s m args below meth c A C hrt9 hnm
  obtain ⟨Q, hQ⟩ : ∃ Q, Q = (MQ below (va_Qr (fun _ => True) (fun w' a t => (fun a w' => a = md 4 ∧ ∃ v' bt', sb_Fit bt' ∧ (∀ j, j < m → bt' j = bt j) ∧ bt' m = nI c9 ∧ w' = (MW k md th (nI n) Am Wk Mo v' (2 * cp + 2) bt' ml (nI (m + 1)) Y)) a w' ∧ cBA D A w' t) A) args s 1 (2 * cp + 2) A) := ⟨_, rfl⟩
  show WP p l e (rmL 3 1 (2 * cp + 2)) s m args below meth c D A 2 (MW k md th (nI n) Am Wk Mo v cp bt ml (nI m) Y) [(0, .ref (md 4)), (1, .int (nI c9))] 0 0 (MQ below (va_Qr (fun _ => True) (fun w' a t => (fun a w' => a = md 4 ∧ ∃ v' bt', sb_Fit bt' ∧ (∀ j, j < m → bt' j = bt j) ∧ bt' m = nI c9 ∧ w' = (MW k md th (nI n) Am Wk Mo v' (2 * cp + 2) bt' ml (nI (m + 1)) Y)) a w' ∧ cBA D A w' t) A) args s 1 (2 * cp + 2) A) 0 []
  rw [← hQ]
  refine p_aload_n C rfl 0 rfl dJ5_append_3fe6f_0 ?_
  refine p_aload_n C rfl 0 rfl dJ5_append_3fe6f_1 ?_
  refine p_get (v := .int (nI m)) (T := TJ4) C 4 rfl rfl 3 (by decide) inJ4 qfl_J5_79 (fun _ h9 => h9) rfl dJ5_append_3fe6f_2 ?_
  refine p_iconst (v := 1) C (by decide) dJ5_append_3fe6f_5 ?_
  refine p_iadd C dJ5_append_3fe6f_6 ?_
  refine p_int (y := (nI (m + 1))) (nI_1 m) ?_
  refine c_Uv (As := [.int (nI (m + 1))]) (rest := []) C (m_J5_ens_b l D k (q := (m + 1)) (by omega) (by omega) (by omega) hft) 4 rfl rfl qml_J5_100 qsm_J5_J5_ensureCapacityInternal_I_V qse_J4_J5_ensureCapacityInternal_d00df qim_J5_ensureCapacityInternal_d00df qin_J5 qco_J5_ensureCapacityInternal_d00df nd_J5_ensureCapacityInternal_d00df ⟨Nat.le_of_ble_eq_true rfl, Nat.le_of_ble_eq_true rfl⟩ (Nat.le_of_ble_eq_true rfl) ⟨Nat.le_of_ble_eq_true rfl, by show 0 + (2 * cp + 2) ≤ (2 * cp + 2); omega⟩ rfl dJ5_append_3fe6f_7 (fun w9 h9 => ?_)
  obtain ⟨v9, bt9, hft9, hk9, rfl⟩ := h9
  refine p_aload_n C rfl 0 rfl dJ5_append_3fe6f_10 ?_
  refine c_Ui (As := []) (rest := []) C (m_J5_isLatin1 l D k ) 4 rfl rfl qml_J5_83 qsm_J5_J5_isLatin1__Z qse_J4_J5_isLatin1_aae02 qim_J5_isLatin1_aae02 qin_J5 qco_J5_isLatin1_aae02 nd_J5_isLatin1_aae02 ⟨Nat.le_of_ble_eq_true rfl, Nat.le_of_ble_eq_true rfl⟩ (Nat.le_of_ble_eq_true rfl) ⟨Nat.le_of_ble_eq_true rfl, by show (2 * cp + 2) + 0 ≤ (2 * cp + 2); omega⟩ rfl dJ5_append_3fe6f_11 (fun r9 w9 h9 => ?_)
  obtain ⟨e9, rfl⟩ := h9
  refine p_int e9 ?_
  refine p_if_eq C 45 (by decide) dJ5_append_3fe6f_14 (fun c_14 => absurd c_14 (by decide)) (fun c_14 => ?_)
  refine p_iload_n C rfl 1 rfl dJ5_append_3fe6f_17 ?_
  refine c_Si (As := [.int (nI c9)]) (rest := []) C (m_J1_canEncode l D k (c9 := c9) hc) qml_J5_191 qst_J1_canEncode_fc78d qin_J1 qco_J1_canEncode_fc78d nd_J1_canEncode_fc78d ⟨Nat.le_of_ble_eq_true rfl, Nat.le_of_ble_eq_true rfl⟩ (Nat.le_of_ble_eq_true rfl) ⟨Nat.le_of_ble_eq_true rfl, by show (2 * cp + 2) + 0 ≤ (2 * cp + 2); omega⟩ rfl dJ5_append_3fe6f_18 (fun r9 w9 h9 => ?_)
  obtain ⟨e9, rfl⟩ := h9
  refine p_int e9 ?_
  refine p_if_eq C 45 (by decide) dJ5_append_3fe6f_21 (fun c_21 => absurd c_21 (by decide)) (fun c_21 => ?_)
  refine p_aload_n C rfl 0 rfl dJ5_append_3fe6f_24 ?_
  refine p_get (v := .ref v9) (T := TJ4) C 4 rfl rfl 0 (by decide) inJ4 qfl_J5_15 (fun _ h9 => h9) rfl dJ5_append_3fe6f_25 ?_
  refine p_aload_n C rfl 0 rfl dJ5_append_3fe6f_28 ?_
  refine p_dup C rfl dJ5_append_3fe6f_29 ?_
  refine p_get (v := .int (nI m)) (T := TJ4) C 4 rfl rfl 3 (by decide) inJ4 qfl_J5_79 (fun _ h9 => h9) rfl dJ5_append_3fe6f_30 ?_
  refine p_dup_x1 C rfl rfl dJ5_append_3fe6f_33 ?_
  refine p_iconst (v := 1) C (by decide) dJ5_append_3fe6f_34 ?_
  refine p_iadd C dJ5_append_3fe6f_35 ?_
  refine p_int (y := (nI (m + 1))) (nI_1 m) ?_
  refine p_put (w9 := (MW k md th (nI n) Am Wk Mo v9 (2 * cp + 2) bt9 ml (nI (m + 1)) Y)) (v := .int (nI (m + 1))) (T := TJ4) C tyJ4 tyJ4_ok nmJ4 4 rfl rfl 3 (by decide) inJ4 qfl_J5_79 (fun _ h9 => h9) rfl rfl rfl (Nat.le_of_ble_eq_true rfl) rfl dJ5_append_3fe6f_36 ?_
  refine p_iload_n C rfl 1 rfl dJ5_append_3fe6f_39 ?_
  refine p_i2b C dJ5_append_3fe6f_40 ?_
  refine p_int (y := (nI c9)) (i2b_c c9 hc) ?_
  refine p_bast2 (y := (nI c9)) (w9 := (MW k md th (nI n) Am Wk Mo v9 (2 * cp + 2) (upd bt9 m (nI c9)) ml (nI (m + 1)) Y)) C 5 rfl (vp_in_nI (n := m) (N := (2 * cp + 2)) (by omega) (by omega)) (nar_b c9 hc) (by rw [show ((nI m)).toNatClampNeg = m from nI_clamp (by omega)]; exact rfl) dJ5_append_3fe6f_41 ?_
  refine p_goto C 75 (by decide) dJ5_append_3fe6f_42 ?_
  refine p_aload_n C rfl 0 rfl dJ5_append_3fe6f_75 ?_
  rw [hQ]
  exact r_r C hrt9 (Or.inl ⟨_, rfl⟩) (⟨rfl, _, _, sb_fitU hft9 (fit_b c9 hc), fun j hj => (pk_un (by omega)).trans (hk9 j (by omega)), pk_us, rfl⟩) (by omega) (by omega) dJ5_append_3fe6f_76
theorem gC_a {q cp : Nat} (h : q ≤ cp) : gC q cp = 0 := if_pos h
theorem gS_a {q cp : Nat} (h : q ≤ cp) : gS q cp = 0 := if_pos h
theorem cA_a {q cp : Nat} (h : q ≤ cp) : cA q cp = cp := if_pos h
theorem gC_b {q cp : Nat} (h : cp < q) : gC q cp = 1 := if_neg (by omega)
theorem gS_b {q cp : Nat} (h : cp < q) : gS q cp = 2 * cp + 2 := if_neg (by omega)
theorem cA_b {q cp : Nat} (h : cp < q) : cA q cp = 2 * cp + 2 := if_neg (by omega)
theorem m_J5_appC (l : Launch) (D : va_G) (k : Nat → ClassId) {md : Nat → Nat} {th : Int32} {n : Nat} {Am Wk Mo : Nat → Int32} {v cp m : Nat} {bt : Nat → Int32} {ml : Int32} {Y : va_W} {c9 : Nat} (hc : c9 < 128) (hm : m ≤ cp) (h3 : cp < 65536 / 4) (hft : sb_Fit bt) : CtR l D k yJ5_append_3fe6f (wU yJ5_append_3fe6f cJ5_append_3fe6f 2 (some (.object "java/lang/AbstractStringBuilder"))) (rmL 3 (gC (m + 1) cp) (gS (m + 1) cp)) [.ref (md 4), .int (nI c9)] (MW k md th (nI n) Am Wk Mo v cp bt ml (nI m) Y) (fun a w' => a = md 4 ∧ ∃ v' bt', sb_Fit bt' ∧ (∀ j, j < m → bt' j = bt j) ∧ bt' m = nI c9 ∧ w' = (MW k md th (nI n) Am Wk Mo v' (cA (m + 1) cp) bt' ml (nI (m + 1)) Y)) := by
  by_cases h1 : (m + 1) ≤ cp
  · have h := m_J5_appC_a l D k (md := md) (th := th) (n := n) (Am := Am) (Wk := Wk) (Mo := Mo) (v := v) (cp := cp) (m := m) (bt := bt) (ml := ml) (Y := Y) hc h1 h3 hft
    rw [gC_a h1, gS_a h1, cA_a h1]
    exact h
  · have h2 : cp < (m + 1) := by omega
    have h := m_J5_appC_b l D k (md := md) (th := th) (n := n) (Am := Am) (Wk := Wk) (Mo := Mo) (v := v) (cp := cp) (m := m) (bt := bt) (ml := ml) (Y := Y) hc h2 hm h3 hft
    rw [gC_b h2, gS_b h2, cA_b h2]
    exact h
set_option maxHeartbeats 4000000 in
set_option maxRecDepth 100000 in
/-- J4_append_cf468 -/
theorem m_J4_appC (l : Launch) (D : va_G) (k : Nat → ClassId) {md : Nat → Nat} {th : Int32} {n : Nat} {Am Wk Mo : Nat → Int32} {v cp m : Nat} {bt : Nat → Int32} {ml : Int32} {Y : va_W} {c9 : Nat} (hc : c9 < 128) (hm : m ≤ cp) (h3 : cp < 65536 / 4) (hft : sb_Fit bt) : CtR l D k yJ4_append_cf468 (wU yJ4_append_cf468 cJ4_append_cf468 2 (some (.object "java/lang/StringBuilder"))) (rmL 4 (gC (m + 1) cp) (gS (m + 1) cp)) [.ref (md 4), .int (nI c9)] (MW k md th (nI n) Am Wk Mo v cp bt ml (nI m) Y) (fun a w' => a = md 4 ∧ ∃ v' bt', sb_Fit bt' ∧ (∀ j, j < m → bt' j = bt j) ∧ bt' m = nI c9 ∧ w' = (MW k md th (nI n) Am Wk Mo v' (cA (m + 1) cp) bt' ml (nI (m + 1)) Y)) := by
  refine openR (own := RJ4) rfl (by decide) (Nat.le_of_ble_eq_true rfl) rfl ?_
  intro p e s m args below meth c A C hrt9 hnm
  obtain ⟨Q, hQ⟩ : ∃ Q, Q = (MQ below (va_Qr (fun _ => True) (fun w' a t => (fun a w' => a = md 4 ∧ ∃ v' bt', sb_Fit bt' ∧ (∀ j, j < m → bt' j = bt j) ∧ bt' m = nI c9 ∧ w' = (MW k md th (nI n) Am Wk Mo v' (cA (m + 1) cp) bt' ml (nI (m + 1)) Y)) a w' ∧ cBA D A w' t) A) args s (gC (m + 1) cp) (gS (m + 1) cp) A) := ⟨_, rfl⟩
  show WP p l e (rmL 4 (gC (m + 1) cp) (gS (m + 1) cp)) s m args below meth c D A 2 (MW k md th (nI n) Am Wk Mo v cp bt ml (nI m) Y) [(0, .ref (md 4)), (1, .int (nI c9))] 0 0 (MQ below (va_Qr (fun _ => True) (fun w' a t => (fun a w' => a = md 4 ∧ ∃ v' bt', sb_Fit bt' ∧ (∀ j, j < m → bt' j = bt j) ∧ bt' m = nI c9 ∧ w' = (MW k md th (nI n) Am Wk Mo v' (cA (m + 1) cp) bt' ml (nI (m + 1)) Y)) a w' ∧ cBA D A w' t) A) args s (gC (m + 1) cp) (gS (m + 1) cp) A) 0 []
  rw [← hQ]
  refine p_aload_n C rfl 0 rfl dJ4_append_cf468_0 ?_
  refine p_iload_n C rfl 1 rfl dJ4_append_cf468_1 ?_
  refine c_SUr (As := [.int (nI c9)]) (rest := []) C (m_J5_appC l D k hc hm h3 hft) 4 rfl rfl qml_J4_50 qsm_J5_J5_append_C_Ljava_lang_AbstractStringBuilder_ qsu_J4_J5 qim_J5_append_3fe6f qin_J5 qco_J5_append_3fe6f (by decide) nd_J5_append_3fe6f ⟨Nat.le_of_ble_eq_true rfl, Nat.le_of_ble_eq_true rfl⟩ (Nat.le_of_ble_eq_true rfl) ⟨by show 0 + gC (m + 1) cp ≤ (gC (m + 1) cp); omega, by show 0 + gS (m + 1) cp ≤ (gS (m + 1) cp); omega⟩ rfl dJ4_append_cf468_2 (fun r9 w9 h9 => ?_)
  obtain ⟨rfl, h8⟩ := h9
  refine p_pop C rfl dJ4_append_cf468_5 ?_
  refine p_aload_n C rfl 0 rfl dJ4_append_cf468_6 ?_
  rw [hQ]
  exact r_r C hrt9 (Or.inl ⟨_, rfl⟩) (⟨rfl, h8⟩) (by omega) (by omega) dJ4_append_cf468_7
theorem pw_b {i : Nat} (h : i ≤ 10) : 10 ^ i < 2 ^ 62 := Nat.lt_of_le_of_lt (Nat.pow_le_pow_right (by omega) h) (by decide)
theorem pw_le {u i : Nat} (h : i ≤ 10) (hu : u < 10000000000) (c : lg_cmp (-lN u) (-lN (10 ^ i)) ≤ 0) : 10 ^ i ≤ u := (ln_nle (by omega) (pw_b h)).mp c
theorem pw_lt {u i : Nat} (h : i ≤ 10) (hu : u < 10000000000) (c : ¬ lg_cmp (-lN u) (-lN (10 ^ i)) ≤ 0) : u < 10 ^ i := Nat.lt_of_not_le fun q => c ((ln_nle (by omega) (pw_b h)).mpr q)
theorem pw_10 {u i : Nat} (hu : u < 10000000000) (hb : True) (c : 10 ^ i ≤ u) : i + 1 ≤ 10 := by
  rcases Nat.lt_or_ge 9 i with q | q
  · have : 10 ^ 10 ≤ 10 ^ i := Nat.pow_le_pow_right (by omega) q
    have e : (10 : Nat) ^ 10 = 10000000000 := by decide
    omega
  · omega
set_option maxHeartbeats 4000000 in
set_option maxRecDepth 100000 in
/-- Long.stringSize -/
theorem m_J13_stringSize (l : Launch) (D : va_G) (k : Nat → ClassId) {w : va_W} {u : Nat} (hu : u < 10000000000) (hb : True) : CtI l D k yJ13_stringSize_95d88 (wU yJ13_stringSize_95d88 cJ13_stringSize_95d88 6 (some .int)) (rmL 0 0 0) [.long (lN u)] w (fun r w' => r = nI (sb_dg u) ∧ w' = w) := by
  refine openI (own := RJ13) rfl (by decide) (Nat.le_of_ble_eq_true rfl) rfl ?_
  intro p e s m args below meth c A C hrt9 hnm
  obtain ⟨Q, hQ⟩ : ∃ Q, Q = (MQ below (va_Qi (fun r w' => r = nI (sb_dg u) ∧ w' = w) (cBA D A) A) args s 0 0 A) := ⟨_, rfl⟩
  show WP p l e (rmL 0 0 0) s m args below meth c D A 6 w [(0, .long (lN u))] 0 0 (MQ below (va_Qi (fun r w' => r = nI (sb_dg u) ∧ w' = w) (cBA D A) A) args s 0 0 A) 0 []
  rw [← hQ]
  refine p_iconst (v := 1) C (by decide) dJ13_stringSize_95d88_0 ?_
  refine p_istore_n (lv9 := [(2, .int 1), (0, .long (lN u))]) C rfl (by decide) rfl dJ13_stringSize_95d88_1 ?_
  refine p_lload_n C rfl 1 rfl dJ13_stringSize_95d88_2 ?_
  refine p_lconst (v := 0) C (by decide) dJ13_stringSize_95d88_3 ?_
  refine p_lcmp C dJ13_stringSize_95d88_4 ?_
  refine p_if_lt C 13 (by decide) dJ13_stringSize_95d88_5 (fun c_5 => absurd c_5 (ln_nlt0 (by omega))) (fun c_5 => ?_)
  refine p_iconst (v := (nI 0)) C (by decide) dJ13_stringSize_95d88_8 ?_
  refine p_istore_n (lv9 := [(2, .int (nI 0)), (0, .long (lN u))]) C rfl (by decide) rfl dJ13_stringSize_95d88_9 ?_
  refine p_lload_n C rfl 1 rfl dJ13_stringSize_95d88_10 ?_
  refine p_lneg C dJ13_stringSize_95d88_11 ?_
  refine p_lstore_n (lv9 := [(0, .long (-(lN u))), (2, .int (nI 0))]) C rfl (by decide) rfl dJ13_stringSize_95d88_12 ?_
  refine p_ldc2 (v := (-lN (10 ^ 1))) C qkl_J13_140 dJ13_stringSize_95d88_13 ?_
  refine p_lstore_n (lv9 := [(3, .long (-lN (10 ^ 1))), (0, .long (-(lN u))), (2, .int (nI 0))]) C rfl (by decide) rfl dJ13_stringSize_95d88_16 ?_
  refine p_iconst (v := (nI 1)) C (by decide) dJ13_stringSize_95d88_17 ?_
  refine p_istore (lv9 := [(5, .int (nI 1)), (3, .long (-lN (10 ^ 1))), (0, .long (-(lN u))), (2, .int (nI 0))]) C (by decide) rfl dJ13_stringSize_95d88_18 ?_
  refine p_lv (lv9 := [(0, .long (-(lN u))), (2, .int (nI 0)), (3, .long (-lN (10 ^ 1))), (5, .int (nI 1))]) [2, 3, 1, 0] rfl ?_
  have lp20 : ∀ (n20 : Nat) (i : Nat), (hi : i + n20 = 19) → (h1 : 1 ≤ i) → (h2 : i ≤ 10) → (h3 : i = 1 ∨ 10 ^ (i - 1) ≤ u) → WP p l e (rmL 0 0 0) s m args below meth c D A 6 w [(0, .long (-lN u)), (2, .int (nI 0)), (3, .long (-lN (10 ^ i))), (5, .int (nI i))] 0 0 Q 20 [] := by
    intro n20
    induction n20 with
    | zero =>
      intro i hi h1 h2 h3
      omega
    | succ n20 ih20 =>
      intro i hi h1 h2 h3
      refine p_iload C 3 rfl dJ13_stringSize_95d88_20 ?_
      refine p_bipush (v := 19) C (by decide) dJ13_stringSize_95d88_22 ?_
      refine p_icmp_ge C 50 (by decide) dJ13_stringSize_95d88_24 (fun c_24 => absurd c_24 (nI_ge (b := 19) (show i < 19 by omega) (by decide))) (fun c_24 => ?_)
      refine p_lload_n C rfl 0 rfl dJ13_stringSize_95d88_27 ?_
      refine p_lload_n C rfl 2 rfl dJ13_stringSize_95d88_28 ?_
      refine p_lcmp C dJ13_stringSize_95d88_29 ?_
      refine p_if_le C 38 (by decide) dJ13_stringSize_95d88_30 (fun c_30 => ?_) (fun c_30 => ?_)
      · refine p_ldc2 (v := 10) C qkl_J13_53 dJ13_stringSize_95d88_38 ?_
        refine p_lload_n C rfl 2 rfl dJ13_stringSize_95d88_41 ?_
        refine p_lmul C dJ13_stringSize_95d88_42 ?_
        refine p_st (st9 := [.long (-lN (10 ^ (i + 1)))]) (congrArg (fun z9 => Value.long z9 :: []) (by rw [ln_10, Nat.pow_succ, Nat.mul_comm])) ?_
        refine p_lstore_n (lv9 := [(3, .long (-lN (10 ^ (i + 1)))), (0, .long (-lN u)), (2, .int (nI 0)), (5, .int (nI i))]) C rfl (by decide) rfl dJ13_stringSize_95d88_43 ?_
        refine p_iinc (lv9 := [(5, .int (nI (i + 1))), (3, .long (-lN (10 ^ (i + 1)))), (0, .long (-lN u)), (2, .int (nI 0))]) (v := (nI (i + 1))) C (j := 3) rfl (i_up i) (by decide) rfl dJ13_stringSize_95d88_44 ?_
        refine p_goto C 20 (by decide) dJ13_stringSize_95d88_47 ?_
        refine p_lv (lv9 := [(0, .long (-lN u)), (2, .int (nI 0)), (3, .long (-lN (10 ^ (i + 1)))), (5, .int (nI (i + 1)))]) [2, 3, 1, 0] rfl ?_
        exact ih20 (i + 1) (by omega) (by omega) (pw_10 hu hb (pw_le h2 hu c_30)) (Or.inr (by rw [Nat.add_sub_cancel]; exact pw_le h2 hu c_30))
      · refine p_iload C 3 rfl dJ13_stringSize_95d88_33 ?_
        refine p_iload_n C rfl 1 rfl dJ13_stringSize_95d88_35 ?_
        refine p_iadd C dJ13_stringSize_95d88_36 ?_
        rw [hQ]
        exact r_i C hrt9 (⟨by rw [sbd_of h1 h2 h3 (pw_lt h2 hu c_30)], rfl⟩) (by decide) (by decide) dJ13_stringSize_95d88_37
  exact lp20 18 1 rfl (by omega) (by omega) (Or.inl rfl)
