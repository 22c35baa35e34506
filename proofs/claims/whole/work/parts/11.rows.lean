set_option maxHeartbeats 4000000 in
set_option maxRecDepth 100000 in
/-- clear: all amounts are 0 -/
theorem m_X1_clear (l : Launch) (D : va_G) (k : Nat → ClassId) {w : va_W} {u a : Nat} {f : Nat → Int32} (hp : w[u]? = some (a, aI k 9 f))  : CtV l D k yX1_clear (wU yX1_clear cX1_clear 2 (none)) (rmL 0 0 0) [.ref a] w (fun w' => w' = w.set u (a, aI k 9 (fun _ => 0))) := by
  refine openV (own := RX1) rfl (by decide) (Nat.le_of_ble_eq_true rfl) rfl ?_
  intro p e s m args below meth c A C hrt9 hnm
  obtain ⟨Q, hQ⟩ : ∃ Q, Q = (MQ below (va_Qv (fun w' => w' = w.set u (a, aI k 9 (fun _ => 0))) (cBA D A) A) args s 0 0 A) := ⟨_, rfl⟩
  show WP p l e (rmL 0 0 0) s m args below meth c D A 2 w [(0, .ref a)] 0 0 (MQ below (va_Qv (fun w' => w' = w.set u (a, aI k 9 (fun _ => 0))) (cBA D A) A) args s 0 0 A) 0 []
  rw [← hQ]
  refine p_iconst (v := 0) C (by decide) dX1_clear_0 ?_
  refine p_istore_n (lv9 := [(1, .int 0), (0, .ref a)]) C rfl (by decide) rfl dX1_clear_1 ?_
  refine p_w (w9 := (w.set u (a, aI k 9 (fl (fun _ => 0) f 0)))) (by rw [fl_0]; exact (g_id hp).symm) ?_
  refine p_lv (lv9 := [(0, .ref a), (1, .int 0)]) [1, 0] rfl ?_
  have lp2 : ∀ (n2 : Nat) (i : Nat), (hn : i + n2 = 9) → WP p l e (rmL 0 0 0) s m args below meth c D A 2 (w.set u (a, aI k 9 (fl (fun _ => 0) f i))) [(0, .ref a), (1, .int (nI i))] 0 0 Q 2 [] := by
    intro n2
    induction n2 with
    | zero =>
      intro i hn
      obtain rfl : i = 9 := by omega
      refine p_lvE (lv9 := [(0, .ref a), (1, .int (nI 9))]) rfl ?_
      refine p_iload_n C rfl 1 rfl dX1_clear_2 ?_
      refine p_bipush (v := 9) C (by decide) dX1_clear_3 ?_
      refine p_icmp_ge C 18 (by decide) dX1_clear_5 (fun c_5 => ?_) (fun c_5 => absurd c_5 (by decide))
      refine p_arr (n := 9) u (g_set hp) (fun _ => 0) (fun j hj => fl_in hj) (g_ss _ _ _ _) ?_
      rw [hQ]
      exact r_v C hrt9 rfl (by decide) (by decide) dX1_clear_18
    | succ n2 ih2 =>
      intro i hn
      have hi : i < 9 := by omega
      refine p_iload_n C rfl 1 rfl dX1_clear_2 ?_
      refine p_bipush (v := 9) C (by decide) dX1_clear_3 ?_
      refine p_icmp_ge C 18 (by decide) dX1_clear_5 (fun c_5 => absurd c_5 (nI_ge (b := 9) hi (by decide))) (fun c_5 => ?_)
      refine p_aload_n C rfl 0 rfl dX1_clear_8 ?_
      refine p_iload_n C rfl 1 rfl dX1_clear_9 ?_
      refine p_iconst (v := 0) C (by decide) dX1_clear_10 ?_
      refine p_iast (w9 := (w.set u (a, aI k 9 (fl (fun _ => 0) f (i + 1))))) C u (g_set hp) (vp_in_nI (n := i) (N := 9) (by omega) (by omega)) (by rw [show ((nI i)).toNatClampNeg = i from nI_clamp (by omega), show upd (fl (fun _ => 0) f i) i 0 = fl (fun _ => 0) f (i + 1) from fl_s rfl]; exact g_ss _ _ _ _) dX1_clear_11 ?_
      refine p_iinc (lv9 := [(1, .int (nI (i + 1))), (0, .ref a)]) (v := (nI (i + 1))) C (j := 1) rfl (i_up i) (by decide) rfl dX1_clear_12 ?_
      refine p_goto C 2 (by decide) dX1_clear_15 ?_
      refine p_lv (lv9 := [(0, .ref a), (1, .int (nI (i + 1)))]) [1, 0] rfl ?_
      exact ih2 (i + 1) (by omega)
  exact lp2 9 0 rfl
set_option maxHeartbeats 4000000 in
set_option maxRecDepth 100000 in
/-- copy: the second is the first then -/
theorem m_X1_copy (l : Launch) (D : va_G) (k : Nat → ClassId) {w : va_W} {u a : Nat} {f : Nat → Int32} (hp : w[u]? = some (a, aI k 9 f)) {v b : Nat} {g : Nat → Int32} (hq : w[v]? = some (b, aI k 9 g)) (huv : u ≠ v) : CtV l D k yX1_copy (wU yX1_copy cX1_copy 3 (none)) (rmL 0 0 0) [.ref a, .ref b] w (fun w' => w' = w.set v (b, aI k 9 (n9 f))) := by
  refine openV (own := RX1) rfl (by decide) (Nat.le_of_ble_eq_true rfl) rfl ?_
  intro p e s m args below meth c A C hrt9 hnm
  obtain ⟨Q, hQ⟩ : ∃ Q, Q = (MQ below (va_Qv (fun w' => w' = w.set v (b, aI k 9 (n9 f))) (cBA D A) A) args s 0 0 A) := ⟨_, rfl⟩
  show WP p l e (rmL 0 0 0) s m args below meth c D A 3 w [(0, .ref a), (1, .ref b)] 0 0 (MQ below (va_Qv (fun w' => w' = w.set v (b, aI k 9 (n9 f))) (cBA D A) A) args s 0 0 A) 0 []
  rw [← hQ]
  refine p_iconst (v := 0) C (by decide) dX1_copy_0 ?_
  refine p_istore_n (lv9 := [(2, .int 0), (0, .ref a), (1, .ref b)]) C rfl (by decide) rfl dX1_copy_1 ?_
  refine p_w (w9 := (w.set v (b, aI k 9 (fl f g 0)))) (by rw [fl_0]; exact (g_id hq).symm) ?_
  refine p_lv (lv9 := [(0, .ref a), (1, .ref b), (2, .int 0)]) [1, 2, 0] rfl ?_
  have lp2 : ∀ (n2 : Nat) (i : Nat), (hn : i + n2 = 9) → WP p l e (rmL 0 0 0) s m args below meth c D A 3 (w.set v (b, aI k 9 (fl f g i))) [(0, .ref a), (1, .ref b), (2, .int (nI i))] 0 0 Q 2 [] := by
    intro n2
    induction n2 with
    | zero =>
      intro i hn
      obtain rfl : i = 9 := by omega
      refine p_lvE (lv9 := [(0, .ref a), (1, .ref b), (2, .int (nI 9))]) rfl ?_
      refine p_iload_n C rfl 2 rfl dX1_copy_2 ?_
      refine p_bipush (v := 9) C (by decide) dX1_copy_3 ?_
      refine p_icmp_ge C 20 (by decide) dX1_copy_5 (fun c_5 => ?_) (fun c_5 => absurd c_5 (by decide))
      refine p_arr (n := 9) v (g_set hq) (n9 f) (fun j hj => (fl_in hj).trans (n9_in hj).symm) (g_ss _ _ _ _) ?_
      rw [hQ]
      exact r_v C hrt9 rfl (by decide) (by decide) dX1_copy_20
    | succ n2 ih2 =>
      intro i hn
      have hi : i < 9 := by omega
      refine p_iload_n C rfl 2 rfl dX1_copy_2 ?_
      refine p_bipush (v := 9) C (by decide) dX1_copy_3 ?_
      refine p_icmp_ge C 20 (by decide) dX1_copy_5 (fun c_5 => absurd c_5 (nI_ge (b := 9) hi (by decide))) (fun c_5 => ?_)
      refine p_aload_n C rfl 1 rfl dX1_copy_8 ?_
      refine p_iload_n C rfl 2 rfl dX1_copy_9 ?_
      refine p_aload_n C rfl 0 rfl dX1_copy_10 ?_
      refine p_iload_n C rfl 2 rfl dX1_copy_11 ?_
      refine p_iald (v := (f i)) C u (g_ne huv.symm hp) (vp_in_nI (n := i) (N := 9) (by omega) (by omega)) (by rw [show ((nI i)).toNatClampNeg = i from nI_clamp (by omega)]) dX1_copy_12 ?_
      refine p_iast (w9 := (w.set v (b, aI k 9 (fl f g (i + 1))))) C v (g_set hq) (vp_in_nI (n := i) (N := 9) (by omega) (by omega)) (by rw [show ((nI i)).toNatClampNeg = i from nI_clamp (by omega), show upd (fl f g i) i (f i) = fl f g (i + 1) from fl_s rfl]; exact g_ss _ _ _ _) dX1_copy_13 ?_
      refine p_iinc (lv9 := [(2, .int (nI (i + 1))), (0, .ref a), (1, .ref b)]) (v := (nI (i + 1))) C (j := 2) rfl (i_up i) (by decide) rfl dX1_copy_14 ?_
      refine p_goto C 2 (by decide) dX1_copy_17 ?_
      refine p_lv (lv9 := [(0, .ref a), (1, .ref b), (2, .int (nI (i + 1)))]) [1, 2, 0] rfl ?_
      exact ih2 (i + 1) (by omega)
  exact lp2 9 0 rfl
set_option maxHeartbeats 4000000 in
set_option maxRecDepth 100000 in
/-- degree -/
theorem m_X1_degree (l : Launch) (D : va_G) (k : Nat → ClassId) {w : va_W} {u a : Nat} {f : Nat → Int32} (hp : w[u]? = some (a, aI k 9 f))  : CtI l D k yX1_degree (wU yX1_degree cX1_degree 2 (some .int)) (rmL 0 0 0) [.ref a] w (fun r w' => r = dI (dg f) ∧ w' = w) := by
  refine openI (own := RX1) rfl (by decide) (Nat.le_of_ble_eq_true rfl) rfl ?_
  intro p e s m args below meth c A C hrt9 hnm
  obtain ⟨Q, hQ⟩ : ∃ Q, Q = (MQ below (va_Qi (fun r w' => r = dI (dg f) ∧ w' = w) (cBA D A) A) args s 0 0 A) := ⟨_, rfl⟩
  show WP p l e (rmL 0 0 0) s m args below meth c D A 2 w [(0, .ref a)] 0 0 (MQ below (va_Qi (fun r w' => r = dI (dg f) ∧ w' = w) (cBA D A) A) args s 0 0 A) 0 []
  rw [← hQ]
  refine p_bipush (v := (nI 9 - 1)) C (by decide) dX1_degree_0 ?_
  refine p_istore_n (lv9 := [(1, .int (nI 9 - 1)), (0, .ref a)]) C rfl (by decide) rfl dX1_degree_2 ?_
  refine p_lv (lv9 := [(0, .ref a), (1, .int (nI 9 - 1))]) [1, 0] rfl ?_
  have lp3 : ∀ (n3 : Nat) , (hn : n3 ≤ 9) → (hI : dg f = dgN f n3) → WP p l e (rmL 0 0 0) s m args below meth c D A 2 w [(0, .ref a), (1, .int (nI n3 - 1))] 0 0 Q 3 [] := by
    intro n3
    induction n3 with
    | zero =>
      intro  hn hI
      refine p_lvE (lv9 := [(0, .ref a), (1, .int (-1))]) (by rw [i_z1]) ?_
      refine p_iload_n C rfl 1 rfl dX1_degree_3 ?_
      refine p_if_lt C 21 (by decide) dX1_degree_4 (fun c_4 => ?_) (fun c_4 => absurd c_4 (by decide))
      refine p_iconst (v := (-1)) C (by decide) dX1_degree_21 ?_
      rw [hQ]
      exact r_i C hrt9 (⟨by rw [hI]; exact dI_0.symm, rfl⟩) (by decide) (by decide) dX1_degree_22
    | succ n3 ih3 =>
      intro  hn hI
      refine p_lvE (lv9 := [(0, .ref a), (1, .int (nI n3))]) (by rw [nI_pred]) ?_
      refine p_iload_n C rfl 1 rfl dX1_degree_3 ?_
      refine p_if_lt C 21 (by decide) dX1_degree_4 (fun c_4 => absurd c_4 (nI_pos (by omega))) (fun c_4 => ?_)
      refine p_aload_n C rfl 0 rfl dX1_degree_7 ?_
      refine p_iload_n C rfl 1 rfl dX1_degree_8 ?_
      refine p_iald (v := (f n3)) C u hp (vp_in_nI (n := n3) (N := 9) (by omega) (by omega)) (by rw [show ((nI n3)).toNatClampNeg = n3 from nI_clamp (by omega)]) dX1_degree_9 ?_
      refine p_if_eq C 15 (by decide) dX1_degree_10 (fun c_10 => ?_) (fun c_10 => ?_)
      · refine p_iinc (lv9 := [(1, .int (nI n3 - 1)), (0, .ref a)]) (v := (nI n3 - 1)) C (j := 1) rfl (i_dn _) (by decide) rfl dX1_degree_15 ?_
        refine p_goto C 3 (by decide) dX1_degree_18 ?_
        refine p_lv (lv9 := [(0, .ref a), (1, .int (nI n3 - 1))]) [1, 0] rfl ?_
        exact ih3 (by omega) (hI.trans (if_pos c_10))
      · refine p_iload_n C rfl 1 rfl dX1_degree_13 ?_
        rw [hQ]
        exact r_i C hrt9 (⟨by rw [hI, show dgN f (n3 + 1) = n3 + 1 from if_neg c_10]; exact (dI_s n3).symm, rfl⟩) (by decide) (by decide) dX1_degree_14
  exact lp3 9 (by decide) rfl
set_option maxHeartbeats 4000000 in
set_option maxRecDepth 100000 in
/-- plain -/
theorem m_X1_plain (l : Launch) (D : va_G) (k : Nat → ClassId) {w : va_W} {u a : Nat} {f : Nat → Int32} (hp : w[u]? = some (a, aI k 9 f))  : CtI l D k yX1_plain (wU yX1_plain cX1_plain 2 (some .boolean)) (rmL 1 0 0) [.ref a] w (fun r w' => r = bI (pln f) ∧ w' = w) := by
  refine openI (own := RX1) rfl (by decide) (Nat.le_of_ble_eq_true rfl) rfl ?_
  intro p e s m args below meth c A C hrt9 hnm
  obtain ⟨Q, hQ⟩ : ∃ Q, Q = (MQ below (va_Qi (fun r w' => r = bI (pln f) ∧ w' = w) (cBA D A) A) args s 0 0 A) := ⟨_, rfl⟩
  show WP p l e (rmL 1 0 0) s m args below meth c D A 2 w [(0, .ref a)] 0 0 (MQ below (va_Qi (fun r w' => r = bI (pln f) ∧ w' = w) (cBA D A) A) args s 0 0 A) 0 []
  rw [← hQ]
  refine p_aload_n C rfl 0 rfl dX1_plain_0 ?_
  refine c_Si (As := [.ref a]) (rest := []) C (m_X1_degree l D k (u := u)  hp) qml_X1_9 qst_X1_degree qin_X1 qco_X1_degree nd_X1_degree ⟨Nat.le_of_ble_eq_true rfl, Nat.le_of_ble_eq_true rfl⟩ (Nat.le_of_ble_eq_true rfl) ⟨Nat.le_of_ble_eq_true rfl, Nat.le_of_ble_eq_true rfl⟩ rfl dX1_plain_1 (fun r9 w9 h9 => ?_)
  obtain ⟨rfl, rfl⟩ := h9
  refine p_istore_n (lv9 := [(1, .int (dI (dg f))), (0, .ref a)]) C rfl (by decide) rfl dX1_plain_4 ?_
  refine p_iload_n C rfl 0 rfl dX1_plain_5 ?_
  refine p_if_lt C 20 (by decide) dX1_plain_6 (fun c_6 => ?_) (fun c_6 => ?_)
  · refine p_iconst (v := 0) C (by decide) dX1_plain_20 ?_
    rw [hQ]
    exact r_z C hrt9 rfl (⟨pln_a c_6, rfl⟩) (by decide) (by decide) dX1_plain_21
  · have hdg := dg_le f
    refine p_aload_n C rfl 1 rfl dX1_plain_9 ?_
    refine p_iload_n C rfl 0 rfl dX1_plain_10 ?_
    refine p_iald (v := (f (dg f - 1))) C u hp (by rw [show (dI (dg f)) = nI (dg f - 1) from dI_eq (dI_pos c_6)]; exact vp_in_nI (n := (dg f - 1)) (N := 9) (by omega) (by omega)) (by rw [show ((dI (dg f))).toNatClampNeg = (dg f - 1) from by rw [show (dI (dg f)) = nI (dg f - 1) from dI_eq (dI_pos c_6)]; exact nI_clamp (by omega)]) dX1_plain_11 ?_
    refine p_iconst (v := 1) C (by decide) dX1_plain_12 ?_
    refine p_icmp_ne C 20 (by decide) dX1_plain_13 (fun c_13 => ?_) (fun c_13 => ?_)
    · refine p_iconst (v := 0) C (by decide) dX1_plain_20 ?_
      rw [hQ]
      exact r_z C hrt9 rfl (⟨pln_b c_13, rfl⟩) (by decide) (by decide) dX1_plain_21
    · refine p_iconst (v := 1) C (by decide) dX1_plain_16 ?_
      refine p_goto C 21 (by decide) dX1_plain_17 ?_
      rw [hQ]
      exact r_z C hrt9 rfl (⟨pln_t c_6 c_13, rfl⟩) (by decide) (by decide) dX1_plain_21
set_option maxHeartbeats 4000000 in
set_option maxRecDepth 100000 in
/-- parts -/
theorem m_X1_parts (l : Launch) (D : va_G) (k : Nat → ClassId) {w : va_W} {u a : Nat} {f : Nat → Int32} (hp : w[u]? = some (a, aI k 9 f))  : CtI l D k yX1_parts (wU yX1_parts cX1_parts 3 (some .int)) (rmL 0 0 0) [.ref a] w (fun r w' => r = nI (pt f) ∧ w' = w) := by
  refine openI (own := RX1) rfl (by decide) (Nat.le_of_ble_eq_true rfl) rfl ?_
  intro p e s m args below meth c A C hrt9 hnm
  obtain ⟨Q, hQ⟩ : ∃ Q, Q = (MQ below (va_Qi (fun r w' => r = nI (pt f) ∧ w' = w) (cBA D A) A) args s 0 0 A) := ⟨_, rfl⟩
  show WP p l e (rmL 0 0 0) s m args below meth c D A 3 w [(0, .ref a)] 0 0 (MQ below (va_Qi (fun r w' => r = nI (pt f) ∧ w' = w) (cBA D A) A) args s 0 0 A) 0 []
  rw [← hQ]
  refine p_iconst (v := 0) C (by decide) dX1_parts_0 ?_
  refine p_istore_n (lv9 := [(1, .int 0), (0, .ref a)]) C rfl (by decide) rfl dX1_parts_1 ?_
  refine p_iconst (v := 0) C (by decide) dX1_parts_2 ?_
  refine p_istore_n (lv9 := [(2, .int 0), (1, .int 0), (0, .ref a)]) C rfl (by decide) rfl dX1_parts_3 ?_
  refine p_lv (lv9 := [(0, .ref a), (1, .int 0), (2, .int 0)]) [2, 1, 0] rfl ?_
  have lp4 : ∀ (n4 : Nat) (i : Nat), (hn : i + n4 = 9) → WP p l e (rmL 0 0 0) s m args below meth c D A 3 w [(0, .ref a), (1, .int (nI (ptN f i))), (2, .int (nI i))] 0 0 Q 4 [] := by
    intro n4
    induction n4 with
    | zero =>
      intro i hn
      obtain rfl : i = 9 := by omega
      refine p_lvE (lv9 := [(0, .ref a), (1, .int (nI (ptN f 9))), (2, .int (nI 9))]) rfl ?_
      refine p_iload_n C rfl 2 rfl dX1_parts_4 ?_
      refine p_bipush (v := 9) C (by decide) dX1_parts_5 ?_
      refine p_icmp_ge C 25 (by decide) dX1_parts_7 (fun c_7 => ?_) (fun c_7 => absurd c_7 (by decide))
      refine p_iload_n C rfl 1 rfl dX1_parts_25 ?_
      rw [hQ]
      exact r_i C hrt9 (⟨rfl, rfl⟩) (by decide) (by decide) dX1_parts_26
    | succ n4 ih4 =>
      intro i hn
      have hi : i < 9 := by omega
      refine p_iload_n C rfl 2 rfl dX1_parts_4 ?_
      refine p_bipush (v := 9) C (by decide) dX1_parts_5 ?_
      refine p_icmp_ge C 25 (by decide) dX1_parts_7 (fun c_7 => absurd c_7 (nI_ge (b := 9) hi (by decide))) (fun c_7 => ?_)
      refine p_aload_n C rfl 0 rfl dX1_parts_10 ?_
      refine p_iload_n C rfl 2 rfl dX1_parts_11 ?_
      refine p_iald (v := (f i)) C u hp (vp_in_nI (n := i) (N := 9) (by omega) (by omega)) (by rw [show ((nI i)).toNatClampNeg = i from nI_clamp (by omega)]) dX1_parts_12 ?_
      refine p_if_eq C 19 (by decide) dX1_parts_13 (fun c_13 => ?_) (fun c_13 => ?_)
      · refine p_lvE (lv9 := [(0, .ref a), (1, .int (nI (ptN f (i + 1)))), (2, .int (nI i))]) (by rw [show ptN f (i + 1) = ptN f i from if_pos c_13]) ?_
        refine p_iinc (lv9 := [(2, .int (nI (i + 1))), (0, .ref a), (1, .int (nI (ptN f (i + 1))))]) (v := (nI (i + 1))) C (j := 2) rfl (i_up i) (by decide) rfl dX1_parts_19 ?_
        refine p_goto C 4 (by decide) dX1_parts_22 ?_
        refine p_lv (lv9 := [(0, .ref a), (1, .int (nI (ptN f (i + 1)))), (2, .int (nI (i + 1)))]) [1, 2, 0] rfl ?_
        exact ih4 (i + 1) (by omega)
      · refine p_iinc (lv9 := [(1, .int (nI (ptN f (i + 1)))), (0, .ref a), (2, .int (nI i))]) (v := (nI (ptN f (i + 1)))) C (j := 1) rfl (by rw [show ptN f (i + 1) = ptN f i + 1 from if_neg c_13]; exact i_up _) (by decide) rfl dX1_parts_16 ?_
        refine p_iinc (lv9 := [(2, .int (nI (i + 1))), (1, .int (nI (ptN f (i + 1)))), (0, .ref a)]) (v := (nI (i + 1))) C (j := 2) rfl (i_up i) (by decide) rfl dX1_parts_19 ?_
        refine p_goto C 4 (by decide) dX1_parts_22 ?_
        refine p_lv (lv9 := [(0, .ref a), (1, .int (nI (ptN f (i + 1)))), (2, .int (nI (i + 1)))]) [2, 1, 0] rfl ?_
        exact ih4 (i + 1) (by omega)
  exact lp4 9 0 rfl
set_option maxHeartbeats 4000000 in
set_option maxRecDepth 100000 in
/-- hungerFor -/
theorem m_X1_hungerFor (l : Launch) (D : va_G) (k : Nat → ClassId) {w : va_W} {u a : Nat} {f : Nat → Int32} (hp : w[u]? = some (a, aI k 9 f)) {x : Int32} : CtI l D k yX1_hungerFor (wU yX1_hungerFor cX1_hungerFor 4 (some .int)) (rmL 0 0 0) [.ref a, .int x] w (fun r w' => r = hg f x ∧ w' = w) := by
  refine openI (own := RX1) rfl (by decide) (Nat.le_of_ble_eq_true rfl) rfl ?_
  intro p e s m args below meth c A C hrt9 hnm
  obtain ⟨Q, hQ⟩ : ∃ Q, Q = (MQ below (va_Qi (fun r w' => r = hg f x ∧ w' = w) (cBA D A) A) args s 0 0 A) := ⟨_, rfl⟩
  show WP p l e (rmL 0 0 0) s m args below meth c D A 4 w [(0, .ref a), (1, .int x)] 0 0 (MQ below (va_Qi (fun r w' => r = hg f x ∧ w' = w) (cBA D A) A) args s 0 0 A) 0 []
  rw [← hQ]
  refine p_iconst (v := 0) C (by decide) dX1_hungerFor_0 ?_
  refine p_istore_n (lv9 := [(2, .int 0), (0, .ref a), (1, .int x)]) C rfl (by decide) rfl dX1_hungerFor_1 ?_
  refine p_bipush (v := (nI 9 - 1)) C (by decide) dX1_hungerFor_2 ?_
  refine p_istore_n (lv9 := [(3, .int (nI 9 - 1)), (2, .int 0), (0, .ref a), (1, .int x)]) C rfl (by decide) rfl dX1_hungerFor_4 ?_
  refine p_lv (lv9 := [(0, .ref a), (1, .int x), (2, .int 0), (3, .int (nI 9 - 1))]) [2, 3, 1, 0] rfl ?_
  have lp5 : ∀ (n5 : Nat) (h : Int32), (hn : n5 ≤ 9) → (hI : hg f x = hgN f x n5 h) → WP p l e (rmL 0 0 0) s m args below meth c D A 4 w [(0, .ref a), (1, .int x), (2, .int h), (3, .int (nI n5 - 1))] 0 0 Q 5 [] := by
    intro n5
    induction n5 with
    | zero =>
      intro h hn hI
      refine p_lvE (lv9 := [(0, .ref a), (1, .int x), (2, .int h), (3, .int (-1))]) (by rw [i_z1]) ?_
      refine p_iload_n C rfl 3 rfl dX1_hungerFor_5 ?_
      refine p_if_lt C 23 (by decide) dX1_hungerFor_6 (fun c_6 => ?_) (fun c_6 => absurd c_6 (by decide))
      refine p_iload_n C rfl 2 rfl dX1_hungerFor_23 ?_
      rw [hQ]
      exact r_i C hrt9 (⟨hI.symm, rfl⟩) (by decide) (by decide) dX1_hungerFor_24
    | succ n5 ih5 =>
      intro h hn hI
      refine p_lvE (lv9 := [(0, .ref a), (1, .int x), (2, .int h), (3, .int (nI n5))]) (by rw [nI_pred]) ?_
      refine p_iload_n C rfl 3 rfl dX1_hungerFor_5 ?_
      refine p_if_lt C 23 (by decide) dX1_hungerFor_6 (fun c_6 => absurd c_6 (nI_pos (by omega))) (fun c_6 => ?_)
      refine p_iload_n C rfl 2 rfl dX1_hungerFor_9 ?_
      refine p_iload_n C rfl 1 rfl dX1_hungerFor_10 ?_
      refine p_imul C dX1_hungerFor_11 ?_
      refine p_aload_n C rfl 0 rfl dX1_hungerFor_12 ?_
      refine p_iload_n C rfl 3 rfl dX1_hungerFor_13 ?_
      refine p_iald (v := (f n5)) C u hp (vp_in_nI (n := n5) (N := 9) (by omega) (by omega)) (by rw [show ((nI n5)).toNatClampNeg = n5 from nI_clamp (by omega)]) dX1_hungerFor_14 ?_
      refine p_iadd C dX1_hungerFor_15 ?_
      refine p_istore_n (lv9 := [(2, .int ((h * x) + (f n5))), (0, .ref a), (1, .int x), (3, .int (nI n5))]) C rfl (by decide) rfl dX1_hungerFor_16 ?_
      refine p_iinc (lv9 := [(3, .int (nI n5 - 1)), (2, .int ((h * x) + (f n5))), (0, .ref a), (1, .int x)]) (v := (nI n5 - 1)) C (j := 3) rfl (i_dn _) (by decide) rfl dX1_hungerFor_17 ?_
      refine p_goto C 5 (by decide) dX1_hungerFor_20 ?_
      refine p_lv (lv9 := [(0, .ref a), (1, .int x), (2, .int ((h * x) + (f n5))), (3, .int (nI n5 - 1))]) [2, 3, 1, 0] rfl ?_
      exact ih5 _ (by omega) hI
  exact lp5 9 0 (by decide) rfl
set_option maxHeartbeats 4000000 in
set_option maxRecDepth 100000 in
/-- moveBy -/
theorem m_X1_moveBy (l : Launch) (D : va_G) (k : Nat → ClassId) {w : va_W} {u a : Nat} {f : Nat → Int32} (hp : w[u]? = some (a, aI k 9 f)) {x : Int32} : CtV l D k yX1_moveBy (wU yX1_moveBy cX1_moveBy 4 (none)) (rmL 0 0 0) [.ref a, .int x] w (fun w' => w' = w.set u (a, aI k 9 (mv f x))) := by
  refine openV (own := RX1) rfl (by decide) (Nat.le_of_ble_eq_true rfl) rfl ?_
  intro p e s m args below meth c A C hrt9 hnm
  obtain ⟨Q, hQ⟩ : ∃ Q, Q = (MQ below (va_Qv (fun w' => w' = w.set u (a, aI k 9 (mv f x))) (cBA D A) A) args s 0 0 A) := ⟨_, rfl⟩
  show WP p l e (rmL 0 0 0) s m args below meth c D A 4 w [(0, .ref a), (1, .int x)] 0 0 (MQ below (va_Qv (fun w' => w' = w.set u (a, aI k 9 (mv f x))) (cBA D A) A) args s 0 0 A) 0 []
  rw [← hQ]
  refine p_iconst (v := 0) C (by decide) dX1_moveBy_0 ?_
  refine p_istore_n (lv9 := [(2, .int 0), (0, .ref a), (1, .int x)]) C rfl (by decide) rfl dX1_moveBy_1 ?_
  refine p_w (w9 := (w.set u (a, aI k 9 (mvO x f 0)))) ((g_id hp).symm) ?_
  refine p_lv (lv9 := [(0, .ref a), (1, .int x), (2, .int 0)]) [1, 2, 0] rfl ?_
  have lp2 : ∀ (n2 : Nat) (i : Nat), (hn : i + n2 = 8) → WP p l e (rmL 0 0 0) s m args below meth c D A 4 (w.set u (a, aI k 9 (mvO x f i))) [(0, .ref a), (1, .int x), (2, .int (nI i))] 0 0 Q 2 [] := by
    intro n2
    induction n2 with
    | zero =>
      intro i hn
      obtain rfl : i = 8 := by omega
      refine p_lvE (lv9 := [(0, .ref a), (1, .int x), (2, .int (nI 8))]) rfl ?_
      refine p_iload_n C rfl 2 rfl dX1_moveBy_2 ?_
      refine p_bipush (v := 8) C (by decide) dX1_moveBy_3 ?_
      refine p_icmp_ge C 41 (by decide) dX1_moveBy_5 (fun c_5 => ?_) (fun c_5 => absurd c_5 (by decide))
      rw [hQ]
      exact r_v C hrt9 rfl (by decide) (by decide) dX1_moveBy_41
    | succ n2 ih2 =>
      intro i hn
      have hi : i < 8 := by omega
      refine p_iload_n C rfl 2 rfl dX1_moveBy_2 ?_
      refine p_bipush (v := 8) C (by decide) dX1_moveBy_3 ?_
      refine p_icmp_ge C 41 (by decide) dX1_moveBy_5 (fun c_5 => absurd c_5 (nI_ge (b := 8) hi (by decide))) (fun c_5 => ?_)
      refine p_bipush (v := 7) C (by decide) dX1_moveBy_8 ?_
      refine p_istore_n (lv9 := [(3, .int 7), (0, .ref a), (1, .int x), (2, .int (nI i))]) C rfl (by decide) rfl dX1_moveBy_10 ?_
      refine p_lv (lv9 := [(0, .ref a), (1, .int x), (2, .int (nI i)), (3, .int 7)]) [1, 2, 3, 0] rfl ?_
      refine p_lvE (lv9 := [(0, .ref a), (1, .int x), (2, .int (nI i)), (3, .int (nI (i + (8 - i)) - 1))]) (by rw [show i + (8 - i) = 8 by omega]; rfl) ?_
      have lp11 : ∀ (n11 : Nat) (F : Nat → Int32), (hm : i + n11 ≤ 8) → (hF : mvO x f (i + 1) = mvI x i n11 F) → WP p l e (rmL 0 0 0) s m args below meth c D A 4 (w.set u (a, aI k 9 F)) [(0, .ref a), (1, .int x), (2, .int (nI i)), (3, .int (nI (i + n11) - 1))] 0 0 Q 11 [] := by
        intro n11
        induction n11 with
        | zero =>
          intro F hm hF
          obtain rfl : F = mvO x f (i + 1) := hF.symm
          refine p_w (w9 := (w.set u (a, aI k 9 (mvO x f (i + 1))))) rfl ?_
          refine p_iload_n C rfl 3 rfl dX1_moveBy_11 ?_
          refine p_iload_n C rfl 2 rfl dX1_moveBy_12 ?_
          refine p_icmp_lt C 35 (by decide) dX1_moveBy_13 (fun c_13 => ?_) (fun c_13 => absurd (dn_lt i (by omega)) c_13)
          refine p_iinc (lv9 := [(2, .int (nI (i + 1))), (0, .ref a), (1, .int x), (3, .int (nI (i + 0) - 1))]) (v := (nI (i + 1))) C (j := 2) rfl (i_up i) (by decide) rfl dX1_moveBy_35 ?_
          refine p_goto C 2 (by decide) dX1_moveBy_38 ?_
          refine p_lv (lv9 := [(0, .ref a), (1, .int x), (2, .int (nI (i + 1)))]) [1, 2, 0] rfl ?_
          exact ih2 (i + 1) (by omega)
        | succ n11 ih11 =>
          intro F hm hF
          refine p_lvE (lv9 := [(0, .ref a), (1, .int x), (2, .int (nI i)), (3, .int (nI (i + n11)))]) (by rw [show i + (n11 + 1) = i + n11 + 1 from rfl, nI_pred]) ?_
          refine p_iload_n C rfl 3 rfl dX1_moveBy_11 ?_
          refine p_iload_n C rfl 2 rfl dX1_moveBy_12 ?_
          refine p_icmp_lt C 35 (by decide) dX1_moveBy_13 (fun c_13 => absurd c_13 (nI_nlt (show i ≤ i + n11 by omega) (by omega))) (fun c_13 => ?_)
          refine p_aload_n C rfl 0 rfl dX1_moveBy_16 ?_
          refine p_iload_n C rfl 3 rfl dX1_moveBy_17 ?_
          refine p_dup2_11 C rfl rfl dX1_moveBy_18 ?_
          refine p_iald (v := (F (i + n11))) C u (g_set hp) (vp_in_nI (n := (i + n11)) (N := 9) (by omega) (by omega)) (by rw [show ((nI (i + n11))).toNatClampNeg = (i + n11) from nI_clamp (by omega)]) dX1_moveBy_19 ?_
          refine p_iload_n C rfl 1 rfl dX1_moveBy_20 ?_
          refine p_aload_n C rfl 0 rfl dX1_moveBy_21 ?_
          refine p_iload_n C rfl 3 rfl dX1_moveBy_22 ?_
          refine p_iconst (v := 1) C (by decide) dX1_moveBy_23 ?_
          refine p_iadd C dX1_moveBy_24 ?_
          refine p_iald (v := (F (i + n11 + 1))) C u (g_set hp) (by rw [show ((nI (i + n11)) + 1) = nI (i + n11 + 1) from nI_1 _]; exact vp_in_nI (n := (i + n11 + 1)) (N := 9) (by omega) (by omega)) (by rw [show (((nI (i + n11)) + 1)).toNatClampNeg = (i + n11 + 1) from by rw [show ((nI (i + n11)) + 1) = nI (i + n11 + 1) from nI_1 _]; exact nI_clamp (by omega)]) dX1_moveBy_25 ?_
          refine p_imul C dX1_moveBy_26 ?_
          refine p_iadd C dX1_moveBy_27 ?_
          refine p_iast (w9 := (w.set u (a, aI k 9 (upd F (i + n11) ((F (i + n11)) + (x * (F (i + n11 + 1)))))))) C u (g_set hp) (vp_in_nI (n := (i + n11)) (N := 9) (by omega) (by omega)) (by rw [show ((nI (i + n11))).toNatClampNeg = (i + n11) from nI_clamp (by omega)]; exact g_ss _ _ _ _) dX1_moveBy_28 ?_
          refine p_iinc (lv9 := [(3, .int (nI (i + n11) - 1)), (0, .ref a), (1, .int x), (2, .int (nI i))]) (v := (nI (i + n11) - 1)) C (j := 3) rfl (i_dn _) (by decide) rfl dX1_moveBy_29 ?_
          refine p_goto C 11 (by decide) dX1_moveBy_32 ?_
          refine p_lv (lv9 := [(0, .ref a), (1, .int x), (2, .int (nI i)), (3, .int (nI (i + n11) - 1))]) [1, 2, 3, 0] rfl ?_
          exact ih11 _ (by omega) hF
      exact lp11 (8 - i) (mvO x f i) (by omega) rfl
  exact lp2 8 0 rfl
set_option maxHeartbeats 4000000 in
set_option maxRecDepth 100000 in
/-- multiply -/
theorem m_X1_multiply (l : Launch) (D : va_G) (k : Nat → ClassId) {w : va_W} {u a : Nat} {f : Nat → Int32} (hp : w[u]? = some (a, aI k 9 f)) {v b : Nat} {g : Nat → Int32} (hq : w[v]? = some (b, aI k 9 g)) {t c9 : Nat} {h : Nat → Int32} (ht : w[t]? = some (c9, aI k 9 h)) (hut : u ≠ t) (hvt : v ≠ t) : CtV l D k yX1_multiply (wU yX1_multiply cX1_multiply 5 (none)) (rmL 1 0 0) [.ref a, .ref b, .ref c9] w (fun w' => w' = w.set t (c9, aI k 9 (n9 (cv f g)))) := by
  refine openV (own := RX1) rfl (by decide) (Nat.le_of_ble_eq_true rfl) rfl ?_
  intro p e s m args below meth c A C hrt9 hnm
  obtain ⟨Q, hQ⟩ : ∃ Q, Q = (MQ below (va_Qv (fun w' => w' = w.set t (c9, aI k 9 (n9 (cv f g)))) (cBA D A) A) args s 0 0 A) := ⟨_, rfl⟩
  show WP p l e (rmL 1 0 0) s m args below meth c D A 5 w [(0, .ref a), (1, .ref b), (2, .ref c9)] 0 0 (MQ below (va_Qv (fun w' => w' = w.set t (c9, aI k 9 (n9 (cv f g)))) (cBA D A) A) args s 0 0 A) 0 []
  rw [← hQ]
  refine p_aload_n C rfl 2 rfl dX1_multiply_0 ?_
  refine c_Sv (As := [.ref c9]) (rest := []) C (m_X1_clear l D k (u := t) ht) qml_X1_15 qst_X1_clear qin_X1 qco_X1_clear nd_X1_clear ⟨Nat.le_of_ble_eq_true rfl, Nat.le_of_ble_eq_true rfl⟩ (Nat.le_of_ble_eq_true rfl) ⟨Nat.le_of_ble_eq_true rfl, Nat.le_of_ble_eq_true rfl⟩ rfl dX1_multiply_1 (fun w9 h9 => ?_)
  obtain rfl := h9
  refine p_w (w9 := (w.set t (c9, aI k 9 (fun _ => 0)))) (rfl) ?_
  refine p_iconst (v := 0) C (by decide) dX1_multiply_4 ?_
  refine p_istore_n (lv9 := [(3, .int 0), (0, .ref a), (1, .ref b), (2, .ref c9)]) C rfl (by decide) rfl dX1_multiply_5 ?_
  refine p_w (w9 := (w.set t (c9, aI k 9 (cvM f g 0)))) (by rw [cvM_0]) ?_
  refine p_lv (lv9 := [(0, .ref a), (1, .ref b), (2, .ref c9), (3, .int 0)]) [1, 2, 3, 0] rfl ?_
  have lp6 : ∀ (n6 : Nat) (i : Nat), (hn : i + n6 = 9) → WP p l e (rmL 1 0 0) s m args below meth c D A 5 (w.set t (c9, aI k 9 (cvM f g i))) [(0, .ref a), (1, .ref b), (2, .ref c9), (3, .int (nI i))] 0 0 Q 6 [] := by
    intro n6
    induction n6 with
    | zero =>
      intro i hn
      obtain rfl : i = 9 := by omega
      refine p_lvE (lv9 := [(0, .ref a), (1, .ref b), (2, .ref c9), (3, .int (nI 9))]) rfl ?_
      refine p_iload_n C rfl 3 rfl dX1_multiply_6 ?_
      refine p_bipush (v := 9) C (by decide) dX1_multiply_7 ?_
      refine p_icmp_ge C 53 (by decide) dX1_multiply_9 (fun c_9 => ?_) (fun c_9 => absurd c_9 (by decide))
      refine p_arr (n := 9) t (g_set ht) (n9 (cv f g)) (fun j hj => cvM_9 hj) (g_ss _ _ _ _) ?_
      rw [hQ]
      exact r_v C hrt9 rfl (by decide) (by decide) dX1_multiply_53
    | succ n6 ih6 =>
      intro i hn
      have hi : i < 9 := by omega
      refine p_iload_n C rfl 3 rfl dX1_multiply_6 ?_
      refine p_bipush (v := 9) C (by decide) dX1_multiply_7 ?_
      refine p_icmp_ge C 53 (by decide) dX1_multiply_9 (fun c_9 => absurd c_9 (nI_ge (b := 9) hi (by decide))) (fun c_9 => ?_)
      refine p_iconst (v := 0) C (by decide) dX1_multiply_12 ?_
      refine p_istore (lv9 := [(4, .int 0), (0, .ref a), (1, .ref b), (2, .ref c9), (3, .int (nI i))]) C (by decide) rfl dX1_multiply_13 ?_
      refine p_w (w9 := (w.set t (c9, aI k 9 (cvJ f g i 0)))) (by rw [cvJ_0]) ?_
      refine p_lv (lv9 := [(0, .ref a), (1, .ref b), (2, .ref c9), (3, .int (nI i)), (4, .int 0)]) [1, 2, 3, 4, 0] rfl ?_
      have lp15 : ∀ (n15 : Nat) (j : Nat), (hm : i + j + n15 = 9) → WP p l e (rmL 1 0 0) s m args below meth c D A 5 (w.set t (c9, aI k 9 (cvJ f g i j))) [(0, .ref a), (1, .ref b), (2, .ref c9), (3, .int (nI i)), (4, .int (nI j))] 0 0 Q 15 [] := by
        intro n15
        induction n15 with
        | zero =>
          intro j hm
          have hj : i + j = 9 := by omega
          refine p_w (w9 := (w.set t (c9, aI k 9 (cvM f g (i + 1))))) (by rw [cvJ_e hj]) ?_
          refine p_iload_n C rfl 3 rfl dX1_multiply_15 ?_
          refine p_iload C 4 rfl dX1_multiply_16 ?_
          refine p_iadd C dX1_multiply_18 ?_
          refine p_int (y := (nI 9)) (by rw [nI_add, hj]) ?_
          refine p_bipush (v := 9) C (by decide) dX1_multiply_19 ?_
          refine p_icmp_ge C 47 (by decide) dX1_multiply_21 (fun c_21 => ?_) (fun c_21 => absurd c_21 (by decide))
          refine p_iinc (lv9 := [(3, .int (nI (i + 1))), (0, .ref a), (1, .ref b), (2, .ref c9), (4, .int (nI j))]) (v := (nI (i + 1))) C (j := 3) rfl (i_up i) (by decide) rfl dX1_multiply_47 ?_
          refine p_goto C 6 (by decide) dX1_multiply_50 ?_
          refine p_lv (lv9 := [(0, .ref a), (1, .ref b), (2, .ref c9), (3, .int (nI (i + 1)))]) [1, 2, 3, 0] rfl ?_
          exact ih6 (i + 1) (by omega)
        | succ n15 ih15 =>
          intro j hm
          have hj : i + j < 9 := by omega
          refine p_iload_n C rfl 3 rfl dX1_multiply_15 ?_
          refine p_iload C 4 rfl dX1_multiply_16 ?_
          refine p_iadd C dX1_multiply_18 ?_
          refine p_int (y := (nI (i + j))) (nI_add i j) ?_
          refine p_bipush (v := 9) C (by decide) dX1_multiply_19 ?_
          refine p_icmp_ge C 47 (by decide) dX1_multiply_21 (fun c_21 => absurd c_21 (nI_ge (b := 9) hj (by decide))) (fun c_21 => ?_)
          refine p_aload_n C rfl 2 rfl dX1_multiply_24 ?_
          refine p_iload_n C rfl 3 rfl dX1_multiply_25 ?_
          refine p_iload C 4 rfl dX1_multiply_26 ?_
          refine p_iadd C dX1_multiply_28 ?_
          refine p_int (y := (nI (i + j))) (nI_add i j) ?_
          refine p_dup2_11 C rfl rfl dX1_multiply_29 ?_
          refine p_iald (v := ((cvJ f g i j) (i + j))) C t (g_set ht) (vp_in_nI (n := (i + j)) (N := 9) (by omega) (by omega)) (by rw [show ((nI (i + j))).toNatClampNeg = (i + j) from nI_clamp (by omega)]) dX1_multiply_30 ?_
          refine p_aload_n C rfl 0 rfl dX1_multiply_31 ?_
          refine p_iload_n C rfl 3 rfl dX1_multiply_32 ?_
          refine p_iald (v := (f i)) C u (g_ne hut.symm hp) (vp_in_nI (n := i) (N := 9) (by omega) (by omega)) (by rw [show ((nI i)).toNatClampNeg = i from nI_clamp (by omega)]) dX1_multiply_33 ?_
          refine p_aload_n C rfl 1 rfl dX1_multiply_34 ?_
          refine p_iload C 4 rfl dX1_multiply_35 ?_
          refine p_iald (v := (g j)) C v (g_ne hvt.symm hq) (vp_in_nI (n := j) (N := 9) (by omega) (by omega)) (by rw [show ((nI j)).toNatClampNeg = j from nI_clamp (by omega)]) dX1_multiply_37 ?_
          refine p_imul C dX1_multiply_38 ?_
          refine p_iadd C dX1_multiply_39 ?_
          refine p_iast (w9 := (w.set t (c9, aI k 9 (cvJ f g i (j + 1))))) C t (g_set ht) (vp_in_nI (n := (i + j)) (N := 9) (by omega) (by omega)) (by rw [show ((nI (i + j))).toNatClampNeg = (i + j) from nI_clamp (by omega), show upd (cvJ f g i j) (i + j) (((cvJ f g i j) (i + j)) + ((f i) * (g j))) = cvJ f g i (j + 1) from cvJ_s hj]; exact g_ss _ _ _ _) dX1_multiply_40 ?_
          refine p_iinc (lv9 := [(4, .int (nI (j + 1))), (0, .ref a), (1, .ref b), (2, .ref c9), (3, .int (nI i))]) (v := (nI (j + 1))) C (j := 4) rfl (i_up j) (by decide) rfl dX1_multiply_41 ?_
          refine p_goto C 15 (by decide) dX1_multiply_44 ?_
          refine p_lv (lv9 := [(0, .ref a), (1, .ref b), (2, .ref c9), (3, .int (nI i)), (4, .int (nI (j + 1)))]) [1, 2, 3, 4, 0] rfl ?_
          exact ih15 (j + 1) (by omega)
      exact lp15 (9 - i) 0 (by omega)
  exact lp6 9 0 rfl
set_option maxHeartbeats 4000000 in
set_option maxRecDepth 100000 in
/-- split -/
theorem m_X1_split (l : Launch) (D : va_G) (k : Nat → ClassId) {w : va_W} {u a : Nat} {f : Nat → Int32} (hp : w[u]? = some (a, aI k 9 f)) {v b : Nat} {g : Nat → Int32} (hq : w[v]? = some (b, aI k 9 g)) {t c9 : Nat} {h : Nat → Int32} (ht : w[t]? = some (c9, aI k 9 h)) {z d9 : Nat} {h2 : Nat → Int32} (hz : w[z]? = some (d9, aI k 9 h2)) (hut : u ≠ t) (hvt : v ≠ t) (huz : u ≠ z) (hvz : v ≠ z) (htz : t ≠ z) (hg : 0 < dg g) : CtV l D k yX1_split (wU yX1_split cX1_split 9 (none)) (rmL 1 0 0) [.ref a, .ref b, .ref c9, .ref d9] w (fun w' => w' = (w.set t (c9, aI k 9 (sp f g).1)).set z (d9, aI k 9 (sp f g).2)) := by
  refine openV (own := RX1) rfl (by decide) (Nat.le_of_ble_eq_true rfl) rfl ?_
  intro p e s m args below meth c A C hrt9 hnm
  obtain ⟨Q, hQ⟩ : ∃ Q, Q = (MQ below (va_Qv (fun w' => w' = (w.set t (c9, aI k 9 (sp f g).1)).set z (d9, aI k 9 (sp f g).2)) (cBA D A) A) args s 0 0 A) := ⟨_, rfl⟩
  show WP p l e (rmL 1 0 0) s m args below meth c D A 9 w [(0, .ref a), (1, .ref b), (2, .ref c9), (3, .ref d9)] 0 0 (MQ below (va_Qv (fun w' => w' = (w.set t (c9, aI k 9 (sp f g).1)).set z (d9, aI k 9 (sp f g).2)) (cBA D A) A) args s 0 0 A) 0 []
  rw [← hQ]
  refine p_aload_n C rfl 2 rfl dX1_split_0 ?_
  refine c_Sv (As := [.ref c9]) (rest := []) C (m_X1_clear l D k (u := t) ht) qml_X1_15 qst_X1_clear qin_X1 qco_X1_clear nd_X1_clear ⟨Nat.le_of_ble_eq_true rfl, Nat.le_of_ble_eq_true rfl⟩ (Nat.le_of_ble_eq_true rfl) ⟨Nat.le_of_ble_eq_true rfl, Nat.le_of_ble_eq_true rfl⟩ rfl dX1_split_1 (fun w9 h9 => ?_)
  obtain rfl := h9
  refine p_w (w9 := (w.set t (c9, aI k 9 (fun _ => 0)))) (rfl) ?_
  refine p_aload_n C rfl 0 rfl dX1_split_4 ?_
  refine p_aload_n C rfl 3 rfl dX1_split_5 ?_
  refine c_Sv (As := [.ref a, .ref d9]) (rest := []) C (m_X1_copy l D k (u := u) (v := z) (g_ne hut.symm hp) (g_ne htz hz) huz) qml_X1_19 qst_X1_copy qin_X1 qco_X1_copy nd_X1_copy ⟨Nat.le_of_ble_eq_true rfl, Nat.le_of_ble_eq_true rfl⟩ (Nat.le_of_ble_eq_true rfl) ⟨Nat.le_of_ble_eq_true rfl, Nat.le_of_ble_eq_true rfl⟩ rfl dX1_split_6 (fun w9 h9 => ?_)
  obtain rfl := h9
  refine p_w (w9 := ((w.set t (c9, aI k 9 (fun _ => 0))).set z (d9, aI k 9 (n9 f)))) (rfl) ?_
  refine p_aload_n C rfl 1 rfl dX1_split_9 ?_
  refine c_Si (As := [.ref b]) (rest := []) C (m_X1_degree l D k (u := v)  (g_ne hvz.symm (g_ne hvt.symm hq))) qml_X1_9 qst_X1_degree qin_X1 qco_X1_degree nd_X1_degree ⟨Nat.le_of_ble_eq_true rfl, Nat.le_of_ble_eq_true rfl⟩ (Nat.le_of_ble_eq_true rfl) ⟨Nat.le_of_ble_eq_true rfl, Nat.le_of_ble_eq_true rfl⟩ rfl dX1_split_10 (fun r9 w9 h9 => ?_)
  obtain ⟨rfl, rfl⟩ := h9
  obtain ⟨d, hd⟩ : ∃ d, dg g = d + 1 := ⟨dg g - 1, by omega⟩
  have hd9 : d ≤ 8 := by have := dg_le g; omega
  refine p_int (y := nI d) (by rw [hd]; exact dI_s d) ?_
  refine p_istore (lv9 := [(4, .int (nI d)), (0, .ref a), (1, .ref b), (2, .ref c9), (3, .ref d9)]) C (by decide) rfl dX1_split_13 ?_
  refine p_iload C 0 rfl dX1_split_15 ?_
  refine p_if_ge C 21 (by decide) dX1_split_17 (fun c_17 => ?_) (fun c_17 => absurd (nI_pos' (n := d) (by omega)) c_17)
  refine p_bipush (v := 8) C (by decide) dX1_split_21 ?_
  refine p_istore (lv9 := [(5, .int 8), (4, .int (nI d)), (0, .ref a), (1, .ref b), (2, .ref c9), (3, .ref d9)]) C (by decide) rfl dX1_split_23 ?_
  refine p_lv (lv9 := [(0, .ref a), (1, .ref b), (2, .ref c9), (3, .ref d9), (4, .int (nI d)), (5, .int 8)]) [2, 3, 4, 5, 1, 0] rfl ?_
  refine p_lvE (lv9 := [(0, .ref a), (1, .ref b), (2, .ref c9), (3, .ref d9), (4, .int (nI d)), (5, .int (nI (d + (9 - d)) - 1))]) (by rw [show d + (9 - d) = 9 by omega]; rfl) ?_
  have lp25 : ∀ (n25 : Nat) (q L : Nat → Int32), (hn : d + n25 ≤ 9) → (hS : sp f g = spO g d n25 (q, L)) → WP p l e (rmL 1 0 0) s m args below meth c D A 9 ((w.set t (c9, aI k 9 q)).set z (d9, aI k 9 L)) [(0, .ref a), (1, .ref b), (2, .ref c9), (3, .ref d9), (4, .int (nI d)), (5, .int (nI (d + n25) - 1))] 0 0 Q 25 [] := by
    intro n25
    induction n25 with
    | zero =>
      intro q L hn hS
      refine p_iload C 5 rfl dX1_split_25 ?_
      refine p_iload C 4 rfl dX1_split_27 ?_
      refine p_icmp_lt C 90 (by decide) dX1_split_29 (fun c_29 => ?_) (fun c_29 => absurd (dn_lt d (by omega)) c_29)
      rw [hQ]
      exact r_v C hrt9 (by rw [hS]; rfl) (by decide) (by decide) dX1_split_90
    | succ n25 ih25 =>
      intro q L hn hS
      refine p_lvE (lv9 := [(0, .ref a), (1, .ref b), (2, .ref c9), (3, .ref d9), (4, .int (nI d)), (5, .int (nI (d + n25)))]) (by rw [show d + (n25 + 1) = d + n25 + 1 from rfl, nI_pred]) ?_
      refine p_iload C 5 rfl dX1_split_25 ?_
      refine p_iload C 4 rfl dX1_split_27 ?_
      refine p_icmp_lt C 90 (by decide) dX1_split_29 (fun c_29 => absurd c_29 (nI_nlt (show d ≤ d + n25 by omega) (by omega))) (fun c_29 => ?_)
      refine p_aload_n C rfl 3 rfl dX1_split_32 ?_
      refine p_iload C 5 rfl dX1_split_33 ?_
      refine p_iald (v := (L (d + n25))) C z (g_set (g_ne htz hz)) (vp_in_nI (n := (d + n25)) (N := 9) (by omega) (by omega)) (by rw [show ((nI (d + n25))).toNatClampNeg = (d + n25) from nI_clamp (by omega)]) dX1_split_35 ?_
      refine p_istore (lv9 := [(6, .int (L (d + n25))), (0, .ref a), (1, .ref b), (2, .ref c9), (3, .ref d9), (4, .int (nI d)), (5, .int (nI (d + n25)))]) C (by decide) rfl dX1_split_36 ?_
      refine p_iload C 6 rfl dX1_split_38 ?_
      refine p_iload C 5 rfl dX1_split_40 ?_
      refine p_isub C dX1_split_42 ?_
      refine p_int (y := (nI n25)) (by rw [pk_sub (by omega), Nat.add_sub_cancel_left]) ?_
      refine p_istore (lv9 := [(7, .int (nI n25)), (6, .int (L (d + n25))), (0, .ref a), (1, .ref b), (2, .ref c9), (3, .ref d9), (4, .int (nI d)), (5, .int (nI (d + n25)))]) C (by decide) rfl dX1_split_43 ?_
      refine p_aload_n C rfl 4 rfl dX1_split_45 ?_
      refine p_iload C 0 rfl dX1_split_46 ?_
      refine p_iload C 1 rfl dX1_split_48 ?_
      refine p_iast (w9 := ((w.set t (c9, aI k 9 (upd q n25 (L (d + n25))))).set z (d9, aI k 9 L))) C t (g_ne htz.symm (g_set ht)) (vp_in_nI (n := n25) (N := 9) (by omega) (by omega)) (by rw [show ((nI n25)).toNatClampNeg = n25 from nI_clamp (by omega)]; exact g_sc _ _ _ _ htz.symm) dX1_split_50 ?_
      refine p_iconst (v := 0) C (by decide) dX1_split_51 ?_
      refine p_istore (lv9 := [(8, .int 0), (7, .int (nI n25)), (6, .int (L (d + n25))), (0, .ref a), (1, .ref b), (2, .ref c9), (3, .ref d9), (4, .int (nI d)), (5, .int (nI (d + n25)))]) C (by decide) rfl dX1_split_52 ?_
      refine p_lv (lv9 := [(0, .ref a), (1, .ref b), (2, .ref c9), (3, .ref d9), (4, .int (nI d)), (5, .int (nI (d + n25))), (6, .int (L (d + n25))), (7, .int (nI n25)), (8, .int 0)]) [3, 4, 5, 6, 7, 8, 2, 1, 0] rfl ?_
      have lp54 : ∀ (n54 : Nat) (j : Nat), (hj : j + n54 = d + 1) → WP p l e (rmL 1 0 0) s m args below meth c D A 9 ((w.set t (c9, aI k 9 (upd q n25 (L (d + n25))))).set z (d9, aI k 9 (spI (L (d + n25)) g n25 L j))) [(0, .ref a), (1, .ref b), (2, .ref c9), (3, .ref d9), (4, .int (nI d)), (5, .int (nI (d + n25))), (6, .int (L (d + n25))), (7, .int (nI n25)), (8, .int (nI j))] 0 0 Q 54 [] := by
        intro n54
        induction n54 with
        | zero =>
          intro j hj
          obtain rfl : j = d + 1 := by omega
          refine p_iload C 8 rfl dX1_split_54 ?_
          refine p_iload C 4 rfl dX1_split_56 ?_
          refine p_icmp_gt C 84 (by decide) dX1_split_58 (fun c_58 => ?_) (fun c_58 => absurd (nI_lt (Nat.lt_succ_self d) (by omega)) c_58)
          refine p_iinc (lv9 := [(5, .int (nI (d + n25) - 1)), (0, .ref a), (1, .ref b), (2, .ref c9), (3, .ref d9), (4, .int (nI d)), (6, .int (L (d + n25))), (7, .int (nI n25)), (8, .int (nI (d + 1)))]) (v := (nI (d + n25) - 1)) C (j := 5) rfl (i_dn _) (by decide) rfl dX1_split_84 ?_
          refine p_goto C 25 (by decide) dX1_split_87 ?_
          refine p_lv (lv9 := [(0, .ref a), (1, .ref b), (2, .ref c9), (3, .ref d9), (4, .int (nI d)), (5, .int (nI (d + n25) - 1))]) [1, 2, 3, 4, 5, 0] rfl ?_
          exact ih25 _ _ (by omega) hS
        | succ n54 ih54 =>
          intro j hj
          have hj2 : j ≤ d := by omega
          refine p_iload C 8 rfl dX1_split_54 ?_
          refine p_iload C 4 rfl dX1_split_56 ?_
          refine p_icmp_gt C 84 (by decide) dX1_split_58 (fun c_58 => absurd c_58 (nI_nlt hj2 (by omega))) (fun c_58 => ?_)
          refine p_aload_n C rfl 3 rfl dX1_split_61 ?_
          refine p_iload C 7 rfl dX1_split_62 ?_
          refine p_iload C 8 rfl dX1_split_64 ?_
          refine p_iadd C dX1_split_66 ?_
          refine p_int (y := (nI (n25 + j))) (nI_add n25 j) ?_
          refine p_dup2_11 C rfl rfl dX1_split_67 ?_
          refine p_iald (v := ((spI (L (d + n25)) g n25 L j) (n25 + j))) C z (g_set (g_ne htz hz)) (vp_in_nI (n := (n25 + j)) (N := 9) (by omega) (by omega)) (by rw [show ((nI (n25 + j))).toNatClampNeg = (n25 + j) from nI_clamp (by omega)]) dX1_split_68 ?_
          refine p_iload C 6 rfl dX1_split_69 ?_
          refine p_aload_n C rfl 1 rfl dX1_split_71 ?_
          refine p_iload C 8 rfl dX1_split_72 ?_
          refine p_iald (v := (g j)) C v (g_ne hvz.symm (g_ne hvt.symm hq)) (vp_in_nI (n := j) (N := 9) (by omega) (by omega)) (by rw [show ((nI j)).toNatClampNeg = j from nI_clamp (by omega)]) dX1_split_74 ?_
          refine p_imul C dX1_split_75 ?_
          refine p_isub C dX1_split_76 ?_
          refine p_iast (w9 := ((w.set t (c9, aI k 9 (upd q n25 (L (d + n25))))).set z (d9, aI k 9 (spI (L (d + n25)) g n25 L (j + 1))))) C z (g_set (g_ne htz hz)) (vp_in_nI (n := (n25 + j)) (N := 9) (by omega) (by omega)) (by rw [show ((nI (n25 + j))).toNatClampNeg = (n25 + j) from nI_clamp (by omega), show upd (spI (L (d + n25)) g n25 L j) (n25 + j) (((spI (L (d + n25)) g n25 L j) (n25 + j)) - ((L (d + n25)) * (g j))) = spI (L (d + n25)) g n25 L (j + 1) from rfl]; exact g_ss _ _ _ _) dX1_split_77 ?_
          refine p_iinc (lv9 := [(8, .int (nI (j + 1))), (0, .ref a), (1, .ref b), (2, .ref c9), (3, .ref d9), (4, .int (nI d)), (5, .int (nI (d + n25))), (6, .int (L (d + n25))), (7, .int (nI n25))]) (v := (nI (j + 1))) C (j := 8) rfl (i_up j) (by decide) rfl dX1_split_78 ?_
          refine p_goto C 54 (by decide) dX1_split_81 ?_
          refine p_lv (lv9 := [(0, .ref a), (1, .ref b), (2, .ref c9), (3, .ref d9), (4, .int (nI d)), (5, .int (nI (d + n25))), (6, .int (L (d + n25))), (7, .int (nI n25)), (8, .int (nI (j + 1)))]) [1, 2, 3, 4, 5, 6, 7, 8, 0] rfl ?_
          exact ih54 (j + 1) (by omega)
      exact lp54 (d + 1) 0 (by omega)
  exact lp25 (9 - d) _ _ (by omega) (by unfold sp; rw [hd, show 10 - (d + 1) = 9 - d by omega, Nat.add_sub_cancel])
set_option maxHeartbeats 4000000 in
set_option maxRecDepth 100000 in
/-- divideByLess -/
theorem m_X1_divideByLess (l : Launch) (D : va_G) (k : Nat → ClassId) {w : va_W} {u a : Nat} {f : Nat → Int32} (hp : w[u]? = some (a, aI k 9 f)) {x : Int32} : CtV l D k yX1_divideByLess (wU yX1_divideByLess cX1_divideByLess 5 (none)) (rmL 0 0 0) [.ref a, .int x] w (fun w' => w' = w.set u (a, aI k 9 (dvl f x))) := by
  refine openV (own := RX1) rfl (by decide) (Nat.le_of_ble_eq_true rfl) rfl ?_
  intro p e s m args below meth c A C hrt9 hnm
  obtain ⟨Q, hQ⟩ : ∃ Q, Q = (MQ below (va_Qv (fun w' => w' = w.set u (a, aI k 9 (dvl f x))) (cBA D A) A) args s 0 0 A) := ⟨_, rfl⟩
  show WP p l e (rmL 0 0 0) s m args below meth c D A 5 w [(0, .ref a), (1, .int x)] 0 0 (MQ below (va_Qv (fun w' => w' = w.set u (a, aI k 9 (dvl f x))) (cBA D A) A) args s 0 0 A) 0 []
  rw [← hQ]
  refine p_iconst (v := 0) C (by decide) dX1_divideByLess_0 ?_
  refine p_istore_n (lv9 := [(2, .int 0), (0, .ref a), (1, .int x)]) C rfl (by decide) rfl dX1_divideByLess_1 ?_
  refine p_bipush (v := (nI 9 - 1)) C (by decide) dX1_divideByLess_2 ?_
  refine p_istore_n (lv9 := [(3, .int (nI 9 - 1)), (2, .int 0), (0, .ref a), (1, .int x)]) C rfl (by decide) rfl dX1_divideByLess_4 ?_
  refine p_w (w9 := (w.set u (a, aI k 9 f))) ((g_id hp).symm) ?_
  refine p_lv (lv9 := [(0, .ref a), (1, .int x), (2, .int 0), (3, .int (nI 9 - 1))]) [2, 3, 1, 0] rfl ?_
  have lp5 : ∀ (n5 : Nat) (F : Nat → Int32) (y : Int32), (hn : n5 ≤ 9) → (hF : dvl f x = dvN x n5 F y) → WP p l e (rmL 0 0 0) s m args below meth c D A 5 (w.set u (a, aI k 9 F)) [(0, .ref a), (1, .int x), (2, .int y), (3, .int (nI n5 - 1))] 0 0 Q 5 [] := by
    intro n5
    induction n5 with
    | zero =>
      intro F y hn hF
      refine p_lvE (lv9 := [(0, .ref a), (1, .int x), (2, .int y), (3, .int (-1))]) (by rw [i_z1]) ?_
      refine p_iload_n C rfl 3 rfl dX1_divideByLess_5 ?_
      refine p_if_lt C 31 (by decide) dX1_divideByLess_6 (fun c_6 => ?_) (fun c_6 => absurd c_6 (by decide))
      rw [hQ]
      exact r_v C hrt9 (by rw [hF]; rfl) (by decide) (by decide) dX1_divideByLess_31
    | succ n5 ih5 =>
      intro F y hn hF
      refine p_lvE (lv9 := [(0, .ref a), (1, .int x), (2, .int y), (3, .int (nI n5))]) (by rw [nI_pred]) ?_
      refine p_iload_n C rfl 3 rfl dX1_divideByLess_5 ?_
      refine p_if_lt C 31 (by decide) dX1_divideByLess_6 (fun c_6 => absurd c_6 (nI_pos (by omega))) (fun c_6 => ?_)
      refine p_aload_n C rfl 0 rfl dX1_divideByLess_9 ?_
      refine p_iload_n C rfl 3 rfl dX1_divideByLess_10 ?_
      refine p_iald (v := (F n5)) C u (g_set hp) (vp_in_nI (n := n5) (N := 9) (by omega) (by omega)) (by rw [show ((nI n5)).toNatClampNeg = n5 from nI_clamp (by omega)]) dX1_divideByLess_11 ?_
      refine p_istore (lv9 := [(4, .int (F n5)), (0, .ref a), (1, .int x), (2, .int y), (3, .int (nI n5))]) C (by decide) rfl dX1_divideByLess_12 ?_
      refine p_aload_n C rfl 1 rfl dX1_divideByLess_14 ?_
      refine p_iload_n C rfl 4 rfl dX1_divideByLess_15 ?_
      refine p_iload_n C rfl 3 rfl dX1_divideByLess_16 ?_
      refine p_iast (w9 := (w.set u (a, aI k 9 (upd F n5 y)))) C u (g_set hp) (vp_in_nI (n := n5) (N := 9) (by omega) (by omega)) (by rw [show ((nI n5)).toNatClampNeg = n5 from nI_clamp (by omega)]; exact g_ss _ _ _ _) dX1_divideByLess_17 ?_
      refine p_iload_n C rfl 3 rfl dX1_divideByLess_18 ?_
      refine p_iload_n C rfl 2 rfl dX1_divideByLess_19 ?_
      refine p_imul C dX1_divideByLess_20 ?_
      refine p_iload C 0 rfl dX1_divideByLess_21 ?_
      refine p_iadd C dX1_divideByLess_23 ?_
      refine p_istore_n (lv9 := [(2, .int ((y * x) + (F n5))), (4, .int (F n5)), (0, .ref a), (1, .int x), (3, .int (nI n5))]) C rfl (by decide) rfl dX1_divideByLess_24 ?_
      refine p_iinc (lv9 := [(3, .int (nI n5 - 1)), (2, .int ((y * x) + (F n5))), (4, .int (F n5)), (0, .ref a), (1, .int x)]) (v := (nI n5 - 1)) C (j := 4) rfl (i_dn _) (by decide) rfl dX1_divideByLess_25 ?_
      refine p_goto C 5 (by decide) dX1_divideByLess_28 ?_
      refine p_lv (lv9 := [(0, .ref a), (1, .int x), (2, .int ((y * x) + (F n5))), (3, .int (nI n5 - 1))]) [3, 4, 1, 0] rfl ?_
      exact ih5 _ _ (by omega) hF
  exact lp5 9 f 0 (by decide) rfl
set_option maxHeartbeats 4000000 in
set_option maxRecDepth 100000 in
/-- withoutSign -/
theorem m_X1_withoutSign (l : Launch) (D : va_G) (k : Nat → ClassId) {w : va_W} {x : Int32} : CtL l D k yX1_withoutSign (wU yX1_withoutSign cX1_withoutSign 3 (some .long)) (rmL 0 0 0) [.int x] w (fun r w' => r = lN (ab x) ∧ w' = w) := by
  refine openL (own := RX1) rfl (by decide) (Nat.le_of_ble_eq_true rfl) rfl ?_
  intro p e s m args below meth c A C hrt9 hnm
  obtain ⟨Q, hQ⟩ : ∃ Q, Q = (MQ below (va_Ql (fun r w' => r = lN (ab x) ∧ w' = w) (cBA D A) A) args s 0 0 A) := ⟨_, rfl⟩
  show WP p l e (rmL 0 0 0) s m args below meth c D A 3 w [(0, .int x)] 0 0 (MQ below (va_Ql (fun r w' => r = lN (ab x) ∧ w' = w) (cBA D A) A) args s 0 0 A) 0 []
  rw [← hQ]
  refine p_iload_n C rfl 0 rfl dX1_withoutSign_0 ?_
  refine p_i2l C dX1_withoutSign_1 ?_
  refine p_lstore_n (lv9 := [(1, .long x.toInt64), (0, .int x)]) C rfl (by decide) rfl dX1_withoutSign_2 ?_
  refine p_lload_n C rfl 0 rfl dX1_withoutSign_3 ?_
  refine p_lconst (v := 0) C (by decide) dX1_withoutSign_4 ?_
  refine p_lcmp C dX1_withoutSign_5 ?_
  refine p_if_ge C 14 (by decide) dX1_withoutSign_6 (fun c_6 => ?_) (fun c_6 => ?_)
  · refine p_lload_n C rfl 0 rfl dX1_withoutSign_14 ?_
    rw [hQ]
    exact r_l C hrt9 (⟨ab_t c_6, rfl⟩) (by decide) (by decide) dX1_withoutSign_15
  · refine p_lload_n C rfl 0 rfl dX1_withoutSign_9 ?_
    refine p_lneg C dX1_withoutSign_10 ?_
    refine p_goto C 15 (by decide) dX1_withoutSign_11 ?_
    rw [hQ]
    exact r_l C hrt9 (⟨ab_f c_6, rfl⟩) (by decide) (by decide) dX1_withoutSign_15
set_option maxHeartbeats 4000000 in
set_option maxRecDepth 100000 in
/-- commonDivisor -/
theorem m_X1_commonDivisor (l : Launch) (D : va_G) (k : Nat → ClassId) {w : va_W} {a b : Nat} (ha : a ≤ 2147483648) (hb : b ≤ 2147483648) : CtL l D k yX1_commonDivisor (wU yX1_commonDivisor cX1_commonDivisor 11 (some .long)) (rmL 0 0 0) [.long (lN a), .long (lN b)] w (fun r w' => r = lN (Nat.gcd a b) ∧ w' = w) := by
  refine openL (own := RX1) rfl (by decide) (Nat.le_of_ble_eq_true rfl) rfl ?_
  intro p e s m args below meth c A C hrt9 hnm
  obtain ⟨Q, hQ⟩ : ∃ Q, Q = (MQ below (va_Ql (fun r w' => r = lN (Nat.gcd a b) ∧ w' = w) (cBA D A) A) args s 0 0 A) := ⟨_, rfl⟩
  show WP p l e (rmL 0 0 0) s m args below meth c D A 11 w [(0, .long (lN a)), (2, .long (lN b))] 0 0 (MQ below (va_Ql (fun r w' => r = lN (Nat.gcd a b) ∧ w' = w) (cBA D A) A) args s 0 0 A) 0 []
  rw [← hQ]
  refine p_lload_n C rfl 0 rfl dX1_commonDivisor_0 ?_
  refine p_lstore (lv9 := [(4, .long (lN a)), (0, .long (lN a)), (2, .long (lN b))]) C (by decide) rfl dX1_commonDivisor_1 ?_
  refine p_lload_n C rfl 2 rfl dX1_commonDivisor_3 ?_
  refine p_lstore (lv9 := [(6, .long (lN b)), (4, .long (lN a)), (0, .long (lN a)), (2, .long (lN b))]) C (by decide) rfl dX1_commonDivisor_4 ?_
  refine p_iconst (v := 0) C (by decide) dX1_commonDivisor_6 ?_
  refine p_istore (lv9 := [(8, .int 0), (6, .long (lN b)), (4, .long (lN a)), (0, .long (lN a)), (2, .long (lN b))]) C (by decide) rfl dX1_commonDivisor_7 ?_
  refine p_lv (lv9 := [(0, .long (lN a)), (2, .long (lN b)), (4, .long (lN a)), (6, .long (lN b)), (8, .int 0)]) [3, 4, 2, 1, 0] rfl ?_
  have lp9 : ∀ (n9 : Nat) (i d r : Nat), (hn : i + n9 = 100) → (hg : Nat.gcd d r = Nat.gcd a b) → (hd : d ≤ 2147483648) → (hr2 : r ≤ 2147483648) → (hI : 0 < i → r ≤ d ∧ d * r * 2 ^ i < 2 ^ 66) → WP p l e (rmL 0 0 0) s m args below meth c D A 11 w [(0, .long (lN a)), (2, .long (lN b)), (4, .long (lN d)), (6, .long (lN r)), (8, .int (nI i))] 0 0 Q 9 [] := by
    intro n9
    induction n9 with
    | zero =>
      intro i d r hn hg hd hr2 hI
      obtain rfl : i = 100 := by omega
      obtain ⟨h1, h2⟩ := hI (by decide)
      obtain rfl := eu_e h1 h2
      refine p_lvE (lv9 := [(0, .long (lN a)), (2, .long (lN b)), (4, .long (lN d)), (6, .long (lN 0)), (8, .int (nI 100))]) rfl ?_
      refine p_iload C 4 rfl dX1_commonDivisor_9 ?_
      refine p_bipush (v := 100) C (by decide) dX1_commonDivisor_11 ?_
      refine p_icmp_ge C 44 (by decide) dX1_commonDivisor_13 (fun c_13 => ?_) (fun c_13 => absurd c_13 (by decide))
      refine p_lload C 2 rfl dX1_commonDivisor_44 ?_
      rw [hQ]
      exact r_l C hrt9 (⟨by rw [← hg, Nat.gcd_zero_right], rfl⟩) (by decide) (by decide) dX1_commonDivisor_46
    | succ n9 ih9 =>
      intro i d r hn hg hd hr2 hI
      have hi : i < 100 := by omega
      refine p_iload C 4 rfl dX1_commonDivisor_9 ?_
      refine p_bipush (v := 100) C (by decide) dX1_commonDivisor_11 ?_
      refine p_icmp_ge C 44 (by decide) dX1_commonDivisor_13 (fun c_13 => absurd c_13 (nI_ge (b := 100) hi (by decide))) (fun c_13 => ?_)
      refine p_lload C 3 rfl dX1_commonDivisor_16 ?_
      refine p_lconst (v := 0) C (by decide) dX1_commonDivisor_18 ?_
      refine p_lcmp C dX1_commonDivisor_19 ?_
      refine p_if_eq C 44 (by decide) dX1_commonDivisor_20 (fun c_20 => ?_) (fun c_20 => ?_)
      · obtain rfl : r = 0 := (l_z (by omega)).mp ((lg_cmp_eq _ _).mp c_20)
        refine p_lload C 2 rfl dX1_commonDivisor_44 ?_
        rw [hQ]
        exact r_l C hrt9 (⟨by rw [← hg, Nat.gcd_zero_right], rfl⟩) (by decide) (by decide) dX1_commonDivisor_46
      · have hr0 : 0 < r := Nat.pos_of_ne_zero (fun q => c_20 ((lg_cmp_eq _ _).mpr ((l_z (by omega)).mpr q)))
        refine p_lload C 2 rfl dX1_commonDivisor_23 ?_
        refine p_lload C 3 rfl dX1_commonDivisor_25 ?_
        refine p_lrem C (fun q => c_20 ((lg_cmp_eq _ _).mpr q)) dX1_commonDivisor_27 ?_
        refine p_st (st9 := [.long (lN (d % r))]) (congrArg (fun z9 => Value.long z9 :: []) (pk_lRem (show d < 2 ^ 63 by omega) hr0 (by omega))) ?_
        refine p_lstore (lv9 := [(9, .long (lN (d % r))), (0, .long (lN a)), (2, .long (lN b)), (4, .long (lN d)), (6, .long (lN r)), (8, .int (nI i))]) C (by decide) rfl dX1_commonDivisor_28 ?_
        refine p_lload C 4 rfl dX1_commonDivisor_30 ?_
        refine p_lstore (lv9 := [(4, .long (lN r)), (9, .long (lN (d % r))), (0, .long (lN a)), (2, .long (lN b)), (6, .long (lN r)), (8, .int (nI i))]) C (by decide) rfl dX1_commonDivisor_32 ?_
        refine p_lload C 1 rfl dX1_commonDivisor_34 ?_
        refine p_lstore (lv9 := [(6, .long (lN (d % r))), (4, .long (lN r)), (9, .long (lN (d % r))), (0, .long (lN a)), (2, .long (lN b)), (8, .int (nI i))]) C (by decide) rfl dX1_commonDivisor_36 ?_
        refine p_iinc (lv9 := [(8, .int (nI (i + 1))), (6, .long (lN (d % r))), (4, .long (lN r)), (9, .long (lN (d % r))), (0, .long (lN a)), (2, .long (lN b))]) (v := (nI (i + 1))) C (j := 5) rfl (i_up i) (by decide) rfl dX1_commonDivisor_38 ?_
        refine p_goto C 9 (by decide) dX1_commonDivisor_41 ?_
        refine p_lv (lv9 := [(0, .long (lN a)), (2, .long (lN b)), (4, .long (lN r)), (6, .long (lN (d % r))), (8, .int (nI (i + 1)))]) [4, 5, 2, 1, 0] rfl ?_
        exact ih9 (i + 1) r (d % r) (by omega) (by rw [← hg, Nat.gcd_comm r, ← Nat.gcd_rec, Nat.gcd_comm]) hr2 (Nat.le_of_lt (Nat.lt_of_lt_of_le (Nat.mod_lt d hr0) hr2)) (fun _ => (Nat.eq_zero_or_pos i).elim (fun h0 => by subst h0; exact eu_1 hd hr2 hr0) (fun h0 => eu_s hr0 (hI h0).1 (hI h0).2))
  exact lp9 100 0 a b rfl rfl ha hb (fun h => absurd h (by decide))
