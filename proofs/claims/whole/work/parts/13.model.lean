theorem isF_a {x lo hi : Int32} (h : x < lo) : (0 : Int32) = bI (isF x lo hi) := by
  rw [show isF x lo hi = false from decide_eq_false fun q => absurd q.1 (Int32.not_le.mpr h)]; rfl
theorem isF_b {x lo hi : Int32} (h : hi < x) : (0 : Int32) = bI (isF x lo hi) := by
  rw [show isF x lo hi = false from decide_eq_false fun q => absurd q.2 (Int32.not_le.mpr h)]; rfl
theorem isF_c {x lo hi : Int32} (h : ¬ x < lo) (h2 : ¬ hi < x) : (1 : Int32) = bI (isF x lo hi) := by
  rw [show isF x lo hi = true from decide_eq_true ⟨Int32.not_lt.mp h, Int32.not_lt.mp h2⟩]; rfl
theorem cpy_take {Am Wk : Nat → Int32} {i j : Nat} (hj : j < 9) : va_cpy Am Wk (9 * i) 0 9 j = mrow Am i j := by
  rw [pk_cpy_in (Nat.zero_le _) (by omega), mrow_in hj]; rfl
theorem cpy_put {Am Wk : Nat → Int32} {i j : Nat} : va_cpy Wk Am 0 (9 * i) 9 j = ptR Am i Wk j := by
  unfold ptR
  by_cases h : 9 * i ≤ j ∧ j < 9 * i + 9
  · rw [if_pos h, pk_cpy_in h.1 h.2, Nat.zero_add]
  · rw [if_neg h, pk_cpy_out (by omega)]
/-- the work row, multiplied from the power c on -/
def mulD (f g : Nat → Int32) (c : Nat) : Nat → Int32 := fun t => if c ≤ t ∧ t < 9 then cv f g t else f t
theorem mulD_9 (f g : Nat → Int32) : mulD f g 9 = f := funext fun t => if_neg (by omega)
theorem mulD_lt {f g : Nat → Int32} {c t : Nat} (h : t < c) : mulD f g c t = f t := if_neg (by omega)
theorem mulD_s {f g : Nat → Int32} {c : Nat} (h : c < 9) {x : Int32} (hx : x = cvN f g c (c + 1)) : upd (mulD f g (c + 1)) c x = mulD f g c := funext fun t => by
  subst hx
  unfold upd mulD
  by_cases e : t = c
  · subst e
    rw [if_pos rfl, if_pos ⟨Nat.le_refl _, h⟩]; rfl
  · rw [if_neg e]
    by_cases h1 : c + 1 ≤ t ∧ t < 9
    · rw [if_pos h1, if_pos ⟨by omega, h1.2⟩]
    · rw [if_neg h1, if_neg (by omega)]
theorem mulD_0 {f g : Nat → Int32} {j : Nat} (h : j < 9) : mulD f g 0 j = n9 (cv f g) j := by
  rw [n9_in h]; exact if_pos ⟨Nat.zero_le _, h⟩
set_option maxHeartbeats 4000000 in
set_option maxRecDepth 100000 in
/-- X3_no -/
theorem m_X3_no (l : Launch) (D : va_G) (k : Nat → ClassId) {md : Nat → Nat} {th : Int32} {n : Nat} {Am Wk Mo : Nat → Int32} {v cp : Nat} {bt : Nat → Int32} {ml cn : Int32} {Y : va_W} {x : Int32} : CtI l D k yX3_no (wU yX3_no cX3_no 2 (some .int)) (rmL 0 0 0) [.ref (md 0), .int x] (MW k md th (nI n) Am Wk Mo v cp bt ml cn Y) (fun r w' => r = 0 ∧ w' = (MW k md x (nI n) Am Wk Mo v cp bt ml cn Y)) := by
  refine openI (own := RX3) rfl (by decide) (Nat.le_of_ble_eq_true rfl) rfl ?_
  intro p e s m args below meth c A C hrt9 hnm
  obtain ⟨Q, hQ⟩ : ∃ Q, Q = (MQ below (va_Qi (fun r w' => r = 0 ∧ w' = (MW k md x (nI n) Am Wk Mo v cp bt ml cn Y)) (cBA D A) A) args s 0 0 A) := ⟨_, rfl⟩
  show WP p l e (rmL 0 0 0) s m args below meth c D A 2 (MW k md th (nI n) Am Wk Mo v cp bt ml cn Y) [(0, .ref (md 0)), (1, .int x)] 0 0 (MQ below (va_Qi (fun r w' => r = 0 ∧ w' = (MW k md x (nI n) Am Wk Mo v cp bt ml cn Y)) (cBA D A) A) args s 0 0 A) 0 []
  rw [← hQ]
  refine p_aload_n C rfl 0 rfl dX3_no_0 ?_
  refine p_iload_n C rfl 1 rfl dX3_no_1 ?_
  refine p_put (w9 := (MW k md x (nI n) Am Wk Mo v cp bt ml cn Y)) (v := .int x) (T := TX3) C tyX3 tyX3_ok nmX3 0 rfl rfl 0 (by decide) inX3 qfl_X3_26 (fun _ h9 => h9) rfl rfl rfl (Nat.le_of_ble_eq_true rfl) rfl dX3_no_2 ?_
  refine p_iconst (v := 0) C (by decide) dX3_no_5 ?_
  rw [hQ]
  exact r_i C hrt9 (⟨rfl, rfl⟩) (by decide) (by decide) dX3_no_6
set_option maxHeartbeats 4000000 in
set_option maxRecDepth 100000 in
/-- X3_isNot -/
theorem m_X3_isNot (l : Launch) (D : va_G) (k : Nat → ClassId) {md : Nat → Nat} {th : Int32} {n : Nat} {Am Wk Mo : Nat → Int32} {v cp : Nat} {bt : Nat → Int32} {ml cn : Int32} {Y : va_W} {x : Int32} : CtI l D k yX3_isNot (wU yX3_isNot cX3_isNot 2 (some .boolean)) (rmL 0 0 0) [.ref (md 0), .int x] (MW k md th (nI n) Am Wk Mo v cp bt ml cn Y) (fun r w' => r = 0 ∧ w' = (MW k md x (nI n) Am Wk Mo v cp bt ml cn Y)) := by
  refine openI (own := RX3) rfl (by decide) (Nat.le_of_ble_eq_true rfl) rfl ?_
  intro p e s m args below meth c A C hrt9 hnm
  obtain ⟨Q, hQ⟩ : ∃ Q, Q = (MQ below (va_Qi (fun r w' => r = 0 ∧ w' = (MW k md x (nI n) Am Wk Mo v cp bt ml cn Y)) (cBA D A) A) args s 0 0 A) := ⟨_, rfl⟩
  show WP p l e (rmL 0 0 0) s m args below meth c D A 2 (MW k md th (nI n) Am Wk Mo v cp bt ml cn Y) [(0, .ref (md 0)), (1, .int x)] 0 0 (MQ below (va_Qi (fun r w' => r = 0 ∧ w' = (MW k md x (nI n) Am Wk Mo v cp bt ml cn Y)) (cBA D A) A) args s 0 0 A) 0 []
  rw [← hQ]
  refine p_aload_n C rfl 0 rfl dX3_isNot_0 ?_
  refine p_iload_n C rfl 1 rfl dX3_isNot_1 ?_
  refine p_put (w9 := (MW k md x (nI n) Am Wk Mo v cp bt ml cn Y)) (v := .int x) (T := TX3) C tyX3 tyX3_ok nmX3 0 rfl rfl 0 (by decide) inX3 qfl_X3_26 (fun _ h9 => h9) rfl rfl rfl (Nat.le_of_ble_eq_true rfl) rfl dX3_isNot_2 ?_
  refine p_iconst (v := 0) C (by decide) dX3_isNot_5 ?_
  rw [hQ]
  exact r_z C hrt9 rfl (⟨rfl, rfl⟩) (by decide) (by decide) dX3_isNot_6
set_option maxHeartbeats 4000000 in
set_option maxRecDepth 100000 in
/-- ok -/
theorem m_X3_ok (l : Launch) (D : va_G) (k : Nat → ClassId) {md : Nat → Nat} {th : Int32} {n : Nat} {Am Wk Mo : Nat → Int32} {v cp : Nat} {bt : Nat → Int32} {ml cn : Int32} {Y : va_W} {x : Int32} : CtI l D k yX3_ok (wU yX3_ok cX3_ok 2 (some .int)) (rmL 0 0 0) [.ref (md 0), .int x] (MW k md th (nI n) Am Wk Mo v cp bt ml cn Y) (fun r w' => r = x ∧ w' = (MW k md 0 (nI n) Am Wk Mo v cp bt ml cn Y)) := by
  refine openI (own := RX3) rfl (by decide) (Nat.le_of_ble_eq_true rfl) rfl ?_
  intro p e s m args below meth c A C hrt9 hnm
  obtain ⟨Q, hQ⟩ : ∃ Q, Q = (MQ below (va_Qi (fun r w' => r = x ∧ w' = (MW k md 0 (nI n) Am Wk Mo v cp bt ml cn Y)) (cBA D A) A) args s 0 0 A) := ⟨_, rfl⟩
  show WP p l e (rmL 0 0 0) s m args below meth c D A 2 (MW k md th (nI n) Am Wk Mo v cp bt ml cn Y) [(0, .ref (md 0)), (1, .int x)] 0 0 (MQ below (va_Qi (fun r w' => r = x ∧ w' = (MW k md 0 (nI n) Am Wk Mo v cp bt ml cn Y)) (cBA D A) A) args s 0 0 A) 0 []
  rw [← hQ]
  refine p_aload_n C rfl 0 rfl dX3_ok_0 ?_
  refine p_iconst (v := 0) C (by decide) dX3_ok_1 ?_
  refine p_put (w9 := (MW k md 0 (nI n) Am Wk Mo v cp bt ml cn Y)) (v := .int 0) (T := TX3) C tyX3 tyX3_ok nmX3 0 rfl rfl 0 (by decide) inX3 qfl_X3_26 (fun _ h9 => h9) rfl rfl rfl (Nat.le_of_ble_eq_true rfl) rfl dX3_ok_2 ?_
  refine p_iload_n C rfl 1 rfl dX3_ok_5 ?_
  rw [hQ]
  exact r_i C hrt9 (⟨rfl, rfl⟩) (by decide) (by decide) dX3_ok_6
set_option maxHeartbeats 4000000 in
set_option maxRecDepth 100000 in
/-- isFrom -/
theorem m_X3_isFrom (l : Launch) (D : va_G) (k : Nat → ClassId) {w : va_W} {x lo hi : Int32} : CtI l D k yX3_isFrom (wU yX3_isFrom cX3_isFrom 3 (some .boolean)) (rmL 0 0 0) [.int x, .int lo, .int hi] w (fun r w' => r = bI (isF x lo hi) ∧ w' = w) := by
  refine openI (own := RX3) rfl (by decide) (Nat.le_of_ble_eq_true rfl) rfl ?_
  intro p e s m args below meth c A C hrt9 hnm
  obtain ⟨Q, hQ⟩ : ∃ Q, Q = (MQ below (va_Qi (fun r w' => r = bI (isF x lo hi) ∧ w' = w) (cBA D A) A) args s 0 0 A) := ⟨_, rfl⟩
  show WP p l e (rmL 0 0 0) s m args below meth c D A 3 w [(0, .int x), (1, .int lo), (2, .int hi)] 0 0 (MQ below (va_Qi (fun r w' => r = bI (isF x lo hi) ∧ w' = w) (cBA D A) A) args s 0 0 A) 0 []
  rw [← hQ]
  refine p_iload_n C rfl 0 rfl dX3_isFrom_0 ?_
  refine p_iload_n C rfl 1 rfl dX3_isFrom_1 ?_
  refine p_icmp_lt C 14 (by decide) dX3_isFrom_2 (fun c_2 => ?_) (fun c_2 => ?_)
  · refine p_iconst (v := 0) C (by decide) dX3_isFrom_14 ?_
    rw [hQ]
    exact r_z C hrt9 rfl (⟨isF_a c_2, rfl⟩) (by decide) (by decide) dX3_isFrom_15
  · refine p_iload_n C rfl 0 rfl dX3_isFrom_5 ?_
    refine p_iload_n C rfl 2 rfl dX3_isFrom_6 ?_
    refine p_icmp_gt C 14 (by decide) dX3_isFrom_7 (fun c_7 => ?_) (fun c_7 => ?_)
    · refine p_iconst (v := 0) C (by decide) dX3_isFrom_14 ?_
      rw [hQ]
      exact r_z C hrt9 rfl (⟨isF_b c_7, rfl⟩) (by decide) (by decide) dX3_isFrom_15
    · refine p_iconst (v := 1) C (by decide) dX3_isFrom_10 ?_
      refine p_goto C 15 (by decide) dX3_isFrom_11 ?_
      rw [hQ]
      exact r_z C hrt9 rfl (⟨isF_c c_2 c_7, rfl⟩) (by decide) (by decide) dX3_isFrom_15
set_option maxHeartbeats 4000000 in
set_option maxRecDepth 100000 in
/-- isRecipe -/
theorem m_X3_isRecipe (l : Launch) (D : va_G) (k : Nat → ClassId) {md : Nat → Nat} {th : Int32} {n : Nat} {Am Wk Mo : Nat → Int32} {v cp : Nat} {bt : Nat → Int32} {ml cn : Int32} {Y : va_W} {x : Int32} : CtI l D k yX3_isRecipe (wU yX3_isRecipe cX3_isRecipe 2 (some .boolean)) (rmL 1 0 0) [.ref (md 0), .int x] (MW k md th (nI n) Am Wk Mo v cp bt ml cn Y) (fun r w' => r = bI (isR n x) ∧ w' = (MW k md th (nI n) Am Wk Mo v cp bt ml cn Y)) := by
  refine openI (own := RX3) rfl (by decide) (Nat.le_of_ble_eq_true rfl) rfl ?_
  intro p e s m args below meth c A C hrt9 hnm
  obtain ⟨Q, hQ⟩ : ∃ Q, Q = (MQ below (va_Qi (fun r w' => r = bI (isR n x) ∧ w' = (MW k md th (nI n) Am Wk Mo v cp bt ml cn Y)) (cBA D A) A) args s 0 0 A) := ⟨_, rfl⟩
  show WP p l e (rmL 1 0 0) s m args below meth c D A 2 (MW k md th (nI n) Am Wk Mo v cp bt ml cn Y) [(0, .ref (md 0)), (1, .int x)] 0 0 (MQ below (va_Qi (fun r w' => r = bI (isR n x) ∧ w' = (MW k md th (nI n) Am Wk Mo v cp bt ml cn Y)) (cBA D A) A) args s 0 0 A) 0 []
  rw [← hQ]
  refine p_iload_n C rfl 1 rfl dX3_isRecipe_0 ?_
  refine p_iconst (v := 0) C (by decide) dX3_isRecipe_1 ?_
  refine p_aload_n C rfl 0 rfl dX3_isRecipe_2 ?_
  refine p_get (v := .int (nI n)) (T := TX3) C 0 rfl rfl 1 (by decide) inX3 qfl_X3_30 (fun _ h9 => h9) rfl dX3_isRecipe_3 ?_
  refine p_iconst (v := 1) C (by decide) dX3_isRecipe_6 ?_
  refine p_isub C dX3_isRecipe_7 ?_
  refine c_Si (As := [.int x, .int 0, .int ((nI n) - 1)]) (rest := []) C (m_X3_isFrom l D k (x := x) (lo := 0) (hi := ((nI n) - 1))) qml_X3_33 qst_X3_isFrom qin_X3 qco_X3_isFrom nd_X3_isFrom ⟨Nat.le_of_ble_eq_true rfl, Nat.le_of_ble_eq_true rfl⟩ (Nat.le_of_ble_eq_true rfl) ⟨Nat.le_of_ble_eq_true rfl, Nat.le_of_ble_eq_true rfl⟩ rfl dX3_isRecipe_8 (fun r9 w9 h9 => ?_)
  obtain ⟨e9, rfl⟩ := h9
  refine p_int e9 ?_
  rw [hQ]
  exact r_z C hrt9 (bI_n _) (⟨rfl, rfl⟩) (by decide) (by decide) dX3_isRecipe_11
set_option maxHeartbeats 4000000 in
set_option maxRecDepth 100000 in
/-- at -/
theorem m_X3_at (l : Launch) (D : va_G) (k : Nat → ClassId) {md : Nat → Nat} {th : Int32} {n : Nat} {Am Wk Mo : Nat → Int32} {v cp : Nat} {bt : Nat → Int32} {ml cn : Int32} {Y : va_W} {i j : Nat} (hi : i < 16) (hj : j < 9) : CtI l D k yX3_at (wU yX3_at cX3_at 3 (some .int)) (rmL 0 0 0) [.ref (md 0), .int (nI i), .int (nI j)] (MW k md th (nI n) Am Wk Mo v cp bt ml cn Y) (fun r w' => r = mrow Am i j ∧ w' = (MW k md th (nI n) Am Wk Mo v cp bt ml cn Y)) := by
  refine openI (own := RX3) rfl (by decide) (Nat.le_of_ble_eq_true rfl) rfl ?_
  intro p e s m args below meth c A C hrt9 hnm
  obtain ⟨Q, hQ⟩ : ∃ Q, Q = (MQ below (va_Qi (fun r w' => r = mrow Am i j ∧ w' = (MW k md th (nI n) Am Wk Mo v cp bt ml cn Y)) (cBA D A) A) args s 0 0 A) := ⟨_, rfl⟩
  show WP p l e (rmL 0 0 0) s m args below meth c D A 3 (MW k md th (nI n) Am Wk Mo v cp bt ml cn Y) [(0, .ref (md 0)), (1, .int (nI i)), (2, .int (nI j))] 0 0 (MQ below (va_Qi (fun r w' => r = mrow Am i j ∧ w' = (MW k md th (nI n) Am Wk Mo v cp bt ml cn Y)) (cBA D A) A) args s 0 0 A) 0 []
  rw [← hQ]
  refine p_aload_n C rfl 0 rfl dX3_at_0 ?_
  refine p_get (v := .ref (md 1)) (T := TX3) C 0 rfl rfl 2 (by decide) inX3 qfl_X3_9 (fun _ h9 => h9) rfl dX3_at_1 ?_
  refine p_bipush (v := (nI 9)) C (by decide) dX3_at_4 ?_
  refine p_iload_n C rfl 1 rfl dX3_at_6 ?_
  refine p_imul C dX3_at_7 ?_
  refine p_int (y := (nI (9 * i))) (pk_mul 9 i) ?_
  refine p_iload_n C rfl 2 rfl dX3_at_8 ?_
  refine p_iadd C dX3_at_9 ?_
  refine p_int (y := (nI (9 * i + j))) (nI_add _ _) ?_
  refine p_iald (v := (Am (9 * i + j))) C 1 rfl (vp_in_nI (n := (9 * i + j)) (N := 144) (by omega) (by omega)) (by rw [show ((nI (9 * i + j))).toNatClampNeg = (9 * i + j) from nI_clamp (by omega)]) dX3_at_10 ?_
  rw [hQ]
  exact r_i C hrt9 (⟨(mrow_in hj).symm, rfl⟩) (by decide) (by decide) dX3_at_11
set_option maxHeartbeats 4000000 in
set_option maxRecDepth 100000 in
/-- degree -/
theorem m_X3_degree (l : Launch) (D : va_G) (k : Nat → ClassId) {w : va_W} {u a : Nat} {f : Nat → Int32} (hp : w[u]? = some (a, aI k 9 f))  : CtI l D k yX3_degree (wU yX3_degree cX3_degree 2 (some .int)) (rmL 0 0 0) [.ref a] w (fun r w' => r = dI (dg f) ∧ w' = w) := by
  refine openI (own := RX3) rfl (by decide) (Nat.le_of_ble_eq_true rfl) rfl ?_
  intro p e s m args below meth c A C hrt9 hnm
  obtain ⟨Q, hQ⟩ : ∃ Q, Q = (MQ below (va_Qi (fun r w' => r = dI (dg f) ∧ w' = w) (cBA D A) A) args s 0 0 A) := ⟨_, rfl⟩
  show WP p l e (rmL 0 0 0) s m args below meth c D A 2 w [(0, .ref a)] 0 0 (MQ below (va_Qi (fun r w' => r = dI (dg f) ∧ w' = w) (cBA D A) A) args s 0 0 A) 0 []
  rw [← hQ]
  refine p_bipush (v := (nI 9 - 1)) C (by decide) dX3_degree_0 ?_
  refine p_istore_n (lv9 := [(1, .int (nI 9 - 1)), (0, .ref a)]) C rfl (by decide) rfl dX3_degree_2 ?_
  refine p_lv (lv9 := [(0, .ref a), (1, .int (nI 9 - 1))]) [1, 0] rfl ?_
  have lp3 : ∀ (n3 : Nat) , (hn : n3 ≤ 9) → (hI : dg f = dgN f n3) → WP p l e (rmL 0 0 0) s m args below meth c D A 2 w [(0, .ref a), (1, .int (nI n3 - 1))] 0 0 Q 3 [] := by
    intro n3
    induction n3 with
    | zero =>
      intro  hn hI
      refine p_lvE (lv9 := [(0, .ref a), (1, .int (-1))]) (by rw [i_z1]) ?_
      refine p_iload_n C rfl 1 rfl dX3_degree_3 ?_
      refine p_if_lt C 19 (by decide) dX3_degree_4 (fun c_4 => ?_) (fun c_4 => absurd c_4 (by decide))
      refine p_iload_n C rfl 1 rfl dX3_degree_19 ?_
      rw [hQ]
      exact r_i C hrt9 (⟨by rw [hI]; exact dI_0.symm, rfl⟩) (by decide) (by decide) dX3_degree_20
    | succ n3 ih3 =>
      intro  hn hI
      refine p_lvE (lv9 := [(0, .ref a), (1, .int (nI n3))]) (by rw [nI_pred]) ?_
      refine p_iload_n C rfl 1 rfl dX3_degree_3 ?_
      refine p_if_lt C 19 (by decide) dX3_degree_4 (fun c_4 => absurd c_4 (nI_pos (by omega))) (fun c_4 => ?_)
      refine p_aload_n C rfl 0 rfl dX3_degree_7 ?_
      refine p_iload_n C rfl 1 rfl dX3_degree_8 ?_
      refine p_iald (v := (f n3)) C u hp (vp_in_nI (n := n3) (N := 9) (by omega) (by omega)) (by rw [show ((nI n3)).toNatClampNeg = n3 from nI_clamp (by omega)]) dX3_degree_9 ?_
      refine p_if_ne C 19 (by decide) dX3_degree_10 (fun c_10 => ?_) (fun c_10 => ?_)
      · refine p_iload_n C rfl 1 rfl dX3_degree_19 ?_
        rw [hQ]
        exact r_i C hrt9 (⟨by rw [hI, show dgN f (n3 + 1) = n3 + 1 from if_neg c_10]; exact (dI_s n3).symm, rfl⟩) (by decide) (by decide) dX3_degree_20
      · refine p_iinc (lv9 := [(1, .int (nI n3 - 1)), (0, .ref a)]) (v := (nI n3 - 1)) C (j := 1) rfl (i_dn _) (by decide) rfl dX3_degree_13 ?_
        refine p_goto C 3 (by decide) dX3_degree_16 ?_
        refine p_lv (lv9 := [(0, .ref a), (1, .int (nI n3 - 1))]) [1, 0] rfl ?_
        exact ih3 (by omega) (hI.trans (if_pos c_10))
  exact lp3 9 (by decide) rfl
set_option maxHeartbeats 4000000 in
set_option maxRecDepth 100000 in
/-- take, into the work row -/
theorem m_X3_take (l : Launch) (D : va_G) (k : Nat → ClassId) {md : Nat → Nat} {th : Int32} {n : Nat} {Am Wk Mo : Nat → Int32} {v cp : Nat} {bt : Nat → Int32} {ml cn : Int32} {Y : va_W} {i : Nat} (hi : i < 16) : CtV l D k yX3_take (wU yX3_take cX3_take 3 (none)) (rmL 0 0 0) [.ref (md 0), .int (nI i), .ref (md 2)] (MW k md th (nI n) Am Wk Mo v cp bt ml cn Y) (fun w' => w' = (MW k md th (nI n) Am (mrow Am i) Mo v cp bt ml cn Y)) := by
  refine openV (own := RX3) rfl (by decide) (Nat.le_of_ble_eq_true rfl) rfl ?_
  intro p e s m args below meth c A C hrt9 hnm
  obtain ⟨Q, hQ⟩ : ∃ Q, Q = (MQ below (va_Qv (fun w' => w' = (MW k md th (nI n) Am (mrow Am i) Mo v cp bt ml cn Y)) (cBA D A) A) args s 0 0 A) := ⟨_, rfl⟩
  show WP p l e (rmL 0 0 0) s m args below meth c D A 3 (MW k md th (nI n) Am Wk Mo v cp bt ml cn Y) [(0, .ref (md 0)), (1, .int (nI i)), (2, .ref (md 2))] 0 0 (MQ below (va_Qv (fun w' => w' = (MW k md th (nI n) Am (mrow Am i) Mo v cp bt ml cn Y)) (cBA D A) A) args s 0 0 A) 0 []
  rw [← hQ]
  refine p_aload_n C rfl 0 rfl dX3_take_0 ?_
  refine p_get (v := .ref (md 1)) (T := TX3) C 0 rfl rfl 2 (by decide) inX3 qfl_X3_9 (fun _ h9 => h9) rfl dX3_take_1 ?_
  refine p_bipush (v := (nI 9)) C (by decide) dX3_take_4 ?_
  refine p_iload_n C rfl 1 rfl dX3_take_6 ?_
  refine p_imul C dX3_take_7 ?_
  refine p_int (y := (nI (9 * i))) (pk_mul 9 i) ?_
  refine p_aload_n C rfl 2 rfl dX3_take_8 ?_
  refine p_iconst (v := (nI 0)) C (by decide) dX3_take_9 ?_
  refine p_bipush (v := (nI 9)) C (by decide) dX3_take_10 ?_
  refine p_copyi (rest := []) (sp := (9 * i)) (dp := 0) (n := 9) (w9 := (MW k md th (nI n) Am (va_cpy Am Wk (9 * i) 0 9) Mo v cp bt ml cn Y)) C qml_X3_37 qnt_arraycopyName qst_arraycopyName qin_J10 1 2 rfl rfl (by omega) (by omega) (by omega) (by omega) (by decide) (by decide +kernel) rfl dX3_take_12 ?_
  refine p_arr (n := 9) (w9 := (MW k md th (nI n) Am (mrow Am i) Mo v cp bt ml cn Y)) 2 rfl (mrow Am i) (fun j hj => cpy_take hj) rfl ?_
  rw [hQ]
  exact r_v C hrt9 rfl (by decide) (by decide) dX3_take_15
set_option maxHeartbeats 4000000 in
set_option maxRecDepth 100000 in
/-- put, from Wk -/
theorem m_X3_put_w (l : Launch) (D : va_G) (k : Nat → ClassId) {md : Nat → Nat} {th : Int32} {n : Nat} {Am Wk Mo : Nat → Int32} {v cp : Nat} {bt : Nat → Int32} {ml cn : Int32} {Y : va_W} {i : Nat} (hi : i < 16) : CtV l D k yX3_put (wU yX3_put cX3_put 3 (none)) (rmL 0 0 0) [.ref (md 0), .int (nI i), .ref (md 2)] (MW k md th (nI n) Am Wk Mo v cp bt ml cn Y) (fun w' => w' = (MW k md th (nI n) (ptR Am i Wk) Wk Mo v cp bt ml cn Y)) := by
  refine openV (own := RX3) rfl (by decide) (Nat.le_of_ble_eq_true rfl) rfl ?_
  intro p e s m args below meth c A C hrt9 hnm
  obtain ⟨Q, hQ⟩ : ∃ Q, Q = (MQ below (va_Qv (fun w' => w' = (MW k md th (nI n) (ptR Am i Wk) Wk Mo v cp bt ml cn Y)) (cBA D A) A) args s 0 0 A) := ⟨_, rfl⟩
  show WP p l e (rmL 0 0 0) s m args below meth c D A 3 (MW k md th (nI n) Am Wk Mo v cp bt ml cn Y) [(0, .ref (md 0)), (1, .int (nI i)), (2, .ref (md 2))] 0 0 (MQ below (va_Qv (fun w' => w' = (MW k md th (nI n) (ptR Am i Wk) Wk Mo v cp bt ml cn Y)) (cBA D A) A) args s 0 0 A) 0 []
  rw [← hQ]
  refine p_aload_n C rfl 2 rfl dX3_put_0 ?_
  refine p_iconst (v := (nI 0)) C (by decide) dX3_put_1 ?_
  refine p_aload_n C rfl 0 rfl dX3_put_2 ?_
  refine p_get (v := .ref (md 1)) (T := TX3) C 0 rfl rfl 2 (by decide) inX3 qfl_X3_9 (fun _ h9 => h9) rfl dX3_put_3 ?_
  refine p_bipush (v := (nI 9)) C (by decide) dX3_put_6 ?_
  refine p_iload_n C rfl 1 rfl dX3_put_8 ?_
  refine p_imul C dX3_put_9 ?_
  refine p_int (y := (nI (9 * i))) (pk_mul 9 i) ?_
  refine p_bipush (v := (nI 9)) C (by decide) dX3_put_10 ?_
  refine p_copyi (rest := []) (sp := 0) (dp := (9 * i)) (n := 9) (w9 := (MW k md th (nI n) (va_cpy Wk Am 0 (9 * i) 9) Wk Mo v cp bt ml cn Y)) C qml_X3_37 qnt_arraycopyName qst_arraycopyName qin_J10 2 1 rfl rfl (by omega) (by omega) (by omega) (by omega) (by decide) (by decide +kernel) rfl dX3_put_12 ?_
  refine p_arr (n := 144) (w9 := (MW k md th (nI n) (ptR Am i Wk) Wk Mo v cp bt ml cn Y)) 1 rfl (ptR Am i Wk) (fun j hj => cpy_put) rfl ?_
  rw [hQ]
  exact r_v C hrt9 rfl (by decide) (by decide) dX3_put_15
set_option maxHeartbeats 4000000 in
set_option maxRecDepth 100000 in
/-- put, from Mo -/
theorem m_X3_put_m (l : Launch) (D : va_G) (k : Nat → ClassId) {md : Nat → Nat} {th : Int32} {n : Nat} {Am Wk Mo : Nat → Int32} {v cp : Nat} {bt : Nat → Int32} {ml cn : Int32} {Y : va_W} {i : Nat} (hi : i < 16) : CtV l D k yX3_put (wU yX3_put cX3_put 3 (none)) (rmL 0 0 0) [.ref (md 0), .int (nI i), .ref (md 3)] (MW k md th (nI n) Am Wk Mo v cp bt ml cn Y) (fun w' => w' = (MW k md th (nI n) (ptR Am i Mo) Wk Mo v cp bt ml cn Y)) := by
  refine openV (own := RX3) rfl (by decide) (Nat.le_of_ble_eq_true rfl) rfl ?_
  intro p e s m args below meth c A C hrt9 hnm
  obtain ⟨Q, hQ⟩ : ∃ Q, Q = (MQ below (va_Qv (fun w' => w' = (MW k md th (nI n) (ptR Am i Mo) Wk Mo v cp bt ml cn Y)) (cBA D A) A) args s 0 0 A) := ⟨_, rfl⟩
  show WP p l e (rmL 0 0 0) s m args below meth c D A 3 (MW k md th (nI n) Am Wk Mo v cp bt ml cn Y) [(0, .ref (md 0)), (1, .int (nI i)), (2, .ref (md 3))] 0 0 (MQ below (va_Qv (fun w' => w' = (MW k md th (nI n) (ptR Am i Mo) Wk Mo v cp bt ml cn Y)) (cBA D A) A) args s 0 0 A) 0 []
  rw [← hQ]
  refine p_aload_n C rfl 2 rfl dX3_put_0 ?_
  refine p_iconst (v := (nI 0)) C (by decide) dX3_put_1 ?_
  refine p_aload_n C rfl 0 rfl dX3_put_2 ?_
  refine p_get (v := .ref (md 1)) (T := TX3) C 0 rfl rfl 2 (by decide) inX3 qfl_X3_9 (fun _ h9 => h9) rfl dX3_put_3 ?_
  refine p_bipush (v := (nI 9)) C (by decide) dX3_put_6 ?_
  refine p_iload_n C rfl 1 rfl dX3_put_8 ?_
  refine p_imul C dX3_put_9 ?_
  refine p_int (y := (nI (9 * i))) (pk_mul 9 i) ?_
  refine p_bipush (v := (nI 9)) C (by decide) dX3_put_10 ?_
  refine p_copyi (rest := []) (sp := 0) (dp := (9 * i)) (n := 9) (w9 := (MW k md th (nI n) (va_cpy Mo Am 0 (9 * i) 9) Wk Mo v cp bt ml cn Y)) C qml_X3_37 qnt_arraycopyName qst_arraycopyName qin_J10 3 1 rfl rfl (by omega) (by omega) (by omega) (by omega) (by decide) (by decide +kernel) rfl dX3_put_12 ?_
  refine p_arr (n := 144) (w9 := (MW k md th (nI n) (ptR Am i Mo) Wk Mo v cp bt ml cn Y)) 1 rfl (ptR Am i Mo) (fun j hj => cpy_put) rfl ?_
  rw [hQ]
  exact r_v C hrt9 rfl (by decide) (by decide) dX3_put_15
set_option maxHeartbeats 4000000 in
set_option maxRecDepth 100000 in
/-- made, of Wk -/
theorem m_X3_made_w (l : Launch) (D : va_G) (k : Nat → ClassId) {md : Nat → Nat} {th : Int32} {n : Nat} {Am Wk Mo : Nat → Int32} {v cp : Nat} {bt : Nat → Int32} {ml cn : Int32} {Y : va_W} (hn : n < 16) : CtI l D k yX3_made (wU yX3_made cX3_made 2 (some .int)) (rmL 1 0 0) [.ref (md 0), .ref (md 2)] (MW k md th (nI n) Am Wk Mo v cp bt ml cn Y) (fun r w' => r = nI n ∧ w' = (MW k md th (nI (n + 1)) (ptR Am n Wk) Wk Mo v cp bt ml cn Y)) := by
  refine openI (own := RX3) rfl (by decide) (Nat.le_of_ble_eq_true rfl) rfl ?_
  intro p e s m args below meth c A C hrt9 hnm
  obtain ⟨Q, hQ⟩ : ∃ Q, Q = (MQ below (va_Qi (fun r w' => r = nI n ∧ w' = (MW k md th (nI (n + 1)) (ptR Am n Wk) Wk Mo v cp bt ml cn Y)) (cBA D A) A) args s 0 0 A) := ⟨_, rfl⟩
  show WP p l e (rmL 1 0 0) s m args below meth c D A 2 (MW k md th (nI n) Am Wk Mo v cp bt ml cn Y) [(0, .ref (md 0)), (1, .ref (md 2))] 0 0 (MQ below (va_Qi (fun r w' => r = nI n ∧ w' = (MW k md th (nI (n + 1)) (ptR Am n Wk) Wk Mo v cp bt ml cn Y)) (cBA D A) A) args s 0 0 A) 0 []
  rw [← hQ]
  refine p_aload_n C rfl 0 rfl dX3_made_0 ?_
  refine p_aload_n C rfl 0 rfl dX3_made_1 ?_
  refine p_get (v := .int (nI n)) (T := TX3) C 0 rfl rfl 1 (by decide) inX3 qfl_X3_30 (fun _ h9 => h9) rfl dX3_made_2 ?_
  refine p_aload_n C rfl 1 rfl dX3_made_5 ?_
  refine c_Vv (As := [.int (nI n), .ref (md 2)]) (rest := []) C (m_X3_put_w l D k (i := n) (by omega)) 0 rfl rfl rfl qml_X3_43 qim_X3_put qse_X3_X3_put qin_X3 qco_X3_put nd_X3_put ⟨Nat.le_of_ble_eq_true rfl, Nat.le_of_ble_eq_true rfl⟩ (Nat.le_of_ble_eq_true rfl) ⟨Nat.le_of_ble_eq_true rfl, Nat.le_of_ble_eq_true rfl⟩ rfl dX3_made_6 (fun w9 h9 => ?_)
  obtain rfl := h9
  refine p_aload_n C rfl 0 rfl dX3_made_9 ?_
  refine p_dup C rfl dX3_made_10 ?_
  refine p_get (v := .int (nI n)) (T := TX3) C 0 rfl rfl 1 (by decide) inX3 qfl_X3_30 (fun _ h9 => h9) rfl dX3_made_11 ?_
  refine p_iconst (v := 1) C (by decide) dX3_made_14 ?_
  refine p_iadd C dX3_made_15 ?_
  refine p_int (y := (nI (n + 1))) (nI_1 n) ?_
  refine p_put (w9 := (MW k md th (nI (n + 1)) (ptR Am n Wk) Wk Mo v cp bt ml cn Y)) (v := .int (nI (n + 1))) (T := TX3) C tyX3 tyX3_ok nmX3 0 rfl rfl 1 (by decide) inX3 qfl_X3_30 (fun _ h9 => h9) rfl rfl rfl (Nat.le_of_ble_eq_true rfl) rfl dX3_made_16 ?_
  refine p_aload_n C rfl 0 rfl dX3_made_19 ?_
  refine p_get (v := .int (nI (n + 1))) (T := TX3) C 0 rfl rfl 1 (by decide) inX3 qfl_X3_30 (fun _ h9 => h9) rfl dX3_made_20 ?_
  refine p_iconst (v := 1) C (by decide) dX3_made_23 ?_
  refine p_isub C dX3_made_24 ?_
  refine p_int (y := (nI n)) (nI_pred n) ?_
  rw [hQ]
  exact r_i C hrt9 (⟨rfl, rfl⟩) (by decide) (by decide) dX3_made_25
set_option maxHeartbeats 4000000 in
set_option maxRecDepth 100000 in
/-- made, of Mo -/
theorem m_X3_made_m (l : Launch) (D : va_G) (k : Nat → ClassId) {md : Nat → Nat} {th : Int32} {n : Nat} {Am Wk Mo : Nat → Int32} {v cp : Nat} {bt : Nat → Int32} {ml cn : Int32} {Y : va_W} (hn : n < 16) : CtI l D k yX3_made (wU yX3_made cX3_made 2 (some .int)) (rmL 1 0 0) [.ref (md 0), .ref (md 3)] (MW k md th (nI n) Am Wk Mo v cp bt ml cn Y) (fun r w' => r = nI n ∧ w' = (MW k md th (nI (n + 1)) (ptR Am n Mo) Wk Mo v cp bt ml cn Y)) := by
  refine openI (own := RX3) rfl (by decide) (Nat.le_of_ble_eq_true rfl) rfl ?_
  intro p e s m args below meth c A C hrt9 hnm
  obtain ⟨Q, hQ⟩ : ∃ Q, Q = (MQ below (va_Qi (fun r w' => r = nI n ∧ w' = (MW k md th (nI (n + 1)) (ptR Am n Mo) Wk Mo v cp bt ml cn Y)) (cBA D A) A) args s 0 0 A) := ⟨_, rfl⟩
  show WP p l e (rmL 1 0 0) s m args below meth c D A 2 (MW k md th (nI n) Am Wk Mo v cp bt ml cn Y) [(0, .ref (md 0)), (1, .ref (md 3))] 0 0 (MQ below (va_Qi (fun r w' => r = nI n ∧ w' = (MW k md th (nI (n + 1)) (ptR Am n Mo) Wk Mo v cp bt ml cn Y)) (cBA D A) A) args s 0 0 A) 0 []
  rw [← hQ]
  refine p_aload_n C rfl 0 rfl dX3_made_0 ?_
  refine p_aload_n C rfl 0 rfl dX3_made_1 ?_
  refine p_get (v := .int (nI n)) (T := TX3) C 0 rfl rfl 1 (by decide) inX3 qfl_X3_30 (fun _ h9 => h9) rfl dX3_made_2 ?_
  refine p_aload_n C rfl 1 rfl dX3_made_5 ?_
  refine c_Vv (As := [.int (nI n), .ref (md 3)]) (rest := []) C (m_X3_put_m l D k (i := n) (by omega)) 0 rfl rfl rfl qml_X3_43 qim_X3_put qse_X3_X3_put qin_X3 qco_X3_put nd_X3_put ⟨Nat.le_of_ble_eq_true rfl, Nat.le_of_ble_eq_true rfl⟩ (Nat.le_of_ble_eq_true rfl) ⟨Nat.le_of_ble_eq_true rfl, Nat.le_of_ble_eq_true rfl⟩ rfl dX3_made_6 (fun w9 h9 => ?_)
  obtain rfl := h9
  refine p_aload_n C rfl 0 rfl dX3_made_9 ?_
  refine p_dup C rfl dX3_made_10 ?_
  refine p_get (v := .int (nI n)) (T := TX3) C 0 rfl rfl 1 (by decide) inX3 qfl_X3_30 (fun _ h9 => h9) rfl dX3_made_11 ?_
  refine p_iconst (v := 1) C (by decide) dX3_made_14 ?_
  refine p_iadd C dX3_made_15 ?_
  refine p_int (y := (nI (n + 1))) (nI_1 n) ?_
  refine p_put (w9 := (MW k md th (nI (n + 1)) (ptR Am n Mo) Wk Mo v cp bt ml cn Y)) (v := .int (nI (n + 1))) (T := TX3) C tyX3 tyX3_ok nmX3 0 rfl rfl 1 (by decide) inX3 qfl_X3_30 (fun _ h9 => h9) rfl rfl rfl (Nat.le_of_ble_eq_true rfl) rfl dX3_made_16 ?_
  refine p_aload_n C rfl 0 rfl dX3_made_19 ?_
  refine p_get (v := .int (nI (n + 1))) (T := TX3) C 0 rfl rfl 1 (by decide) inX3 qfl_X3_30 (fun _ h9 => h9) rfl dX3_made_20 ?_
  refine p_iconst (v := 1) C (by decide) dX3_made_23 ?_
  refine p_isub C dX3_made_24 ?_
  refine p_int (y := (nI n)) (nI_pred n) ?_
  rw [hQ]
  exact r_i C hrt9 (⟨rfl, rfl⟩) (by decide) (by decide) dX3_made_25
set_option maxHeartbeats 4000000 in
set_option maxRecDepth 100000 in
/-- degreeNow -/
theorem m_X3_degreeNow (l : Launch) (D : va_G) (k : Nat → ClassId) {md : Nat → Nat} {th : Int32} {n : Nat} {Am Wk Mo : Nat → Int32} {v cp : Nat} {bt : Nat → Int32} {ml cn : Int32} {Y : va_W} {i : Nat} (hi : i < 16) : CtI l D k yX3_degreeNow (wU yX3_degreeNow cX3_degreeNow 3 (some .int)) (rmL 1 0 0) [.ref (md 0), .int (nI i)] (MW k md th (nI n) Am Wk Mo v cp bt ml cn Y) (fun r w' => r = dI (dg (mrow Am i)) ∧ w' = (MW k md th (nI n) Am Wk Mo v cp bt ml cn Y)) := by
  refine openI (own := RX3) rfl (by decide) (Nat.le_of_ble_eq_true rfl) rfl ?_
  intro p e s m args below meth c A C hrt9 hnm
  obtain ⟨Q, hQ⟩ : ∃ Q, Q = (MQ below (va_Qi (fun r w' => r = dI (dg (mrow Am i)) ∧ w' = (MW k md th (nI n) Am Wk Mo v cp bt ml cn Y)) (cBA D A) A) args s 0 0 A) := ⟨_, rfl⟩
  show WP p l e (rmL 1 0 0) s m args below meth c D A 3 (MW k md th (nI n) Am Wk Mo v cp bt ml cn Y) [(0, .ref (md 0)), (1, .int (nI i))] 0 0 (MQ below (va_Qi (fun r w' => r = dI (dg (mrow Am i)) ∧ w' = (MW k md th (nI n) Am Wk Mo v cp bt ml cn Y)) (cBA D A) A) args s 0 0 A) 0 []
  rw [← hQ]
  refine p_bipush (v := (nI 9 - 1)) C (by decide) dX3_degreeNow_0 ?_
  refine p_istore_n (lv9 := [(2, .int (nI 9 - 1)), (0, .ref (md 0)), (1, .int (nI i))]) C rfl (by decide) rfl dX3_degreeNow_2 ?_
  refine p_lv (lv9 := [(0, .ref (md 0)), (1, .int (nI i)), (2, .int (nI 9 - 1))]) [1, 2, 0] rfl ?_
  have lp3 : ∀ (n3 : Nat) , (hn : n3 ≤ 9) → (hI : dg (mrow Am i) = dgN (mrow Am i) n3) → WP p l e (rmL 1 0 0) s m args below meth c D A 3 (MW k md th (nI n) Am Wk Mo v cp bt ml cn Y) [(0, .ref (md 0)), (1, .int (nI i)), (2, .int (nI n3 - 1))] 0 0 Q 3 [] := by
    intro n3
    induction n3 with
    | zero =>
      intro  hn hI
      refine p_lvE (lv9 := [(0, .ref (md 0)), (1, .int (nI i)), (2, .int (-1))]) (by rw [i_z1]) ?_
      refine p_iload_n C rfl 2 rfl dX3_degreeNow_3 ?_
      refine p_if_lt C 22 (by decide) dX3_degreeNow_4 (fun c_4 => ?_) (fun c_4 => absurd c_4 (by decide))
      refine p_iload_n C rfl 2 rfl dX3_degreeNow_22 ?_
      rw [hQ]
      exact r_i C hrt9 (⟨by rw [hI]; exact dI_0.symm, rfl⟩) (by decide) (by decide) dX3_degreeNow_23
    | succ n3 ih3 =>
      intro  hn hI
      refine p_lvE (lv9 := [(0, .ref (md 0)), (1, .int (nI i)), (2, .int (nI n3))]) (by rw [nI_pred]) ?_
      refine p_iload_n C rfl 2 rfl dX3_degreeNow_3 ?_
      refine p_if_lt C 22 (by decide) dX3_degreeNow_4 (fun c_4 => absurd c_4 (nI_pos (by omega))) (fun c_4 => ?_)
      refine p_aload_n C rfl 0 rfl dX3_degreeNow_7 ?_
      refine p_iload_n C rfl 1 rfl dX3_degreeNow_8 ?_
      refine p_iload_n C rfl 2 rfl dX3_degreeNow_9 ?_
      refine c_Vi (As := [.int (nI i), .int (nI n3)]) (rest := []) C (m_X3_at l D k (i := i) (j := n3) (by omega) (by omega)) 0 rfl rfl rfl qml_X3_47 qim_X3_at qse_X3_X3_at qin_X3 qco_X3_at nd_X3_at ⟨Nat.le_of_ble_eq_true rfl, Nat.le_of_ble_eq_true rfl⟩ (Nat.le_of_ble_eq_true rfl) ⟨Nat.le_of_ble_eq_true rfl, Nat.le_of_ble_eq_true rfl⟩ rfl dX3_degreeNow_10 (fun r9 w9 h9 => ?_)
      obtain ⟨e9, rfl⟩ := h9
      refine p_int e9 ?_
      refine p_if_ne C 22 (by decide) dX3_degreeNow_13 (fun c_13 => ?_) (fun c_13 => ?_)
      · refine p_iload_n C rfl 2 rfl dX3_degreeNow_22 ?_
        rw [hQ]
        exact r_i C hrt9 (⟨by rw [hI, show dgN (mrow Am i) (n3 + 1) = n3 + 1 from if_neg c_13]; exact (dI_s n3).symm, rfl⟩) (by decide) (by decide) dX3_degreeNow_23
      · refine p_iinc (lv9 := [(2, .int (nI n3 - 1)), (0, .ref (md 0)), (1, .int (nI i))]) (v := (nI n3 - 1)) C (j := 2) rfl (i_dn _) (by decide) rfl dX3_degreeNow_16 ?_
        refine p_goto C 3 (by decide) dX3_degreeNow_19 ?_
        refine p_lv (lv9 := [(0, .ref (md 0)), (1, .int (nI i)), (2, .int (nI n3 - 1))]) [1, 2, 0] rfl ?_
        exact ih3 (by omega) (hI.trans (if_pos c_13))
  exact lp3 9 (by decide) rfl
set_option maxHeartbeats 4000000 in
set_option maxRecDepth 100000 in
/-- plain -/
theorem m_X3_plain (l : Launch) (D : va_G) (k : Nat → ClassId) {md : Nat → Nat} {th : Int32} {n : Nat} {Am Wk Mo : Nat → Int32} {v cp : Nat} {bt : Nat → Int32} {ml cn : Int32} {Y : va_W} {i : Nat} (hi : i < 16) : CtI l D k yX3_plain (wU yX3_plain cX3_plain 3 (some .boolean)) (rmL 2 0 0) [.ref (md 0), .int (nI i)] (MW k md th (nI n) Am Wk Mo v cp bt ml cn Y) (fun r w' => r = bI (pln (mrow Am i)) ∧ w' = (MW k md th (nI n) Am Wk Mo v cp bt ml cn Y)) := by
  refine openI (own := RX3) rfl (by decide) (Nat.le_of_ble_eq_true rfl) rfl ?_
  intro p e s m args below meth c A C hrt9 hnm
  obtain ⟨Q, hQ⟩ : ∃ Q, Q = (MQ below (va_Qi (fun r w' => r = bI (pln (mrow Am i)) ∧ w' = (MW k md th (nI n) Am Wk Mo v cp bt ml cn Y)) (cBA D A) A) args s 0 0 A) := ⟨_, rfl⟩
  show WP p l e (rmL 2 0 0) s m args below meth c D A 3 (MW k md th (nI n) Am Wk Mo v cp bt ml cn Y) [(0, .ref (md 0)), (1, .int (nI i))] 0 0 (MQ below (va_Qi (fun r w' => r = bI (pln (mrow Am i)) ∧ w' = (MW k md th (nI n) Am Wk Mo v cp bt ml cn Y)) (cBA D A) A) args s 0 0 A) 0 []
  rw [← hQ]
  refine p_aload_n C rfl 0 rfl dX3_plain_0 ?_
  refine p_iload_n C rfl 1 rfl dX3_plain_1 ?_
  refine c_Vi (As := [.int (nI i)]) (rest := []) C (m_X3_degreeNow l D k (i := i) (by omega)) 0 rfl rfl rfl qml_X3_51 qim_X3_degreeNow qse_X3_X3_degreeNow qin_X3 qco_X3_degreeNow nd_X3_degreeNow ⟨Nat.le_of_ble_eq_true rfl, Nat.le_of_ble_eq_true rfl⟩ (Nat.le_of_ble_eq_true rfl) ⟨Nat.le_of_ble_eq_true rfl, Nat.le_of_ble_eq_true rfl⟩ rfl dX3_plain_2 (fun r9 w9 h9 => ?_)
  obtain ⟨e9, rfl⟩ := h9
  refine p_int e9 ?_
  refine p_istore_n (lv9 := [(2, .int (dI (dg (mrow Am i)))), (0, .ref (md 0)), (1, .int (nI i))]) C rfl (by decide) rfl dX3_plain_5 ?_
  refine p_iload_n C rfl 0 rfl dX3_plain_6 ?_
  refine p_if_lt C 24 (by decide) dX3_plain_7 (fun c_7 => ?_) (fun c_7 => ?_)
  · refine p_iconst (v := 0) C (by decide) dX3_plain_24 ?_
    rw [hQ]
    exact r_z C hrt9 rfl (⟨pln_a c_7, rfl⟩) (by decide) (by decide) dX3_plain_25
  · refine p_aload_n C rfl 1 rfl dX3_plain_10 ?_
    refine p_iload_n C rfl 2 rfl dX3_plain_11 ?_
    refine p_iload_n C rfl 0 rfl dX3_plain_12 ?_
    have hdg := dg_le (mrow Am i)
    refine p_st (st9 := [.int (nI (dg (mrow Am i) - 1)), .int (nI i), .ref (md 0)]) (by rw [dI_eq (dI_pos c_7)]) ?_
    refine c_Vi (As := [.int (nI i), .int (nI (dg (mrow Am i) - 1))]) (rest := []) C (m_X3_at l D k (i := i) (j := (dg (mrow Am i) - 1)) (by omega) (by omega)) 0 rfl rfl rfl qml_X3_47 qim_X3_at qse_X3_X3_at qin_X3 qco_X3_at nd_X3_at ⟨Nat.le_of_ble_eq_true rfl, Nat.le_of_ble_eq_true rfl⟩ (Nat.le_of_ble_eq_true rfl) ⟨Nat.le_of_ble_eq_true rfl, Nat.le_of_ble_eq_true rfl⟩ rfl dX3_plain_13 (fun r9 w9 h9 => ?_)
    obtain ⟨e9, rfl⟩ := h9
    refine p_int e9 ?_
    refine p_iconst (v := 1) C (by decide) dX3_plain_16 ?_
    refine p_icmp_ne C 24 (by decide) dX3_plain_17 (fun c_17 => ?_) (fun c_17 => ?_)
    · refine p_iconst (v := 0) C (by decide) dX3_plain_24 ?_
      rw [hQ]
      exact r_z C hrt9 rfl (⟨pln_b c_17, rfl⟩) (by decide) (by decide) dX3_plain_25
    · refine p_iconst (v := 1) C (by decide) dX3_plain_20 ?_
      refine p_goto C 25 (by decide) dX3_plain_21 ?_
      rw [hQ]
      exact r_z C hrt9 rfl (⟨pln_t c_7 c_17, rfl⟩) (by decide) (by decide) dX3_plain_25
set_option maxHeartbeats 4000000 in
set_option maxRecDepth 100000 in
/-- eat -/
theorem m_X3_eat (l : Launch) (D : va_G) (k : Nat → ClassId) {w : va_W} {u a : Nat} {f : Nat → Int32} (hp : w[u]? = some (a, aI k 9 f)) {x : Int32} : CtI l D k yX3_eat (wU yX3_eat cX3_eat 4 (some .int)) (rmL 0 0 0) [.ref a, .int x] w (fun r w' => r = hg f x ∧ w' = w) := by
  refine openI (own := RX3) rfl (by decide) (Nat.le_of_ble_eq_true rfl) rfl ?_
  intro p e s m args below meth c A C hrt9 hnm
  obtain ⟨Q, hQ⟩ : ∃ Q, Q = (MQ below (va_Qi (fun r w' => r = hg f x ∧ w' = w) (cBA D A) A) args s 0 0 A) := ⟨_, rfl⟩
  show WP p l e (rmL 0 0 0) s m args below meth c D A 4 w [(0, .ref a), (1, .int x)] 0 0 (MQ below (va_Qi (fun r w' => r = hg f x ∧ w' = w) (cBA D A) A) args s 0 0 A) 0 []
  rw [← hQ]
  refine p_iconst (v := 0) C (by decide) dX3_eat_0 ?_
  refine p_istore_n (lv9 := [(2, .int 0), (0, .ref a), (1, .int x)]) C rfl (by decide) rfl dX3_eat_1 ?_
  refine p_bipush (v := (nI 9 - 1)) C (by decide) dX3_eat_2 ?_
  refine p_istore_n (lv9 := [(3, .int (nI 9 - 1)), (2, .int 0), (0, .ref a), (1, .int x)]) C rfl (by decide) rfl dX3_eat_4 ?_
  refine p_lv (lv9 := [(0, .ref a), (1, .int x), (2, .int 0), (3, .int (nI 9 - 1))]) [2, 3, 1, 0] rfl ?_
  have lp5 : ∀ (n5 : Nat) (h : Int32), (hn : n5 ≤ 9) → (hI : hg f x = hgN f x n5 h) → WP p l e (rmL 0 0 0) s m args below meth c D A 4 w [(0, .ref a), (1, .int x), (2, .int h), (3, .int (nI n5 - 1))] 0 0 Q 5 [] := by
    intro n5
    induction n5 with
    | zero =>
      intro h hn hI
      refine p_lvE (lv9 := [(0, .ref a), (1, .int x), (2, .int h), (3, .int (-1))]) (by rw [i_z1]) ?_
      refine p_iload_n C rfl 3 rfl dX3_eat_5 ?_
      refine p_if_lt C 23 (by decide) dX3_eat_6 (fun c_6 => ?_) (fun c_6 => absurd c_6 (by decide))
      refine p_iload_n C rfl 2 rfl dX3_eat_23 ?_
      rw [hQ]
      exact r_i C hrt9 (⟨hI.symm, rfl⟩) (by decide) (by decide) dX3_eat_24
    | succ n5 ih5 =>
      intro h hn hI
      refine p_lvE (lv9 := [(0, .ref a), (1, .int x), (2, .int h), (3, .int (nI n5))]) (by rw [nI_pred]) ?_
      refine p_iload_n C rfl 3 rfl dX3_eat_5 ?_
      refine p_if_lt C 23 (by decide) dX3_eat_6 (fun c_6 => absurd c_6 (nI_pos (by omega))) (fun c_6 => ?_)
      refine p_iload_n C rfl 2 rfl dX3_eat_9 ?_
      refine p_iload_n C rfl 1 rfl dX3_eat_10 ?_
      refine p_imul C dX3_eat_11 ?_
      refine p_aload_n C rfl 0 rfl dX3_eat_12 ?_
      refine p_iload_n C rfl 3 rfl dX3_eat_13 ?_
      refine p_iald (v := (f n5)) C u hp (vp_in_nI (n := n5) (N := 9) (by omega) (by omega)) (by rw [show ((nI n5)).toNatClampNeg = n5 from nI_clamp (by omega)]) dX3_eat_14 ?_
      refine p_iadd C dX3_eat_15 ?_
      refine p_istore_n (lv9 := [(2, .int ((h * x) + (f n5))), (0, .ref a), (1, .int x), (3, .int (nI n5))]) C rfl (by decide) rfl dX3_eat_16 ?_
      refine p_iinc (lv9 := [(3, .int (nI n5 - 1)), (2, .int ((h * x) + (f n5))), (0, .ref a), (1, .int x)]) (v := (nI n5 - 1)) C (j := 3) rfl (i_dn _) (by decide) rfl dX3_eat_17 ?_
      refine p_goto C 5 (by decide) dX3_eat_20 ?_
      refine p_lv (lv9 := [(0, .ref a), (1, .int x), (2, .int ((h * x) + (f n5))), (3, .int (nI n5 - 1))]) [2, 3, 1, 0] rfl ?_
      exact ih5 _ (by omega) hI
  exact lp5 9 0 (by decide) rfl
set_option maxHeartbeats 4000000 in
set_option maxRecDepth 100000 in
/-- hungerOf -/
theorem m_X3_hungerOf (l : Launch) (D : va_G) (k : Nat → ClassId) {md : Nat → Nat} {th : Int32} {n : Nat} {Am Wk Mo : Nat → Int32} {v cp : Nat} {bt : Nat → Int32} {ml cn : Int32} {Y : va_W} {i : Nat} {x : Int32} (hi : i < 16) : CtI l D k yX3_hungerOf (wU yX3_hungerOf cX3_hungerOf 3 (some .int)) (rmL 1 0 0) [.ref (md 0), .int (nI i), .int x] (MW k md th (nI n) Am Wk Mo v cp bt ml cn Y) (fun r w' => r = hg (mrow Am i) x ∧ w' = (MW k md th (nI n) Am (mrow Am i) Mo v cp bt ml cn Y)) := by
  refine openI (own := RX3) rfl (by decide) (Nat.le_of_ble_eq_true rfl) rfl ?_
  intro p e s m args below meth c A C hrt9 hnm
  obtain ⟨Q, hQ⟩ : ∃ Q, Q = (MQ below (va_Qi (fun r w' => r = hg (mrow Am i) x ∧ w' = (MW k md th (nI n) Am (mrow Am i) Mo v cp bt ml cn Y)) (cBA D A) A) args s 0 0 A) := ⟨_, rfl⟩
  show WP p l e (rmL 1 0 0) s m args below meth c D A 3 (MW k md th (nI n) Am Wk Mo v cp bt ml cn Y) [(0, .ref (md 0)), (1, .int (nI i)), (2, .int x)] 0 0 (MQ below (va_Qi (fun r w' => r = hg (mrow Am i) x ∧ w' = (MW k md th (nI n) Am (mrow Am i) Mo v cp bt ml cn Y)) (cBA D A) A) args s 0 0 A) 0 []
  rw [← hQ]
  refine p_aload_n C rfl 0 rfl dX3_hungerOf_0 ?_
  refine p_iload_n C rfl 1 rfl dX3_hungerOf_1 ?_
  refine p_aload_n C rfl 0 rfl dX3_hungerOf_2 ?_
  refine p_get (v := .ref (md 2)) (T := TX3) C 0 rfl rfl 3 (by decide) inX3 qfl_X3_13 (fun _ h9 => h9) rfl dX3_hungerOf_3 ?_
  refine c_Vv (As := [.int (nI i), .ref (md 2)]) (rest := []) C (m_X3_take l D k (i := i) (by omega)) 0 rfl rfl rfl qml_X3_55 qim_X3_take qse_X3_X3_take qin_X3 qco_X3_take nd_X3_take ⟨Nat.le_of_ble_eq_true rfl, Nat.le_of_ble_eq_true rfl⟩ (Nat.le_of_ble_eq_true rfl) ⟨Nat.le_of_ble_eq_true rfl, Nat.le_of_ble_eq_true rfl⟩ rfl dX3_hungerOf_6 (fun w9 h9 => ?_)
  obtain rfl := h9
  refine p_aload_n C rfl 0 rfl dX3_hungerOf_9 ?_
  refine p_get (v := .ref (md 2)) (T := TX3) C 0 rfl rfl 3 (by decide) inX3 qfl_X3_13 (fun _ h9 => h9) rfl dX3_hungerOf_10 ?_
  refine p_iload_n C rfl 2 rfl dX3_hungerOf_13 ?_
  refine c_Si (As := [.ref (md 2), .int x]) (rest := []) C (m_X3_eat l D k (u := 2) (x := x) rfl) qml_X3_58 qst_X3_eat qin_X3 qco_X3_eat nd_X3_eat ⟨Nat.le_of_ble_eq_true rfl, Nat.le_of_ble_eq_true rfl⟩ (Nat.le_of_ble_eq_true rfl) ⟨Nat.le_of_ble_eq_true rfl, Nat.le_of_ble_eq_true rfl⟩ rfl dX3_hungerOf_14 (fun r9 w9 h9 => ?_)
  obtain ⟨rfl, rfl⟩ := h9
  rw [hQ]
  exact r_i C hrt9 (⟨rfl, rfl⟩) (by decide) (by decide) dX3_hungerOf_17
set_option maxHeartbeats 4000000 in
set_option maxRecDepth 100000 in
/-- divideBy -/
theorem m_X3_divideBy (l : Launch) (D : va_G) (k : Nat → ClassId) {w : va_W} {u a : Nat} {f : Nat → Int32} (hp : w[u]? = some (a, aI k 9 f)) {x : Int32} {i : Nat} (hi : i ≤ 8) : CtV l D k yX3_divideBy (wU yX3_divideBy cX3_divideBy 4 (none)) (rmL 0 0 0) [.ref a, .int x, .int (nI i)] w (fun w' => w' = w.set u (a, aI k 9 (mvI x i (8 - i) f))) := by
  refine openV (own := RX3) rfl (by decide) (Nat.le_of_ble_eq_true rfl) rfl ?_
  intro p e s m args below meth c A C hrt9 hnm
  obtain ⟨Q, hQ⟩ : ∃ Q, Q = (MQ below (va_Qv (fun w' => w' = w.set u (a, aI k 9 (mvI x i (8 - i) f))) (cBA D A) A) args s 0 0 A) := ⟨_, rfl⟩
  show WP p l e (rmL 0 0 0) s m args below meth c D A 4 w [(0, .ref a), (1, .int x), (2, .int (nI i))] 0 0 (MQ below (va_Qv (fun w' => w' = w.set u (a, aI k 9 (mvI x i (8 - i) f))) (cBA D A) A) args s 0 0 A) 0 []
  rw [← hQ]
  refine p_bipush (v := 7) C (by decide) dX3_divideBy_0 ?_
  refine p_istore_n (lv9 := [(3, .int 7), (0, .ref a), (1, .int x), (2, .int (nI i))]) C rfl (by decide) rfl dX3_divideBy_2 ?_
  refine p_lv (lv9 := [(0, .ref a), (1, .int x), (2, .int (nI i)), (3, .int 7)]) [1, 2, 3, 0] rfl ?_
  refine p_lvE (lv9 := [(0, .ref a), (1, .int x), (2, .int (nI i)), (3, .int (nI (i + (8 - i)) - 1))]) (by rw [show i + (8 - i) = 8 by omega]; rfl) ?_
  refine p_w (w9 := (w.set u (a, aI k 9 f))) ((g_id hp).symm) ?_
  have lp3 : ∀ (n3 : Nat) (F : Nat → Int32), (hm : i + n3 ≤ 8) → (hF : mvI x i (8 - i) f = mvI x i n3 F) → WP p l e (rmL 0 0 0) s m args below meth c D A 4 (w.set u (a, aI k 9 F)) [(0, .ref a), (1, .int x), (2, .int (nI i)), (3, .int (nI (i + n3) - 1))] 0 0 Q 3 [] := by
    intro n3
    induction n3 with
    | zero =>
      intro F hm hF
      refine p_iload_n C rfl 3 rfl dX3_divideBy_3 ?_
      refine p_iload_n C rfl 2 rfl dX3_divideBy_4 ?_
      refine p_icmp_lt C 27 (by decide) dX3_divideBy_5 (fun c_5 => ?_) (fun c_5 => absurd (dn_lt i (by omega)) c_5)
      rw [hQ]
      exact r_v C hrt9 (by rw [hF]; rfl) (by decide) (by decide) dX3_divideBy_27
    | succ n3 ih3 =>
      intro F hm hF
      refine p_lvE (lv9 := [(0, .ref a), (1, .int x), (2, .int (nI i)), (3, .int (nI (i + n3)))]) (by rw [show i + (n3 + 1) = i + n3 + 1 from rfl, nI_pred]) ?_
      refine p_iload_n C rfl 3 rfl dX3_divideBy_3 ?_
      refine p_iload_n C rfl 2 rfl dX3_divideBy_4 ?_
      refine p_icmp_lt C 27 (by decide) dX3_divideBy_5 (fun c_5 => absurd c_5 (nI_nlt (show i ≤ i + n3 by omega) (by omega))) (fun c_5 => ?_)
      refine p_aload_n C rfl 0 rfl dX3_divideBy_8 ?_
      refine p_iload_n C rfl 3 rfl dX3_divideBy_9 ?_
      refine p_dup2_11 C rfl rfl dX3_divideBy_10 ?_
      refine p_iald (v := (F (i + n3))) C u (g_set hp) (vp_in_nI (n := (i + n3)) (N := 9) (by omega) (by omega)) (by rw [show ((nI (i + n3))).toNatClampNeg = (i + n3) from nI_clamp (by omega)]) dX3_divideBy_11 ?_
      refine p_iload_n C rfl 1 rfl dX3_divideBy_12 ?_
      refine p_aload_n C rfl 0 rfl dX3_divideBy_13 ?_
      refine p_iload_n C rfl 3 rfl dX3_divideBy_14 ?_
      refine p_iconst (v := 1) C (by decide) dX3_divideBy_15 ?_
      refine p_iadd C dX3_divideBy_16 ?_
      refine p_iald (v := (F (i + n3 + 1))) C u (g_set hp) (by rw [show ((nI (i + n3)) + 1) = nI (i + n3 + 1) from nI_1 _]; exact vp_in_nI (n := (i + n3 + 1)) (N := 9) (by omega) (by omega)) (by rw [show (((nI (i + n3)) + 1)).toNatClampNeg = (i + n3 + 1) from by rw [show ((nI (i + n3)) + 1) = nI (i + n3 + 1) from nI_1 _]; exact nI_clamp (by omega)]) dX3_divideBy_17 ?_
      refine p_imul C dX3_divideBy_18 ?_
      refine p_iadd C dX3_divideBy_19 ?_
      refine p_iast (w9 := (w.set u (a, aI k 9 (upd F (i + n3) ((F (i + n3)) + (x * (F (i + n3 + 1)))))))) C u (g_set hp) (vp_in_nI (n := (i + n3)) (N := 9) (by omega) (by omega)) (by rw [show ((nI (i + n3))).toNatClampNeg = (i + n3) from nI_clamp (by omega)]; exact g_ss _ _ _ _) dX3_divideBy_20 ?_
      refine p_iinc (lv9 := [(3, .int (nI (i + n3) - 1)), (0, .ref a), (1, .int x), (2, .int (nI i))]) (v := (nI (i + n3) - 1)) C (j := 3) rfl (i_dn _) (by decide) rfl dX3_divideBy_21 ?_
      refine p_goto C 3 (by decide) dX3_divideBy_24 ?_
      refine p_lv (lv9 := [(0, .ref a), (1, .int x), (2, .int (nI i)), (3, .int (nI (i + n3) - 1))]) [1, 2, 3, 0] rfl ?_
      exact ih3 _ (by omega) hF
  exact lp3 (8 - i) f (by omega) rfl
set_option maxHeartbeats 4000000 in
set_option maxRecDepth 100000 in
/-- shiftRow -/
theorem m_X3_shiftRow (l : Launch) (D : va_G) (k : Nat → ClassId) {w : va_W} {u a : Nat} {f : Nat → Int32} (hp : w[u]? = some (a, aI k 9 f)) {x : Int32} : CtV l D k yX3_shiftRow (wU yX3_shiftRow cX3_shiftRow 3 (none)) (rmL 1 0 0) [.ref a, .int x] w (fun w' => w' = w.set u (a, aI k 9 (mv f x))) := by
  refine openV (own := RX3) rfl (by decide) (Nat.le_of_ble_eq_true rfl) rfl ?_
  intro p e s m args below meth c A C hrt9 hnm
  obtain ⟨Q, hQ⟩ : ∃ Q, Q = (MQ below (va_Qv (fun w' => w' = w.set u (a, aI k 9 (mv f x))) (cBA D A) A) args s 0 0 A) := ⟨_, rfl⟩
  show WP p l e (rmL 1 0 0) s m args below meth c D A 3 w [(0, .ref a), (1, .int x)] 0 0 (MQ below (va_Qv (fun w' => w' = w.set u (a, aI k 9 (mv f x))) (cBA D A) A) args s 0 0 A) 0 []
  rw [← hQ]
  refine p_iconst (v := 0) C (by decide) dX3_shiftRow_0 ?_
  refine p_istore_n (lv9 := [(2, .int 0), (0, .ref a), (1, .int x)]) C rfl (by decide) rfl dX3_shiftRow_1 ?_
  refine p_w (w9 := (w.set u (a, aI k 9 (mvO x f 0)))) ((g_id hp).symm) ?_
  refine p_lv (lv9 := [(0, .ref a), (1, .int x), (2, .int 0)]) [1, 2, 0] rfl ?_
  have lp2 : ∀ (n2 : Nat) (i : Nat), (hn : i + n2 = 8) → WP p l e (rmL 1 0 0) s m args below meth c D A 3 (w.set u (a, aI k 9 (mvO x f i))) [(0, .ref a), (1, .int x), (2, .int (nI i))] 0 0 Q 2 [] := by
    intro n2
    induction n2 with
    | zero =>
      intro i hn
      obtain rfl : i = 8 := by omega
      refine p_lvE (lv9 := [(0, .ref a), (1, .int x), (2, .int (nI 8))]) rfl ?_
      refine p_iload_n C rfl 2 rfl dX3_shiftRow_2 ?_
      refine p_bipush (v := 8) C (by decide) dX3_shiftRow_3 ?_
      refine p_icmp_ge C 20 (by decide) dX3_shiftRow_5 (fun c_5 => ?_) (fun c_5 => absurd c_5 (by decide))
      rw [hQ]
      exact r_v C hrt9 rfl (by decide) (by decide) dX3_shiftRow_20
    | succ n2 ih2 =>
      intro i hn
      have hi : i < 8 := by omega
      refine p_iload_n C rfl 2 rfl dX3_shiftRow_2 ?_
      refine p_bipush (v := 8) C (by decide) dX3_shiftRow_3 ?_
      refine p_icmp_ge C 20 (by decide) dX3_shiftRow_5 (fun c_5 => absurd c_5 (nI_ge (b := 8) hi (by decide))) (fun c_5 => ?_)
      refine p_aload_n C rfl 0 rfl dX3_shiftRow_8 ?_
      refine p_iload_n C rfl 1 rfl dX3_shiftRow_9 ?_
      refine p_iload_n C rfl 2 rfl dX3_shiftRow_10 ?_
      refine c_Sv (As := [.ref a, .int x, .int (nI i)]) (rest := []) C (m_X3_divideBy l D k (u := u) (x := x) (i := i) (g_set hp) (by omega)) qml_X3_62 qst_X3_divideBy qin_X3 qco_X3_divideBy nd_X3_divideBy ⟨Nat.le_of_ble_eq_true rfl, Nat.le_of_ble_eq_true rfl⟩ (Nat.le_of_ble_eq_true rfl) ⟨Nat.le_of_ble_eq_true rfl, Nat.le_of_ble_eq_true rfl⟩ rfl dX3_shiftRow_11 (fun w9 h9 => ?_)
      obtain rfl := h9
      refine p_w (w9 := (w.set u (a, aI k 9 (mvI x i (8 - i) (mvO x f i))))) (g_ss _ _ _ _) ?_
      refine p_iinc (lv9 := [(2, .int (nI (i + 1))), (0, .ref a), (1, .int x)]) (v := (nI (i + 1))) C (j := 2) rfl (i_up i) (by decide) rfl dX3_shiftRow_14 ?_
      refine p_goto C 2 (by decide) dX3_shiftRow_17 ?_
      refine p_lv (lv9 := [(0, .ref a), (1, .int x), (2, .int (nI (i + 1)))]) [1, 2, 0] rfl ?_
      exact ih2 (i + 1) (by omega)
  exact lp2 8 0 rfl
set_option maxHeartbeats 4000000 in
set_option maxRecDepth 100000 in
/-- multiply -/
theorem m_X3_multiply (l : Launch) (D : va_G) (k : Nat → ClassId) {md : Nat → Nat} {th : Int32} {n : Nat} {Am Wk Mo : Nat → Int32} {v cp : Nat} {bt : Nat → Int32} {ml cn : Int32} {Y : va_W} {i : Nat} (hi : i < 16) : CtV l D k yX3_multiply (wU yX3_multiply cX3_multiply 6 (none)) (rmL 1 0 0) [.ref (md 0), .ref (md 2), .int (nI i)] (MW k md th (nI n) Am Wk Mo v cp bt ml cn Y) (fun w' => w' = (MW k md th (nI n) Am (n9 (cv Wk (mrow Am i))) Mo v cp bt ml cn Y)) := by
  refine openV (own := RX3) rfl (by decide) (Nat.le_of_ble_eq_true rfl) rfl ?_
  intro p e s m args below meth c A C hrt9 hnm
  obtain ⟨Q, hQ⟩ : ∃ Q, Q = (MQ below (va_Qv (fun w' => w' = (MW k md th (nI n) Am (n9 (cv Wk (mrow Am i))) Mo v cp bt ml cn Y)) (cBA D A) A) args s 0 0 A) := ⟨_, rfl⟩
  show WP p l e (rmL 1 0 0) s m args below meth c D A 6 (MW k md th (nI n) Am Wk Mo v cp bt ml cn Y) [(0, .ref (md 0)), (1, .ref (md 2)), (2, .int (nI i))] 0 0 (MQ below (va_Qv (fun w' => w' = (MW k md th (nI n) Am (n9 (cv Wk (mrow Am i))) Mo v cp bt ml cn Y)) (cBA D A) A) args s 0 0 A) 0 []
  rw [← hQ]
  refine p_bipush (v := (nI 9 - 1)) C (by decide) dX3_multiply_0 ?_
  refine p_istore_n (lv9 := [(3, .int (nI 9 - 1)), (0, .ref (md 0)), (1, .ref (md 2)), (2, .int (nI i))]) C rfl (by decide) rfl dX3_multiply_2 ?_
  refine p_w (w9 := (MW k md th (nI n) Am (mulD Wk (mrow Am i) 9) Mo v cp bt ml cn Y)) (by rw [mulD_9]) ?_
  refine p_lv (lv9 := [(0, .ref (md 0)), (1, .ref (md 2)), (2, .int (nI i)), (3, .int (nI 9 - 1))]) [1, 2, 3, 0] rfl ?_
  have lp3 : ∀ (n3 : Nat) , (hn : n3 ≤ 9) → WP p l e (rmL 1 0 0) s m args below meth c D A 6 (MW k md th (nI n) Am (mulD Wk (mrow Am i) n3) Mo v cp bt ml cn Y) [(0, .ref (md 0)), (1, .ref (md 2)), (2, .int (nI i)), (3, .int (nI n3 - 1))] 0 0 Q 3 [] := by
    intro n3
    induction n3 with
    | zero =>
      intro  hn
      refine p_lvE (lv9 := [(0, .ref (md 0)), (1, .ref (md 2)), (2, .int (nI i)), (3, .int (-1))]) (by rw [i_z1]) ?_
      refine p_iload_n C rfl 3 rfl dX3_multiply_3 ?_
      refine p_if_lt C 55 (by decide) dX3_multiply_4 (fun c_4 => ?_) (fun c_4 => absurd c_4 (by decide))
      refine p_arr (n := 9) (w9 := (MW k md th (nI n) Am (n9 (cv Wk (mrow Am i))) Mo v cp bt ml cn Y)) 2 rfl (n9 (cv Wk (mrow Am i))) (fun j hj => mulD_0 hj) rfl ?_
      rw [hQ]
      exact r_v C hrt9 rfl (by decide) (by decide) dX3_multiply_55
    | succ n3 ih3 =>
      intro  hn
      refine p_lvE (lv9 := [(0, .ref (md 0)), (1, .ref (md 2)), (2, .int (nI i)), (3, .int (nI n3))]) (by rw [nI_pred]) ?_
      refine p_iload_n C rfl 3 rfl dX3_multiply_3 ?_
      refine p_if_lt C 55 (by decide) dX3_multiply_4 (fun c_4 => absurd c_4 (nI_pos (by omega))) (fun c_4 => ?_)
      refine p_iconst (v := 0) C (by decide) dX3_multiply_7 ?_
      refine p_istore (lv9 := [(4, .int 0), (0, .ref (md 0)), (1, .ref (md 2)), (2, .int (nI i)), (3, .int (nI n3))]) C (by decide) rfl dX3_multiply_8 ?_
      refine p_iconst (v := 0) C (by decide) dX3_multiply_10 ?_
      refine p_istore (lv9 := [(5, .int 0), (4, .int 0), (0, .ref (md 0)), (1, .ref (md 2)), (2, .int (nI i)), (3, .int (nI n3))]) C (by decide) rfl dX3_multiply_11 ?_
      refine p_lv (lv9 := [(0, .ref (md 0)), (1, .ref (md 2)), (2, .int (nI i)), (3, .int (nI n3)), (4, .int 0), (5, .int 0)]) [2, 3, 4, 5, 1, 0] rfl ?_
      have lp13 : ∀ (n13 : Nat) (j : Nat), (hj : j + n13 = n3 + 1) → WP p l e (rmL 1 0 0) s m args below meth c D A 6 (MW k md th (nI n) Am (mulD Wk (mrow Am i) (n3 + 1)) Mo v cp bt ml cn Y) [(0, .ref (md 0)), (1, .ref (md 2)), (2, .int (nI i)), (3, .int (nI n3)), (4, .int (cvN Wk (mrow Am i) n3 j)), (5, .int (nI j))] 0 0 Q 13 [] := by
        intro n13
        induction n13 with
        | zero =>
          intro j hj
          obtain rfl : j = n3 + 1 := by omega
          refine p_iload C 5 rfl dX3_multiply_13 ?_
          refine p_iload_n C rfl 3 rfl dX3_multiply_15 ?_
          refine p_icmp_gt C 44 (by decide) dX3_multiply_16 (fun c_16 => ?_) (fun c_16 => absurd (nI_lt (Nat.lt_succ_self n3) (by omega)) c_16)
          refine p_aload_n C rfl 1 rfl dX3_multiply_44 ?_
          refine p_iload_n C rfl 3 rfl dX3_multiply_45 ?_
          refine p_iload C 4 rfl dX3_multiply_46 ?_
          refine p_iast (w9 := (MW k md th (nI n) Am (mulD Wk (mrow Am i) n3) Mo v cp bt ml cn Y)) C 2 rfl (vp_in_nI (n := n3) (N := 9) (by omega) (by omega)) (by rw [show ((nI n3)).toNatClampNeg = n3 from nI_clamp (by omega), show upd (mulD Wk (mrow Am i) (n3 + 1)) n3 (cvN Wk (mrow Am i) n3 (n3 + 1)) = mulD Wk (mrow Am i) n3 from mulD_s (by omega) rfl]; exact rfl) dX3_multiply_48 ?_
          refine p_iinc (lv9 := [(3, .int (nI n3 - 1)), (0, .ref (md 0)), (1, .ref (md 2)), (2, .int (nI i)), (4, .int (cvN Wk (mrow Am i) n3 (n3 + 1))), (5, .int (nI (n3 + 1)))]) (v := (nI n3 - 1)) C (j := 3) rfl (i_dn _) (by decide) rfl dX3_multiply_49 ?_
          refine p_goto C 3 (by decide) dX3_multiply_52 ?_
          refine p_lv (lv9 := [(0, .ref (md 0)), (1, .ref (md 2)), (2, .int (nI i)), (3, .int (nI n3 - 1))]) [1, 2, 3, 0] rfl ?_
          exact ih3 (by omega)
        | succ n13 ih13 =>
          intro j hj
          have hj2 : j ≤ n3 := by omega
          refine p_iload C 5 rfl dX3_multiply_13 ?_
          refine p_iload_n C rfl 3 rfl dX3_multiply_15 ?_
          refine p_icmp_gt C 44 (by decide) dX3_multiply_16 (fun c_16 => absurd c_16 (nI_nlt hj2 (by omega))) (fun c_16 => ?_)
          refine p_iload C 4 rfl dX3_multiply_19 ?_
          refine p_aload_n C rfl 1 rfl dX3_multiply_21 ?_
          refine p_iload C 5 rfl dX3_multiply_22 ?_
          refine p_iald (v := ((mulD Wk (mrow Am i) (n3 + 1)) j)) C 2 rfl (vp_in_nI (n := j) (N := 9) (by omega) (by omega)) (by rw [show ((nI j)).toNatClampNeg = j from nI_clamp (by omega)]) dX3_multiply_24 ?_
          refine p_aload_n C rfl 0 rfl dX3_multiply_25 ?_
          refine p_iload_n C rfl 2 rfl dX3_multiply_26 ?_
          refine p_iload_n C rfl 3 rfl dX3_multiply_27 ?_
          refine p_iload C 5 rfl dX3_multiply_28 ?_
          refine p_isub C dX3_multiply_30 ?_
          refine p_int (y := (nI (n3 - j))) (pk_sub hj2) ?_
          refine c_Vi (As := [.int (nI i), .int (nI (n3 - j))]) (rest := [.int ((mulD Wk (mrow Am i) (n3 + 1)) j), .int (cvN Wk (mrow Am i) n3 j)]) C (m_X3_at l D k (i := i) (j := (n3 - j)) (by omega) (by omega)) 0 rfl rfl rfl qml_X3_47 qim_X3_at qse_X3_X3_at qin_X3 qco_X3_at nd_X3_at ⟨Nat.le_of_ble_eq_true rfl, Nat.le_of_ble_eq_true rfl⟩ (Nat.le_of_ble_eq_true rfl) ⟨Nat.le_of_ble_eq_true rfl, Nat.le_of_ble_eq_true rfl⟩ rfl dX3_multiply_31 (fun r9 w9 h9 => ?_)
          obtain ⟨e9, rfl⟩ := h9
          refine p_int e9 ?_
          refine p_imul C dX3_multiply_34 ?_
          refine p_iadd C dX3_multiply_35 ?_
          refine p_int (y := (cvN Wk (mrow Am i) n3 (j + 1))) (by rw [mulD_lt (show j < n3 + 1 by omega)]; rfl) ?_
          refine p_istore (lv9 := [(4, .int (cvN Wk (mrow Am i) n3 (j + 1))), (0, .ref (md 0)), (1, .ref (md 2)), (2, .int (nI i)), (3, .int (nI n3)), (5, .int (nI j))]) C (by decide) rfl dX3_multiply_36 ?_
          refine p_iinc (lv9 := [(5, .int (nI (j + 1))), (4, .int (cvN Wk (mrow Am i) n3 (j + 1))), (0, .ref (md 0)), (1, .ref (md 2)), (2, .int (nI i)), (3, .int (nI n3))]) (v := (nI (j + 1))) C (j := 5) rfl (i_up j) (by decide) rfl dX3_multiply_38 ?_
          refine p_goto C 13 (by decide) dX3_multiply_41 ?_
          refine p_lv (lv9 := [(0, .ref (md 0)), (1, .ref (md 2)), (2, .int (nI i)), (3, .int (nI n3)), (4, .int (cvN Wk (mrow Am i) n3 (j + 1))), (5, .int (nI (j + 1)))]) [2, 3, 4, 5, 1, 0] rfl ?_
          exact ih13 (j + 1) (by omega)
      exact lp13 (n3 + 1) 0 (by omega)
  exact lp3 9 (by decide)
set_option maxHeartbeats 4000000 in
set_option maxRecDepth 100000 in
/-- divideRow -/
theorem m_X3_divideRow (l : Launch) (D : va_G) (k : Nat → ClassId) {md : Nat → Nat} {th : Int32} {n : Nat} {Am Wk Mo : Nat → Int32} {v cp : Nat} {bt : Nat → Int32} {ml cn : Int32} {Y : va_W} {i : Nat} (hi : i < 16) (hg : 0 < dg (mrow Am i)) (hf : n9 Wk = Wk) : CtV l D k yX3_divideRow (wU yX3_divideRow cX3_divideRow 6 (none)) (rmL 2 0 0) [.ref (md 0), .int (nI i)] (MW k md th (nI n) Am Wk Mo v cp bt ml cn Y) (fun w' => w' = (MW k md th (nI n) Am ((sp Wk (mrow Am i)).2) ((sp Wk (mrow Am i)).1) v cp bt ml cn Y)) := by
  refine openV (own := RX3) rfl (by decide) (Nat.le_of_ble_eq_true rfl) rfl ?_
  intro p e s m args below meth c A C hrt9 hnm
  obtain ⟨Q, hQ⟩ : ∃ Q, Q = (MQ below (va_Qv (fun w' => w' = (MW k md th (nI n) Am ((sp Wk (mrow Am i)).2) ((sp Wk (mrow Am i)).1) v cp bt ml cn Y)) (cBA D A) A) args s 0 0 A) := ⟨_, rfl⟩
  show WP p l e (rmL 2 0 0) s m args below meth c D A 6 (MW k md th (nI n) Am Wk Mo v cp bt ml cn Y) [(0, .ref (md 0)), (1, .int (nI i))] 0 0 (MQ below (va_Qv (fun w' => w' = (MW k md th (nI n) Am ((sp Wk (mrow Am i)).2) ((sp Wk (mrow Am i)).1) v cp bt ml cn Y)) (cBA D A) A) args s 0 0 A) 0 []
  rw [← hQ]
  refine p_aload_n C rfl 0 rfl dX3_divideRow_0 ?_
  refine p_iload_n C rfl 1 rfl dX3_divideRow_1 ?_
  refine c_Vi (As := [.int (nI i)]) (rest := []) C (m_X3_degreeNow l D k (i := i) (by omega)) 0 rfl rfl rfl qml_X3_51 qim_X3_degreeNow qse_X3_X3_degreeNow qin_X3 qco_X3_degreeNow nd_X3_degreeNow ⟨Nat.le_of_ble_eq_true rfl, Nat.le_of_ble_eq_true rfl⟩ (Nat.le_of_ble_eq_true rfl) ⟨Nat.le_of_ble_eq_true rfl, Nat.le_of_ble_eq_true rfl⟩ rfl dX3_divideRow_2 (fun r9 w9 h9 => ?_)
  obtain ⟨e9, rfl⟩ := h9
  refine p_int e9 ?_
  obtain ⟨d, hd⟩ : ∃ d, dg (mrow Am i) = d + 1 := ⟨dg (mrow Am i) - 1, by omega⟩
  have hd9 : d ≤ 8 := by have := dg_le (mrow Am i); omega
  refine p_int (y := nI d) (by rw [hd]; exact dI_s d) ?_
  refine p_istore_n (lv9 := [(2, .int (nI d)), (0, .ref (md 0)), (1, .int (nI i))]) C rfl (by decide) rfl dX3_divideRow_5 ?_
  refine p_iconst (v := 0) C (by decide) dX3_divideRow_6 ?_
  refine p_istore_n (lv9 := [(3, .int 0), (2, .int (nI d)), (0, .ref (md 0)), (1, .int (nI i))]) C rfl (by decide) rfl dX3_divideRow_7 ?_
  refine p_w (w9 := (MW k md th (nI n) Am Wk (fl (fun _ => 0) Mo 0) v cp bt ml cn Y)) (by rw [fl_0]) ?_
  refine p_lv (lv9 := [(0, .ref (md 0)), (1, .int (nI i)), (2, .int (nI d)), (3, .int 0)]) [2, 3, 1, 0] rfl ?_
  have lp8 : ∀ (n8 : Nat) (c9 : Nat), (hc : c9 + n8 = 9) → WP p l e (rmL 2 0 0) s m args below meth c D A 6 (MW k md th (nI n) Am Wk (fl (fun _ => 0) Mo c9) v cp bt ml cn Y) [(0, .ref (md 0)), (1, .int (nI i)), (2, .int (nI d)), (3, .int (nI c9))] 0 0 Q 8 [] := by
    intro n8
    induction n8 with
    | zero =>
      intro c9 hc
      obtain rfl : c9 = 9 := by omega
      refine p_iload_n C rfl 3 rfl dX3_divideRow_8 ?_
      refine p_bipush (v := 9) C (by decide) dX3_divideRow_9 ?_
      refine p_icmp_ge C 27 (by decide) dX3_divideRow_11 (fun c_11 => ?_) (fun c_11 => absurd c_11 (by decide))
      refine p_bipush (v := 8) C (by decide) dX3_divideRow_27 ?_
      refine p_istore_n (lv9 := [(3, .int 8), (0, .ref (md 0)), (1, .int (nI i)), (2, .int (nI d))]) C rfl (by decide) rfl dX3_divideRow_29 ?_
      refine p_lv (lv9 := [(0, .ref (md 0)), (1, .int (nI i)), (2, .int (nI d)), (3, .int 8)]) [1, 2, 3, 0] rfl ?_
      refine p_lvE (lv9 := [(0, .ref (md 0)), (1, .int (nI i)), (2, .int (nI d)), (3, .int (nI (d + (9 - d)) - 1))]) (by rw [show d + (9 - d) = 9 by omega]; rfl) ?_
      refine p_arr (n := 9) (w9 := (MW k md th (nI n) Am Wk (fun _ => 0) v cp bt ml cn Y)) 3 rfl (fun _ => 0) (fun j hj => fl_in hj) rfl ?_
      have lp30 : ∀ (n30 : Nat) (q L : Nat → Int32), (hn : d + n30 ≤ 9) → (hS : sp Wk (mrow Am i) = spO (mrow Am i) d n30 (q, L)) → WP p l e (rmL 2 0 0) s m args below meth c D A 6 (MW k md th (nI n) Am L q v cp bt ml cn Y) [(0, .ref (md 0)), (1, .int (nI i)), (2, .int (nI d)), (3, .int (nI (d + n30) - 1))] 0 0 Q 30 [] := by
        intro n30
        induction n30 with
        | zero =>
          intro q L hn hS
          refine p_iload_n C rfl 3 rfl dX3_divideRow_30 ?_
          refine p_iload_n C rfl 2 rfl dX3_divideRow_31 ?_
          refine p_icmp_lt C 98 (by decide) dX3_divideRow_32 (fun c_32 => ?_) (fun c_32 => absurd (dn_lt d (by omega)) c_32)
          rw [hQ]
          exact r_v C hrt9 (by rw [hS]; rfl) (by decide) (by decide) dX3_divideRow_98
        | succ n30 ih30 =>
          intro q L hn hS
          refine p_lvE (lv9 := [(0, .ref (md 0)), (1, .int (nI i)), (2, .int (nI d)), (3, .int (nI (d + n30)))]) (by rw [show d + (n30 + 1) = d + n30 + 1 from rfl, nI_pred]) ?_
          refine p_iload_n C rfl 3 rfl dX3_divideRow_30 ?_
          refine p_iload_n C rfl 2 rfl dX3_divideRow_31 ?_
          refine p_icmp_lt C 98 (by decide) dX3_divideRow_32 (fun c_32 => absurd c_32 (nI_nlt (show d ≤ d + n30 by omega) (by omega))) (fun c_32 => ?_)
          refine p_aload_n C rfl 0 rfl dX3_divideRow_35 ?_
          refine p_get (v := .ref (md 2)) (T := TX3) C 0 rfl rfl 3 (by decide) inX3 qfl_X3_13 (fun _ h9 => h9) rfl dX3_divideRow_36 ?_
          refine p_iload_n C rfl 3 rfl dX3_divideRow_39 ?_
          refine p_iald (v := (L (d + n30))) C 2 rfl (vp_in_nI (n := (d + n30)) (N := 9) (by omega) (by omega)) (by rw [show ((nI (d + n30))).toNatClampNeg = (d + n30) from nI_clamp (by omega)]) dX3_divideRow_40 ?_
          refine p_istore (lv9 := [(4, .int (L (d + n30))), (0, .ref (md 0)), (1, .int (nI i)), (2, .int (nI d)), (3, .int (nI (d + n30)))]) C (by decide) rfl dX3_divideRow_41 ?_
          refine p_aload_n C rfl 1 rfl dX3_divideRow_43 ?_
          refine p_get (v := .ref (md 3)) (T := TX3) C 0 rfl rfl 4 (by decide) inX3 qfl_X3_16 (fun _ h9 => h9) rfl dX3_divideRow_44 ?_
          refine p_iload_n C rfl 4 rfl dX3_divideRow_47 ?_
          refine p_iload_n C rfl 3 rfl dX3_divideRow_48 ?_
          refine p_isub C dX3_divideRow_49 ?_
          refine p_int (y := (nI n30)) (by rw [pk_sub (by omega), Nat.add_sub_cancel_left]) ?_
          refine p_iload C 0 rfl dX3_divideRow_50 ?_
          refine p_iast (w9 := (MW k md th (nI n) Am L (upd q n30 (L (d + n30))) v cp bt ml cn Y)) C 3 rfl (vp_in_nI (n := n30) (N := 9) (by omega) (by omega)) (by rw [show ((nI n30)).toNatClampNeg = n30 from nI_clamp (by omega)]; exact rfl) dX3_divideRow_52 ?_
          refine p_iconst (v := 0) C (by decide) dX3_divideRow_53 ?_
          refine p_istore (lv9 := [(5, .int 0), (4, .int (L (d + n30))), (0, .ref (md 0)), (1, .int (nI i)), (2, .int (nI d)), (3, .int (nI (d + n30)))]) C (by decide) rfl dX3_divideRow_54 ?_
          refine p_lv (lv9 := [(0, .ref (md 0)), (1, .int (nI i)), (2, .int (nI d)), (3, .int (nI (d + n30))), (4, .int (L (d + n30))), (5, .int 0)]) [2, 3, 4, 5, 1, 0] rfl ?_
          have lp56 : ∀ (n56 : Nat) (j : Nat), (hj : j + n56 = d + 1) → WP p l e (rmL 2 0 0) s m args below meth c D A 6 (MW k md th (nI n) Am (spI (L (d + n30)) (mrow Am i) n30 L j) (upd q n30 (L (d + n30))) v cp bt ml cn Y) [(0, .ref (md 0)), (1, .int (nI i)), (2, .int (nI d)), (3, .int (nI (d + n30))), (4, .int (L (d + n30))), (5, .int (nI j))] 0 0 Q 56 [] := by
            intro n56
            induction n56 with
            | zero =>
              intro j hj
              obtain rfl : j = d + 1 := by omega
              refine p_iload C 5 rfl dX3_divideRow_56 ?_
              refine p_iload_n C rfl 2 rfl dX3_divideRow_58 ?_
              refine p_icmp_gt C 92 (by decide) dX3_divideRow_59 (fun c_59 => ?_) (fun c_59 => absurd (nI_lt (Nat.lt_succ_self d) (by omega)) c_59)
              refine p_iinc (lv9 := [(3, .int (nI (d + n30) - 1)), (0, .ref (md 0)), (1, .int (nI i)), (2, .int (nI d)), (4, .int (L (d + n30))), (5, .int (nI (d + 1)))]) (v := (nI (d + n30) - 1)) C (j := 3) rfl (i_dn _) (by decide) rfl dX3_divideRow_92 ?_
              refine p_goto C 30 (by decide) dX3_divideRow_95 ?_
              refine p_lv (lv9 := [(0, .ref (md 0)), (1, .int (nI i)), (2, .int (nI d)), (3, .int (nI (d + n30) - 1))]) [1, 2, 3, 0] rfl ?_
              exact ih30 _ _ (by omega) hS
            | succ n56 ih56 =>
              intro j hj
              have hj2 : j ≤ d := by omega
              refine p_iload C 5 rfl dX3_divideRow_56 ?_
              refine p_iload_n C rfl 2 rfl dX3_divideRow_58 ?_
              refine p_icmp_gt C 92 (by decide) dX3_divideRow_59 (fun c_59 => absurd c_59 (nI_nlt hj2 (by omega))) (fun c_59 => ?_)
              refine p_aload_n C rfl 0 rfl dX3_divideRow_62 ?_
              refine p_get (v := .ref (md 2)) (T := TX3) C 0 rfl rfl 3 (by decide) inX3 qfl_X3_13 (fun _ h9 => h9) rfl dX3_divideRow_63 ?_
              refine p_iload_n C rfl 3 rfl dX3_divideRow_66 ?_
              refine p_iload_n C rfl 2 rfl dX3_divideRow_67 ?_
              refine p_isub C dX3_divideRow_68 ?_
              refine p_int (y := (nI n30)) (by rw [pk_sub (by omega), Nat.add_sub_cancel_left]) ?_
              refine p_iload C 5 rfl dX3_divideRow_69 ?_
              refine p_iadd C dX3_divideRow_71 ?_
              refine p_int (y := (nI (n30 + j))) (nI_add n30 j) ?_
              refine p_dup2_11 C rfl rfl dX3_divideRow_72 ?_
              refine p_iald (v := ((spI (L (d + n30)) (mrow Am i) n30 L j) (n30 + j))) C 2 rfl (vp_in_nI (n := (n30 + j)) (N := 9) (by omega) (by omega)) (by rw [show ((nI (n30 + j))).toNatClampNeg = (n30 + j) from nI_clamp (by omega)]) dX3_divideRow_73 ?_
              refine p_iload C 4 rfl dX3_divideRow_74 ?_
              refine p_aload_n C rfl 0 rfl dX3_divideRow_76 ?_
              refine p_iload_n C rfl 1 rfl dX3_divideRow_77 ?_
              refine p_iload C 5 rfl dX3_divideRow_78 ?_
              refine c_Vi (As := [.int (nI i), .int (nI j)]) (rest := [.int (L (d + n30)), .int ((spI (L (d + n30)) (mrow Am i) n30 L j) (n30 + j)), .int (nI (n30 + j)), .ref (md 2)]) C (m_X3_at l D k (i := i) (j := j) (by omega) (by omega)) 0 rfl rfl rfl qml_X3_47 qim_X3_at qse_X3_X3_at qin_X3 qco_X3_at nd_X3_at ⟨Nat.le_of_ble_eq_true rfl, Nat.le_of_ble_eq_true rfl⟩ (Nat.le_of_ble_eq_true rfl) ⟨Nat.le_of_ble_eq_true rfl, Nat.le_of_ble_eq_true rfl⟩ rfl dX3_divideRow_80 (fun r9 w9 h9 => ?_)
              obtain ⟨e9, rfl⟩ := h9
              refine p_int e9 ?_
              refine p_imul C dX3_divideRow_83 ?_
              refine p_isub C dX3_divideRow_84 ?_
              refine p_iast (w9 := (MW k md th (nI n) Am (spI (L (d + n30)) (mrow Am i) n30 L (j + 1)) (upd q n30 (L (d + n30))) v cp bt ml cn Y)) C 2 rfl (vp_in_nI (n := (n30 + j)) (N := 9) (by omega) (by omega)) (by rw [show ((nI (n30 + j))).toNatClampNeg = (n30 + j) from nI_clamp (by omega), show upd (spI (L (d + n30)) (mrow Am i) n30 L j) (n30 + j) (((spI (L (d + n30)) (mrow Am i) n30 L j) (n30 + j)) - ((L (d + n30)) * (mrow Am i j))) = (spI (L (d + n30)) (mrow Am i) n30 L (j + 1)) from rfl]; exact rfl) dX3_divideRow_85 ?_
              refine p_iinc (lv9 := [(5, .int (nI (j + 1))), (0, .ref (md 0)), (1, .int (nI i)), (2, .int (nI d)), (3, .int (nI (d + n30))), (4, .int (L (d + n30)))]) (v := (nI (j + 1))) C (j := 5) rfl (i_up j) (by decide) rfl dX3_divideRow_86 ?_
              refine p_goto C 56 (by decide) dX3_divideRow_89 ?_
              refine p_lv (lv9 := [(0, .ref (md 0)), (1, .int (nI i)), (2, .int (nI d)), (3, .int (nI (d + n30))), (4, .int (L (d + n30))), (5, .int (nI (j + 1)))]) [1, 2, 3, 4, 5, 0] rfl ?_
              exact ih56 (j + 1) (by omega)
          exact lp56 (d + 1) 0 (by omega)
      exact lp30 (9 - d) _ _ (by omega) (by unfold sp; rw [hd, hf, show 10 - (d + 1) = 9 - d by omega, Nat.add_sub_cancel])
    | succ n8 ih8 =>
      intro c9 hc
      have hc9 : c9 < 9 := by omega
      refine p_iload_n C rfl 3 rfl dX3_divideRow_8 ?_
      refine p_bipush (v := 9) C (by decide) dX3_divideRow_9 ?_
      refine p_icmp_ge C 27 (by decide) dX3_divideRow_11 (fun c_11 => absurd c_11 (nI_ge (b := 9) hc9 (by decide))) (fun c_11 => ?_)
      refine p_aload_n C rfl 0 rfl dX3_divideRow_14 ?_
      refine p_get (v := .ref (md 3)) (T := TX3) C 0 rfl rfl 4 (by decide) inX3 qfl_X3_16 (fun _ h9 => h9) rfl dX3_divideRow_15 ?_
      refine p_iload_n C rfl 3 rfl dX3_divideRow_18 ?_
      refine p_iconst (v := 0) C (by decide) dX3_divideRow_19 ?_
      refine p_iast (w9 := (MW k md th (nI n) Am Wk (fl (fun _ => 0) Mo (c9 + 1)) v cp bt ml cn Y)) C 3 rfl (vp_in_nI (n := c9) (N := 9) (by omega) (by omega)) (by rw [show ((nI c9)).toNatClampNeg = c9 from nI_clamp (by omega), show upd (fl (fun _ => 0) Mo c9) c9 0 = (fl (fun _ => 0) Mo (c9 + 1)) from fl_s rfl]; exact rfl) dX3_divideRow_20 ?_
      refine p_iinc (lv9 := [(3, .int (nI (c9 + 1))), (0, .ref (md 0)), (1, .int (nI i)), (2, .int (nI d))]) (v := (nI (c9 + 1))) C (j := 3) rfl (i_up c9) (by decide) rfl dX3_divideRow_21 ?_
      refine p_goto C 8 (by decide) dX3_divideRow_24 ?_
      refine p_lv (lv9 := [(0, .ref (md 0)), (1, .int (nI i)), (2, .int (nI d)), (3, .int (nI (c9 + 1)))]) [1, 2, 3, 0] rfl ?_
      exact ih8 (c9 + 1) (by omega)
  exact lp8 9 0 rfl
