theorem KW_y {k : Nat → ClassId} {ad r : Nat → Nat} {cn : Int32} {R : Nat → Nat → Int32} {T U tx : Nat → Int32} {sz : Int32} {x : Nat × va_E} {Y : va_W} : (KW k ad r cn R T U tx sz (x :: Y))[22]? = some x := by
  show (((List.range 16).map (fun i => (r i, aI k 9 (R i)))) ++ x :: Y)[16]? = some x
  rw [List.getElem?_append_right (by rw [List.length_map, List.length_range]; exact Nat.le_refl _), List.length_map, List.length_range]; rfl
theorem KW_ys {k : Nat → ClassId} {ad r : Nat → Nat} {cn : Int32} {R : Nat → Nat → Int32} {T U tx : Nat → Int32} {sz : Int32} {x y : Nat × va_E} {Y : va_W} : (KW k ad r cn R T U tx sz (x :: Y)).set 22 y = KW k ad r cn R T U tx sz (y :: Y) := by
  show _ :: _ :: _ :: _ :: _ :: _ :: (((List.range 16).map (fun i => (r i, aI k 9 (R i)))) ++ x :: Y).set 16 y = _
  rw [List.set_append_right _ _ (by rw [List.length_map, List.length_range]; exact Nat.le_refl _), List.length_map, List.length_range]; rfl
theorem updL_0 {g : Nat → Int64} {x : Int64} : vp_updL g 0 x 0 = x := by simp [vp_updL]
theorem cd_e1 (n : Nat) (a : Int32) : e1 n a = 0 ∨ e1 n a = 1 := by
  unfold e1
  repeat' split
  all_goals decide
theorem cd_eAdd (n : Nat) : eAdd n = 0 ∨ eAdd n = 1 := by
  unfold eAdd
  repeat' split
  all_goals decide
theorem cd_eSet (n : Nat) (a b c : Int32) : eSet n a b c = 0 ∨ eSet n a b c = 1 ∨ eSet n a b c = 2 := by
  unfold eSet
  repeat' split
  all_goals decide
theorem cd_eAmt (n : Nat) (a b : Int32) : eAmt n a b = 0 ∨ eAmt n a b = 1 := by
  unfold eAmt
  repeat' split
  all_goals decide
theorem cd_eShift (n : Nat) (a b : Int32) : eShift n a b = 0 ∨ eShift n a b = 1 ∨ eShift n a b = 2 := by
  unfold eShift
  repeat' split
  all_goals decide
theorem cd_eUp (n : Nat) (a b : Int32) : eUp n a b = 0 ∨ eUp n a b = 1 ∨ eUp n a b = 2 := by
  unfold eUp
  repeat' split
  all_goals decide
theorem cd_eJoin (n : Nat) (a b : Int32) : eJoin n a b = 0 ∨ eJoin n a b = 1 ∨ eJoin n a b = 2 := by
  unfold eJoin
  repeat' split
  all_goals decide
theorem cd_eDer (n : Nat) (a : Int32) : eDer n a = 0 ∨ eDer n a = 1 ∨ eDer n a = 2 := by
  unfold eDer
  repeat' split
  all_goals decide
theorem cd_e2 (n : Nat) (a b : Int32) : e2 n a b = 0 ∨ e2 n a b = 1 := by
  unfold e2
  repeat' split
  all_goals decide
theorem cd_eProd (n : Nat) (R : Nat → Nat → Int32) (a b : Int32) : eProd n R a b = 0 ∨ eProd n R a b = 1 ∨ eProd n R a b = 2 ∨ eProd n R a b = 3 := by
  unfold eProd
  repeat' split
  all_goals decide
theorem cd_eChain (n : Nat) (R : Nat → Nat → Int32) (a b : Int32) : eChain n R a b = 0 ∨ eChain n R a b = 1 ∨ eChain n R a b = 2 ∨ eChain n R a b = 3 := by
  unfold eChain
  repeat' split
  all_goals decide
theorem cd_eDiv (n : Nat) (R : Nat → Nat → Int32) (a b : Int32) : eDiv n R a b = 0 ∨ eDiv n R a b = 1 ∨ eDiv n R a b = 2 ∨ eDiv n R a b = 3 := by
  unfold eDiv
  repeat' split
  all_goals decide
theorem cd_eTA (n : Nat) (R : Nat → Nat → Int32) (a b : Int32) : eTA n R a b = 0 ∨ eTA n R a b = 1 := by
  unfold eTA
  repeat' split
  all_goals decide
theorem bI_ne1 {b : Bool} (h : ¬ bI b = 0) : bI b = 1 := by rw [bI_ne h]; rfl
set_option maxHeartbeats 4000000 in
set_option maxRecDepth 100000 in
/-- L_addRecipe -/
theorem m_L_addRecipe (l : Launch) (D : va_G) (k : Nat → ClassId) (hfl : l.stackTraces = false) {ad r : Nat → Nat} {n : Nat} {R : Nat → Nat → Int32} {T U tx : Nat → Int32} {sz : Int32} {oa : Nat} {g : Nat → Int64} {Y : va_W} (hn : n ≤ 16) : CtI l D k yL_addRecipe (wH yL_addRecipe cL_addRecipe 3 (some .int) [(0, 8, 11, 13)]) (rmL 3 1 6) [.ref (ad 0), .ref oa] (KW k ad r (nI n) R T U tx sz ((oa, aL k 1 g) :: Y)) (fun v9 w' => v9 = (eAdd n) ∧ ∃ (T' U' tx' : Nat → Int32) (sz' : Int32) (g' : Nat → Int64), w' = (KW k ad r (sel (eAdd n) (nI (n + 1)) (nI n)) (sel (eAdd n) (upR R n (fun _ => 0)) R) T' U' tx' sz' ((oa, aL k 1 g') :: Y)) ∧ ((eAdd n) = 0 → g' 0 = (nI n).toInt64)) := by
  refine openW (own := RL) rfl (by decide) (Nat.le_of_ble_eq_true rfl) rfl ?_
  intro p e s m args below meth c A C hrt9 hnm hT
  obtain ⟨Q, hQ⟩ : ∃ Q, Q = (vx_MQ below (va_Qi (fun v9 w' => v9 = (eAdd n) ∧ ∃ (T' U' tx' : Nat → Int32) (sz' : Int32) (g' : Nat → Int64), w' = (KW k ad r (sel (eAdd n) (nI (n + 1)) (nI n)) (sel (eAdd n) (upR R n (fun _ => 0)) R) T' U' tx' sz' ((oa, aL k 1 g') :: Y)) ∧ ((eAdd n) = 0 → g' 0 = (nI n).toInt64)) (cBA D A) A) (fun _ _ _ => False) args s 1 6 A) := ⟨_, rfl⟩
  show WP p l e (rmL 3 1 6) s m args below meth c D A 3 (KW k ad r (nI n) R T U tx sz ((oa, aL k 1 g) :: Y)) [(0, .ref (ad 0)), (1, .ref oa)] 0 0 (vx_MQ below (va_Qi (fun v9 w' => v9 = (eAdd n) ∧ ∃ (T' U' tx' : Nat → Int32) (sz' : Int32) (g' : Nat → Int64), w' = (KW k ad r (sel (eAdd n) (nI (n + 1)) (nI n)) (sel (eAdd n) (upR R n (fun _ => 0)) R) T' U' tx' sz' ((oa, aL k 1 g') :: Y)) ∧ ((eAdd n) = 0 → g' 0 = (nI n).toInt64)) (cBA D A) A) (fun _ _ _ => False) args s 1 6 A) 0 []
  rw [← hQ]
  refine p_aload_n C rfl 1 rfl dL_addRecipe_0 ?_
  refine p_iconst (v := 0) C (by decide) dL_addRecipe_1 ?_
  refine p_aload_n C rfl 0 rfl dL_addRecipe_2 ?_
  have hx1 : ∀ (q9 : Nat) (T9 U9 tx9 : Nat → Int32) (sz9 : Int32), eAdd n = 1 → WP p l e (rmL 3 1 6) s m args below meth c D A 3 (KW k ad r (nI n) R T9 U9 tx9 sz9 ((oa, aL k 1 g) :: Y)) [(0, .ref (ad 0)), (1, .ref oa)] 1 6 Q 11 [.ref q9] := by
    intro q9 T9 U9 tx9 sz9 he
    refine p_astore_n (lv9 := [(2, .ref q9), (0, .ref (ad 0)), (1, .ref oa)]) C rfl (by decide) rfl dL_addRecipe_11 ?_
    refine p_iconst (v := 1) C (by decide) dL_addRecipe_12 ?_
    rw [hQ]
    exact rw_i C hrt9 (⟨he.symm, _, _, _, _, _, by rw [he, sel_1, sel_1], fun z9 => absurd (he.symm.trans z9) (by decide)⟩) (by decide) (by decide) dL_addRecipe_13
  have hpx : ∀ (E9 : String) (w9 : va_W), (¬ eAdd n = 0 ∧ E9 = exnA (eAdd n) ∧ ∃ (T9 U9 tx9 : Nat → Int32) (sz9 : Int32), w9 = (KW k ad r (nI n) R T9 U9 tx9 sz9 ((oa, aL k 1 g) :: Y))) → VX p l e (rmL 3 1 6) s m args below meth c D A 3 w9 [(0, .ref (ad 0)), (1, .ref oa)] 1 6 Q 3 [.int 0, .ref oa] E9 := by
    intro E9 w9 h9
    obtain ⟨hne, rfl, T9, U9, tx9, sz9, rfl⟩ := h9
    rcases cd_eAdd n with he | he
    · exact absurd he hne
    · rw [he, exnA_1]
      exact x_catch C (name := "java/lang/IllegalStateException") (tableOf []) ⟨0, 8, 11, 13⟩ (tableOf []) hT (fun z9 hz9 => absurd hz9 List.not_mem_nil) (by decide) (by decide) qcl_L_13 (by decide) rfl (fun q9 => hx1 q9 T9 U9 tx9 sz9 he)
  refine cx_Vi (As := []) (rest := [.int 0, .ref oa]) C (m_X2_addRecipe l D k hfl (hn := hn) ) 0 rfl rfl rfl qml_L_7 qim_X2_addRecipe qse_X2_X2_addRecipe qin_X2 qco_X2_addRecipe nd_X2_addRecipe ⟨Nat.le_of_ble_eq_true rfl, Nat.le_of_ble_eq_true rfl⟩ (Nat.le_of_ble_eq_true rfl) ⟨Nat.le_of_ble_eq_true rfl, Nat.le_of_ble_eq_true rfl⟩ rfl dL_addRecipe_3 (fun E9 w9 h9 => hpx E9 w9 h9) (fun r9 w9 h9 => ?_)
  obtain ⟨he0, e9, T9, U9, tx9, sz9, rfl⟩ := h9
  refine p_int e9 ?_
  refine p_i2l C dL_addRecipe_6 ?_
  refine p_last (w9 := (KW k ad r (nI (n + 1)) (upR R n (fun _ => 0)) T9 U9 tx9 sz9 ((oa, aL k 1 (vp_updL g 0 ((nI n).toInt64))) :: Y))) C 22 KW_y (vp_in_nI (n := 0) (N := 1) (by omega) (by omega)) KW_ys dL_addRecipe_7 ?_
  refine p_goto C 14 (by decide) dL_addRecipe_8 ?_
  refine p_iconst (v := 0) C (by decide) dL_addRecipe_14 ?_
  rw [hQ]
  exact rw_i C hrt9 (⟨he0.symm, _, _, _, _, _, by rw [he0, sel_0, sel_0], fun _ => updL_0⟩) (by decide) (by decide) dL_addRecipe_15
set_option maxHeartbeats 4000000 in
set_option maxRecDepth 100000 in
/-- L_set -/
theorem m_L_set (l : Launch) (D : va_G) (k : Nat → ClassId) (hfl : l.stackTraces = false) {ad r : Nat → Nat} {n : Nat} {R : Nat → Nat → Int32} {T U tx : Nat → Int32} {sz : Int32} {oa : Nat} {g : Nat → Int64} {Y : va_W} (hn : n ≤ 16) {rc pw am : Int32} : CtI l D k yL_set (wH yL_set cL_set 6 (some .int) [(0, 12, 15, 19), (0, 12, 19, 21)]) (rmL 3 3 18) [.ref (ad 0), .int rc, .int pw, .int am, .ref oa] (KW k ad r (nI n) R T U tx sz ((oa, aL k 1 g) :: Y)) (fun v9 w' => v9 = (eSet n rc pw am) ∧ ∃ (T' U' tx' : Nat → Int32) (sz' : Int32) (g' : Nat → Int64), w' = (KW k ad r (sel (eSet n rc pw am) (nI n) (nI n)) (sel (eSet n rc pw am) (upR R (ix rc) (upd (R (ix rc)) (ix pw) am)) R) T' U' tx' sz' ((oa, aL k 1 g') :: Y)) ∧ ((eSet n rc pw am) = 0 → g' 0 = ((R (ix rc)) (ix pw)).toInt64)) := by
  refine openW (own := RL) rfl (by decide) (Nat.le_of_ble_eq_true rfl) rfl ?_
  intro p e s m args below meth c A C hrt9 hnm hT
  obtain ⟨Q, hQ⟩ : ∃ Q, Q = (vx_MQ below (va_Qi (fun v9 w' => v9 = (eSet n rc pw am) ∧ ∃ (T' U' tx' : Nat → Int32) (sz' : Int32) (g' : Nat → Int64), w' = (KW k ad r (sel (eSet n rc pw am) (nI n) (nI n)) (sel (eSet n rc pw am) (upR R (ix rc) (upd (R (ix rc)) (ix pw) am)) R) T' U' tx' sz' ((oa, aL k 1 g') :: Y)) ∧ ((eSet n rc pw am) = 0 → g' 0 = ((R (ix rc)) (ix pw)).toInt64)) (cBA D A) A) (fun _ _ _ => False) args s 3 18 A) := ⟨_, rfl⟩
  show WP p l e (rmL 3 3 18) s m args below meth c D A 6 (KW k ad r (nI n) R T U tx sz ((oa, aL k 1 g) :: Y)) [(0, .ref (ad 0)), (1, .int rc), (2, .int pw), (3, .int am), (4, .ref oa)] 0 0 (vx_MQ below (va_Qi (fun v9 w' => v9 = (eSet n rc pw am) ∧ ∃ (T' U' tx' : Nat → Int32) (sz' : Int32) (g' : Nat → Int64), w' = (KW k ad r (sel (eSet n rc pw am) (nI n) (nI n)) (sel (eSet n rc pw am) (upR R (ix rc) (upd (R (ix rc)) (ix pw) am)) R) T' U' tx' sz' ((oa, aL k 1 g') :: Y)) ∧ ((eSet n rc pw am) = 0 → g' 0 = ((R (ix rc)) (ix pw)).toInt64)) (cBA D A) A) (fun _ _ _ => False) args s 3 18 A) 0 []
  rw [← hQ]
  refine p_aload C 4 rfl dL_set_0 ?_
  refine p_iconst (v := 0) C (by decide) dL_set_2 ?_
  refine p_aload_n C rfl 0 rfl dL_set_3 ?_
  refine p_iload_n C rfl 1 rfl dL_set_4 ?_
  refine p_iload_n C rfl 2 rfl dL_set_5 ?_
  refine p_iload_n C rfl 3 rfl dL_set_6 ?_
  have hx1 : ∀ (q9 : Nat) (T9 U9 tx9 : Nat → Int32) (sz9 : Int32), eSet n rc pw am = 1 → WP p l e (rmL 3 3 18) s m args below meth c D A 6 (KW k ad r (nI n) R T9 U9 tx9 sz9 ((oa, aL k 1 g) :: Y)) [(0, .ref (ad 0)), (1, .int rc), (2, .int pw), (3, .int am), (4, .ref oa)] 3 18 Q 15 [.ref q9] := by
    intro q9 T9 U9 tx9 sz9 he
    refine p_astore (lv9 := [(5, .ref q9), (0, .ref (ad 0)), (1, .int rc), (2, .int pw), (3, .int am), (4, .ref oa)]) C (by decide) rfl dL_set_15 ?_
    refine p_iconst (v := 1) C (by decide) dL_set_17 ?_
    rw [hQ]
    exact rw_i C hrt9 (⟨he.symm, _, _, _, _, _, by rw [he, sel_1, sel_1], fun z9 => absurd (he.symm.trans z9) (by decide)⟩) (by decide) (by decide) dL_set_18
  have hx2 : ∀ (q9 : Nat) (T9 U9 tx9 : Nat → Int32) (sz9 : Int32), eSet n rc pw am = 2 → WP p l e (rmL 3 3 18) s m args below meth c D A 6 (KW k ad r (nI n) R T9 U9 tx9 sz9 ((oa, aL k 1 g) :: Y)) [(0, .ref (ad 0)), (1, .int rc), (2, .int pw), (3, .int am), (4, .ref oa)] 3 18 Q 19 [.ref q9] := by
    intro q9 T9 U9 tx9 sz9 he
    refine p_astore (lv9 := [(5, .ref q9), (0, .ref (ad 0)), (1, .int rc), (2, .int pw), (3, .int am), (4, .ref oa)]) C (by decide) rfl dL_set_19 ?_
    refine p_iconst (v := 2) C (by decide) dL_set_21 ?_
    rw [hQ]
    exact rw_i C hrt9 (⟨he.symm, _, _, _, _, _, by rw [he, sel_2, sel_2], fun z9 => absurd (he.symm.trans z9) (by decide)⟩) (by decide) (by decide) dL_set_22
  have hpx : ∀ (E9 : String) (w9 : va_W), (¬ eSet n rc pw am = 0 ∧ E9 = exn (eSet n rc pw am) ∧ ∃ (T9 U9 tx9 : Nat → Int32) (sz9 : Int32), w9 = (KW k ad r (nI n) R T9 U9 tx9 sz9 ((oa, aL k 1 g) :: Y))) → VX p l e (rmL 3 3 18) s m args below meth c D A 6 w9 [(0, .ref (ad 0)), (1, .int rc), (2, .int pw), (3, .int am), (4, .ref oa)] 3 18 Q 7 [.int 0, .ref oa] E9 := by
    intro E9 w9 h9
    obtain ⟨hne, rfl, T9, U9, tx9, sz9, rfl⟩ := h9
    rcases cd_eSet n rc pw am with he | he | he
    · exact absurd he hne
    · rw [he, exn_1]
      exact x_catch C (name := "java/lang/IndexOutOfBoundsException") (tableOf []) ⟨0, 12, 15, 19⟩ (tableOf [(0, 12, 19, 21)]) hT (fun z9 hz9 => absurd hz9 List.not_mem_nil) (by decide) (by decide) qcl_L_19 (by decide) rfl (fun q9 => hx1 q9 T9 U9 tx9 sz9 he)
    · rw [he, exn_2]
      exact x_catch C (name := "java/lang/IllegalArgumentException") (tableOf [(0, 12, 15, 19)]) ⟨0, 12, 19, 21⟩ (tableOf []) hT (List.forall_mem_cons.mpr ⟨Or.inr ⟨by decide, _, qcl_L_19, by decide⟩, fun z9 hz9 => absurd hz9 List.not_mem_nil⟩) (by decide) (by decide) qcl_L_21 (by decide) rfl (fun q9 => hx2 q9 T9 U9 tx9 sz9 he)
  refine cx_Vi (As := [.int rc, .int pw, .int am]) (rest := [.int 0, .ref oa]) C (m_X2_set l D k hfl (hn := hn) (rc := rc) (pw := pw) (am := am)) 0 rfl rfl rfl qml_L_15 qim_X2_set qse_X2_X2_set qin_X2 qco_X2_set nd_X2_set ⟨Nat.le_of_ble_eq_true rfl, Nat.le_of_ble_eq_true rfl⟩ (Nat.le_of_ble_eq_true rfl) ⟨Nat.le_of_ble_eq_true rfl, Nat.le_of_ble_eq_true rfl⟩ rfl dL_set_7 (fun E9 w9 h9 => hpx E9 w9 h9) (fun r9 w9 h9 => ?_)
  obtain ⟨he0, e9, T9, U9, tx9, sz9, rfl⟩ := h9
  refine p_int e9 ?_
  refine p_i2l C dL_set_10 ?_
  refine p_last (w9 := (KW k ad r (nI n) (upR R (ix rc) (upd (R (ix rc)) (ix pw) am)) T9 U9 tx9 sz9 ((oa, aL k 1 (vp_updL g 0 (((R (ix rc)) (ix pw)).toInt64))) :: Y))) C 22 KW_y (vp_in_nI (n := 0) (N := 1) (by omega) (by omega)) KW_ys dL_set_11 ?_
  refine p_goto C 23 (by decide) dL_set_12 ?_
  refine p_iconst (v := 0) C (by decide) dL_set_23 ?_
  rw [hQ]
  exact rw_i C hrt9 (⟨he0.symm, _, _, _, _, _, by rw [he0, sel_0, sel_0], fun _ => updL_0⟩) (by decide) (by decide) dL_set_24
set_option maxHeartbeats 4000000 in
set_option maxRecDepth 100000 in
/-- L_drop -/
theorem m_L_drop (l : Launch) (D : va_G) (k : Nat → ClassId) (hfl : l.stackTraces = false) {ad r : Nat → Nat} {n : Nat} {R : Nat → Nat → Int32} {T U tx : Nat → Int32} {sz : Int32} {oa : Nat} {g : Nat → Int64} {Y : va_W} (hn : n ≤ 16) {rc : Int32} : CtI l D k yL_drop (wH yL_drop cL_drop 4 (some .int) [(0, 9, 12, 19)]) (rmL 3 1 6) [.ref (ad 0), .int rc, .ref oa] (KW k ad r (nI n) R T U tx sz ((oa, aL k 1 g) :: Y)) (fun v9 w' => v9 = (e1 n rc) ∧ ∃ (T' U' tx' : Nat → Int32) (sz' : Int32) (g' : Nat → Int64), w' = (KW k ad r (sel (e1 n rc) (nI (n - 1)) (nI n)) (sel (e1 n rc) (dK R (ix rc) (n - 1)) R) T' U' tx' sz' ((oa, aL k 1 g') :: Y)) ∧ ((e1 n rc) = 0 → g' 0 = (dI (dg (R (ix rc)))).toInt64)) := by
  refine openW (own := RL) rfl (by decide) (Nat.le_of_ble_eq_true rfl) rfl ?_
  intro p e s m args below meth c A C hrt9 hnm hT
  obtain ⟨Q, hQ⟩ : ∃ Q, Q = (vx_MQ below (va_Qi (fun v9 w' => v9 = (e1 n rc) ∧ ∃ (T' U' tx' : Nat → Int32) (sz' : Int32) (g' : Nat → Int64), w' = (KW k ad r (sel (e1 n rc) (nI (n - 1)) (nI n)) (sel (e1 n rc) (dK R (ix rc) (n - 1)) R) T' U' tx' sz' ((oa, aL k 1 g') :: Y)) ∧ ((e1 n rc) = 0 → g' 0 = (dI (dg (R (ix rc)))).toInt64)) (cBA D A) A) (fun _ _ _ => False) args s 1 6 A) := ⟨_, rfl⟩
  show WP p l e (rmL 3 1 6) s m args below meth c D A 4 (KW k ad r (nI n) R T U tx sz ((oa, aL k 1 g) :: Y)) [(0, .ref (ad 0)), (1, .int rc), (2, .ref oa)] 0 0 (vx_MQ below (va_Qi (fun v9 w' => v9 = (e1 n rc) ∧ ∃ (T' U' tx' : Nat → Int32) (sz' : Int32) (g' : Nat → Int64), w' = (KW k ad r (sel (e1 n rc) (nI (n - 1)) (nI n)) (sel (e1 n rc) (dK R (ix rc) (n - 1)) R) T' U' tx' sz' ((oa, aL k 1 g') :: Y)) ∧ ((e1 n rc) = 0 → g' 0 = (dI (dg (R (ix rc)))).toInt64)) (cBA D A) A) (fun _ _ _ => False) args s 1 6 A) 0 []
  rw [← hQ]
  refine p_aload_n C rfl 2 rfl dL_drop_0 ?_
  refine p_iconst (v := 0) C (by decide) dL_drop_1 ?_
  refine p_aload_n C rfl 0 rfl dL_drop_2 ?_
  refine p_iload_n C rfl 1 rfl dL_drop_3 ?_
  have hx1 : ∀ (q9 : Nat) (T9 U9 tx9 : Nat → Int32) (sz9 : Int32), e1 n rc = 1 → WP p l e (rmL 3 1 6) s m args below meth c D A 4 (KW k ad r (nI n) R T9 U9 tx9 sz9 ((oa, aL k 1 g) :: Y)) [(0, .ref (ad 0)), (1, .int rc), (2, .ref oa)] 1 6 Q 12 [.ref q9] := by
    intro q9 T9 U9 tx9 sz9 he
    refine p_astore_n (lv9 := [(3, .ref q9), (0, .ref (ad 0)), (1, .int rc), (2, .ref oa)]) C rfl (by decide) rfl dL_drop_12 ?_
    refine p_iconst (v := 1) C (by decide) dL_drop_13 ?_
    rw [hQ]
    exact rw_i C hrt9 (⟨he.symm, _, _, _, _, _, by rw [he, sel_1, sel_1], fun z9 => absurd (he.symm.trans z9) (by decide)⟩) (by decide) (by decide) dL_drop_14
  have hpx : ∀ (E9 : String) (w9 : va_W), (¬ e1 n rc = 0 ∧ E9 = exn (e1 n rc) ∧ ∃ (T9 U9 tx9 : Nat → Int32) (sz9 : Int32), w9 = (KW k ad r (nI n) R T9 U9 tx9 sz9 ((oa, aL k 1 g) :: Y))) → VX p l e (rmL 3 1 6) s m args below meth c D A 4 w9 [(0, .ref (ad 0)), (1, .int rc), (2, .ref oa)] 1 6 Q 4 [.int 0, .ref oa] E9 := by
    intro E9 w9 h9
    obtain ⟨hne, rfl, T9, U9, tx9, sz9, rfl⟩ := h9
    rcases cd_e1 n rc with he | he
    · exact absurd he hne
    · rw [he, exn_1]
      exact x_catch C (name := "java/lang/IndexOutOfBoundsException") (tableOf []) ⟨0, 9, 12, 19⟩ (tableOf []) hT (fun z9 hz9 => absurd hz9 List.not_mem_nil) (by decide) (by decide) qcl_L_19 (by decide) rfl (fun q9 => hx1 q9 T9 U9 tx9 sz9 he)
  refine cx_Vi (As := [.int rc]) (rest := [.int 0, .ref oa]) C (m_X2_drop l D k hfl (hn := hn) (rc := rc)) 0 rfl rfl rfl qml_L_23 qim_X2_drop qse_X2_X2_drop qin_X2 qco_X2_drop nd_X2_drop ⟨Nat.le_of_ble_eq_true rfl, Nat.le_of_ble_eq_true rfl⟩ (Nat.le_of_ble_eq_true rfl) ⟨Nat.le_of_ble_eq_true rfl, Nat.le_of_ble_eq_true rfl⟩ rfl dL_drop_4 (fun E9 w9 h9 => hpx E9 w9 h9) (fun r9 w9 h9 => ?_)
  obtain ⟨he0, e9, T9, U9, tx9, sz9, rfl⟩ := h9
  refine p_int e9 ?_
  refine p_i2l C dL_drop_7 ?_
  refine p_last (w9 := (KW k ad r (nI (n - 1)) (dK R (ix rc) (n - 1)) T9 U9 tx9 sz9 ((oa, aL k 1 (vp_updL g 0 ((dI (dg (R (ix rc)))).toInt64))) :: Y))) C 22 KW_y (vp_in_nI (n := 0) (N := 1) (by omega) (by omega)) KW_ys dL_drop_8 ?_
  refine p_goto C 15 (by decide) dL_drop_9 ?_
  refine p_iconst (v := 0) C (by decide) dL_drop_15 ?_
  rw [hQ]
  exact rw_i C hrt9 (⟨he0.symm, _, _, _, _, _, by rw [he0, sel_0, sel_0], fun _ => updL_0⟩) (by decide) (by decide) dL_drop_16
set_option maxHeartbeats 4000000 in
set_option maxRecDepth 100000 in
/-- L_scale -/
theorem m_L_scale (l : Launch) (D : va_G) (k : Nat → ClassId) (hfl : l.stackTraces = false) {ad r : Nat → Nat} {n : Nat} {R : Nat → Nat → Int32} {T U tx : Nat → Int32} {sz : Int32} {oa : Nat} {g : Nat → Int64} {Y : va_W} (hn : n ≤ 16) {rc x : Int32} : CtI l D k yL_scale (wH yL_scale cL_scale 5 (some .int) [(0, 10, 13, 19)]) (rmL 3 1 6) [.ref (ad 0), .int rc, .int x, .ref oa] (KW k ad r (nI n) R T U tx sz ((oa, aL k 1 g) :: Y)) (fun v9 w' => v9 = (e1 n rc) ∧ ∃ (T' U' tx' : Nat → Int32) (sz' : Int32) (g' : Nat → Int64), w' = (KW k ad r (sel (e1 n rc) (nI n) (nI n)) (sel (e1 n rc) (upR R (ix rc) (scF (R (ix rc)) x)) R) T' U' tx' sz' ((oa, aL k 1 g') :: Y)) ∧ ((e1 n rc) = 0 → g' 0 = (dI (dg (scF (R (ix rc)) x))).toInt64)) := by
  refine openW (own := RL) rfl (by decide) (Nat.le_of_ble_eq_true rfl) rfl ?_
  intro p e s m args below meth c A C hrt9 hnm hT
  obtain ⟨Q, hQ⟩ : ∃ Q, Q = (vx_MQ below (va_Qi (fun v9 w' => v9 = (e1 n rc) ∧ ∃ (T' U' tx' : Nat → Int32) (sz' : Int32) (g' : Nat → Int64), w' = (KW k ad r (sel (e1 n rc) (nI n) (nI n)) (sel (e1 n rc) (upR R (ix rc) (scF (R (ix rc)) x)) R) T' U' tx' sz' ((oa, aL k 1 g') :: Y)) ∧ ((e1 n rc) = 0 → g' 0 = (dI (dg (scF (R (ix rc)) x))).toInt64)) (cBA D A) A) (fun _ _ _ => False) args s 1 6 A) := ⟨_, rfl⟩
  show WP p l e (rmL 3 1 6) s m args below meth c D A 5 (KW k ad r (nI n) R T U tx sz ((oa, aL k 1 g) :: Y)) [(0, .ref (ad 0)), (1, .int rc), (2, .int x), (3, .ref oa)] 0 0 (vx_MQ below (va_Qi (fun v9 w' => v9 = (e1 n rc) ∧ ∃ (T' U' tx' : Nat → Int32) (sz' : Int32) (g' : Nat → Int64), w' = (KW k ad r (sel (e1 n rc) (nI n) (nI n)) (sel (e1 n rc) (upR R (ix rc) (scF (R (ix rc)) x)) R) T' U' tx' sz' ((oa, aL k 1 g') :: Y)) ∧ ((e1 n rc) = 0 → g' 0 = (dI (dg (scF (R (ix rc)) x))).toInt64)) (cBA D A) A) (fun _ _ _ => False) args s 1 6 A) 0 []
  rw [← hQ]
  refine p_aload_n C rfl 3 rfl dL_scale_0 ?_
  refine p_iconst (v := 0) C (by decide) dL_scale_1 ?_
  refine p_aload_n C rfl 0 rfl dL_scale_2 ?_
  refine p_iload_n C rfl 1 rfl dL_scale_3 ?_
  refine p_iload_n C rfl 2 rfl dL_scale_4 ?_
  have hx1 : ∀ (q9 : Nat) (T9 U9 tx9 : Nat → Int32) (sz9 : Int32), e1 n rc = 1 → WP p l e (rmL 3 1 6) s m args below meth c D A 5 (KW k ad r (nI n) R T9 U9 tx9 sz9 ((oa, aL k 1 g) :: Y)) [(0, .ref (ad 0)), (1, .int rc), (2, .int x), (3, .ref oa)] 1 6 Q 13 [.ref q9] := by
    intro q9 T9 U9 tx9 sz9 he
    refine p_astore (lv9 := [(4, .ref q9), (0, .ref (ad 0)), (1, .int rc), (2, .int x), (3, .ref oa)]) C (by decide) rfl dL_scale_13 ?_
    refine p_iconst (v := 1) C (by decide) dL_scale_15 ?_
    rw [hQ]
    exact rw_i C hrt9 (⟨he.symm, _, _, _, _, _, by rw [he, sel_1, sel_1], fun z9 => absurd (he.symm.trans z9) (by decide)⟩) (by decide) (by decide) dL_scale_16
  have hpx : ∀ (E9 : String) (w9 : va_W), (¬ e1 n rc = 0 ∧ E9 = exn (e1 n rc) ∧ ∃ (T9 U9 tx9 : Nat → Int32) (sz9 : Int32), w9 = (KW k ad r (nI n) R T9 U9 tx9 sz9 ((oa, aL k 1 g) :: Y))) → VX p l e (rmL 3 1 6) s m args below meth c D A 5 w9 [(0, .ref (ad 0)), (1, .int rc), (2, .int x), (3, .ref oa)] 1 6 Q 5 [.int 0, .ref oa] E9 := by
    intro E9 w9 h9
    obtain ⟨hne, rfl, T9, U9, tx9, sz9, rfl⟩ := h9
    rcases cd_e1 n rc with he | he
    · exact absurd he hne
    · rw [he, exn_1]
      exact x_catch C (name := "java/lang/IndexOutOfBoundsException") (tableOf []) ⟨0, 10, 13, 19⟩ (tableOf []) hT (fun z9 hz9 => absurd hz9 List.not_mem_nil) (by decide) (by decide) qcl_L_19 (by decide) rfl (fun q9 => hx1 q9 T9 U9 tx9 sz9 he)
  refine cx_Vi (As := [.int rc, .int x]) (rest := [.int 0, .ref oa]) C (m_X2_scale l D k hfl (hn := hn) (rc := rc) (x := x)) 0 rfl rfl rfl qml_L_27 qim_X2_scale qse_X2_X2_scale qin_X2 qco_X2_scale nd_X2_scale ⟨Nat.le_of_ble_eq_true rfl, Nat.le_of_ble_eq_true rfl⟩ (Nat.le_of_ble_eq_true rfl) ⟨Nat.le_of_ble_eq_true rfl, Nat.le_of_ble_eq_true rfl⟩ rfl dL_scale_5 (fun E9 w9 h9 => hpx E9 w9 h9) (fun r9 w9 h9 => ?_)
  obtain ⟨he0, e9, T9, U9, tx9, sz9, rfl⟩ := h9
  refine p_int e9 ?_
  refine p_i2l C dL_scale_8 ?_
  refine p_last (w9 := (KW k ad r (nI n) (upR R (ix rc) (scF (R (ix rc)) x)) T9 U9 tx9 sz9 ((oa, aL k 1 (vp_updL g 0 ((dI (dg (scF (R (ix rc)) x))).toInt64))) :: Y))) C 22 KW_y (vp_in_nI (n := 0) (N := 1) (by omega) (by omega)) KW_ys dL_scale_9 ?_
  refine p_goto C 17 (by decide) dL_scale_10 ?_
  refine p_iconst (v := 0) C (by decide) dL_scale_17 ?_
  rw [hQ]
  exact rw_i C hrt9 (⟨he0.symm, _, _, _, _, _, by rw [he0, sel_0, sel_0], fun _ => updL_0⟩) (by decide) (by decide) dL_scale_18
set_option maxHeartbeats 4000000 in
set_option maxRecDepth 100000 in
/-- L_shift -/
theorem m_L_shift (l : Launch) (D : va_G) (k : Nat → ClassId) (hfl : l.stackTraces = false) {ad r : Nat → Nat} {n : Nat} {R : Nat → Nat → Int32} {T U tx : Nat → Int32} {sz : Int32} {oa : Nat} {g : Nat → Int64} {Y : va_W} (hn : n ≤ 16) {rc x : Int32} : CtI l D k yL_shift (wH yL_shift cL_shift 5 (some .int) [(0, 10, 13, 19), (0, 10, 17, 21)]) (rmL 3 2 12) [.ref (ad 0), .int rc, .int x, .ref oa] (KW k ad r (nI n) R T U tx sz ((oa, aL k 1 g) :: Y)) (fun v9 w' => v9 = (eShift n rc x) ∧ ∃ (T' U' tx' : Nat → Int32) (sz' : Int32) (g' : Nat → Int64), w' = (KW k ad r (sel (eShift n rc x) (nI n) (nI n)) (sel (eShift n rc x) (upR R (ix rc) (mv (R (ix rc)) x)) R) T' U' tx' sz' ((oa, aL k 1 g') :: Y)) ∧ ((eShift n rc x) = 0 → g' 0 = (mv (R (ix rc)) x 0).toInt64)) := by
  refine openW (own := RL) rfl (by decide) (Nat.le_of_ble_eq_true rfl) rfl ?_
  intro p e s m args below meth c A C hrt9 hnm hT
  obtain ⟨Q, hQ⟩ : ∃ Q, Q = (vx_MQ below (va_Qi (fun v9 w' => v9 = (eShift n rc x) ∧ ∃ (T' U' tx' : Nat → Int32) (sz' : Int32) (g' : Nat → Int64), w' = (KW k ad r (sel (eShift n rc x) (nI n) (nI n)) (sel (eShift n rc x) (upR R (ix rc) (mv (R (ix rc)) x)) R) T' U' tx' sz' ((oa, aL k 1 g') :: Y)) ∧ ((eShift n rc x) = 0 → g' 0 = (mv (R (ix rc)) x 0).toInt64)) (cBA D A) A) (fun _ _ _ => False) args s 2 12 A) := ⟨_, rfl⟩
  show WP p l e (rmL 3 2 12) s m args below meth c D A 5 (KW k ad r (nI n) R T U tx sz ((oa, aL k 1 g) :: Y)) [(0, .ref (ad 0)), (1, .int rc), (2, .int x), (3, .ref oa)] 0 0 (vx_MQ below (va_Qi (fun v9 w' => v9 = (eShift n rc x) ∧ ∃ (T' U' tx' : Nat → Int32) (sz' : Int32) (g' : Nat → Int64), w' = (KW k ad r (sel (eShift n rc x) (nI n) (nI n)) (sel (eShift n rc x) (upR R (ix rc) (mv (R (ix rc)) x)) R) T' U' tx' sz' ((oa, aL k 1 g') :: Y)) ∧ ((eShift n rc x) = 0 → g' 0 = (mv (R (ix rc)) x 0).toInt64)) (cBA D A) A) (fun _ _ _ => False) args s 2 12 A) 0 []
  rw [← hQ]
  refine p_aload_n C rfl 3 rfl dL_shift_0 ?_
  refine p_iconst (v := 0) C (by decide) dL_shift_1 ?_
  refine p_aload_n C rfl 0 rfl dL_shift_2 ?_
  refine p_iload_n C rfl 1 rfl dL_shift_3 ?_
  refine p_iload_n C rfl 2 rfl dL_shift_4 ?_
  have hx1 : ∀ (q9 : Nat) (T9 U9 tx9 : Nat → Int32) (sz9 : Int32), eShift n rc x = 1 → WP p l e (rmL 3 2 12) s m args below meth c D A 5 (KW k ad r (nI n) R T9 U9 tx9 sz9 ((oa, aL k 1 g) :: Y)) [(0, .ref (ad 0)), (1, .int rc), (2, .int x), (3, .ref oa)] 2 12 Q 13 [.ref q9] := by
    intro q9 T9 U9 tx9 sz9 he
    refine p_astore (lv9 := [(4, .ref q9), (0, .ref (ad 0)), (1, .int rc), (2, .int x), (3, .ref oa)]) C (by decide) rfl dL_shift_13 ?_
    refine p_iconst (v := 1) C (by decide) dL_shift_15 ?_
    rw [hQ]
    exact rw_i C hrt9 (⟨he.symm, _, _, _, _, _, by rw [he, sel_1, sel_1], fun z9 => absurd (he.symm.trans z9) (by decide)⟩) (by decide) (by decide) dL_shift_16
  have hx2 : ∀ (q9 : Nat) (T9 U9 tx9 : Nat → Int32) (sz9 : Int32), eShift n rc x = 2 → WP p l e (rmL 3 2 12) s m args below meth c D A 5 (KW k ad r (nI n) R T9 U9 tx9 sz9 ((oa, aL k 1 g) :: Y)) [(0, .ref (ad 0)), (1, .int rc), (2, .int x), (3, .ref oa)] 2 12 Q 17 [.ref q9] := by
    intro q9 T9 U9 tx9 sz9 he
    refine p_astore (lv9 := [(4, .ref q9), (0, .ref (ad 0)), (1, .int rc), (2, .int x), (3, .ref oa)]) C (by decide) rfl dL_shift_17 ?_
    refine p_iconst (v := 2) C (by decide) dL_shift_19 ?_
    rw [hQ]
    exact rw_i C hrt9 (⟨he.symm, _, _, _, _, _, by rw [he, sel_2, sel_2], fun z9 => absurd (he.symm.trans z9) (by decide)⟩) (by decide) (by decide) dL_shift_20
  have hpx : ∀ (E9 : String) (w9 : va_W), (¬ eShift n rc x = 0 ∧ E9 = exn (eShift n rc x) ∧ ∃ (T9 U9 tx9 : Nat → Int32) (sz9 : Int32), w9 = (KW k ad r (nI n) R T9 U9 tx9 sz9 ((oa, aL k 1 g) :: Y))) → VX p l e (rmL 3 2 12) s m args below meth c D A 5 w9 [(0, .ref (ad 0)), (1, .int rc), (2, .int x), (3, .ref oa)] 2 12 Q 5 [.int 0, .ref oa] E9 := by
    intro E9 w9 h9
    obtain ⟨hne, rfl, T9, U9, tx9, sz9, rfl⟩ := h9
    rcases cd_eShift n rc x with he | he | he
    · exact absurd he hne
    · rw [he, exn_1]
      exact x_catch C (name := "java/lang/IndexOutOfBoundsException") (tableOf []) ⟨0, 10, 13, 19⟩ (tableOf [(0, 10, 17, 21)]) hT (fun z9 hz9 => absurd hz9 List.not_mem_nil) (by decide) (by decide) qcl_L_19 (by decide) rfl (fun q9 => hx1 q9 T9 U9 tx9 sz9 he)
    · rw [he, exn_2]
      exact x_catch C (name := "java/lang/IllegalArgumentException") (tableOf [(0, 10, 13, 19)]) ⟨0, 10, 17, 21⟩ (tableOf []) hT (List.forall_mem_cons.mpr ⟨Or.inr ⟨by decide, _, qcl_L_19, by decide⟩, fun z9 hz9 => absurd hz9 List.not_mem_nil⟩) (by decide) (by decide) qcl_L_21 (by decide) rfl (fun q9 => hx2 q9 T9 U9 tx9 sz9 he)
  refine cx_Vi (As := [.int rc, .int x]) (rest := [.int 0, .ref oa]) C (m_X2_shift l D k hfl (hn := hn) (rc := rc) (x := x)) 0 rfl rfl rfl qml_L_31 qim_X2_shift qse_X2_X2_shift qin_X2 qco_X2_shift nd_X2_shift ⟨Nat.le_of_ble_eq_true rfl, Nat.le_of_ble_eq_true rfl⟩ (Nat.le_of_ble_eq_true rfl) ⟨Nat.le_of_ble_eq_true rfl, Nat.le_of_ble_eq_true rfl⟩ rfl dL_shift_5 (fun E9 w9 h9 => hpx E9 w9 h9) (fun r9 w9 h9 => ?_)
  obtain ⟨he0, e9, T9, U9, tx9, sz9, rfl⟩ := h9
  refine p_int e9 ?_
  refine p_i2l C dL_shift_8 ?_
  refine p_last (w9 := (KW k ad r (nI n) (upR R (ix rc) (mv (R (ix rc)) x)) T9 U9 tx9 sz9 ((oa, aL k 1 (vp_updL g 0 ((mv (R (ix rc)) x 0).toInt64))) :: Y))) C 22 KW_y (vp_in_nI (n := 0) (N := 1) (by omega) (by omega)) KW_ys dL_shift_9 ?_
  refine p_goto C 21 (by decide) dL_shift_10 ?_
  refine p_iconst (v := 0) C (by decide) dL_shift_21 ?_
  rw [hQ]
  exact rw_i C hrt9 (⟨he0.symm, _, _, _, _, _, by rw [he0, sel_0, sel_0], fun _ => updL_0⟩) (by decide) (by decide) dL_shift_22
set_option maxHeartbeats 4000000 in
set_option maxRecDepth 100000 in
/-- L_sum -/
theorem m_L_sum (l : Launch) (D : va_G) (k : Nat → ClassId) (hfl : l.stackTraces = false) {ad r : Nat → Nat} {n : Nat} {R : Nat → Nat → Int32} {T U tx : Nat → Int32} {sz : Int32} {oa : Nat} {g : Nat → Int64} {Y : va_W} (hn : n ≤ 16) {ra rb : Int32} : CtI l D k yL_sum (wH yL_sum cL_sum 5 (some .int) [(0, 10, 13, 19), (0, 10, 17, 13)]) (rmL 3 3 18) [.ref (ad 0), .int ra, .int rb, .ref oa] (KW k ad r (nI n) R T U tx sz ((oa, aL k 1 g) :: Y)) (fun v9 w' => v9 = (eJoin n ra rb) ∧ ∃ (T' U' tx' : Nat → Int32) (sz' : Int32) (g' : Nat → Int64), w' = (KW k ad r (sel (eJoin n ra rb) (nI (n + 1)) (nI n)) (sel (eJoin n ra rb) (upR R n (suF (R (ix ra)) (R (ix rb)))) R) T' U' tx' sz' ((oa, aL k 1 g') :: Y)) ∧ ((eJoin n ra rb) = 0 → g' 0 = (nI n).toInt64)) := by
  refine openW (own := RL) rfl (by decide) (Nat.le_of_ble_eq_true rfl) rfl ?_
  intro p e s m args below meth c A C hrt9 hnm hT
  obtain ⟨Q, hQ⟩ : ∃ Q, Q = (vx_MQ below (va_Qi (fun v9 w' => v9 = (eJoin n ra rb) ∧ ∃ (T' U' tx' : Nat → Int32) (sz' : Int32) (g' : Nat → Int64), w' = (KW k ad r (sel (eJoin n ra rb) (nI (n + 1)) (nI n)) (sel (eJoin n ra rb) (upR R n (suF (R (ix ra)) (R (ix rb)))) R) T' U' tx' sz' ((oa, aL k 1 g') :: Y)) ∧ ((eJoin n ra rb) = 0 → g' 0 = (nI n).toInt64)) (cBA D A) A) (fun _ _ _ => False) args s 3 18 A) := ⟨_, rfl⟩
  show WP p l e (rmL 3 3 18) s m args below meth c D A 5 (KW k ad r (nI n) R T U tx sz ((oa, aL k 1 g) :: Y)) [(0, .ref (ad 0)), (1, .int ra), (2, .int rb), (3, .ref oa)] 0 0 (vx_MQ below (va_Qi (fun v9 w' => v9 = (eJoin n ra rb) ∧ ∃ (T' U' tx' : Nat → Int32) (sz' : Int32) (g' : Nat → Int64), w' = (KW k ad r (sel (eJoin n ra rb) (nI (n + 1)) (nI n)) (sel (eJoin n ra rb) (upR R n (suF (R (ix ra)) (R (ix rb)))) R) T' U' tx' sz' ((oa, aL k 1 g') :: Y)) ∧ ((eJoin n ra rb) = 0 → g' 0 = (nI n).toInt64)) (cBA D A) A) (fun _ _ _ => False) args s 3 18 A) 0 []
  rw [← hQ]
  refine p_aload_n C rfl 3 rfl dL_sum_0 ?_
  refine p_iconst (v := 0) C (by decide) dL_sum_1 ?_
  refine p_aload_n C rfl 0 rfl dL_sum_2 ?_
  refine p_iload_n C rfl 1 rfl dL_sum_3 ?_
  refine p_iload_n C rfl 2 rfl dL_sum_4 ?_
  have hx1 : ∀ (q9 : Nat) (T9 U9 tx9 : Nat → Int32) (sz9 : Int32), eJoin n ra rb = 1 → WP p l e (rmL 3 3 18) s m args below meth c D A 5 (KW k ad r (nI n) R T9 U9 tx9 sz9 ((oa, aL k 1 g) :: Y)) [(0, .ref (ad 0)), (1, .int ra), (2, .int rb), (3, .ref oa)] 3 18 Q 13 [.ref q9] := by
    intro q9 T9 U9 tx9 sz9 he
    refine p_astore (lv9 := [(4, .ref q9), (0, .ref (ad 0)), (1, .int ra), (2, .int rb), (3, .ref oa)]) C (by decide) rfl dL_sum_13 ?_
    refine p_iconst (v := 1) C (by decide) dL_sum_15 ?_
    rw [hQ]
    exact rw_i C hrt9 (⟨he.symm, _, _, _, _, _, by rw [he, sel_1, sel_1], fun z9 => absurd (he.symm.trans z9) (by decide)⟩) (by decide) (by decide) dL_sum_16
  have hx2 : ∀ (q9 : Nat) (T9 U9 tx9 : Nat → Int32) (sz9 : Int32), eJoin n ra rb = 2 → WP p l e (rmL 3 3 18) s m args below meth c D A 5 (KW k ad r (nI n) R T9 U9 tx9 sz9 ((oa, aL k 1 g) :: Y)) [(0, .ref (ad 0)), (1, .int ra), (2, .int rb), (3, .ref oa)] 3 18 Q 17 [.ref q9] := by
    intro q9 T9 U9 tx9 sz9 he
    refine p_astore (lv9 := [(4, .ref q9), (0, .ref (ad 0)), (1, .int ra), (2, .int rb), (3, .ref oa)]) C (by decide) rfl dL_sum_17 ?_
    refine p_iconst (v := 2) C (by decide) dL_sum_19 ?_
    rw [hQ]
    exact rw_i C hrt9 (⟨he.symm, _, _, _, _, _, by rw [he, sel_2, sel_2], fun z9 => absurd (he.symm.trans z9) (by decide)⟩) (by decide) (by decide) dL_sum_20
  have hpx : ∀ (E9 : String) (w9 : va_W), (¬ eJoin n ra rb = 0 ∧ E9 = exnJ (eJoin n ra rb) ∧ ∃ (T9 U9 tx9 : Nat → Int32) (sz9 : Int32), w9 = (KW k ad r (nI n) R T9 U9 tx9 sz9 ((oa, aL k 1 g) :: Y))) → VX p l e (rmL 3 3 18) s m args below meth c D A 5 w9 [(0, .ref (ad 0)), (1, .int ra), (2, .int rb), (3, .ref oa)] 3 18 Q 5 [.int 0, .ref oa] E9 := by
    intro E9 w9 h9
    obtain ⟨hne, rfl, T9, U9, tx9, sz9, rfl⟩ := h9
    rcases cd_eJoin n ra rb with he | he | he
    · exact absurd he hne
    · rw [he, exnJ_1]
      exact x_catch C (name := "java/lang/IndexOutOfBoundsException") (tableOf []) ⟨0, 10, 13, 19⟩ (tableOf [(0, 10, 17, 13)]) hT (fun z9 hz9 => absurd hz9 List.not_mem_nil) (by decide) (by decide) qcl_L_19 (by decide) rfl (fun q9 => hx1 q9 T9 U9 tx9 sz9 he)
    · rw [he, exnJ_2]
      exact x_catch C (name := "java/lang/IllegalStateException") (tableOf [(0, 10, 13, 19)]) ⟨0, 10, 17, 13⟩ (tableOf []) hT (List.forall_mem_cons.mpr ⟨Or.inr ⟨by decide, _, qcl_L_19, by decide⟩, fun z9 hz9 => absurd hz9 List.not_mem_nil⟩) (by decide) (by decide) qcl_L_13 (by decide) rfl (fun q9 => hx2 q9 T9 U9 tx9 sz9 he)
  refine cx_Vi (As := [.int ra, .int rb]) (rest := [.int 0, .ref oa]) C (m_X2_sum l D k hfl (hn := hn) (ra := ra) (rb := rb)) 0 rfl rfl rfl qml_L_34 qim_X2_sum qse_X2_X2_sum qin_X2 qco_X2_sum nd_X2_sum ⟨Nat.le_of_ble_eq_true rfl, Nat.le_of_ble_eq_true rfl⟩ (Nat.le_of_ble_eq_true rfl) ⟨Nat.le_of_ble_eq_true rfl, Nat.le_of_ble_eq_true rfl⟩ rfl dL_sum_5 (fun E9 w9 h9 => hpx E9 w9 h9) (fun r9 w9 h9 => ?_)
  obtain ⟨he0, e9, T9, U9, tx9, sz9, rfl⟩ := h9
  refine p_int e9 ?_
  refine p_i2l C dL_sum_8 ?_
  refine p_last (w9 := (KW k ad r (nI (n + 1)) (upR R n (suF (R (ix ra)) (R (ix rb)))) T9 U9 tx9 sz9 ((oa, aL k 1 (vp_updL g 0 ((nI n).toInt64))) :: Y))) C 22 KW_y (vp_in_nI (n := 0) (N := 1) (by omega) (by omega)) KW_ys dL_sum_9 ?_
  refine p_goto C 21 (by decide) dL_sum_10 ?_
  refine p_iconst (v := 0) C (by decide) dL_sum_21 ?_
  rw [hQ]
  exact rw_i C hrt9 (⟨he0.symm, _, _, _, _, _, by rw [he0, sel_0, sel_0], fun _ => updL_0⟩) (by decide) (by decide) dL_sum_22
set_option maxHeartbeats 4000000 in
set_option maxRecDepth 100000 in
/-- L_difference -/
theorem m_L_difference (l : Launch) (D : va_G) (k : Nat → ClassId) (hfl : l.stackTraces = false) {ad r : Nat → Nat} {n : Nat} {R : Nat → Nat → Int32} {T U tx : Nat → Int32} {sz : Int32} {oa : Nat} {g : Nat → Int64} {Y : va_W} (hn : n ≤ 16) {ra rb : Int32} : CtI l D k yL_difference (wH yL_difference cL_difference 5 (some .int) [(0, 10, 13, 19), (0, 10, 17, 13)]) (rmL 3 3 18) [.ref (ad 0), .int ra, .int rb, .ref oa] (KW k ad r (nI n) R T U tx sz ((oa, aL k 1 g) :: Y)) (fun v9 w' => v9 = (eJoin n ra rb) ∧ ∃ (T' U' tx' : Nat → Int32) (sz' : Int32) (g' : Nat → Int64), w' = (KW k ad r (sel (eJoin n ra rb) (nI (n + 1)) (nI n)) (sel (eJoin n ra rb) (upR R n (diF (R (ix ra)) (R (ix rb)))) R) T' U' tx' sz' ((oa, aL k 1 g') :: Y)) ∧ ((eJoin n ra rb) = 0 → g' 0 = (nI n).toInt64)) := by
  refine openW (own := RL) rfl (by decide) (Nat.le_of_ble_eq_true rfl) rfl ?_
  intro p e s m args below meth c A C hrt9 hnm hT
  obtain ⟨Q, hQ⟩ : ∃ Q, Q = (vx_MQ below (va_Qi (fun v9 w' => v9 = (eJoin n ra rb) ∧ ∃ (T' U' tx' : Nat → Int32) (sz' : Int32) (g' : Nat → Int64), w' = (KW k ad r (sel (eJoin n ra rb) (nI (n + 1)) (nI n)) (sel (eJoin n ra rb) (upR R n (diF (R (ix ra)) (R (ix rb)))) R) T' U' tx' sz' ((oa, aL k 1 g') :: Y)) ∧ ((eJoin n ra rb) = 0 → g' 0 = (nI n).toInt64)) (cBA D A) A) (fun _ _ _ => False) args s 3 18 A) := ⟨_, rfl⟩
  show WP p l e (rmL 3 3 18) s m args below meth c D A 5 (KW k ad r (nI n) R T U tx sz ((oa, aL k 1 g) :: Y)) [(0, .ref (ad 0)), (1, .int ra), (2, .int rb), (3, .ref oa)] 0 0 (vx_MQ below (va_Qi (fun v9 w' => v9 = (eJoin n ra rb) ∧ ∃ (T' U' tx' : Nat → Int32) (sz' : Int32) (g' : Nat → Int64), w' = (KW k ad r (sel (eJoin n ra rb) (nI (n + 1)) (nI n)) (sel (eJoin n ra rb) (upR R n (diF (R (ix ra)) (R (ix rb)))) R) T' U' tx' sz' ((oa, aL k 1 g') :: Y)) ∧ ((eJoin n ra rb) = 0 → g' 0 = (nI n).toInt64)) (cBA D A) A) (fun _ _ _ => False) args s 3 18 A) 0 []
  rw [← hQ]
  refine p_aload_n C rfl 3 rfl dL_difference_0 ?_
  refine p_iconst (v := 0) C (by decide) dL_difference_1 ?_
  refine p_aload_n C rfl 0 rfl dL_difference_2 ?_
  refine p_iload_n C rfl 1 rfl dL_difference_3 ?_
  refine p_iload_n C rfl 2 rfl dL_difference_4 ?_
  have hx1 : ∀ (q9 : Nat) (T9 U9 tx9 : Nat → Int32) (sz9 : Int32), eJoin n ra rb = 1 → WP p l e (rmL 3 3 18) s m args below meth c D A 5 (KW k ad r (nI n) R T9 U9 tx9 sz9 ((oa, aL k 1 g) :: Y)) [(0, .ref (ad 0)), (1, .int ra), (2, .int rb), (3, .ref oa)] 3 18 Q 13 [.ref q9] := by
    intro q9 T9 U9 tx9 sz9 he
    refine p_astore (lv9 := [(4, .ref q9), (0, .ref (ad 0)), (1, .int ra), (2, .int rb), (3, .ref oa)]) C (by decide) rfl dL_difference_13 ?_
    refine p_iconst (v := 1) C (by decide) dL_difference_15 ?_
    rw [hQ]
    exact rw_i C hrt9 (⟨he.symm, _, _, _, _, _, by rw [he, sel_1, sel_1], fun z9 => absurd (he.symm.trans z9) (by decide)⟩) (by decide) (by decide) dL_difference_16
  have hx2 : ∀ (q9 : Nat) (T9 U9 tx9 : Nat → Int32) (sz9 : Int32), eJoin n ra rb = 2 → WP p l e (rmL 3 3 18) s m args below meth c D A 5 (KW k ad r (nI n) R T9 U9 tx9 sz9 ((oa, aL k 1 g) :: Y)) [(0, .ref (ad 0)), (1, .int ra), (2, .int rb), (3, .ref oa)] 3 18 Q 17 [.ref q9] := by
    intro q9 T9 U9 tx9 sz9 he
    refine p_astore (lv9 := [(4, .ref q9), (0, .ref (ad 0)), (1, .int ra), (2, .int rb), (3, .ref oa)]) C (by decide) rfl dL_difference_17 ?_
    refine p_iconst (v := 2) C (by decide) dL_difference_19 ?_
    rw [hQ]
    exact rw_i C hrt9 (⟨he.symm, _, _, _, _, _, by rw [he, sel_2, sel_2], fun z9 => absurd (he.symm.trans z9) (by decide)⟩) (by decide) (by decide) dL_difference_20
  have hpx : ∀ (E9 : String) (w9 : va_W), (¬ eJoin n ra rb = 0 ∧ E9 = exnJ (eJoin n ra rb) ∧ ∃ (T9 U9 tx9 : Nat → Int32) (sz9 : Int32), w9 = (KW k ad r (nI n) R T9 U9 tx9 sz9 ((oa, aL k 1 g) :: Y))) → VX p l e (rmL 3 3 18) s m args below meth c D A 5 w9 [(0, .ref (ad 0)), (1, .int ra), (2, .int rb), (3, .ref oa)] 3 18 Q 5 [.int 0, .ref oa] E9 := by
    intro E9 w9 h9
    obtain ⟨hne, rfl, T9, U9, tx9, sz9, rfl⟩ := h9
    rcases cd_eJoin n ra rb with he | he | he
    · exact absurd he hne
    · rw [he, exnJ_1]
      exact x_catch C (name := "java/lang/IndexOutOfBoundsException") (tableOf []) ⟨0, 10, 13, 19⟩ (tableOf [(0, 10, 17, 13)]) hT (fun z9 hz9 => absurd hz9 List.not_mem_nil) (by decide) (by decide) qcl_L_19 (by decide) rfl (fun q9 => hx1 q9 T9 U9 tx9 sz9 he)
    · rw [he, exnJ_2]
      exact x_catch C (name := "java/lang/IllegalStateException") (tableOf [(0, 10, 13, 19)]) ⟨0, 10, 17, 13⟩ (tableOf []) hT (List.forall_mem_cons.mpr ⟨Or.inr ⟨by decide, _, qcl_L_19, by decide⟩, fun z9 hz9 => absurd hz9 List.not_mem_nil⟩) (by decide) (by decide) qcl_L_13 (by decide) rfl (fun q9 => hx2 q9 T9 U9 tx9 sz9 he)
  refine cx_Vi (As := [.int ra, .int rb]) (rest := [.int 0, .ref oa]) C (m_X2_difference l D k hfl (hn := hn) (ra := ra) (rb := rb)) 0 rfl rfl rfl qml_L_37 qim_X2_difference qse_X2_X2_difference qin_X2 qco_X2_difference nd_X2_difference ⟨Nat.le_of_ble_eq_true rfl, Nat.le_of_ble_eq_true rfl⟩ (Nat.le_of_ble_eq_true rfl) ⟨Nat.le_of_ble_eq_true rfl, Nat.le_of_ble_eq_true rfl⟩ rfl dL_difference_5 (fun E9 w9 h9 => hpx E9 w9 h9) (fun r9 w9 h9 => ?_)
  obtain ⟨he0, e9, T9, U9, tx9, sz9, rfl⟩ := h9
  refine p_int e9 ?_
  refine p_i2l C dL_difference_8 ?_
  refine p_last (w9 := (KW k ad r (nI (n + 1)) (upR R n (diF (R (ix ra)) (R (ix rb)))) T9 U9 tx9 sz9 ((oa, aL k 1 (vp_updL g 0 ((nI n).toInt64))) :: Y))) C 22 KW_y (vp_in_nI (n := 0) (N := 1) (by omega) (by omega)) KW_ys dL_difference_9 ?_
  refine p_goto C 21 (by decide) dL_difference_10 ?_
  refine p_iconst (v := 0) C (by decide) dL_difference_21 ?_
  rw [hQ]
  exact rw_i C hrt9 (⟨he0.symm, _, _, _, _, _, by rw [he0, sel_0, sel_0], fun _ => updL_0⟩) (by decide) (by decide) dL_difference_22
set_option maxHeartbeats 4000000 in
set_option maxRecDepth 100000 in
/-- L_product -/
theorem m_L_product (l : Launch) (D : va_G) (k : Nat → ClassId) (hfl : l.stackTraces = false) {ad r : Nat → Nat} {n : Nat} {R : Nat → Nat → Int32} {T U tx : Nat → Int32} {sz : Int32} {oa : Nat} {g : Nat → Int64} {Y : va_W} (hn : n ≤ 16) {ra rb : Int32} : CtI l D k yL_product (wH yL_product cL_product 5 (some .int) [(0, 10, 13, 19), (0, 10, 17, 21), (0, 10, 21, 13)]) (rmL 3 4 24) [.ref (ad 0), .int ra, .int rb, .ref oa] (KW k ad r (nI n) R T U tx sz ((oa, aL k 1 g) :: Y)) (fun v9 w' => v9 = (eProd n R ra rb) ∧ ∃ (T' U' tx' : Nat → Int32) (sz' : Int32) (g' : Nat → Int64), w' = (KW k ad r (sel (eProd n R ra rb) (nI (n + 1)) (nI n)) (sel (eProd n R ra rb) (upR R n (n9 (cv (R (ix ra)) (R (ix rb))))) R) T' U' tx' sz' ((oa, aL k 1 g') :: Y)) ∧ ((eProd n R ra rb) = 0 → g' 0 = (nI n).toInt64)) := by
  refine openW (own := RL) rfl (by decide) (Nat.le_of_ble_eq_true rfl) rfl ?_
  intro p e s m args below meth c A C hrt9 hnm hT
  obtain ⟨Q, hQ⟩ : ∃ Q, Q = (vx_MQ below (va_Qi (fun v9 w' => v9 = (eProd n R ra rb) ∧ ∃ (T' U' tx' : Nat → Int32) (sz' : Int32) (g' : Nat → Int64), w' = (KW k ad r (sel (eProd n R ra rb) (nI (n + 1)) (nI n)) (sel (eProd n R ra rb) (upR R n (n9 (cv (R (ix ra)) (R (ix rb))))) R) T' U' tx' sz' ((oa, aL k 1 g') :: Y)) ∧ ((eProd n R ra rb) = 0 → g' 0 = (nI n).toInt64)) (cBA D A) A) (fun _ _ _ => False) args s 4 24 A) := ⟨_, rfl⟩
  show WP p l e (rmL 3 4 24) s m args below meth c D A 5 (KW k ad r (nI n) R T U tx sz ((oa, aL k 1 g) :: Y)) [(0, .ref (ad 0)), (1, .int ra), (2, .int rb), (3, .ref oa)] 0 0 (vx_MQ below (va_Qi (fun v9 w' => v9 = (eProd n R ra rb) ∧ ∃ (T' U' tx' : Nat → Int32) (sz' : Int32) (g' : Nat → Int64), w' = (KW k ad r (sel (eProd n R ra rb) (nI (n + 1)) (nI n)) (sel (eProd n R ra rb) (upR R n (n9 (cv (R (ix ra)) (R (ix rb))))) R) T' U' tx' sz' ((oa, aL k 1 g') :: Y)) ∧ ((eProd n R ra rb) = 0 → g' 0 = (nI n).toInt64)) (cBA D A) A) (fun _ _ _ => False) args s 4 24 A) 0 []
  rw [← hQ]
  refine p_aload_n C rfl 3 rfl dL_product_0 ?_
  refine p_iconst (v := 0) C (by decide) dL_product_1 ?_
  refine p_aload_n C rfl 0 rfl dL_product_2 ?_
  refine p_iload_n C rfl 1 rfl dL_product_3 ?_
  refine p_iload_n C rfl 2 rfl dL_product_4 ?_
  have hx1 : ∀ (q9 : Nat) (T9 U9 tx9 : Nat → Int32) (sz9 : Int32), eProd n R ra rb = 1 → WP p l e (rmL 3 4 24) s m args below meth c D A 5 (KW k ad r (nI n) R T9 U9 tx9 sz9 ((oa, aL k 1 g) :: Y)) [(0, .ref (ad 0)), (1, .int ra), (2, .int rb), (3, .ref oa)] 4 24 Q 13 [.ref q9] := by
    intro q9 T9 U9 tx9 sz9 he
    refine p_astore (lv9 := [(4, .ref q9), (0, .ref (ad 0)), (1, .int ra), (2, .int rb), (3, .ref oa)]) C (by decide) rfl dL_product_13 ?_
    refine p_iconst (v := 1) C (by decide) dL_product_15 ?_
    rw [hQ]
    exact rw_i C hrt9 (⟨he.symm, _, _, _, _, _, by rw [he, sel_1, sel_1], fun z9 => absurd (he.symm.trans z9) (by decide)⟩) (by decide) (by decide) dL_product_16
  have hx2 : ∀ (q9 : Nat) (T9 U9 tx9 : Nat → Int32) (sz9 : Int32), eProd n R ra rb = 2 → WP p l e (rmL 3 4 24) s m args below meth c D A 5 (KW k ad r (nI n) R T9 U9 tx9 sz9 ((oa, aL k 1 g) :: Y)) [(0, .ref (ad 0)), (1, .int ra), (2, .int rb), (3, .ref oa)] 4 24 Q 17 [.ref q9] := by
    intro q9 T9 U9 tx9 sz9 he
    refine p_astore (lv9 := [(4, .ref q9), (0, .ref (ad 0)), (1, .int ra), (2, .int rb), (3, .ref oa)]) C (by decide) rfl dL_product_17 ?_
    refine p_iconst (v := 2) C (by decide) dL_product_19 ?_
    rw [hQ]
    exact rw_i C hrt9 (⟨he.symm, _, _, _, _, _, by rw [he, sel_2, sel_2], fun z9 => absurd (he.symm.trans z9) (by decide)⟩) (by decide) (by decide) dL_product_20
  have hx3 : ∀ (q9 : Nat) (T9 U9 tx9 : Nat → Int32) (sz9 : Int32), eProd n R ra rb = 3 → WP p l e (rmL 3 4 24) s m args below meth c D A 5 (KW k ad r (nI n) R T9 U9 tx9 sz9 ((oa, aL k 1 g) :: Y)) [(0, .ref (ad 0)), (1, .int ra), (2, .int rb), (3, .ref oa)] 4 24 Q 21 [.ref q9] := by
    intro q9 T9 U9 tx9 sz9 he
    refine p_astore (lv9 := [(4, .ref q9), (0, .ref (ad 0)), (1, .int ra), (2, .int rb), (3, .ref oa)]) C (by decide) rfl dL_product_21 ?_
    refine p_iconst (v := 3) C (by decide) dL_product_23 ?_
    rw [hQ]
    exact rw_i C hrt9 (⟨he.symm, _, _, _, _, _, by rw [he, sel_3, sel_3], fun z9 => absurd (he.symm.trans z9) (by decide)⟩) (by decide) (by decide) dL_product_24
  have hpx : ∀ (E9 : String) (w9 : va_W), (¬ eProd n R ra rb = 0 ∧ E9 = exn (eProd n R ra rb) ∧ ∃ (T9 U9 tx9 : Nat → Int32) (sz9 : Int32), w9 = (KW k ad r (nI n) R T9 U9 tx9 sz9 ((oa, aL k 1 g) :: Y))) → VX p l e (rmL 3 4 24) s m args below meth c D A 5 w9 [(0, .ref (ad 0)), (1, .int ra), (2, .int rb), (3, .ref oa)] 4 24 Q 5 [.int 0, .ref oa] E9 := by
    intro E9 w9 h9
    obtain ⟨hne, rfl, T9, U9, tx9, sz9, rfl⟩ := h9
    rcases cd_eProd n R ra rb with he | he | he | he
    · exact absurd he hne
    · rw [he, exn_1]
      exact x_catch C (name := "java/lang/IndexOutOfBoundsException") (tableOf []) ⟨0, 10, 13, 19⟩ (tableOf [(0, 10, 17, 21), (0, 10, 21, 13)]) hT (fun z9 hz9 => absurd hz9 List.not_mem_nil) (by decide) (by decide) qcl_L_19 (by decide) rfl (fun q9 => hx1 q9 T9 U9 tx9 sz9 he)
    · rw [he, exn_2]
      exact x_catch C (name := "java/lang/IllegalArgumentException") (tableOf [(0, 10, 13, 19)]) ⟨0, 10, 17, 21⟩ (tableOf [(0, 10, 21, 13)]) hT (List.forall_mem_cons.mpr ⟨Or.inr ⟨by decide, _, qcl_L_19, by decide⟩, fun z9 hz9 => absurd hz9 List.not_mem_nil⟩) (by decide) (by decide) qcl_L_21 (by decide) rfl (fun q9 => hx2 q9 T9 U9 tx9 sz9 he)
    · rw [he, exn_3]
      exact x_catch C (name := "java/lang/IllegalStateException") (tableOf [(0, 10, 13, 19), (0, 10, 17, 21)]) ⟨0, 10, 21, 13⟩ (tableOf []) hT (List.forall_mem_cons.mpr ⟨Or.inr ⟨by decide, _, qcl_L_19, by decide⟩, List.forall_mem_cons.mpr ⟨Or.inr ⟨by decide, _, qcl_L_21, by decide⟩, fun z9 hz9 => absurd hz9 List.not_mem_nil⟩⟩) (by decide) (by decide) qcl_L_13 (by decide) rfl (fun q9 => hx3 q9 T9 U9 tx9 sz9 he)
  refine cx_Vi (As := [.int ra, .int rb]) (rest := [.int 0, .ref oa]) C (m_X2_product l D k hfl (hn := hn) (ra := ra) (rb := rb)) 0 rfl rfl rfl qml_L_40 qim_X2_product qse_X2_X2_product qin_X2 qco_X2_product nd_X2_product ⟨Nat.le_of_ble_eq_true rfl, Nat.le_of_ble_eq_true rfl⟩ (Nat.le_of_ble_eq_true rfl) ⟨Nat.le_of_ble_eq_true rfl, Nat.le_of_ble_eq_true rfl⟩ rfl dL_product_5 (fun E9 w9 h9 => hpx E9 w9 h9) (fun r9 w9 h9 => ?_)
  obtain ⟨he0, e9, T9, U9, tx9, sz9, rfl⟩ := h9
  refine p_int e9 ?_
  refine p_i2l C dL_product_8 ?_
  refine p_last (w9 := (KW k ad r (nI (n + 1)) (upR R n (n9 (cv (R (ix ra)) (R (ix rb))))) T9 U9 tx9 sz9 ((oa, aL k 1 (vp_updL g 0 ((nI n).toInt64))) :: Y))) C 22 KW_y (vp_in_nI (n := 0) (N := 1) (by omega) (by omega)) KW_ys dL_product_9 ?_
  refine p_goto C 25 (by decide) dL_product_10 ?_
  refine p_iconst (v := 0) C (by decide) dL_product_25 ?_
  rw [hQ]
  exact rw_i C hrt9 (⟨he0.symm, _, _, _, _, _, by rw [he0, sel_0, sel_0], fun _ => updL_0⟩) (by decide) (by decide) dL_product_26
set_option maxHeartbeats 4000000 in
set_option maxRecDepth 100000 in
/-- L_chain -/
theorem m_L_chain (l : Launch) (D : va_G) (k : Nat → ClassId) (hfl : l.stackTraces = false) {ad r : Nat → Nat} {n : Nat} {R : Nat → Nat → Int32} {T U tx : Nat → Int32} {sz : Int32} {oa : Nat} {g : Nat → Int64} {Y : va_W} (hn : n ≤ 16) {ra rb : Int32} : CtI l D k yL_chain (wH yL_chain cL_chain 5 (some .int) [(0, 10, 13, 19), (0, 10, 17, 21), (0, 10, 21, 13)]) (rmL 3 4 24) [.ref (ad 0), .int ra, .int rb, .ref oa] (KW k ad r (nI n) R T U tx sz ((oa, aL k 1 g) :: Y)) (fun v9 w' => v9 = (eChain n R ra rb) ∧ ∃ (T' U' tx' : Nat → Int32) (sz' : Int32) (g' : Nat → Int64), w' = (KW k ad r (sel (eChain n R ra rb) (nI (n + 1)) (nI n)) (sel (eChain n R ra rb) (upR R n (chD (R (ix ra)) (R (ix rb)) (dg (R (ix ra))) (fun _ => 0))) R) T' U' tx' sz' ((oa, aL k 1 g') :: Y)) ∧ ((eChain n R ra rb) = 0 → g' 0 = (nI n).toInt64)) := by
  refine openW (own := RL) rfl (by decide) (Nat.le_of_ble_eq_true rfl) rfl ?_
  intro p e s m args below meth c A C hrt9 hnm hT
  obtain ⟨Q, hQ⟩ : ∃ Q, Q = (vx_MQ below (va_Qi (fun v9 w' => v9 = (eChain n R ra rb) ∧ ∃ (T' U' tx' : Nat → Int32) (sz' : Int32) (g' : Nat → Int64), w' = (KW k ad r (sel (eChain n R ra rb) (nI (n + 1)) (nI n)) (sel (eChain n R ra rb) (upR R n (chD (R (ix ra)) (R (ix rb)) (dg (R (ix ra))) (fun _ => 0))) R) T' U' tx' sz' ((oa, aL k 1 g') :: Y)) ∧ ((eChain n R ra rb) = 0 → g' 0 = (nI n).toInt64)) (cBA D A) A) (fun _ _ _ => False) args s 4 24 A) := ⟨_, rfl⟩
  show WP p l e (rmL 3 4 24) s m args below meth c D A 5 (KW k ad r (nI n) R T U tx sz ((oa, aL k 1 g) :: Y)) [(0, .ref (ad 0)), (1, .int ra), (2, .int rb), (3, .ref oa)] 0 0 (vx_MQ below (va_Qi (fun v9 w' => v9 = (eChain n R ra rb) ∧ ∃ (T' U' tx' : Nat → Int32) (sz' : Int32) (g' : Nat → Int64), w' = (KW k ad r (sel (eChain n R ra rb) (nI (n + 1)) (nI n)) (sel (eChain n R ra rb) (upR R n (chD (R (ix ra)) (R (ix rb)) (dg (R (ix ra))) (fun _ => 0))) R) T' U' tx' sz' ((oa, aL k 1 g') :: Y)) ∧ ((eChain n R ra rb) = 0 → g' 0 = (nI n).toInt64)) (cBA D A) A) (fun _ _ _ => False) args s 4 24 A) 0 []
  rw [← hQ]
  refine p_aload_n C rfl 3 rfl dL_chain_0 ?_
  refine p_iconst (v := 0) C (by decide) dL_chain_1 ?_
  refine p_aload_n C rfl 0 rfl dL_chain_2 ?_
  refine p_iload_n C rfl 1 rfl dL_chain_3 ?_
  refine p_iload_n C rfl 2 rfl dL_chain_4 ?_
  have hx1 : ∀ (q9 : Nat) (T9 U9 tx9 : Nat → Int32) (sz9 : Int32), eChain n R ra rb = 1 → WP p l e (rmL 3 4 24) s m args below meth c D A 5 (KW k ad r (nI n) R T9 U9 tx9 sz9 ((oa, aL k 1 g) :: Y)) [(0, .ref (ad 0)), (1, .int ra), (2, .int rb), (3, .ref oa)] 4 24 Q 13 [.ref q9] := by
    intro q9 T9 U9 tx9 sz9 he
    refine p_astore (lv9 := [(4, .ref q9), (0, .ref (ad 0)), (1, .int ra), (2, .int rb), (3, .ref oa)]) C (by decide) rfl dL_chain_13 ?_
    refine p_iconst (v := 1) C (by decide) dL_chain_15 ?_
    rw [hQ]
    exact rw_i C hrt9 (⟨he.symm, _, _, _, _, _, by rw [he, sel_1, sel_1], fun z9 => absurd (he.symm.trans z9) (by decide)⟩) (by decide) (by decide) dL_chain_16
  have hx2 : ∀ (q9 : Nat) (T9 U9 tx9 : Nat → Int32) (sz9 : Int32), eChain n R ra rb = 2 → WP p l e (rmL 3 4 24) s m args below meth c D A 5 (KW k ad r (nI n) R T9 U9 tx9 sz9 ((oa, aL k 1 g) :: Y)) [(0, .ref (ad 0)), (1, .int ra), (2, .int rb), (3, .ref oa)] 4 24 Q 17 [.ref q9] := by
    intro q9 T9 U9 tx9 sz9 he
    refine p_astore (lv9 := [(4, .ref q9), (0, .ref (ad 0)), (1, .int ra), (2, .int rb), (3, .ref oa)]) C (by decide) rfl dL_chain_17 ?_
    refine p_iconst (v := 2) C (by decide) dL_chain_19 ?_
    rw [hQ]
    exact rw_i C hrt9 (⟨he.symm, _, _, _, _, _, by rw [he, sel_2, sel_2], fun z9 => absurd (he.symm.trans z9) (by decide)⟩) (by decide) (by decide) dL_chain_20
  have hx3 : ∀ (q9 : Nat) (T9 U9 tx9 : Nat → Int32) (sz9 : Int32), eChain n R ra rb = 3 → WP p l e (rmL 3 4 24) s m args below meth c D A 5 (KW k ad r (nI n) R T9 U9 tx9 sz9 ((oa, aL k 1 g) :: Y)) [(0, .ref (ad 0)), (1, .int ra), (2, .int rb), (3, .ref oa)] 4 24 Q 21 [.ref q9] := by
    intro q9 T9 U9 tx9 sz9 he
    refine p_astore (lv9 := [(4, .ref q9), (0, .ref (ad 0)), (1, .int ra), (2, .int rb), (3, .ref oa)]) C (by decide) rfl dL_chain_21 ?_
    refine p_iconst (v := 3) C (by decide) dL_chain_23 ?_
    rw [hQ]
    exact rw_i C hrt9 (⟨he.symm, _, _, _, _, _, by rw [he, sel_3, sel_3], fun z9 => absurd (he.symm.trans z9) (by decide)⟩) (by decide) (by decide) dL_chain_24
  have hpx : ∀ (E9 : String) (w9 : va_W), (¬ eChain n R ra rb = 0 ∧ E9 = exn (eChain n R ra rb) ∧ ∃ (T9 U9 tx9 : Nat → Int32) (sz9 : Int32), w9 = (KW k ad r (nI n) R T9 U9 tx9 sz9 ((oa, aL k 1 g) :: Y))) → VX p l e (rmL 3 4 24) s m args below meth c D A 5 w9 [(0, .ref (ad 0)), (1, .int ra), (2, .int rb), (3, .ref oa)] 4 24 Q 5 [.int 0, .ref oa] E9 := by
    intro E9 w9 h9
    obtain ⟨hne, rfl, T9, U9, tx9, sz9, rfl⟩ := h9
    rcases cd_eChain n R ra rb with he | he | he | he
    · exact absurd he hne
    · rw [he, exn_1]
      exact x_catch C (name := "java/lang/IndexOutOfBoundsException") (tableOf []) ⟨0, 10, 13, 19⟩ (tableOf [(0, 10, 17, 21), (0, 10, 21, 13)]) hT (fun z9 hz9 => absurd hz9 List.not_mem_nil) (by decide) (by decide) qcl_L_19 (by decide) rfl (fun q9 => hx1 q9 T9 U9 tx9 sz9 he)
    · rw [he, exn_2]
      exact x_catch C (name := "java/lang/IllegalArgumentException") (tableOf [(0, 10, 13, 19)]) ⟨0, 10, 17, 21⟩ (tableOf [(0, 10, 21, 13)]) hT (List.forall_mem_cons.mpr ⟨Or.inr ⟨by decide, _, qcl_L_19, by decide⟩, fun z9 hz9 => absurd hz9 List.not_mem_nil⟩) (by decide) (by decide) qcl_L_21 (by decide) rfl (fun q9 => hx2 q9 T9 U9 tx9 sz9 he)
    · rw [he, exn_3]
      exact x_catch C (name := "java/lang/IllegalStateException") (tableOf [(0, 10, 13, 19), (0, 10, 17, 21)]) ⟨0, 10, 21, 13⟩ (tableOf []) hT (List.forall_mem_cons.mpr ⟨Or.inr ⟨by decide, _, qcl_L_19, by decide⟩, List.forall_mem_cons.mpr ⟨Or.inr ⟨by decide, _, qcl_L_21, by decide⟩, fun z9 hz9 => absurd hz9 List.not_mem_nil⟩⟩) (by decide) (by decide) qcl_L_13 (by decide) rfl (fun q9 => hx3 q9 T9 U9 tx9 sz9 he)
  refine cx_Vi (As := [.int ra, .int rb]) (rest := [.int 0, .ref oa]) C (m_X2_chain l D k hfl (hn := hn) (ra := ra) (rb := rb)) 0 rfl rfl rfl qml_L_43 qim_X2_chain qse_X2_X2_chain qin_X2 qco_X2_chain nd_X2_chain ⟨Nat.le_of_ble_eq_true rfl, Nat.le_of_ble_eq_true rfl⟩ (Nat.le_of_ble_eq_true rfl) ⟨Nat.le_of_ble_eq_true rfl, Nat.le_of_ble_eq_true rfl⟩ rfl dL_chain_5 (fun E9 w9 h9 => hpx E9 w9 h9) (fun r9 w9 h9 => ?_)
  obtain ⟨he0, e9, T9, U9, tx9, sz9, rfl⟩ := h9
  refine p_int e9 ?_
  refine p_i2l C dL_chain_8 ?_
  refine p_last (w9 := (KW k ad r (nI (n + 1)) (upR R n (chD (R (ix ra)) (R (ix rb)) (dg (R (ix ra))) (fun _ => 0))) T9 U9 tx9 sz9 ((oa, aL k 1 (vp_updL g 0 ((nI n).toInt64))) :: Y))) C 22 KW_y (vp_in_nI (n := 0) (N := 1) (by omega) (by omega)) KW_ys dL_chain_9 ?_
  refine p_goto C 25 (by decide) dL_chain_10 ?_
  refine p_iconst (v := 0) C (by decide) dL_chain_25 ?_
  rw [hQ]
  exact rw_i C hrt9 (⟨he0.symm, _, _, _, _, _, by rw [he0, sel_0, sel_0], fun _ => updL_0⟩) (by decide) (by decide) dL_chain_26
set_option maxHeartbeats 4000000 in
set_option maxRecDepth 100000 in
/-- L_derive -/
theorem m_L_derive (l : Launch) (D : va_G) (k : Nat → ClassId) (hfl : l.stackTraces = false) {ad r : Nat → Nat} {n : Nat} {R : Nat → Nat → Int32} {T U tx : Nat → Int32} {sz : Int32} {oa : Nat} {g : Nat → Int64} {Y : va_W} (hn : n ≤ 16) {rc : Int32} : CtI l D k yL_derive (wH yL_derive cL_derive 4 (some .int) [(0, 9, 12, 19), (0, 9, 15, 13)]) (rmL 3 2 12) [.ref (ad 0), .int rc, .ref oa] (KW k ad r (nI n) R T U tx sz ((oa, aL k 1 g) :: Y)) (fun v9 w' => v9 = (eDer n rc) ∧ ∃ (T' U' tx' : Nat → Int32) (sz' : Int32) (g' : Nat → Int64), w' = (KW k ad r (sel (eDer n rc) (nI (n + 1)) (nI n)) (sel (eDer n rc) (upR R n (drF (R (ix rc)))) R) T' U' tx' sz' ((oa, aL k 1 g') :: Y)) ∧ ((eDer n rc) = 0 → g' 0 = (nI n).toInt64)) := by
  refine openW (own := RL) rfl (by decide) (Nat.le_of_ble_eq_true rfl) rfl ?_
  intro p e s m args below meth c A C hrt9 hnm hT
  obtain ⟨Q, hQ⟩ : ∃ Q, Q = (vx_MQ below (va_Qi (fun v9 w' => v9 = (eDer n rc) ∧ ∃ (T' U' tx' : Nat → Int32) (sz' : Int32) (g' : Nat → Int64), w' = (KW k ad r (sel (eDer n rc) (nI (n + 1)) (nI n)) (sel (eDer n rc) (upR R n (drF (R (ix rc)))) R) T' U' tx' sz' ((oa, aL k 1 g') :: Y)) ∧ ((eDer n rc) = 0 → g' 0 = (nI n).toInt64)) (cBA D A) A) (fun _ _ _ => False) args s 2 12 A) := ⟨_, rfl⟩
  show WP p l e (rmL 3 2 12) s m args below meth c D A 4 (KW k ad r (nI n) R T U tx sz ((oa, aL k 1 g) :: Y)) [(0, .ref (ad 0)), (1, .int rc), (2, .ref oa)] 0 0 (vx_MQ below (va_Qi (fun v9 w' => v9 = (eDer n rc) ∧ ∃ (T' U' tx' : Nat → Int32) (sz' : Int32) (g' : Nat → Int64), w' = (KW k ad r (sel (eDer n rc) (nI (n + 1)) (nI n)) (sel (eDer n rc) (upR R n (drF (R (ix rc)))) R) T' U' tx' sz' ((oa, aL k 1 g') :: Y)) ∧ ((eDer n rc) = 0 → g' 0 = (nI n).toInt64)) (cBA D A) A) (fun _ _ _ => False) args s 2 12 A) 0 []
  rw [← hQ]
  refine p_aload_n C rfl 2 rfl dL_derive_0 ?_
  refine p_iconst (v := 0) C (by decide) dL_derive_1 ?_
  refine p_aload_n C rfl 0 rfl dL_derive_2 ?_
  refine p_iload_n C rfl 1 rfl dL_derive_3 ?_
  have hx1 : ∀ (q9 : Nat) (T9 U9 tx9 : Nat → Int32) (sz9 : Int32), eDer n rc = 1 → WP p l e (rmL 3 2 12) s m args below meth c D A 4 (KW k ad r (nI n) R T9 U9 tx9 sz9 ((oa, aL k 1 g) :: Y)) [(0, .ref (ad 0)), (1, .int rc), (2, .ref oa)] 2 12 Q 12 [.ref q9] := by
    intro q9 T9 U9 tx9 sz9 he
    refine p_astore_n (lv9 := [(3, .ref q9), (0, .ref (ad 0)), (1, .int rc), (2, .ref oa)]) C rfl (by decide) rfl dL_derive_12 ?_
    refine p_iconst (v := 1) C (by decide) dL_derive_13 ?_
    rw [hQ]
    exact rw_i C hrt9 (⟨he.symm, _, _, _, _, _, by rw [he, sel_1, sel_1], fun z9 => absurd (he.symm.trans z9) (by decide)⟩) (by decide) (by decide) dL_derive_14
  have hx2 : ∀ (q9 : Nat) (T9 U9 tx9 : Nat → Int32) (sz9 : Int32), eDer n rc = 2 → WP p l e (rmL 3 2 12) s m args below meth c D A 4 (KW k ad r (nI n) R T9 U9 tx9 sz9 ((oa, aL k 1 g) :: Y)) [(0, .ref (ad 0)), (1, .int rc), (2, .ref oa)] 2 12 Q 15 [.ref q9] := by
    intro q9 T9 U9 tx9 sz9 he
    refine p_astore_n (lv9 := [(3, .ref q9), (0, .ref (ad 0)), (1, .int rc), (2, .ref oa)]) C rfl (by decide) rfl dL_derive_15 ?_
    refine p_iconst (v := 2) C (by decide) dL_derive_16 ?_
    rw [hQ]
    exact rw_i C hrt9 (⟨he.symm, _, _, _, _, _, by rw [he, sel_2, sel_2], fun z9 => absurd (he.symm.trans z9) (by decide)⟩) (by decide) (by decide) dL_derive_17
  have hpx : ∀ (E9 : String) (w9 : va_W), (¬ eDer n rc = 0 ∧ E9 = exnJ (eDer n rc) ∧ ∃ (T9 U9 tx9 : Nat → Int32) (sz9 : Int32), w9 = (KW k ad r (nI n) R T9 U9 tx9 sz9 ((oa, aL k 1 g) :: Y))) → VX p l e (rmL 3 2 12) s m args below meth c D A 4 w9 [(0, .ref (ad 0)), (1, .int rc), (2, .ref oa)] 2 12 Q 4 [.int 0, .ref oa] E9 := by
    intro E9 w9 h9
    obtain ⟨hne, rfl, T9, U9, tx9, sz9, rfl⟩ := h9
    rcases cd_eDer n rc with he | he | he
    · exact absurd he hne
    · rw [he, exnJ_1]
      exact x_catch C (name := "java/lang/IndexOutOfBoundsException") (tableOf []) ⟨0, 9, 12, 19⟩ (tableOf [(0, 9, 15, 13)]) hT (fun z9 hz9 => absurd hz9 List.not_mem_nil) (by decide) (by decide) qcl_L_19 (by decide) rfl (fun q9 => hx1 q9 T9 U9 tx9 sz9 he)
    · rw [he, exnJ_2]
      exact x_catch C (name := "java/lang/IllegalStateException") (tableOf [(0, 9, 12, 19)]) ⟨0, 9, 15, 13⟩ (tableOf []) hT (List.forall_mem_cons.mpr ⟨Or.inr ⟨by decide, _, qcl_L_19, by decide⟩, fun z9 hz9 => absurd hz9 List.not_mem_nil⟩) (by decide) (by decide) qcl_L_13 (by decide) rfl (fun q9 => hx2 q9 T9 U9 tx9 sz9 he)
  refine cx_Vi (As := [.int rc]) (rest := [.int 0, .ref oa]) C (m_X2_derive l D k hfl (hn := hn) (rc := rc)) 0 rfl rfl rfl qml_L_46 qim_X2_derive qse_X2_X2_derive qin_X2 qco_X2_derive nd_X2_derive ⟨Nat.le_of_ble_eq_true rfl, Nat.le_of_ble_eq_true rfl⟩ (Nat.le_of_ble_eq_true rfl) ⟨Nat.le_of_ble_eq_true rfl, Nat.le_of_ble_eq_true rfl⟩ rfl dL_derive_4 (fun E9 w9 h9 => hpx E9 w9 h9) (fun r9 w9 h9 => ?_)
  obtain ⟨he0, e9, T9, U9, tx9, sz9, rfl⟩ := h9
  refine p_int e9 ?_
  refine p_i2l C dL_derive_7 ?_
  refine p_last (w9 := (KW k ad r (nI (n + 1)) (upR R n (drF (R (ix rc)))) T9 U9 tx9 sz9 ((oa, aL k 1 (vp_updL g 0 ((nI n).toInt64))) :: Y))) C 22 KW_y (vp_in_nI (n := 0) (N := 1) (by omega) (by omega)) KW_ys dL_derive_8 ?_
  refine p_goto C 18 (by decide) dL_derive_9 ?_
  refine p_iconst (v := 0) C (by decide) dL_derive_18 ?_
  rw [hQ]
  exact rw_i C hrt9 (⟨he0.symm, _, _, _, _, _, by rw [he0, sel_0, sel_0], fun _ => updL_0⟩) (by decide) (by decide) dL_derive_19
set_option maxHeartbeats 4000000 in
set_option maxRecDepth 100000 in
/-- L_divide -/
theorem m_L_divide (l : Launch) (D : va_G) (k : Nat → ClassId) (hfl : l.stackTraces = false) {ad r : Nat → Nat} {n : Nat} {R : Nat → Nat → Int32} {T U tx : Nat → Int32} {sz : Int32} {oa : Nat} {g : Nat → Int64} {Y : va_W} (hn : n ≤ 16) {ra rb : Int32} : CtI l D k yL_divide (wH yL_divide cL_divide 5 (some .int) [(0, 10, 13, 19), (0, 10, 17, 21), (0, 10, 21, 13)]) (rmL 3 6 36) [.ref (ad 0), .int ra, .int rb, .ref oa] (KW k ad r (nI n) R T U tx sz ((oa, aL k 1 g) :: Y)) (fun v9 w' => v9 = (eDiv n R ra rb) ∧ ∃ (T' U' tx' : Nat → Int32) (sz' : Int32) (g' : Nat → Int64), w' = (KW k ad r (sel (eDiv n R ra rb) (nI (n + 1 + 1)) (nI n)) (sel (eDiv n R ra rb) (upR (upR R n (sp (R (ix ra)) (R (ix rb))).1) (n + 1) (sp (R (ix ra)) (R (ix rb))).2) R) T' U' tx' sz' ((oa, aL k 1 g') :: Y)) ∧ ((eDiv n R ra rb) = 0 → g' 0 = (nI n).toInt64)) := by
  refine openW (own := RL) rfl (by decide) (Nat.le_of_ble_eq_true rfl) rfl ?_
  intro p e s m args below meth c A C hrt9 hnm hT
  obtain ⟨Q, hQ⟩ : ∃ Q, Q = (vx_MQ below (va_Qi (fun v9 w' => v9 = (eDiv n R ra rb) ∧ ∃ (T' U' tx' : Nat → Int32) (sz' : Int32) (g' : Nat → Int64), w' = (KW k ad r (sel (eDiv n R ra rb) (nI (n + 1 + 1)) (nI n)) (sel (eDiv n R ra rb) (upR (upR R n (sp (R (ix ra)) (R (ix rb))).1) (n + 1) (sp (R (ix ra)) (R (ix rb))).2) R) T' U' tx' sz' ((oa, aL k 1 g') :: Y)) ∧ ((eDiv n R ra rb) = 0 → g' 0 = (nI n).toInt64)) (cBA D A) A) (fun _ _ _ => False) args s 6 36 A) := ⟨_, rfl⟩
  show WP p l e (rmL 3 6 36) s m args below meth c D A 5 (KW k ad r (nI n) R T U tx sz ((oa, aL k 1 g) :: Y)) [(0, .ref (ad 0)), (1, .int ra), (2, .int rb), (3, .ref oa)] 0 0 (vx_MQ below (va_Qi (fun v9 w' => v9 = (eDiv n R ra rb) ∧ ∃ (T' U' tx' : Nat → Int32) (sz' : Int32) (g' : Nat → Int64), w' = (KW k ad r (sel (eDiv n R ra rb) (nI (n + 1 + 1)) (nI n)) (sel (eDiv n R ra rb) (upR (upR R n (sp (R (ix ra)) (R (ix rb))).1) (n + 1) (sp (R (ix ra)) (R (ix rb))).2) R) T' U' tx' sz' ((oa, aL k 1 g') :: Y)) ∧ ((eDiv n R ra rb) = 0 → g' 0 = (nI n).toInt64)) (cBA D A) A) (fun _ _ _ => False) args s 6 36 A) 0 []
  rw [← hQ]
  refine p_aload_n C rfl 3 rfl dL_divide_0 ?_
  refine p_iconst (v := 0) C (by decide) dL_divide_1 ?_
  refine p_aload_n C rfl 0 rfl dL_divide_2 ?_
  refine p_iload_n C rfl 1 rfl dL_divide_3 ?_
  refine p_iload_n C rfl 2 rfl dL_divide_4 ?_
  have hx1 : ∀ (q9 : Nat) (T9 U9 tx9 : Nat → Int32) (sz9 : Int32), eDiv n R ra rb = 1 → WP p l e (rmL 3 6 36) s m args below meth c D A 5 (KW k ad r (nI n) R T9 U9 tx9 sz9 ((oa, aL k 1 g) :: Y)) [(0, .ref (ad 0)), (1, .int ra), (2, .int rb), (3, .ref oa)] 6 36 Q 13 [.ref q9] := by
    intro q9 T9 U9 tx9 sz9 he
    refine p_astore (lv9 := [(4, .ref q9), (0, .ref (ad 0)), (1, .int ra), (2, .int rb), (3, .ref oa)]) C (by decide) rfl dL_divide_13 ?_
    refine p_iconst (v := 1) C (by decide) dL_divide_15 ?_
    rw [hQ]
    exact rw_i C hrt9 (⟨he.symm, _, _, _, _, _, by rw [he, sel_1, sel_1], fun z9 => absurd (he.symm.trans z9) (by decide)⟩) (by decide) (by decide) dL_divide_16
  have hx2 : ∀ (q9 : Nat) (T9 U9 tx9 : Nat → Int32) (sz9 : Int32), eDiv n R ra rb = 2 → WP p l e (rmL 3 6 36) s m args below meth c D A 5 (KW k ad r (nI n) R T9 U9 tx9 sz9 ((oa, aL k 1 g) :: Y)) [(0, .ref (ad 0)), (1, .int ra), (2, .int rb), (3, .ref oa)] 6 36 Q 17 [.ref q9] := by
    intro q9 T9 U9 tx9 sz9 he
    refine p_astore (lv9 := [(4, .ref q9), (0, .ref (ad 0)), (1, .int ra), (2, .int rb), (3, .ref oa)]) C (by decide) rfl dL_divide_17 ?_
    refine p_iconst (v := 2) C (by decide) dL_divide_19 ?_
    rw [hQ]
    exact rw_i C hrt9 (⟨he.symm, _, _, _, _, _, by rw [he, sel_2, sel_2], fun z9 => absurd (he.symm.trans z9) (by decide)⟩) (by decide) (by decide) dL_divide_20
  have hx3 : ∀ (q9 : Nat) (T9 U9 tx9 : Nat → Int32) (sz9 : Int32), eDiv n R ra rb = 3 → WP p l e (rmL 3 6 36) s m args below meth c D A 5 (KW k ad r (nI n) R T9 U9 tx9 sz9 ((oa, aL k 1 g) :: Y)) [(0, .ref (ad 0)), (1, .int ra), (2, .int rb), (3, .ref oa)] 6 36 Q 21 [.ref q9] := by
    intro q9 T9 U9 tx9 sz9 he
    refine p_astore (lv9 := [(4, .ref q9), (0, .ref (ad 0)), (1, .int ra), (2, .int rb), (3, .ref oa)]) C (by decide) rfl dL_divide_21 ?_
    refine p_iconst (v := 3) C (by decide) dL_divide_23 ?_
    rw [hQ]
    exact rw_i C hrt9 (⟨he.symm, _, _, _, _, _, by rw [he, sel_3, sel_3], fun z9 => absurd (he.symm.trans z9) (by decide)⟩) (by decide) (by decide) dL_divide_24
  have hpx : ∀ (E9 : String) (w9 : va_W), (¬ eDiv n R ra rb = 0 ∧ E9 = exn (eDiv n R ra rb) ∧ ∃ (T9 U9 tx9 : Nat → Int32) (sz9 : Int32), w9 = (KW k ad r (nI n) R T9 U9 tx9 sz9 ((oa, aL k 1 g) :: Y))) → VX p l e (rmL 3 6 36) s m args below meth c D A 5 w9 [(0, .ref (ad 0)), (1, .int ra), (2, .int rb), (3, .ref oa)] 6 36 Q 5 [.int 0, .ref oa] E9 := by
    intro E9 w9 h9
    obtain ⟨hne, rfl, T9, U9, tx9, sz9, rfl⟩ := h9
    rcases cd_eDiv n R ra rb with he | he | he | he
    · exact absurd he hne
    · rw [he, exn_1]
      exact x_catch C (name := "java/lang/IndexOutOfBoundsException") (tableOf []) ⟨0, 10, 13, 19⟩ (tableOf [(0, 10, 17, 21), (0, 10, 21, 13)]) hT (fun z9 hz9 => absurd hz9 List.not_mem_nil) (by decide) (by decide) qcl_L_19 (by decide) rfl (fun q9 => hx1 q9 T9 U9 tx9 sz9 he)
    · rw [he, exn_2]
      exact x_catch C (name := "java/lang/IllegalArgumentException") (tableOf [(0, 10, 13, 19)]) ⟨0, 10, 17, 21⟩ (tableOf [(0, 10, 21, 13)]) hT (List.forall_mem_cons.mpr ⟨Or.inr ⟨by decide, _, qcl_L_19, by decide⟩, fun z9 hz9 => absurd hz9 List.not_mem_nil⟩) (by decide) (by decide) qcl_L_21 (by decide) rfl (fun q9 => hx2 q9 T9 U9 tx9 sz9 he)
    · rw [he, exn_3]
      exact x_catch C (name := "java/lang/IllegalStateException") (tableOf [(0, 10, 13, 19), (0, 10, 17, 21)]) ⟨0, 10, 21, 13⟩ (tableOf []) hT (List.forall_mem_cons.mpr ⟨Or.inr ⟨by decide, _, qcl_L_19, by decide⟩, List.forall_mem_cons.mpr ⟨Or.inr ⟨by decide, _, qcl_L_21, by decide⟩, fun z9 hz9 => absurd hz9 List.not_mem_nil⟩⟩) (by decide) (by decide) qcl_L_13 (by decide) rfl (fun q9 => hx3 q9 T9 U9 tx9 sz9 he)
  refine cx_Vi (As := [.int ra, .int rb]) (rest := [.int 0, .ref oa]) C (m_X2_divide l D k hfl (hn := hn) (ra := ra) (rb := rb)) 0 rfl rfl rfl qml_L_49 qim_X2_divide qse_X2_X2_divide qin_X2 qco_X2_divide nd_X2_divide ⟨Nat.le_of_ble_eq_true rfl, Nat.le_of_ble_eq_true rfl⟩ (Nat.le_of_ble_eq_true rfl) ⟨Nat.le_of_ble_eq_true rfl, Nat.le_of_ble_eq_true rfl⟩ rfl dL_divide_5 (fun E9 w9 h9 => hpx E9 w9 h9) (fun r9 w9 h9 => ?_)
  obtain ⟨he0, e9, T9, U9, tx9, sz9, rfl⟩ := h9
  refine p_int e9 ?_
  refine p_i2l C dL_divide_8 ?_
  refine p_last (w9 := (KW k ad r (nI (n + 1 + 1)) (upR (upR R n (sp (R (ix ra)) (R (ix rb))).1) (n + 1) (sp (R (ix ra)) (R (ix rb))).2) T9 U9 tx9 sz9 ((oa, aL k 1 (vp_updL g 0 ((nI n).toInt64))) :: Y))) C 22 KW_y (vp_in_nI (n := 0) (N := 1) (by omega) (by omega)) KW_ys dL_divide_9 ?_
  refine p_goto C 25 (by decide) dL_divide_10 ?_
  refine p_iconst (v := 0) C (by decide) dL_divide_25 ?_
  rw [hQ]
  exact rw_i C hrt9 (⟨he0.symm, _, _, _, _, _, by rw [he0, sel_0, sel_0], fun _ => updL_0⟩) (by decide) (by decide) dL_divide_26
set_option maxHeartbeats 4000000 in
set_option maxRecDepth 100000 in
/-- L_amountOf -/
theorem m_L_amountOf (l : Launch) (D : va_G) (k : Nat → ClassId) (hfl : l.stackTraces = false) {ad r : Nat → Nat} {n : Nat} {R : Nat → Nat → Int32} {T U tx : Nat → Int32} {sz : Int32} {oa : Nat} {g : Nat → Int64} {Y : va_W} (hn : n ≤ 16) {rc pw : Int32} : CtI l D k yL_amountOf (wH yL_amountOf cL_amountOf 5 (some .int) [(0, 10, 13, 19)]) (rmL 3 2 12) [.ref (ad 0), .int rc, .int pw, .ref oa] (KW k ad r (nI n) R T U tx sz ((oa, aL k 1 g) :: Y)) (fun v9 w' => v9 = (eAmt n rc pw) ∧ ∃ (T' U' tx' : Nat → Int32) (sz' : Int32) (g' : Nat → Int64), w' = (KW k ad r (sel (eAmt n rc pw) (nI n) (nI n)) (sel (eAmt n rc pw) R R) T' U' tx' sz' ((oa, aL k 1 g') :: Y)) ∧ ((eAmt n rc pw) = 0 → g' 0 = ((R (ix rc)) (ix pw)).toInt64)) := by
  refine openW (own := RL) rfl (by decide) (Nat.le_of_ble_eq_true rfl) rfl ?_
  intro p e s m args below meth c A C hrt9 hnm hT
  obtain ⟨Q, hQ⟩ : ∃ Q, Q = (vx_MQ below (va_Qi (fun v9 w' => v9 = (eAmt n rc pw) ∧ ∃ (T' U' tx' : Nat → Int32) (sz' : Int32) (g' : Nat → Int64), w' = (KW k ad r (sel (eAmt n rc pw) (nI n) (nI n)) (sel (eAmt n rc pw) R R) T' U' tx' sz' ((oa, aL k 1 g') :: Y)) ∧ ((eAmt n rc pw) = 0 → g' 0 = ((R (ix rc)) (ix pw)).toInt64)) (cBA D A) A) (fun _ _ _ => False) args s 2 12 A) := ⟨_, rfl⟩
  show WP p l e (rmL 3 2 12) s m args below meth c D A 5 (KW k ad r (nI n) R T U tx sz ((oa, aL k 1 g) :: Y)) [(0, .ref (ad 0)), (1, .int rc), (2, .int pw), (3, .ref oa)] 0 0 (vx_MQ below (va_Qi (fun v9 w' => v9 = (eAmt n rc pw) ∧ ∃ (T' U' tx' : Nat → Int32) (sz' : Int32) (g' : Nat → Int64), w' = (KW k ad r (sel (eAmt n rc pw) (nI n) (nI n)) (sel (eAmt n rc pw) R R) T' U' tx' sz' ((oa, aL k 1 g') :: Y)) ∧ ((eAmt n rc pw) = 0 → g' 0 = ((R (ix rc)) (ix pw)).toInt64)) (cBA D A) A) (fun _ _ _ => False) args s 2 12 A) 0 []
  rw [← hQ]
  refine p_aload_n C rfl 3 rfl dL_amountOf_0 ?_
  refine p_iconst (v := 0) C (by decide) dL_amountOf_1 ?_
  refine p_aload_n C rfl 0 rfl dL_amountOf_2 ?_
  refine p_iload_n C rfl 1 rfl dL_amountOf_3 ?_
  refine p_iload_n C rfl 2 rfl dL_amountOf_4 ?_
  have hx1 : ∀ (q9 : Nat) (T9 U9 tx9 : Nat → Int32) (sz9 : Int32), eAmt n rc pw = 1 → WP p l e (rmL 3 2 12) s m args below meth c D A 5 (KW k ad r (nI n) R T9 U9 tx9 sz9 ((oa, aL k 1 g) :: Y)) [(0, .ref (ad 0)), (1, .int rc), (2, .int pw), (3, .ref oa)] 2 12 Q 13 [.ref q9] := by
    intro q9 T9 U9 tx9 sz9 he
    refine p_astore (lv9 := [(4, .ref q9), (0, .ref (ad 0)), (1, .int rc), (2, .int pw), (3, .ref oa)]) C (by decide) rfl dL_amountOf_13 ?_
    refine p_iconst (v := 1) C (by decide) dL_amountOf_15 ?_
    rw [hQ]
    exact rw_i C hrt9 (⟨he.symm, _, _, _, _, _, by rw [he, sel_1, sel_1], fun z9 => absurd (he.symm.trans z9) (by decide)⟩) (by decide) (by decide) dL_amountOf_16
  have hpx : ∀ (E9 : String) (w9 : va_W), (¬ eAmt n rc pw = 0 ∧ E9 = exn (eAmt n rc pw) ∧ ∃ (T9 U9 tx9 : Nat → Int32) (sz9 : Int32), w9 = (KW k ad r (nI n) R T9 U9 tx9 sz9 ((oa, aL k 1 g) :: Y))) → VX p l e (rmL 3 2 12) s m args below meth c D A 5 w9 [(0, .ref (ad 0)), (1, .int rc), (2, .int pw), (3, .ref oa)] 2 12 Q 5 [.int 0, .ref oa] E9 := by
    intro E9 w9 h9
    obtain ⟨hne, rfl, T9, U9, tx9, sz9, rfl⟩ := h9
    rcases cd_eAmt n rc pw with he | he
    · exact absurd he hne
    · rw [he, exn_1]
      exact x_catch C (name := "java/lang/IndexOutOfBoundsException") (tableOf []) ⟨0, 10, 13, 19⟩ (tableOf []) hT (fun z9 hz9 => absurd hz9 List.not_mem_nil) (by decide) (by decide) qcl_L_19 (by decide) rfl (fun q9 => hx1 q9 T9 U9 tx9 sz9 he)
  refine cx_Vi (As := [.int rc, .int pw]) (rest := [.int 0, .ref oa]) C (m_X2_amountOf l D k hfl (hn := hn) (rc := rc) (pw := pw)) 0 rfl rfl rfl qml_L_52 qim_X2_amountOf qse_X2_X2_amountOf qin_X2 qco_X2_amountOf nd_X2_amountOf ⟨Nat.le_of_ble_eq_true rfl, Nat.le_of_ble_eq_true rfl⟩ (Nat.le_of_ble_eq_true rfl) ⟨Nat.le_of_ble_eq_true rfl, Nat.le_of_ble_eq_true rfl⟩ rfl dL_amountOf_5 (fun E9 w9 h9 => hpx E9 w9 h9) (fun r9 w9 h9 => ?_)
  obtain ⟨he0, e9, T9, U9, tx9, sz9, rfl⟩ := h9
  refine p_int e9 ?_
  refine p_i2l C dL_amountOf_8 ?_
  refine p_last (w9 := (KW k ad r (nI n) R T9 U9 tx9 sz9 ((oa, aL k 1 (vp_updL g 0 (((R (ix rc)) (ix pw)).toInt64))) :: Y))) C 22 KW_y (vp_in_nI (n := 0) (N := 1) (by omega) (by omega)) KW_ys dL_amountOf_9 ?_
  refine p_goto C 17 (by decide) dL_amountOf_10 ?_
  refine p_iconst (v := 0) C (by decide) dL_amountOf_17 ?_
  rw [hQ]
  exact rw_i C hrt9 (⟨he0.symm, _, _, _, _, _, by rw [he0, sel_0, sel_0], fun _ => updL_0⟩) (by decide) (by decide) dL_amountOf_18
set_option maxHeartbeats 4000000 in
set_option maxRecDepth 100000 in
/-- L_degreeOf -/
theorem m_L_degreeOf (l : Launch) (D : va_G) (k : Nat → ClassId) (hfl : l.stackTraces = false) {ad r : Nat → Nat} {n : Nat} {R : Nat → Nat → Int32} {T U tx : Nat → Int32} {sz : Int32} {oa : Nat} {g : Nat → Int64} {Y : va_W} (hn : n ≤ 16) {rc : Int32} : CtI l D k yL_degreeOf (wH yL_degreeOf cL_degreeOf 4 (some .int) [(0, 9, 12, 19)]) (rmL 3 1 6) [.ref (ad 0), .int rc, .ref oa] (KW k ad r (nI n) R T U tx sz ((oa, aL k 1 g) :: Y)) (fun v9 w' => v9 = (e1 n rc) ∧ ∃ (T' U' tx' : Nat → Int32) (sz' : Int32) (g' : Nat → Int64), w' = (KW k ad r (sel (e1 n rc) (nI n) (nI n)) (sel (e1 n rc) R R) T' U' tx' sz' ((oa, aL k 1 g') :: Y)) ∧ ((e1 n rc) = 0 → g' 0 = (dI (dg (R (ix rc)))).toInt64)) := by
  refine openW (own := RL) rfl (by decide) (Nat.le_of_ble_eq_true rfl) rfl ?_
  intro p e s m args below meth c A C hrt9 hnm hT
  obtain ⟨Q, hQ⟩ : ∃ Q, Q = (vx_MQ below (va_Qi (fun v9 w' => v9 = (e1 n rc) ∧ ∃ (T' U' tx' : Nat → Int32) (sz' : Int32) (g' : Nat → Int64), w' = (KW k ad r (sel (e1 n rc) (nI n) (nI n)) (sel (e1 n rc) R R) T' U' tx' sz' ((oa, aL k 1 g') :: Y)) ∧ ((e1 n rc) = 0 → g' 0 = (dI (dg (R (ix rc)))).toInt64)) (cBA D A) A) (fun _ _ _ => False) args s 1 6 A) := ⟨_, rfl⟩
  show WP p l e (rmL 3 1 6) s m args below meth c D A 4 (KW k ad r (nI n) R T U tx sz ((oa, aL k 1 g) :: Y)) [(0, .ref (ad 0)), (1, .int rc), (2, .ref oa)] 0 0 (vx_MQ below (va_Qi (fun v9 w' => v9 = (e1 n rc) ∧ ∃ (T' U' tx' : Nat → Int32) (sz' : Int32) (g' : Nat → Int64), w' = (KW k ad r (sel (e1 n rc) (nI n) (nI n)) (sel (e1 n rc) R R) T' U' tx' sz' ((oa, aL k 1 g') :: Y)) ∧ ((e1 n rc) = 0 → g' 0 = (dI (dg (R (ix rc)))).toInt64)) (cBA D A) A) (fun _ _ _ => False) args s 1 6 A) 0 []
  rw [← hQ]
  refine p_aload_n C rfl 2 rfl dL_degreeOf_0 ?_
  refine p_iconst (v := 0) C (by decide) dL_degreeOf_1 ?_
  refine p_aload_n C rfl 0 rfl dL_degreeOf_2 ?_
  refine p_iload_n C rfl 1 rfl dL_degreeOf_3 ?_
  have hx1 : ∀ (q9 : Nat) (T9 U9 tx9 : Nat → Int32) (sz9 : Int32), e1 n rc = 1 → WP p l e (rmL 3 1 6) s m args below meth c D A 4 (KW k ad r (nI n) R T9 U9 tx9 sz9 ((oa, aL k 1 g) :: Y)) [(0, .ref (ad 0)), (1, .int rc), (2, .ref oa)] 1 6 Q 12 [.ref q9] := by
    intro q9 T9 U9 tx9 sz9 he
    refine p_astore_n (lv9 := [(3, .ref q9), (0, .ref (ad 0)), (1, .int rc), (2, .ref oa)]) C rfl (by decide) rfl dL_degreeOf_12 ?_
    refine p_iconst (v := 1) C (by decide) dL_degreeOf_13 ?_
    rw [hQ]
    exact rw_i C hrt9 (⟨he.symm, _, _, _, _, _, by rw [he, sel_1, sel_1], fun z9 => absurd (he.symm.trans z9) (by decide)⟩) (by decide) (by decide) dL_degreeOf_14
  have hpx : ∀ (E9 : String) (w9 : va_W), (¬ e1 n rc = 0 ∧ E9 = exn (e1 n rc) ∧ ∃ (T9 U9 tx9 : Nat → Int32) (sz9 : Int32), w9 = (KW k ad r (nI n) R T9 U9 tx9 sz9 ((oa, aL k 1 g) :: Y))) → VX p l e (rmL 3 1 6) s m args below meth c D A 4 w9 [(0, .ref (ad 0)), (1, .int rc), (2, .ref oa)] 1 6 Q 4 [.int 0, .ref oa] E9 := by
    intro E9 w9 h9
    obtain ⟨hne, rfl, T9, U9, tx9, sz9, rfl⟩ := h9
    rcases cd_e1 n rc with he | he
    · exact absurd he hne
    · rw [he, exn_1]
      exact x_catch C (name := "java/lang/IndexOutOfBoundsException") (tableOf []) ⟨0, 9, 12, 19⟩ (tableOf []) hT (fun z9 hz9 => absurd hz9 List.not_mem_nil) (by decide) (by decide) qcl_L_19 (by decide) rfl (fun q9 => hx1 q9 T9 U9 tx9 sz9 he)
  refine cx_Vi (As := [.int rc]) (rest := [.int 0, .ref oa]) C (m_X2_degreeOf l D k hfl (hn := hn) (rc := rc)) 0 rfl rfl rfl qml_L_55 qim_X2_degreeOf qse_X2_X2_degreeOf qin_X2 qco_X2_degreeOf nd_X2_degreeOf ⟨Nat.le_of_ble_eq_true rfl, Nat.le_of_ble_eq_true rfl⟩ (Nat.le_of_ble_eq_true rfl) ⟨Nat.le_of_ble_eq_true rfl, Nat.le_of_ble_eq_true rfl⟩ rfl dL_degreeOf_4 (fun E9 w9 h9 => hpx E9 w9 h9) (fun r9 w9 h9 => ?_)
  obtain ⟨he0, e9, T9, U9, tx9, sz9, rfl⟩ := h9
  refine p_int e9 ?_
  refine p_i2l C dL_degreeOf_7 ?_
  refine p_last (w9 := (KW k ad r (nI n) R T9 U9 tx9 sz9 ((oa, aL k 1 (vp_updL g 0 ((dI (dg (R (ix rc)))).toInt64))) :: Y))) C 22 KW_y (vp_in_nI (n := 0) (N := 1) (by omega) (by omega)) KW_ys dL_degreeOf_8 ?_
  refine p_goto C 15 (by decide) dL_degreeOf_9 ?_
  refine p_iconst (v := 0) C (by decide) dL_degreeOf_15 ?_
  rw [hQ]
  exact rw_i C hrt9 (⟨he0.symm, _, _, _, _, _, by rw [he0, sel_0, sel_0], fun _ => updL_0⟩) (by decide) (by decide) dL_degreeOf_16
set_option maxHeartbeats 4000000 in
set_option maxRecDepth 100000 in
/-- L_isPlain -/
theorem m_L_isPlain (l : Launch) (D : va_G) (k : Nat → ClassId) (hfl : l.stackTraces = false) {ad r : Nat → Nat} {n : Nat} {R : Nat → Nat → Int32} {T U tx : Nat → Int32} {sz : Int32} {oa : Nat} {g : Nat → Int64} {Y : va_W} (hn : n ≤ 16) {rc : Int32} : CtI l D k yL_isPlain (wH yL_isPlain cL_isPlain 4 (some .int) [(0, 16, 19, 19)]) (rmL 4 1 6) [.ref (ad 0), .int rc, .ref oa] (KW k ad r (nI n) R T U tx sz ((oa, aL k 1 g) :: Y)) (fun v9 w' => v9 = (e1 n rc) ∧ ∃ (T' U' tx' : Nat → Int32) (sz' : Int32) (g' : Nat → Int64), w' = (KW k ad r (sel (e1 n rc) (nI n) (nI n)) (sel (e1 n rc) R R) T' U' tx' sz' ((oa, aL k 1 g') :: Y)) ∧ ((e1 n rc) = 0 → g' 0 = (bI (pln (R (ix rc)))).toInt64)) := by
  refine openW (own := RL) rfl (by decide) (Nat.le_of_ble_eq_true rfl) rfl ?_
  intro p e s m args below meth c A C hrt9 hnm hT
  obtain ⟨Q, hQ⟩ : ∃ Q, Q = (vx_MQ below (va_Qi (fun v9 w' => v9 = (e1 n rc) ∧ ∃ (T' U' tx' : Nat → Int32) (sz' : Int32) (g' : Nat → Int64), w' = (KW k ad r (sel (e1 n rc) (nI n) (nI n)) (sel (e1 n rc) R R) T' U' tx' sz' ((oa, aL k 1 g') :: Y)) ∧ ((e1 n rc) = 0 → g' 0 = (bI (pln (R (ix rc)))).toInt64)) (cBA D A) A) (fun _ _ _ => False) args s 1 6 A) := ⟨_, rfl⟩
  show WP p l e (rmL 4 1 6) s m args below meth c D A 4 (KW k ad r (nI n) R T U tx sz ((oa, aL k 1 g) :: Y)) [(0, .ref (ad 0)), (1, .int rc), (2, .ref oa)] 0 0 (vx_MQ below (va_Qi (fun v9 w' => v9 = (e1 n rc) ∧ ∃ (T' U' tx' : Nat → Int32) (sz' : Int32) (g' : Nat → Int64), w' = (KW k ad r (sel (e1 n rc) (nI n) (nI n)) (sel (e1 n rc) R R) T' U' tx' sz' ((oa, aL k 1 g') :: Y)) ∧ ((e1 n rc) = 0 → g' 0 = (bI (pln (R (ix rc)))).toInt64)) (cBA D A) A) (fun _ _ _ => False) args s 1 6 A) 0 []
  rw [← hQ]
  refine p_aload_n C rfl 2 rfl dL_isPlain_0 ?_
  refine p_iconst (v := 0) C (by decide) dL_isPlain_1 ?_
  refine p_aload_n C rfl 0 rfl dL_isPlain_2 ?_
  refine p_iload_n C rfl 1 rfl dL_isPlain_3 ?_
  have hx1 : ∀ (q9 : Nat) (T9 U9 tx9 : Nat → Int32) (sz9 : Int32), e1 n rc = 1 → WP p l e (rmL 4 1 6) s m args below meth c D A 4 (KW k ad r (nI n) R T9 U9 tx9 sz9 ((oa, aL k 1 g) :: Y)) [(0, .ref (ad 0)), (1, .int rc), (2, .ref oa)] 1 6 Q 19 [.ref q9] := by
    intro q9 T9 U9 tx9 sz9 he
    refine p_astore_n (lv9 := [(3, .ref q9), (0, .ref (ad 0)), (1, .int rc), (2, .ref oa)]) C rfl (by decide) rfl dL_isPlain_19 ?_
    refine p_iconst (v := 1) C (by decide) dL_isPlain_20 ?_
    rw [hQ]
    exact rw_i C hrt9 (⟨he.symm, _, _, _, _, _, by rw [he, sel_1, sel_1], fun z9 => absurd (he.symm.trans z9) (by decide)⟩) (by decide) (by decide) dL_isPlain_21
  have hpx : ∀ (E9 : String) (w9 : va_W), (¬ e1 n rc = 0 ∧ E9 = exn (e1 n rc) ∧ ∃ (T9 U9 tx9 : Nat → Int32) (sz9 : Int32), w9 = (KW k ad r (nI n) R T9 U9 tx9 sz9 ((oa, aL k 1 g) :: Y))) → VX p l e (rmL 4 1 6) s m args below meth c D A 4 w9 [(0, .ref (ad 0)), (1, .int rc), (2, .ref oa)] 1 6 Q 4 [.int 0, .ref oa] E9 := by
    intro E9 w9 h9
    obtain ⟨hne, rfl, T9, U9, tx9, sz9, rfl⟩ := h9
    rcases cd_e1 n rc with he | he
    · exact absurd he hne
    · rw [he, exn_1]
      exact x_catch C (name := "java/lang/IndexOutOfBoundsException") (tableOf []) ⟨0, 16, 19, 19⟩ (tableOf []) hT (fun z9 hz9 => absurd hz9 List.not_mem_nil) (by decide) (by decide) qcl_L_19 (by decide) rfl (fun q9 => hx1 q9 T9 U9 tx9 sz9 he)
  refine cx_Vi (As := [.int rc]) (rest := [.int 0, .ref oa]) C (m_X2_isPlain l D k hfl (hn := hn) (rc := rc)) 0 rfl rfl rfl qml_L_58 qim_X2_isPlain qse_X2_X2_isPlain qin_X2 qco_X2_isPlain nd_X2_isPlain ⟨Nat.le_of_ble_eq_true rfl, Nat.le_of_ble_eq_true rfl⟩ (Nat.le_of_ble_eq_true rfl) ⟨Nat.le_of_ble_eq_true rfl, Nat.le_of_ble_eq_true rfl⟩ rfl dL_isPlain_4 (fun E9 w9 h9 => hpx E9 w9 h9) (fun r9 w9 h9 => ?_)
  obtain ⟨he0, e9, T9, U9, tx9, sz9, rfl⟩ := h9
  refine p_int e9 ?_
  refine p_if_eq C 14 (by decide) dL_isPlain_7 (fun c_7 => ?_) (fun c_7 => ?_)
  · have z_c := c_7
    refine p_lconst (v := 0) C (by decide) dL_isPlain_14 ?_
    refine p_last (w9 := (KW k ad r (nI n) R T9 U9 tx9 sz9 ((oa, aL k 1 (vp_updL g 0 0)) :: Y))) C 22 KW_y (vp_in_nI (n := 0) (N := 1) (by omega) (by omega)) KW_ys dL_isPlain_15 ?_
    refine p_goto C 22 (by decide) dL_isPlain_16 ?_
    refine p_iconst (v := 0) C (by decide) dL_isPlain_22 ?_
    rw [hQ]
    exact rw_i C hrt9 (⟨he0.symm, _, _, _, _, _, by rw [he0, sel_0, sel_0], fun _ => updL_0.trans (by rw [z_c]; rfl)⟩) (by decide) (by decide) dL_isPlain_23
  · have z_c := bI_ne1 c_7
    refine p_lconst (v := 1) C (by decide) dL_isPlain_10 ?_
    refine p_goto C 15 (by decide) dL_isPlain_11 ?_
    refine p_last (w9 := (KW k ad r (nI n) R T9 U9 tx9 sz9 ((oa, aL k 1 (vp_updL g 0 1)) :: Y))) C 22 KW_y (vp_in_nI (n := 0) (N := 1) (by omega) (by omega)) KW_ys dL_isPlain_15 ?_
    refine p_goto C 22 (by decide) dL_isPlain_16 ?_
    refine p_iconst (v := 0) C (by decide) dL_isPlain_22 ?_
    rw [hQ]
    exact rw_i C hrt9 (⟨he0.symm, _, _, _, _, _, by rw [he0, sel_0, sel_0], fun _ => updL_0.trans (by rw [z_c]; rfl)⟩) (by decide) (by decide) dL_isPlain_23
set_option maxHeartbeats 4000000 in
set_option maxRecDepth 100000 in
/-- L_content -/
theorem m_L_content (l : Launch) (D : va_G) (k : Nat → ClassId) (hfl : l.stackTraces = false) {ad r : Nat → Nat} {n : Nat} {R : Nat → Nat → Int32} {T U tx : Nat → Int32} {sz : Int32} {oa : Nat} {g : Nat → Int64} {Y : va_W} (hn : n ≤ 16) {rc : Int32} : CtI l D k yL_content (wH yL_content cL_content 4 (some .int) [(0, 8, 11, 19)]) (rmL 3 1 6) [.ref (ad 0), .int rc, .ref oa] (KW k ad r (nI n) R T U tx sz ((oa, aL k 1 g) :: Y)) (fun v9 w' => v9 = (e1 n rc) ∧ ∃ (T' U' tx' : Nat → Int32) (sz' : Int32) (g' : Nat → Int64), w' = (KW k ad r (sel (e1 n rc) (nI n) (nI n)) (sel (e1 n rc) R R) T' U' tx' sz' ((oa, aL k 1 g') :: Y)) ∧ ((e1 n rc) = 0 → g' 0 = (lN (ct (R (ix rc)))))) := by
  refine openW (own := RL) rfl (by decide) (Nat.le_of_ble_eq_true rfl) rfl ?_
  intro p e s m args below meth c A C hrt9 hnm hT
  obtain ⟨Q, hQ⟩ : ∃ Q, Q = (vx_MQ below (va_Qi (fun v9 w' => v9 = (e1 n rc) ∧ ∃ (T' U' tx' : Nat → Int32) (sz' : Int32) (g' : Nat → Int64), w' = (KW k ad r (sel (e1 n rc) (nI n) (nI n)) (sel (e1 n rc) R R) T' U' tx' sz' ((oa, aL k 1 g') :: Y)) ∧ ((e1 n rc) = 0 → g' 0 = (lN (ct (R (ix rc)))))) (cBA D A) A) (fun _ _ _ => False) args s 1 6 A) := ⟨_, rfl⟩
  show WP p l e (rmL 3 1 6) s m args below meth c D A 4 (KW k ad r (nI n) R T U tx sz ((oa, aL k 1 g) :: Y)) [(0, .ref (ad 0)), (1, .int rc), (2, .ref oa)] 0 0 (vx_MQ below (va_Qi (fun v9 w' => v9 = (e1 n rc) ∧ ∃ (T' U' tx' : Nat → Int32) (sz' : Int32) (g' : Nat → Int64), w' = (KW k ad r (sel (e1 n rc) (nI n) (nI n)) (sel (e1 n rc) R R) T' U' tx' sz' ((oa, aL k 1 g') :: Y)) ∧ ((e1 n rc) = 0 → g' 0 = (lN (ct (R (ix rc)))))) (cBA D A) A) (fun _ _ _ => False) args s 1 6 A) 0 []
  rw [← hQ]
  refine p_aload_n C rfl 2 rfl dL_content_0 ?_
  refine p_iconst (v := 0) C (by decide) dL_content_1 ?_
  refine p_aload_n C rfl 0 rfl dL_content_2 ?_
  refine p_iload_n C rfl 1 rfl dL_content_3 ?_
  have hx1 : ∀ (q9 : Nat) (T9 U9 tx9 : Nat → Int32) (sz9 : Int32), e1 n rc = 1 → WP p l e (rmL 3 1 6) s m args below meth c D A 4 (KW k ad r (nI n) R T9 U9 tx9 sz9 ((oa, aL k 1 g) :: Y)) [(0, .ref (ad 0)), (1, .int rc), (2, .ref oa)] 1 6 Q 11 [.ref q9] := by
    intro q9 T9 U9 tx9 sz9 he
    refine p_astore_n (lv9 := [(3, .ref q9), (0, .ref (ad 0)), (1, .int rc), (2, .ref oa)]) C rfl (by decide) rfl dL_content_11 ?_
    refine p_iconst (v := 1) C (by decide) dL_content_12 ?_
    rw [hQ]
    exact rw_i C hrt9 (⟨he.symm, _, _, _, _, _, by rw [he, sel_1, sel_1], fun z9 => absurd (he.symm.trans z9) (by decide)⟩) (by decide) (by decide) dL_content_13
  have hpx : ∀ (E9 : String) (w9 : va_W), (¬ e1 n rc = 0 ∧ E9 = exn (e1 n rc) ∧ ∃ (T9 U9 tx9 : Nat → Int32) (sz9 : Int32), w9 = (KW k ad r (nI n) R T9 U9 tx9 sz9 ((oa, aL k 1 g) :: Y))) → VX p l e (rmL 3 1 6) s m args below meth c D A 4 w9 [(0, .ref (ad 0)), (1, .int rc), (2, .ref oa)] 1 6 Q 4 [.int 0, .ref oa] E9 := by
    intro E9 w9 h9
    obtain ⟨hne, rfl, T9, U9, tx9, sz9, rfl⟩ := h9
    rcases cd_e1 n rc with he | he
    · exact absurd he hne
    · rw [he, exn_1]
      exact x_catch C (name := "java/lang/IndexOutOfBoundsException") (tableOf []) ⟨0, 8, 11, 19⟩ (tableOf []) hT (fun z9 hz9 => absurd hz9 List.not_mem_nil) (by decide) (by decide) qcl_L_19 (by decide) rfl (fun q9 => hx1 q9 T9 U9 tx9 sz9 he)
  refine cx_Vl (As := [.int rc]) (rest := [.int 0, .ref oa]) C (m_X2_content l D k hfl (hn := hn) (rc := rc)) 0 rfl rfl rfl qml_L_62 qim_X2_content qse_X2_X2_content qin_X2 qco_X2_content nd_X2_content ⟨Nat.le_of_ble_eq_true rfl, Nat.le_of_ble_eq_true rfl⟩ (Nat.le_of_ble_eq_true rfl) ⟨Nat.le_of_ble_eq_true rfl, Nat.le_of_ble_eq_true rfl⟩ rfl dL_content_4 (fun E9 w9 h9 => hpx E9 w9 h9) (fun r9 w9 h9 => ?_)
  obtain ⟨he0, e9, T9, U9, tx9, sz9, rfl⟩ := h9
  rw [e9]
  refine p_last (w9 := (KW k ad r (nI n) R T9 U9 tx9 sz9 ((oa, aL k 1 (vp_updL g 0 (lN (ct (R (ix rc)))))) :: Y))) C 22 KW_y (vp_in_nI (n := 0) (N := 1) (by omega) (by omega)) KW_ys dL_content_7 ?_
  refine p_goto C 14 (by decide) dL_content_8 ?_
  refine p_iconst (v := 0) C (by decide) dL_content_14 ?_
  rw [hQ]
  exact rw_i C hrt9 (⟨he0.symm, _, _, _, _, _, by rw [he0, sel_0, sel_0], fun _ => updL_0⟩) (by decide) (by decide) dL_content_15
set_option maxHeartbeats 4000000 in
set_option maxRecDepth 100000 in
/-- L_signChanges -/
theorem m_L_signChanges (l : Launch) (D : va_G) (k : Nat → ClassId) (hfl : l.stackTraces = false) {ad r : Nat → Nat} {n : Nat} {R : Nat → Nat → Int32} {T U tx : Nat → Int32} {sz : Int32} {oa : Nat} {g : Nat → Int64} {Y : va_W} (hn : n ≤ 16) {rc : Int32} : CtI l D k yL_signChanges (wH yL_signChanges cL_signChanges 4 (some .int) [(0, 9, 12, 19)]) (rmL 3 1 6) [.ref (ad 0), .int rc, .ref oa] (KW k ad r (nI n) R T U tx sz ((oa, aL k 1 g) :: Y)) (fun v9 w' => v9 = (e1 n rc) ∧ ∃ (T' U' tx' : Nat → Int32) (sz' : Int32) (g' : Nat → Int64), w' = (KW k ad r (sel (e1 n rc) (nI n) (nI n)) (sel (e1 n rc) R R) T' U' tx' sz' ((oa, aL k 1 g') :: Y)) ∧ ((e1 n rc) = 0 → g' 0 = (nI (sc (R (ix rc)))).toInt64)) := by
  refine openW (own := RL) rfl (by decide) (Nat.le_of_ble_eq_true rfl) rfl ?_
  intro p e s m args below meth c A C hrt9 hnm hT
  obtain ⟨Q, hQ⟩ : ∃ Q, Q = (vx_MQ below (va_Qi (fun v9 w' => v9 = (e1 n rc) ∧ ∃ (T' U' tx' : Nat → Int32) (sz' : Int32) (g' : Nat → Int64), w' = (KW k ad r (sel (e1 n rc) (nI n) (nI n)) (sel (e1 n rc) R R) T' U' tx' sz' ((oa, aL k 1 g') :: Y)) ∧ ((e1 n rc) = 0 → g' 0 = (nI (sc (R (ix rc)))).toInt64)) (cBA D A) A) (fun _ _ _ => False) args s 1 6 A) := ⟨_, rfl⟩
  show WP p l e (rmL 3 1 6) s m args below meth c D A 4 (KW k ad r (nI n) R T U tx sz ((oa, aL k 1 g) :: Y)) [(0, .ref (ad 0)), (1, .int rc), (2, .ref oa)] 0 0 (vx_MQ below (va_Qi (fun v9 w' => v9 = (e1 n rc) ∧ ∃ (T' U' tx' : Nat → Int32) (sz' : Int32) (g' : Nat → Int64), w' = (KW k ad r (sel (e1 n rc) (nI n) (nI n)) (sel (e1 n rc) R R) T' U' tx' sz' ((oa, aL k 1 g') :: Y)) ∧ ((e1 n rc) = 0 → g' 0 = (nI (sc (R (ix rc)))).toInt64)) (cBA D A) A) (fun _ _ _ => False) args s 1 6 A) 0 []
  rw [← hQ]
  refine p_aload_n C rfl 2 rfl dL_signChanges_0 ?_
  refine p_iconst (v := 0) C (by decide) dL_signChanges_1 ?_
  refine p_aload_n C rfl 0 rfl dL_signChanges_2 ?_
  refine p_iload_n C rfl 1 rfl dL_signChanges_3 ?_
  have hx1 : ∀ (q9 : Nat) (T9 U9 tx9 : Nat → Int32) (sz9 : Int32), e1 n rc = 1 → WP p l e (rmL 3 1 6) s m args below meth c D A 4 (KW k ad r (nI n) R T9 U9 tx9 sz9 ((oa, aL k 1 g) :: Y)) [(0, .ref (ad 0)), (1, .int rc), (2, .ref oa)] 1 6 Q 12 [.ref q9] := by
    intro q9 T9 U9 tx9 sz9 he
    refine p_astore_n (lv9 := [(3, .ref q9), (0, .ref (ad 0)), (1, .int rc), (2, .ref oa)]) C rfl (by decide) rfl dL_signChanges_12 ?_
    refine p_iconst (v := 1) C (by decide) dL_signChanges_13 ?_
    rw [hQ]
    exact rw_i C hrt9 (⟨he.symm, _, _, _, _, _, by rw [he, sel_1, sel_1], fun z9 => absurd (he.symm.trans z9) (by decide)⟩) (by decide) (by decide) dL_signChanges_14
  have hpx : ∀ (E9 : String) (w9 : va_W), (¬ e1 n rc = 0 ∧ E9 = exn (e1 n rc) ∧ ∃ (T9 U9 tx9 : Nat → Int32) (sz9 : Int32), w9 = (KW k ad r (nI n) R T9 U9 tx9 sz9 ((oa, aL k 1 g) :: Y))) → VX p l e (rmL 3 1 6) s m args below meth c D A 4 w9 [(0, .ref (ad 0)), (1, .int rc), (2, .ref oa)] 1 6 Q 4 [.int 0, .ref oa] E9 := by
    intro E9 w9 h9
    obtain ⟨hne, rfl, T9, U9, tx9, sz9, rfl⟩ := h9
    rcases cd_e1 n rc with he | he
    · exact absurd he hne
    · rw [he, exn_1]
      exact x_catch C (name := "java/lang/IndexOutOfBoundsException") (tableOf []) ⟨0, 9, 12, 19⟩ (tableOf []) hT (fun z9 hz9 => absurd hz9 List.not_mem_nil) (by decide) (by decide) qcl_L_19 (by decide) rfl (fun q9 => hx1 q9 T9 U9 tx9 sz9 he)
  refine cx_Vi (As := [.int rc]) (rest := [.int 0, .ref oa]) C (m_X2_signChanges l D k hfl (hn := hn) (rc := rc)) 0 rfl rfl rfl qml_L_66 qim_X2_signChanges qse_X2_X2_signChanges qin_X2 qco_X2_signChanges nd_X2_signChanges ⟨Nat.le_of_ble_eq_true rfl, Nat.le_of_ble_eq_true rfl⟩ (Nat.le_of_ble_eq_true rfl) ⟨Nat.le_of_ble_eq_true rfl, Nat.le_of_ble_eq_true rfl⟩ rfl dL_signChanges_4 (fun E9 w9 h9 => hpx E9 w9 h9) (fun r9 w9 h9 => ?_)
  obtain ⟨he0, e9, T9, U9, tx9, sz9, rfl⟩ := h9
  refine p_int e9 ?_
  refine p_i2l C dL_signChanges_7 ?_
  refine p_last (w9 := (KW k ad r (nI n) R T9 U9 tx9 sz9 ((oa, aL k 1 (vp_updL g 0 ((nI (sc (R (ix rc)))).toInt64))) :: Y))) C 22 KW_y (vp_in_nI (n := 0) (N := 1) (by omega) (by omega)) KW_ys dL_signChanges_8 ?_
  refine p_goto C 15 (by decide) dL_signChanges_9 ?_
  refine p_iconst (v := 0) C (by decide) dL_signChanges_15 ?_
  rw [hQ]
  exact rw_i C hrt9 (⟨he0.symm, _, _, _, _, _, by rw [he0, sel_0, sel_0], fun _ => updL_0⟩) (by decide) (by decide) dL_signChanges_16
set_option maxHeartbeats 4000000 in
set_option maxRecDepth 100000 in
/-- L_hunger -/
theorem m_L_hunger (l : Launch) (D : va_G) (k : Nat → ClassId) (hfl : l.stackTraces = false) {ad r : Nat → Nat} {n : Nat} {R : Nat → Nat → Int32} {T U tx : Nat → Int32} {sz : Int32} {oa : Nat} {g : Nat → Int64} {Y : va_W} (hn : n ≤ 16) {rc x : Int32} : CtI l D k yL_hunger (wH yL_hunger cL_hunger 5 (some .int) [(0, 10, 13, 19)]) (rmL 3 1 6) [.ref (ad 0), .int rc, .int x, .ref oa] (KW k ad r (nI n) R T U tx sz ((oa, aL k 1 g) :: Y)) (fun v9 w' => v9 = (e1 n rc) ∧ ∃ (T' U' tx' : Nat → Int32) (sz' : Int32) (g' : Nat → Int64), w' = (KW k ad r (sel (e1 n rc) (nI n) (nI n)) (sel (e1 n rc) R R) T' U' tx' sz' ((oa, aL k 1 g') :: Y)) ∧ ((e1 n rc) = 0 → g' 0 = (hg (R (ix rc)) x).toInt64)) := by
  refine openW (own := RL) rfl (by decide) (Nat.le_of_ble_eq_true rfl) rfl ?_
  intro p e s m args below meth c A C hrt9 hnm hT
  obtain ⟨Q, hQ⟩ : ∃ Q, Q = (vx_MQ below (va_Qi (fun v9 w' => v9 = (e1 n rc) ∧ ∃ (T' U' tx' : Nat → Int32) (sz' : Int32) (g' : Nat → Int64), w' = (KW k ad r (sel (e1 n rc) (nI n) (nI n)) (sel (e1 n rc) R R) T' U' tx' sz' ((oa, aL k 1 g') :: Y)) ∧ ((e1 n rc) = 0 → g' 0 = (hg (R (ix rc)) x).toInt64)) (cBA D A) A) (fun _ _ _ => False) args s 1 6 A) := ⟨_, rfl⟩
  show WP p l e (rmL 3 1 6) s m args below meth c D A 5 (KW k ad r (nI n) R T U tx sz ((oa, aL k 1 g) :: Y)) [(0, .ref (ad 0)), (1, .int rc), (2, .int x), (3, .ref oa)] 0 0 (vx_MQ below (va_Qi (fun v9 w' => v9 = (e1 n rc) ∧ ∃ (T' U' tx' : Nat → Int32) (sz' : Int32) (g' : Nat → Int64), w' = (KW k ad r (sel (e1 n rc) (nI n) (nI n)) (sel (e1 n rc) R R) T' U' tx' sz' ((oa, aL k 1 g') :: Y)) ∧ ((e1 n rc) = 0 → g' 0 = (hg (R (ix rc)) x).toInt64)) (cBA D A) A) (fun _ _ _ => False) args s 1 6 A) 0 []
  rw [← hQ]
  refine p_aload_n C rfl 3 rfl dL_hunger_0 ?_
  refine p_iconst (v := 0) C (by decide) dL_hunger_1 ?_
  refine p_aload_n C rfl 0 rfl dL_hunger_2 ?_
  refine p_iload_n C rfl 1 rfl dL_hunger_3 ?_
  refine p_iload_n C rfl 2 rfl dL_hunger_4 ?_
  have hx1 : ∀ (q9 : Nat) (T9 U9 tx9 : Nat → Int32) (sz9 : Int32), e1 n rc = 1 → WP p l e (rmL 3 1 6) s m args below meth c D A 5 (KW k ad r (nI n) R T9 U9 tx9 sz9 ((oa, aL k 1 g) :: Y)) [(0, .ref (ad 0)), (1, .int rc), (2, .int x), (3, .ref oa)] 1 6 Q 13 [.ref q9] := by
    intro q9 T9 U9 tx9 sz9 he
    refine p_astore (lv9 := [(4, .ref q9), (0, .ref (ad 0)), (1, .int rc), (2, .int x), (3, .ref oa)]) C (by decide) rfl dL_hunger_13 ?_
    refine p_iconst (v := 1) C (by decide) dL_hunger_15 ?_
    rw [hQ]
    exact rw_i C hrt9 (⟨he.symm, _, _, _, _, _, by rw [he, sel_1, sel_1], fun z9 => absurd (he.symm.trans z9) (by decide)⟩) (by decide) (by decide) dL_hunger_16
  have hpx : ∀ (E9 : String) (w9 : va_W), (¬ e1 n rc = 0 ∧ E9 = exn (e1 n rc) ∧ ∃ (T9 U9 tx9 : Nat → Int32) (sz9 : Int32), w9 = (KW k ad r (nI n) R T9 U9 tx9 sz9 ((oa, aL k 1 g) :: Y))) → VX p l e (rmL 3 1 6) s m args below meth c D A 5 w9 [(0, .ref (ad 0)), (1, .int rc), (2, .int x), (3, .ref oa)] 1 6 Q 5 [.int 0, .ref oa] E9 := by
    intro E9 w9 h9
    obtain ⟨hne, rfl, T9, U9, tx9, sz9, rfl⟩ := h9
    rcases cd_e1 n rc with he | he
    · exact absurd he hne
    · rw [he, exn_1]
      exact x_catch C (name := "java/lang/IndexOutOfBoundsException") (tableOf []) ⟨0, 10, 13, 19⟩ (tableOf []) hT (fun z9 hz9 => absurd hz9 List.not_mem_nil) (by decide) (by decide) qcl_L_19 (by decide) rfl (fun q9 => hx1 q9 T9 U9 tx9 sz9 he)
  refine cx_Vi (As := [.int rc, .int x]) (rest := [.int 0, .ref oa]) C (m_X2_hunger l D k hfl (hn := hn) (rc := rc) (x := x)) 0 rfl rfl rfl qml_L_69 qim_X2_hunger qse_X2_X2_hunger qin_X2 qco_X2_hunger nd_X2_hunger ⟨Nat.le_of_ble_eq_true rfl, Nat.le_of_ble_eq_true rfl⟩ (Nat.le_of_ble_eq_true rfl) ⟨Nat.le_of_ble_eq_true rfl, Nat.le_of_ble_eq_true rfl⟩ rfl dL_hunger_5 (fun E9 w9 h9 => hpx E9 w9 h9) (fun r9 w9 h9 => ?_)
  obtain ⟨he0, e9, T9, U9, tx9, sz9, rfl⟩ := h9
  refine p_int e9 ?_
  refine p_i2l C dL_hunger_8 ?_
  refine p_last (w9 := (KW k ad r (nI n) R T9 U9 tx9 sz9 ((oa, aL k 1 (vp_updL g 0 ((hg (R (ix rc)) x).toInt64))) :: Y))) C 22 KW_y (vp_in_nI (n := 0) (N := 1) (by omega) (by omega)) KW_ys dL_hunger_9 ?_
  refine p_goto C 17 (by decide) dL_hunger_10 ?_
  refine p_iconst (v := 0) C (by decide) dL_hunger_17 ?_
  rw [hQ]
  exact rw_i C hrt9 (⟨he0.symm, _, _, _, _, _, by rw [he0, sel_0, sel_0], fun _ => updL_0⟩) (by decide) (by decide) dL_hunger_18
set_option maxHeartbeats 4000000 in
set_option maxRecDepth 100000 in
/-- L_idleGuests -/
theorem m_L_idleGuests (l : Launch) (D : va_G) (k : Nat → ClassId) (hfl : l.stackTraces = false) {ad r : Nat → Nat} {n : Nat} {R : Nat → Nat → Int32} {T U tx : Nat → Int32} {sz : Int32} {oa : Nat} {g : Nat → Int64} {Y : va_W} (hn : n ≤ 16) {rc : Int32} : CtI l D k yL_idleGuests (wH yL_idleGuests cL_idleGuests 4 (some .int) [(0, 9, 12, 19)]) (rmL 3 1 6) [.ref (ad 0), .int rc, .ref oa] (KW k ad r (nI n) R T U tx sz ((oa, aL k 1 g) :: Y)) (fun v9 w' => v9 = (e1 n rc) ∧ ∃ (T' U' tx' : Nat → Int32) (sz' : Int32) (g' : Nat → Int64), w' = (KW k ad r (sel (e1 n rc) (nI n) (nI n)) (sel (e1 n rc) R R) T' U' tx' sz' ((oa, aL k 1 g') :: Y)) ∧ ((e1 n rc) = 0 → g' 0 = (nI (idl (R (ix rc)))).toInt64)) := by
  refine openW (own := RL) rfl (by decide) (Nat.le_of_ble_eq_true rfl) rfl ?_
  intro p e s m args below meth c A C hrt9 hnm hT
  obtain ⟨Q, hQ⟩ : ∃ Q, Q = (vx_MQ below (va_Qi (fun v9 w' => v9 = (e1 n rc) ∧ ∃ (T' U' tx' : Nat → Int32) (sz' : Int32) (g' : Nat → Int64), w' = (KW k ad r (sel (e1 n rc) (nI n) (nI n)) (sel (e1 n rc) R R) T' U' tx' sz' ((oa, aL k 1 g') :: Y)) ∧ ((e1 n rc) = 0 → g' 0 = (nI (idl (R (ix rc)))).toInt64)) (cBA D A) A) (fun _ _ _ => False) args s 1 6 A) := ⟨_, rfl⟩
  show WP p l e (rmL 3 1 6) s m args below meth c D A 4 (KW k ad r (nI n) R T U tx sz ((oa, aL k 1 g) :: Y)) [(0, .ref (ad 0)), (1, .int rc), (2, .ref oa)] 0 0 (vx_MQ below (va_Qi (fun v9 w' => v9 = (e1 n rc) ∧ ∃ (T' U' tx' : Nat → Int32) (sz' : Int32) (g' : Nat → Int64), w' = (KW k ad r (sel (e1 n rc) (nI n) (nI n)) (sel (e1 n rc) R R) T' U' tx' sz' ((oa, aL k 1 g') :: Y)) ∧ ((e1 n rc) = 0 → g' 0 = (nI (idl (R (ix rc)))).toInt64)) (cBA D A) A) (fun _ _ _ => False) args s 1 6 A) 0 []
  rw [← hQ]
  refine p_aload_n C rfl 2 rfl dL_idleGuests_0 ?_
  refine p_iconst (v := 0) C (by decide) dL_idleGuests_1 ?_
  refine p_aload_n C rfl 0 rfl dL_idleGuests_2 ?_
  refine p_iload_n C rfl 1 rfl dL_idleGuests_3 ?_
  have hx1 : ∀ (q9 : Nat) (T9 U9 tx9 : Nat → Int32) (sz9 : Int32), e1 n rc = 1 → WP p l e (rmL 3 1 6) s m args below meth c D A 4 (KW k ad r (nI n) R T9 U9 tx9 sz9 ((oa, aL k 1 g) :: Y)) [(0, .ref (ad 0)), (1, .int rc), (2, .ref oa)] 1 6 Q 12 [.ref q9] := by
    intro q9 T9 U9 tx9 sz9 he
    refine p_astore_n (lv9 := [(3, .ref q9), (0, .ref (ad 0)), (1, .int rc), (2, .ref oa)]) C rfl (by decide) rfl dL_idleGuests_12 ?_
    refine p_iconst (v := 1) C (by decide) dL_idleGuests_13 ?_
    rw [hQ]
    exact rw_i C hrt9 (⟨he.symm, _, _, _, _, _, by rw [he, sel_1, sel_1], fun z9 => absurd (he.symm.trans z9) (by decide)⟩) (by decide) (by decide) dL_idleGuests_14
  have hpx : ∀ (E9 : String) (w9 : va_W), (¬ e1 n rc = 0 ∧ E9 = exn (e1 n rc) ∧ ∃ (T9 U9 tx9 : Nat → Int32) (sz9 : Int32), w9 = (KW k ad r (nI n) R T9 U9 tx9 sz9 ((oa, aL k 1 g) :: Y))) → VX p l e (rmL 3 1 6) s m args below meth c D A 4 w9 [(0, .ref (ad 0)), (1, .int rc), (2, .ref oa)] 1 6 Q 4 [.int 0, .ref oa] E9 := by
    intro E9 w9 h9
    obtain ⟨hne, rfl, T9, U9, tx9, sz9, rfl⟩ := h9
    rcases cd_e1 n rc with he | he
    · exact absurd he hne
    · rw [he, exn_1]
      exact x_catch C (name := "java/lang/IndexOutOfBoundsException") (tableOf []) ⟨0, 9, 12, 19⟩ (tableOf []) hT (fun z9 hz9 => absurd hz9 List.not_mem_nil) (by decide) (by decide) qcl_L_19 (by decide) rfl (fun q9 => hx1 q9 T9 U9 tx9 sz9 he)
  refine cx_Vi (As := [.int rc]) (rest := [.int 0, .ref oa]) C (m_X2_idleGuests l D k hfl (hn := hn) (rc := rc)) 0 rfl rfl rfl qml_L_72 qim_X2_idleGuests qse_X2_X2_idleGuests qin_X2 qco_X2_idleGuests nd_X2_idleGuests ⟨Nat.le_of_ble_eq_true rfl, Nat.le_of_ble_eq_true rfl⟩ (Nat.le_of_ble_eq_true rfl) ⟨Nat.le_of_ble_eq_true rfl, Nat.le_of_ble_eq_true rfl⟩ rfl dL_idleGuests_4 (fun E9 w9 h9 => hpx E9 w9 h9) (fun r9 w9 h9 => ?_)
  obtain ⟨he0, e9, T9, U9, tx9, sz9, rfl⟩ := h9
  refine p_int e9 ?_
  refine p_i2l C dL_idleGuests_7 ?_
  refine p_last (w9 := (KW k ad r (nI n) R T9 U9 tx9 sz9 ((oa, aL k 1 (vp_updL g 0 ((nI (idl (R (ix rc)))).toInt64))) :: Y))) C 22 KW_y (vp_in_nI (n := 0) (N := 1) (by omega) (by omega)) KW_ys dL_idleGuests_8 ?_
  refine p_goto C 15 (by decide) dL_idleGuests_9 ?_
  refine p_iconst (v := 0) C (by decide) dL_idleGuests_15 ?_
  rw [hQ]
  exact rw_i C hrt9 (⟨he0.symm, _, _, _, _, _, by rw [he0, sel_0, sel_0], fun _ => updL_0⟩) (by decide) (by decide) dL_idleGuests_16
set_option maxHeartbeats 4000000 in
set_option maxRecDepth 100000 in
/-- L_firstIdle -/
theorem m_L_firstIdle (l : Launch) (D : va_G) (k : Nat → ClassId) (hfl : l.stackTraces = false) {ad r : Nat → Nat} {n : Nat} {R : Nat → Nat → Int32} {T U tx : Nat → Int32} {sz : Int32} {oa : Nat} {g : Nat → Int64} {Y : va_W} (hn : n ≤ 16) {rc : Int32} : CtI l D k yL_firstIdle (wH yL_firstIdle cL_firstIdle 4 (some .int) [(0, 9, 12, 19)]) (rmL 3 1 6) [.ref (ad 0), .int rc, .ref oa] (KW k ad r (nI n) R T U tx sz ((oa, aL k 1 g) :: Y)) (fun v9 w' => v9 = (e1 n rc) ∧ ∃ (T' U' tx' : Nat → Int32) (sz' : Int32) (g' : Nat → Int64), w' = (KW k ad r (sel (e1 n rc) (nI n) (nI n)) (sel (e1 n rc) R R) T' U' tx' sz' ((oa, aL k 1 g') :: Y)) ∧ ((e1 n rc) = 0 → g' 0 = (fi (R (ix rc))).toInt64)) := by
  refine openW (own := RL) rfl (by decide) (Nat.le_of_ble_eq_true rfl) rfl ?_
  intro p e s m args below meth c A C hrt9 hnm hT
  obtain ⟨Q, hQ⟩ : ∃ Q, Q = (vx_MQ below (va_Qi (fun v9 w' => v9 = (e1 n rc) ∧ ∃ (T' U' tx' : Nat → Int32) (sz' : Int32) (g' : Nat → Int64), w' = (KW k ad r (sel (e1 n rc) (nI n) (nI n)) (sel (e1 n rc) R R) T' U' tx' sz' ((oa, aL k 1 g') :: Y)) ∧ ((e1 n rc) = 0 → g' 0 = (fi (R (ix rc))).toInt64)) (cBA D A) A) (fun _ _ _ => False) args s 1 6 A) := ⟨_, rfl⟩
  show WP p l e (rmL 3 1 6) s m args below meth c D A 4 (KW k ad r (nI n) R T U tx sz ((oa, aL k 1 g) :: Y)) [(0, .ref (ad 0)), (1, .int rc), (2, .ref oa)] 0 0 (vx_MQ below (va_Qi (fun v9 w' => v9 = (e1 n rc) ∧ ∃ (T' U' tx' : Nat → Int32) (sz' : Int32) (g' : Nat → Int64), w' = (KW k ad r (sel (e1 n rc) (nI n) (nI n)) (sel (e1 n rc) R R) T' U' tx' sz' ((oa, aL k 1 g') :: Y)) ∧ ((e1 n rc) = 0 → g' 0 = (fi (R (ix rc))).toInt64)) (cBA D A) A) (fun _ _ _ => False) args s 1 6 A) 0 []
  rw [← hQ]
  refine p_aload_n C rfl 2 rfl dL_firstIdle_0 ?_
  refine p_iconst (v := 0) C (by decide) dL_firstIdle_1 ?_
  refine p_aload_n C rfl 0 rfl dL_firstIdle_2 ?_
  refine p_iload_n C rfl 1 rfl dL_firstIdle_3 ?_
  have hx1 : ∀ (q9 : Nat) (T9 U9 tx9 : Nat → Int32) (sz9 : Int32), e1 n rc = 1 → WP p l e (rmL 3 1 6) s m args below meth c D A 4 (KW k ad r (nI n) R T9 U9 tx9 sz9 ((oa, aL k 1 g) :: Y)) [(0, .ref (ad 0)), (1, .int rc), (2, .ref oa)] 1 6 Q 12 [.ref q9] := by
    intro q9 T9 U9 tx9 sz9 he
    refine p_astore_n (lv9 := [(3, .ref q9), (0, .ref (ad 0)), (1, .int rc), (2, .ref oa)]) C rfl (by decide) rfl dL_firstIdle_12 ?_
    refine p_iconst (v := 1) C (by decide) dL_firstIdle_13 ?_
    rw [hQ]
    exact rw_i C hrt9 (⟨he.symm, _, _, _, _, _, by rw [he, sel_1, sel_1], fun z9 => absurd (he.symm.trans z9) (by decide)⟩) (by decide) (by decide) dL_firstIdle_14
  have hpx : ∀ (E9 : String) (w9 : va_W), (¬ e1 n rc = 0 ∧ E9 = exn (e1 n rc) ∧ ∃ (T9 U9 tx9 : Nat → Int32) (sz9 : Int32), w9 = (KW k ad r (nI n) R T9 U9 tx9 sz9 ((oa, aL k 1 g) :: Y))) → VX p l e (rmL 3 1 6) s m args below meth c D A 4 w9 [(0, .ref (ad 0)), (1, .int rc), (2, .ref oa)] 1 6 Q 4 [.int 0, .ref oa] E9 := by
    intro E9 w9 h9
    obtain ⟨hne, rfl, T9, U9, tx9, sz9, rfl⟩ := h9
    rcases cd_e1 n rc with he | he
    · exact absurd he hne
    · rw [he, exn_1]
      exact x_catch C (name := "java/lang/IndexOutOfBoundsException") (tableOf []) ⟨0, 9, 12, 19⟩ (tableOf []) hT (fun z9 hz9 => absurd hz9 List.not_mem_nil) (by decide) (by decide) qcl_L_19 (by decide) rfl (fun q9 => hx1 q9 T9 U9 tx9 sz9 he)
  refine cx_Vi (As := [.int rc]) (rest := [.int 0, .ref oa]) C (m_X2_firstIdle l D k hfl (hn := hn) (rc := rc)) 0 rfl rfl rfl qml_L_75 qim_X2_firstIdle qse_X2_X2_firstIdle qin_X2 qco_X2_firstIdle nd_X2_firstIdle ⟨Nat.le_of_ble_eq_true rfl, Nat.le_of_ble_eq_true rfl⟩ (Nat.le_of_ble_eq_true rfl) ⟨Nat.le_of_ble_eq_true rfl, Nat.le_of_ble_eq_true rfl⟩ rfl dL_firstIdle_4 (fun E9 w9 h9 => hpx E9 w9 h9) (fun r9 w9 h9 => ?_)
  obtain ⟨he0, e9, T9, U9, tx9, sz9, rfl⟩ := h9
  refine p_int e9 ?_
  refine p_i2l C dL_firstIdle_7 ?_
  refine p_last (w9 := (KW k ad r (nI n) R T9 U9 tx9 sz9 ((oa, aL k 1 (vp_updL g 0 ((fi (R (ix rc))).toInt64))) :: Y))) C 22 KW_y (vp_in_nI (n := 0) (N := 1) (by omega) (by omega)) KW_ys dL_firstIdle_8 ?_
  refine p_goto C 15 (by decide) dL_firstIdle_9 ?_
  refine p_iconst (v := 0) C (by decide) dL_firstIdle_15 ?_
  rw [hQ]
  exact rw_i C hrt9 (⟨he0.symm, _, _, _, _, _, by rw [he0, sel_0, sel_0], fun _ => updL_0⟩) (by decide) (by decide) dL_firstIdle_16
set_option maxHeartbeats 4000000 in
set_option maxRecDepth 100000 in
/-- L_agreeAt -/
theorem m_L_agreeAt (l : Launch) (D : va_G) (k : Nat → ClassId) (hfl : l.stackTraces = false) {ad r : Nat → Nat} {n : Nat} {R : Nat → Nat → Int32} {T U tx : Nat → Int32} {sz : Int32} {oa : Nat} {g : Nat → Int64} {Y : va_W} (hn : n ≤ 16) {ra rb : Int32} : CtI l D k yL_agreeAt (wH yL_agreeAt cL_agreeAt 5 (some .int) [(0, 10, 13, 19)]) (rmL 3 2 12) [.ref (ad 0), .int ra, .int rb, .ref oa] (KW k ad r (nI n) R T U tx sz ((oa, aL k 1 g) :: Y)) (fun v9 w' => v9 = (e2 n ra rb) ∧ ∃ (T' U' tx' : Nat → Int32) (sz' : Int32) (g' : Nat → Int64), w' = (KW k ad r (sel (e2 n ra rb) (nI n) (nI n)) (sel (e2 n ra rb) R R) T' U' tx' sz' ((oa, aL k 1 g') :: Y)) ∧ ((e2 n ra rb) = 0 → g' 0 = (fi (fun q => (R (ix ra)) q - (R (ix rb)) q)).toInt64)) := by
  refine openW (own := RL) rfl (by decide) (Nat.le_of_ble_eq_true rfl) rfl ?_
  intro p e s m args below meth c A C hrt9 hnm hT
  obtain ⟨Q, hQ⟩ : ∃ Q, Q = (vx_MQ below (va_Qi (fun v9 w' => v9 = (e2 n ra rb) ∧ ∃ (T' U' tx' : Nat → Int32) (sz' : Int32) (g' : Nat → Int64), w' = (KW k ad r (sel (e2 n ra rb) (nI n) (nI n)) (sel (e2 n ra rb) R R) T' U' tx' sz' ((oa, aL k 1 g') :: Y)) ∧ ((e2 n ra rb) = 0 → g' 0 = (fi (fun q => (R (ix ra)) q - (R (ix rb)) q)).toInt64)) (cBA D A) A) (fun _ _ _ => False) args s 2 12 A) := ⟨_, rfl⟩
  show WP p l e (rmL 3 2 12) s m args below meth c D A 5 (KW k ad r (nI n) R T U tx sz ((oa, aL k 1 g) :: Y)) [(0, .ref (ad 0)), (1, .int ra), (2, .int rb), (3, .ref oa)] 0 0 (vx_MQ below (va_Qi (fun v9 w' => v9 = (e2 n ra rb) ∧ ∃ (T' U' tx' : Nat → Int32) (sz' : Int32) (g' : Nat → Int64), w' = (KW k ad r (sel (e2 n ra rb) (nI n) (nI n)) (sel (e2 n ra rb) R R) T' U' tx' sz' ((oa, aL k 1 g') :: Y)) ∧ ((e2 n ra rb) = 0 → g' 0 = (fi (fun q => (R (ix ra)) q - (R (ix rb)) q)).toInt64)) (cBA D A) A) (fun _ _ _ => False) args s 2 12 A) 0 []
  rw [← hQ]
  refine p_aload_n C rfl 3 rfl dL_agreeAt_0 ?_
  refine p_iconst (v := 0) C (by decide) dL_agreeAt_1 ?_
  refine p_aload_n C rfl 0 rfl dL_agreeAt_2 ?_
  refine p_iload_n C rfl 1 rfl dL_agreeAt_3 ?_
  refine p_iload_n C rfl 2 rfl dL_agreeAt_4 ?_
  have hx1 : ∀ (q9 : Nat) (T9 U9 tx9 : Nat → Int32) (sz9 : Int32), e2 n ra rb = 1 → WP p l e (rmL 3 2 12) s m args below meth c D A 5 (KW k ad r (nI n) R T9 U9 tx9 sz9 ((oa, aL k 1 g) :: Y)) [(0, .ref (ad 0)), (1, .int ra), (2, .int rb), (3, .ref oa)] 2 12 Q 13 [.ref q9] := by
    intro q9 T9 U9 tx9 sz9 he
    refine p_astore (lv9 := [(4, .ref q9), (0, .ref (ad 0)), (1, .int ra), (2, .int rb), (3, .ref oa)]) C (by decide) rfl dL_agreeAt_13 ?_
    refine p_iconst (v := 1) C (by decide) dL_agreeAt_15 ?_
    rw [hQ]
    exact rw_i C hrt9 (⟨he.symm, _, _, _, _, _, by rw [he, sel_1, sel_1], fun z9 => absurd (he.symm.trans z9) (by decide)⟩) (by decide) (by decide) dL_agreeAt_16
  have hpx : ∀ (E9 : String) (w9 : va_W), (¬ e2 n ra rb = 0 ∧ E9 = exn (e2 n ra rb) ∧ ∃ (T9 U9 tx9 : Nat → Int32) (sz9 : Int32), w9 = (KW k ad r (nI n) R T9 U9 tx9 sz9 ((oa, aL k 1 g) :: Y))) → VX p l e (rmL 3 2 12) s m args below meth c D A 5 w9 [(0, .ref (ad 0)), (1, .int ra), (2, .int rb), (3, .ref oa)] 2 12 Q 5 [.int 0, .ref oa] E9 := by
    intro E9 w9 h9
    obtain ⟨hne, rfl, T9, U9, tx9, sz9, rfl⟩ := h9
    rcases cd_e2 n ra rb with he | he
    · exact absurd he hne
    · rw [he, exn_1]
      exact x_catch C (name := "java/lang/IndexOutOfBoundsException") (tableOf []) ⟨0, 10, 13, 19⟩ (tableOf []) hT (fun z9 hz9 => absurd hz9 List.not_mem_nil) (by decide) (by decide) qcl_L_19 (by decide) rfl (fun q9 => hx1 q9 T9 U9 tx9 sz9 he)
  refine cx_Vi (As := [.int ra, .int rb]) (rest := [.int 0, .ref oa]) C (m_X2_agreeAt l D k hfl (hn := hn) (ra := ra) (rb := rb)) 0 rfl rfl rfl qml_L_78 qim_X2_agreeAt qse_X2_X2_agreeAt qin_X2 qco_X2_agreeAt nd_X2_agreeAt ⟨Nat.le_of_ble_eq_true rfl, Nat.le_of_ble_eq_true rfl⟩ (Nat.le_of_ble_eq_true rfl) ⟨Nat.le_of_ble_eq_true rfl, Nat.le_of_ble_eq_true rfl⟩ rfl dL_agreeAt_5 (fun E9 w9 h9 => hpx E9 w9 h9) (fun r9 w9 h9 => ?_)
  obtain ⟨he0, e9, T9, U9, tx9, sz9, rfl⟩ := h9
  refine p_int e9 ?_
  refine p_i2l C dL_agreeAt_8 ?_
  refine p_last (w9 := (KW k ad r (nI n) R T9 U9 tx9 sz9 ((oa, aL k 1 (vp_updL g 0 ((fi (fun q => (R (ix ra)) q - (R (ix rb)) q)).toInt64))) :: Y))) C 22 KW_y (vp_in_nI (n := 0) (N := 1) (by omega) (by omega)) KW_ys dL_agreeAt_9 ?_
  refine p_goto C 17 (by decide) dL_agreeAt_10 ?_
  refine p_iconst (v := 0) C (by decide) dL_agreeAt_17 ?_
  rw [hQ]
  exact rw_i C hrt9 (⟨he0.symm, _, _, _, _, _, by rw [he0, sel_0, sel_0], fun _ => updL_0⟩) (by decide) (by decide) dL_agreeAt_18
set_option maxHeartbeats 4000000 in
set_option maxRecDepth 100000 in
/-- L_cheapest -/
theorem m_L_cheapest (l : Launch) (D : va_G) (k : Nat → ClassId) (hfl : l.stackTraces = false) {ad r : Nat → Nat} {n : Nat} {R : Nat → Nat → Int32} {T U tx : Nat → Int32} {sz : Int32} {oa : Nat} {g : Nat → Int64} {Y : va_W} (hn : n ≤ 16) {rc : Int32} : CtI l D k yL_cheapest (wH yL_cheapest cL_cheapest 4 (some .int) [(0, 9, 12, 19)]) (rmL 3 1 6) [.ref (ad 0), .int rc, .ref oa] (KW k ad r (nI n) R T U tx sz ((oa, aL k 1 g) :: Y)) (fun v9 w' => v9 = (e1 n rc) ∧ ∃ (T' U' tx' : Nat → Int32) (sz' : Int32) (g' : Nat → Int64), w' = (KW k ad r (sel (e1 n rc) (nI n) (nI n)) (sel (e1 n rc) R R) T' U' tx' sz' ((oa, aL k 1 g') :: Y)) ∧ ((e1 n rc) = 0 → g' 0 = (nI (lea (R (ix rc)))).toInt64)) := by
  refine openW (own := RL) rfl (by decide) (Nat.le_of_ble_eq_true rfl) rfl ?_
  intro p e s m args below meth c A C hrt9 hnm hT
  obtain ⟨Q, hQ⟩ : ∃ Q, Q = (vx_MQ below (va_Qi (fun v9 w' => v9 = (e1 n rc) ∧ ∃ (T' U' tx' : Nat → Int32) (sz' : Int32) (g' : Nat → Int64), w' = (KW k ad r (sel (e1 n rc) (nI n) (nI n)) (sel (e1 n rc) R R) T' U' tx' sz' ((oa, aL k 1 g') :: Y)) ∧ ((e1 n rc) = 0 → g' 0 = (nI (lea (R (ix rc)))).toInt64)) (cBA D A) A) (fun _ _ _ => False) args s 1 6 A) := ⟨_, rfl⟩
  show WP p l e (rmL 3 1 6) s m args below meth c D A 4 (KW k ad r (nI n) R T U tx sz ((oa, aL k 1 g) :: Y)) [(0, .ref (ad 0)), (1, .int rc), (2, .ref oa)] 0 0 (vx_MQ below (va_Qi (fun v9 w' => v9 = (e1 n rc) ∧ ∃ (T' U' tx' : Nat → Int32) (sz' : Int32) (g' : Nat → Int64), w' = (KW k ad r (sel (e1 n rc) (nI n) (nI n)) (sel (e1 n rc) R R) T' U' tx' sz' ((oa, aL k 1 g') :: Y)) ∧ ((e1 n rc) = 0 → g' 0 = (nI (lea (R (ix rc)))).toInt64)) (cBA D A) A) (fun _ _ _ => False) args s 1 6 A) 0 []
  rw [← hQ]
  refine p_aload_n C rfl 2 rfl dL_cheapest_0 ?_
  refine p_iconst (v := 0) C (by decide) dL_cheapest_1 ?_
  refine p_aload_n C rfl 0 rfl dL_cheapest_2 ?_
  refine p_iload_n C rfl 1 rfl dL_cheapest_3 ?_
  have hx1 : ∀ (q9 : Nat) (T9 U9 tx9 : Nat → Int32) (sz9 : Int32), e1 n rc = 1 → WP p l e (rmL 3 1 6) s m args below meth c D A 4 (KW k ad r (nI n) R T9 U9 tx9 sz9 ((oa, aL k 1 g) :: Y)) [(0, .ref (ad 0)), (1, .int rc), (2, .ref oa)] 1 6 Q 12 [.ref q9] := by
    intro q9 T9 U9 tx9 sz9 he
    refine p_astore_n (lv9 := [(3, .ref q9), (0, .ref (ad 0)), (1, .int rc), (2, .ref oa)]) C rfl (by decide) rfl dL_cheapest_12 ?_
    refine p_iconst (v := 1) C (by decide) dL_cheapest_13 ?_
    rw [hQ]
    exact rw_i C hrt9 (⟨he.symm, _, _, _, _, _, by rw [he, sel_1, sel_1], fun z9 => absurd (he.symm.trans z9) (by decide)⟩) (by decide) (by decide) dL_cheapest_14
  have hpx : ∀ (E9 : String) (w9 : va_W), (¬ e1 n rc = 0 ∧ E9 = exn (e1 n rc) ∧ ∃ (T9 U9 tx9 : Nat → Int32) (sz9 : Int32), w9 = (KW k ad r (nI n) R T9 U9 tx9 sz9 ((oa, aL k 1 g) :: Y))) → VX p l e (rmL 3 1 6) s m args below meth c D A 4 w9 [(0, .ref (ad 0)), (1, .int rc), (2, .ref oa)] 1 6 Q 4 [.int 0, .ref oa] E9 := by
    intro E9 w9 h9
    obtain ⟨hne, rfl, T9, U9, tx9, sz9, rfl⟩ := h9
    rcases cd_e1 n rc with he | he
    · exact absurd he hne
    · rw [he, exn_1]
      exact x_catch C (name := "java/lang/IndexOutOfBoundsException") (tableOf []) ⟨0, 9, 12, 19⟩ (tableOf []) hT (fun z9 hz9 => absurd hz9 List.not_mem_nil) (by decide) (by decide) qcl_L_19 (by decide) rfl (fun q9 => hx1 q9 T9 U9 tx9 sz9 he)
  refine cx_Vi (As := [.int rc]) (rest := [.int 0, .ref oa]) C (m_X2_cheapest l D k hfl (hn := hn) (rc := rc)) 0 rfl rfl rfl qml_L_81 qim_X2_cheapest qse_X2_X2_cheapest qin_X2 qco_X2_cheapest nd_X2_cheapest ⟨Nat.le_of_ble_eq_true rfl, Nat.le_of_ble_eq_true rfl⟩ (Nat.le_of_ble_eq_true rfl) ⟨Nat.le_of_ble_eq_true rfl, Nat.le_of_ble_eq_true rfl⟩ rfl dL_cheapest_4 (fun E9 w9 h9 => hpx E9 w9 h9) (fun r9 w9 h9 => ?_)
  obtain ⟨he0, e9, T9, U9, tx9, sz9, rfl⟩ := h9
  refine p_int e9 ?_
  refine p_i2l C dL_cheapest_7 ?_
  refine p_last (w9 := (KW k ad r (nI n) R T9 U9 tx9 sz9 ((oa, aL k 1 (vp_updL g 0 ((nI (lea (R (ix rc)))).toInt64))) :: Y))) C 22 KW_y (vp_in_nI (n := 0) (N := 1) (by omega) (by omega)) KW_ys dL_cheapest_8 ?_
  refine p_goto C 15 (by decide) dL_cheapest_9 ?_
  refine p_iconst (v := 0) C (by decide) dL_cheapest_15 ?_
  rw [hQ]
  exact rw_i C hrt9 (⟨he0.symm, _, _, _, _, _, by rw [he0, sel_0, sel_0], fun _ => updL_0⟩) (by decide) (by decide) dL_cheapest_16
set_option maxHeartbeats 4000000 in
set_option maxRecDepth 100000 in
/-- L_hungerUpTo -/
theorem m_L_hungerUpTo (l : Launch) (D : va_G) (k : Nat → ClassId) (hfl : l.stackTraces = false) {ad r : Nat → Nat} {n : Nat} {R : Nat → Nat → Int32} {T U tx : Nat → Int32} {sz : Int32} {oa : Nat} {g : Nat → Int64} {Y : va_W} (hn : n ≤ 16) {rc x : Int32} : CtI l D k yL_hungerUpTo (wH yL_hungerUpTo cL_hungerUpTo 5 (some .int) [(0, 9, 12, 19), (0, 9, 16, 21)]) (rmL 3 2 12) [.ref (ad 0), .int rc, .int x, .ref oa] (KW k ad r (nI n) R T U tx sz ((oa, aL k 1 g) :: Y)) (fun v9 w' => v9 = (eUp n rc x) ∧ ∃ (T' U' tx' : Nat → Int32) (sz' : Int32) (g' : Nat → Int64), w' = (KW k ad r (sel (eUp n rc x) (nI n) (nI n)) (sel (eUp n rc x) R R) T' U' tx' sz' ((oa, aL k 1 g') :: Y)) ∧ ((eUp n rc x) = 0 → g' 0 = (huN (R (ix rc)) (ix x)))) := by
  refine openW (own := RL) rfl (by decide) (Nat.le_of_ble_eq_true rfl) rfl ?_
  intro p e s m args below meth c A C hrt9 hnm hT
  obtain ⟨Q, hQ⟩ : ∃ Q, Q = (vx_MQ below (va_Qi (fun v9 w' => v9 = (eUp n rc x) ∧ ∃ (T' U' tx' : Nat → Int32) (sz' : Int32) (g' : Nat → Int64), w' = (KW k ad r (sel (eUp n rc x) (nI n) (nI n)) (sel (eUp n rc x) R R) T' U' tx' sz' ((oa, aL k 1 g') :: Y)) ∧ ((eUp n rc x) = 0 → g' 0 = (huN (R (ix rc)) (ix x)))) (cBA D A) A) (fun _ _ _ => False) args s 2 12 A) := ⟨_, rfl⟩
  show WP p l e (rmL 3 2 12) s m args below meth c D A 5 (KW k ad r (nI n) R T U tx sz ((oa, aL k 1 g) :: Y)) [(0, .ref (ad 0)), (1, .int rc), (2, .int x), (3, .ref oa)] 0 0 (vx_MQ below (va_Qi (fun v9 w' => v9 = (eUp n rc x) ∧ ∃ (T' U' tx' : Nat → Int32) (sz' : Int32) (g' : Nat → Int64), w' = (KW k ad r (sel (eUp n rc x) (nI n) (nI n)) (sel (eUp n rc x) R R) T' U' tx' sz' ((oa, aL k 1 g') :: Y)) ∧ ((eUp n rc x) = 0 → g' 0 = (huN (R (ix rc)) (ix x)))) (cBA D A) A) (fun _ _ _ => False) args s 2 12 A) 0 []
  rw [← hQ]
  refine p_aload_n C rfl 3 rfl dL_hungerUpTo_0 ?_
  refine p_iconst (v := 0) C (by decide) dL_hungerUpTo_1 ?_
  refine p_aload_n C rfl 0 rfl dL_hungerUpTo_2 ?_
  refine p_iload_n C rfl 1 rfl dL_hungerUpTo_3 ?_
  refine p_iload_n C rfl 2 rfl dL_hungerUpTo_4 ?_
  have hx1 : ∀ (q9 : Nat) (T9 U9 tx9 : Nat → Int32) (sz9 : Int32), eUp n rc x = 1 → WP p l e (rmL 3 2 12) s m args below meth c D A 5 (KW k ad r (nI n) R T9 U9 tx9 sz9 ((oa, aL k 1 g) :: Y)) [(0, .ref (ad 0)), (1, .int rc), (2, .int x), (3, .ref oa)] 2 12 Q 12 [.ref q9] := by
    intro q9 T9 U9 tx9 sz9 he
    refine p_astore (lv9 := [(4, .ref q9), (0, .ref (ad 0)), (1, .int rc), (2, .int x), (3, .ref oa)]) C (by decide) rfl dL_hungerUpTo_12 ?_
    refine p_iconst (v := 1) C (by decide) dL_hungerUpTo_14 ?_
    rw [hQ]
    exact rw_i C hrt9 (⟨he.symm, _, _, _, _, _, by rw [he, sel_1, sel_1], fun z9 => absurd (he.symm.trans z9) (by decide)⟩) (by decide) (by decide) dL_hungerUpTo_15
  have hx2 : ∀ (q9 : Nat) (T9 U9 tx9 : Nat → Int32) (sz9 : Int32), eUp n rc x = 2 → WP p l e (rmL 3 2 12) s m args below meth c D A 5 (KW k ad r (nI n) R T9 U9 tx9 sz9 ((oa, aL k 1 g) :: Y)) [(0, .ref (ad 0)), (1, .int rc), (2, .int x), (3, .ref oa)] 2 12 Q 16 [.ref q9] := by
    intro q9 T9 U9 tx9 sz9 he
    refine p_astore (lv9 := [(4, .ref q9), (0, .ref (ad 0)), (1, .int rc), (2, .int x), (3, .ref oa)]) C (by decide) rfl dL_hungerUpTo_16 ?_
    refine p_iconst (v := 2) C (by decide) dL_hungerUpTo_18 ?_
    rw [hQ]
    exact rw_i C hrt9 (⟨he.symm, _, _, _, _, _, by rw [he, sel_2, sel_2], fun z9 => absurd (he.symm.trans z9) (by decide)⟩) (by decide) (by decide) dL_hungerUpTo_19
  have hpx : ∀ (E9 : String) (w9 : va_W), (¬ eUp n rc x = 0 ∧ E9 = exn (eUp n rc x) ∧ ∃ (T9 U9 tx9 : Nat → Int32) (sz9 : Int32), w9 = (KW k ad r (nI n) R T9 U9 tx9 sz9 ((oa, aL k 1 g) :: Y))) → VX p l e (rmL 3 2 12) s m args below meth c D A 5 w9 [(0, .ref (ad 0)), (1, .int rc), (2, .int x), (3, .ref oa)] 2 12 Q 5 [.int 0, .ref oa] E9 := by
    intro E9 w9 h9
    obtain ⟨hne, rfl, T9, U9, tx9, sz9, rfl⟩ := h9
    rcases cd_eUp n rc x with he | he | he
    · exact absurd he hne
    · rw [he, exn_1]
      exact x_catch C (name := "java/lang/IndexOutOfBoundsException") (tableOf []) ⟨0, 9, 12, 19⟩ (tableOf [(0, 9, 16, 21)]) hT (fun z9 hz9 => absurd hz9 List.not_mem_nil) (by decide) (by decide) qcl_L_19 (by decide) rfl (fun q9 => hx1 q9 T9 U9 tx9 sz9 he)
    · rw [he, exn_2]
      exact x_catch C (name := "java/lang/IllegalArgumentException") (tableOf [(0, 9, 12, 19)]) ⟨0, 9, 16, 21⟩ (tableOf []) hT (List.forall_mem_cons.mpr ⟨Or.inr ⟨by decide, _, qcl_L_19, by decide⟩, fun z9 hz9 => absurd hz9 List.not_mem_nil⟩) (by decide) (by decide) qcl_L_21 (by decide) rfl (fun q9 => hx2 q9 T9 U9 tx9 sz9 he)
  refine cx_Vl (As := [.int rc, .int x]) (rest := [.int 0, .ref oa]) C (m_X2_hungerUpTo l D k hfl (hn := hn) (rc := rc) (x := x)) 0 rfl rfl rfl qml_L_84 qim_X2_hungerUpTo qse_X2_X2_hungerUpTo qin_X2 qco_X2_hungerUpTo nd_X2_hungerUpTo ⟨Nat.le_of_ble_eq_true rfl, Nat.le_of_ble_eq_true rfl⟩ (Nat.le_of_ble_eq_true rfl) ⟨Nat.le_of_ble_eq_true rfl, Nat.le_of_ble_eq_true rfl⟩ rfl dL_hungerUpTo_5 (fun E9 w9 h9 => hpx E9 w9 h9) (fun r9 w9 h9 => ?_)
  obtain ⟨he0, e9, T9, U9, tx9, sz9, rfl⟩ := h9
  rw [e9]
  refine p_last (w9 := (KW k ad r (nI n) R T9 U9 tx9 sz9 ((oa, aL k 1 (vp_updL g 0 (huN (R (ix rc)) (ix x)))) :: Y))) C 22 KW_y (vp_in_nI (n := 0) (N := 1) (by omega) (by omega)) KW_ys dL_hungerUpTo_8 ?_
  refine p_goto C 20 (by decide) dL_hungerUpTo_9 ?_
  refine p_iconst (v := 0) C (by decide) dL_hungerUpTo_20 ?_
  rw [hQ]
  exact rw_i C hrt9 (⟨he0.symm, _, _, _, _, _, by rw [he0, sel_0, sel_0], fun _ => updL_0⟩) (by decide) (by decide) dL_hungerUpTo_21
set_option maxHeartbeats 4000000 in
set_option maxRecDepth 100000 in
/-- L_textLength -/
theorem m_L_textLength (l : Launch) (D : va_G) (k : Nat → ClassId) (hfl : l.stackTraces = false) {ad r : Nat → Nat} {n : Nat} {R : Nat → Nat → Int32} {T U tx : Nat → Int32} {sz : Int32} {oa : Nat} {g : Nat → Int64} {Y : va_W} (hn : n ≤ 16) {rc : Int32} : CtI l D k yL_textLength (wH yL_textLength cL_textLength 4 (some .int) [(0, 9, 12, 19)]) (rmL 6 1 6) [.ref (ad 0), .int rc, .ref oa] (KW k ad r (nI n) R T U tx sz ((oa, aL k 1 g) :: Y)) (fun v9 w' => v9 = (e1 n rc) ∧ ∃ (T' U' tx' : Nat → Int32) (sz' : Int32) (g' : Nat → Int64), w' = (KW k ad r (sel (e1 n rc) (nI n) (nI n)) (sel (e1 n rc) R R) T' U' tx' sz' ((oa, aL k 1 g') :: Y)) ∧ ((e1 n rc) = 0 → g' 0 = (nI (tx_ (R (ix rc))).length).toInt64)) := by
  refine openW (own := RL) rfl (by decide) (Nat.le_of_ble_eq_true rfl) rfl ?_
  intro p e s m args below meth c A C hrt9 hnm hT
  obtain ⟨Q, hQ⟩ : ∃ Q, Q = (vx_MQ below (va_Qi (fun v9 w' => v9 = (e1 n rc) ∧ ∃ (T' U' tx' : Nat → Int32) (sz' : Int32) (g' : Nat → Int64), w' = (KW k ad r (sel (e1 n rc) (nI n) (nI n)) (sel (e1 n rc) R R) T' U' tx' sz' ((oa, aL k 1 g') :: Y)) ∧ ((e1 n rc) = 0 → g' 0 = (nI (tx_ (R (ix rc))).length).toInt64)) (cBA D A) A) (fun _ _ _ => False) args s 1 6 A) := ⟨_, rfl⟩
  show WP p l e (rmL 6 1 6) s m args below meth c D A 4 (KW k ad r (nI n) R T U tx sz ((oa, aL k 1 g) :: Y)) [(0, .ref (ad 0)), (1, .int rc), (2, .ref oa)] 0 0 (vx_MQ below (va_Qi (fun v9 w' => v9 = (e1 n rc) ∧ ∃ (T' U' tx' : Nat → Int32) (sz' : Int32) (g' : Nat → Int64), w' = (KW k ad r (sel (e1 n rc) (nI n) (nI n)) (sel (e1 n rc) R R) T' U' tx' sz' ((oa, aL k 1 g') :: Y)) ∧ ((e1 n rc) = 0 → g' 0 = (nI (tx_ (R (ix rc))).length).toInt64)) (cBA D A) A) (fun _ _ _ => False) args s 1 6 A) 0 []
  rw [← hQ]
  refine p_aload_n C rfl 2 rfl dL_textLength_0 ?_
  refine p_iconst (v := 0) C (by decide) dL_textLength_1 ?_
  refine p_aload_n C rfl 0 rfl dL_textLength_2 ?_
  refine p_iload_n C rfl 1 rfl dL_textLength_3 ?_
  have hx1 : ∀ (q9 : Nat) (T9 U9 tx9 : Nat → Int32) (sz9 : Int32), e1 n rc = 1 → WP p l e (rmL 6 1 6) s m args below meth c D A 4 (KW k ad r (nI n) R T9 U9 tx9 sz9 ((oa, aL k 1 g) :: Y)) [(0, .ref (ad 0)), (1, .int rc), (2, .ref oa)] 1 6 Q 12 [.ref q9] := by
    intro q9 T9 U9 tx9 sz9 he
    refine p_astore_n (lv9 := [(3, .ref q9), (0, .ref (ad 0)), (1, .int rc), (2, .ref oa)]) C rfl (by decide) rfl dL_textLength_12 ?_
    refine p_iconst (v := 1) C (by decide) dL_textLength_13 ?_
    rw [hQ]
    exact rw_i C hrt9 (⟨he.symm, _, _, _, _, _, by rw [he, sel_1, sel_1], fun z9 => absurd (he.symm.trans z9) (by decide)⟩) (by decide) (by decide) dL_textLength_14
  have hpx : ∀ (E9 : String) (w9 : va_W), (¬ e1 n rc = 0 ∧ E9 = exn (e1 n rc) ∧ ∃ (T9 U9 tx9 : Nat → Int32) (sz9 : Int32), w9 = (KW k ad r (nI n) R T9 U9 tx9 sz9 ((oa, aL k 1 g) :: Y))) → VX p l e (rmL 6 1 6) s m args below meth c D A 4 w9 [(0, .ref (ad 0)), (1, .int rc), (2, .ref oa)] 1 6 Q 4 [.int 0, .ref oa] E9 := by
    intro E9 w9 h9
    obtain ⟨hne, rfl, T9, U9, tx9, sz9, rfl⟩ := h9
    rcases cd_e1 n rc with he | he
    · exact absurd he hne
    · rw [he, exn_1]
      exact x_catch C (name := "java/lang/IndexOutOfBoundsException") (tableOf []) ⟨0, 9, 12, 19⟩ (tableOf []) hT (fun z9 hz9 => absurd hz9 List.not_mem_nil) (by decide) (by decide) qcl_L_19 (by decide) rfl (fun q9 => hx1 q9 T9 U9 tx9 sz9 he)
  refine cx_Vi (As := [.int rc]) (rest := [.int 0, .ref oa]) C (m_X2_textLength l D k hfl (hn := hn) (rc := rc)) 0 rfl rfl rfl qml_L_88 qim_X2_textLength qse_X2_X2_textLength qin_X2 qco_X2_textLength nd_X2_textLength ⟨Nat.le_of_ble_eq_true rfl, Nat.le_of_ble_eq_true rfl⟩ (Nat.le_of_ble_eq_true rfl) ⟨Nat.le_of_ble_eq_true rfl, Nat.le_of_ble_eq_true rfl⟩ rfl dL_textLength_4 (fun E9 w9 h9 => hpx E9 w9 h9) (fun r9 w9 h9 => ?_)
  obtain ⟨he0, e9, T9, U9, tx9, sz9, rfl⟩ := h9
  refine p_int e9 ?_
  refine p_i2l C dL_textLength_7 ?_
  refine p_last (w9 := (KW k ad r (nI n) R T9 U9 tx9 sz9 ((oa, aL k 1 (vp_updL g 0 ((nI (tx_ (R (ix rc))).length).toInt64))) :: Y))) C 22 KW_y (vp_in_nI (n := 0) (N := 1) (by omega) (by omega)) KW_ys dL_textLength_8 ?_
  refine p_goto C 15 (by decide) dL_textLength_9 ?_
  refine p_iconst (v := 0) C (by decide) dL_textLength_15 ?_
  rw [hQ]
  exact rw_i C hrt9 (⟨he0.symm, _, _, _, _, _, by rw [he0, sel_0, sel_0], fun _ => updL_0⟩) (by decide) (by decide) dL_textLength_16
set_option maxHeartbeats 4000000 in
set_option maxRecDepth 100000 in
/-- L_textAt -/
theorem m_L_textAt (l : Launch) (D : va_G) (k : Nat → ClassId) (hfl : l.stackTraces = false) {ad r : Nat → Nat} {n : Nat} {R : Nat → Nat → Int32} {T U tx : Nat → Int32} {sz : Int32} {oa : Nat} {g : Nat → Int64} {Y : va_W} (hn : n ≤ 16) {rc a9 : Int32} : CtI l D k yL_textAt (wH yL_textAt cL_textAt 5 (some .int) [(0, 10, 13, 19)]) (rmL 6 2 12) [.ref (ad 0), .int rc, .int a9, .ref oa] (KW k ad r (nI n) R T U tx sz ((oa, aL k 1 g) :: Y)) (fun v9 w' => v9 = (eTA n R rc a9) ∧ ∃ (T' U' tx' : Nat → Int32) (sz' : Int32) (g' : Nat → Int64), w' = (KW k ad r (sel (eTA n R rc a9) (nI n) (nI n)) (sel (eTA n R rc a9) R R) T' U' tx' sz' ((oa, aL k 1 g') :: Y)) ∧ ((eTA n R rc a9) = 0 → g' 0 = (nI ((tx_ (R (ix rc))).getD (ix a9) 0)).toInt64)) := by
  refine openW (own := RL) rfl (by decide) (Nat.le_of_ble_eq_true rfl) rfl ?_
  intro p e s m args below meth c A C hrt9 hnm hT
  obtain ⟨Q, hQ⟩ : ∃ Q, Q = (vx_MQ below (va_Qi (fun v9 w' => v9 = (eTA n R rc a9) ∧ ∃ (T' U' tx' : Nat → Int32) (sz' : Int32) (g' : Nat → Int64), w' = (KW k ad r (sel (eTA n R rc a9) (nI n) (nI n)) (sel (eTA n R rc a9) R R) T' U' tx' sz' ((oa, aL k 1 g') :: Y)) ∧ ((eTA n R rc a9) = 0 → g' 0 = (nI ((tx_ (R (ix rc))).getD (ix a9) 0)).toInt64)) (cBA D A) A) (fun _ _ _ => False) args s 2 12 A) := ⟨_, rfl⟩
  show WP p l e (rmL 6 2 12) s m args below meth c D A 5 (KW k ad r (nI n) R T U tx sz ((oa, aL k 1 g) :: Y)) [(0, .ref (ad 0)), (1, .int rc), (2, .int a9), (3, .ref oa)] 0 0 (vx_MQ below (va_Qi (fun v9 w' => v9 = (eTA n R rc a9) ∧ ∃ (T' U' tx' : Nat → Int32) (sz' : Int32) (g' : Nat → Int64), w' = (KW k ad r (sel (eTA n R rc a9) (nI n) (nI n)) (sel (eTA n R rc a9) R R) T' U' tx' sz' ((oa, aL k 1 g') :: Y)) ∧ ((eTA n R rc a9) = 0 → g' 0 = (nI ((tx_ (R (ix rc))).getD (ix a9) 0)).toInt64)) (cBA D A) A) (fun _ _ _ => False) args s 2 12 A) 0 []
  rw [← hQ]
  refine p_aload_n C rfl 3 rfl dL_textAt_0 ?_
  refine p_iconst (v := 0) C (by decide) dL_textAt_1 ?_
  refine p_aload_n C rfl 0 rfl dL_textAt_2 ?_
  refine p_iload_n C rfl 1 rfl dL_textAt_3 ?_
  refine p_iload_n C rfl 2 rfl dL_textAt_4 ?_
  have hx1 : ∀ (q9 : Nat) (T9 U9 tx9 : Nat → Int32) (sz9 : Int32), eTA n R rc a9 = 1 → WP p l e (rmL 6 2 12) s m args below meth c D A 5 (KW k ad r (nI n) R T9 U9 tx9 sz9 ((oa, aL k 1 g) :: Y)) [(0, .ref (ad 0)), (1, .int rc), (2, .int a9), (3, .ref oa)] 2 12 Q 13 [.ref q9] := by
    intro q9 T9 U9 tx9 sz9 he
    refine p_astore (lv9 := [(4, .ref q9), (0, .ref (ad 0)), (1, .int rc), (2, .int a9), (3, .ref oa)]) C (by decide) rfl dL_textAt_13 ?_
    refine p_iconst (v := 1) C (by decide) dL_textAt_15 ?_
    rw [hQ]
    exact rw_i C hrt9 (⟨he.symm, _, _, _, _, _, by rw [he, sel_1, sel_1], fun z9 => absurd (he.symm.trans z9) (by decide)⟩) (by decide) (by decide) dL_textAt_16
  have hpx : ∀ (E9 : String) (w9 : va_W), (¬ eTA n R rc a9 = 0 ∧ E9 = exn (eTA n R rc a9) ∧ ∃ (T9 U9 tx9 : Nat → Int32) (sz9 : Int32), w9 = (KW k ad r (nI n) R T9 U9 tx9 sz9 ((oa, aL k 1 g) :: Y))) → VX p l e (rmL 6 2 12) s m args below meth c D A 5 w9 [(0, .ref (ad 0)), (1, .int rc), (2, .int a9), (3, .ref oa)] 2 12 Q 5 [.int 0, .ref oa] E9 := by
    intro E9 w9 h9
    obtain ⟨hne, rfl, T9, U9, tx9, sz9, rfl⟩ := h9
    rcases cd_eTA n R rc a9 with he | he
    · exact absurd he hne
    · rw [he, exn_1]
      exact x_catch C (name := "java/lang/IndexOutOfBoundsException") (tableOf []) ⟨0, 10, 13, 19⟩ (tableOf []) hT (fun z9 hz9 => absurd hz9 List.not_mem_nil) (by decide) (by decide) qcl_L_19 (by decide) rfl (fun q9 => hx1 q9 T9 U9 tx9 sz9 he)
  refine cx_Vi (As := [.int rc, .int a9]) (rest := [.int 0, .ref oa]) C (m_X2_textAt l D k hfl (hn := hn) (rc := rc) (a9 := a9)) 0 rfl rfl rfl qml_L_91 qim_X2_textAt qse_X2_X2_textAt qin_X2 qco_X2_textAt nd_X2_textAt ⟨Nat.le_of_ble_eq_true rfl, Nat.le_of_ble_eq_true rfl⟩ (Nat.le_of_ble_eq_true rfl) ⟨Nat.le_of_ble_eq_true rfl, Nat.le_of_ble_eq_true rfl⟩ rfl dL_textAt_5 (fun E9 w9 h9 => hpx E9 w9 h9) (fun r9 w9 h9 => ?_)
  obtain ⟨he0, e9, T9, U9, tx9, sz9, rfl⟩ := h9
  refine p_int e9 ?_
  refine p_i2l C dL_textAt_8 ?_
  refine p_last (w9 := (KW k ad r (nI n) R T9 U9 tx9 sz9 ((oa, aL k 1 (vp_updL g 0 ((nI ((tx_ (R (ix rc))).getD (ix a9) 0)).toInt64))) :: Y))) C 22 KW_y (vp_in_nI (n := 0) (N := 1) (by omega) (by omega)) KW_ys dL_textAt_9 ?_
  refine p_goto C 17 (by decide) dL_textAt_10 ?_
  refine p_iconst (v := 0) C (by decide) dL_textAt_17 ?_
  rw [hQ]
  exact rw_i C hrt9 (⟨he0.symm, _, _, _, _, _, by rw [he0, sel_0, sel_0], fun _ => updL_0⟩) (by decide) (by decide) dL_textAt_18
set_option maxHeartbeats 4000000 in
set_option maxRecDepth 100000 in
/-- L_isPartOf -/
theorem m_L_isPartOf (l : Launch) (D : va_G) (k : Nat → ClassId) (hfl : l.stackTraces = false) {ad r : Nat → Nat} {n : Nat} {R : Nat → Nat → Int32} {T U tx : Nat → Int32} {sz : Int32} {oa : Nat} {g : Nat → Int64} {Y : va_W} (hn : n ≤ 16) {ra rb : Int32} : CtI l D k yL_isPartOf (wH yL_isPartOf cL_isPartOf 5 (some .int) [(0, 17, 20, 19)]) (rmL 3 2 12) [.ref (ad 0), .int ra, .int rb, .ref oa] (KW k ad r (nI n) R T U tx sz ((oa, aL k 1 g) :: Y)) (fun v9 w' => v9 = (e2 n ra rb) ∧ ∃ (T' U' tx' : Nat → Int32) (sz' : Int32) (g' : Nat → Int64), w' = (KW k ad r (sel (e2 n ra rb) (nI n) (nI n)) (sel (e2 n ra rb) R R) T' U' tx' sz' ((oa, aL k 1 g') :: Y)) ∧ ((e2 n ra rb) = 0 → g' 0 = (bI (ipo (R (ix ra)) (R (ix rb)))).toInt64)) := by
  refine openW (own := RL) rfl (by decide) (Nat.le_of_ble_eq_true rfl) rfl ?_
  intro p e s m args below meth c A C hrt9 hnm hT
  obtain ⟨Q, hQ⟩ : ∃ Q, Q = (vx_MQ below (va_Qi (fun v9 w' => v9 = (e2 n ra rb) ∧ ∃ (T' U' tx' : Nat → Int32) (sz' : Int32) (g' : Nat → Int64), w' = (KW k ad r (sel (e2 n ra rb) (nI n) (nI n)) (sel (e2 n ra rb) R R) T' U' tx' sz' ((oa, aL k 1 g') :: Y)) ∧ ((e2 n ra rb) = 0 → g' 0 = (bI (ipo (R (ix ra)) (R (ix rb)))).toInt64)) (cBA D A) A) (fun _ _ _ => False) args s 2 12 A) := ⟨_, rfl⟩
  show WP p l e (rmL 3 2 12) s m args below meth c D A 5 (KW k ad r (nI n) R T U tx sz ((oa, aL k 1 g) :: Y)) [(0, .ref (ad 0)), (1, .int ra), (2, .int rb), (3, .ref oa)] 0 0 (vx_MQ below (va_Qi (fun v9 w' => v9 = (e2 n ra rb) ∧ ∃ (T' U' tx' : Nat → Int32) (sz' : Int32) (g' : Nat → Int64), w' = (KW k ad r (sel (e2 n ra rb) (nI n) (nI n)) (sel (e2 n ra rb) R R) T' U' tx' sz' ((oa, aL k 1 g') :: Y)) ∧ ((e2 n ra rb) = 0 → g' 0 = (bI (ipo (R (ix ra)) (R (ix rb)))).toInt64)) (cBA D A) A) (fun _ _ _ => False) args s 2 12 A) 0 []
  rw [← hQ]
  refine p_aload_n C rfl 3 rfl dL_isPartOf_0 ?_
  refine p_iconst (v := 0) C (by decide) dL_isPartOf_1 ?_
  refine p_aload_n C rfl 0 rfl dL_isPartOf_2 ?_
  refine p_iload_n C rfl 1 rfl dL_isPartOf_3 ?_
  refine p_iload_n C rfl 2 rfl dL_isPartOf_4 ?_
  have hx1 : ∀ (q9 : Nat) (T9 U9 tx9 : Nat → Int32) (sz9 : Int32), e2 n ra rb = 1 → WP p l e (rmL 3 2 12) s m args below meth c D A 5 (KW k ad r (nI n) R T9 U9 tx9 sz9 ((oa, aL k 1 g) :: Y)) [(0, .ref (ad 0)), (1, .int ra), (2, .int rb), (3, .ref oa)] 2 12 Q 20 [.ref q9] := by
    intro q9 T9 U9 tx9 sz9 he
    refine p_astore (lv9 := [(4, .ref q9), (0, .ref (ad 0)), (1, .int ra), (2, .int rb), (3, .ref oa)]) C (by decide) rfl dL_isPartOf_20 ?_
    refine p_iconst (v := 1) C (by decide) dL_isPartOf_22 ?_
    rw [hQ]
    exact rw_i C hrt9 (⟨he.symm, _, _, _, _, _, by rw [he, sel_1, sel_1], fun z9 => absurd (he.symm.trans z9) (by decide)⟩) (by decide) (by decide) dL_isPartOf_23
  have hpx : ∀ (E9 : String) (w9 : va_W), (¬ e2 n ra rb = 0 ∧ E9 = exn (e2 n ra rb) ∧ ∃ (T9 U9 tx9 : Nat → Int32) (sz9 : Int32), w9 = (KW k ad r (nI n) R T9 U9 tx9 sz9 ((oa, aL k 1 g) :: Y))) → VX p l e (rmL 3 2 12) s m args below meth c D A 5 w9 [(0, .ref (ad 0)), (1, .int ra), (2, .int rb), (3, .ref oa)] 2 12 Q 5 [.int 0, .ref oa] E9 := by
    intro E9 w9 h9
    obtain ⟨hne, rfl, T9, U9, tx9, sz9, rfl⟩ := h9
    rcases cd_e2 n ra rb with he | he
    · exact absurd he hne
    · rw [he, exn_1]
      exact x_catch C (name := "java/lang/IndexOutOfBoundsException") (tableOf []) ⟨0, 17, 20, 19⟩ (tableOf []) hT (fun z9 hz9 => absurd hz9 List.not_mem_nil) (by decide) (by decide) qcl_L_19 (by decide) rfl (fun q9 => hx1 q9 T9 U9 tx9 sz9 he)
  refine cx_Vi (As := [.int ra, .int rb]) (rest := [.int 0, .ref oa]) C (m_X2_isPartOf l D k hfl (hn := hn) (ra := ra) (rb := rb)) 0 rfl rfl rfl qml_L_94 qim_X2_isPartOf qse_X2_X2_isPartOf qin_X2 qco_X2_isPartOf nd_X2_isPartOf ⟨Nat.le_of_ble_eq_true rfl, Nat.le_of_ble_eq_true rfl⟩ (Nat.le_of_ble_eq_true rfl) ⟨Nat.le_of_ble_eq_true rfl, Nat.le_of_ble_eq_true rfl⟩ rfl dL_isPartOf_5 (fun E9 w9 h9 => hpx E9 w9 h9) (fun r9 w9 h9 => ?_)
  obtain ⟨he0, e9, T9, U9, tx9, sz9, rfl⟩ := h9
  refine p_int e9 ?_
  refine p_if_eq C 15 (by decide) dL_isPartOf_8 (fun c_8 => ?_) (fun c_8 => ?_)
  · have z_c := c_8
    refine p_lconst (v := 0) C (by decide) dL_isPartOf_15 ?_
    refine p_last (w9 := (KW k ad r (nI n) R T9 U9 tx9 sz9 ((oa, aL k 1 (vp_updL g 0 0)) :: Y))) C 22 KW_y (vp_in_nI (n := 0) (N := 1) (by omega) (by omega)) KW_ys dL_isPartOf_16 ?_
    refine p_goto C 24 (by decide) dL_isPartOf_17 ?_
    refine p_iconst (v := 0) C (by decide) dL_isPartOf_24 ?_
    rw [hQ]
    exact rw_i C hrt9 (⟨he0.symm, _, _, _, _, _, by rw [he0, sel_0, sel_0], fun _ => updL_0.trans (by rw [z_c]; rfl)⟩) (by decide) (by decide) dL_isPartOf_25
  · have z_c := bI_ne1 c_8
    refine p_lconst (v := 1) C (by decide) dL_isPartOf_11 ?_
    refine p_goto C 16 (by decide) dL_isPartOf_12 ?_
    refine p_last (w9 := (KW k ad r (nI n) R T9 U9 tx9 sz9 ((oa, aL k 1 (vp_updL g 0 1)) :: Y))) C 22 KW_y (vp_in_nI (n := 0) (N := 1) (by omega) (by omega)) KW_ys dL_isPartOf_16 ?_
    refine p_goto C 24 (by decide) dL_isPartOf_17 ?_
    refine p_iconst (v := 0) C (by decide) dL_isPartOf_24 ?_
    rw [hQ]
    exact rw_i C hrt9 (⟨he0.symm, _, _, _, _, _, by rw [he0, sel_0, sel_0], fun _ => updL_0.trans (by rw [z_c]; rfl)⟩) (by decide) (by decide) dL_isPartOf_25
set_option maxHeartbeats 4000000 in
set_option maxRecDepth 100000 in
/-- L_plainParts -/
theorem m_L_plainParts (l : Launch) (D : va_G) (k : Nat → ClassId) (hfl : l.stackTraces = false) {ad r : Nat → Nat} {n : Nat} {R : Nat → Nat → Int32} {T U tx : Nat → Int32} {sz : Int32} {oa : Nat} {g : Nat → Int64} {Y : va_W} (hn : n ≤ 16) {rc : Int32} : CtI l D k yL_plainParts (wH yL_plainParts cL_plainParts 4 (some .int) [(0, 9, 12, 19)]) (rmL 4 1 6) [.ref (ad 0), .int rc, .ref oa] (KW k ad r (nI n) R T U tx sz ((oa, aL k 1 g) :: Y)) (fun v9 w' => v9 = (e1 n rc) ∧ ∃ (T' U' tx' : Nat → Int32) (sz' : Int32) (g' : Nat → Int64), w' = (KW k ad r (sel (e1 n rc) (nI n) (nI n)) (sel (e1 n rc) R R) T' U' tx' sz' ((oa, aL k 1 g') :: Y)) ∧ ((e1 n rc) = 0 → g' 0 = (nI (pp (n9 (R (ix rc))))).toInt64)) := by
  refine openW (own := RL) rfl (by decide) (Nat.le_of_ble_eq_true rfl) rfl ?_
  intro p e s m args below meth c A C hrt9 hnm hT
  obtain ⟨Q, hQ⟩ : ∃ Q, Q = (vx_MQ below (va_Qi (fun v9 w' => v9 = (e1 n rc) ∧ ∃ (T' U' tx' : Nat → Int32) (sz' : Int32) (g' : Nat → Int64), w' = (KW k ad r (sel (e1 n rc) (nI n) (nI n)) (sel (e1 n rc) R R) T' U' tx' sz' ((oa, aL k 1 g') :: Y)) ∧ ((e1 n rc) = 0 → g' 0 = (nI (pp (n9 (R (ix rc))))).toInt64)) (cBA D A) A) (fun _ _ _ => False) args s 1 6 A) := ⟨_, rfl⟩
  show WP p l e (rmL 4 1 6) s m args below meth c D A 4 (KW k ad r (nI n) R T U tx sz ((oa, aL k 1 g) :: Y)) [(0, .ref (ad 0)), (1, .int rc), (2, .ref oa)] 0 0 (vx_MQ below (va_Qi (fun v9 w' => v9 = (e1 n rc) ∧ ∃ (T' U' tx' : Nat → Int32) (sz' : Int32) (g' : Nat → Int64), w' = (KW k ad r (sel (e1 n rc) (nI n) (nI n)) (sel (e1 n rc) R R) T' U' tx' sz' ((oa, aL k 1 g') :: Y)) ∧ ((e1 n rc) = 0 → g' 0 = (nI (pp (n9 (R (ix rc))))).toInt64)) (cBA D A) A) (fun _ _ _ => False) args s 1 6 A) 0 []
  rw [← hQ]
  refine p_aload_n C rfl 2 rfl dL_plainParts_0 ?_
  refine p_iconst (v := 0) C (by decide) dL_plainParts_1 ?_
  refine p_aload_n C rfl 0 rfl dL_plainParts_2 ?_
  refine p_iload_n C rfl 1 rfl dL_plainParts_3 ?_
  have hx1 : ∀ (q9 : Nat) (T9 U9 tx9 : Nat → Int32) (sz9 : Int32), e1 n rc = 1 → WP p l e (rmL 4 1 6) s m args below meth c D A 4 (KW k ad r (nI n) R T9 U9 tx9 sz9 ((oa, aL k 1 g) :: Y)) [(0, .ref (ad 0)), (1, .int rc), (2, .ref oa)] 1 6 Q 12 [.ref q9] := by
    intro q9 T9 U9 tx9 sz9 he
    refine p_astore_n (lv9 := [(3, .ref q9), (0, .ref (ad 0)), (1, .int rc), (2, .ref oa)]) C rfl (by decide) rfl dL_plainParts_12 ?_
    refine p_iconst (v := 1) C (by decide) dL_plainParts_13 ?_
    rw [hQ]
    exact rw_i C hrt9 (⟨he.symm, _, _, _, _, _, by rw [he, sel_1, sel_1], fun z9 => absurd (he.symm.trans z9) (by decide)⟩) (by decide) (by decide) dL_plainParts_14
  have hpx : ∀ (E9 : String) (w9 : va_W), (¬ e1 n rc = 0 ∧ E9 = exn (e1 n rc) ∧ ∃ (T9 U9 tx9 : Nat → Int32) (sz9 : Int32), w9 = (KW k ad r (nI n) R T9 U9 tx9 sz9 ((oa, aL k 1 g) :: Y))) → VX p l e (rmL 4 1 6) s m args below meth c D A 4 w9 [(0, .ref (ad 0)), (1, .int rc), (2, .ref oa)] 1 6 Q 4 [.int 0, .ref oa] E9 := by
    intro E9 w9 h9
    obtain ⟨hne, rfl, T9, U9, tx9, sz9, rfl⟩ := h9
    rcases cd_e1 n rc with he | he
    · exact absurd he hne
    · rw [he, exn_1]
      exact x_catch C (name := "java/lang/IndexOutOfBoundsException") (tableOf []) ⟨0, 9, 12, 19⟩ (tableOf []) hT (fun z9 hz9 => absurd hz9 List.not_mem_nil) (by decide) (by decide) qcl_L_19 (by decide) rfl (fun q9 => hx1 q9 T9 U9 tx9 sz9 he)
  refine cx_Vi (As := [.int rc]) (rest := [.int 0, .ref oa]) C (m_X2_plainParts l D k hfl (hn := hn) (rc := rc)) 0 rfl rfl rfl qml_L_98 qim_X2_plainParts qse_X2_X2_plainParts qin_X2 qco_X2_plainParts nd_X2_plainParts ⟨Nat.le_of_ble_eq_true rfl, Nat.le_of_ble_eq_true rfl⟩ (Nat.le_of_ble_eq_true rfl) ⟨Nat.le_of_ble_eq_true rfl, Nat.le_of_ble_eq_true rfl⟩ rfl dL_plainParts_4 (fun E9 w9 h9 => hpx E9 w9 h9) (fun r9 w9 h9 => ?_)
  obtain ⟨he0, e9, T9, U9, tx9, sz9, rfl⟩ := h9
  refine p_int e9 ?_
  refine p_i2l C dL_plainParts_7 ?_
  refine p_last (w9 := (KW k ad r (nI n) R T9 U9 tx9 sz9 ((oa, aL k 1 (vp_updL g 0 ((nI (pp (n9 (R (ix rc))))).toInt64))) :: Y))) C 22 KW_y (vp_in_nI (n := 0) (N := 1) (by omega) (by omega)) KW_ys dL_plainParts_8 ?_
  refine p_goto C 15 (by decide) dL_plainParts_9 ?_
  refine p_iconst (v := 0) C (by decide) dL_plainParts_15 ?_
  rw [hQ]
  exact rw_i C hrt9 (⟨he0.symm, _, _, _, _, _, by rw [he0, sel_0, sel_0], fun _ => updL_0⟩) (by decide) (by decide) dL_plainParts_16
set_option maxHeartbeats 4000000 in
set_option maxRecDepth 100000 in
/-- L_bestShift -/
theorem m_L_bestShift (l : Launch) (D : va_G) (k : Nat → ClassId) (hfl : l.stackTraces = false) {ad r : Nat → Nat} {n : Nat} {R : Nat → Nat → Int32} {T U tx : Nat → Int32} {sz : Int32} {oa : Nat} {g : Nat → Int64} {Y : va_W} (hn : n ≤ 16) (hnrm : ∀ i, i < n → n9 (R i) = R i) {rc : Int32} : CtI l D k yL_bestShift (wH yL_bestShift cL_bestShift 4 (some .int) [(0, 9, 12, 19)]) (rmL 4 1 6) [.ref (ad 0), .int rc, .ref oa] (KW k ad r (nI n) R T U tx sz ((oa, aL k 1 g) :: Y)) (fun v9 w' => v9 = (e1 n rc) ∧ ∃ (T' U' tx' : Nat → Int32) (sz' : Int32) (g' : Nat → Int64), w' = (KW k ad r (sel (e1 n rc) (nI n) (nI n)) (sel (e1 n rc) R R) T' U' tx' sz' ((oa, aL k 1 g') :: Y)) ∧ ((e1 n rc) = 0 → g' 0 = (bs (n9 (R (ix rc)))).toInt64)) := by
  refine openW (own := RL) rfl (by decide) (Nat.le_of_ble_eq_true rfl) rfl ?_
  intro p e s m args below meth c A C hrt9 hnm hT
  obtain ⟨Q, hQ⟩ : ∃ Q, Q = (vx_MQ below (va_Qi (fun v9 w' => v9 = (e1 n rc) ∧ ∃ (T' U' tx' : Nat → Int32) (sz' : Int32) (g' : Nat → Int64), w' = (KW k ad r (sel (e1 n rc) (nI n) (nI n)) (sel (e1 n rc) R R) T' U' tx' sz' ((oa, aL k 1 g') :: Y)) ∧ ((e1 n rc) = 0 → g' 0 = (bs (n9 (R (ix rc)))).toInt64)) (cBA D A) A) (fun _ _ _ => False) args s 1 6 A) := ⟨_, rfl⟩
  show WP p l e (rmL 4 1 6) s m args below meth c D A 4 (KW k ad r (nI n) R T U tx sz ((oa, aL k 1 g) :: Y)) [(0, .ref (ad 0)), (1, .int rc), (2, .ref oa)] 0 0 (vx_MQ below (va_Qi (fun v9 w' => v9 = (e1 n rc) ∧ ∃ (T' U' tx' : Nat → Int32) (sz' : Int32) (g' : Nat → Int64), w' = (KW k ad r (sel (e1 n rc) (nI n) (nI n)) (sel (e1 n rc) R R) T' U' tx' sz' ((oa, aL k 1 g') :: Y)) ∧ ((e1 n rc) = 0 → g' 0 = (bs (n9 (R (ix rc)))).toInt64)) (cBA D A) A) (fun _ _ _ => False) args s 1 6 A) 0 []
  rw [← hQ]
  refine p_aload_n C rfl 2 rfl dL_bestShift_0 ?_
  refine p_iconst (v := 0) C (by decide) dL_bestShift_1 ?_
  refine p_aload_n C rfl 0 rfl dL_bestShift_2 ?_
  refine p_iload_n C rfl 1 rfl dL_bestShift_3 ?_
  have hx1 : ∀ (q9 : Nat) (T9 U9 tx9 : Nat → Int32) (sz9 : Int32), e1 n rc = 1 → WP p l e (rmL 4 1 6) s m args below meth c D A 4 (KW k ad r (nI n) R T9 U9 tx9 sz9 ((oa, aL k 1 g) :: Y)) [(0, .ref (ad 0)), (1, .int rc), (2, .ref oa)] 1 6 Q 12 [.ref q9] := by
    intro q9 T9 U9 tx9 sz9 he
    refine p_astore_n (lv9 := [(3, .ref q9), (0, .ref (ad 0)), (1, .int rc), (2, .ref oa)]) C rfl (by decide) rfl dL_bestShift_12 ?_
    refine p_iconst (v := 1) C (by decide) dL_bestShift_13 ?_
    rw [hQ]
    exact rw_i C hrt9 (⟨he.symm, _, _, _, _, _, by rw [he, sel_1, sel_1], fun z9 => absurd (he.symm.trans z9) (by decide)⟩) (by decide) (by decide) dL_bestShift_14
  have hpx : ∀ (E9 : String) (w9 : va_W), (¬ e1 n rc = 0 ∧ E9 = exn (e1 n rc) ∧ ∃ (T9 U9 tx9 : Nat → Int32) (sz9 : Int32), w9 = (KW k ad r (nI n) R T9 U9 tx9 sz9 ((oa, aL k 1 g) :: Y))) → VX p l e (rmL 4 1 6) s m args below meth c D A 4 w9 [(0, .ref (ad 0)), (1, .int rc), (2, .ref oa)] 1 6 Q 4 [.int 0, .ref oa] E9 := by
    intro E9 w9 h9
    obtain ⟨hne, rfl, T9, U9, tx9, sz9, rfl⟩ := h9
    rcases cd_e1 n rc with he | he
    · exact absurd he hne
    · rw [he, exn_1]
      exact x_catch C (name := "java/lang/IndexOutOfBoundsException") (tableOf []) ⟨0, 9, 12, 19⟩ (tableOf []) hT (fun z9 hz9 => absurd hz9 List.not_mem_nil) (by decide) (by decide) qcl_L_19 (by decide) rfl (fun q9 => hx1 q9 T9 U9 tx9 sz9 he)
  refine cx_Vi (As := [.int rc]) (rest := [.int 0, .ref oa]) C (m_X2_bestShift l D k hfl (hn := hn) (hnrm := hnrm) (rc := rc)) 0 rfl rfl rfl qml_L_101 qim_X2_bestShift qse_X2_X2_bestShift qin_X2 qco_X2_bestShift nd_X2_bestShift ⟨Nat.le_of_ble_eq_true rfl, Nat.le_of_ble_eq_true rfl⟩ (Nat.le_of_ble_eq_true rfl) ⟨Nat.le_of_ble_eq_true rfl, Nat.le_of_ble_eq_true rfl⟩ rfl dL_bestShift_4 (fun E9 w9 h9 => hpx E9 w9 h9) (fun r9 w9 h9 => ?_)
  obtain ⟨he0, e9, T9, U9, tx9, sz9, rfl⟩ := h9
  refine p_int e9 ?_
  refine p_i2l C dL_bestShift_7 ?_
  refine p_last (w9 := (KW k ad r (nI n) R T9 U9 tx9 sz9 ((oa, aL k 1 (vp_updL g 0 ((bs (n9 (R (ix rc)))).toInt64))) :: Y))) C 22 KW_y (vp_in_nI (n := 0) (N := 1) (by omega) (by omega)) KW_ys dL_bestShift_8 ?_
  refine p_goto C 15 (by decide) dL_bestShift_9 ?_
  refine p_iconst (v := 0) C (by decide) dL_bestShift_15 ?_
  rw [hQ]
  exact rw_i C hrt9 (⟨he0.symm, _, _, _, _, _, by rw [he0, sel_0, sel_0], fun _ => updL_0⟩) (by decide) (by decide) dL_bestShift_16
