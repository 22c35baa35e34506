def sel {α : Type} (e : Int32) (x y : α) : α := if e = 0 then x else y
theorem sel_0 {α : Type} (x y : α) : sel 0 x y = x := if_pos rfl
theorem sel_1 {α : Type} (x y : α) : sel 1 x y = y := if_neg (by decide)
theorem sel_2 {α : Type} (x y : α) : sel 2 x y = y := if_neg (by decide)
theorem sel_3 {α : Type} (x y : α) : sel 3 x y = y := if_neg (by decide)
theorem one_n0 : ¬ (1 : Int32) = 0 := by decide
theorem two_n0 : ¬ (2 : Int32) = 0 := by decide
theorem three_n0 : ¬ (3 : Int32) = 0 := by decide
def drR (Am : Nat → Int32) (i n : Nat) : Nat → Int32 := fun j => if 9 * i ≤ j ∧ j < 9 * n - 9 then Am (j + 9) else Am j
theorem cpy_drop {Am : Nat → Int32} {i n j : Nat} (hi : i < n) : va_cpy Am Am (9 * (i + 1)) (9 * i) (9 * (n - 1 - i)) j = drR Am i n j := by
  unfold drR
  by_cases h : 9 * i ≤ j ∧ j < 9 * n - 9
  · rw [if_pos h, pk_cpy_in h.1 (by omega)]
    exact congrArg Am (by omega)
  · rw [if_neg h, pk_cpy_out (by omega)]
def scR (Am : Nat → Int32) (i : Nat) (x : Int32) (c : Nat) : Nat → Int32 := fun j => if 9 * i ≤ j ∧ j < 9 * i + c then Am j * x else Am j
theorem scR_0 (Am : Nat → Int32) (i : Nat) (x : Int32) : scR Am i x 0 = Am := funext fun j => if_neg (by omega)
theorem scR_s {Am : Nat → Int32} {i c : Nat} {x : Int32} : upd (scR Am i x c) (9 * i + c) (scR Am i x c (9 * i + c) * x) = scR Am i x (c + 1) := funext fun j => by
  unfold upd
  by_cases e : j = 9 * i + c
  · subst e
    rw [if_pos rfl]
    unfold scR
    rw [if_neg (by omega), if_pos (by omega)]
  · rw [if_neg e]
    unfold scR
    by_cases h : 9 * i ≤ j ∧ j < 9 * i + c
    · rw [if_pos h, if_pos (by omega)]
    · rw [if_neg h, if_neg (by omega)]
/-- the amounts with one set -/
def seR (Am : Nat → Int32) (i p : Nat) (x : Int32) : Nat → Int32 := upd Am (9 * i + p) x
def jnR (f g : Nat → Int32) (x : Int32) : Nat → Int32 := fun j => f j + x * g j
def deR (f : Nat → Int32) : Nat → Int32 := fun j => if j < 8 then nI (j + 1) * f (j + 1) else 0
def chN (f g : Nat → Int32) : Nat → Nat → Int32
  | 0 => fun _ => 0
  | c + 1 => upd (n9 (cv (chN f g c) g)) 0 (n9 (cv (chN f g c) g) 0 + f (8 - c))
def chR (f g : Nat → Int32) : Nat → Int32 := chN f g 9
def mdN (R : Nat → Nat → Int32) : Nat → Int32
  | 0 => 0
  | i + 1 => mdN R i + dI (dg (R i))
set_option maxHeartbeats 4000000 in
set_option maxRecDepth 100000 in
/-- X3_degreeOf -/
theorem m_X3_degreeOf (l : Launch) (D : va_G) (k : Nat → ClassId) {md : Nat → Nat} {th : Int32} {n : Nat} {Am Wk Mo : Nat → Int32} {v cp : Nat} {bt : Nat → Int32} {ml cn : Int32} {Y : va_W} (hn : n ≤ 16) {rc : Int32} : CtI l D k yX3_degreeOf (wU yX3_degreeOf cX3_degreeOf 2 (some .int)) (rmL 3 0 0) [.ref (md 0), .int rc] (MW k md th (nI n) Am Wk Mo v cp bt ml cn Y) (fun r w' => ∃ Wk' Mo' : Nat → Int32, w' = (MW k md (e1 n rc) (nI n) Am Wk' Mo' v cp bt ml cn Y) ∧ ((e1 n rc) = 0 → r = dI (dg (mrow Am (ix rc))))) := by
  refine openI (own := RX3) rfl (by decide) (Nat.le_of_ble_eq_true rfl) rfl ?_
  intro p e s m args below meth c A C hrt9 hnm
  obtain ⟨Q, hQ⟩ : ∃ Q, Q = (MQ below (va_Qi (fun r w' => ∃ Wk' Mo' : Nat → Int32, w' = (MW k md (e1 n rc) (nI n) Am Wk' Mo' v cp bt ml cn Y) ∧ ((e1 n rc) = 0 → r = dI (dg (mrow Am (ix rc))))) (cBA D A) A) args s 0 0 A) := ⟨_, rfl⟩
  show WP p l e (rmL 3 0 0) s m args below meth c D A 2 (MW k md th (nI n) Am Wk Mo v cp bt ml cn Y) [(0, .ref (md 0)), (1, .int rc)] 0 0 (MQ below (va_Qi (fun r w' => ∃ Wk' Mo' : Nat → Int32, w' = (MW k md (e1 n rc) (nI n) Am Wk' Mo' v cp bt ml cn Y) ∧ ((e1 n rc) = 0 → r = dI (dg (mrow Am (ix rc))))) (cBA D A) A) args s 0 0 A) 0 []
  rw [← hQ]
  refine p_aload_n C rfl 0 rfl dX3_degreeOf_0 ?_
  refine p_iconst (v := 0) C (by decide) dX3_degreeOf_1 ?_
  refine p_put (w9 := (MW k md 0 (nI n) Am Wk Mo v cp bt ml cn Y)) (v := .int 0) (T := TX3) C tyX3 tyX3_ok nmX3 0 rfl rfl 0 (by decide) inX3 qfl_X3_26 (fun _ h9 => h9) rfl rfl rfl (Nat.le_of_ble_eq_true rfl) rfl dX3_degreeOf_2 ?_
  refine p_aload_n C rfl 0 rfl dX3_degreeOf_5 ?_
  refine p_iload_n C rfl 1 rfl dX3_degreeOf_6 ?_
  refine c_Vi (As := [.int rc]) (rest := []) C (m_X3_isRecipe l D k (x := rc)) 0 rfl rfl rfl qml_X3_73 qim_X3_isRecipe qse_X3_X3_isRecipe qin_X3 qco_X3_isRecipe nd_X3_isRecipe ⟨Nat.le_of_ble_eq_true rfl, Nat.le_of_ble_eq_true rfl⟩ (Nat.le_of_ble_eq_true rfl) ⟨Nat.le_of_ble_eq_true rfl, Nat.le_of_ble_eq_true rfl⟩ rfl dX3_degreeOf_7 (fun r9 w9 h9 => ?_)
  obtain ⟨e9, rfl⟩ := h9
  refine p_int e9 ?_
  refine p_if_eq C 21 (by decide) dX3_degreeOf_10 (fun c_10 => ?_) (fun c_10 => ?_)
  · have hr := bI_eq c_10
    refine p_aload_n C rfl 0 rfl dX3_degreeOf_21 ?_
    refine p_iconst (v := 1) C (by decide) dX3_degreeOf_22 ?_
    refine c_Vi (As := [.int 1]) (rest := []) C (m_X3_no l D k (x := 1)) 0 rfl rfl rfl qml_X3_66 qim_X3_no qse_X3_X3_no qin_X3 qco_X3_no nd_X3_no ⟨Nat.le_of_ble_eq_true rfl, Nat.le_of_ble_eq_true rfl⟩ (Nat.le_of_ble_eq_true rfl) ⟨Nat.le_of_ble_eq_true rfl, Nat.le_of_ble_eq_true rfl⟩ rfl dX3_degreeOf_23 (fun r9 w9 h9 => ?_)
    obtain ⟨e9, rfl⟩ := h9
    refine p_int e9 ?_
    rw [hQ]
    exact r_i C hrt9 (⟨_, _, by rw [show e1 n rc = 1 from by unfold e1; rw [hr]; rfl], fun q => absurd q (by rw [show e1 n rc = 1 from by unfold e1; rw [hr]; rfl]; exact one_n0)⟩) (by decide) (by decide) dX3_degreeOf_26
  · obtain ⟨i, hi, rfl⟩ := isR_spec hn (bI_ne c_10)
    have vi := isR_of hn hi
    refine p_aload_n C rfl 0 rfl dX3_degreeOf_13 ?_
    refine p_iload_n C rfl 1 rfl dX3_degreeOf_14 ?_
    refine c_Vi (As := [.int (nI i)]) (rest := []) C (m_X3_degreeNow l D k (i := i) (by omega)) 0 rfl rfl rfl qml_X3_51 qim_X3_degreeNow qse_X3_X3_degreeNow qin_X3 qco_X3_degreeNow nd_X3_degreeNow ⟨Nat.le_of_ble_eq_true rfl, Nat.le_of_ble_eq_true rfl⟩ (Nat.le_of_ble_eq_true rfl) ⟨Nat.le_of_ble_eq_true rfl, Nat.le_of_ble_eq_true rfl⟩ rfl dX3_degreeOf_15 (fun r9 w9 h9 => ?_)
    obtain ⟨e9, rfl⟩ := h9
    refine p_int e9 ?_
    refine p_goto C 26 (by decide) dX3_degreeOf_18 ?_
    rw [hQ]
    exact r_i C hrt9 (⟨_, _, by rw [show e1 n (nI i) = 0 from by unfold e1; rw [vi]; rfl], fun _ => by rw [ix_nI (by omega)]⟩) (by decide) (by decide) dX3_degreeOf_26
set_option maxHeartbeats 4000000 in
set_option maxRecDepth 100000 in
/-- X3_isPlain -/
theorem m_X3_isPlain (l : Launch) (D : va_G) (k : Nat → ClassId) {md : Nat → Nat} {th : Int32} {n : Nat} {Am Wk Mo : Nat → Int32} {v cp : Nat} {bt : Nat → Int32} {ml cn : Int32} {Y : va_W} (hn : n ≤ 16) {rc : Int32} : CtI l D k yX3_isPlain (wU yX3_isPlain cX3_isPlain 2 (some .boolean)) (rmL 3 0 0) [.ref (md 0), .int rc] (MW k md th (nI n) Am Wk Mo v cp bt ml cn Y) (fun r w' => ∃ Wk' Mo' : Nat → Int32, w' = (MW k md (e1 n rc) (nI n) Am Wk' Mo' v cp bt ml cn Y) ∧ ((e1 n rc) = 0 → r = bI (pln (mrow Am (ix rc))))) := by
  refine openI (own := RX3) rfl (by decide) (Nat.le_of_ble_eq_true rfl) rfl ?_
  intro p e s m args below meth c A C hrt9 hnm
  obtain ⟨Q, hQ⟩ : ∃ Q, Q = (MQ below (va_Qi (fun r w' => ∃ Wk' Mo' : Nat → Int32, w' = (MW k md (e1 n rc) (nI n) Am Wk' Mo' v cp bt ml cn Y) ∧ ((e1 n rc) = 0 → r = bI (pln (mrow Am (ix rc))))) (cBA D A) A) args s 0 0 A) := ⟨_, rfl⟩
  show WP p l e (rmL 3 0 0) s m args below meth c D A 2 (MW k md th (nI n) Am Wk Mo v cp bt ml cn Y) [(0, .ref (md 0)), (1, .int rc)] 0 0 (MQ below (va_Qi (fun r w' => ∃ Wk' Mo' : Nat → Int32, w' = (MW k md (e1 n rc) (nI n) Am Wk' Mo' v cp bt ml cn Y) ∧ ((e1 n rc) = 0 → r = bI (pln (mrow Am (ix rc))))) (cBA D A) A) args s 0 0 A) 0 []
  rw [← hQ]
  refine p_aload_n C rfl 0 rfl dX3_isPlain_0 ?_
  refine p_iconst (v := 0) C (by decide) dX3_isPlain_1 ?_
  refine p_put (w9 := (MW k md 0 (nI n) Am Wk Mo v cp bt ml cn Y)) (v := .int 0) (T := TX3) C tyX3 tyX3_ok nmX3 0 rfl rfl 0 (by decide) inX3 qfl_X3_26 (fun _ h9 => h9) rfl rfl rfl (Nat.le_of_ble_eq_true rfl) rfl dX3_isPlain_2 ?_
  refine p_aload_n C rfl 0 rfl dX3_isPlain_5 ?_
  refine p_iload_n C rfl 1 rfl dX3_isPlain_6 ?_
  refine c_Vi (As := [.int rc]) (rest := []) C (m_X3_isRecipe l D k (x := rc)) 0 rfl rfl rfl qml_X3_73 qim_X3_isRecipe qse_X3_X3_isRecipe qin_X3 qco_X3_isRecipe nd_X3_isRecipe ⟨Nat.le_of_ble_eq_true rfl, Nat.le_of_ble_eq_true rfl⟩ (Nat.le_of_ble_eq_true rfl) ⟨Nat.le_of_ble_eq_true rfl, Nat.le_of_ble_eq_true rfl⟩ rfl dX3_isPlain_7 (fun r9 w9 h9 => ?_)
  obtain ⟨e9, rfl⟩ := h9
  refine p_int e9 ?_
  refine p_if_eq C 21 (by decide) dX3_isPlain_10 (fun c_10 => ?_) (fun c_10 => ?_)
  · have hr := bI_eq c_10
    refine p_aload_n C rfl 0 rfl dX3_isPlain_21 ?_
    refine p_iconst (v := 1) C (by decide) dX3_isPlain_22 ?_
    refine c_Vi (As := [.int 1]) (rest := []) C (m_X3_isNot l D k (x := 1)) 0 rfl rfl rfl qml_X3_98 qim_X3_isNot qse_X3_X3_isNot qin_X3 qco_X3_isNot nd_X3_isNot ⟨Nat.le_of_ble_eq_true rfl, Nat.le_of_ble_eq_true rfl⟩ (Nat.le_of_ble_eq_true rfl) ⟨Nat.le_of_ble_eq_true rfl, Nat.le_of_ble_eq_true rfl⟩ rfl dX3_isPlain_23 (fun r9 w9 h9 => ?_)
    obtain ⟨e9, rfl⟩ := h9
    refine p_int e9 ?_
    rw [hQ]
    exact r_z C hrt9 (by first | exact bI_n _ | rfl) (⟨_, _, by rw [show e1 n rc = 1 from by unfold e1; rw [hr]; rfl], fun q => absurd q (by rw [show e1 n rc = 1 from by unfold e1; rw [hr]; rfl]; exact one_n0)⟩) (by decide) (by decide) dX3_isPlain_26
  · obtain ⟨i, hi, rfl⟩ := isR_spec hn (bI_ne c_10)
    have vi := isR_of hn hi
    refine p_aload_n C rfl 0 rfl dX3_isPlain_13 ?_
    refine p_iload_n C rfl 1 rfl dX3_isPlain_14 ?_
    refine c_Vi (As := [.int (nI i)]) (rest := []) C (m_X3_plain l D k (i := i) (by omega)) 0 rfl rfl rfl qml_X3_88 qim_X3_plain qse_X3_X3_plain qin_X3 qco_X3_plain nd_X3_plain ⟨Nat.le_of_ble_eq_true rfl, Nat.le_of_ble_eq_true rfl⟩ (Nat.le_of_ble_eq_true rfl) ⟨Nat.le_of_ble_eq_true rfl, Nat.le_of_ble_eq_true rfl⟩ rfl dX3_isPlain_15 (fun r9 w9 h9 => ?_)
    obtain ⟨e9, rfl⟩ := h9
    refine p_int e9 ?_
    refine p_goto C 26 (by decide) dX3_isPlain_18 ?_
    rw [hQ]
    exact r_z C hrt9 (by first | exact bI_n _ | rfl) (⟨_, _, by rw [show e1 n (nI i) = 0 from by unfold e1; rw [vi]; rfl], fun _ => by rw [ix_nI (by omega)]⟩) (by decide) (by decide) dX3_isPlain_26
set_option maxHeartbeats 4000000 in
set_option maxRecDepth 100000 in
/-- X3_content -/
theorem m_X3_content (l : Launch) (D : va_G) (k : Nat → ClassId) {md : Nat → Nat} {th : Int32} {n : Nat} {Am Wk Mo : Nat → Int32} {v cp : Nat} {bt : Nat → Int32} {ml cn : Int32} {Y : va_W} (hn : n ≤ 16) {rc : Int32} : CtL l D k yX3_content (wU yX3_content cX3_content 2 (some .long)) (rmL 3 0 0) [.ref (md 0), .int rc] (MW k md th (nI n) Am Wk Mo v cp bt ml cn Y) (fun r w' => ∃ Wk' Mo' : Nat → Int32, w' = (MW k md (e1 n rc) (nI n) Am Wk' Mo' v cp bt ml cn Y) ∧ ((e1 n rc) = 0 → r = lN (ct (mrow Am (ix rc))))) := by
  refine openL (own := RX3) rfl (by decide) (Nat.le_of_ble_eq_true rfl) rfl ?_
  intro p e s m args below meth c A C hrt9 hnm
  obtain ⟨Q, hQ⟩ : ∃ Q, Q = (MQ below (va_Ql (fun r w' => ∃ Wk' Mo' : Nat → Int32, w' = (MW k md (e1 n rc) (nI n) Am Wk' Mo' v cp bt ml cn Y) ∧ ((e1 n rc) = 0 → r = lN (ct (mrow Am (ix rc))))) (cBA D A) A) args s 0 0 A) := ⟨_, rfl⟩
  show WP p l e (rmL 3 0 0) s m args below meth c D A 2 (MW k md th (nI n) Am Wk Mo v cp bt ml cn Y) [(0, .ref (md 0)), (1, .int rc)] 0 0 (MQ below (va_Ql (fun r w' => ∃ Wk' Mo' : Nat → Int32, w' = (MW k md (e1 n rc) (nI n) Am Wk' Mo' v cp bt ml cn Y) ∧ ((e1 n rc) = 0 → r = lN (ct (mrow Am (ix rc))))) (cBA D A) A) args s 0 0 A) 0 []
  rw [← hQ]
  refine p_aload_n C rfl 0 rfl dX3_content_0 ?_
  refine p_iconst (v := 0) C (by decide) dX3_content_1 ?_
  refine p_put (w9 := (MW k md 0 (nI n) Am Wk Mo v cp bt ml cn Y)) (v := .int 0) (T := TX3) C tyX3 tyX3_ok nmX3 0 rfl rfl 0 (by decide) inX3 qfl_X3_26 (fun _ h9 => h9) rfl rfl rfl (Nat.le_of_ble_eq_true rfl) rfl dX3_content_2 ?_
  refine p_aload_n C rfl 0 rfl dX3_content_5 ?_
  refine p_iload_n C rfl 1 rfl dX3_content_6 ?_
  refine c_Vi (As := [.int rc]) (rest := []) C (m_X3_isRecipe l D k (x := rc)) 0 rfl rfl rfl qml_X3_73 qim_X3_isRecipe qse_X3_X3_isRecipe qin_X3 qco_X3_isRecipe nd_X3_isRecipe ⟨Nat.le_of_ble_eq_true rfl, Nat.le_of_ble_eq_true rfl⟩ (Nat.le_of_ble_eq_true rfl) ⟨Nat.le_of_ble_eq_true rfl, Nat.le_of_ble_eq_true rfl⟩ rfl dX3_content_7 (fun r9 w9 h9 => ?_)
  obtain ⟨e9, rfl⟩ := h9
  refine p_int e9 ?_
  refine p_if_eq C 21 (by decide) dX3_content_10 (fun c_10 => ?_) (fun c_10 => ?_)
  · have hr := bI_eq c_10
    refine p_aload_n C rfl 0 rfl dX3_content_21 ?_
    refine p_iconst (v := 1) C (by decide) dX3_content_22 ?_
    refine c_Vi (As := [.int 1]) (rest := []) C (m_X3_no l D k (x := 1)) 0 rfl rfl rfl qml_X3_66 qim_X3_no qse_X3_X3_no qin_X3 qco_X3_no nd_X3_no ⟨Nat.le_of_ble_eq_true rfl, Nat.le_of_ble_eq_true rfl⟩ (Nat.le_of_ble_eq_true rfl) ⟨Nat.le_of_ble_eq_true rfl, Nat.le_of_ble_eq_true rfl⟩ rfl dX3_content_23 (fun r9 w9 h9 => ?_)
    obtain ⟨e9, rfl⟩ := h9
    refine p_int e9 ?_
    refine p_i2l C dX3_content_26 ?_
    rw [hQ]
    exact r_l C hrt9 (⟨_, _, by rw [show e1 n rc = 1 from by unfold e1; rw [hr]; rfl], fun q => absurd q (by rw [show e1 n rc = 1 from by unfold e1; rw [hr]; rfl]; exact one_n0)⟩) (by decide) (by decide) dX3_content_27
  · obtain ⟨i, hi, rfl⟩ := isR_spec hn (bI_ne c_10)
    have vi := isR_of hn hi
    refine p_aload_n C rfl 0 rfl dX3_content_13 ?_
    refine p_iload_n C rfl 1 rfl dX3_content_14 ?_
    refine c_Vl (As := [.int (nI i)]) (rest := []) C (m_X3_contentOf l D k (i := i) (by omega)) 0 rfl rfl rfl qml_X3_107 qim_X3_contentOf qse_X3_X3_contentOf qin_X3 qco_X3_contentOf nd_X3_contentOf ⟨Nat.le_of_ble_eq_true rfl, Nat.le_of_ble_eq_true rfl⟩ (Nat.le_of_ble_eq_true rfl) ⟨Nat.le_of_ble_eq_true rfl, Nat.le_of_ble_eq_true rfl⟩ rfl dX3_content_15 (fun r9 w9 h9 => ?_)
    obtain ⟨rfl, rfl⟩ := h9
    refine p_goto C 27 (by decide) dX3_content_18 ?_
    rw [hQ]
    exact r_l C hrt9 (⟨_, _, by rw [show e1 n (nI i) = 0 from by unfold e1; rw [vi]; rfl], fun _ => by rw [ix_nI (by omega)]⟩) (by decide) (by decide) dX3_content_27
set_option maxHeartbeats 4000000 in
set_option maxRecDepth 100000 in
/-- X3_signChanges -/
theorem m_X3_signChanges (l : Launch) (D : va_G) (k : Nat → ClassId) {md : Nat → Nat} {th : Int32} {n : Nat} {Am Wk Mo : Nat → Int32} {v cp : Nat} {bt : Nat → Int32} {ml cn : Int32} {Y : va_W} (hn : n ≤ 16) {rc : Int32} : CtI l D k yX3_signChanges (wU yX3_signChanges cX3_signChanges 2 (some .int)) (rmL 3 0 0) [.ref (md 0), .int rc] (MW k md th (nI n) Am Wk Mo v cp bt ml cn Y) (fun r w' => ∃ Wk' Mo' : Nat → Int32, w' = (MW k md (e1 n rc) (nI n) Am Wk' Mo' v cp bt ml cn Y) ∧ ((e1 n rc) = 0 → r = nI (sc (mrow Am (ix rc))))) := by
  refine openI (own := RX3) rfl (by decide) (Nat.le_of_ble_eq_true rfl) rfl ?_
  intro p e s m args below meth c A C hrt9 hnm
  obtain ⟨Q, hQ⟩ : ∃ Q, Q = (MQ below (va_Qi (fun r w' => ∃ Wk' Mo' : Nat → Int32, w' = (MW k md (e1 n rc) (nI n) Am Wk' Mo' v cp bt ml cn Y) ∧ ((e1 n rc) = 0 → r = nI (sc (mrow Am (ix rc))))) (cBA D A) A) args s 0 0 A) := ⟨_, rfl⟩
  show WP p l e (rmL 3 0 0) s m args below meth c D A 2 (MW k md th (nI n) Am Wk Mo v cp bt ml cn Y) [(0, .ref (md 0)), (1, .int rc)] 0 0 (MQ below (va_Qi (fun r w' => ∃ Wk' Mo' : Nat → Int32, w' = (MW k md (e1 n rc) (nI n) Am Wk' Mo' v cp bt ml cn Y) ∧ ((e1 n rc) = 0 → r = nI (sc (mrow Am (ix rc))))) (cBA D A) A) args s 0 0 A) 0 []
  rw [← hQ]
  refine p_aload_n C rfl 0 rfl dX3_signChanges_0 ?_
  refine p_iconst (v := 0) C (by decide) dX3_signChanges_1 ?_
  refine p_put (w9 := (MW k md 0 (nI n) Am Wk Mo v cp bt ml cn Y)) (v := .int 0) (T := TX3) C tyX3 tyX3_ok nmX3 0 rfl rfl 0 (by decide) inX3 qfl_X3_26 (fun _ h9 => h9) rfl rfl rfl (Nat.le_of_ble_eq_true rfl) rfl dX3_signChanges_2 ?_
  refine p_aload_n C rfl 0 rfl dX3_signChanges_5 ?_
  refine p_iload_n C rfl 1 rfl dX3_signChanges_6 ?_
  refine c_Vi (As := [.int rc]) (rest := []) C (m_X3_isRecipe l D k (x := rc)) 0 rfl rfl rfl qml_X3_73 qim_X3_isRecipe qse_X3_X3_isRecipe qin_X3 qco_X3_isRecipe nd_X3_isRecipe ⟨Nat.le_of_ble_eq_true rfl, Nat.le_of_ble_eq_true rfl⟩ (Nat.le_of_ble_eq_true rfl) ⟨Nat.le_of_ble_eq_true rfl, Nat.le_of_ble_eq_true rfl⟩ rfl dX3_signChanges_7 (fun r9 w9 h9 => ?_)
  obtain ⟨e9, rfl⟩ := h9
  refine p_int e9 ?_
  refine p_if_eq C 21 (by decide) dX3_signChanges_10 (fun c_10 => ?_) (fun c_10 => ?_)
  · have hr := bI_eq c_10
    refine p_aload_n C rfl 0 rfl dX3_signChanges_21 ?_
    refine p_iconst (v := 1) C (by decide) dX3_signChanges_22 ?_
    refine c_Vi (As := [.int 1]) (rest := []) C (m_X3_no l D k (x := 1)) 0 rfl rfl rfl qml_X3_66 qim_X3_no qse_X3_X3_no qin_X3 qco_X3_no nd_X3_no ⟨Nat.le_of_ble_eq_true rfl, Nat.le_of_ble_eq_true rfl⟩ (Nat.le_of_ble_eq_true rfl) ⟨Nat.le_of_ble_eq_true rfl, Nat.le_of_ble_eq_true rfl⟩ rfl dX3_signChanges_23 (fun r9 w9 h9 => ?_)
    obtain ⟨e9, rfl⟩ := h9
    refine p_int e9 ?_
    rw [hQ]
    exact r_i C hrt9 (⟨_, _, by rw [show e1 n rc = 1 from by unfold e1; rw [hr]; rfl], fun q => absurd q (by rw [show e1 n rc = 1 from by unfold e1; rw [hr]; rfl]; exact one_n0)⟩) (by decide) (by decide) dX3_signChanges_26
  · obtain ⟨i, hi, rfl⟩ := isR_spec hn (bI_ne c_10)
    have vi := isR_of hn hi
    refine p_aload_n C rfl 0 rfl dX3_signChanges_13 ?_
    refine p_iload_n C rfl 1 rfl dX3_signChanges_14 ?_
    refine c_Vi (As := [.int (nI i)]) (rest := []) C (m_X3_changes l D k (i := i) (by omega)) 0 rfl rfl rfl qml_X3_116 qim_X3_changes qse_X3_X3_changes qin_X3 qco_X3_changes nd_X3_changes ⟨Nat.le_of_ble_eq_true rfl, Nat.le_of_ble_eq_true rfl⟩ (Nat.le_of_ble_eq_true rfl) ⟨Nat.le_of_ble_eq_true rfl, Nat.le_of_ble_eq_true rfl⟩ rfl dX3_signChanges_15 (fun r9 w9 h9 => ?_)
    obtain ⟨e9, rfl⟩ := h9
    refine p_int e9 ?_
    refine p_goto C 26 (by decide) dX3_signChanges_18 ?_
    rw [hQ]
    exact r_i C hrt9 (⟨_, _, by rw [show e1 n (nI i) = 0 from by unfold e1; rw [vi]; rfl], fun _ => by rw [ix_nI (by omega)]⟩) (by decide) (by decide) dX3_signChanges_26
set_option maxHeartbeats 4000000 in
set_option maxRecDepth 100000 in
/-- X3_idleGuests -/
theorem m_X3_idleGuests (l : Launch) (D : va_G) (k : Nat → ClassId) {md : Nat → Nat} {th : Int32} {n : Nat} {Am Wk Mo : Nat → Int32} {v cp : Nat} {bt : Nat → Int32} {ml cn : Int32} {Y : va_W} (hn : n ≤ 16) {rc : Int32} : CtI l D k yX3_idleGuests (wU yX3_idleGuests cX3_idleGuests 2 (some .int)) (rmL 3 0 0) [.ref (md 0), .int rc] (MW k md th (nI n) Am Wk Mo v cp bt ml cn Y) (fun r w' => ∃ Wk' Mo' : Nat → Int32, w' = (MW k md (e1 n rc) (nI n) Am Wk' Mo' v cp bt ml cn Y) ∧ ((e1 n rc) = 0 → r = nI (idl (mrow Am (ix rc))))) := by
  refine openI (own := RX3) rfl (by decide) (Nat.le_of_ble_eq_true rfl) rfl ?_
  intro p e s m args below meth c A C hrt9 hnm
  obtain ⟨Q, hQ⟩ : ∃ Q, Q = (MQ below (va_Qi (fun r w' => ∃ Wk' Mo' : Nat → Int32, w' = (MW k md (e1 n rc) (nI n) Am Wk' Mo' v cp bt ml cn Y) ∧ ((e1 n rc) = 0 → r = nI (idl (mrow Am (ix rc))))) (cBA D A) A) args s 0 0 A) := ⟨_, rfl⟩
  show WP p l e (rmL 3 0 0) s m args below meth c D A 2 (MW k md th (nI n) Am Wk Mo v cp bt ml cn Y) [(0, .ref (md 0)), (1, .int rc)] 0 0 (MQ below (va_Qi (fun r w' => ∃ Wk' Mo' : Nat → Int32, w' = (MW k md (e1 n rc) (nI n) Am Wk' Mo' v cp bt ml cn Y) ∧ ((e1 n rc) = 0 → r = nI (idl (mrow Am (ix rc))))) (cBA D A) A) args s 0 0 A) 0 []
  rw [← hQ]
  refine p_aload_n C rfl 0 rfl dX3_idleGuests_0 ?_
  refine p_iconst (v := 0) C (by decide) dX3_idleGuests_1 ?_
  refine p_put (w9 := (MW k md 0 (nI n) Am Wk Mo v cp bt ml cn Y)) (v := .int 0) (T := TX3) C tyX3 tyX3_ok nmX3 0 rfl rfl 0 (by decide) inX3 qfl_X3_26 (fun _ h9 => h9) rfl rfl rfl (Nat.le_of_ble_eq_true rfl) rfl dX3_idleGuests_2 ?_
  refine p_aload_n C rfl 0 rfl dX3_idleGuests_5 ?_
  refine p_iload_n C rfl 1 rfl dX3_idleGuests_6 ?_
  refine c_Vi (As := [.int rc]) (rest := []) C (m_X3_isRecipe l D k (x := rc)) 0 rfl rfl rfl qml_X3_73 qim_X3_isRecipe qse_X3_X3_isRecipe qin_X3 qco_X3_isRecipe nd_X3_isRecipe ⟨Nat.le_of_ble_eq_true rfl, Nat.le_of_ble_eq_true rfl⟩ (Nat.le_of_ble_eq_true rfl) ⟨Nat.le_of_ble_eq_true rfl, Nat.le_of_ble_eq_true rfl⟩ rfl dX3_idleGuests_7 (fun r9 w9 h9 => ?_)
  obtain ⟨e9, rfl⟩ := h9
  refine p_int e9 ?_
  refine p_if_eq C 21 (by decide) dX3_idleGuests_10 (fun c_10 => ?_) (fun c_10 => ?_)
  · have hr := bI_eq c_10
    refine p_aload_n C rfl 0 rfl dX3_idleGuests_21 ?_
    refine p_iconst (v := 1) C (by decide) dX3_idleGuests_22 ?_
    refine c_Vi (As := [.int 1]) (rest := []) C (m_X3_no l D k (x := 1)) 0 rfl rfl rfl qml_X3_66 qim_X3_no qse_X3_X3_no qin_X3 qco_X3_no nd_X3_no ⟨Nat.le_of_ble_eq_true rfl, Nat.le_of_ble_eq_true rfl⟩ (Nat.le_of_ble_eq_true rfl) ⟨Nat.le_of_ble_eq_true rfl, Nat.le_of_ble_eq_true rfl⟩ rfl dX3_idleGuests_23 (fun r9 w9 h9 => ?_)
    obtain ⟨e9, rfl⟩ := h9
    refine p_int e9 ?_
    rw [hQ]
    exact r_i C hrt9 (⟨_, _, by rw [show e1 n rc = 1 from by unfold e1; rw [hr]; rfl], fun q => absurd q (by rw [show e1 n rc = 1 from by unfold e1; rw [hr]; rfl]; exact one_n0)⟩) (by decide) (by decide) dX3_idleGuests_26
  · obtain ⟨i, hi, rfl⟩ := isR_spec hn (bI_ne c_10)
    have vi := isR_of hn hi
    refine p_aload_n C rfl 0 rfl dX3_idleGuests_13 ?_
    refine p_iload_n C rfl 1 rfl dX3_idleGuests_14 ?_
    refine c_Vi (As := [.int (nI i)]) (rest := []) C (m_X3_idle l D k (i := i) (by omega)) 0 rfl rfl rfl qml_X3_122 qim_X3_idle qse_X3_X3_idle qin_X3 qco_X3_idle nd_X3_idle ⟨Nat.le_of_ble_eq_true rfl, Nat.le_of_ble_eq_true rfl⟩ (Nat.le_of_ble_eq_true rfl) ⟨Nat.le_of_ble_eq_true rfl, Nat.le_of_ble_eq_true rfl⟩ rfl dX3_idleGuests_15 (fun r9 w9 h9 => ?_)
    obtain ⟨e9, rfl⟩ := h9
    refine p_int e9 ?_
    refine p_goto C 26 (by decide) dX3_idleGuests_18 ?_
    rw [hQ]
    exact r_i C hrt9 (⟨_, _, by rw [show e1 n (nI i) = 0 from by unfold e1; rw [vi]; rfl], fun _ => by rw [ix_nI (by omega)]⟩) (by decide) (by decide) dX3_idleGuests_26
set_option maxHeartbeats 4000000 in
set_option maxRecDepth 100000 in
/-- X3_firstIdle -/
theorem m_X3_firstIdle (l : Launch) (D : va_G) (k : Nat → ClassId) {md : Nat → Nat} {th : Int32} {n : Nat} {Am Wk Mo : Nat → Int32} {v cp : Nat} {bt : Nat → Int32} {ml cn : Int32} {Y : va_W} (hn : n ≤ 16) {rc : Int32} : CtI l D k yX3_firstIdle (wU yX3_firstIdle cX3_firstIdle 2 (some .int)) (rmL 3 0 0) [.ref (md 0), .int rc] (MW k md th (nI n) Am Wk Mo v cp bt ml cn Y) (fun r w' => ∃ Wk' Mo' : Nat → Int32, w' = (MW k md (e1 n rc) (nI n) Am Wk' Mo' v cp bt ml cn Y) ∧ ((e1 n rc) = 0 → r = fi (mrow Am (ix rc)))) := by
  refine openI (own := RX3) rfl (by decide) (Nat.le_of_ble_eq_true rfl) rfl ?_
  intro p e s m args below meth c A C hrt9 hnm
  obtain ⟨Q, hQ⟩ : ∃ Q, Q = (MQ below (va_Qi (fun r w' => ∃ Wk' Mo' : Nat → Int32, w' = (MW k md (e1 n rc) (nI n) Am Wk' Mo' v cp bt ml cn Y) ∧ ((e1 n rc) = 0 → r = fi (mrow Am (ix rc)))) (cBA D A) A) args s 0 0 A) := ⟨_, rfl⟩
  show WP p l e (rmL 3 0 0) s m args below meth c D A 2 (MW k md th (nI n) Am Wk Mo v cp bt ml cn Y) [(0, .ref (md 0)), (1, .int rc)] 0 0 (MQ below (va_Qi (fun r w' => ∃ Wk' Mo' : Nat → Int32, w' = (MW k md (e1 n rc) (nI n) Am Wk' Mo' v cp bt ml cn Y) ∧ ((e1 n rc) = 0 → r = fi (mrow Am (ix rc)))) (cBA D A) A) args s 0 0 A) 0 []
  rw [← hQ]
  refine p_aload_n C rfl 0 rfl dX3_firstIdle_0 ?_
  refine p_iconst (v := 0) C (by decide) dX3_firstIdle_1 ?_
  refine p_put (w9 := (MW k md 0 (nI n) Am Wk Mo v cp bt ml cn Y)) (v := .int 0) (T := TX3) C tyX3 tyX3_ok nmX3 0 rfl rfl 0 (by decide) inX3 qfl_X3_26 (fun _ h9 => h9) rfl rfl rfl (Nat.le_of_ble_eq_true rfl) rfl dX3_firstIdle_2 ?_
  refine p_aload_n C rfl 0 rfl dX3_firstIdle_5 ?_
  refine p_iload_n C rfl 1 rfl dX3_firstIdle_6 ?_
  refine c_Vi (As := [.int rc]) (rest := []) C (m_X3_isRecipe l D k (x := rc)) 0 rfl rfl rfl qml_X3_73 qim_X3_isRecipe qse_X3_X3_isRecipe qin_X3 qco_X3_isRecipe nd_X3_isRecipe ⟨Nat.le_of_ble_eq_true rfl, Nat.le_of_ble_eq_true rfl⟩ (Nat.le_of_ble_eq_true rfl) ⟨Nat.le_of_ble_eq_true rfl, Nat.le_of_ble_eq_true rfl⟩ rfl dX3_firstIdle_7 (fun r9 w9 h9 => ?_)
  obtain ⟨e9, rfl⟩ := h9
  refine p_int e9 ?_
  refine p_if_eq C 21 (by decide) dX3_firstIdle_10 (fun c_10 => ?_) (fun c_10 => ?_)
  · have hr := bI_eq c_10
    refine p_aload_n C rfl 0 rfl dX3_firstIdle_21 ?_
    refine p_iconst (v := 1) C (by decide) dX3_firstIdle_22 ?_
    refine c_Vi (As := [.int 1]) (rest := []) C (m_X3_no l D k (x := 1)) 0 rfl rfl rfl qml_X3_66 qim_X3_no qse_X3_X3_no qin_X3 qco_X3_no nd_X3_no ⟨Nat.le_of_ble_eq_true rfl, Nat.le_of_ble_eq_true rfl⟩ (Nat.le_of_ble_eq_true rfl) ⟨Nat.le_of_ble_eq_true rfl, Nat.le_of_ble_eq_true rfl⟩ rfl dX3_firstIdle_23 (fun r9 w9 h9 => ?_)
    obtain ⟨e9, rfl⟩ := h9
    refine p_int e9 ?_
    rw [hQ]
    exact r_i C hrt9 (⟨_, _, by rw [show e1 n rc = 1 from by unfold e1; rw [hr]; rfl], fun q => absurd q (by rw [show e1 n rc = 1 from by unfold e1; rw [hr]; rfl]; exact one_n0)⟩) (by decide) (by decide) dX3_firstIdle_26
  · obtain ⟨i, hi, rfl⟩ := isR_spec hn (bI_ne c_10)
    have vi := isR_of hn hi
    refine p_aload_n C rfl 0 rfl dX3_firstIdle_13 ?_
    refine p_iload_n C rfl 1 rfl dX3_firstIdle_14 ?_
    refine c_Vi (As := [.int (nI i)]) (rest := []) C (m_X3_firstOf l D k (i := i) (by omega)) 0 rfl rfl rfl qml_X3_129 qim_X3_firstOf qse_X3_X3_firstOf qin_X3 qco_X3_firstOf nd_X3_firstOf ⟨Nat.le_of_ble_eq_true rfl, Nat.le_of_ble_eq_true rfl⟩ (Nat.le_of_ble_eq_true rfl) ⟨Nat.le_of_ble_eq_true rfl, Nat.le_of_ble_eq_true rfl⟩ rfl dX3_firstIdle_15 (fun r9 w9 h9 => ?_)
    obtain ⟨e9, rfl⟩ := h9
    refine p_int e9 ?_
    refine p_goto C 26 (by decide) dX3_firstIdle_18 ?_
    rw [hQ]
    exact r_i C hrt9 (⟨_, _, by rw [show e1 n (nI i) = 0 from by unfold e1; rw [vi]; rfl], fun _ => by rw [ix_nI (by omega)]⟩) (by decide) (by decide) dX3_firstIdle_26
set_option maxHeartbeats 4000000 in
set_option maxRecDepth 100000 in
/-- X3_cheapest -/
theorem m_X3_cheapest (l : Launch) (D : va_G) (k : Nat → ClassId) {md : Nat → Nat} {th : Int32} {n : Nat} {Am Wk Mo : Nat → Int32} {v cp : Nat} {bt : Nat → Int32} {ml cn : Int32} {Y : va_W} (hn : n ≤ 16) {rc : Int32} : CtI l D k yX3_cheapest (wU yX3_cheapest cX3_cheapest 2 (some .int)) (rmL 3 0 0) [.ref (md 0), .int rc] (MW k md th (nI n) Am Wk Mo v cp bt ml cn Y) (fun r w' => ∃ Wk' Mo' : Nat → Int32, w' = (MW k md (e1 n rc) (nI n) Am Wk' Mo' v cp bt ml cn Y) ∧ ((e1 n rc) = 0 → r = nI (lea (mrow Am (ix rc))))) := by
  refine openI (own := RX3) rfl (by decide) (Nat.le_of_ble_eq_true rfl) rfl ?_
  intro p e s m args below meth c A C hrt9 hnm
  obtain ⟨Q, hQ⟩ : ∃ Q, Q = (MQ below (va_Qi (fun r w' => ∃ Wk' Mo' : Nat → Int32, w' = (MW k md (e1 n rc) (nI n) Am Wk' Mo' v cp bt ml cn Y) ∧ ((e1 n rc) = 0 → r = nI (lea (mrow Am (ix rc))))) (cBA D A) A) args s 0 0 A) := ⟨_, rfl⟩
  show WP p l e (rmL 3 0 0) s m args below meth c D A 2 (MW k md th (nI n) Am Wk Mo v cp bt ml cn Y) [(0, .ref (md 0)), (1, .int rc)] 0 0 (MQ below (va_Qi (fun r w' => ∃ Wk' Mo' : Nat → Int32, w' = (MW k md (e1 n rc) (nI n) Am Wk' Mo' v cp bt ml cn Y) ∧ ((e1 n rc) = 0 → r = nI (lea (mrow Am (ix rc))))) (cBA D A) A) args s 0 0 A) 0 []
  rw [← hQ]
  refine p_aload_n C rfl 0 rfl dX3_cheapest_0 ?_
  refine p_iconst (v := 0) C (by decide) dX3_cheapest_1 ?_
  refine p_put (w9 := (MW k md 0 (nI n) Am Wk Mo v cp bt ml cn Y)) (v := .int 0) (T := TX3) C tyX3 tyX3_ok nmX3 0 rfl rfl 0 (by decide) inX3 qfl_X3_26 (fun _ h9 => h9) rfl rfl rfl (Nat.le_of_ble_eq_true rfl) rfl dX3_cheapest_2 ?_
  refine p_aload_n C rfl 0 rfl dX3_cheapest_5 ?_
  refine p_iload_n C rfl 1 rfl dX3_cheapest_6 ?_
  refine c_Vi (As := [.int rc]) (rest := []) C (m_X3_isRecipe l D k (x := rc)) 0 rfl rfl rfl qml_X3_73 qim_X3_isRecipe qse_X3_X3_isRecipe qin_X3 qco_X3_isRecipe nd_X3_isRecipe ⟨Nat.le_of_ble_eq_true rfl, Nat.le_of_ble_eq_true rfl⟩ (Nat.le_of_ble_eq_true rfl) ⟨Nat.le_of_ble_eq_true rfl, Nat.le_of_ble_eq_true rfl⟩ rfl dX3_cheapest_7 (fun r9 w9 h9 => ?_)
  obtain ⟨e9, rfl⟩ := h9
  refine p_int e9 ?_
  refine p_if_eq C 21 (by decide) dX3_cheapest_10 (fun c_10 => ?_) (fun c_10 => ?_)
  · have hr := bI_eq c_10
    refine p_aload_n C rfl 0 rfl dX3_cheapest_21 ?_
    refine p_iconst (v := 1) C (by decide) dX3_cheapest_22 ?_
    refine c_Vi (As := [.int 1]) (rest := []) C (m_X3_no l D k (x := 1)) 0 rfl rfl rfl qml_X3_66 qim_X3_no qse_X3_X3_no qin_X3 qco_X3_no nd_X3_no ⟨Nat.le_of_ble_eq_true rfl, Nat.le_of_ble_eq_true rfl⟩ (Nat.le_of_ble_eq_true rfl) ⟨Nat.le_of_ble_eq_true rfl, Nat.le_of_ble_eq_true rfl⟩ rfl dX3_cheapest_23 (fun r9 w9 h9 => ?_)
    obtain ⟨e9, rfl⟩ := h9
    refine p_int e9 ?_
    rw [hQ]
    exact r_i C hrt9 (⟨_, _, by rw [show e1 n rc = 1 from by unfold e1; rw [hr]; rfl], fun q => absurd q (by rw [show e1 n rc = 1 from by unfold e1; rw [hr]; rfl]; exact one_n0)⟩) (by decide) (by decide) dX3_cheapest_26
  · obtain ⟨i, hi, rfl⟩ := isR_spec hn (bI_ne c_10)
    have vi := isR_of hn hi
    refine p_aload_n C rfl 0 rfl dX3_cheapest_13 ?_
    refine p_iload_n C rfl 1 rfl dX3_cheapest_14 ?_
    refine c_Vi (As := [.int (nI i)]) (rest := []) C (m_X3_least l D k (i := i) (by omega)) 0 rfl rfl rfl qml_X3_132 qim_X3_least qse_X3_X3_least qin_X3 qco_X3_least nd_X3_least ⟨Nat.le_of_ble_eq_true rfl, Nat.le_of_ble_eq_true rfl⟩ (Nat.le_of_ble_eq_true rfl) ⟨Nat.le_of_ble_eq_true rfl, Nat.le_of_ble_eq_true rfl⟩ rfl dX3_cheapest_15 (fun r9 w9 h9 => ?_)
    obtain ⟨e9, rfl⟩ := h9
    refine p_int e9 ?_
    refine p_goto C 26 (by decide) dX3_cheapest_18 ?_
    rw [hQ]
    exact r_i C hrt9 (⟨_, _, by rw [show e1 n (nI i) = 0 from by unfold e1; rw [vi]; rfl], fun _ => by rw [ix_nI (by omega)]⟩) (by decide) (by decide) dX3_cheapest_26
set_option maxHeartbeats 4000000 in
set_option maxRecDepth 100000 in
/-- X3_hunger -/
theorem m_X3_hunger (l : Launch) (D : va_G) (k : Nat → ClassId) {md : Nat → Nat} {th : Int32} {n : Nat} {Am Wk Mo : Nat → Int32} {v cp : Nat} {bt : Nat → Int32} {ml cn : Int32} {Y : va_W} (hn : n ≤ 16) {rc x : Int32} : CtI l D k yX3_hunger (wU yX3_hunger cX3_hunger 3 (some .int)) (rmL 3 0 0) [.ref (md 0), .int rc, .int x] (MW k md th (nI n) Am Wk Mo v cp bt ml cn Y) (fun r w' => ∃ Wk' Mo' : Nat → Int32, w' = (MW k md (e1 n rc) (nI n) Am Wk' Mo' v cp bt ml cn Y) ∧ ((e1 n rc) = 0 → r = hg (mrow Am (ix rc)) x)) := by
  refine openI (own := RX3) rfl (by decide) (Nat.le_of_ble_eq_true rfl) rfl ?_
  intro p e s m args below meth c A C hrt9 hnm
  obtain ⟨Q, hQ⟩ : ∃ Q, Q = (MQ below (va_Qi (fun r w' => ∃ Wk' Mo' : Nat → Int32, w' = (MW k md (e1 n rc) (nI n) Am Wk' Mo' v cp bt ml cn Y) ∧ ((e1 n rc) = 0 → r = hg (mrow Am (ix rc)) x)) (cBA D A) A) args s 0 0 A) := ⟨_, rfl⟩
  show WP p l e (rmL 3 0 0) s m args below meth c D A 3 (MW k md th (nI n) Am Wk Mo v cp bt ml cn Y) [(0, .ref (md 0)), (1, .int rc), (2, .int x)] 0 0 (MQ below (va_Qi (fun r w' => ∃ Wk' Mo' : Nat → Int32, w' = (MW k md (e1 n rc) (nI n) Am Wk' Mo' v cp bt ml cn Y) ∧ ((e1 n rc) = 0 → r = hg (mrow Am (ix rc)) x)) (cBA D A) A) args s 0 0 A) 0 []
  rw [← hQ]
  refine p_aload_n C rfl 0 rfl dX3_hunger_0 ?_
  refine p_iconst (v := 0) C (by decide) dX3_hunger_1 ?_
  refine p_put (w9 := (MW k md 0 (nI n) Am Wk Mo v cp bt ml cn Y)) (v := .int 0) (T := TX3) C tyX3 tyX3_ok nmX3 0 rfl rfl 0 (by decide) inX3 qfl_X3_26 (fun _ h9 => h9) rfl rfl rfl (Nat.le_of_ble_eq_true rfl) rfl dX3_hunger_2 ?_
  refine p_aload_n C rfl 0 rfl dX3_hunger_5 ?_
  refine p_iload_n C rfl 1 rfl dX3_hunger_6 ?_
  refine c_Vi (As := [.int rc]) (rest := []) C (m_X3_isRecipe l D k (x := rc)) 0 rfl rfl rfl qml_X3_73 qim_X3_isRecipe qse_X3_X3_isRecipe qin_X3 qco_X3_isRecipe nd_X3_isRecipe ⟨Nat.le_of_ble_eq_true rfl, Nat.le_of_ble_eq_true rfl⟩ (Nat.le_of_ble_eq_true rfl) ⟨Nat.le_of_ble_eq_true rfl, Nat.le_of_ble_eq_true rfl⟩ rfl dX3_hunger_7 (fun r9 w9 h9 => ?_)
  obtain ⟨e9, rfl⟩ := h9
  refine p_int e9 ?_
  refine p_if_eq C 22 (by decide) dX3_hunger_10 (fun c_10 => ?_) (fun c_10 => ?_)
  · have hr := bI_eq c_10
    refine p_aload_n C rfl 0 rfl dX3_hunger_22 ?_
    refine p_iconst (v := 1) C (by decide) dX3_hunger_23 ?_
    refine c_Vi (As := [.int 1]) (rest := []) C (m_X3_no l D k (x := 1)) 0 rfl rfl rfl qml_X3_66 qim_X3_no qse_X3_X3_no qin_X3 qco_X3_no nd_X3_no ⟨Nat.le_of_ble_eq_true rfl, Nat.le_of_ble_eq_true rfl⟩ (Nat.le_of_ble_eq_true rfl) ⟨Nat.le_of_ble_eq_true rfl, Nat.le_of_ble_eq_true rfl⟩ rfl dX3_hunger_24 (fun r9 w9 h9 => ?_)
    obtain ⟨e9, rfl⟩ := h9
    refine p_int e9 ?_
    rw [hQ]
    exact r_i C hrt9 (⟨_, _, by rw [show e1 n rc = 1 from by unfold e1; rw [hr]; rfl], fun q => absurd q (by rw [show e1 n rc = 1 from by unfold e1; rw [hr]; rfl]; exact one_n0)⟩) (by decide) (by decide) dX3_hunger_27
  · obtain ⟨i, hi, rfl⟩ := isR_spec hn (bI_ne c_10)
    have vi := isR_of hn hi
    refine p_aload_n C rfl 0 rfl dX3_hunger_13 ?_
    refine p_iload_n C rfl 1 rfl dX3_hunger_14 ?_
    refine p_iload_n C rfl 2 rfl dX3_hunger_15 ?_
    refine c_Vi (As := [.int (nI i), .int x]) (rest := []) C (m_X3_hungerOf l D k (i := i) (x := x) (by omega)) 0 rfl rfl rfl qml_X3_119 qim_X3_hungerOf qse_X3_X3_hungerOf qin_X3 qco_X3_hungerOf nd_X3_hungerOf ⟨Nat.le_of_ble_eq_true rfl, Nat.le_of_ble_eq_true rfl⟩ (Nat.le_of_ble_eq_true rfl) ⟨Nat.le_of_ble_eq_true rfl, Nat.le_of_ble_eq_true rfl⟩ rfl dX3_hunger_16 (fun r9 w9 h9 => ?_)
    obtain ⟨e9, rfl⟩ := h9
    refine p_int e9 ?_
    refine p_goto C 27 (by decide) dX3_hunger_19 ?_
    rw [hQ]
    exact r_i C hrt9 (⟨_, _, by rw [show e1 n (nI i) = 0 from by unfold e1; rw [vi]; rfl], fun _ => by rw [ix_nI (by omega)]⟩) (by decide) (by decide) dX3_hunger_27
set_option maxHeartbeats 4000000 in
set_option maxRecDepth 100000 in
/-- thrown -/
theorem m_X3_thrown (l : Launch) (D : va_G) (k : Nat → ClassId) {md : Nat → Nat} {th : Int32} {n : Nat} {Am Wk Mo : Nat → Int32} {v cp : Nat} {bt : Nat → Int32} {ml cn : Int32} {Y : va_W}  : CtI l D k yX3_thrown (wU yX3_thrown cX3_thrown 1 (some .int)) (rmL 0 0 0) [.ref (md 0)] (MW k md th (nI n) Am Wk Mo v cp bt ml cn Y) (fun r w' => r = th ∧ w' = (MW k md th (nI n) Am Wk Mo v cp bt ml cn Y)) := by
  refine openI (own := RX3) rfl (by decide) (Nat.le_of_ble_eq_true rfl) rfl ?_
  intro p e s m args below meth c A C hrt9 hnm
  obtain ⟨Q, hQ⟩ : ∃ Q, Q = (MQ below (va_Qi (fun r w' => r = th ∧ w' = (MW k md th (nI n) Am Wk Mo v cp bt ml cn Y)) (cBA D A) A) args s 0 0 A) := ⟨_, rfl⟩
  show WP p l e (rmL 0 0 0) s m args below meth c D A 1 (MW k md th (nI n) Am Wk Mo v cp bt ml cn Y) [(0, .ref (md 0))] 0 0 (MQ below (va_Qi (fun r w' => r = th ∧ w' = (MW k md th (nI n) Am Wk Mo v cp bt ml cn Y)) (cBA D A) A) args s 0 0 A) 0 []
  rw [← hQ]
  refine p_aload_n C rfl 0 rfl dX3_thrown_0 ?_
  refine p_get (v := .int th) (T := TX3) C 0 rfl rfl 0 (by decide) inX3 qfl_X3_26 (fun _ h9 => h9) rfl dX3_thrown_1 ?_
  rw [hQ]
  exact r_i C hrt9 (⟨rfl, rfl⟩) (by decide) (by decide) dX3_thrown_4
set_option maxHeartbeats 4000000 in
set_option maxRecDepth 100000 in
/-- recipes -/
theorem m_X3_recipes (l : Launch) (D : va_G) (k : Nat → ClassId) {md : Nat → Nat} {th : Int32} {n : Nat} {Am Wk Mo : Nat → Int32} {v cp : Nat} {bt : Nat → Int32} {ml cn : Int32} {Y : va_W}  : CtI l D k yX3_recipes (wU yX3_recipes cX3_recipes 1 (some .int)) (rmL 1 0 0) [.ref (md 0)] (MW k md th (nI n) Am Wk Mo v cp bt ml cn Y) (fun r w' => r = nI n ∧ w' = (MW k md 0 (nI n) Am Wk Mo v cp bt ml cn Y)) := by
  refine openI (own := RX3) rfl (by decide) (Nat.le_of_ble_eq_true rfl) rfl ?_
  intro p e s m args below meth c A C hrt9 hnm
  obtain ⟨Q, hQ⟩ : ∃ Q, Q = (MQ below (va_Qi (fun r w' => r = nI n ∧ w' = (MW k md 0 (nI n) Am Wk Mo v cp bt ml cn Y)) (cBA D A) A) args s 0 0 A) := ⟨_, rfl⟩
  show WP p l e (rmL 1 0 0) s m args below meth c D A 1 (MW k md th (nI n) Am Wk Mo v cp bt ml cn Y) [(0, .ref (md 0))] 0 0 (MQ below (va_Qi (fun r w' => r = nI n ∧ w' = (MW k md 0 (nI n) Am Wk Mo v cp bt ml cn Y)) (cBA D A) A) args s 0 0 A) 0 []
  rw [← hQ]
  refine p_aload_n C rfl 0 rfl dX3_recipes_0 ?_
  refine p_aload_n C rfl 0 rfl dX3_recipes_1 ?_
  refine p_get (v := .int (nI n)) (T := TX3) C 0 rfl rfl 1 (by decide) inX3 qfl_X3_30 (fun _ h9 => h9) rfl dX3_recipes_2 ?_
  refine c_Vi (As := [.int (nI n)]) (rest := []) C (m_X3_ok l D k (x := (nI n))) 0 rfl rfl rfl qml_X3_95 qim_X3_ok qse_X3_X3_ok qin_X3 qco_X3_ok nd_X3_ok ⟨Nat.le_of_ble_eq_true rfl, Nat.le_of_ble_eq_true rfl⟩ (Nat.le_of_ble_eq_true rfl) ⟨Nat.le_of_ble_eq_true rfl, Nat.le_of_ble_eq_true rfl⟩ rfl dX3_recipes_5 (fun r9 w9 h9 => ?_)
  obtain ⟨e9, rfl⟩ := h9
  refine p_int e9 ?_
  rw [hQ]
  exact r_i C hrt9 (⟨rfl, rfl⟩) (by decide) (by decide) dX3_recipes_8
theorem n16 {n : Nat} (hn : n ≤ 16) (h : ¬ nI n = 16) : n < 16 := by
  rcases Nat.lt_or_eq_of_le hn with q | q
  · exact q
  · subst q; exact absurd rfl h
theorem n16e {n : Nat} (hn : n ≤ 16) (h : nI n = 16) : n = 16 := by
  have := (@nI_eq n 16 (by omega) (by omega)).mp h
  exact this
theorem eAdd_0 {n : Nat} (h : n < 16) : eAdd n = 0 := if_neg (by omega)
theorem i_n16 {n : Nat} (h : n < 16) : (n = 16) = False := eq_false (by omega)
set_option maxHeartbeats 4000000 in
set_option maxRecDepth 100000 in
/-- X3_addRecipe -/
theorem m_X3_addRecipe (l : Launch) (D : va_G) (k : Nat → ClassId) {md : Nat → Nat} {th : Int32} {n : Nat} {Am Wk Mo : Nat → Int32} {v cp : Nat} {bt : Nat → Int32} {ml cn : Int32} {Y : va_W} (hn : n ≤ 16)  : CtI l D k yX3_addRecipe (wU yX3_addRecipe cX3_addRecipe 2 (some .int)) (rmL 3 0 0) [.ref (md 0)] (MW k md th (nI n) Am Wk Mo v cp bt ml cn Y) (fun r w' => ∃ Wk' Mo' : Nat → Int32, w' = (MW k md (eAdd n) (sel (eAdd n) (nI (n + 1)) (nI n)) (sel (eAdd n) (ptR Am n (fun _ => 0)) Am) Wk' Mo' v cp bt ml cn Y) ∧ ((eAdd n) = 0 → r = nI n)) := by
  refine openI (own := RX3) rfl (by decide) (Nat.le_of_ble_eq_true rfl) rfl ?_
  intro p e s m args below meth c A C hrt9 hnm
  obtain ⟨Q, hQ⟩ : ∃ Q, Q = (MQ below (va_Qi (fun r w' => ∃ Wk' Mo' : Nat → Int32, w' = (MW k md (eAdd n) (sel (eAdd n) (nI (n + 1)) (nI n)) (sel (eAdd n) (ptR Am n (fun _ => 0)) Am) Wk' Mo' v cp bt ml cn Y) ∧ ((eAdd n) = 0 → r = nI n)) (cBA D A) A) args s 0 0 A) := ⟨_, rfl⟩
  show WP p l e (rmL 3 0 0) s m args below meth c D A 2 (MW k md th (nI n) Am Wk Mo v cp bt ml cn Y) [(0, .ref (md 0))] 0 0 (MQ below (va_Qi (fun r w' => ∃ Wk' Mo' : Nat → Int32, w' = (MW k md (eAdd n) (sel (eAdd n) (nI (n + 1)) (nI n)) (sel (eAdd n) (ptR Am n (fun _ => 0)) Am) Wk' Mo' v cp bt ml cn Y) ∧ ((eAdd n) = 0 → r = nI n)) (cBA D A) A) args s 0 0 A) 0 []
  rw [← hQ]
  refine p_aload_n C rfl 0 rfl dX3_addRecipe_0 ?_
  refine p_iconst (v := 0) C (by decide) dX3_addRecipe_1 ?_
  refine p_put (w9 := (MW k md 0 (nI n) Am Wk Mo v cp bt ml cn Y)) (v := .int 0) (T := TX3) C tyX3 tyX3_ok nmX3 0 rfl rfl 0 (by decide) inX3 qfl_X3_26 (fun _ h9 => h9) rfl rfl rfl (Nat.le_of_ble_eq_true rfl) rfl dX3_addRecipe_2 ?_
  refine p_aload_n C rfl 0 rfl dX3_addRecipe_5 ?_
  refine p_get (v := .int (nI n)) (T := TX3) C 0 rfl rfl 1 (by decide) inX3 qfl_X3_30 (fun _ h9 => h9) rfl dX3_addRecipe_6 ?_
  refine p_bipush (v := 16) C (by decide) dX3_addRecipe_9 ?_
  refine p_icmp_ne C 20 (by decide) dX3_addRecipe_11 (fun c_11 => ?_) (fun c_11 => ?_)
  · have hne : n < 16 := n16 hn c_11
    refine p_iconst (v := 0) C (by decide) dX3_addRecipe_20 ?_
    refine p_istore_n (lv9 := [(1, .int 0), (0, .ref (md 0))]) C rfl (by decide) rfl dX3_addRecipe_21 ?_
    refine p_w (w9 := (MW k md 0 (nI n) Am (fl (fun _ => 0) Wk 0) Mo v cp bt ml cn Y)) (by rw [fl_0]) ?_
    refine p_lv (lv9 := [(0, .ref (md 0)), (1, .int 0)]) [1, 0] rfl ?_
    have lp22 : ∀ (n22 : Nat) (j : Nat), (hj : j + n22 = 9) → WP p l e (rmL 3 0 0) s m args below meth c D A 2 (MW k md 0 (nI n) Am (fl (fun _ => 0) Wk j) Mo v cp bt ml cn Y) [(0, .ref (md 0)), (1, .int (nI j))] 0 0 Q 22 [] := by
      intro n22
      induction n22 with
      | zero =>
        intro j hj
        obtain rfl : j = 9 := by omega
        refine p_iload_n C rfl 1 rfl dX3_addRecipe_22 ?_
        refine p_bipush (v := 9) C (by decide) dX3_addRecipe_23 ?_
        refine p_icmp_ge C 41 (by decide) dX3_addRecipe_25 (fun c_25 => ?_) (fun c_25 => absurd c_25 (by decide))
        refine p_arr (n := 9) (w9 := (MW k md 0 (nI n) Am (fun _ => 0) Mo v cp bt ml cn Y)) 2 rfl (fun _ => 0) (fun j hj => fl_in hj) rfl ?_
        refine p_aload_n C rfl 0 rfl dX3_addRecipe_41 ?_
        refine p_aload_n C rfl 0 rfl dX3_addRecipe_42 ?_
        refine p_get (v := .ref (md 2)) (T := TX3) C 0 rfl rfl 3 (by decide) inX3 qfl_X3_13 (fun _ h9 => h9) rfl dX3_addRecipe_43 ?_
        refine c_Vi (As := [.ref (md 2)]) (rest := []) C (m_X3_made_w l D k (n := n) (by omega)) 0 rfl rfl rfl qml_X3_69 qim_X3_made qse_X3_X3_made qin_X3 qco_X3_made nd_X3_made ⟨Nat.le_of_ble_eq_true rfl, Nat.le_of_ble_eq_true rfl⟩ (Nat.le_of_ble_eq_true rfl) ⟨Nat.le_of_ble_eq_true rfl, Nat.le_of_ble_eq_true rfl⟩ rfl dX3_addRecipe_46 (fun r9 w9 h9 => ?_)
        obtain ⟨rfl, rfl⟩ := h9
        rw [hQ]
        exact r_i C hrt9 (⟨_, _, by rw [eAdd_0 hne, sel_0, sel_0], fun _ => rfl⟩) (by decide) (by decide) dX3_addRecipe_49
      | succ n22 ih22 =>
        intro j hj
        have hj2 : j < 9 := by omega
        refine p_iload_n C rfl 1 rfl dX3_addRecipe_22 ?_
        refine p_bipush (v := 9) C (by decide) dX3_addRecipe_23 ?_
        refine p_icmp_ge C 41 (by decide) dX3_addRecipe_25 (fun c_25 => absurd c_25 (nI_ge (b := 9) hj2 (by decide))) (fun c_25 => ?_)
        refine p_aload_n C rfl 0 rfl dX3_addRecipe_28 ?_
        refine p_get (v := .ref (md 2)) (T := TX3) C 0 rfl rfl 3 (by decide) inX3 qfl_X3_13 (fun _ h9 => h9) rfl dX3_addRecipe_29 ?_
        refine p_iload_n C rfl 1 rfl dX3_addRecipe_32 ?_
        refine p_iconst (v := 0) C (by decide) dX3_addRecipe_33 ?_
        refine p_iast (w9 := (MW k md 0 (nI n) Am (fl (fun _ => 0) Wk (j + 1)) Mo v cp bt ml cn Y)) C 2 rfl (vp_in_nI (n := j) (N := 9) (by omega) (by omega)) (by rw [show ((nI j)).toNatClampNeg = j from nI_clamp (by omega), show upd (fl (fun _ => 0) Wk j) j 0 = (fl (fun _ => 0) Wk (j + 1)) from fl_s rfl]; exact rfl) dX3_addRecipe_34 ?_
        refine p_iinc (lv9 := [(1, .int (nI (j + 1))), (0, .ref (md 0))]) (v := (nI (j + 1))) C (j := 1) rfl (i_up j) (by decide) rfl dX3_addRecipe_35 ?_
        refine p_goto C 22 (by decide) dX3_addRecipe_38 ?_
        refine p_lv (lv9 := [(0, .ref (md 0)), (1, .int (nI (j + 1)))]) [1, 0] rfl ?_
        exact ih22 (j + 1) (by omega)
    exact lp22 9 0 rfl
  · obtain rfl : n = 16 := n16e hn c_11
    refine p_aload_n C rfl 0 rfl dX3_addRecipe_14 ?_
    refine p_iconst (v := 1) C (by decide) dX3_addRecipe_15 ?_
    refine c_Vi (As := [.int 1]) (rest := []) C (m_X3_no l D k (x := 1)) 0 rfl rfl rfl qml_X3_66 qim_X3_no qse_X3_X3_no qin_X3 qco_X3_no nd_X3_no ⟨Nat.le_of_ble_eq_true rfl, Nat.le_of_ble_eq_true rfl⟩ (Nat.le_of_ble_eq_true rfl) ⟨Nat.le_of_ble_eq_true rfl, Nat.le_of_ble_eq_true rfl⟩ rfl dX3_addRecipe_16 (fun r9 w9 h9 => ?_)
    obtain ⟨e9, rfl⟩ := h9
    refine p_int e9 ?_
    rw [hQ]
    exact r_i C hrt9 (⟨_, _, by rw [show eAdd 16 = 1 from rfl, sel_1, sel_1], fun q => absurd q (by rw [show eAdd 16 = 1 from rfl]; exact one_n0)⟩) (by decide) (by decide) dX3_addRecipe_19
set_option maxHeartbeats 4000000 in
set_option maxRecDepth 100000 in
/-- X3_set -/
theorem m_X3_set (l : Launch) (D : va_G) (k : Nat → ClassId) {md : Nat → Nat} {th : Int32} {n : Nat} {Am Wk Mo : Nat → Int32} {v cp : Nat} {bt : Nat → Int32} {ml cn : Int32} {Y : va_W} (hn : n ≤ 16) {rc pw am : Int32} : CtI l D k yX3_set (wU yX3_set cX3_set 5 (some .int)) (rmL 2 0 0) [.ref (md 0), .int rc, .int pw, .int am] (MW k md th (nI n) Am Wk Mo v cp bt ml cn Y) (fun r w' => ∃ Wk' Mo' : Nat → Int32, w' = (MW k md (eSet n rc pw am) (nI n) (sel (eSet n rc pw am) (seR Am (ix rc) (ix pw) am) Am) Wk' Mo' v cp bt ml cn Y) ∧ ((eSet n rc pw am) = 0 → r = (mrow Am (ix rc)) (ix pw))) := by
  refine openI (own := RX3) rfl (by decide) (Nat.le_of_ble_eq_true rfl) rfl ?_
  intro p e s m args below meth c A C hrt9 hnm
  obtain ⟨Q, hQ⟩ : ∃ Q, Q = (MQ below (va_Qi (fun r w' => ∃ Wk' Mo' : Nat → Int32, w' = (MW k md (eSet n rc pw am) (nI n) (sel (eSet n rc pw am) (seR Am (ix rc) (ix pw) am) Am) Wk' Mo' v cp bt ml cn Y) ∧ ((eSet n rc pw am) = 0 → r = (mrow Am (ix rc)) (ix pw))) (cBA D A) A) args s 0 0 A) := ⟨_, rfl⟩
  show WP p l e (rmL 2 0 0) s m args below meth c D A 5 (MW k md th (nI n) Am Wk Mo v cp bt ml cn Y) [(0, .ref (md 0)), (1, .int rc), (2, .int pw), (3, .int am)] 0 0 (MQ below (va_Qi (fun r w' => ∃ Wk' Mo' : Nat → Int32, w' = (MW k md (eSet n rc pw am) (nI n) (sel (eSet n rc pw am) (seR Am (ix rc) (ix pw) am) Am) Wk' Mo' v cp bt ml cn Y) ∧ ((eSet n rc pw am) = 0 → r = (mrow Am (ix rc)) (ix pw))) (cBA D A) A) args s 0 0 A) 0 []
  rw [← hQ]
  refine p_aload_n C rfl 0 rfl dX3_set_0 ?_
  refine p_iconst (v := 0) C (by decide) dX3_set_1 ?_
  refine p_put (w9 := (MW k md 0 (nI n) Am Wk Mo v cp bt ml cn Y)) (v := .int 0) (T := TX3) C tyX3 tyX3_ok nmX3 0 rfl rfl 0 (by decide) inX3 qfl_X3_26 (fun _ h9 => h9) rfl rfl rfl (Nat.le_of_ble_eq_true rfl) rfl dX3_set_2 ?_
  refine p_aload_n C rfl 0 rfl dX3_set_5 ?_
  refine p_iload_n C rfl 1 rfl dX3_set_6 ?_
  refine c_Vi (As := [.int rc]) (rest := []) C (m_X3_isRecipe l D k (x := rc)) 0 rfl rfl rfl qml_X3_73 qim_X3_isRecipe qse_X3_X3_isRecipe qin_X3 qco_X3_isRecipe nd_X3_isRecipe ⟨Nat.le_of_ble_eq_true rfl, Nat.le_of_ble_eq_true rfl⟩ (Nat.le_of_ble_eq_true rfl) ⟨Nat.le_of_ble_eq_true rfl, Nat.le_of_ble_eq_true rfl⟩ rfl dX3_set_7 (fun r9 w9 h9 => ?_)
  obtain ⟨e9, rfl⟩ := h9
  refine p_int e9 ?_
  refine p_if_eq C 23 (by decide) dX3_set_10 (fun c_10 => ?_) (fun c_10 => ?_)
  · have hr := bI_eq c_10
    refine p_aload_n C rfl 0 rfl dX3_set_23 ?_
    refine p_iconst (v := 1) C (by decide) dX3_set_24 ?_
    refine c_Vi (As := [.int 1]) (rest := []) C (m_X3_no l D k (x := 1)) 0 rfl rfl rfl qml_X3_66 qim_X3_no qse_X3_X3_no qin_X3 qco_X3_no nd_X3_no ⟨Nat.le_of_ble_eq_true rfl, Nat.le_of_ble_eq_true rfl⟩ (Nat.le_of_ble_eq_true rfl) ⟨Nat.le_of_ble_eq_true rfl, Nat.le_of_ble_eq_true rfl⟩ rfl dX3_set_25 (fun r9 w9 h9 => ?_)
    obtain ⟨e9, rfl⟩ := h9
    refine p_int e9 ?_
    rw [hQ]
    exact r_i C hrt9 (⟨_, _, by rw [show eSet n rc pw am = 1 from by unfold eSet; rw [hr]; rfl, sel_1], fun q => absurd q (by rw [show eSet n rc pw am = 1 from by unfold eSet; rw [hr]; rfl]; exact one_n0)⟩) (by decide) (by decide) dX3_set_28
  · obtain ⟨i, hi, rfl⟩ := isR_spec hn (bI_ne c_10)
    have vi := isR_of hn hi
    refine p_iload_n C rfl 2 rfl dX3_set_13 ?_
    refine p_iconst (v := 0) C (by decide) dX3_set_14 ?_
    refine p_bipush (v := 8) C (by decide) dX3_set_15 ?_
    refine c_Si (As := [.int pw, .int 0, .int 8]) (rest := []) C (m_X3_isFrom l D k (x := pw) (lo := 0) (hi := 8)) qml_X3_33 qst_X3_isFrom qin_X3 qco_X3_isFrom nd_X3_isFrom ⟨Nat.le_of_ble_eq_true rfl, Nat.le_of_ble_eq_true rfl⟩ (Nat.le_of_ble_eq_true rfl) ⟨Nat.le_of_ble_eq_true rfl, Nat.le_of_ble_eq_true rfl⟩ rfl dX3_set_17 (fun r9 w9 h9 => ?_)
    obtain ⟨e9, rfl⟩ := h9
    refine p_int e9 ?_
    refine p_if_ne C 29 (by decide) dX3_set_20 (fun c_20 => ?_) (fun c_20 => ?_)
    · obtain ⟨p9, hp9, rfl⟩ := isF_p (bI_ne c_20)
      have vp : isF (nI p9) 0 8 = true := bI_ne c_20
      refine p_iload_n C rfl 3 rfl dX3_set_29 ?_
      refine p_sipush (v := (-999)) C (by decide) dX3_set_30 ?_
      refine p_sipush (v := 999) C (by decide) dX3_set_33 ?_
      refine c_Si (As := [.int am, .int (-999), .int 999]) (rest := []) C (m_X3_isFrom l D k (x := am) (lo := (-999)) (hi := 999)) qml_X3_33 qst_X3_isFrom qin_X3 qco_X3_isFrom nd_X3_isFrom ⟨Nat.le_of_ble_eq_true rfl, Nat.le_of_ble_eq_true rfl⟩ (Nat.le_of_ble_eq_true rfl) ⟨Nat.le_of_ble_eq_true rfl, Nat.le_of_ble_eq_true rfl⟩ rfl dX3_set_36 (fun r9 w9 h9 => ?_)
      obtain ⟨e9, rfl⟩ := h9
      refine p_int e9 ?_
      refine p_if_ne C 48 (by decide) dX3_set_39 (fun c_39 => ?_) (fun c_39 => ?_)
      · have va := bI_ne c_39
        refine p_aload_n C rfl 0 rfl dX3_set_48 ?_
        refine p_iload_n C rfl 1 rfl dX3_set_49 ?_
        refine p_iload_n C rfl 2 rfl dX3_set_50 ?_
        refine c_Vi (As := [.int (nI i), .int (nI p9)]) (rest := []) C (m_X3_at l D k (i := i) (j := p9) (by omega) (by omega)) 0 rfl rfl rfl qml_X3_47 qim_X3_at qse_X3_X3_at qin_X3 qco_X3_at nd_X3_at ⟨Nat.le_of_ble_eq_true rfl, Nat.le_of_ble_eq_true rfl⟩ (Nat.le_of_ble_eq_true rfl) ⟨Nat.le_of_ble_eq_true rfl, Nat.le_of_ble_eq_true rfl⟩ rfl dX3_set_51 (fun r9 w9 h9 => ?_)
        obtain ⟨e9, rfl⟩ := h9
        refine p_int e9 ?_
        refine p_istore (lv9 := [(4, .int (mrow Am i p9)), (0, .ref (md 0)), (1, .int (nI i)), (2, .int (nI p9)), (3, .int am)]) C (by decide) rfl dX3_set_54 ?_
        refine p_aload_n C rfl 1 rfl dX3_set_56 ?_
        refine p_get (v := .ref (md 1)) (T := TX3) C 0 rfl rfl 2 (by decide) inX3 qfl_X3_9 (fun _ h9 => h9) rfl dX3_set_57 ?_
        refine p_bipush (v := (nI 9)) C (by decide) dX3_set_60 ?_
        refine p_iload_n C rfl 2 rfl dX3_set_62 ?_
        refine p_imul C dX3_set_63 ?_
        refine p_int (y := (nI (9 * i))) (pk_mul 9 i) ?_
        refine p_iload_n C rfl 3 rfl dX3_set_64 ?_
        refine p_iadd C dX3_set_65 ?_
        refine p_int (y := (nI (9 * i + p9))) (nI_add _ _) ?_
        refine p_iload_n C rfl 4 rfl dX3_set_66 ?_
        refine p_iast (w9 := (MW k md 0 (nI n) (seR Am i p9 am) Wk Mo v cp bt ml cn Y)) C 1 rfl (vp_in_nI (n := (9 * i + p9)) (N := 144) (by omega) (by omega)) (by rw [show ((nI (9 * i + p9))).toNatClampNeg = (9 * i + p9) from nI_clamp (by omega), show upd Am (9 * i + p9) am = (seR Am i p9 am) from rfl]; exact rfl) dX3_set_67 ?_
        refine p_iload C 0 rfl dX3_set_68 ?_
        rw [hQ]
        exact r_i C hrt9 (⟨_, _, by rw [show eSet n (nI i) (nI p9) am = 0 from by unfold eSet; rw [vi, vp, va]; rfl, sel_0, ix_nI (by omega), ix_nI (by omega)], fun _ => by rw [ix_nI (by omega), ix_nI (by omega)]⟩) (by decide) (by decide) dX3_set_70
      · have ha := bI_eq c_39
        refine p_aload_n C rfl 0 rfl dX3_set_42 ?_
        refine p_iconst (v := 2) C (by decide) dX3_set_43 ?_
        refine c_Vi (As := [.int 2]) (rest := []) C (m_X3_no l D k (x := 2)) 0 rfl rfl rfl qml_X3_66 qim_X3_no qse_X3_X3_no qin_X3 qco_X3_no nd_X3_no ⟨Nat.le_of_ble_eq_true rfl, Nat.le_of_ble_eq_true rfl⟩ (Nat.le_of_ble_eq_true rfl) ⟨Nat.le_of_ble_eq_true rfl, Nat.le_of_ble_eq_true rfl⟩ rfl dX3_set_44 (fun r9 w9 h9 => ?_)
        obtain ⟨e9, rfl⟩ := h9
        refine p_int e9 ?_
        rw [hQ]
        exact r_i C hrt9 (⟨_, _, by rw [show eSet n (nI i) (nI p9) am = 2 from by unfold eSet; rw [vi, vp, ha]; rfl, sel_2], fun q => absurd q (by rw [show eSet n (nI i) (nI p9) am = 2 from by unfold eSet; rw [vi, vp, ha]; rfl]; exact two_n0)⟩) (by decide) (by decide) dX3_set_47
    · have hp := bI_eq c_20
      refine p_aload_n C rfl 0 rfl dX3_set_23 ?_
      refine p_iconst (v := 1) C (by decide) dX3_set_24 ?_
      refine c_Vi (As := [.int 1]) (rest := []) C (m_X3_no l D k (x := 1)) 0 rfl rfl rfl qml_X3_66 qim_X3_no qse_X3_X3_no qin_X3 qco_X3_no nd_X3_no ⟨Nat.le_of_ble_eq_true rfl, Nat.le_of_ble_eq_true rfl⟩ (Nat.le_of_ble_eq_true rfl) ⟨Nat.le_of_ble_eq_true rfl, Nat.le_of_ble_eq_true rfl⟩ rfl dX3_set_25 (fun r9 w9 h9 => ?_)
      obtain ⟨e9, rfl⟩ := h9
      refine p_int e9 ?_
      rw [hQ]
      exact r_i C hrt9 (⟨_, _, by rw [show eSet n (nI i) pw am = 1 from by unfold eSet; rw [vi, hp]; rfl, sel_1], fun q => absurd q (by rw [show eSet n (nI i) pw am = 1 from by unfold eSet; rw [vi, hp]; rfl]; exact one_n0)⟩) (by decide) (by decide) dX3_set_28
set_option maxHeartbeats 4000000 in
set_option maxRecDepth 100000 in
/-- X3_amountOf -/
theorem m_X3_amountOf (l : Launch) (D : va_G) (k : Nat → ClassId) {md : Nat → Nat} {th : Int32} {n : Nat} {Am Wk Mo : Nat → Int32} {v cp : Nat} {bt : Nat → Int32} {ml cn : Int32} {Y : va_W} (hn : n ≤ 16) {rc pw : Int32} : CtI l D k yX3_amountOf (wU yX3_amountOf cX3_amountOf 3 (some .int)) (rmL 2 0 0) [.ref (md 0), .int rc, .int pw] (MW k md th (nI n) Am Wk Mo v cp bt ml cn Y) (fun r w' => ∃ Wk' Mo' : Nat → Int32, w' = (MW k md (eAmt n rc pw) (nI n) Am Wk' Mo' v cp bt ml cn Y) ∧ ((eAmt n rc pw) = 0 → r = (mrow Am (ix rc)) (ix pw))) := by
  refine openI (own := RX3) rfl (by decide) (Nat.le_of_ble_eq_true rfl) rfl ?_
  intro p e s m args below meth c A C hrt9 hnm
  obtain ⟨Q, hQ⟩ : ∃ Q, Q = (MQ below (va_Qi (fun r w' => ∃ Wk' Mo' : Nat → Int32, w' = (MW k md (eAmt n rc pw) (nI n) Am Wk' Mo' v cp bt ml cn Y) ∧ ((eAmt n rc pw) = 0 → r = (mrow Am (ix rc)) (ix pw))) (cBA D A) A) args s 0 0 A) := ⟨_, rfl⟩
  show WP p l e (rmL 2 0 0) s m args below meth c D A 3 (MW k md th (nI n) Am Wk Mo v cp bt ml cn Y) [(0, .ref (md 0)), (1, .int rc), (2, .int pw)] 0 0 (MQ below (va_Qi (fun r w' => ∃ Wk' Mo' : Nat → Int32, w' = (MW k md (eAmt n rc pw) (nI n) Am Wk' Mo' v cp bt ml cn Y) ∧ ((eAmt n rc pw) = 0 → r = (mrow Am (ix rc)) (ix pw))) (cBA D A) A) args s 0 0 A) 0 []
  rw [← hQ]
  refine p_aload_n C rfl 0 rfl dX3_amountOf_0 ?_
  refine p_iconst (v := 0) C (by decide) dX3_amountOf_1 ?_
  refine p_put (w9 := (MW k md 0 (nI n) Am Wk Mo v cp bt ml cn Y)) (v := .int 0) (T := TX3) C tyX3 tyX3_ok nmX3 0 rfl rfl 0 (by decide) inX3 qfl_X3_26 (fun _ h9 => h9) rfl rfl rfl (Nat.le_of_ble_eq_true rfl) rfl dX3_amountOf_2 ?_
  refine p_aload_n C rfl 0 rfl dX3_amountOf_5 ?_
  refine p_iload_n C rfl 1 rfl dX3_amountOf_6 ?_
  refine c_Vi (As := [.int rc]) (rest := []) C (m_X3_isRecipe l D k (x := rc)) 0 rfl rfl rfl qml_X3_73 qim_X3_isRecipe qse_X3_X3_isRecipe qin_X3 qco_X3_isRecipe nd_X3_isRecipe ⟨Nat.le_of_ble_eq_true rfl, Nat.le_of_ble_eq_true rfl⟩ (Nat.le_of_ble_eq_true rfl) ⟨Nat.le_of_ble_eq_true rfl, Nat.le_of_ble_eq_true rfl⟩ rfl dX3_amountOf_7 (fun r9 w9 h9 => ?_)
  obtain ⟨e9, rfl⟩ := h9
  refine p_int e9 ?_
  refine p_if_eq C 32 (by decide) dX3_amountOf_10 (fun c_10 => ?_) (fun c_10 => ?_)
  · have hr := bI_eq c_10
    refine p_aload_n C rfl 0 rfl dX3_amountOf_32 ?_
    refine p_iconst (v := 1) C (by decide) dX3_amountOf_33 ?_
    refine c_Vi (As := [.int 1]) (rest := []) C (m_X3_no l D k (x := 1)) 0 rfl rfl rfl qml_X3_66 qim_X3_no qse_X3_X3_no qin_X3 qco_X3_no nd_X3_no ⟨Nat.le_of_ble_eq_true rfl, Nat.le_of_ble_eq_true rfl⟩ (Nat.le_of_ble_eq_true rfl) ⟨Nat.le_of_ble_eq_true rfl, Nat.le_of_ble_eq_true rfl⟩ rfl dX3_amountOf_34 (fun r9 w9 h9 => ?_)
    obtain ⟨e9, rfl⟩ := h9
    refine p_int e9 ?_
    rw [hQ]
    exact r_i C hrt9 (⟨_, _, by rw [show eAmt n rc pw = 1 from by unfold eAmt; rw [hr]; rfl], fun q => absurd q (by rw [show eAmt n rc pw = 1 from by unfold eAmt; rw [hr]; rfl]; exact one_n0)⟩) (by decide) (by decide) dX3_amountOf_37
  · obtain ⟨i, hi, rfl⟩ := isR_spec hn (bI_ne c_10)
    have vi := isR_of hn hi
    refine p_iload_n C rfl 2 rfl dX3_amountOf_13 ?_
    refine p_iconst (v := 0) C (by decide) dX3_amountOf_14 ?_
    refine p_bipush (v := 8) C (by decide) dX3_amountOf_15 ?_
    refine c_Si (As := [.int pw, .int 0, .int 8]) (rest := []) C (m_X3_isFrom l D k (x := pw) (lo := 0) (hi := 8)) qml_X3_33 qst_X3_isFrom qin_X3 qco_X3_isFrom nd_X3_isFrom ⟨Nat.le_of_ble_eq_true rfl, Nat.le_of_ble_eq_true rfl⟩ (Nat.le_of_ble_eq_true rfl) ⟨Nat.le_of_ble_eq_true rfl, Nat.le_of_ble_eq_true rfl⟩ rfl dX3_amountOf_17 (fun r9 w9 h9 => ?_)
    obtain ⟨e9, rfl⟩ := h9
    refine p_int e9 ?_
    refine p_if_eq C 32 (by decide) dX3_amountOf_20 (fun c_20 => ?_) (fun c_20 => ?_)
    · have hp := bI_eq c_20
      refine p_aload_n C rfl 0 rfl dX3_amountOf_32 ?_
      refine p_iconst (v := 1) C (by decide) dX3_amountOf_33 ?_
      refine c_Vi (As := [.int 1]) (rest := []) C (m_X3_no l D k (x := 1)) 0 rfl rfl rfl qml_X3_66 qim_X3_no qse_X3_X3_no qin_X3 qco_X3_no nd_X3_no ⟨Nat.le_of_ble_eq_true rfl, Nat.le_of_ble_eq_true rfl⟩ (Nat.le_of_ble_eq_true rfl) ⟨Nat.le_of_ble_eq_true rfl, Nat.le_of_ble_eq_true rfl⟩ rfl dX3_amountOf_34 (fun r9 w9 h9 => ?_)
      obtain ⟨e9, rfl⟩ := h9
      refine p_int e9 ?_
      rw [hQ]
      exact r_i C hrt9 (⟨_, _, by rw [show eAmt n (nI i) pw = 1 from by unfold eAmt; rw [vi, hp]; rfl], fun q => absurd q (by rw [show eAmt n (nI i) pw = 1 from by unfold eAmt; rw [vi, hp]; rfl]; exact one_n0)⟩) (by decide) (by decide) dX3_amountOf_37
    · obtain ⟨p9, hp9, rfl⟩ := isF_p (bI_ne c_20)
      have vp : isF (nI p9) 0 8 = true := bI_ne c_20
      refine p_aload_n C rfl 0 rfl dX3_amountOf_23 ?_
      refine p_iload_n C rfl 1 rfl dX3_amountOf_24 ?_
      refine p_iload_n C rfl 2 rfl dX3_amountOf_25 ?_
      refine c_Vi (As := [.int (nI i), .int (nI p9)]) (rest := []) C (m_X3_at l D k (i := i) (j := p9) (by omega) (by omega)) 0 rfl rfl rfl qml_X3_47 qim_X3_at qse_X3_X3_at qin_X3 qco_X3_at nd_X3_at ⟨Nat.le_of_ble_eq_true rfl, Nat.le_of_ble_eq_true rfl⟩ (Nat.le_of_ble_eq_true rfl) ⟨Nat.le_of_ble_eq_true rfl, Nat.le_of_ble_eq_true rfl⟩ rfl dX3_amountOf_26 (fun r9 w9 h9 => ?_)
      obtain ⟨e9, rfl⟩ := h9
      refine p_int e9 ?_
      refine p_goto C 37 (by decide) dX3_amountOf_29 ?_
      rw [hQ]
      exact r_i C hrt9 (⟨_, _, by rw [show eAmt n (nI i) (nI p9) = 0 from by unfold eAmt; rw [vi, vp]; rfl], fun _ => by rw [ix_nI (by omega), ix_nI (by omega)]⟩) (by decide) (by decide) dX3_amountOf_37
set_option maxHeartbeats 4000000 in
set_option maxRecDepth 100000 in
/-- X3_drop -/
theorem m_X3_drop (l : Launch) (D : va_G) (k : Nat → ClassId) {md : Nat → Nat} {th : Int32} {n : Nat} {Am Wk Mo : Nat → Int32} {v cp : Nat} {bt : Nat → Int32} {ml cn : Int32} {Y : va_W} (hn : n ≤ 16) {rc : Int32} : CtI l D k yX3_drop (wU yX3_drop cX3_drop 3 (some .int)) (rmL 3 0 0) [.ref (md 0), .int rc] (MW k md th (nI n) Am Wk Mo v cp bt ml cn Y) (fun r w' => ∃ Wk' Mo' : Nat → Int32, w' = (MW k md (e1 n rc) (sel (e1 n rc) (nI (n - 1)) (nI n)) (sel (e1 n rc) (drR Am (ix rc) n) Am) Wk' Mo' v cp bt ml cn Y) ∧ ((e1 n rc) = 0 → r = dI (dg (mrow Am (ix rc))))) := by
  refine openI (own := RX3) rfl (by decide) (Nat.le_of_ble_eq_true rfl) rfl ?_
  intro p e s m args below meth c A C hrt9 hnm
  obtain ⟨Q, hQ⟩ : ∃ Q, Q = (MQ below (va_Qi (fun r w' => ∃ Wk' Mo' : Nat → Int32, w' = (MW k md (e1 n rc) (sel (e1 n rc) (nI (n - 1)) (nI n)) (sel (e1 n rc) (drR Am (ix rc) n) Am) Wk' Mo' v cp bt ml cn Y) ∧ ((e1 n rc) = 0 → r = dI (dg (mrow Am (ix rc))))) (cBA D A) A) args s 0 0 A) := ⟨_, rfl⟩
  show WP p l e (rmL 3 0 0) s m args below meth c D A 3 (MW k md th (nI n) Am Wk Mo v cp bt ml cn Y) [(0, .ref (md 0)), (1, .int rc)] 0 0 (MQ below (va_Qi (fun r w' => ∃ Wk' Mo' : Nat → Int32, w' = (MW k md (e1 n rc) (sel (e1 n rc) (nI (n - 1)) (nI n)) (sel (e1 n rc) (drR Am (ix rc) n) Am) Wk' Mo' v cp bt ml cn Y) ∧ ((e1 n rc) = 0 → r = dI (dg (mrow Am (ix rc))))) (cBA D A) A) args s 0 0 A) 0 []
  rw [← hQ]
  refine p_aload_n C rfl 0 rfl dX3_drop_0 ?_
  refine p_iconst (v := 0) C (by decide) dX3_drop_1 ?_
  refine p_put (w9 := (MW k md 0 (nI n) Am Wk Mo v cp bt ml cn Y)) (v := .int 0) (T := TX3) C tyX3 tyX3_ok nmX3 0 rfl rfl 0 (by decide) inX3 qfl_X3_26 (fun _ h9 => h9) rfl rfl rfl (Nat.le_of_ble_eq_true rfl) rfl dX3_drop_2 ?_
  refine p_aload_n C rfl 0 rfl dX3_drop_5 ?_
  refine p_iload_n C rfl 1 rfl dX3_drop_6 ?_
  refine c_Vi (As := [.int rc]) (rest := []) C (m_X3_isRecipe l D k (x := rc)) 0 rfl rfl rfl qml_X3_73 qim_X3_isRecipe qse_X3_X3_isRecipe qin_X3 qco_X3_isRecipe nd_X3_isRecipe ⟨Nat.le_of_ble_eq_true rfl, Nat.le_of_ble_eq_true rfl⟩ (Nat.le_of_ble_eq_true rfl) ⟨Nat.le_of_ble_eq_true rfl, Nat.le_of_ble_eq_true rfl⟩ rfl dX3_drop_7 (fun r9 w9 h9 => ?_)
  obtain ⟨e9, rfl⟩ := h9
  refine p_int e9 ?_
  refine p_if_ne C 19 (by decide) dX3_drop_10 (fun c_10 => ?_) (fun c_10 => ?_)
  · obtain ⟨i, hi, rfl⟩ := isR_spec hn (bI_ne c_10)
    have vi := isR_of hn hi
    refine p_aload_n C rfl 0 rfl dX3_drop_19 ?_
    refine p_iload_n C rfl 1 rfl dX3_drop_20 ?_
    refine c_Vi (As := [.int (nI i)]) (rest := []) C (m_X3_degreeNow l D k (i := i) (by omega)) 0 rfl rfl rfl qml_X3_51 qim_X3_degreeNow qse_X3_X3_degreeNow qin_X3 qco_X3_degreeNow nd_X3_degreeNow ⟨Nat.le_of_ble_eq_true rfl, Nat.le_of_ble_eq_true rfl⟩ (Nat.le_of_ble_eq_true rfl) ⟨Nat.le_of_ble_eq_true rfl, Nat.le_of_ble_eq_true rfl⟩ rfl dX3_drop_21 (fun r9 w9 h9 => ?_)
    obtain ⟨e9, rfl⟩ := h9
    refine p_int e9 ?_
    refine p_istore_n (lv9 := [(2, .int (dI (dg (mrow Am i)))), (0, .ref (md 0)), (1, .int (nI i))]) C rfl (by decide) rfl dX3_drop_24 ?_
    refine p_aload_n C rfl 1 rfl dX3_drop_25 ?_
    refine p_dup C rfl dX3_drop_26 ?_
    refine p_get (v := .int (nI n)) (T := TX3) C 0 rfl rfl 1 (by decide) inX3 qfl_X3_30 (fun _ h9 => h9) rfl dX3_drop_27 ?_
    refine p_iconst (v := 1) C (by decide) dX3_drop_30 ?_
    refine p_isub C dX3_drop_31 ?_
    refine p_int (y := (nI (n - 1))) (by obtain ⟨m9, rfl⟩ : ∃ m9, n = m9 + 1 := ⟨n - 1, by omega⟩; exact nI_pred m9) ?_
    refine p_put (w9 := (MW k md 0 (nI (n - 1)) Am Wk Mo v cp bt ml cn Y)) (v := .int (nI (n - 1))) (T := TX3) C tyX3 tyX3_ok nmX3 0 rfl rfl 1 (by decide) inX3 qfl_X3_30 (fun _ h9 => h9) rfl rfl rfl (Nat.le_of_ble_eq_true rfl) rfl dX3_drop_32 ?_
    refine p_aload_n C rfl 1 rfl dX3_drop_35 ?_
    refine p_get (v := .ref (md 1)) (T := TX3) C 0 rfl rfl 2 (by decide) inX3 qfl_X3_9 (fun _ h9 => h9) rfl dX3_drop_36 ?_
    refine p_bipush (v := (nI 9)) C (by decide) dX3_drop_39 ?_
    refine p_iload_n C rfl 2 rfl dX3_drop_41 ?_
    refine p_iconst (v := 1) C (by decide) dX3_drop_42 ?_
    refine p_iadd C dX3_drop_43 ?_
    refine p_int (y := (nI (i + 1))) (nI_1 i) ?_
    refine p_imul C dX3_drop_44 ?_
    refine p_int (y := (nI (9 * (i + 1)))) (pk_mul 9 (i + 1)) ?_
    refine p_aload_n C rfl 1 rfl dX3_drop_45 ?_
    refine p_get (v := .ref (md 1)) (T := TX3) C 0 rfl rfl 2 (by decide) inX3 qfl_X3_9 (fun _ h9 => h9) rfl dX3_drop_46 ?_
    refine p_bipush (v := (nI 9)) C (by decide) dX3_drop_49 ?_
    refine p_iload_n C rfl 2 rfl dX3_drop_51 ?_
    refine p_imul C dX3_drop_52 ?_
    refine p_int (y := (nI (9 * i))) (pk_mul 9 i) ?_
    refine p_bipush (v := (nI 9)) C (by decide) dX3_drop_53 ?_
    refine p_aload_n C rfl 1 rfl dX3_drop_55 ?_
    refine p_get (v := .int (nI (n - 1))) (T := TX3) C 0 rfl rfl 1 (by decide) inX3 qfl_X3_30 (fun _ h9 => h9) rfl dX3_drop_56 ?_
    refine p_iload_n C rfl 2 rfl dX3_drop_59 ?_
    refine p_isub C dX3_drop_60 ?_
    refine p_int (y := (nI (n - 1 - i))) (pk_sub (by omega)) ?_
    refine p_imul C dX3_drop_61 ?_
    refine p_int (y := (nI (9 * (n - 1 - i)))) (pk_mul 9 (n - 1 - i)) ?_
    refine p_copyi (rest := []) (sp := (9 * (i + 1))) (dp := (9 * i)) (n := (9 * (n - 1 - i))) (w9 := (MW k md 0 (nI (n - 1)) (va_cpy Am Am (9 * (i + 1)) (9 * i) (9 * (n - 1 - i))) Wk Mo v cp bt ml cn Y)) C qml_X3_37 qnt_arraycopyName qst_arraycopyName qin_J10 1 1 rfl rfl (by omega) (by omega) (by omega) (by omega) (by decide) (by decide +kernel) rfl dX3_drop_62 ?_
    refine p_arr (n := 144) (w9 := (MW k md 0 (nI (n - 1)) (drR Am i n) Wk Mo v cp bt ml cn Y)) 1 rfl (drR Am i n) (fun j hj => cpy_drop hi) rfl ?_
    refine p_iload_n C rfl 0 rfl dX3_drop_65 ?_
    rw [hQ]
    exact r_i C hrt9 (⟨_, _, by rw [show e1 n (nI i) = 0 from by unfold e1; rw [vi]; rfl, sel_0, sel_0, ix_nI (by omega)], fun _ => by rw [ix_nI (by omega)]⟩) (by decide) (by decide) dX3_drop_66
  · have hr := bI_eq c_10
    refine p_aload_n C rfl 0 rfl dX3_drop_13 ?_
    refine p_iconst (v := 1) C (by decide) dX3_drop_14 ?_
    refine c_Vi (As := [.int 1]) (rest := []) C (m_X3_no l D k (x := 1)) 0 rfl rfl rfl qml_X3_66 qim_X3_no qse_X3_X3_no qin_X3 qco_X3_no nd_X3_no ⟨Nat.le_of_ble_eq_true rfl, Nat.le_of_ble_eq_true rfl⟩ (Nat.le_of_ble_eq_true rfl) ⟨Nat.le_of_ble_eq_true rfl, Nat.le_of_ble_eq_true rfl⟩ rfl dX3_drop_15 (fun r9 w9 h9 => ?_)
    obtain ⟨e9, rfl⟩ := h9
    refine p_int e9 ?_
    rw [hQ]
    exact r_i C hrt9 (⟨_, _, by rw [show e1 n rc = 1 from by unfold e1; rw [hr]; rfl, sel_1, sel_1], fun q => absurd q (by rw [show e1 n rc = 1 from by unfold e1; rw [hr]; rfl]; exact one_n0)⟩) (by decide) (by decide) dX3_drop_18
set_option maxHeartbeats 4000000 in
set_option maxRecDepth 100000 in
/-- X3_scale -/
theorem m_X3_scale (l : Launch) (D : va_G) (k : Nat → ClassId) {md : Nat → Nat} {th : Int32} {n : Nat} {Am Wk Mo : Nat → Int32} {v cp : Nat} {bt : Nat → Int32} {ml cn : Int32} {Y : va_W} (hn : n ≤ 16) {rc x : Int32} : CtI l D k yX3_scale (wU yX3_scale cX3_scale 4 (some .int)) (rmL 3 0 0) [.ref (md 0), .int rc, .int x] (MW k md th (nI n) Am Wk Mo v cp bt ml cn Y) (fun r w' => ∃ Wk' Mo' : Nat → Int32, w' = (MW k md (e1 n rc) (nI n) (sel (e1 n rc) (scR Am (ix rc) x 9) Am) Wk' Mo' v cp bt ml cn Y) ∧ ((e1 n rc) = 0 → r = dI (dg (mrow (scR Am (ix rc) x 9) (ix rc))))) := by
  refine openI (own := RX3) rfl (by decide) (Nat.le_of_ble_eq_true rfl) rfl ?_
  intro p e s m args below meth c A C hrt9 hnm
  obtain ⟨Q, hQ⟩ : ∃ Q, Q = (MQ below (va_Qi (fun r w' => ∃ Wk' Mo' : Nat → Int32, w' = (MW k md (e1 n rc) (nI n) (sel (e1 n rc) (scR Am (ix rc) x 9) Am) Wk' Mo' v cp bt ml cn Y) ∧ ((e1 n rc) = 0 → r = dI (dg (mrow (scR Am (ix rc) x 9) (ix rc))))) (cBA D A) A) args s 0 0 A) := ⟨_, rfl⟩
  show WP p l e (rmL 3 0 0) s m args below meth c D A 4 (MW k md th (nI n) Am Wk Mo v cp bt ml cn Y) [(0, .ref (md 0)), (1, .int rc), (2, .int x)] 0 0 (MQ below (va_Qi (fun r w' => ∃ Wk' Mo' : Nat → Int32, w' = (MW k md (e1 n rc) (nI n) (sel (e1 n rc) (scR Am (ix rc) x 9) Am) Wk' Mo' v cp bt ml cn Y) ∧ ((e1 n rc) = 0 → r = dI (dg (mrow (scR Am (ix rc) x 9) (ix rc))))) (cBA D A) A) args s 0 0 A) 0 []
  rw [← hQ]
  refine p_aload_n C rfl 0 rfl dX3_scale_0 ?_
  refine p_iconst (v := 0) C (by decide) dX3_scale_1 ?_
  refine p_put (w9 := (MW k md 0 (nI n) Am Wk Mo v cp bt ml cn Y)) (v := .int 0) (T := TX3) C tyX3 tyX3_ok nmX3 0 rfl rfl 0 (by decide) inX3 qfl_X3_26 (fun _ h9 => h9) rfl rfl rfl (Nat.le_of_ble_eq_true rfl) rfl dX3_scale_2 ?_
  refine p_aload_n C rfl 0 rfl dX3_scale_5 ?_
  refine p_iload_n C rfl 1 rfl dX3_scale_6 ?_
  refine c_Vi (As := [.int rc]) (rest := []) C (m_X3_isRecipe l D k (x := rc)) 0 rfl rfl rfl qml_X3_73 qim_X3_isRecipe qse_X3_X3_isRecipe qin_X3 qco_X3_isRecipe nd_X3_isRecipe ⟨Nat.le_of_ble_eq_true rfl, Nat.le_of_ble_eq_true rfl⟩ (Nat.le_of_ble_eq_true rfl) ⟨Nat.le_of_ble_eq_true rfl, Nat.le_of_ble_eq_true rfl⟩ rfl dX3_scale_7 (fun r9 w9 h9 => ?_)
  obtain ⟨e9, rfl⟩ := h9
  refine p_int e9 ?_
  refine p_if_ne C 19 (by decide) dX3_scale_10 (fun c_10 => ?_) (fun c_10 => ?_)
  · obtain ⟨i, hi, rfl⟩ := isR_spec hn (bI_ne c_10)
    have vi := isR_of hn hi
    refine p_iconst (v := 0) C (by decide) dX3_scale_19 ?_
    refine p_istore_n (lv9 := [(3, .int 0), (0, .ref (md 0)), (1, .int (nI i)), (2, .int x)]) C rfl (by decide) rfl dX3_scale_20 ?_
    refine p_w (w9 := (MW k md 0 (nI n) (scR Am i x 0) Wk Mo v cp bt ml cn Y)) (by rw [scR_0]) ?_
    refine p_lv (lv9 := [(0, .ref (md 0)), (1, .int (nI i)), (2, .int x), (3, .int 0)]) [1, 2, 3, 0] rfl ?_
    have lp21 : ∀ (n21 : Nat) (j : Nat), (hj : j + n21 = 9) → WP p l e (rmL 3 0 0) s m args below meth c D A 4 (MW k md 0 (nI n) (scR Am i x j) Wk Mo v cp bt ml cn Y) [(0, .ref (md 0)), (1, .int (nI i)), (2, .int x), (3, .int (nI j))] 0 0 Q 21 [] := by
      intro n21
      induction n21 with
      | zero =>
        intro j hj
        obtain rfl : j = 9 := by omega
        refine p_iload_n C rfl 3 rfl dX3_scale_21 ?_
        refine p_bipush (v := 9) C (by decide) dX3_scale_22 ?_
        refine p_icmp_ge C 48 (by decide) dX3_scale_24 (fun c_24 => ?_) (fun c_24 => absurd c_24 (by decide))
        refine p_aload_n C rfl 0 rfl dX3_scale_48 ?_
        refine p_iload_n C rfl 1 rfl dX3_scale_49 ?_
        refine c_Vi (As := [.int (nI i)]) (rest := []) C (m_X3_degreeNow l D k (i := i) (by omega)) 0 rfl rfl rfl qml_X3_51 qim_X3_degreeNow qse_X3_X3_degreeNow qin_X3 qco_X3_degreeNow nd_X3_degreeNow ⟨Nat.le_of_ble_eq_true rfl, Nat.le_of_ble_eq_true rfl⟩ (Nat.le_of_ble_eq_true rfl) ⟨Nat.le_of_ble_eq_true rfl, Nat.le_of_ble_eq_true rfl⟩ rfl dX3_scale_50 (fun r9 w9 h9 => ?_)
        obtain ⟨e9, rfl⟩ := h9
        refine p_int e9 ?_
        rw [hQ]
        exact r_i C hrt9 (⟨_, _, by rw [show e1 n (nI i) = 0 from by unfold e1; rw [vi]; rfl, sel_0, ix_nI (by omega)], fun _ => by rw [ix_nI (by omega)]⟩) (by decide) (by decide) dX3_scale_53
      | succ n21 ih21 =>
        intro j hj
        have hj2 : j < 9 := by omega
        refine p_iload_n C rfl 3 rfl dX3_scale_21 ?_
        refine p_bipush (v := 9) C (by decide) dX3_scale_22 ?_
        refine p_icmp_ge C 48 (by decide) dX3_scale_24 (fun c_24 => absurd c_24 (nI_ge (b := 9) hj2 (by decide))) (fun c_24 => ?_)
        refine p_aload_n C rfl 0 rfl dX3_scale_27 ?_
        refine p_get (v := .ref (md 1)) (T := TX3) C 0 rfl rfl 2 (by decide) inX3 qfl_X3_9 (fun _ h9 => h9) rfl dX3_scale_28 ?_
        refine p_bipush (v := (nI 9)) C (by decide) dX3_scale_31 ?_
        refine p_iload_n C rfl 1 rfl dX3_scale_33 ?_
        refine p_imul C dX3_scale_34 ?_
        refine p_int (y := (nI (9 * i))) (pk_mul 9 i) ?_
        refine p_iload_n C rfl 3 rfl dX3_scale_35 ?_
        refine p_iadd C dX3_scale_36 ?_
        refine p_int (y := (nI (9 * i + j))) (nI_add _ _) ?_
        refine p_dup2_11 C rfl rfl dX3_scale_37 ?_
        refine p_iald (v := ((scR Am i x j) (9 * i + j))) C 1 rfl (vp_in_nI (n := (9 * i + j)) (N := 144) (by omega) (by omega)) (by rw [show ((nI (9 * i + j))).toNatClampNeg = (9 * i + j) from nI_clamp (by omega)]) dX3_scale_38 ?_
        refine p_iload_n C rfl 2 rfl dX3_scale_39 ?_
        refine p_imul C dX3_scale_40 ?_
        refine p_iast (w9 := (MW k md 0 (nI n) (scR Am i x (j + 1)) Wk Mo v cp bt ml cn Y)) C 1 rfl (vp_in_nI (n := (9 * i + j)) (N := 144) (by omega) (by omega)) (by rw [show ((nI (9 * i + j))).toNatClampNeg = (9 * i + j) from nI_clamp (by omega), show upd (scR Am i x j) (9 * i + j) (((scR Am i x j) (9 * i + j)) * x) = (scR Am i x (j + 1)) from scR_s]; exact rfl) dX3_scale_41 ?_
        refine p_iinc (lv9 := [(3, .int (nI (j + 1))), (0, .ref (md 0)), (1, .int (nI i)), (2, .int x)]) (v := (nI (j + 1))) C (j := 3) rfl (i_up j) (by decide) rfl dX3_scale_42 ?_
        refine p_goto C 21 (by decide) dX3_scale_45 ?_
        refine p_lv (lv9 := [(0, .ref (md 0)), (1, .int (nI i)), (2, .int x), (3, .int (nI (j + 1)))]) [1, 2, 3, 0] rfl ?_
        exact ih21 (j + 1) (by omega)
    exact lp21 9 0 rfl
  · have hr := bI_eq c_10
    refine p_aload_n C rfl 0 rfl dX3_scale_13 ?_
    refine p_iconst (v := 1) C (by decide) dX3_scale_14 ?_
    refine c_Vi (As := [.int 1]) (rest := []) C (m_X3_no l D k (x := 1)) 0 rfl rfl rfl qml_X3_66 qim_X3_no qse_X3_X3_no qin_X3 qco_X3_no nd_X3_no ⟨Nat.le_of_ble_eq_true rfl, Nat.le_of_ble_eq_true rfl⟩ (Nat.le_of_ble_eq_true rfl) ⟨Nat.le_of_ble_eq_true rfl, Nat.le_of_ble_eq_true rfl⟩ rfl dX3_scale_15 (fun r9 w9 h9 => ?_)
    obtain ⟨e9, rfl⟩ := h9
    refine p_int e9 ?_
    rw [hQ]
    exact r_i C hrt9 (⟨_, _, by rw [show e1 n rc = 1 from by unfold e1; rw [hr]; rfl, sel_1], fun q => absurd q (by rw [show e1 n rc = 1 from by unfold e1; rw [hr]; rfl]; exact one_n0)⟩) (by decide) (by decide) dX3_scale_18
set_option maxHeartbeats 4000000 in
set_option maxRecDepth 100000 in
/-- X3_shift -/
theorem m_X3_shift (l : Launch) (D : va_G) (k : Nat → ClassId) {md : Nat → Nat} {th : Int32} {n : Nat} {Am Wk Mo : Nat → Int32} {v cp : Nat} {bt : Nat → Int32} {ml cn : Int32} {Y : va_W} (hn : n ≤ 16) {rc x : Int32} : CtI l D k yX3_shift (wU yX3_shift cX3_shift 3 (some .int)) (rmL 3 0 0) [.ref (md 0), .int rc, .int x] (MW k md th (nI n) Am Wk Mo v cp bt ml cn Y) (fun r w' => ∃ Wk' Mo' : Nat → Int32, w' = (MW k md (eShift n rc x) (nI n) (sel (eShift n rc x) (ptR Am (ix rc) (mv (mrow Am (ix rc)) x)) Am) Wk' Mo' v cp bt ml cn Y) ∧ ((eShift n rc x) = 0 → r = mv (mrow Am (ix rc)) x 0)) := by
  refine openI (own := RX3) rfl (by decide) (Nat.le_of_ble_eq_true rfl) rfl ?_
  intro p e s m args below meth c A C hrt9 hnm
  obtain ⟨Q, hQ⟩ : ∃ Q, Q = (MQ below (va_Qi (fun r w' => ∃ Wk' Mo' : Nat → Int32, w' = (MW k md (eShift n rc x) (nI n) (sel (eShift n rc x) (ptR Am (ix rc) (mv (mrow Am (ix rc)) x)) Am) Wk' Mo' v cp bt ml cn Y) ∧ ((eShift n rc x) = 0 → r = mv (mrow Am (ix rc)) x 0)) (cBA D A) A) args s 0 0 A) := ⟨_, rfl⟩
  show WP p l e (rmL 3 0 0) s m args below meth c D A 3 (MW k md th (nI n) Am Wk Mo v cp bt ml cn Y) [(0, .ref (md 0)), (1, .int rc), (2, .int x)] 0 0 (MQ below (va_Qi (fun r w' => ∃ Wk' Mo' : Nat → Int32, w' = (MW k md (eShift n rc x) (nI n) (sel (eShift n rc x) (ptR Am (ix rc) (mv (mrow Am (ix rc)) x)) Am) Wk' Mo' v cp bt ml cn Y) ∧ ((eShift n rc x) = 0 → r = mv (mrow Am (ix rc)) x 0)) (cBA D A) A) args s 0 0 A) 0 []
  rw [← hQ]
  refine p_aload_n C rfl 0 rfl dX3_shift_0 ?_
  refine p_iconst (v := 0) C (by decide) dX3_shift_1 ?_
  refine p_put (w9 := (MW k md 0 (nI n) Am Wk Mo v cp bt ml cn Y)) (v := .int 0) (T := TX3) C tyX3 tyX3_ok nmX3 0 rfl rfl 0 (by decide) inX3 qfl_X3_26 (fun _ h9 => h9) rfl rfl rfl (Nat.le_of_ble_eq_true rfl) rfl dX3_shift_2 ?_
  refine p_aload_n C rfl 0 rfl dX3_shift_5 ?_
  refine p_iload_n C rfl 1 rfl dX3_shift_6 ?_
  refine c_Vi (As := [.int rc]) (rest := []) C (m_X3_isRecipe l D k (x := rc)) 0 rfl rfl rfl qml_X3_73 qim_X3_isRecipe qse_X3_X3_isRecipe qin_X3 qco_X3_isRecipe nd_X3_isRecipe ⟨Nat.le_of_ble_eq_true rfl, Nat.le_of_ble_eq_true rfl⟩ (Nat.le_of_ble_eq_true rfl) ⟨Nat.le_of_ble_eq_true rfl, Nat.le_of_ble_eq_true rfl⟩ rfl dX3_shift_7 (fun r9 w9 h9 => ?_)
  obtain ⟨e9, rfl⟩ := h9
  refine p_int e9 ?_
  refine p_if_ne C 19 (by decide) dX3_shift_10 (fun c_10 => ?_) (fun c_10 => ?_)
  · obtain ⟨i, hi, rfl⟩ := isR_spec hn (bI_ne c_10)
    have vi := isR_of hn hi
    refine p_iload_n C rfl 2 rfl dX3_shift_19 ?_
    refine p_bipush (v := (-20)) C (by decide) dX3_shift_20 ?_
    refine p_bipush (v := 20) C (by decide) dX3_shift_22 ?_
    refine c_Si (As := [.int x, .int (-20), .int 20]) (rest := []) C (m_X3_isFrom l D k (x := x) (lo := (-20)) (hi := 20)) qml_X3_33 qst_X3_isFrom qin_X3 qco_X3_isFrom nd_X3_isFrom ⟨Nat.le_of_ble_eq_true rfl, Nat.le_of_ble_eq_true rfl⟩ (Nat.le_of_ble_eq_true rfl) ⟨Nat.le_of_ble_eq_true rfl, Nat.le_of_ble_eq_true rfl⟩ rfl dX3_shift_24 (fun r9 w9 h9 => ?_)
    obtain ⟨e9, rfl⟩ := h9
    refine p_int e9 ?_
    refine p_if_ne C 36 (by decide) dX3_shift_27 (fun c_27 => ?_) (fun c_27 => ?_)
    · have vg := bI_ne c_27
      refine p_aload_n C rfl 0 rfl dX3_shift_36 ?_
      refine p_iload_n C rfl 1 rfl dX3_shift_37 ?_
      refine p_aload_n C rfl 0 rfl dX3_shift_38 ?_
      refine p_get (v := .ref (md 2)) (T := TX3) C 0 rfl rfl 3 (by decide) inX3 qfl_X3_13 (fun _ h9 => h9) rfl dX3_shift_39 ?_
      refine c_Vv (As := [.int (nI i), .ref (md 2)]) (rest := []) C (m_X3_take l D k (i := i) (by omega)) 0 rfl rfl rfl qml_X3_55 qim_X3_take qse_X3_X3_take qin_X3 qco_X3_take nd_X3_take ⟨Nat.le_of_ble_eq_true rfl, Nat.le_of_ble_eq_true rfl⟩ (Nat.le_of_ble_eq_true rfl) ⟨Nat.le_of_ble_eq_true rfl, Nat.le_of_ble_eq_true rfl⟩ rfl dX3_shift_42 (fun w9 h9 => ?_)
      obtain rfl := h9
      refine p_aload_n C rfl 0 rfl dX3_shift_45 ?_
      refine p_get (v := .ref (md 2)) (T := TX3) C 0 rfl rfl 3 (by decide) inX3 qfl_X3_13 (fun _ h9 => h9) rfl dX3_shift_46 ?_
      refine p_iload_n C rfl 2 rfl dX3_shift_49 ?_
      refine c_Sv (As := [.ref (md 2), .int x]) (rest := []) C (m_X3_shiftRow l D k (u := 2) (x := x) rfl) qml_X3_77 qst_X3_shiftRow qin_X3 qco_X3_shiftRow nd_X3_shiftRow ⟨Nat.le_of_ble_eq_true rfl, Nat.le_of_ble_eq_true rfl⟩ (Nat.le_of_ble_eq_true rfl) ⟨Nat.le_of_ble_eq_true rfl, Nat.le_of_ble_eq_true rfl⟩ rfl dX3_shift_50 (fun w9 h9 => ?_)
      obtain rfl := h9
      refine p_w (w9 := (MW k md 0 (nI n) Am (mv (mrow Am i) x) Mo v cp bt ml cn Y)) (rfl) ?_
      refine p_aload_n C rfl 0 rfl dX3_shift_53 ?_
      refine p_iload_n C rfl 1 rfl dX3_shift_54 ?_
      refine p_aload_n C rfl 0 rfl dX3_shift_55 ?_
      refine p_get (v := .ref (md 2)) (T := TX3) C 0 rfl rfl 3 (by decide) inX3 qfl_X3_13 (fun _ h9 => h9) rfl dX3_shift_56 ?_
      refine c_Vv (As := [.int (nI i), .ref (md 2)]) (rest := []) C (m_X3_put_w l D k (i := i) (by omega)) 0 rfl rfl rfl qml_X3_43 qim_X3_put qse_X3_X3_put qin_X3 qco_X3_put nd_X3_put ⟨Nat.le_of_ble_eq_true rfl, Nat.le_of_ble_eq_true rfl⟩ (Nat.le_of_ble_eq_true rfl) ⟨Nat.le_of_ble_eq_true rfl, Nat.le_of_ble_eq_true rfl⟩ rfl dX3_shift_59 (fun w9 h9 => ?_)
      obtain rfl := h9
      refine p_aload_n C rfl 0 rfl dX3_shift_62 ?_
      refine p_iload_n C rfl 1 rfl dX3_shift_63 ?_
      refine p_iconst (v := (nI 0)) C (by decide) dX3_shift_64 ?_
      refine c_Vi (As := [.int (nI i), .int (nI 0)]) (rest := []) C (m_X3_at l D k (i := i) (j := 0) (by omega) (by omega)) 0 rfl rfl rfl qml_X3_47 qim_X3_at qse_X3_X3_at qin_X3 qco_X3_at nd_X3_at ⟨Nat.le_of_ble_eq_true rfl, Nat.le_of_ble_eq_true rfl⟩ (Nat.le_of_ble_eq_true rfl) ⟨Nat.le_of_ble_eq_true rfl, Nat.le_of_ble_eq_true rfl⟩ rfl dX3_shift_65 (fun r9 w9 h9 => ?_)
      obtain ⟨e9, rfl⟩ := h9
      refine p_int e9 ?_
      rw [hQ]
      exact r_i C hrt9 (⟨_, _, by rw [show eShift n (nI i) x = 0 from by unfold eShift; rw [vi, vg]; rfl, sel_0, ix_nI (by omega)], fun _ => by rw [mrow_pt, n9_in (by omega), ix_nI (by omega)]⟩) (by decide) (by decide) dX3_shift_68
    · have hg := bI_eq c_27
      refine p_aload_n C rfl 0 rfl dX3_shift_30 ?_
      refine p_iconst (v := 2) C (by decide) dX3_shift_31 ?_
      refine c_Vi (As := [.int 2]) (rest := []) C (m_X3_no l D k (x := 2)) 0 rfl rfl rfl qml_X3_66 qim_X3_no qse_X3_X3_no qin_X3 qco_X3_no nd_X3_no ⟨Nat.le_of_ble_eq_true rfl, Nat.le_of_ble_eq_true rfl⟩ (Nat.le_of_ble_eq_true rfl) ⟨Nat.le_of_ble_eq_true rfl, Nat.le_of_ble_eq_true rfl⟩ rfl dX3_shift_32 (fun r9 w9 h9 => ?_)
      obtain ⟨e9, rfl⟩ := h9
      refine p_int e9 ?_
      rw [hQ]
      exact r_i C hrt9 (⟨_, _, by rw [show eShift n (nI i) x = 2 from by unfold eShift; rw [vi, hg]; rfl, sel_2], fun q => absurd q (by rw [show eShift n (nI i) x = 2 from by unfold eShift; rw [vi, hg]; rfl]; exact two_n0)⟩) (by decide) (by decide) dX3_shift_35
  · have hr := bI_eq c_10
    refine p_aload_n C rfl 0 rfl dX3_shift_13 ?_
    refine p_iconst (v := 1) C (by decide) dX3_shift_14 ?_
    refine c_Vi (As := [.int 1]) (rest := []) C (m_X3_no l D k (x := 1)) 0 rfl rfl rfl qml_X3_66 qim_X3_no qse_X3_X3_no qin_X3 qco_X3_no nd_X3_no ⟨Nat.le_of_ble_eq_true rfl, Nat.le_of_ble_eq_true rfl⟩ (Nat.le_of_ble_eq_true rfl) ⟨Nat.le_of_ble_eq_true rfl, Nat.le_of_ble_eq_true rfl⟩ rfl dX3_shift_15 (fun r9 w9 h9 => ?_)
    obtain ⟨e9, rfl⟩ := h9
    refine p_int e9 ?_
    rw [hQ]
    exact r_i C hrt9 (⟨_, _, by rw [show eShift n rc x = 1 from by unfold eShift; rw [hr]; rfl, sel_1], fun q => absurd q (by rw [show eShift n rc x = 1 from by unfold eShift; rw [hr]; rfl]; exact one_n0)⟩) (by decide) (by decide) dX3_shift_18
set_option maxHeartbeats 4000000 in
set_option maxRecDepth 100000 in
/-- X3_joined -/
theorem m_X3_joined (l : Launch) (D : va_G) (k : Nat → ClassId) {md : Nat → Nat} {th : Int32} {n : Nat} {Am Wk Mo : Nat → Int32} {v cp : Nat} {bt : Nat → Int32} {ml cn : Int32} {Y : va_W} (hn : n ≤ 16) {ra rb x : Int32} : CtI l D k yX3_joined (wU yX3_joined cX3_joined 5 (some .int)) (rmL 3 0 0) [.ref (md 0), .int ra, .int rb, .int x] (MW k md th (nI n) Am Wk Mo v cp bt ml cn Y) (fun r w' => ∃ Wk' Mo' : Nat → Int32, w' = (MW k md (eJoin n ra rb) (sel (eJoin n ra rb) (nI (n + 1)) (nI n)) (sel (eJoin n ra rb) (ptR Am n (jnR (mrow Am (ix ra)) (mrow Am (ix rb)) x)) Am) Wk' Mo' v cp bt ml cn Y) ∧ ((eJoin n ra rb) = 0 → r = nI n)) := by
  refine openI (own := RX3) rfl (by decide) (Nat.le_of_ble_eq_true rfl) rfl ?_
  intro p e s m args below meth c A C hrt9 hnm
  obtain ⟨Q, hQ⟩ : ∃ Q, Q = (MQ below (va_Qi (fun r w' => ∃ Wk' Mo' : Nat → Int32, w' = (MW k md (eJoin n ra rb) (sel (eJoin n ra rb) (nI (n + 1)) (nI n)) (sel (eJoin n ra rb) (ptR Am n (jnR (mrow Am (ix ra)) (mrow Am (ix rb)) x)) Am) Wk' Mo' v cp bt ml cn Y) ∧ ((eJoin n ra rb) = 0 → r = nI n)) (cBA D A) A) args s 0 0 A) := ⟨_, rfl⟩
  show WP p l e (rmL 3 0 0) s m args below meth c D A 5 (MW k md th (nI n) Am Wk Mo v cp bt ml cn Y) [(0, .ref (md 0)), (1, .int ra), (2, .int rb), (3, .int x)] 0 0 (MQ below (va_Qi (fun r w' => ∃ Wk' Mo' : Nat → Int32, w' = (MW k md (eJoin n ra rb) (sel (eJoin n ra rb) (nI (n + 1)) (nI n)) (sel (eJoin n ra rb) (ptR Am n (jnR (mrow Am (ix ra)) (mrow Am (ix rb)) x)) Am) Wk' Mo' v cp bt ml cn Y) ∧ ((eJoin n ra rb) = 0 → r = nI n)) (cBA D A) A) args s 0 0 A) 0 []
  rw [← hQ]
  refine p_aload_n C rfl 0 rfl dX3_joined_0 ?_
  refine p_iconst (v := 0) C (by decide) dX3_joined_1 ?_
  refine p_put (w9 := (MW k md 0 (nI n) Am Wk Mo v cp bt ml cn Y)) (v := .int 0) (T := TX3) C tyX3 tyX3_ok nmX3 0 rfl rfl 0 (by decide) inX3 qfl_X3_26 (fun _ h9 => h9) rfl rfl rfl (Nat.le_of_ble_eq_true rfl) rfl dX3_joined_2 ?_
  refine p_aload_n C rfl 0 rfl dX3_joined_5 ?_
  refine p_iload_n C rfl 1 rfl dX3_joined_6 ?_
  refine c_Vi (As := [.int ra]) (rest := []) C (m_X3_isRecipe l D k (x := ra)) 0 rfl rfl rfl qml_X3_73 qim_X3_isRecipe qse_X3_X3_isRecipe qin_X3 qco_X3_isRecipe nd_X3_isRecipe ⟨Nat.le_of_ble_eq_true rfl, Nat.le_of_ble_eq_true rfl⟩ (Nat.le_of_ble_eq_true rfl) ⟨Nat.le_of_ble_eq_true rfl, Nat.le_of_ble_eq_true rfl⟩ rfl dX3_joined_7 (fun r9 w9 h9 => ?_)
  obtain ⟨e9, rfl⟩ := h9
  refine p_int e9 ?_
  refine p_if_eq C 21 (by decide) dX3_joined_10 (fun c_10 => ?_) (fun c_10 => ?_)
  · have hra := bI_eq c_10
    refine p_aload_n C rfl 0 rfl dX3_joined_21 ?_
    refine p_iconst (v := 1) C (by decide) dX3_joined_22 ?_
    refine c_Vi (As := [.int 1]) (rest := []) C (m_X3_no l D k (x := 1)) 0 rfl rfl rfl qml_X3_66 qim_X3_no qse_X3_X3_no qin_X3 qco_X3_no nd_X3_no ⟨Nat.le_of_ble_eq_true rfl, Nat.le_of_ble_eq_true rfl⟩ (Nat.le_of_ble_eq_true rfl) ⟨Nat.le_of_ble_eq_true rfl, Nat.le_of_ble_eq_true rfl⟩ rfl dX3_joined_23 (fun r9 w9 h9 => ?_)
    obtain ⟨e9, rfl⟩ := h9
    refine p_int e9 ?_
    rw [hQ]
    exact r_i C hrt9 (⟨_, _, by rw [show eJoin n ra rb = 1 from by unfold eJoin; rw [hra]; rfl, sel_1, sel_1], fun q => absurd q (by rw [show eJoin n ra rb = 1 from by unfold eJoin; rw [hra]; rfl]; exact one_n0)⟩) (by decide) (by decide) dX3_joined_26
  · obtain ⟨i, hi, rfl⟩ := isR_spec hn (bI_ne c_10)
    have vi := isR_of hn hi
    refine p_aload_n C rfl 0 rfl dX3_joined_13 ?_
    refine p_iload_n C rfl 2 rfl dX3_joined_14 ?_
    refine c_Vi (As := [.int rb]) (rest := []) C (m_X3_isRecipe l D k (x := rb)) 0 rfl rfl rfl qml_X3_73 qim_X3_isRecipe qse_X3_X3_isRecipe qin_X3 qco_X3_isRecipe nd_X3_isRecipe ⟨Nat.le_of_ble_eq_true rfl, Nat.le_of_ble_eq_true rfl⟩ (Nat.le_of_ble_eq_true rfl) ⟨Nat.le_of_ble_eq_true rfl, Nat.le_of_ble_eq_true rfl⟩ rfl dX3_joined_15 (fun r9 w9 h9 => ?_)
    obtain ⟨e9, rfl⟩ := h9
    refine p_int e9 ?_
    refine p_if_ne C 27 (by decide) dX3_joined_18 (fun c_18 => ?_) (fun c_18 => ?_)
    · obtain ⟨i2, hi2, rfl⟩ := isR_spec hn (bI_ne c_18)
      have vi2 := isR_of hn hi2
      refine p_aload_n C rfl 0 rfl dX3_joined_27 ?_
      refine p_get (v := .int (nI n)) (T := TX3) C 0 rfl rfl 1 (by decide) inX3 qfl_X3_30 (fun _ h9 => h9) rfl dX3_joined_28 ?_
      refine p_bipush (v := 16) C (by decide) dX3_joined_31 ?_
      refine p_icmp_ne C 42 (by decide) dX3_joined_33 (fun c_33 => ?_) (fun c_33 => ?_)
      · have hne : n < 16 := n16 hn c_33
        refine p_iconst (v := 0) C (by decide) dX3_joined_42 ?_
        refine p_istore (lv9 := [(4, .int 0), (0, .ref (md 0)), (1, .int (nI i)), (2, .int (nI i2)), (3, .int x)]) C (by decide) rfl dX3_joined_43 ?_
        refine p_w (w9 := (MW k md 0 (nI n) Am (fl (jnR (mrow Am i) (mrow Am i2) x) Wk 0) Mo v cp bt ml cn Y)) (by rw [fl_0]) ?_
        refine p_lv (lv9 := [(0, .ref (md 0)), (1, .int (nI i)), (2, .int (nI i2)), (3, .int x), (4, .int 0)]) [1, 2, 3, 4, 0] rfl ?_
        have lp45 : ∀ (n45 : Nat) (j : Nat), (hj : j + n45 = 9) → WP p l e (rmL 3 0 0) s m args below meth c D A 5 (MW k md 0 (nI n) Am (fl (jnR (mrow Am i) (mrow Am i2) x) Wk j) Mo v cp bt ml cn Y) [(0, .ref (md 0)), (1, .int (nI i)), (2, .int (nI i2)), (3, .int x), (4, .int (nI j))] 0 0 Q 45 [] := by
          intro n45
          induction n45 with
          | zero =>
            intro j hj
            obtain rfl : j = 9 := by omega
            refine p_iload C 4 rfl dX3_joined_45 ?_
            refine p_bipush (v := 9) C (by decide) dX3_joined_47 ?_
            refine p_icmp_ge C 82 (by decide) dX3_joined_49 (fun c_49 => ?_) (fun c_49 => absurd c_49 (by decide))
            refine p_arr (n := 9) (w9 := (MW k md 0 (nI n) Am (jnR (mrow Am i) (mrow Am i2) x) Mo v cp bt ml cn Y)) 2 rfl (jnR (mrow Am i) (mrow Am i2) x) (fun j hj => fl_in hj) rfl ?_
            refine p_aload_n C rfl 0 rfl dX3_joined_82 ?_
            refine p_aload_n C rfl 0 rfl dX3_joined_83 ?_
            refine p_get (v := .ref (md 2)) (T := TX3) C 0 rfl rfl 3 (by decide) inX3 qfl_X3_13 (fun _ h9 => h9) rfl dX3_joined_84 ?_
            refine c_Vi (As := [.ref (md 2)]) (rest := []) C (m_X3_made_w l D k (n := n) (by omega)) 0 rfl rfl rfl qml_X3_69 qim_X3_made qse_X3_X3_made qin_X3 qco_X3_made nd_X3_made ⟨Nat.le_of_ble_eq_true rfl, Nat.le_of_ble_eq_true rfl⟩ (Nat.le_of_ble_eq_true rfl) ⟨Nat.le_of_ble_eq_true rfl, Nat.le_of_ble_eq_true rfl⟩ rfl dX3_joined_87 (fun r9 w9 h9 => ?_)
            obtain ⟨rfl, rfl⟩ := h9
            rw [hQ]
            exact r_i C hrt9 (⟨_, _, by rw [show eJoin n (nI i) (nI i2) = 0 from by unfold eJoin; rw [vi, vi2, if_neg (show ¬ n = 16 by omega)]; rfl, sel_0, sel_0, ix_nI (show i < 2 ^ 31 by omega), ix_nI (show i2 < 2 ^ 31 by omega)], fun _ => rfl⟩) (by decide) (by decide) dX3_joined_90
          | succ n45 ih45 =>
            intro j hj
            have hj2 : j < 9 := by omega
            refine p_iload C 4 rfl dX3_joined_45 ?_
            refine p_bipush (v := 9) C (by decide) dX3_joined_47 ?_
            refine p_icmp_ge C 82 (by decide) dX3_joined_49 (fun c_49 => absurd c_49 (nI_ge (b := 9) hj2 (by decide))) (fun c_49 => ?_)
            refine p_aload_n C rfl 0 rfl dX3_joined_52 ?_
            refine p_get (v := .ref (md 2)) (T := TX3) C 0 rfl rfl 3 (by decide) inX3 qfl_X3_13 (fun _ h9 => h9) rfl dX3_joined_53 ?_
            refine p_iload C 4 rfl dX3_joined_56 ?_
            refine p_aload_n C rfl 0 rfl dX3_joined_58 ?_
            refine p_iload_n C rfl 1 rfl dX3_joined_59 ?_
            refine p_iload C 4 rfl dX3_joined_60 ?_
            refine c_Vi (As := [.int (nI i), .int (nI j)]) (rest := [.int (nI j), .ref (md 2)]) C (m_X3_at l D k (i := i) (j := j) (by omega) (by omega)) 0 rfl rfl rfl qml_X3_47 qim_X3_at qse_X3_X3_at qin_X3 qco_X3_at nd_X3_at ⟨Nat.le_of_ble_eq_true rfl, Nat.le_of_ble_eq_true rfl⟩ (Nat.le_of_ble_eq_true rfl) ⟨Nat.le_of_ble_eq_true rfl, Nat.le_of_ble_eq_true rfl⟩ rfl dX3_joined_62 (fun r9 w9 h9 => ?_)
            obtain ⟨e9, rfl⟩ := h9
            refine p_int e9 ?_
            refine p_iload_n C rfl 3 rfl dX3_joined_65 ?_
            refine p_aload_n C rfl 0 rfl dX3_joined_66 ?_
            refine p_iload_n C rfl 2 rfl dX3_joined_67 ?_
            refine p_iload C 4 rfl dX3_joined_68 ?_
            refine c_Vi (As := [.int (nI i2), .int (nI j)]) (rest := [.int x, .int (mrow Am i j), .int (nI j), .ref (md 2)]) C (m_X3_at l D k (i := i2) (j := j) (by omega) (by omega)) 0 rfl rfl rfl qml_X3_47 qim_X3_at qse_X3_X3_at qin_X3 qco_X3_at nd_X3_at ⟨Nat.le_of_ble_eq_true rfl, Nat.le_of_ble_eq_true rfl⟩ (Nat.le_of_ble_eq_true rfl) ⟨Nat.le_of_ble_eq_true rfl, Nat.le_of_ble_eq_true rfl⟩ rfl dX3_joined_70 (fun r9 w9 h9 => ?_)
            obtain ⟨e9, rfl⟩ := h9
            refine p_int e9 ?_
            refine p_imul C dX3_joined_73 ?_
            refine p_iadd C dX3_joined_74 ?_
            refine p_iast (w9 := (MW k md 0 (nI n) Am (fl (jnR (mrow Am i) (mrow Am i2) x) Wk (j + 1)) Mo v cp bt ml cn Y)) C 2 rfl (vp_in_nI (n := j) (N := 9) (by omega) (by omega)) (by rw [show ((nI j)).toNatClampNeg = j from nI_clamp (by omega), show upd (fl (jnR (mrow Am i) (mrow Am i2) x) Wk j) j ((mrow Am i j) + (x * (mrow Am i2 j))) = (fl (jnR (mrow Am i) (mrow Am i2) x) Wk (j + 1)) from fl_s rfl]; exact rfl) dX3_joined_75 ?_
            refine p_iinc (lv9 := [(4, .int (nI (j + 1))), (0, .ref (md 0)), (1, .int (nI i)), (2, .int (nI i2)), (3, .int x)]) (v := (nI (j + 1))) C (j := 4) rfl (i_up j) (by decide) rfl dX3_joined_76 ?_
            refine p_goto C 45 (by decide) dX3_joined_79 ?_
            refine p_lv (lv9 := [(0, .ref (md 0)), (1, .int (nI i)), (2, .int (nI i2)), (3, .int x), (4, .int (nI (j + 1)))]) [1, 2, 3, 4, 0] rfl ?_
            exact ih45 (j + 1) (by omega)
        exact lp45 9 0 rfl
      · obtain rfl : n = 16 := n16e hn c_33
        refine p_aload_n C rfl 0 rfl dX3_joined_36 ?_
        refine p_iconst (v := 2) C (by decide) dX3_joined_37 ?_
        refine c_Vi (As := [.int 2]) (rest := []) C (m_X3_no l D k (x := 2)) 0 rfl rfl rfl qml_X3_66 qim_X3_no qse_X3_X3_no qin_X3 qco_X3_no nd_X3_no ⟨Nat.le_of_ble_eq_true rfl, Nat.le_of_ble_eq_true rfl⟩ (Nat.le_of_ble_eq_true rfl) ⟨Nat.le_of_ble_eq_true rfl, Nat.le_of_ble_eq_true rfl⟩ rfl dX3_joined_38 (fun r9 w9 h9 => ?_)
        obtain ⟨e9, rfl⟩ := h9
        refine p_int e9 ?_
        rw [hQ]
        exact r_i C hrt9 (⟨_, _, by rw [show eJoin 16 (nI i) (nI i2) = 2 from by unfold eJoin; rw [vi, vi2]; rfl, sel_2, sel_2], fun q => absurd q (by rw [show eJoin 16 (nI i) (nI i2) = 2 from by unfold eJoin; rw [vi, vi2]; rfl]; exact two_n0)⟩) (by decide) (by decide) dX3_joined_41
    · have hrb := bI_eq c_18
      refine p_aload_n C rfl 0 rfl dX3_joined_21 ?_
      refine p_iconst (v := 1) C (by decide) dX3_joined_22 ?_
      refine c_Vi (As := [.int 1]) (rest := []) C (m_X3_no l D k (x := 1)) 0 rfl rfl rfl qml_X3_66 qim_X3_no qse_X3_X3_no qin_X3 qco_X3_no nd_X3_no ⟨Nat.le_of_ble_eq_true rfl, Nat.le_of_ble_eq_true rfl⟩ (Nat.le_of_ble_eq_true rfl) ⟨Nat.le_of_ble_eq_true rfl, Nat.le_of_ble_eq_true rfl⟩ rfl dX3_joined_23 (fun r9 w9 h9 => ?_)
      obtain ⟨e9, rfl⟩ := h9
      refine p_int e9 ?_
      rw [hQ]
      exact r_i C hrt9 (⟨_, _, by rw [show eJoin n (nI i) rb = 1 from by unfold eJoin; rw [vi, hrb]; rfl, sel_1, sel_1], fun q => absurd q (by rw [show eJoin n (nI i) rb = 1 from by unfold eJoin; rw [vi, hrb]; rfl]; exact one_n0)⟩) (by decide) (by decide) dX3_joined_26
set_option maxHeartbeats 4000000 in
set_option maxRecDepth 100000 in
/-- X3_sum -/
theorem m_X3_sum (l : Launch) (D : va_G) (k : Nat → ClassId) {md : Nat → Nat} {th : Int32} {n : Nat} {Am Wk Mo : Nat → Int32} {v cp : Nat} {bt : Nat → Int32} {ml cn : Int32} {Y : va_W} (hn : n ≤ 16) {ra rb : Int32} : CtI l D k yX3_sum (wU yX3_sum cX3_sum 3 (some .int)) (rmL 4 0 0) [.ref (md 0), .int ra, .int rb] (MW k md th (nI n) Am Wk Mo v cp bt ml cn Y) (fun r w' => ∃ Wk' Mo' : Nat → Int32, w' = (MW k md (eJoin n ra rb) (sel (eJoin n ra rb) (nI (n + 1)) (nI n)) (sel (eJoin n ra rb) (ptR Am n (jnR (mrow Am (ix ra)) (mrow Am (ix rb)) 1)) Am) Wk' Mo' v cp bt ml cn Y) ∧ ((eJoin n ra rb) = 0 → r = nI n)) := by
  refine openI (own := RX3) rfl (by decide) (Nat.le_of_ble_eq_true rfl) rfl ?_
  intro p e s m args below meth c A C hrt9 hnm
  obtain ⟨Q, hQ⟩ : ∃ Q, Q = (MQ below (va_Qi (fun r w' => ∃ Wk' Mo' : Nat → Int32, w' = (MW k md (eJoin n ra rb) (sel (eJoin n ra rb) (nI (n + 1)) (nI n)) (sel (eJoin n ra rb) (ptR Am n (jnR (mrow Am (ix ra)) (mrow Am (ix rb)) 1)) Am) Wk' Mo' v cp bt ml cn Y) ∧ ((eJoin n ra rb) = 0 → r = nI n)) (cBA D A) A) args s 0 0 A) := ⟨_, rfl⟩
  show WP p l e (rmL 4 0 0) s m args below meth c D A 3 (MW k md th (nI n) Am Wk Mo v cp bt ml cn Y) [(0, .ref (md 0)), (1, .int ra), (2, .int rb)] 0 0 (MQ below (va_Qi (fun r w' => ∃ Wk' Mo' : Nat → Int32, w' = (MW k md (eJoin n ra rb) (sel (eJoin n ra rb) (nI (n + 1)) (nI n)) (sel (eJoin n ra rb) (ptR Am n (jnR (mrow Am (ix ra)) (mrow Am (ix rb)) 1)) Am) Wk' Mo' v cp bt ml cn Y) ∧ ((eJoin n ra rb) = 0 → r = nI n)) (cBA D A) A) args s 0 0 A) 0 []
  rw [← hQ]
  refine p_aload_n C rfl 0 rfl dX3_sum_0 ?_
  refine p_iload_n C rfl 1 rfl dX3_sum_1 ?_
  refine p_iload_n C rfl 2 rfl dX3_sum_2 ?_
  refine p_iconst (v := 1) C (by decide) dX3_sum_3 ?_
  refine c_Vi (As := [.int ra, .int rb, .int 1]) (rest := []) C (m_X3_joined l D k (ra := ra) (rb := rb) (x := 1) hn) 0 rfl rfl rfl qml_X3_81 qim_X3_joined qse_X3_X3_joined qin_X3 qco_X3_joined nd_X3_joined ⟨Nat.le_of_ble_eq_true rfl, Nat.le_of_ble_eq_true rfl⟩ (Nat.le_of_ble_eq_true rfl) ⟨Nat.le_of_ble_eq_true rfl, Nat.le_of_ble_eq_true rfl⟩ rfl dX3_sum_4 (fun r9 w9 h9 => ?_)
  obtain ⟨Wk', Mo', rfl, h8⟩ := h9
  rw [hQ]
  exact r_i C hrt9 (⟨_, _, rfl, h8⟩) (by decide) (by decide) dX3_sum_7
set_option maxHeartbeats 4000000 in
set_option maxRecDepth 100000 in
/-- X3_difference -/
theorem m_X3_difference (l : Launch) (D : va_G) (k : Nat → ClassId) {md : Nat → Nat} {th : Int32} {n : Nat} {Am Wk Mo : Nat → Int32} {v cp : Nat} {bt : Nat → Int32} {ml cn : Int32} {Y : va_W} (hn : n ≤ 16) {ra rb : Int32} : CtI l D k yX3_difference (wU yX3_difference cX3_difference 3 (some .int)) (rmL 4 0 0) [.ref (md 0), .int ra, .int rb] (MW k md th (nI n) Am Wk Mo v cp bt ml cn Y) (fun r w' => ∃ Wk' Mo' : Nat → Int32, w' = (MW k md (eJoin n ra rb) (sel (eJoin n ra rb) (nI (n + 1)) (nI n)) (sel (eJoin n ra rb) (ptR Am n (jnR (mrow Am (ix ra)) (mrow Am (ix rb)) (-1))) Am) Wk' Mo' v cp bt ml cn Y) ∧ ((eJoin n ra rb) = 0 → r = nI n)) := by
  refine openI (own := RX3) rfl (by decide) (Nat.le_of_ble_eq_true rfl) rfl ?_
  intro p e s m args below meth c A C hrt9 hnm
  obtain ⟨Q, hQ⟩ : ∃ Q, Q = (MQ below (va_Qi (fun r w' => ∃ Wk' Mo' : Nat → Int32, w' = (MW k md (eJoin n ra rb) (sel (eJoin n ra rb) (nI (n + 1)) (nI n)) (sel (eJoin n ra rb) (ptR Am n (jnR (mrow Am (ix ra)) (mrow Am (ix rb)) (-1))) Am) Wk' Mo' v cp bt ml cn Y) ∧ ((eJoin n ra rb) = 0 → r = nI n)) (cBA D A) A) args s 0 0 A) := ⟨_, rfl⟩
  show WP p l e (rmL 4 0 0) s m args below meth c D A 3 (MW k md th (nI n) Am Wk Mo v cp bt ml cn Y) [(0, .ref (md 0)), (1, .int ra), (2, .int rb)] 0 0 (MQ below (va_Qi (fun r w' => ∃ Wk' Mo' : Nat → Int32, w' = (MW k md (eJoin n ra rb) (sel (eJoin n ra rb) (nI (n + 1)) (nI n)) (sel (eJoin n ra rb) (ptR Am n (jnR (mrow Am (ix ra)) (mrow Am (ix rb)) (-1))) Am) Wk' Mo' v cp bt ml cn Y) ∧ ((eJoin n ra rb) = 0 → r = nI n)) (cBA D A) A) args s 0 0 A) 0 []
  rw [← hQ]
  refine p_aload_n C rfl 0 rfl dX3_difference_0 ?_
  refine p_iload_n C rfl 1 rfl dX3_difference_1 ?_
  refine p_iload_n C rfl 2 rfl dX3_difference_2 ?_
  refine p_iconst (v := (-1)) C (by decide) dX3_difference_3 ?_
  refine c_Vi (As := [.int ra, .int rb, .int (-1)]) (rest := []) C (m_X3_joined l D k (ra := ra) (rb := rb) (x := (-1)) hn) 0 rfl rfl rfl qml_X3_81 qim_X3_joined qse_X3_X3_joined qin_X3 qco_X3_joined nd_X3_joined ⟨Nat.le_of_ble_eq_true rfl, Nat.le_of_ble_eq_true rfl⟩ (Nat.le_of_ble_eq_true rfl) ⟨Nat.le_of_ble_eq_true rfl, Nat.le_of_ble_eq_true rfl⟩ rfl dX3_difference_4 (fun r9 w9 h9 => ?_)
  obtain ⟨Wk', Mo', rfl, h8⟩ := h9
  rw [hQ]
  exact r_i C hrt9 (⟨_, _, rfl, h8⟩) (by decide) (by decide) dX3_difference_7
set_option maxHeartbeats 4000000 in
set_option maxRecDepth 100000 in
/-- X3_product -/
theorem m_X3_product (l : Launch) (D : va_G) (k : Nat → ClassId) {md : Nat → Nat} {th : Int32} {n : Nat} {Am Wk Mo : Nat → Int32} {v cp : Nat} {bt : Nat → Int32} {ml cn : Int32} {Y : va_W} (hn : n ≤ 16) {ra rb : Int32} : CtI l D k yX3_product (wU yX3_product cX3_product 3 (some .int)) (rmL 3 0 0) [.ref (md 0), .int ra, .int rb] (MW k md th (nI n) Am Wk Mo v cp bt ml cn Y) (fun r w' => ∃ Wk' Mo' : Nat → Int32, w' = (MW k md (eProd n (mrow Am) ra rb) (sel (eProd n (mrow Am) ra rb) (nI (n + 1)) (nI n)) (sel (eProd n (mrow Am) ra rb) (ptR Am n (n9 (cv (mrow Am (ix ra)) (mrow Am (ix rb))))) Am) Wk' Mo' v cp bt ml cn Y) ∧ ((eProd n (mrow Am) ra rb) = 0 → r = nI n)) := by
  refine openI (own := RX3) rfl (by decide) (Nat.le_of_ble_eq_true rfl) rfl ?_
  intro p e s m args below meth c A C hrt9 hnm
  obtain ⟨Q, hQ⟩ : ∃ Q, Q = (MQ below (va_Qi (fun r w' => ∃ Wk' Mo' : Nat → Int32, w' = (MW k md (eProd n (mrow Am) ra rb) (sel (eProd n (mrow Am) ra rb) (nI (n + 1)) (nI n)) (sel (eProd n (mrow Am) ra rb) (ptR Am n (n9 (cv (mrow Am (ix ra)) (mrow Am (ix rb))))) Am) Wk' Mo' v cp bt ml cn Y) ∧ ((eProd n (mrow Am) ra rb) = 0 → r = nI n)) (cBA D A) A) args s 0 0 A) := ⟨_, rfl⟩
  show WP p l e (rmL 3 0 0) s m args below meth c D A 3 (MW k md th (nI n) Am Wk Mo v cp bt ml cn Y) [(0, .ref (md 0)), (1, .int ra), (2, .int rb)] 0 0 (MQ below (va_Qi (fun r w' => ∃ Wk' Mo' : Nat → Int32, w' = (MW k md (eProd n (mrow Am) ra rb) (sel (eProd n (mrow Am) ra rb) (nI (n + 1)) (nI n)) (sel (eProd n (mrow Am) ra rb) (ptR Am n (n9 (cv (mrow Am (ix ra)) (mrow Am (ix rb))))) Am) Wk' Mo' v cp bt ml cn Y) ∧ ((eProd n (mrow Am) ra rb) = 0 → r = nI n)) (cBA D A) A) args s 0 0 A) 0 []
  rw [← hQ]
  refine p_aload_n C rfl 0 rfl dX3_product_0 ?_
  refine p_iconst (v := 0) C (by decide) dX3_product_1 ?_
  refine p_put (w9 := (MW k md 0 (nI n) Am Wk Mo v cp bt ml cn Y)) (v := .int 0) (T := TX3) C tyX3 tyX3_ok nmX3 0 rfl rfl 0 (by decide) inX3 qfl_X3_26 (fun _ h9 => h9) rfl rfl rfl (Nat.le_of_ble_eq_true rfl) rfl dX3_product_2 ?_
  refine p_aload_n C rfl 0 rfl dX3_product_5 ?_
  refine p_iload_n C rfl 1 rfl dX3_product_6 ?_
  refine c_Vi (As := [.int ra]) (rest := []) C (m_X3_isRecipe l D k (x := ra)) 0 rfl rfl rfl qml_X3_73 qim_X3_isRecipe qse_X3_X3_isRecipe qin_X3 qco_X3_isRecipe nd_X3_isRecipe ⟨Nat.le_of_ble_eq_true rfl, Nat.le_of_ble_eq_true rfl⟩ (Nat.le_of_ble_eq_true rfl) ⟨Nat.le_of_ble_eq_true rfl, Nat.le_of_ble_eq_true rfl⟩ rfl dX3_product_7 (fun r9 w9 h9 => ?_)
  obtain ⟨e9, rfl⟩ := h9
  refine p_int e9 ?_
  refine p_if_eq C 21 (by decide) dX3_product_10 (fun c_10 => ?_) (fun c_10 => ?_)
  · have hra := bI_eq c_10
    refine p_aload_n C rfl 0 rfl dX3_product_21 ?_
    refine p_iconst (v := 1) C (by decide) dX3_product_22 ?_
    refine c_Vi (As := [.int 1]) (rest := []) C (m_X3_no l D k (x := 1)) 0 rfl rfl rfl qml_X3_66 qim_X3_no qse_X3_X3_no qin_X3 qco_X3_no nd_X3_no ⟨Nat.le_of_ble_eq_true rfl, Nat.le_of_ble_eq_true rfl⟩ (Nat.le_of_ble_eq_true rfl) ⟨Nat.le_of_ble_eq_true rfl, Nat.le_of_ble_eq_true rfl⟩ rfl dX3_product_23 (fun r9 w9 h9 => ?_)
    obtain ⟨e9, rfl⟩ := h9
    refine p_int e9 ?_
    rw [hQ]
    exact r_i C hrt9 (⟨_, _, by rw [show eProd n (mrow Am) ra rb = 1 from by unfold eProd; rw [hra]; rfl, sel_1, sel_1], fun q => absurd q (by rw [show eProd n (mrow Am) ra rb = 1 from by unfold eProd; rw [hra]; rfl]; exact one_n0)⟩) (by decide) (by decide) dX3_product_26
  · obtain ⟨i, hi, rfl⟩ := isR_spec hn (bI_ne c_10)
    have vi := isR_of hn hi
    refine p_aload_n C rfl 0 rfl dX3_product_13 ?_
    refine p_iload_n C rfl 2 rfl dX3_product_14 ?_
    refine c_Vi (As := [.int rb]) (rest := []) C (m_X3_isRecipe l D k (x := rb)) 0 rfl rfl rfl qml_X3_73 qim_X3_isRecipe qse_X3_X3_isRecipe qin_X3 qco_X3_isRecipe nd_X3_isRecipe ⟨Nat.le_of_ble_eq_true rfl, Nat.le_of_ble_eq_true rfl⟩ (Nat.le_of_ble_eq_true rfl) ⟨Nat.le_of_ble_eq_true rfl, Nat.le_of_ble_eq_true rfl⟩ rfl dX3_product_15 (fun r9 w9 h9 => ?_)
    obtain ⟨e9, rfl⟩ := h9
    refine p_int e9 ?_
    refine p_if_ne C 27 (by decide) dX3_product_18 (fun c_18 => ?_) (fun c_18 => ?_)
    · obtain ⟨i2, hi2, rfl⟩ := isR_spec hn (bI_ne c_18)
      have vi2 := isR_of hn hi2
      refine p_aload_n C rfl 0 rfl dX3_product_27 ?_
      refine p_iload_n C rfl 1 rfl dX3_product_28 ?_
      refine c_Vi (As := [.int (nI i)]) (rest := []) C (m_X3_degreeNow l D k (i := i) (by omega)) 0 rfl rfl rfl qml_X3_51 qim_X3_degreeNow qse_X3_X3_degreeNow qin_X3 qco_X3_degreeNow nd_X3_degreeNow ⟨Nat.le_of_ble_eq_true rfl, Nat.le_of_ble_eq_true rfl⟩ (Nat.le_of_ble_eq_true rfl) ⟨Nat.le_of_ble_eq_true rfl, Nat.le_of_ble_eq_true rfl⟩ rfl dX3_product_29 (fun r9 w9 h9 => ?_)
      obtain ⟨e9, rfl⟩ := h9
      refine p_int e9 ?_
      refine p_aload_n C rfl 0 rfl dX3_product_32 ?_
      refine p_iload_n C rfl 2 rfl dX3_product_33 ?_
      refine c_Vi (As := [.int (nI i2)]) (rest := [.int (dI (dg (mrow Am i)))]) C (m_X3_degreeNow l D k (i := i2) (by omega)) 0 rfl rfl rfl qml_X3_51 qim_X3_degreeNow qse_X3_X3_degreeNow qin_X3 qco_X3_degreeNow nd_X3_degreeNow ⟨Nat.le_of_ble_eq_true rfl, Nat.le_of_ble_eq_true rfl⟩ (Nat.le_of_ble_eq_true rfl) ⟨Nat.le_of_ble_eq_true rfl, Nat.le_of_ble_eq_true rfl⟩ rfl dX3_product_34 (fun r9 w9 h9 => ?_)
      obtain ⟨e9, rfl⟩ := h9
      refine p_int e9 ?_
      refine p_iadd C dX3_product_37 ?_
      refine p_bipush (v := 8) C (by decide) dX3_product_38 ?_
      refine p_icmp_le C 49 (by decide) dX3_product_40 (fun c_40 => ?_) (fun c_40 => ?_)
      · have hd8 := Int32.not_lt.mpr c_40
        refine p_aload_n C rfl 0 rfl dX3_product_49 ?_
        refine p_get (v := .int (nI n)) (T := TX3) C 0 rfl rfl 1 (by decide) inX3 qfl_X3_30 (fun _ h9 => h9) rfl dX3_product_50 ?_
        refine p_bipush (v := 16) C (by decide) dX3_product_53 ?_
        refine p_icmp_ne C 64 (by decide) dX3_product_55 (fun c_55 => ?_) (fun c_55 => ?_)
        · have hne : n < 16 := n16 hn c_55
          refine p_aload_n C rfl 0 rfl dX3_product_64 ?_
          refine p_iload_n C rfl 1 rfl dX3_product_65 ?_
          refine p_aload_n C rfl 0 rfl dX3_product_66 ?_
          refine p_get (v := .ref (md 2)) (T := TX3) C 0 rfl rfl 3 (by decide) inX3 qfl_X3_13 (fun _ h9 => h9) rfl dX3_product_67 ?_
          refine c_Vv (As := [.int (nI i), .ref (md 2)]) (rest := []) C (m_X3_take l D k (i := i) (by omega)) 0 rfl rfl rfl qml_X3_55 qim_X3_take qse_X3_X3_take qin_X3 qco_X3_take nd_X3_take ⟨Nat.le_of_ble_eq_true rfl, Nat.le_of_ble_eq_true rfl⟩ (Nat.le_of_ble_eq_true rfl) ⟨Nat.le_of_ble_eq_true rfl, Nat.le_of_ble_eq_true rfl⟩ rfl dX3_product_70 (fun w9 h9 => ?_)
          obtain rfl := h9
          refine p_aload_n C rfl 0 rfl dX3_product_73 ?_
          refine p_aload_n C rfl 0 rfl dX3_product_74 ?_
          refine p_get (v := .ref (md 2)) (T := TX3) C 0 rfl rfl 3 (by decide) inX3 qfl_X3_13 (fun _ h9 => h9) rfl dX3_product_75 ?_
          refine p_iload_n C rfl 2 rfl dX3_product_78 ?_
          refine c_Vv (As := [.ref (md 2), .int (nI i2)]) (rest := []) C (m_X3_multiply l D k (i := i2) (by omega)) 0 rfl rfl rfl qml_X3_85 qim_X3_multiply qse_X3_X3_multiply qin_X3 qco_X3_multiply nd_X3_multiply ⟨Nat.le_of_ble_eq_true rfl, Nat.le_of_ble_eq_true rfl⟩ (Nat.le_of_ble_eq_true rfl) ⟨Nat.le_of_ble_eq_true rfl, Nat.le_of_ble_eq_true rfl⟩ rfl dX3_product_79 (fun w9 h9 => ?_)
          obtain rfl := h9
          refine p_aload_n C rfl 0 rfl dX3_product_82 ?_
          refine p_aload_n C rfl 0 rfl dX3_product_83 ?_
          refine p_get (v := .ref (md 2)) (T := TX3) C 0 rfl rfl 3 (by decide) inX3 qfl_X3_13 (fun _ h9 => h9) rfl dX3_product_84 ?_
          refine c_Vi (As := [.ref (md 2)]) (rest := []) C (m_X3_made_w l D k (n := n) (by omega)) 0 rfl rfl rfl qml_X3_69 qim_X3_made qse_X3_X3_made qin_X3 qco_X3_made nd_X3_made ⟨Nat.le_of_ble_eq_true rfl, Nat.le_of_ble_eq_true rfl⟩ (Nat.le_of_ble_eq_true rfl) ⟨Nat.le_of_ble_eq_true rfl, Nat.le_of_ble_eq_true rfl⟩ rfl dX3_product_87 (fun r9 w9 h9 => ?_)
          obtain ⟨rfl, rfl⟩ := h9
          rw [hQ]
          exact r_i C hrt9 (⟨_, _, by rw [show eProd n (mrow Am) (nI i) (nI i2) = 0 from by unfold eProd; rw [vi, vi2, ix_nI (show i < 2 ^ 31 by omega), ix_nI (show i2 < 2 ^ 31 by omega), if_neg hd8, if_neg (show ¬ n = 16 by omega)]; rfl, sel_0, sel_0, ix_nI (show i < 2 ^ 31 by omega), ix_nI (show i2 < 2 ^ 31 by omega)] <;> rfl, fun _ => rfl⟩) (by decide) (by decide) dX3_product_90
        · obtain rfl : n = 16 := n16e hn c_55
          refine p_aload_n C rfl 0 rfl dX3_product_58 ?_
          refine p_iconst (v := 3) C (by decide) dX3_product_59 ?_
          refine c_Vi (As := [.int 3]) (rest := []) C (m_X3_no l D k (x := 3)) 0 rfl rfl rfl qml_X3_66 qim_X3_no qse_X3_X3_no qin_X3 qco_X3_no nd_X3_no ⟨Nat.le_of_ble_eq_true rfl, Nat.le_of_ble_eq_true rfl⟩ (Nat.le_of_ble_eq_true rfl) ⟨Nat.le_of_ble_eq_true rfl, Nat.le_of_ble_eq_true rfl⟩ rfl dX3_product_60 (fun r9 w9 h9 => ?_)
          obtain ⟨e9, rfl⟩ := h9
          refine p_int e9 ?_
          rw [hQ]
          exact r_i C hrt9 (⟨_, _, by rw [show eProd 16 (mrow Am) (nI i) (nI i2) = 3 from by unfold eProd; rw [vi, vi2, ix_nI (show i < 2 ^ 31 by omega), ix_nI (show i2 < 2 ^ 31 by omega), if_neg hd8]; rfl, sel_3, sel_3], fun q => absurd q (by rw [show eProd 16 (mrow Am) (nI i) (nI i2) = 3 from by unfold eProd; rw [vi, vi2, ix_nI (show i < 2 ^ 31 by omega), ix_nI (show i2 < 2 ^ 31 by omega), if_neg hd8]; rfl]; exact three_n0)⟩) (by decide) (by decide) dX3_product_63
      · have hd8 := Int32.not_le.mp c_40
        refine p_aload_n C rfl 0 rfl dX3_product_43 ?_
        refine p_iconst (v := 2) C (by decide) dX3_product_44 ?_
        refine c_Vi (As := [.int 2]) (rest := []) C (m_X3_no l D k (x := 2)) 0 rfl rfl rfl qml_X3_66 qim_X3_no qse_X3_X3_no qin_X3 qco_X3_no nd_X3_no ⟨Nat.le_of_ble_eq_true rfl, Nat.le_of_ble_eq_true rfl⟩ (Nat.le_of_ble_eq_true rfl) ⟨Nat.le_of_ble_eq_true rfl, Nat.le_of_ble_eq_true rfl⟩ rfl dX3_product_45 (fun r9 w9 h9 => ?_)
        obtain ⟨e9, rfl⟩ := h9
        refine p_int e9 ?_
        rw [hQ]
        exact r_i C hrt9 (⟨_, _, by rw [show eProd n (mrow Am) (nI i) (nI i2) = 2 from by unfold eProd; rw [vi, vi2, ix_nI (show i < 2 ^ 31 by omega), ix_nI (show i2 < 2 ^ 31 by omega), if_pos hd8]; rfl, sel_2, sel_2], fun q => absurd q (by rw [show eProd n (mrow Am) (nI i) (nI i2) = 2 from by unfold eProd; rw [vi, vi2, ix_nI (show i < 2 ^ 31 by omega), ix_nI (show i2 < 2 ^ 31 by omega), if_pos hd8]; rfl]; exact two_n0)⟩) (by decide) (by decide) dX3_product_48
    · have hrb := bI_eq c_18
      refine p_aload_n C rfl 0 rfl dX3_product_21 ?_
      refine p_iconst (v := 1) C (by decide) dX3_product_22 ?_
      refine c_Vi (As := [.int 1]) (rest := []) C (m_X3_no l D k (x := 1)) 0 rfl rfl rfl qml_X3_66 qim_X3_no qse_X3_X3_no qin_X3 qco_X3_no nd_X3_no ⟨Nat.le_of_ble_eq_true rfl, Nat.le_of_ble_eq_true rfl⟩ (Nat.le_of_ble_eq_true rfl) ⟨Nat.le_of_ble_eq_true rfl, Nat.le_of_ble_eq_true rfl⟩ rfl dX3_product_23 (fun r9 w9 h9 => ?_)
      obtain ⟨e9, rfl⟩ := h9
      refine p_int e9 ?_
      rw [hQ]
      exact r_i C hrt9 (⟨_, _, by rw [show eProd n (mrow Am) (nI i) rb = 1 from by unfold eProd; rw [vi, hrb]; rfl, sel_1, sel_1], fun q => absurd q (by rw [show eProd n (mrow Am) (nI i) rb = 1 from by unfold eProd; rw [vi, hrb]; rfl]; exact one_n0)⟩) (by decide) (by decide) dX3_product_26
set_option maxHeartbeats 4000000 in
set_option maxRecDepth 100000 in
/-- X3_chain -/
theorem m_X3_chain (l : Launch) (D : va_G) (k : Nat → ClassId) {md : Nat → Nat} {th : Int32} {n : Nat} {Am Wk Mo : Nat → Int32} {v cp : Nat} {bt : Nat → Int32} {ml cn : Int32} {Y : va_W} (hn : n ≤ 16) {ra rb : Int32} : CtI l D k yX3_chain (wU yX3_chain cX3_chain 4 (some .int)) (rmL 3 0 0) [.ref (md 0), .int ra, .int rb] (MW k md th (nI n) Am Wk Mo v cp bt ml cn Y) (fun r w' => ∃ Wk' Mo' : Nat → Int32, w' = (MW k md (eChain n (mrow Am) ra rb) (sel (eChain n (mrow Am) ra rb) (nI (n + 1)) (nI n)) (sel (eChain n (mrow Am) ra rb) (ptR Am n (chR (mrow Am (ix ra)) (mrow Am (ix rb)))) Am) Wk' Mo' v cp bt ml cn Y) ∧ ((eChain n (mrow Am) ra rb) = 0 → r = nI n)) := by
  refine openI (own := RX3) rfl (by decide) (Nat.le_of_ble_eq_true rfl) rfl ?_
  intro p e s m args below meth c A C hrt9 hnm
  obtain ⟨Q, hQ⟩ : ∃ Q, Q = (MQ below (va_Qi (fun r w' => ∃ Wk' Mo' : Nat → Int32, w' = (MW k md (eChain n (mrow Am) ra rb) (sel (eChain n (mrow Am) ra rb) (nI (n + 1)) (nI n)) (sel (eChain n (mrow Am) ra rb) (ptR Am n (chR (mrow Am (ix ra)) (mrow Am (ix rb)))) Am) Wk' Mo' v cp bt ml cn Y) ∧ ((eChain n (mrow Am) ra rb) = 0 → r = nI n)) (cBA D A) A) args s 0 0 A) := ⟨_, rfl⟩
  show WP p l e (rmL 3 0 0) s m args below meth c D A 4 (MW k md th (nI n) Am Wk Mo v cp bt ml cn Y) [(0, .ref (md 0)), (1, .int ra), (2, .int rb)] 0 0 (MQ below (va_Qi (fun r w' => ∃ Wk' Mo' : Nat → Int32, w' = (MW k md (eChain n (mrow Am) ra rb) (sel (eChain n (mrow Am) ra rb) (nI (n + 1)) (nI n)) (sel (eChain n (mrow Am) ra rb) (ptR Am n (chR (mrow Am (ix ra)) (mrow Am (ix rb)))) Am) Wk' Mo' v cp bt ml cn Y) ∧ ((eChain n (mrow Am) ra rb) = 0 → r = nI n)) (cBA D A) A) args s 0 0 A) 0 []
  rw [← hQ]
  refine p_aload_n C rfl 0 rfl dX3_chain_0 ?_
  refine p_iconst (v := 0) C (by decide) dX3_chain_1 ?_
  refine p_put (w9 := (MW k md 0 (nI n) Am Wk Mo v cp bt ml cn Y)) (v := .int 0) (T := TX3) C tyX3 tyX3_ok nmX3 0 rfl rfl 0 (by decide) inX3 qfl_X3_26 (fun _ h9 => h9) rfl rfl rfl (Nat.le_of_ble_eq_true rfl) rfl dX3_chain_2 ?_
  refine p_aload_n C rfl 0 rfl dX3_chain_5 ?_
  refine p_iload_n C rfl 1 rfl dX3_chain_6 ?_
  refine c_Vi (As := [.int ra]) (rest := []) C (m_X3_isRecipe l D k (x := ra)) 0 rfl rfl rfl qml_X3_73 qim_X3_isRecipe qse_X3_X3_isRecipe qin_X3 qco_X3_isRecipe nd_X3_isRecipe ⟨Nat.le_of_ble_eq_true rfl, Nat.le_of_ble_eq_true rfl⟩ (Nat.le_of_ble_eq_true rfl) ⟨Nat.le_of_ble_eq_true rfl, Nat.le_of_ble_eq_true rfl⟩ rfl dX3_chain_7 (fun r9 w9 h9 => ?_)
  obtain ⟨e9, rfl⟩ := h9
  refine p_int e9 ?_
  refine p_if_eq C 21 (by decide) dX3_chain_10 (fun c_10 => ?_) (fun c_10 => ?_)
  · have hra := bI_eq c_10
    refine p_aload_n C rfl 0 rfl dX3_chain_21 ?_
    refine p_iconst (v := 1) C (by decide) dX3_chain_22 ?_
    refine c_Vi (As := [.int 1]) (rest := []) C (m_X3_no l D k (x := 1)) 0 rfl rfl rfl qml_X3_66 qim_X3_no qse_X3_X3_no qin_X3 qco_X3_no nd_X3_no ⟨Nat.le_of_ble_eq_true rfl, Nat.le_of_ble_eq_true rfl⟩ (Nat.le_of_ble_eq_true rfl) ⟨Nat.le_of_ble_eq_true rfl, Nat.le_of_ble_eq_true rfl⟩ rfl dX3_chain_23 (fun r9 w9 h9 => ?_)
    obtain ⟨e9, rfl⟩ := h9
    refine p_int e9 ?_
    rw [hQ]
    exact r_i C hrt9 (⟨_, _, by rw [show eChain n (mrow Am) ra rb = 1 from by unfold eChain; rw [hra]; rfl, sel_1, sel_1], fun q => absurd q (by rw [show eChain n (mrow Am) ra rb = 1 from by unfold eChain; rw [hra]; rfl]; exact one_n0)⟩) (by decide) (by decide) dX3_chain_26
  · obtain ⟨i, hi, rfl⟩ := isR_spec hn (bI_ne c_10)
    have vi := isR_of hn hi
    refine p_aload_n C rfl 0 rfl dX3_chain_13 ?_
    refine p_iload_n C rfl 2 rfl dX3_chain_14 ?_
    refine c_Vi (As := [.int rb]) (rest := []) C (m_X3_isRecipe l D k (x := rb)) 0 rfl rfl rfl qml_X3_73 qim_X3_isRecipe qse_X3_X3_isRecipe qin_X3 qco_X3_isRecipe nd_X3_isRecipe ⟨Nat.le_of_ble_eq_true rfl, Nat.le_of_ble_eq_true rfl⟩ (Nat.le_of_ble_eq_true rfl) ⟨Nat.le_of_ble_eq_true rfl, Nat.le_of_ble_eq_true rfl⟩ rfl dX3_chain_15 (fun r9 w9 h9 => ?_)
    obtain ⟨e9, rfl⟩ := h9
    refine p_int e9 ?_
    refine p_if_ne C 27 (by decide) dX3_chain_18 (fun c_18 => ?_) (fun c_18 => ?_)
    · obtain ⟨i2, hi2, rfl⟩ := isR_spec hn (bI_ne c_18)
      have vi2 := isR_of hn hi2
      refine p_aload_n C rfl 0 rfl dX3_chain_27 ?_
      refine p_iload_n C rfl 1 rfl dX3_chain_28 ?_
      refine c_Vi (As := [.int (nI i)]) (rest := []) C (m_X3_degreeNow l D k (i := i) (by omega)) 0 rfl rfl rfl qml_X3_51 qim_X3_degreeNow qse_X3_X3_degreeNow qin_X3 qco_X3_degreeNow nd_X3_degreeNow ⟨Nat.le_of_ble_eq_true rfl, Nat.le_of_ble_eq_true rfl⟩ (Nat.le_of_ble_eq_true rfl) ⟨Nat.le_of_ble_eq_true rfl, Nat.le_of_ble_eq_true rfl⟩ rfl dX3_chain_29 (fun r9 w9 h9 => ?_)
      obtain ⟨e9, rfl⟩ := h9
      refine p_int e9 ?_
      refine p_aload_n C rfl 0 rfl dX3_chain_32 ?_
      refine p_iload_n C rfl 2 rfl dX3_chain_33 ?_
      refine c_Vi (As := [.int (nI i2)]) (rest := [.int (dI (dg (mrow Am i)))]) C (m_X3_degreeNow l D k (i := i2) (by omega)) 0 rfl rfl rfl qml_X3_51 qim_X3_degreeNow qse_X3_X3_degreeNow qin_X3 qco_X3_degreeNow nd_X3_degreeNow ⟨Nat.le_of_ble_eq_true rfl, Nat.le_of_ble_eq_true rfl⟩ (Nat.le_of_ble_eq_true rfl) ⟨Nat.le_of_ble_eq_true rfl, Nat.le_of_ble_eq_true rfl⟩ rfl dX3_chain_34 (fun r9 w9 h9 => ?_)
      obtain ⟨e9, rfl⟩ := h9
      refine p_int e9 ?_
      refine p_imul C dX3_chain_37 ?_
      refine p_bipush (v := 8) C (by decide) dX3_chain_38 ?_
      refine p_icmp_le C 49 (by decide) dX3_chain_40 (fun c_40 => ?_) (fun c_40 => ?_)
      · have hd8 := Int32.not_lt.mpr c_40
        refine p_aload_n C rfl 0 rfl dX3_chain_49 ?_
        refine p_get (v := .int (nI n)) (T := TX3) C 0 rfl rfl 1 (by decide) inX3 qfl_X3_30 (fun _ h9 => h9) rfl dX3_chain_50 ?_
        refine p_bipush (v := 16) C (by decide) dX3_chain_53 ?_
        refine p_icmp_ne C 64 (by decide) dX3_chain_55 (fun c_55 => ?_) (fun c_55 => ?_)
        · have hne : n < 16 := n16 hn c_55
          refine p_iconst (v := 0) C (by decide) dX3_chain_64 ?_
          refine p_istore_n (lv9 := [(3, .int 0), (0, .ref (md 0)), (1, .int (nI i)), (2, .int (nI i2))]) C rfl (by decide) rfl dX3_chain_65 ?_
          refine p_w (w9 := (MW k md 0 (nI n) Am (fl (fun _ => 0) Wk 0) Mo v cp bt ml cn Y)) (by rw [fl_0]) ?_
          refine p_lv (lv9 := [(0, .ref (md 0)), (1, .int (nI i)), (2, .int (nI i2)), (3, .int 0)]) [1, 2, 3, 0] rfl ?_
          have lp66 : ∀ (n66 : Nat) (j : Nat), (hj : j + n66 = 9) → WP p l e (rmL 3 0 0) s m args below meth c D A 4 (MW k md 0 (nI n) Am (fl (fun _ => 0) Wk j) Mo v cp bt ml cn Y) [(0, .ref (md 0)), (1, .int (nI i)), (2, .int (nI i2)), (3, .int (nI j))] 0 0 Q 66 [] := by
            intro n66
            induction n66 with
            | zero =>
              intro j hj
              obtain rfl : j = 9 := by omega
              refine p_iload_n C rfl 3 rfl dX3_chain_66 ?_
              refine p_bipush (v := 9) C (by decide) dX3_chain_67 ?_
              refine p_icmp_ge C 85 (by decide) dX3_chain_69 (fun c_69 => ?_) (fun c_69 => absurd c_69 (by decide))
              refine p_bipush (v := (nI 9 - 1)) C (by decide) dX3_chain_85 ?_
              refine p_istore_n (lv9 := [(3, .int (nI 9 - 1)), (0, .ref (md 0)), (1, .int (nI i)), (2, .int (nI i2))]) C rfl (by decide) rfl dX3_chain_87 ?_
              refine p_arr (n := 9) (w9 := (MW k md 0 (nI n) Am (chN (mrow Am i) (mrow Am i2) 0) Mo v cp bt ml cn Y)) 2 rfl (chN (mrow Am i) (mrow Am i2) 0) (fun j hj => fl_in hj) rfl ?_
              refine p_lv (lv9 := [(0, .ref (md 0)), (1, .int (nI i)), (2, .int (nI i2)), (3, .int (nI 9 - 1))]) [1, 2, 3, 0] rfl ?_
              have lp88 : ∀ (n88 : Nat) (c9 : Nat), (hc : c9 + n88 = 9) → WP p l e (rmL 3 0 0) s m args below meth c D A 4 (MW k md 0 (nI n) Am (chN (mrow Am i) (mrow Am i2) c9) Mo v cp bt ml cn Y) [(0, .ref (md 0)), (1, .int (nI i)), (2, .int (nI i2)), (3, .int (nI n88 - 1))] 0 0 Q 88 [] := by
                intro n88
                induction n88 with
                | zero =>
                  intro c9 hc
                  obtain rfl : c9 = 9 := by omega
                  refine p_lvE (lv9 := [(0, .ref (md 0)), (1, .int (nI i)), (2, .int (nI i2)), (3, .int (-1))]) (by rw [i_z1]) ?_
                  refine p_iload_n C rfl 3 rfl dX3_chain_88 ?_
                  refine p_if_lt C 122 (by decide) dX3_chain_89 (fun c_89 => ?_) (fun c_89 => absurd c_89 (by decide))
                  refine p_aload_n C rfl 0 rfl dX3_chain_122 ?_
                  refine p_aload_n C rfl 0 rfl dX3_chain_123 ?_
                  refine p_get (v := .ref (md 2)) (T := TX3) C 0 rfl rfl 3 (by decide) inX3 qfl_X3_13 (fun _ h9 => h9) rfl dX3_chain_124 ?_
                  refine c_Vi (As := [.ref (md 2)]) (rest := []) C (m_X3_made_w l D k (n := n) (by omega)) 0 rfl rfl rfl qml_X3_69 qim_X3_made qse_X3_X3_made qin_X3 qco_X3_made nd_X3_made ⟨Nat.le_of_ble_eq_true rfl, Nat.le_of_ble_eq_true rfl⟩ (Nat.le_of_ble_eq_true rfl) ⟨Nat.le_of_ble_eq_true rfl, Nat.le_of_ble_eq_true rfl⟩ rfl dX3_chain_127 (fun r9 w9 h9 => ?_)
                  obtain ⟨rfl, rfl⟩ := h9
                  rw [hQ]
                  exact r_i C hrt9 (⟨_, _, by rw [show eChain n (mrow Am) (nI i) (nI i2) = 0 from by unfold eChain; rw [vi, vi2, ix_nI (show i < 2 ^ 31 by omega), ix_nI (show i2 < 2 ^ 31 by omega), if_neg hd8, if_neg (show ¬ n = 16 by omega)]; rfl, sel_0, sel_0, ix_nI (show i < 2 ^ 31 by omega), ix_nI (show i2 < 2 ^ 31 by omega)] <;> rfl, fun _ => rfl⟩) (by decide) (by decide) dX3_chain_130
                | succ n88 ih88 =>
                  intro c9 hc
                  refine p_lvE (lv9 := [(0, .ref (md 0)), (1, .int (nI i)), (2, .int (nI i2)), (3, .int (nI n88))]) (by rw [nI_pred]) ?_
                  refine p_iload_n C rfl 3 rfl dX3_chain_88 ?_
                  refine p_if_lt C 122 (by decide) dX3_chain_89 (fun c_89 => absurd c_89 (nI_pos (by omega))) (fun c_89 => ?_)
                  refine p_aload_n C rfl 0 rfl dX3_chain_92 ?_
                  refine p_aload_n C rfl 0 rfl dX3_chain_93 ?_
                  refine p_get (v := .ref (md 2)) (T := TX3) C 0 rfl rfl 3 (by decide) inX3 qfl_X3_13 (fun _ h9 => h9) rfl dX3_chain_94 ?_
                  refine p_iload_n C rfl 2 rfl dX3_chain_97 ?_
                  refine c_Vv (As := [.ref (md 2), .int (nI i2)]) (rest := []) C (m_X3_multiply l D k (i := i2) (by omega)) 0 rfl rfl rfl qml_X3_85 qim_X3_multiply qse_X3_X3_multiply qin_X3 qco_X3_multiply nd_X3_multiply ⟨Nat.le_of_ble_eq_true rfl, Nat.le_of_ble_eq_true rfl⟩ (Nat.le_of_ble_eq_true rfl) ⟨Nat.le_of_ble_eq_true rfl, Nat.le_of_ble_eq_true rfl⟩ rfl dX3_chain_98 (fun w9 h9 => ?_)
                  obtain rfl := h9
                  refine p_aload_n C rfl 0 rfl dX3_chain_101 ?_
                  refine p_get (v := .ref (md 2)) (T := TX3) C 0 rfl rfl 3 (by decide) inX3 qfl_X3_13 (fun _ h9 => h9) rfl dX3_chain_102 ?_
                  refine p_iconst (v := (nI 0)) C (by decide) dX3_chain_105 ?_
                  refine p_dup2_11 C rfl rfl dX3_chain_106 ?_
                  refine p_iald (v := ((n9 (cv (chN (mrow Am i) (mrow Am i2) c9) (mrow Am i2))) 0)) C 2 rfl (vp_in_nI (n := 0) (N := 9) (by omega) (by omega)) (by rw [show ((nI 0)).toNatClampNeg = 0 from nI_clamp (by omega)]) dX3_chain_107 ?_
                  refine p_aload_n C rfl 0 rfl dX3_chain_108 ?_
                  refine p_iload_n C rfl 1 rfl dX3_chain_109 ?_
                  refine p_iload_n C rfl 3 rfl dX3_chain_110 ?_
                  refine c_Vi (As := [.int (nI i), .int (nI n88)]) (rest := [.int ((n9 (cv (chN (mrow Am i) (mrow Am i2) c9) (mrow Am i2))) 0), .int (nI 0), .ref (md 2)]) C (m_X3_at l D k (i := i) (j := n88) (by omega) (by omega)) 0 rfl rfl rfl qml_X3_47 qim_X3_at qse_X3_X3_at qin_X3 qco_X3_at nd_X3_at ⟨Nat.le_of_ble_eq_true rfl, Nat.le_of_ble_eq_true rfl⟩ (Nat.le_of_ble_eq_true rfl) ⟨Nat.le_of_ble_eq_true rfl, Nat.le_of_ble_eq_true rfl⟩ rfl dX3_chain_111 (fun r9 w9 h9 => ?_)
                  obtain ⟨e9, rfl⟩ := h9
                  refine p_int e9 ?_
                  refine p_iadd C dX3_chain_114 ?_
                  refine p_iast (w9 := (MW k md 0 (nI n) Am (chN (mrow Am i) (mrow Am i2) (c9 + 1)) Mo v cp bt ml cn Y)) C 2 rfl (vp_in_nI (n := 0) (N := 9) (by omega) (by omega)) (by rw [show ((nI 0)).toNatClampNeg = 0 from nI_clamp (by omega), show upd (n9 (cv (chN (mrow Am i) (mrow Am i2) c9) (mrow Am i2))) 0 (((n9 (cv (chN (mrow Am i) (mrow Am i2) c9) (mrow Am i2))) 0) + (mrow Am i n88)) = (chN (mrow Am i) (mrow Am i2) (c9 + 1)) from by rw [show n88 = 8 - c9 by omega]; rfl]; exact rfl) dX3_chain_115 ?_
                  refine p_iinc (lv9 := [(3, .int (nI n88 - 1)), (0, .ref (md 0)), (1, .int (nI i)), (2, .int (nI i2))]) (v := (nI n88 - 1)) C (j := 3) rfl (i_dn _) (by decide) rfl dX3_chain_116 ?_
                  refine p_goto C 88 (by decide) dX3_chain_119 ?_
                  refine p_lv (lv9 := [(0, .ref (md 0)), (1, .int (nI i)), (2, .int (nI i2)), (3, .int (nI n88 - 1))]) [1, 2, 3, 0] rfl ?_
                  exact ih88 (c9 + 1) (by omega)
              exact lp88 9 0 rfl
            | succ n66 ih66 =>
              intro j hj
              have hj2 : j < 9 := by omega
              refine p_iload_n C rfl 3 rfl dX3_chain_66 ?_
              refine p_bipush (v := 9) C (by decide) dX3_chain_67 ?_
              refine p_icmp_ge C 85 (by decide) dX3_chain_69 (fun c_69 => absurd c_69 (nI_ge (b := 9) hj2 (by decide))) (fun c_69 => ?_)
              refine p_aload_n C rfl 0 rfl dX3_chain_72 ?_
              refine p_get (v := .ref (md 2)) (T := TX3) C 0 rfl rfl 3 (by decide) inX3 qfl_X3_13 (fun _ h9 => h9) rfl dX3_chain_73 ?_
              refine p_iload_n C rfl 3 rfl dX3_chain_76 ?_
              refine p_iconst (v := 0) C (by decide) dX3_chain_77 ?_
              refine p_iast (w9 := (MW k md 0 (nI n) Am (fl (fun _ => 0) Wk (j + 1)) Mo v cp bt ml cn Y)) C 2 rfl (vp_in_nI (n := j) (N := 9) (by omega) (by omega)) (by rw [show ((nI j)).toNatClampNeg = j from nI_clamp (by omega), show upd (fl (fun _ => 0) Wk j) j 0 = (fl (fun _ => 0) Wk (j + 1)) from fl_s rfl]; exact rfl) dX3_chain_78 ?_
              refine p_iinc (lv9 := [(3, .int (nI (j + 1))), (0, .ref (md 0)), (1, .int (nI i)), (2, .int (nI i2))]) (v := (nI (j + 1))) C (j := 3) rfl (i_up j) (by decide) rfl dX3_chain_79 ?_
              refine p_goto C 66 (by decide) dX3_chain_82 ?_
              refine p_lv (lv9 := [(0, .ref (md 0)), (1, .int (nI i)), (2, .int (nI i2)), (3, .int (nI (j + 1)))]) [1, 2, 3, 0] rfl ?_
              exact ih66 (j + 1) (by omega)
          exact lp66 9 0 rfl
        · obtain rfl : n = 16 := n16e hn c_55
          refine p_aload_n C rfl 0 rfl dX3_chain_58 ?_
          refine p_iconst (v := 3) C (by decide) dX3_chain_59 ?_
          refine c_Vi (As := [.int 3]) (rest := []) C (m_X3_no l D k (x := 3)) 0 rfl rfl rfl qml_X3_66 qim_X3_no qse_X3_X3_no qin_X3 qco_X3_no nd_X3_no ⟨Nat.le_of_ble_eq_true rfl, Nat.le_of_ble_eq_true rfl⟩ (Nat.le_of_ble_eq_true rfl) ⟨Nat.le_of_ble_eq_true rfl, Nat.le_of_ble_eq_true rfl⟩ rfl dX3_chain_60 (fun r9 w9 h9 => ?_)
          obtain ⟨e9, rfl⟩ := h9
          refine p_int e9 ?_
          rw [hQ]
          exact r_i C hrt9 (⟨_, _, by rw [show eChain 16 (mrow Am) (nI i) (nI i2) = 3 from by unfold eChain; rw [vi, vi2, ix_nI (show i < 2 ^ 31 by omega), ix_nI (show i2 < 2 ^ 31 by omega), if_neg hd8]; rfl, sel_3, sel_3], fun q => absurd q (by rw [show eChain 16 (mrow Am) (nI i) (nI i2) = 3 from by unfold eChain; rw [vi, vi2, ix_nI (show i < 2 ^ 31 by omega), ix_nI (show i2 < 2 ^ 31 by omega), if_neg hd8]; rfl]; exact three_n0)⟩) (by decide) (by decide) dX3_chain_63
      · have hd8 := Int32.not_le.mp c_40
        refine p_aload_n C rfl 0 rfl dX3_chain_43 ?_
        refine p_iconst (v := 2) C (by decide) dX3_chain_44 ?_
        refine c_Vi (As := [.int 2]) (rest := []) C (m_X3_no l D k (x := 2)) 0 rfl rfl rfl qml_X3_66 qim_X3_no qse_X3_X3_no qin_X3 qco_X3_no nd_X3_no ⟨Nat.le_of_ble_eq_true rfl, Nat.le_of_ble_eq_true rfl⟩ (Nat.le_of_ble_eq_true rfl) ⟨Nat.le_of_ble_eq_true rfl, Nat.le_of_ble_eq_true rfl⟩ rfl dX3_chain_45 (fun r9 w9 h9 => ?_)
        obtain ⟨e9, rfl⟩ := h9
        refine p_int e9 ?_
        rw [hQ]
        exact r_i C hrt9 (⟨_, _, by rw [show eChain n (mrow Am) (nI i) (nI i2) = 2 from by unfold eChain; rw [vi, vi2, ix_nI (show i < 2 ^ 31 by omega), ix_nI (show i2 < 2 ^ 31 by omega), if_pos hd8]; rfl, sel_2, sel_2], fun q => absurd q (by rw [show eChain n (mrow Am) (nI i) (nI i2) = 2 from by unfold eChain; rw [vi, vi2, ix_nI (show i < 2 ^ 31 by omega), ix_nI (show i2 < 2 ^ 31 by omega), if_pos hd8]; rfl]; exact two_n0)⟩) (by decide) (by decide) dX3_chain_48
    · have hrb := bI_eq c_18
      refine p_aload_n C rfl 0 rfl dX3_chain_21 ?_
      refine p_iconst (v := 1) C (by decide) dX3_chain_22 ?_
      refine c_Vi (As := [.int 1]) (rest := []) C (m_X3_no l D k (x := 1)) 0 rfl rfl rfl qml_X3_66 qim_X3_no qse_X3_X3_no qin_X3 qco_X3_no nd_X3_no ⟨Nat.le_of_ble_eq_true rfl, Nat.le_of_ble_eq_true rfl⟩ (Nat.le_of_ble_eq_true rfl) ⟨Nat.le_of_ble_eq_true rfl, Nat.le_of_ble_eq_true rfl⟩ rfl dX3_chain_23 (fun r9 w9 h9 => ?_)
      obtain ⟨e9, rfl⟩ := h9
      refine p_int e9 ?_
      rw [hQ]
      exact r_i C hrt9 (⟨_, _, by rw [show eChain n (mrow Am) (nI i) rb = 1 from by unfold eChain; rw [vi, hrb]; rfl, sel_1, sel_1], fun q => absurd q (by rw [show eChain n (mrow Am) (nI i) rb = 1 from by unfold eChain; rw [vi, hrb]; rfl]; exact one_n0)⟩) (by decide) (by decide) dX3_chain_26
set_option maxHeartbeats 4000000 in
set_option maxRecDepth 100000 in
/-- X3_derive -/
theorem m_X3_derive (l : Launch) (D : va_G) (k : Nat → ClassId) {md : Nat → Nat} {th : Int32} {n : Nat} {Am Wk Mo : Nat → Int32} {v cp : Nat} {bt : Nat → Int32} {ml cn : Int32} {Y : va_W} (hn : n ≤ 16) {rc : Int32} : CtI l D k yX3_derive (wU yX3_derive cX3_derive 3 (some .int)) (rmL 3 0 0) [.ref (md 0), .int rc] (MW k md th (nI n) Am Wk Mo v cp bt ml cn Y) (fun r w' => ∃ Wk' Mo' : Nat → Int32, w' = (MW k md (eDer n rc) (sel (eDer n rc) (nI (n + 1)) (nI n)) (sel (eDer n rc) (ptR Am n (deR (mrow Am (ix rc)))) Am) Wk' Mo' v cp bt ml cn Y) ∧ ((eDer n rc) = 0 → r = nI n)) := by
  refine openI (own := RX3) rfl (by decide) (Nat.le_of_ble_eq_true rfl) rfl ?_
  intro p e s m args below meth c A C hrt9 hnm
  obtain ⟨Q, hQ⟩ : ∃ Q, Q = (MQ below (va_Qi (fun r w' => ∃ Wk' Mo' : Nat → Int32, w' = (MW k md (eDer n rc) (sel (eDer n rc) (nI (n + 1)) (nI n)) (sel (eDer n rc) (ptR Am n (deR (mrow Am (ix rc)))) Am) Wk' Mo' v cp bt ml cn Y) ∧ ((eDer n rc) = 0 → r = nI n)) (cBA D A) A) args s 0 0 A) := ⟨_, rfl⟩
  show WP p l e (rmL 3 0 0) s m args below meth c D A 3 (MW k md th (nI n) Am Wk Mo v cp bt ml cn Y) [(0, .ref (md 0)), (1, .int rc)] 0 0 (MQ below (va_Qi (fun r w' => ∃ Wk' Mo' : Nat → Int32, w' = (MW k md (eDer n rc) (sel (eDer n rc) (nI (n + 1)) (nI n)) (sel (eDer n rc) (ptR Am n (deR (mrow Am (ix rc)))) Am) Wk' Mo' v cp bt ml cn Y) ∧ ((eDer n rc) = 0 → r = nI n)) (cBA D A) A) args s 0 0 A) 0 []
  rw [← hQ]
  refine p_aload_n C rfl 0 rfl dX3_derive_0 ?_
  refine p_iconst (v := 0) C (by decide) dX3_derive_1 ?_
  refine p_put (w9 := (MW k md 0 (nI n) Am Wk Mo v cp bt ml cn Y)) (v := .int 0) (T := TX3) C tyX3 tyX3_ok nmX3 0 rfl rfl 0 (by decide) inX3 qfl_X3_26 (fun _ h9 => h9) rfl rfl rfl (Nat.le_of_ble_eq_true rfl) rfl dX3_derive_2 ?_
  refine p_aload_n C rfl 0 rfl dX3_derive_5 ?_
  refine p_iload_n C rfl 1 rfl dX3_derive_6 ?_
  refine c_Vi (As := [.int rc]) (rest := []) C (m_X3_isRecipe l D k (x := rc)) 0 rfl rfl rfl qml_X3_73 qim_X3_isRecipe qse_X3_X3_isRecipe qin_X3 qco_X3_isRecipe nd_X3_isRecipe ⟨Nat.le_of_ble_eq_true rfl, Nat.le_of_ble_eq_true rfl⟩ (Nat.le_of_ble_eq_true rfl) ⟨Nat.le_of_ble_eq_true rfl, Nat.le_of_ble_eq_true rfl⟩ rfl dX3_derive_7 (fun r9 w9 h9 => ?_)
  obtain ⟨e9, rfl⟩ := h9
  refine p_int e9 ?_
  refine p_if_ne C 19 (by decide) dX3_derive_10 (fun c_10 => ?_) (fun c_10 => ?_)
  · obtain ⟨i, hi, rfl⟩ := isR_spec hn (bI_ne c_10)
    have vi := isR_of hn hi
    refine p_aload_n C rfl 0 rfl dX3_derive_19 ?_
    refine p_get (v := .int (nI n)) (T := TX3) C 0 rfl rfl 1 (by decide) inX3 qfl_X3_30 (fun _ h9 => h9) rfl dX3_derive_20 ?_
    refine p_bipush (v := 16) C (by decide) dX3_derive_23 ?_
    refine p_icmp_ne C 34 (by decide) dX3_derive_25 (fun c_25 => ?_) (fun c_25 => ?_)
    · have hne : n < 16 := n16 hn c_25
      refine p_iconst (v := 0) C (by decide) dX3_derive_34 ?_
      refine p_istore_n (lv9 := [(2, .int 0), (0, .ref (md 0)), (1, .int (nI i))]) C rfl (by decide) rfl dX3_derive_35 ?_
      refine p_w (w9 := (MW k md 0 (nI n) Am (fl (deR (mrow Am i)) Wk 0) Mo v cp bt ml cn Y)) (by rw [fl_0]) ?_
      refine p_lv (lv9 := [(0, .ref (md 0)), (1, .int (nI i)), (2, .int 0)]) [1, 2, 0] rfl ?_
      have lp36 : ∀ (n36 : Nat) (j : Nat), (hj : j + n36 = 8) → WP p l e (rmL 3 0 0) s m args below meth c D A 3 (MW k md 0 (nI n) Am (fl (deR (mrow Am i)) Wk j) Mo v cp bt ml cn Y) [(0, .ref (md 0)), (1, .int (nI i)), (2, .int (nI j))] 0 0 Q 36 [] := by
        intro n36
        induction n36 with
        | zero =>
          intro j hj
          obtain rfl : j = 8 := by omega
          refine p_iload_n C rfl 2 rfl dX3_derive_36 ?_
          refine p_bipush (v := 8) C (by decide) dX3_derive_37 ?_
          refine p_icmp_ge C 66 (by decide) dX3_derive_39 (fun c_39 => ?_) (fun c_39 => absurd c_39 (by decide))
          refine p_aload_n C rfl 0 rfl dX3_derive_66 ?_
          refine p_get (v := .ref (md 2)) (T := TX3) C 0 rfl rfl 3 (by decide) inX3 qfl_X3_13 (fun _ h9 => h9) rfl dX3_derive_67 ?_
          refine p_bipush (v := (nI 8)) C (by decide) dX3_derive_70 ?_
          refine p_iconst (v := 0) C (by decide) dX3_derive_72 ?_
          refine p_iast (w9 := (MW k md 0 (nI n) Am (fl (deR (mrow Am i)) Wk 9) Mo v cp bt ml cn Y)) C 2 rfl (vp_in_nI (n := 8) (N := 9) (by omega) (by omega)) (by rw [show ((nI 8)).toNatClampNeg = 8 from nI_clamp (by omega), show upd (fl (deR (mrow Am i)) Wk 8) 8 0 = (fl (deR (mrow Am i)) Wk 9) from fl_s rfl]; exact rfl) dX3_derive_73 ?_
          refine p_arr (n := 9) (w9 := (MW k md 0 (nI n) Am (deR (mrow Am i)) Mo v cp bt ml cn Y)) 2 rfl (deR (mrow Am i)) (fun j hj => fl_in hj) rfl ?_
          refine p_aload_n C rfl 0 rfl dX3_derive_74 ?_
          refine p_aload_n C rfl 0 rfl dX3_derive_75 ?_
          refine p_get (v := .ref (md 2)) (T := TX3) C 0 rfl rfl 3 (by decide) inX3 qfl_X3_13 (fun _ h9 => h9) rfl dX3_derive_76 ?_
          refine c_Vi (As := [.ref (md 2)]) (rest := []) C (m_X3_made_w l D k (n := n) (by omega)) 0 rfl rfl rfl qml_X3_69 qim_X3_made qse_X3_X3_made qin_X3 qco_X3_made nd_X3_made ⟨Nat.le_of_ble_eq_true rfl, Nat.le_of_ble_eq_true rfl⟩ (Nat.le_of_ble_eq_true rfl) ⟨Nat.le_of_ble_eq_true rfl, Nat.le_of_ble_eq_true rfl⟩ rfl dX3_derive_79 (fun r9 w9 h9 => ?_)
          obtain ⟨rfl, rfl⟩ := h9
          rw [hQ]
          exact r_i C hrt9 (⟨_, _, by rw [show eDer n (nI i) = 0 from by unfold eDer; rw [vi, if_neg (show ¬ n = 16 by omega)]; rfl, sel_0, sel_0, ix_nI (by omega)], fun _ => rfl⟩) (by decide) (by decide) dX3_derive_82
        | succ n36 ih36 =>
          intro j hj
          have hj2 : j < 8 := by omega
          refine p_iload_n C rfl 2 rfl dX3_derive_36 ?_
          refine p_bipush (v := 8) C (by decide) dX3_derive_37 ?_
          refine p_icmp_ge C 66 (by decide) dX3_derive_39 (fun c_39 => absurd c_39 (nI_ge (b := 8) hj2 (by decide))) (fun c_39 => ?_)
          refine p_aload_n C rfl 0 rfl dX3_derive_42 ?_
          refine p_get (v := .ref (md 2)) (T := TX3) C 0 rfl rfl 3 (by decide) inX3 qfl_X3_13 (fun _ h9 => h9) rfl dX3_derive_43 ?_
          refine p_iload_n C rfl 2 rfl dX3_derive_46 ?_
          refine p_iload_n C rfl 2 rfl dX3_derive_47 ?_
          refine p_iconst (v := 1) C (by decide) dX3_derive_48 ?_
          refine p_iadd C dX3_derive_49 ?_
          refine p_int (y := (nI (j + 1))) (nI_1 j) ?_
          refine p_aload_n C rfl 0 rfl dX3_derive_50 ?_
          refine p_iload_n C rfl 1 rfl dX3_derive_51 ?_
          refine p_iload_n C rfl 2 rfl dX3_derive_52 ?_
          refine p_iconst (v := 1) C (by decide) dX3_derive_53 ?_
          refine p_iadd C dX3_derive_54 ?_
          refine p_int (y := (nI (j + 1))) (nI_1 j) ?_
          refine c_Vi (As := [.int (nI i), .int (nI (j + 1))]) (rest := [.int (nI (j + 1)), .int (nI j), .ref (md 2)]) C (m_X3_at l D k (i := i) (j := (j + 1)) (by omega) (by omega)) 0 rfl rfl rfl qml_X3_47 qim_X3_at qse_X3_X3_at qin_X3 qco_X3_at nd_X3_at ⟨Nat.le_of_ble_eq_true rfl, Nat.le_of_ble_eq_true rfl⟩ (Nat.le_of_ble_eq_true rfl) ⟨Nat.le_of_ble_eq_true rfl, Nat.le_of_ble_eq_true rfl⟩ rfl dX3_derive_55 (fun r9 w9 h9 => ?_)
          obtain ⟨e9, rfl⟩ := h9
          refine p_int e9 ?_
          refine p_imul C dX3_derive_58 ?_
          refine p_iast (w9 := (MW k md 0 (nI n) Am (fl (deR (mrow Am i)) Wk (j + 1)) Mo v cp bt ml cn Y)) C 2 rfl (vp_in_nI (n := j) (N := 9) (by omega) (by omega)) (by rw [show ((nI j)).toNatClampNeg = j from nI_clamp (by omega), show upd (fl (deR (mrow Am i)) Wk j) j ((nI (j + 1)) * (mrow Am i (j + 1))) = (fl (deR (mrow Am i)) Wk (j + 1)) from fl_s (by unfold deR; rw [if_pos hj2])]; exact rfl) dX3_derive_59 ?_
          refine p_iinc (lv9 := [(2, .int (nI (j + 1))), (0, .ref (md 0)), (1, .int (nI i))]) (v := (nI (j + 1))) C (j := 2) rfl (i_up j) (by decide) rfl dX3_derive_60 ?_
          refine p_goto C 36 (by decide) dX3_derive_63 ?_
          refine p_lv (lv9 := [(0, .ref (md 0)), (1, .int (nI i)), (2, .int (nI (j + 1)))]) [1, 2, 0] rfl ?_
          exact ih36 (j + 1) (by omega)
      exact lp36 8 0 rfl
    · obtain rfl : n = 16 := n16e hn c_25
      refine p_aload_n C rfl 0 rfl dX3_derive_28 ?_
      refine p_iconst (v := 2) C (by decide) dX3_derive_29 ?_
      refine c_Vi (As := [.int 2]) (rest := []) C (m_X3_no l D k (x := 2)) 0 rfl rfl rfl qml_X3_66 qim_X3_no qse_X3_X3_no qin_X3 qco_X3_no nd_X3_no ⟨Nat.le_of_ble_eq_true rfl, Nat.le_of_ble_eq_true rfl⟩ (Nat.le_of_ble_eq_true rfl) ⟨Nat.le_of_ble_eq_true rfl, Nat.le_of_ble_eq_true rfl⟩ rfl dX3_derive_30 (fun r9 w9 h9 => ?_)
      obtain ⟨e9, rfl⟩ := h9
      refine p_int e9 ?_
      rw [hQ]
      exact r_i C hrt9 (⟨_, _, by rw [show eDer 16 (nI i) = 2 from by unfold eDer; rw [vi]; rfl, sel_2, sel_2], fun q => absurd q (by rw [show eDer 16 (nI i) = 2 from by unfold eDer; rw [vi]; rfl]; exact two_n0)⟩) (by decide) (by decide) dX3_derive_33
  · have hr := bI_eq c_10
    refine p_aload_n C rfl 0 rfl dX3_derive_13 ?_
    refine p_iconst (v := 1) C (by decide) dX3_derive_14 ?_
    refine c_Vi (As := [.int 1]) (rest := []) C (m_X3_no l D k (x := 1)) 0 rfl rfl rfl qml_X3_66 qim_X3_no qse_X3_X3_no qin_X3 qco_X3_no nd_X3_no ⟨Nat.le_of_ble_eq_true rfl, Nat.le_of_ble_eq_true rfl⟩ (Nat.le_of_ble_eq_true rfl) ⟨Nat.le_of_ble_eq_true rfl, Nat.le_of_ble_eq_true rfl⟩ rfl dX3_derive_15 (fun r9 w9 h9 => ?_)
    obtain ⟨e9, rfl⟩ := h9
    refine p_int e9 ?_
    rw [hQ]
    exact r_i C hrt9 (⟨_, _, by rw [show eDer n rc = 1 from by unfold eDer; rw [hr]; rfl, sel_1, sel_1], fun q => absurd q (by rw [show eDer n rc = 1 from by unfold eDer; rw [hr]; rfl]; exact one_n0)⟩) (by decide) (by decide) dX3_derive_18
theorem pln_pos {f : Nat → Int32} (h : pln f = true) : 0 < dg f := (of_decide_eq_true h).1
theorem le14 {n : Nat} (hn : n ≤ 16) (h : nI n ≤ 14) : n ≤ 14 := (@nI_leI n 14 (by omega) (by omega)).mp h
theorem gt14 {n : Nat} (hn : n ≤ 16) (h : ¬ nI n ≤ 14) : 14 < n := Nat.lt_of_not_le fun q => h ((@nI_leI n 14 (by omega) (by omega)).mpr q)
set_option maxHeartbeats 4000000 in
set_option maxRecDepth 100000 in
/-- X3_divide -/
theorem m_X3_divide (l : Launch) (D : va_G) (k : Nat → ClassId) {md : Nat → Nat} {th : Int32} {n : Nat} {Am Wk Mo : Nat → Int32} {v cp : Nat} {bt : Nat → Int32} {ml cn : Int32} {Y : va_W} (hn : n ≤ 16) {ra rb : Int32} : CtI l D k yX3_divide (wU yX3_divide cX3_divide 4 (some .int)) (rmL 4 0 0) [.ref (md 0), .int ra, .int rb] (MW k md th (nI n) Am Wk Mo v cp bt ml cn Y) (fun r w' => ∃ Wk' Mo' : Nat → Int32, w' = (MW k md (eDiv n (mrow Am) ra rb) (sel (eDiv n (mrow Am) ra rb) (nI (n + 1 + 1)) (nI n)) (sel (eDiv n (mrow Am) ra rb) (ptR (ptR Am n (sp (mrow Am (ix ra)) (mrow Am (ix rb))).1) (n + 1) (sp (mrow Am (ix ra)) (mrow Am (ix rb))).2) Am) Wk' Mo' v cp bt ml cn Y) ∧ ((eDiv n (mrow Am) ra rb) = 0 → r = nI n)) := by
  refine openI (own := RX3) rfl (by decide) (Nat.le_of_ble_eq_true rfl) rfl ?_
  intro p e s m args below meth c A C hrt9 hnm
  obtain ⟨Q, hQ⟩ : ∃ Q, Q = (MQ below (va_Qi (fun r w' => ∃ Wk' Mo' : Nat → Int32, w' = (MW k md (eDiv n (mrow Am) ra rb) (sel (eDiv n (mrow Am) ra rb) (nI (n + 1 + 1)) (nI n)) (sel (eDiv n (mrow Am) ra rb) (ptR (ptR Am n (sp (mrow Am (ix ra)) (mrow Am (ix rb))).1) (n + 1) (sp (mrow Am (ix ra)) (mrow Am (ix rb))).2) Am) Wk' Mo' v cp bt ml cn Y) ∧ ((eDiv n (mrow Am) ra rb) = 0 → r = nI n)) (cBA D A) A) args s 0 0 A) := ⟨_, rfl⟩
  show WP p l e (rmL 4 0 0) s m args below meth c D A 4 (MW k md th (nI n) Am Wk Mo v cp bt ml cn Y) [(0, .ref (md 0)), (1, .int ra), (2, .int rb)] 0 0 (MQ below (va_Qi (fun r w' => ∃ Wk' Mo' : Nat → Int32, w' = (MW k md (eDiv n (mrow Am) ra rb) (sel (eDiv n (mrow Am) ra rb) (nI (n + 1 + 1)) (nI n)) (sel (eDiv n (mrow Am) ra rb) (ptR (ptR Am n (sp (mrow Am (ix ra)) (mrow Am (ix rb))).1) (n + 1) (sp (mrow Am (ix ra)) (mrow Am (ix rb))).2) Am) Wk' Mo' v cp bt ml cn Y) ∧ ((eDiv n (mrow Am) ra rb) = 0 → r = nI n)) (cBA D A) A) args s 0 0 A) 0 []
  rw [← hQ]
  refine p_aload_n C rfl 0 rfl dX3_divide_0 ?_
  refine p_iconst (v := 0) C (by decide) dX3_divide_1 ?_
  refine p_put (w9 := (MW k md 0 (nI n) Am Wk Mo v cp bt ml cn Y)) (v := .int 0) (T := TX3) C tyX3 tyX3_ok nmX3 0 rfl rfl 0 (by decide) inX3 qfl_X3_26 (fun _ h9 => h9) rfl rfl rfl (Nat.le_of_ble_eq_true rfl) rfl dX3_divide_2 ?_
  refine p_aload_n C rfl 0 rfl dX3_divide_5 ?_
  refine p_iload_n C rfl 1 rfl dX3_divide_6 ?_
  refine c_Vi (As := [.int ra]) (rest := []) C (m_X3_isRecipe l D k (x := ra)) 0 rfl rfl rfl qml_X3_73 qim_X3_isRecipe qse_X3_X3_isRecipe qin_X3 qco_X3_isRecipe nd_X3_isRecipe ⟨Nat.le_of_ble_eq_true rfl, Nat.le_of_ble_eq_true rfl⟩ (Nat.le_of_ble_eq_true rfl) ⟨Nat.le_of_ble_eq_true rfl, Nat.le_of_ble_eq_true rfl⟩ rfl dX3_divide_7 (fun r9 w9 h9 => ?_)
  obtain ⟨e9, rfl⟩ := h9
  refine p_int e9 ?_
  refine p_if_eq C 21 (by decide) dX3_divide_10 (fun c_10 => ?_) (fun c_10 => ?_)
  · have hra := bI_eq c_10
    refine p_aload_n C rfl 0 rfl dX3_divide_21 ?_
    refine p_iconst (v := 1) C (by decide) dX3_divide_22 ?_
    refine c_Vi (As := [.int 1]) (rest := []) C (m_X3_no l D k (x := 1)) 0 rfl rfl rfl qml_X3_66 qim_X3_no qse_X3_X3_no qin_X3 qco_X3_no nd_X3_no ⟨Nat.le_of_ble_eq_true rfl, Nat.le_of_ble_eq_true rfl⟩ (Nat.le_of_ble_eq_true rfl) ⟨Nat.le_of_ble_eq_true rfl, Nat.le_of_ble_eq_true rfl⟩ rfl dX3_divide_23 (fun r9 w9 h9 => ?_)
    obtain ⟨e9, rfl⟩ := h9
    refine p_int e9 ?_
    rw [hQ]
    exact r_i C hrt9 (⟨_, _, by rw [show eDiv n (mrow Am) ra rb = 1 from by unfold eDiv; rw [hra]; rfl, sel_1, sel_1], fun q => absurd q (by rw [show eDiv n (mrow Am) ra rb = 1 from by unfold eDiv; rw [hra]; rfl]; exact one_n0)⟩) (by decide) (by decide) dX3_divide_26
  · obtain ⟨i, hi, rfl⟩ := isR_spec hn (bI_ne c_10)
    have vi := isR_of hn hi
    refine p_aload_n C rfl 0 rfl dX3_divide_13 ?_
    refine p_iload_n C rfl 2 rfl dX3_divide_14 ?_
    refine c_Vi (As := [.int rb]) (rest := []) C (m_X3_isRecipe l D k (x := rb)) 0 rfl rfl rfl qml_X3_73 qim_X3_isRecipe qse_X3_X3_isRecipe qin_X3 qco_X3_isRecipe nd_X3_isRecipe ⟨Nat.le_of_ble_eq_true rfl, Nat.le_of_ble_eq_true rfl⟩ (Nat.le_of_ble_eq_true rfl) ⟨Nat.le_of_ble_eq_true rfl, Nat.le_of_ble_eq_true rfl⟩ rfl dX3_divide_15 (fun r9 w9 h9 => ?_)
    obtain ⟨e9, rfl⟩ := h9
    refine p_int e9 ?_
    refine p_if_ne C 27 (by decide) dX3_divide_18 (fun c_18 => ?_) (fun c_18 => ?_)
    · obtain ⟨i2, hi2, rfl⟩ := isR_spec hn (bI_ne c_18)
      have vi2 := isR_of hn hi2
      refine p_aload_n C rfl 0 rfl dX3_divide_27 ?_
      refine p_iload_n C rfl 2 rfl dX3_divide_28 ?_
      refine c_Vi (As := [.int (nI i2)]) (rest := []) C (m_X3_plain l D k (i := i2) (by omega)) 0 rfl rfl rfl qml_X3_88 qim_X3_plain qse_X3_X3_plain qin_X3 qco_X3_plain nd_X3_plain ⟨Nat.le_of_ble_eq_true rfl, Nat.le_of_ble_eq_true rfl⟩ (Nat.le_of_ble_eq_true rfl) ⟨Nat.le_of_ble_eq_true rfl, Nat.le_of_ble_eq_true rfl⟩ rfl dX3_divide_29 (fun r9 w9 h9 => ?_)
      obtain ⟨e9, rfl⟩ := h9
      refine p_int e9 ?_
      refine p_if_ne C 41 (by decide) dX3_divide_32 (fun c_32 => ?_) (fun c_32 => ?_)
      · have vpl := bI_ne c_32
        refine p_aload_n C rfl 0 rfl dX3_divide_41 ?_
        refine p_get (v := .int (nI n)) (T := TX3) C 0 rfl rfl 1 (by decide) inX3 qfl_X3_30 (fun _ h9 => h9) rfl dX3_divide_42 ?_
        refine p_bipush (v := 14) C (by decide) dX3_divide_45 ?_
        refine p_icmp_le C 56 (by decide) dX3_divide_47 (fun c_47 => ?_) (fun c_47 => ?_)
        · have hn14 : n ≤ 14 := le14 hn c_47
          refine p_aload_n C rfl 0 rfl dX3_divide_56 ?_
          refine p_iload_n C rfl 1 rfl dX3_divide_57 ?_
          refine p_aload_n C rfl 0 rfl dX3_divide_58 ?_
          refine p_get (v := .ref (md 2)) (T := TX3) C 0 rfl rfl 3 (by decide) inX3 qfl_X3_13 (fun _ h9 => h9) rfl dX3_divide_59 ?_
          refine c_Vv (As := [.int (nI i), .ref (md 2)]) (rest := []) C (m_X3_take l D k (i := i) (by omega)) 0 rfl rfl rfl qml_X3_55 qim_X3_take qse_X3_X3_take qin_X3 qco_X3_take nd_X3_take ⟨Nat.le_of_ble_eq_true rfl, Nat.le_of_ble_eq_true rfl⟩ (Nat.le_of_ble_eq_true rfl) ⟨Nat.le_of_ble_eq_true rfl, Nat.le_of_ble_eq_true rfl⟩ rfl dX3_divide_62 (fun w9 h9 => ?_)
          obtain rfl := h9
          refine p_aload_n C rfl 0 rfl dX3_divide_65 ?_
          refine p_iload_n C rfl 2 rfl dX3_divide_66 ?_
          refine c_Vv (As := [.int (nI i2)]) (rest := []) C (m_X3_divideRow l D k (i := i2) (by omega) (pln_pos vpl) (mrow_n9 _ _)) 0 rfl rfl rfl qml_X3_91 qim_X3_divideRow qse_X3_X3_divideRow qin_X3 qco_X3_divideRow nd_X3_divideRow ⟨Nat.le_of_ble_eq_true rfl, Nat.le_of_ble_eq_true rfl⟩ (Nat.le_of_ble_eq_true rfl) ⟨Nat.le_of_ble_eq_true rfl, Nat.le_of_ble_eq_true rfl⟩ rfl dX3_divide_67 (fun w9 h9 => ?_)
          obtain rfl := h9
          refine p_aload_n C rfl 0 rfl dX3_divide_70 ?_
          refine p_aload_n C rfl 0 rfl dX3_divide_71 ?_
          refine p_get (v := .ref (md 3)) (T := TX3) C 0 rfl rfl 4 (by decide) inX3 qfl_X3_16 (fun _ h9 => h9) rfl dX3_divide_72 ?_
          refine c_Vi (As := [.ref (md 3)]) (rest := []) C (m_X3_made_m l D k (n := n) (by omega)) 0 rfl rfl rfl qml_X3_69 qim_X3_made qse_X3_X3_made qin_X3 qco_X3_made nd_X3_made ⟨Nat.le_of_ble_eq_true rfl, Nat.le_of_ble_eq_true rfl⟩ (Nat.le_of_ble_eq_true rfl) ⟨Nat.le_of_ble_eq_true rfl, Nat.le_of_ble_eq_true rfl⟩ rfl dX3_divide_75 (fun r9 w9 h9 => ?_)
          obtain ⟨rfl, rfl⟩ := h9
          refine p_istore_n (lv9 := [(3, .int (nI n)), (0, .ref (md 0)), (1, .int (nI i)), (2, .int (nI i2))]) C rfl (by decide) rfl dX3_divide_78 ?_
          refine p_aload_n C rfl 1 rfl dX3_divide_79 ?_
          refine p_aload_n C rfl 1 rfl dX3_divide_80 ?_
          refine p_get (v := .ref (md 2)) (T := TX3) C 0 rfl rfl 3 (by decide) inX3 qfl_X3_13 (fun _ h9 => h9) rfl dX3_divide_81 ?_
          refine c_Vi (As := [.ref (md 2)]) (rest := []) C (m_X3_made_w l D k (n := (n + 1)) (by omega)) 0 rfl rfl rfl qml_X3_69 qim_X3_made qse_X3_X3_made qin_X3 qco_X3_made nd_X3_made ⟨Nat.le_of_ble_eq_true rfl, Nat.le_of_ble_eq_true rfl⟩ (Nat.le_of_ble_eq_true rfl) ⟨Nat.le_of_ble_eq_true rfl, Nat.le_of_ble_eq_true rfl⟩ rfl dX3_divide_84 (fun r9 w9 h9 => ?_)
          obtain ⟨rfl, rfl⟩ := h9
          refine p_pop C rfl dX3_divide_87 ?_
          refine p_iload_n C rfl 0 rfl dX3_divide_88 ?_
          rw [hQ]
          exact r_i C hrt9 (⟨_, _, by rw [show eDiv n (mrow Am) (nI i) (nI i2) = 0 from by unfold eDiv; rw [vi, vi2, ix_nI (show i2 < 2 ^ 31 by omega), vpl, if_neg (show ¬ 14 < n by omega)]; rfl, sel_0, sel_0, ix_nI (show i < 2 ^ 31 by omega), ix_nI (show i2 < 2 ^ 31 by omega)], fun _ => rfl⟩) (by decide) (by decide) dX3_divide_89
        · have hn14 : 14 < n := gt14 hn c_47
          refine p_aload_n C rfl 0 rfl dX3_divide_50 ?_
          refine p_iconst (v := 3) C (by decide) dX3_divide_51 ?_
          refine c_Vi (As := [.int 3]) (rest := []) C (m_X3_no l D k (x := 3)) 0 rfl rfl rfl qml_X3_66 qim_X3_no qse_X3_X3_no qin_X3 qco_X3_no nd_X3_no ⟨Nat.le_of_ble_eq_true rfl, Nat.le_of_ble_eq_true rfl⟩ (Nat.le_of_ble_eq_true rfl) ⟨Nat.le_of_ble_eq_true rfl, Nat.le_of_ble_eq_true rfl⟩ rfl dX3_divide_52 (fun r9 w9 h9 => ?_)
          obtain ⟨e9, rfl⟩ := h9
          refine p_int e9 ?_
          rw [hQ]
          exact r_i C hrt9 (⟨_, _, by rw [show eDiv n (mrow Am) (nI i) (nI i2) = 3 from by unfold eDiv; rw [vi, vi2, ix_nI (show i2 < 2 ^ 31 by omega), vpl, if_pos hn14]; rfl, sel_3, sel_3], fun q => absurd q (by rw [show eDiv n (mrow Am) (nI i) (nI i2) = 3 from by unfold eDiv; rw [vi, vi2, ix_nI (show i2 < 2 ^ 31 by omega), vpl, if_pos hn14]; rfl]; exact three_n0)⟩) (by decide) (by decide) dX3_divide_55
      · have hpl := bI_eq c_32
        refine p_aload_n C rfl 0 rfl dX3_divide_35 ?_
        refine p_iconst (v := 2) C (by decide) dX3_divide_36 ?_
        refine c_Vi (As := [.int 2]) (rest := []) C (m_X3_no l D k (x := 2)) 0 rfl rfl rfl qml_X3_66 qim_X3_no qse_X3_X3_no qin_X3 qco_X3_no nd_X3_no ⟨Nat.le_of_ble_eq_true rfl, Nat.le_of_ble_eq_true rfl⟩ (Nat.le_of_ble_eq_true rfl) ⟨Nat.le_of_ble_eq_true rfl, Nat.le_of_ble_eq_true rfl⟩ rfl dX3_divide_37 (fun r9 w9 h9 => ?_)
        obtain ⟨e9, rfl⟩ := h9
        refine p_int e9 ?_
        rw [hQ]
        exact r_i C hrt9 (⟨_, _, by rw [show eDiv n (mrow Am) (nI i) (nI i2) = 2 from by unfold eDiv; rw [vi, vi2, ix_nI (show i2 < 2 ^ 31 by omega), hpl]; rfl, sel_2, sel_2], fun q => absurd q (by rw [show eDiv n (mrow Am) (nI i) (nI i2) = 2 from by unfold eDiv; rw [vi, vi2, ix_nI (show i2 < 2 ^ 31 by omega), hpl]; rfl]; exact two_n0)⟩) (by decide) (by decide) dX3_divide_40
    · have hrb := bI_eq c_18
      refine p_aload_n C rfl 0 rfl dX3_divide_21 ?_
      refine p_iconst (v := 1) C (by decide) dX3_divide_22 ?_
      refine c_Vi (As := [.int 1]) (rest := []) C (m_X3_no l D k (x := 1)) 0 rfl rfl rfl qml_X3_66 qim_X3_no qse_X3_X3_no qin_X3 qco_X3_no nd_X3_no ⟨Nat.le_of_ble_eq_true rfl, Nat.le_of_ble_eq_true rfl⟩ (Nat.le_of_ble_eq_true rfl) ⟨Nat.le_of_ble_eq_true rfl, Nat.le_of_ble_eq_true rfl⟩ rfl dX3_divide_23 (fun r9 w9 h9 => ?_)
      obtain ⟨e9, rfl⟩ := h9
      refine p_int e9 ?_
      rw [hQ]
      exact r_i C hrt9 (⟨_, _, by rw [show eDiv n (mrow Am) (nI i) rb = 1 from by unfold eDiv; rw [vi, hrb]; rfl, sel_1, sel_1], fun q => absurd q (by rw [show eDiv n (mrow Am) (nI i) rb = 1 from by unfold eDiv; rw [vi, hrb]; rfl]; exact one_n0)⟩) (by decide) (by decide) dX3_divide_26
set_option maxHeartbeats 4000000 in
set_option maxRecDepth 100000 in
/-- X3_agreeAt -/
theorem m_X3_agreeAt (l : Launch) (D : va_G) (k : Nat → ClassId) {md : Nat → Nat} {th : Int32} {n : Nat} {Am Wk Mo : Nat → Int32} {v cp : Nat} {bt : Nat → Int32} {ml cn : Int32} {Y : va_W} (hn : n ≤ 16) {ra rb : Int32} : CtI l D k yX3_agreeAt (wU yX3_agreeAt cX3_agreeAt 4 (some .int)) (rmL 3 0 0) [.ref (md 0), .int ra, .int rb] (MW k md th (nI n) Am Wk Mo v cp bt ml cn Y) (fun r w' => ∃ Wk' Mo' : Nat → Int32, w' = (MW k md (e2 n ra rb) (nI n) Am Wk' Mo' v cp bt ml cn Y) ∧ ((e2 n ra rb) = 0 → r = fi (fun j => (mrow Am (ix ra)) j - (mrow Am (ix rb)) j))) := by
  refine openI (own := RX3) rfl (by decide) (Nat.le_of_ble_eq_true rfl) rfl ?_
  intro p e s m args below meth c A C hrt9 hnm
  obtain ⟨Q, hQ⟩ : ∃ Q, Q = (MQ below (va_Qi (fun r w' => ∃ Wk' Mo' : Nat → Int32, w' = (MW k md (e2 n ra rb) (nI n) Am Wk' Mo' v cp bt ml cn Y) ∧ ((e2 n ra rb) = 0 → r = fi (fun j => (mrow Am (ix ra)) j - (mrow Am (ix rb)) j))) (cBA D A) A) args s 0 0 A) := ⟨_, rfl⟩
  show WP p l e (rmL 3 0 0) s m args below meth c D A 4 (MW k md th (nI n) Am Wk Mo v cp bt ml cn Y) [(0, .ref (md 0)), (1, .int ra), (2, .int rb)] 0 0 (MQ below (va_Qi (fun r w' => ∃ Wk' Mo' : Nat → Int32, w' = (MW k md (e2 n ra rb) (nI n) Am Wk' Mo' v cp bt ml cn Y) ∧ ((e2 n ra rb) = 0 → r = fi (fun j => (mrow Am (ix ra)) j - (mrow Am (ix rb)) j))) (cBA D A) A) args s 0 0 A) 0 []
  rw [← hQ]
  refine p_aload_n C rfl 0 rfl dX3_agreeAt_0 ?_
  refine p_iconst (v := 0) C (by decide) dX3_agreeAt_1 ?_
  refine p_put (w9 := (MW k md 0 (nI n) Am Wk Mo v cp bt ml cn Y)) (v := .int 0) (T := TX3) C tyX3 tyX3_ok nmX3 0 rfl rfl 0 (by decide) inX3 qfl_X3_26 (fun _ h9 => h9) rfl rfl rfl (Nat.le_of_ble_eq_true rfl) rfl dX3_agreeAt_2 ?_
  refine p_aload_n C rfl 0 rfl dX3_agreeAt_5 ?_
  refine p_iload_n C rfl 1 rfl dX3_agreeAt_6 ?_
  refine c_Vi (As := [.int ra]) (rest := []) C (m_X3_isRecipe l D k (x := ra)) 0 rfl rfl rfl qml_X3_73 qim_X3_isRecipe qse_X3_X3_isRecipe qin_X3 qco_X3_isRecipe nd_X3_isRecipe ⟨Nat.le_of_ble_eq_true rfl, Nat.le_of_ble_eq_true rfl⟩ (Nat.le_of_ble_eq_true rfl) ⟨Nat.le_of_ble_eq_true rfl, Nat.le_of_ble_eq_true rfl⟩ rfl dX3_agreeAt_7 (fun r9 w9 h9 => ?_)
  obtain ⟨e9, rfl⟩ := h9
  refine p_int e9 ?_
  refine p_if_eq C 21 (by decide) dX3_agreeAt_10 (fun c_10 => ?_) (fun c_10 => ?_)
  · have hra := bI_eq c_10
    refine p_aload_n C rfl 0 rfl dX3_agreeAt_21 ?_
    refine p_iconst (v := 1) C (by decide) dX3_agreeAt_22 ?_
    refine c_Vi (As := [.int 1]) (rest := []) C (m_X3_no l D k (x := 1)) 0 rfl rfl rfl qml_X3_66 qim_X3_no qse_X3_X3_no qin_X3 qco_X3_no nd_X3_no ⟨Nat.le_of_ble_eq_true rfl, Nat.le_of_ble_eq_true rfl⟩ (Nat.le_of_ble_eq_true rfl) ⟨Nat.le_of_ble_eq_true rfl, Nat.le_of_ble_eq_true rfl⟩ rfl dX3_agreeAt_23 (fun r9 w9 h9 => ?_)
    obtain ⟨e9, rfl⟩ := h9
    refine p_int e9 ?_
    rw [hQ]
    exact r_i C hrt9 (⟨_, _, by rw [show e2 n ra rb = 1 from by unfold e2; rw [hra]; rfl], fun q => absurd q (by rw [show e2 n ra rb = 1 from by unfold e2; rw [hra]; rfl]; exact one_n0)⟩) (by decide) (by decide) dX3_agreeAt_26
  · obtain ⟨i, hi, rfl⟩ := isR_spec hn (bI_ne c_10)
    have vi := isR_of hn hi
    refine p_aload_n C rfl 0 rfl dX3_agreeAt_13 ?_
    refine p_iload_n C rfl 2 rfl dX3_agreeAt_14 ?_
    refine c_Vi (As := [.int rb]) (rest := []) C (m_X3_isRecipe l D k (x := rb)) 0 rfl rfl rfl qml_X3_73 qim_X3_isRecipe qse_X3_X3_isRecipe qin_X3 qco_X3_isRecipe nd_X3_isRecipe ⟨Nat.le_of_ble_eq_true rfl, Nat.le_of_ble_eq_true rfl⟩ (Nat.le_of_ble_eq_true rfl) ⟨Nat.le_of_ble_eq_true rfl, Nat.le_of_ble_eq_true rfl⟩ rfl dX3_agreeAt_15 (fun r9 w9 h9 => ?_)
    obtain ⟨e9, rfl⟩ := h9
    refine p_int e9 ?_
    refine p_if_ne C 27 (by decide) dX3_agreeAt_18 (fun c_18 => ?_) (fun c_18 => ?_)
    · obtain ⟨i2, hi2, rfl⟩ := isR_spec hn (bI_ne c_18)
      have vi2 := isR_of hn hi2
      refine p_iconst (v := 0) C (by decide) dX3_agreeAt_27 ?_
      refine p_istore_n (lv9 := [(3, .int 0), (0, .ref (md 0)), (1, .int (nI i)), (2, .int (nI i2))]) C rfl (by decide) rfl dX3_agreeAt_28 ?_
      refine p_w (w9 := (MW k md 0 (nI n) Am (fl (fun j => mrow Am i j - mrow Am i2 j) Wk 0) Mo v cp bt ml cn Y)) (by rw [fl_0]) ?_
      refine p_lv (lv9 := [(0, .ref (md 0)), (1, .int (nI i)), (2, .int (nI i2)), (3, .int 0)]) [1, 2, 3, 0] rfl ?_
      have lp29 : ∀ (n29 : Nat) (j : Nat), (hj : j + n29 = 9) → WP p l e (rmL 3 0 0) s m args below meth c D A 4 (MW k md 0 (nI n) Am (fl (fun j => mrow Am i j - mrow Am i2 j) Wk j) Mo v cp bt ml cn Y) [(0, .ref (md 0)), (1, .int (nI i)), (2, .int (nI i2)), (3, .int (nI j))] 0 0 Q 29 [] := by
        intro n29
        induction n29 with
        | zero =>
          intro j hj
          obtain rfl : j = 9 := by omega
          refine p_iload_n C rfl 3 rfl dX3_agreeAt_29 ?_
          refine p_bipush (v := 9) C (by decide) dX3_agreeAt_30 ?_
          refine p_icmp_ge C 60 (by decide) dX3_agreeAt_32 (fun c_32 => ?_) (fun c_32 => absurd c_32 (by decide))
          refine p_arr (n := 9) (w9 := (MW k md 0 (nI n) Am (fun j => mrow Am i j - mrow Am i2 j) Mo v cp bt ml cn Y)) 2 rfl ((fun j => mrow Am i j - mrow Am i2 j)) (fun j hj => fl_in hj) rfl ?_
          refine p_aload_n C rfl 0 rfl dX3_agreeAt_60 ?_
          refine c_Vi (As := []) (rest := []) C (m_X3_first l D k ) 0 rfl rfl rfl qml_X3_125 qim_X3_first qse_X3_X3_first qin_X3 qco_X3_first nd_X3_first ⟨Nat.le_of_ble_eq_true rfl, Nat.le_of_ble_eq_true rfl⟩ (Nat.le_of_ble_eq_true rfl) ⟨Nat.le_of_ble_eq_true rfl, Nat.le_of_ble_eq_true rfl⟩ rfl dX3_agreeAt_61 (fun r9 w9 h9 => ?_)
          obtain ⟨e9, rfl⟩ := h9
          refine p_int e9 ?_
          rw [hQ]
          exact r_i C hrt9 (⟨_, _, by rw [show e2 n (nI i) (nI i2) = 0 from by unfold e2; rw [vi, vi2]; rfl], fun _ => by rw [ix_nI (show i < 2 ^ 31 by omega), ix_nI (show i2 < 2 ^ 31 by omega)]⟩) (by decide) (by decide) dX3_agreeAt_64
        | succ n29 ih29 =>
          intro j hj
          have hj2 : j < 9 := by omega
          refine p_iload_n C rfl 3 rfl dX3_agreeAt_29 ?_
          refine p_bipush (v := 9) C (by decide) dX3_agreeAt_30 ?_
          refine p_icmp_ge C 60 (by decide) dX3_agreeAt_32 (fun c_32 => absurd c_32 (nI_ge (b := 9) hj2 (by decide))) (fun c_32 => ?_)
          refine p_aload_n C rfl 0 rfl dX3_agreeAt_35 ?_
          refine p_get (v := .ref (md 2)) (T := TX3) C 0 rfl rfl 3 (by decide) inX3 qfl_X3_13 (fun _ h9 => h9) rfl dX3_agreeAt_36 ?_
          refine p_iload_n C rfl 3 rfl dX3_agreeAt_39 ?_
          refine p_aload_n C rfl 0 rfl dX3_agreeAt_40 ?_
          refine p_iload_n C rfl 1 rfl dX3_agreeAt_41 ?_
          refine p_iload_n C rfl 3 rfl dX3_agreeAt_42 ?_
          refine c_Vi (As := [.int (nI i), .int (nI j)]) (rest := [.int (nI j), .ref (md 2)]) C (m_X3_at l D k (i := i) (j := j) (by omega) (by omega)) 0 rfl rfl rfl qml_X3_47 qim_X3_at qse_X3_X3_at qin_X3 qco_X3_at nd_X3_at ⟨Nat.le_of_ble_eq_true rfl, Nat.le_of_ble_eq_true rfl⟩ (Nat.le_of_ble_eq_true rfl) ⟨Nat.le_of_ble_eq_true rfl, Nat.le_of_ble_eq_true rfl⟩ rfl dX3_agreeAt_43 (fun r9 w9 h9 => ?_)
          obtain ⟨e9, rfl⟩ := h9
          refine p_int e9 ?_
          refine p_aload_n C rfl 0 rfl dX3_agreeAt_46 ?_
          refine p_iload_n C rfl 2 rfl dX3_agreeAt_47 ?_
          refine p_iload_n C rfl 3 rfl dX3_agreeAt_48 ?_
          refine c_Vi (As := [.int (nI i2), .int (nI j)]) (rest := [.int (mrow Am i j), .int (nI j), .ref (md 2)]) C (m_X3_at l D k (i := i2) (j := j) (by omega) (by omega)) 0 rfl rfl rfl qml_X3_47 qim_X3_at qse_X3_X3_at qin_X3 qco_X3_at nd_X3_at ⟨Nat.le_of_ble_eq_true rfl, Nat.le_of_ble_eq_true rfl⟩ (Nat.le_of_ble_eq_true rfl) ⟨Nat.le_of_ble_eq_true rfl, Nat.le_of_ble_eq_true rfl⟩ rfl dX3_agreeAt_49 (fun r9 w9 h9 => ?_)
          obtain ⟨e9, rfl⟩ := h9
          refine p_int e9 ?_
          refine p_isub C dX3_agreeAt_52 ?_
          refine p_iast (w9 := (MW k md 0 (nI n) Am (fl (fun j => mrow Am i j - mrow Am i2 j) Wk (j + 1)) Mo v cp bt ml cn Y)) C 2 rfl (vp_in_nI (n := j) (N := 9) (by omega) (by omega)) (by rw [show ((nI j)).toNatClampNeg = j from nI_clamp (by omega), show upd (fl (fun j => mrow Am i j - mrow Am i2 j) Wk j) j ((mrow Am i j) - (mrow Am i2 j)) = (fl (fun j => mrow Am i j - mrow Am i2 j) Wk (j + 1)) from fl_s rfl]; exact rfl) dX3_agreeAt_53 ?_
          refine p_iinc (lv9 := [(3, .int (nI (j + 1))), (0, .ref (md 0)), (1, .int (nI i)), (2, .int (nI i2))]) (v := (nI (j + 1))) C (j := 3) rfl (i_up j) (by decide) rfl dX3_agreeAt_54 ?_
          refine p_goto C 29 (by decide) dX3_agreeAt_57 ?_
          refine p_lv (lv9 := [(0, .ref (md 0)), (1, .int (nI i)), (2, .int (nI i2)), (3, .int (nI (j + 1)))]) [1, 2, 3, 0] rfl ?_
          exact ih29 (j + 1) (by omega)
      exact lp29 9 0 rfl
    · have hrb := bI_eq c_18
      refine p_aload_n C rfl 0 rfl dX3_agreeAt_21 ?_
      refine p_iconst (v := 1) C (by decide) dX3_agreeAt_22 ?_
      refine c_Vi (As := [.int 1]) (rest := []) C (m_X3_no l D k (x := 1)) 0 rfl rfl rfl qml_X3_66 qim_X3_no qse_X3_X3_no qin_X3 qco_X3_no nd_X3_no ⟨Nat.le_of_ble_eq_true rfl, Nat.le_of_ble_eq_true rfl⟩ (Nat.le_of_ble_eq_true rfl) ⟨Nat.le_of_ble_eq_true rfl, Nat.le_of_ble_eq_true rfl⟩ rfl dX3_agreeAt_23 (fun r9 w9 h9 => ?_)
      obtain ⟨e9, rfl⟩ := h9
      refine p_int e9 ?_
      rw [hQ]
      exact r_i C hrt9 (⟨_, _, by rw [show e2 n (nI i) rb = 1 from by unfold e2; rw [vi, hrb]; rfl], fun q => absurd q (by rw [show e2 n (nI i) rb = 1 from by unfold e2; rw [vi, hrb]; rfl]; exact one_n0)⟩) (by decide) (by decide) dX3_agreeAt_26
theorem isF_50 {v : Int32} (h : isF v 1 50 = true) : ∃ j, j < 51 ∧ v = nI j := by
  obtain ⟨h1, h2⟩ := of_decide_eq_true h
  rcases pk_ix v (show 51 < 2 ^ 31 by omega) with q | q | ⟨j, h3, h4⟩
  · exact absurd (Int32.le_trans h1 (Int32.le_of_lt q)) (by decide)
  · exact absurd (Int32.le_trans q h2) (by decide)
  · exact ⟨j, h3, h4⟩
set_option maxHeartbeats 4000000 in
set_option maxRecDepth 100000 in
/-- X3_hungerUpTo -/
theorem m_X3_hungerUpTo (l : Launch) (D : va_G) (k : Nat → ClassId) {md : Nat → Nat} {th : Int32} {n : Nat} {Am Wk Mo : Nat → Int32} {v cp : Nat} {bt : Nat → Int32} {ml cn : Int32} {Y : va_W} (hn : n ≤ 16) {rc x : Int32} : CtL l D k yX3_hungerUpTo (wU yX3_hungerUpTo cX3_hungerUpTo 6 (some .long)) (rmL 3 0 0) [.ref (md 0), .int rc, .int x] (MW k md th (nI n) Am Wk Mo v cp bt ml cn Y) (fun r w' => ∃ Wk' Mo' : Nat → Int32, w' = (MW k md (eUp n rc x) (nI n) Am Wk' Mo' v cp bt ml cn Y) ∧ ((eUp n rc x) = 0 → r = huN (mrow Am (ix rc)) (ix x))) := by
  refine openL (own := RX3) rfl (by decide) (Nat.le_of_ble_eq_true rfl) rfl ?_
  intro p e s m args below meth c A C hrt9 hnm
  obtain ⟨Q, hQ⟩ : ∃ Q, Q = (MQ below (va_Ql (fun r w' => ∃ Wk' Mo' : Nat → Int32, w' = (MW k md (eUp n rc x) (nI n) Am Wk' Mo' v cp bt ml cn Y) ∧ ((eUp n rc x) = 0 → r = huN (mrow Am (ix rc)) (ix x))) (cBA D A) A) args s 0 0 A) := ⟨_, rfl⟩
  show WP p l e (rmL 3 0 0) s m args below meth c D A 6 (MW k md th (nI n) Am Wk Mo v cp bt ml cn Y) [(0, .ref (md 0)), (1, .int rc), (2, .int x)] 0 0 (MQ below (va_Ql (fun r w' => ∃ Wk' Mo' : Nat → Int32, w' = (MW k md (eUp n rc x) (nI n) Am Wk' Mo' v cp bt ml cn Y) ∧ ((eUp n rc x) = 0 → r = huN (mrow Am (ix rc)) (ix x))) (cBA D A) A) args s 0 0 A) 0 []
  rw [← hQ]
  refine p_aload_n C rfl 0 rfl dX3_hungerUpTo_0 ?_
  refine p_iconst (v := 0) C (by decide) dX3_hungerUpTo_1 ?_
  refine p_put (w9 := (MW k md 0 (nI n) Am Wk Mo v cp bt ml cn Y)) (v := .int 0) (T := TX3) C tyX3 tyX3_ok nmX3 0 rfl rfl 0 (by decide) inX3 qfl_X3_26 (fun _ h9 => h9) rfl rfl rfl (Nat.le_of_ble_eq_true rfl) rfl dX3_hungerUpTo_2 ?_
  refine p_aload_n C rfl 0 rfl dX3_hungerUpTo_5 ?_
  refine p_iload_n C rfl 1 rfl dX3_hungerUpTo_6 ?_
  refine c_Vi (As := [.int rc]) (rest := []) C (m_X3_isRecipe l D k (x := rc)) 0 rfl rfl rfl qml_X3_73 qim_X3_isRecipe qse_X3_X3_isRecipe qin_X3 qco_X3_isRecipe nd_X3_isRecipe ⟨Nat.le_of_ble_eq_true rfl, Nat.le_of_ble_eq_true rfl⟩ (Nat.le_of_ble_eq_true rfl) ⟨Nat.le_of_ble_eq_true rfl, Nat.le_of_ble_eq_true rfl⟩ rfl dX3_hungerUpTo_7 (fun r9 w9 h9 => ?_)
  obtain ⟨e9, rfl⟩ := h9
  refine p_int e9 ?_
  refine p_if_ne C 20 (by decide) dX3_hungerUpTo_10 (fun c_10 => ?_) (fun c_10 => ?_)
  · obtain ⟨i, hi, rfl⟩ := isR_spec hn (bI_ne c_10)
    have vi := isR_of hn hi
    refine p_iload_n C rfl 2 rfl dX3_hungerUpTo_20 ?_
    refine p_iconst (v := 1) C (by decide) dX3_hungerUpTo_21 ?_
    refine p_bipush (v := 50) C (by decide) dX3_hungerUpTo_22 ?_
    refine c_Si (As := [.int x, .int 1, .int 50]) (rest := []) C (m_X3_isFrom l D k (x := x) (lo := 1) (hi := 50)) qml_X3_33 qst_X3_isFrom qin_X3 qco_X3_isFrom nd_X3_isFrom ⟨Nat.le_of_ble_eq_true rfl, Nat.le_of_ble_eq_true rfl⟩ (Nat.le_of_ble_eq_true rfl) ⟨Nat.le_of_ble_eq_true rfl, Nat.le_of_ble_eq_true rfl⟩ rfl dX3_hungerUpTo_24 (fun r9 w9 h9 => ?_)
    obtain ⟨e9, rfl⟩ := h9
    refine p_int e9 ?_
    refine p_if_ne C 37 (by decide) dX3_hungerUpTo_27 (fun c_27 => ?_) (fun c_27 => ?_)
    · obtain ⟨g9, hg9, rfl⟩ := isF_50 (bI_ne c_27)
      have vg : isF (nI g9) 1 50 = true := bI_ne c_27
      refine p_aload_n C rfl 0 rfl dX3_hungerUpTo_37 ?_
      refine p_iload_n C rfl 1 rfl dX3_hungerUpTo_38 ?_
      refine p_aload_n C rfl 0 rfl dX3_hungerUpTo_39 ?_
      refine p_get (v := .ref (md 2)) (T := TX3) C 0 rfl rfl 3 (by decide) inX3 qfl_X3_13 (fun _ h9 => h9) rfl dX3_hungerUpTo_40 ?_
      refine c_Vv (As := [.int (nI i), .ref (md 2)]) (rest := []) C (m_X3_take l D k (i := i) (by omega)) 0 rfl rfl rfl qml_X3_55 qim_X3_take qse_X3_X3_take qin_X3 qco_X3_take nd_X3_take ⟨Nat.le_of_ble_eq_true rfl, Nat.le_of_ble_eq_true rfl⟩ (Nat.le_of_ble_eq_true rfl) ⟨Nat.le_of_ble_eq_true rfl, Nat.le_of_ble_eq_true rfl⟩ rfl dX3_hungerUpTo_43 (fun w9 h9 => ?_)
      obtain rfl := h9
      refine p_lconst (v := 0) C (by decide) dX3_hungerUpTo_46 ?_
      refine p_lstore_n (lv9 := [(3, .long 0), (0, .ref (md 0)), (1, .int (nI i)), (2, .int (nI g9))]) C rfl (by decide) rfl dX3_hungerUpTo_47 ?_
      refine p_iconst (v := (nI 1)) C (by decide) dX3_hungerUpTo_48 ?_
      refine p_istore (lv9 := [(5, .int (nI 1)), (3, .long 0), (0, .ref (md 0)), (1, .int (nI i)), (2, .int (nI g9))]) C (by decide) rfl dX3_hungerUpTo_49 ?_
      refine p_lv (lv9 := [(0, .ref (md 0)), (1, .int (nI i)), (2, .int (nI g9)), (3, .long 0), (5, .int (nI 1))]) [2, 3, 4, 1, 0] rfl ?_
      have lp51 : ∀ (n51 : Nat) (j : Nat), (hj : j + n51 = g9) → WP p l e (rmL 3 0 0) s m args below meth c D A 6 (MW k md 0 (nI n) Am (mrow Am i) Mo v cp bt ml cn Y) [(0, .ref (md 0)), (1, .int (nI i)), (2, .int (nI g9)), (3, .long (huN (mrow Am i) j)), (5, .int (nI (j + 1)))] 0 0 Q 51 [] := by
        intro n51
        induction n51 with
        | zero =>
          intro j hj
          obtain rfl : j = g9 := by omega
          refine p_iload C 4 rfl dX3_hungerUpTo_51 ?_
          refine p_iload_n C rfl 2 rfl dX3_hungerUpTo_53 ?_
          refine p_icmp_gt C 76 (by decide) dX3_hungerUpTo_54 (fun c_54 => ?_) (fun c_54 => absurd (nI_lt (Nat.lt_succ_self _) (by omega)) c_54)
          refine p_lload_n C rfl 3 rfl dX3_hungerUpTo_76 ?_
          rw [hQ]
          exact r_l C hrt9 (⟨_, _, by rw [show eUp n (nI i) (nI j) = 0 from by unfold eUp; rw [vi, vg]; rfl], fun _ => by rw [ix_nI (by omega), ix_nI (by omega)]⟩) (by decide) (by decide) dX3_hungerUpTo_77
        | succ n51 ih51 =>
          intro j hj
          have hj2 : j < g9 := by omega
          refine p_iload C 4 rfl dX3_hungerUpTo_51 ?_
          refine p_iload_n C rfl 2 rfl dX3_hungerUpTo_53 ?_
          refine p_icmp_gt C 76 (by decide) dX3_hungerUpTo_54 (fun c_54 => absurd c_54 (nI_nlt (show j + 1 ≤ g9 by omega) (by omega))) (fun c_54 => ?_)
          refine p_lload_n C rfl 3 rfl dX3_hungerUpTo_57 ?_
          refine p_aload_n C rfl 0 rfl dX3_hungerUpTo_58 ?_
          refine p_get (v := .ref (md 2)) (T := TX3) C 0 rfl rfl 3 (by decide) inX3 qfl_X3_13 (fun _ h9 => h9) rfl dX3_hungerUpTo_59 ?_
          refine p_iload C 4 rfl dX3_hungerUpTo_62 ?_
          refine c_Si (As := [.ref (md 2), .int (nI (j + 1))]) (rest := [.long (huN (mrow Am i) j)]) C (m_X3_eat l D k (u := 2) (x := (nI (j + 1))) rfl) qml_X3_58 qst_X3_eat qin_X3 qco_X3_eat nd_X3_eat ⟨Nat.le_of_ble_eq_true rfl, Nat.le_of_ble_eq_true rfl⟩ (Nat.le_of_ble_eq_true rfl) ⟨Nat.le_of_ble_eq_true rfl, Nat.le_of_ble_eq_true rfl⟩ rfl dX3_hungerUpTo_64 (fun r9 w9 h9 => ?_)
          obtain ⟨rfl, rfl⟩ := h9
          refine p_i2l C dX3_hungerUpTo_67 ?_
          refine p_ladd C dX3_hungerUpTo_68 ?_
          refine p_st (st9 := [.long (huN (mrow Am i) (j + 1))]) (congrArg (fun z9 => Value.long z9 :: []) (rfl : huN (mrow Am i) j + (hg (mrow Am i) (nI (j + 1))).toInt64 = huN (mrow Am i) (j + 1))) ?_
          refine p_lstore_n (lv9 := [(3, .long (huN (mrow Am i) (j + 1))), (0, .ref (md 0)), (1, .int (nI i)), (2, .int (nI g9)), (5, .int (nI (j + 1)))]) C rfl (by decide) rfl dX3_hungerUpTo_69 ?_
          refine p_iinc (lv9 := [(5, .int (nI (j + 1 + 1))), (3, .long (huN (mrow Am i) (j + 1))), (0, .ref (md 0)), (1, .int (nI i)), (2, .int (nI g9))]) (v := (nI (j + 1 + 1))) C (j := 4) rfl (i_up (j + 1)) (by decide) rfl dX3_hungerUpTo_70 ?_
          refine p_goto C 51 (by decide) dX3_hungerUpTo_73 ?_
          refine p_lv (lv9 := [(0, .ref (md 0)), (1, .int (nI i)), (2, .int (nI g9)), (3, .long (huN (mrow Am i) (j + 1))), (5, .int (nI (j + 1 + 1)))]) [2, 3, 4, 1, 0] rfl ?_
          exact ih51 (j + 1) (by omega)
      exact lp51 g9 0 (by omega)
    · have hg := bI_eq c_27
      refine p_aload_n C rfl 0 rfl dX3_hungerUpTo_30 ?_
      refine p_iconst (v := 2) C (by decide) dX3_hungerUpTo_31 ?_
      refine c_Vi (As := [.int 2]) (rest := []) C (m_X3_no l D k (x := 2)) 0 rfl rfl rfl qml_X3_66 qim_X3_no qse_X3_X3_no qin_X3 qco_X3_no nd_X3_no ⟨Nat.le_of_ble_eq_true rfl, Nat.le_of_ble_eq_true rfl⟩ (Nat.le_of_ble_eq_true rfl) ⟨Nat.le_of_ble_eq_true rfl, Nat.le_of_ble_eq_true rfl⟩ rfl dX3_hungerUpTo_32 (fun r9 w9 h9 => ?_)
      obtain ⟨e9, rfl⟩ := h9
      refine p_int e9 ?_
      refine p_i2l C dX3_hungerUpTo_35 ?_
      rw [hQ]
      exact r_l C hrt9 (⟨_, _, by rw [show eUp n (nI i) x = 2 from by unfold eUp; rw [vi, hg]; rfl], fun q => absurd q (by rw [show eUp n (nI i) x = 2 from by unfold eUp; rw [vi, hg]; rfl]; exact two_n0)⟩) (by decide) (by decide) dX3_hungerUpTo_36
  · have hr := bI_eq c_10
    refine p_aload_n C rfl 0 rfl dX3_hungerUpTo_13 ?_
    refine p_iconst (v := 1) C (by decide) dX3_hungerUpTo_14 ?_
    refine c_Vi (As := [.int 1]) (rest := []) C (m_X3_no l D k (x := 1)) 0 rfl rfl rfl qml_X3_66 qim_X3_no qse_X3_X3_no qin_X3 qco_X3_no nd_X3_no ⟨Nat.le_of_ble_eq_true rfl, Nat.le_of_ble_eq_true rfl⟩ (Nat.le_of_ble_eq_true rfl) ⟨Nat.le_of_ble_eq_true rfl, Nat.le_of_ble_eq_true rfl⟩ rfl dX3_hungerUpTo_15 (fun r9 w9 h9 => ?_)
    obtain ⟨e9, rfl⟩ := h9
    refine p_int e9 ?_
    refine p_i2l C dX3_hungerUpTo_18 ?_
    rw [hQ]
    exact r_l C hrt9 (⟨_, _, by rw [show eUp n rc x = 1 from by unfold eUp; rw [hr]; rfl], fun q => absurd q (by rw [show eUp n rc x = 1 from by unfold eUp; rw [hr]; rfl]; exact one_n0)⟩) (by decide) (by decide) dX3_hungerUpTo_19
/-- whether b is plain and divides a -/
def ipo (f g : Nat → Int32) : Bool := pln g && decide (dg (sp f g).2 = 0)
theorem ipo_t {f g : Nat → Int32} (h : pln g = true) (c : ¬ 0 ≤ dI (dg (sp f g).2)) : (1 : Int32) = bI (ipo f g) := by
  have h0 : dg (sp f g).2 = 0 := dI_neg (Int32.not_le.mp c) (dg_le _)
  unfold ipo
  rw [h, decide_eq_true h0]; rfl
theorem ipo_f {f g : Nat → Int32} (c : 0 ≤ dI (dg (sp f g).2)) : (0 : Int32) = bI (ipo f g) := by
  have h0 : ¬ dg (sp f g).2 = 0 := fun q => by rw [q] at c; exact absurd c (by decide)
  unfold ipo
  rw [decide_eq_false h0, Bool.and_false]; rfl
theorem ipo_n {f g : Nat → Int32} (h : pln g = false) : (0 : Int32) = bI (ipo f g) := by
  unfold ipo
  rw [h]; rfl
set_option maxHeartbeats 4000000 in
set_option maxRecDepth 100000 in
/-- X3_isPartOf -/
theorem m_X3_isPartOf (l : Launch) (D : va_G) (k : Nat → ClassId) {md : Nat → Nat} {th : Int32} {n : Nat} {Am Wk Mo : Nat → Int32} {v cp : Nat} {bt : Nat → Int32} {ml cn : Int32} {Y : va_W} (hn : n ≤ 16) {ra rb : Int32} : CtI l D k yX3_isPartOf (wU yX3_isPartOf cX3_isPartOf 3 (some .boolean)) (rmL 4 0 0) [.ref (md 0), .int ra, .int rb] (MW k md th (nI n) Am Wk Mo v cp bt ml cn Y) (fun r w' => ∃ Wk' Mo' : Nat → Int32, w' = (MW k md (e2 n ra rb) (nI n) Am Wk' Mo' v cp bt ml cn Y) ∧ ((e2 n ra rb) = 0 → r = bI (ipo (mrow Am (ix ra)) (mrow Am (ix rb))))) := by
  refine openI (own := RX3) rfl (by decide) (Nat.le_of_ble_eq_true rfl) rfl ?_
  intro p e s m args below meth c A C hrt9 hnm
  obtain ⟨Q, hQ⟩ : ∃ Q, Q = (MQ below (va_Qi (fun r w' => ∃ Wk' Mo' : Nat → Int32, w' = (MW k md (e2 n ra rb) (nI n) Am Wk' Mo' v cp bt ml cn Y) ∧ ((e2 n ra rb) = 0 → r = bI (ipo (mrow Am (ix ra)) (mrow Am (ix rb))))) (cBA D A) A) args s 0 0 A) := ⟨_, rfl⟩
  show WP p l e (rmL 4 0 0) s m args below meth c D A 3 (MW k md th (nI n) Am Wk Mo v cp bt ml cn Y) [(0, .ref (md 0)), (1, .int ra), (2, .int rb)] 0 0 (MQ below (va_Qi (fun r w' => ∃ Wk' Mo' : Nat → Int32, w' = (MW k md (e2 n ra rb) (nI n) Am Wk' Mo' v cp bt ml cn Y) ∧ ((e2 n ra rb) = 0 → r = bI (ipo (mrow Am (ix ra)) (mrow Am (ix rb))))) (cBA D A) A) args s 0 0 A) 0 []
  rw [← hQ]
  refine p_aload_n C rfl 0 rfl dX3_isPartOf_0 ?_
  refine p_iconst (v := 0) C (by decide) dX3_isPartOf_1 ?_
  refine p_put (w9 := (MW k md 0 (nI n) Am Wk Mo v cp bt ml cn Y)) (v := .int 0) (T := TX3) C tyX3 tyX3_ok nmX3 0 rfl rfl 0 (by decide) inX3 qfl_X3_26 (fun _ h9 => h9) rfl rfl rfl (Nat.le_of_ble_eq_true rfl) rfl dX3_isPartOf_2 ?_
  refine p_aload_n C rfl 0 rfl dX3_isPartOf_5 ?_
  refine p_iload_n C rfl 1 rfl dX3_isPartOf_6 ?_
  refine c_Vi (As := [.int ra]) (rest := []) C (m_X3_isRecipe l D k (x := ra)) 0 rfl rfl rfl qml_X3_73 qim_X3_isRecipe qse_X3_X3_isRecipe qin_X3 qco_X3_isRecipe nd_X3_isRecipe ⟨Nat.le_of_ble_eq_true rfl, Nat.le_of_ble_eq_true rfl⟩ (Nat.le_of_ble_eq_true rfl) ⟨Nat.le_of_ble_eq_true rfl, Nat.le_of_ble_eq_true rfl⟩ rfl dX3_isPartOf_7 (fun r9 w9 h9 => ?_)
  obtain ⟨e9, rfl⟩ := h9
  refine p_int e9 ?_
  refine p_if_eq C 21 (by decide) dX3_isPartOf_10 (fun c_10 => ?_) (fun c_10 => ?_)
  · have hra := bI_eq c_10
    refine p_aload_n C rfl 0 rfl dX3_isPartOf_21 ?_
    refine p_iconst (v := 1) C (by decide) dX3_isPartOf_22 ?_
    refine c_Vi (As := [.int 1]) (rest := []) C (m_X3_isNot l D k (x := 1)) 0 rfl rfl rfl qml_X3_98 qim_X3_isNot qse_X3_X3_isNot qin_X3 qco_X3_isNot nd_X3_isNot ⟨Nat.le_of_ble_eq_true rfl, Nat.le_of_ble_eq_true rfl⟩ (Nat.le_of_ble_eq_true rfl) ⟨Nat.le_of_ble_eq_true rfl, Nat.le_of_ble_eq_true rfl⟩ rfl dX3_isPartOf_23 (fun r9 w9 h9 => ?_)
    obtain ⟨e9, rfl⟩ := h9
    refine p_int e9 ?_
    rw [hQ]
    exact r_z C hrt9 rfl (⟨_, _, by rw [show e2 n ra rb = 1 from by unfold e2; rw [hra]; rfl], fun q => absurd q (by rw [show e2 n ra rb = 1 from by unfold e2; rw [hra]; rfl]; exact one_n0)⟩) (by decide) (by decide) dX3_isPartOf_26
  · obtain ⟨i, hi, rfl⟩ := isR_spec hn (bI_ne c_10)
    have vi := isR_of hn hi
    refine p_aload_n C rfl 0 rfl dX3_isPartOf_13 ?_
    refine p_iload_n C rfl 2 rfl dX3_isPartOf_14 ?_
    refine c_Vi (As := [.int rb]) (rest := []) C (m_X3_isRecipe l D k (x := rb)) 0 rfl rfl rfl qml_X3_73 qim_X3_isRecipe qse_X3_X3_isRecipe qin_X3 qco_X3_isRecipe nd_X3_isRecipe ⟨Nat.le_of_ble_eq_true rfl, Nat.le_of_ble_eq_true rfl⟩ (Nat.le_of_ble_eq_true rfl) ⟨Nat.le_of_ble_eq_true rfl, Nat.le_of_ble_eq_true rfl⟩ rfl dX3_isPartOf_15 (fun r9 w9 h9 => ?_)
    obtain ⟨e9, rfl⟩ := h9
    refine p_int e9 ?_
    refine p_if_ne C 27 (by decide) dX3_isPartOf_18 (fun c_18 => ?_) (fun c_18 => ?_)
    · obtain ⟨i2, hi2, rfl⟩ := isR_spec hn (bI_ne c_18)
      have vi2 := isR_of hn hi2
      refine p_aload_n C rfl 0 rfl dX3_isPartOf_27 ?_
      refine p_iload_n C rfl 2 rfl dX3_isPartOf_28 ?_
      refine c_Vi (As := [.int (nI i2)]) (rest := []) C (m_X3_plain l D k (i := i2) (by omega)) 0 rfl rfl rfl qml_X3_88 qim_X3_plain qse_X3_X3_plain qin_X3 qco_X3_plain nd_X3_plain ⟨Nat.le_of_ble_eq_true rfl, Nat.le_of_ble_eq_true rfl⟩ (Nat.le_of_ble_eq_true rfl) ⟨Nat.le_of_ble_eq_true rfl, Nat.le_of_ble_eq_true rfl⟩ rfl dX3_isPartOf_29 (fun r9 w9 h9 => ?_)
      obtain ⟨e9, rfl⟩ := h9
      refine p_int e9 ?_
      refine p_if_ne C 37 (by decide) dX3_isPartOf_32 (fun c_32 => ?_) (fun c_32 => ?_)
      · have vpl := bI_ne c_32
        refine p_aload_n C rfl 0 rfl dX3_isPartOf_37 ?_
        refine p_iload_n C rfl 1 rfl dX3_isPartOf_38 ?_
        refine p_aload_n C rfl 0 rfl dX3_isPartOf_39 ?_
        refine p_get (v := .ref (md 2)) (T := TX3) C 0 rfl rfl 3 (by decide) inX3 qfl_X3_13 (fun _ h9 => h9) rfl dX3_isPartOf_40 ?_
        refine c_Vv (As := [.int (nI i), .ref (md 2)]) (rest := []) C (m_X3_take l D k (i := i) (by omega)) 0 rfl rfl rfl qml_X3_55 qim_X3_take qse_X3_X3_take qin_X3 qco_X3_take nd_X3_take ⟨Nat.le_of_ble_eq_true rfl, Nat.le_of_ble_eq_true rfl⟩ (Nat.le_of_ble_eq_true rfl) ⟨Nat.le_of_ble_eq_true rfl, Nat.le_of_ble_eq_true rfl⟩ rfl dX3_isPartOf_43 (fun w9 h9 => ?_)
        obtain rfl := h9
        refine p_aload_n C rfl 0 rfl dX3_isPartOf_46 ?_
        refine p_iload_n C rfl 2 rfl dX3_isPartOf_47 ?_
        refine c_Vv (As := [.int (nI i2)]) (rest := []) C (m_X3_divideRow l D k (i := i2) (by omega) (pln_pos vpl) (mrow_n9 _ _)) 0 rfl rfl rfl qml_X3_91 qim_X3_divideRow qse_X3_X3_divideRow qin_X3 qco_X3_divideRow nd_X3_divideRow ⟨Nat.le_of_ble_eq_true rfl, Nat.le_of_ble_eq_true rfl⟩ (Nat.le_of_ble_eq_true rfl) ⟨Nat.le_of_ble_eq_true rfl, Nat.le_of_ble_eq_true rfl⟩ rfl dX3_isPartOf_48 (fun w9 h9 => ?_)
        obtain rfl := h9
        refine p_aload_n C rfl 0 rfl dX3_isPartOf_51 ?_
        refine p_get (v := .ref (md 2)) (T := TX3) C 0 rfl rfl 3 (by decide) inX3 qfl_X3_13 (fun _ h9 => h9) rfl dX3_isPartOf_52 ?_
        refine c_Si (As := [.ref (md 2)]) (rest := []) C (m_X3_degree l D k (u := 2)  rfl) qml_X3_161 qst_X3_degree qin_X3 qco_X3_degree nd_X3_degree ⟨Nat.le_of_ble_eq_true rfl, Nat.le_of_ble_eq_true rfl⟩ (Nat.le_of_ble_eq_true rfl) ⟨Nat.le_of_ble_eq_true rfl, Nat.le_of_ble_eq_true rfl⟩ rfl dX3_isPartOf_55 (fun r9 w9 h9 => ?_)
        obtain ⟨rfl, rfl⟩ := h9
        refine p_if_ge C 65 (by decide) dX3_isPartOf_58 (fun c_58 => ?_) (fun c_58 => ?_)
        · refine p_iconst (v := 0) C (by decide) dX3_isPartOf_65 ?_
          rw [hQ]
          exact r_z C hrt9 rfl (⟨_, _, by rw [show e2 n (nI i) (nI i2) = 0 from by unfold e2; rw [vi, vi2]; rfl], fun _ => by rw [ix_nI (show i < 2 ^ 31 by omega), ix_nI (show i2 < 2 ^ 31 by omega)]; exact ipo_f c_58⟩) (by decide) (by decide) dX3_isPartOf_66
        · refine p_iconst (v := 1) C (by decide) dX3_isPartOf_61 ?_
          refine p_goto C 66 (by decide) dX3_isPartOf_62 ?_
          rw [hQ]
          exact r_z C hrt9 rfl (⟨_, _, by rw [show e2 n (nI i) (nI i2) = 0 from by unfold e2; rw [vi, vi2]; rfl], fun _ => by rw [ix_nI (show i < 2 ^ 31 by omega), ix_nI (show i2 < 2 ^ 31 by omega)]; exact ipo_t vpl c_58⟩) (by decide) (by decide) dX3_isPartOf_66
      · have hpl := bI_eq c_32
        refine p_iconst (v := 0) C (by decide) dX3_isPartOf_35 ?_
        rw [hQ]
        exact r_z C hrt9 rfl (⟨_, _, by rw [show e2 n (nI i) (nI i2) = 0 from by unfold e2; rw [vi, vi2]; rfl], fun _ => by rw [ix_nI (show i < 2 ^ 31 by omega), ix_nI (show i2 < 2 ^ 31 by omega)]; exact ipo_n hpl⟩) (by decide) (by decide) dX3_isPartOf_36
    · have hrb := bI_eq c_18
      refine p_aload_n C rfl 0 rfl dX3_isPartOf_21 ?_
      refine p_iconst (v := 1) C (by decide) dX3_isPartOf_22 ?_
      refine c_Vi (As := [.int 1]) (rest := []) C (m_X3_isNot l D k (x := 1)) 0 rfl rfl rfl qml_X3_98 qim_X3_isNot qse_X3_X3_isNot qin_X3 qco_X3_isNot nd_X3_isNot ⟨Nat.le_of_ble_eq_true rfl, Nat.le_of_ble_eq_true rfl⟩ (Nat.le_of_ble_eq_true rfl) ⟨Nat.le_of_ble_eq_true rfl, Nat.le_of_ble_eq_true rfl⟩ rfl dX3_isPartOf_23 (fun r9 w9 h9 => ?_)
      obtain ⟨e9, rfl⟩ := h9
      refine p_int e9 ?_
      rw [hQ]
      exact r_z C hrt9 rfl (⟨_, _, by rw [show e2 n (nI i) rb = 1 from by unfold e2; rw [vi, hrb]; rfl], fun q => absurd q (by rw [show e2 n (nI i) rb = 1 from by unfold e2; rw [vi, hrb]; rfl]; exact one_n0)⟩) (by decide) (by decide) dX3_isPartOf_26
