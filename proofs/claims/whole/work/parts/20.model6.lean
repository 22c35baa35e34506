theorem mw_at {k : Nat → ClassId} {md : Nat → Nat} {th nn : Int32} {Am Wk Mo : Nat → Int32} {v cp : Nat} {bt : Nat → Int32} {ml cn : Int32} {Y : va_W} {x : Nat × va_E} : (MW k md th nn Am Wk Mo v cp bt ml cn (Y ++ [x]))[Y.length + 6]? = some x := by
  show (Y ++ [x])[Y.length]? = some x
  exact app_at
theorem mw_set {k : Nat → ClassId} {md : Nat → Nat} {th nn : Int32} {Am Wk Mo : Nat → Int32} {v cp : Nat} {bt : Nat → Int32} {ml cn : Int32} {Y : va_W} {x y : Nat × va_E} : (MW k md th nn Am Wk Mo v cp bt ml cn (Y ++ [x])).set (Y.length + 6) y = MW k md th nn Am Wk Mo v cp bt ml cn (Y ++ [y]) := by
  show _ :: _ :: _ :: _ :: _ :: _ :: (Y ++ [x]).set Y.length y = _
  rw [app_set]; rfl
/-! ===== the digest ===== -/
def dgS (h x : Int64) : Int64 := h * 31 + x
def nuF (f : Nat → Int32) (j : Nat) : Int32 := [nI (sc f), hg f 3, nI (idl f), fi f, nI (lea f), nI (tx f).length, nI (pp f), bs f].getD j 0
theorem nu8 {a b c d e f g h : Int32} : ∀ j, j < 8 → upd (upd (upd (upd (upd (upd (upd (upd (fun _ => 0) 0 a) 1 b) 2 c) 3 d) 4 e) 5 f) 6 g) 7 h j = [a, b, c, d, e, f, g, h].getD j 0
  | 0, _ => rfl
  | 1, _ => rfl
  | 2, _ => rfl
  | 3, _ => rfl
  | 4, _ => rfl
  | 5, _ => rfl
  | 6, _ => rfl
  | 7, _ => rfl
  | _ + 8, h => absurd h (by omega)
def dg3 (f : Nat → Int32) (h : Int64) : Int64 := dgS (dgS (dgS h (dI (dg f)).toInt64) (bI (pln f)).toInt64) (lN (ct f))
def dg8 (f : Nat → Int32) (h : Int64) : Nat → Int64
  | 0 => h
  | j + 1 => dgS (dg8 f h j) (nuF f j).toInt64
def dgA (f : Nat → Int32) (h : Int64) : Nat → Int64
  | 0 => h
  | j + 1 => dgS (dgA f h j) (f j).toInt64
def dgH (R : Nat → Nat → Int32) (h : Int64) : Nat → Int64
  | 0 => h
  | i + 1 => dgA (R i) (dg8 (R i) (dg3 (R i) (dgH R h i)) 8) 9
def dig (n : Nat) (R : Nat → Nat → Int32) : Int64 := dgH R (67549 + (nI n).toInt64) n
set_option maxHeartbeats 4000000 in
set_option maxRecDepth 100000 in
/-- digest -/
theorem m_X3_digest (l : Launch) (D : va_G) (k : Nat → ClassId) {md : Nat → Nat} {th : Int32} {n : Nat} {Am Wk Mo : Nat → Int32} {v cp cn : Nat} {bt : Nat → Int32} {ml : Int32} {Y : va_W} (hn : n ≤ 16) (hok : cpOK cp) (hft : sb_Fit bt) (hm : cn ≤ cp) : CtL l D k yX3_digest (wU yX3_digest cX3_digest 9 (some .long)) (rmL 7 64 4064) [.ref (md 0)] (MW k md th (nI n) Am Wk Mo v cp bt ml (nI cn) Y) (fun r w' => r = dig n (mrow Am) ∧ ∃ v' cp' bt' ml' cn' Wk' Mo', cpOK cp' ∧ sb_Fit bt' ∧ cn' ≤ cp' ∧ w' = (MW k md 0 (nI n) Am Wk' Mo' v' cp' bt' ml' (nI cn') Y)) := by
  refine openL (own := RX3) rfl (by decide) (Nat.le_of_ble_eq_true rfl) rfl ?_
  intro p e s m args below meth c A C hrt9 hnm
  obtain ⟨Q, hQ⟩ : ∃ Q, Q = (MQ below (va_Ql (fun r w' => r = dig n (mrow Am) ∧ ∃ v' cp' bt' ml' cn' Wk' Mo', cpOK cp' ∧ sb_Fit bt' ∧ cn' ≤ cp' ∧ w' = (MW k md 0 (nI n) Am Wk' Mo' v' cp' bt' ml' (nI cn') Y)) (cBA D A) A) args s 64 4064 A) := ⟨_, rfl⟩
  show WP p l e (rmL 7 64 4064) s m args below meth c D A 9 (MW k md th (nI n) Am Wk Mo v cp bt ml (nI cn) Y) [(0, .ref (md 0))] 0 0 (MQ below (va_Ql (fun r w' => r = dig n (mrow Am) ∧ ∃ v' cp' bt' ml' cn' Wk' Mo', cpOK cp' ∧ sb_Fit bt' ∧ cn' ≤ cp' ∧ w' = (MW k md 0 (nI n) Am Wk' Mo' v' cp' bt' ml' (nI cn') Y)) (cBA D A) A) args s 64 4064 A) 0 []
  rw [← hQ]
  refine p_aload_n C rfl 0 rfl dX3_digest_0 ?_
  refine p_iconst (v := 0) C (by decide) dX3_digest_1 ?_
  refine p_put (w9 := (MW k md 0 (nI n) Am Wk Mo v cp bt ml (nI cn) Y)) (v := .int 0) (T := TX3) C tyX3 tyX3_ok nmX3 0 rfl rfl 0 (by decide) inX3 qfl_X3_26 (fun _ h9 => h9) rfl rfl rfl (Nat.le_of_ble_eq_true rfl) rfl dX3_digest_2 ?_
  refine p_ldc2 (v := 67549) C qkl_X3_170 dX3_digest_5 ?_
  refine p_aload_n C rfl 0 rfl dX3_digest_8 ?_
  refine p_get (v := .int (nI n)) (T := TX3) C 0 rfl rfl 1 (by decide) inX3 qfl_X3_30 (fun _ h9 => h9) rfl dX3_digest_9 ?_
  refine p_i2l C dX3_digest_12 ?_
  refine p_ladd C dX3_digest_13 ?_
  refine p_lstore_n (lv9 := [(1, .long (67549 + ((nI n).toInt64))), (0, .ref (md 0))]) C rfl (by decide) rfl dX3_digest_14 ?_
  refine p_iconst (v := (nI 0)) C (by decide) dX3_digest_15 ?_
  refine p_istore_n (lv9 := [(3, .int (nI 0)), (1, .long (67549 + ((nI n).toInt64))), (0, .ref (md 0))]) C rfl (by decide) rfl dX3_digest_16 ?_
  refine p_lv (lv9 := [(0, .ref (md 0)), (1, .long (67549 + ((nI n).toInt64))), (3, .int (nI 0))]) [2, 1, 0] rfl ?_
  have lp17 : ∀ (n17 : Nat) (i c9 s9 v9 cp9 cn9 : Nat) (bt9 Wk9 : Nat → Int32) (ml9 : Int32), (hi : i + n17 = n) → (hc9 : c9 + 4 * n17 ≤ 64) → (hs9 : s9 + 254 * n17 ≤ 4064) → (hok9 : cpOK cp9) → (hft9 : sb_Fit bt9) → (hm9 : cn9 ≤ cp9) → WP p l e (rmL 7 64 4064) s m args below meth c D A 9 (MW k md 0 (nI n) Am Wk9 Mo v9 cp9 bt9 ml9 (nI cn9) Y) [(0, .ref (md 0)), (1, .long (dgH (mrow Am) (67549 + (nI n).toInt64) i)), (3, .int (nI i))] c9 s9 Q 17 [] := by
    intro n17
    induction n17 with
    | zero =>
      intro i c9 s9 v9 cp9 cn9 bt9 Wk9 ml9 hi hc9 hs9 hok9 hft9 hm9
      have ei : i = n := by omega
      refine p_iload_n C rfl 2 rfl dX3_digest_17 ?_
      refine p_aload_n C rfl 0 rfl dX3_digest_18 ?_
      refine p_get (v := .int (nI n)) (T := TX3) C 0 rfl rfl 1 (by decide) inX3 qfl_X3_30 (fun _ h9 => h9) rfl dX3_digest_19 ?_
      refine p_icmp_ge C 219 (by decide) dX3_digest_22 (fun c_22 => ?_) (fun c_22 => absurd (nI_le (by omega) (by omega)) c_22)
      refine p_lload_n C rfl 1 rfl dX3_digest_219 ?_
      rw [hQ]
      exact r_l C hrt9 (⟨by rw [ei]; rfl, _, _, _, _, _, _, _, hok9, hft9, hm9, rfl⟩) (by (try simp only [rmL_c, rmL_s]); omega) (by (try simp only [rmL_c, rmL_s]); omega) dX3_digest_220
    | succ n17 ih17 =>
      intro i c9 s9 v9 cp9 cn9 bt9 Wk9 ml9 hi hc9 hs9 hok9 hft9 hm9
      refine p_iload_n C rfl 2 rfl dX3_digest_17 ?_
      refine p_aload_n C rfl 0 rfl dX3_digest_18 ?_
      refine p_get (v := .int (nI n)) (T := TX3) C 0 rfl rfl 1 (by decide) inX3 qfl_X3_30 (fun _ h9 => h9) rfl dX3_digest_19 ?_
      refine p_icmp_ge C 219 (by decide) dX3_digest_22 (fun c_22 => absurd c_22 (nI_ge (by omega) (by omega))) (fun c_22 => ?_)
      refine p_lload_n C rfl 1 rfl dX3_digest_25 ?_
      refine p_ldc2 (v := 31) C qkl_X3_172 dX3_digest_26 ?_
      refine p_lmul C dX3_digest_29 ?_
      refine p_aload_n C rfl 0 rfl dX3_digest_30 ?_
      refine p_iload_n C rfl 2 rfl dX3_digest_31 ?_
      refine c_Vi (As := [.int (nI i)]) (rest := [.long ((dgH (mrow Am) (67549 + (nI n).toInt64) i) * 31)]) C (m_X3_degreeNow l D k (i := i) (by omega)) 0 rfl rfl rfl qml_X3_51 qim_X3_degreeNow qse_X3_X3_degreeNow qin_X3 qco_X3_degreeNow nd_X3_degreeNow ⟨Nat.le_of_ble_eq_true rfl, Nat.le_of_ble_eq_true rfl⟩ (Nat.le_of_ble_eq_true rfl) ⟨by (try simp only [rmL_c, rmL_s]); omega, by (try simp only [rmL_c, rmL_s]); omega⟩ rfl dX3_digest_32 (fun r9 w9 h9 => ?_)
      obtain ⟨e9, rfl⟩ := h9
      refine p_int e9 ?_
      refine p_i2l C dX3_digest_35 ?_
      refine p_ladd C dX3_digest_36 ?_
      refine p_ldc2 (v := 31) C qkl_X3_172 dX3_digest_37 ?_
      refine p_lmul C dX3_digest_40 ?_
      refine p_aload_n C rfl 0 rfl dX3_digest_41 ?_
      refine p_iload_n C rfl 2 rfl dX3_digest_42 ?_
      refine c_Vi (As := [.int (nI i)]) (rest := [.long ((((dgH (mrow Am) (67549 + (nI n).toInt64) i) * 31) + ((dI (dg (mrow Am i))).toInt64)) * 31)]) C (m_X3_plain l D k (i := i) (by omega)) 0 rfl rfl rfl qml_X3_88 qim_X3_plain qse_X3_X3_plain qin_X3 qco_X3_plain nd_X3_plain ⟨Nat.le_of_ble_eq_true rfl, Nat.le_of_ble_eq_true rfl⟩ (Nat.le_of_ble_eq_true rfl) ⟨by (try simp only [rmL_c, rmL_s]); omega, by (try simp only [rmL_c, rmL_s]); omega⟩ rfl dX3_digest_43 (fun r9 w9 h9 => ?_)
      obtain ⟨e9, rfl⟩ := h9
      refine p_int e9 ?_
      have j54 : WP p l e (rmL 7 64 4064) s m args below meth c D A 9 (MW k md 0 (nI n) Am Wk9 Mo v9 cp9 bt9 ml9 (nI cn9) Y) [(0, .ref (md 0)), (1, .long (dgH (mrow Am) (67549 + (nI n).toInt64) i)), (3, .int (nI i))] c9 s9 Q 54 [.int (bI (pln (mrow Am i))), .long ((((dgH (mrow Am) (67549 + (nI n).toInt64) i) * 31) + ((dI (dg (mrow Am i))).toInt64)) * 31)] := by
        refine p_i2l C dX3_digest_54 ?_
        refine p_ladd C dX3_digest_55 ?_
        refine p_ldc2 (v := 31) C qkl_X3_172 dX3_digest_56 ?_
        refine p_lmul C dX3_digest_59 ?_
        refine p_aload_n C rfl 0 rfl dX3_digest_60 ?_
        refine p_iload_n C rfl 2 rfl dX3_digest_61 ?_
        refine c_Vl (As := [.int (nI i)]) (rest := [.long ((((((dgH (mrow Am) (67549 + (nI n).toInt64) i) * 31) + ((dI (dg (mrow Am i))).toInt64)) * 31) + ((bI (pln (mrow Am i))).toInt64)) * 31)]) C (m_X3_contentOf l D k (i := i) (by omega)) 0 rfl rfl rfl qml_X3_107 qim_X3_contentOf qse_X3_X3_contentOf qin_X3 qco_X3_contentOf nd_X3_contentOf ⟨Nat.le_of_ble_eq_true rfl, Nat.le_of_ble_eq_true rfl⟩ (Nat.le_of_ble_eq_true rfl) ⟨by (try simp only [rmL_c, rmL_s]); omega, by (try simp only [rmL_c, rmL_s]); omega⟩ rfl dX3_digest_62 (fun r9 w9 h9 => ?_)
        obtain ⟨rfl, rfl⟩ := h9
        refine p_ladd C dX3_digest_65 ?_
        refine p_st (st9 := [.long (dg3 (mrow Am i) (dgH (mrow Am) (67549 + (nI n).toInt64) i))]) (congrArg (fun z9 => Value.long z9 :: []) rfl) ?_
        refine p_lstore_n (lv9 := [(1, .long (dg3 (mrow Am i) (dgH (mrow Am) (67549 + (nI n).toInt64) i))), (0, .ref (md 0)), (3, .int (nI i))]) C rfl (by decide) rfl dX3_digest_66 ?_
        refine p_bipush (v := (nI 8)) C (by decide) dX3_digest_67 ?_
        refine p_newa_i (N := 8) C qaC_int (by omega) (by (try simp only [rmL_c, rmL_s]); omega) (by (try simp only [rmL_c, rmL_s]); omega) dX3_digest_69 (fun q9 => ?_)
        refine p_w (w9 := (MW k md 0 (nI n) Am Wk9 Mo v9 cp9 bt9 ml9 (nI cn9) (Y ++ [(q9, aI k 8 (fun _ => 0))]))) rfl ?_
        refine p_dup C rfl dX3_digest_71 ?_
        refine p_iconst (v := 0) C (by decide) dX3_digest_72 ?_
        refine p_aload_n C rfl 1 rfl dX3_digest_73 ?_
        refine p_iload_n C rfl 2 rfl dX3_digest_74 ?_
        refine c_Vi (As := [.int (nI i)]) (rest := [.int 0, .ref q9, .ref q9]) C (m_X3_changes l D k (i := i) (by omega)) 0 rfl rfl rfl qml_X3_116 qim_X3_changes qse_X3_X3_changes qin_X3 qco_X3_changes nd_X3_changes ⟨Nat.le_of_ble_eq_true rfl, Nat.le_of_ble_eq_true rfl⟩ (Nat.le_of_ble_eq_true rfl) ⟨by (try simp only [rmL_c, rmL_s]); omega, by (try simp only [rmL_c, rmL_s]); omega⟩ rfl dX3_digest_75 (fun r9 w9 h9 => ?_)
        obtain ⟨e9, rfl⟩ := h9
        refine p_int e9 ?_
        refine p_iast (w9 := (MW k md 0 (nI n) Am Wk9 Mo v9 cp9 bt9 ml9 (nI cn9) (Y ++ [(q9, aI k 8 (upd (fun _ => 0) 0 (nI (sc (mrow Am i)))))]))) C (Y.length + 6) mw_at (vp_in_nI (n := 0) (N := 8) (by omega) (by omega)) (by rw [show (0 : Int32).toNatClampNeg = 0 from rfl]; exact mw_set) dX3_digest_78 ?_
        refine p_dup C rfl dX3_digest_79 ?_
        refine p_iconst (v := 1) C (by decide) dX3_digest_80 ?_
        refine p_aload_n C rfl 1 rfl dX3_digest_81 ?_
        refine p_iload_n C rfl 2 rfl dX3_digest_82 ?_
        refine p_iconst (v := 3) C (by decide) dX3_digest_83 ?_
        refine c_Vi (As := [.int (nI i), .int 3]) (rest := [.int 1, .ref q9, .ref q9]) C (m_X3_hungerOf l D k (i := i) (x := 3) (by omega)) 0 rfl rfl rfl qml_X3_119 qim_X3_hungerOf qse_X3_X3_hungerOf qin_X3 qco_X3_hungerOf nd_X3_hungerOf ⟨Nat.le_of_ble_eq_true rfl, Nat.le_of_ble_eq_true rfl⟩ (Nat.le_of_ble_eq_true rfl) ⟨by (try simp only [rmL_c, rmL_s]); omega, by (try simp only [rmL_c, rmL_s]); omega⟩ rfl dX3_digest_84 (fun r9 w9 h9 => ?_)
        obtain ⟨e9, rfl⟩ := h9
        refine p_int e9 ?_
        refine p_iast (w9 := (MW k md 0 (nI n) Am (mrow Am i) Mo v9 cp9 bt9 ml9 (nI cn9) (Y ++ [(q9, aI k 8 (upd (upd (fun _ => 0) 0 (nI (sc (mrow Am i)))) 1 (hg (mrow Am i) 3)))]))) C (Y.length + 6) mw_at (vp_in_nI (n := 1) (N := 8) (by omega) (by omega)) (by rw [show (1 : Int32).toNatClampNeg = 1 from rfl]; exact mw_set) dX3_digest_87 ?_
        refine p_dup C rfl dX3_digest_88 ?_
        refine p_iconst (v := 2) C (by decide) dX3_digest_89 ?_
        refine p_aload_n C rfl 1 rfl dX3_digest_90 ?_
        refine p_iload_n C rfl 2 rfl dX3_digest_91 ?_
        refine c_Vi (As := [.int (nI i)]) (rest := [.int 2, .ref q9, .ref q9]) C (m_X3_idle l D k (i := i) (by omega)) 0 rfl rfl rfl qml_X3_122 qim_X3_idle qse_X3_X3_idle qin_X3 qco_X3_idle nd_X3_idle ⟨Nat.le_of_ble_eq_true rfl, Nat.le_of_ble_eq_true rfl⟩ (Nat.le_of_ble_eq_true rfl) ⟨by (try simp only [rmL_c, rmL_s]); omega, by (try simp only [rmL_c, rmL_s]); omega⟩ rfl dX3_digest_92 (fun r9 w9 h9 => ?_)
        obtain ⟨e9, rfl⟩ := h9
        refine p_int e9 ?_
        refine p_iast (w9 := (MW k md 0 (nI n) Am (mrow Am i) Mo v9 cp9 bt9 ml9 (nI cn9) (Y ++ [(q9, aI k 8 (upd (upd (upd (fun _ => 0) 0 (nI (sc (mrow Am i)))) 1 (hg (mrow Am i) 3)) 2 (nI (idl (mrow Am i)))))]))) C (Y.length + 6) mw_at (vp_in_nI (n := 2) (N := 8) (by omega) (by omega)) (by rw [show (2 : Int32).toNatClampNeg = 2 from rfl]; exact mw_set) dX3_digest_95 ?_
        refine p_dup C rfl dX3_digest_96 ?_
        refine p_iconst (v := 3) C (by decide) dX3_digest_97 ?_
        refine p_aload_n C rfl 1 rfl dX3_digest_98 ?_
        refine p_iload_n C rfl 2 rfl dX3_digest_99 ?_
        refine c_Vi (As := [.int (nI i)]) (rest := [.int 3, .ref q9, .ref q9]) C (m_X3_firstOf l D k (i := i) (by omega)) 0 rfl rfl rfl qml_X3_129 qim_X3_firstOf qse_X3_X3_firstOf qin_X3 qco_X3_firstOf nd_X3_firstOf ⟨Nat.le_of_ble_eq_true rfl, Nat.le_of_ble_eq_true rfl⟩ (Nat.le_of_ble_eq_true rfl) ⟨by (try simp only [rmL_c, rmL_s]); omega, by (try simp only [rmL_c, rmL_s]); omega⟩ rfl dX3_digest_100 (fun r9 w9 h9 => ?_)
        obtain ⟨e9, rfl⟩ := h9
        refine p_int e9 ?_
        refine p_iast (w9 := (MW k md 0 (nI n) Am (mrow Am i) Mo v9 cp9 bt9 ml9 (nI cn9) (Y ++ [(q9, aI k 8 (upd (upd (upd (upd (fun _ => 0) 0 (nI (sc (mrow Am i)))) 1 (hg (mrow Am i) 3)) 2 (nI (idl (mrow Am i)))) 3 (fi (mrow Am i))))]))) C (Y.length + 6) mw_at (vp_in_nI (n := 3) (N := 8) (by omega) (by omega)) (by rw [show (3 : Int32).toNatClampNeg = 3 from rfl]; exact mw_set) dX3_digest_103 ?_
        refine p_dup C rfl dX3_digest_104 ?_
        refine p_iconst (v := 4) C (by decide) dX3_digest_105 ?_
        refine p_aload_n C rfl 1 rfl dX3_digest_106 ?_
        refine p_iload_n C rfl 2 rfl dX3_digest_107 ?_
        refine c_Vi (As := [.int (nI i)]) (rest := [.int 4, .ref q9, .ref q9]) C (m_X3_least l D k (i := i) (by omega)) 0 rfl rfl rfl qml_X3_132 qim_X3_least qse_X3_X3_least qin_X3 qco_X3_least nd_X3_least ⟨Nat.le_of_ble_eq_true rfl, Nat.le_of_ble_eq_true rfl⟩ (Nat.le_of_ble_eq_true rfl) ⟨by (try simp only [rmL_c, rmL_s]); omega, by (try simp only [rmL_c, rmL_s]); omega⟩ rfl dX3_digest_108 (fun r9 w9 h9 => ?_)
        obtain ⟨e9, rfl⟩ := h9
        refine p_int e9 ?_
        refine p_iast (w9 := (MW k md 0 (nI n) Am (mrow Am i) Mo v9 cp9 bt9 ml9 (nI cn9) (Y ++ [(q9, aI k 8 (upd (upd (upd (upd (upd (fun _ => 0) 0 (nI (sc (mrow Am i)))) 1 (hg (mrow Am i) 3)) 2 (nI (idl (mrow Am i)))) 3 (fi (mrow Am i))) 4 (nI (lea (mrow Am i)))))]))) C (Y.length + 6) mw_at (vp_in_nI (n := 4) (N := 8) (by omega) (by omega)) (by rw [show (4 : Int32).toNatClampNeg = 4 from rfl]; exact mw_set) dX3_digest_111 ?_
        refine p_dup C rfl dX3_digest_112 ?_
        refine p_iconst (v := 5) C (by decide) dX3_digest_113 ?_
        refine p_aload_n C rfl 1 rfl dX3_digest_114 ?_
        refine p_iload_n C rfl 2 rfl dX3_digest_115 ?_
        refine c_Vi (As := [.int (nI i)]) (rest := [.int 5, .ref q9, .ref q9]) C (m_X3_textOf l D k (i := i) (by omega) hok9 hft9 hm9) 0 rfl rfl rfl qml_X3_154 qim_X3_textOf qse_X3_X3_textOf qin_X3 qco_X3_textOf nd_X3_textOf ⟨Nat.le_of_ble_eq_true rfl, Nat.le_of_ble_eq_true rfl⟩ (Nat.le_of_ble_eq_true rfl) ⟨by (try simp only [rmL_c, rmL_s]); omega, by (try simp only [rmL_c, rmL_s]); omega⟩ rfl dX3_digest_116 (fun r9 w9 h9 => ?_)
        obtain ⟨e9, v7, cp7, bt7, ml7, hok7, hft7, ht7, hl7, rfl⟩ := h9
        refine p_int e9 ?_
        refine p_iast (w9 := (MW k md 0 (nI n) Am (mrow Am i) Mo v7 cp7 bt7 ml7 (nI (tx (mrow Am i)).length) (Y ++ [(q9, aI k 8 (upd (upd (upd (upd (upd (upd (fun _ => 0) 0 (nI (sc (mrow Am i)))) 1 (hg (mrow Am i) 3)) 2 (nI (idl (mrow Am i)))) 3 (fi (mrow Am i))) 4 (nI (lea (mrow Am i)))) 5 (nI (tx (mrow Am i)).length)))]))) C (Y.length + 6) mw_at (vp_in_nI (n := 5) (N := 8) (by omega) (by omega)) (by rw [show (5 : Int32).toNatClampNeg = 5 from rfl]; exact mw_set) dX3_digest_119 ?_
        refine p_dup C rfl dX3_digest_120 ?_
        refine p_bipush (v := 6) C (by decide) dX3_digest_121 ?_
        refine p_aload_n C rfl 1 rfl dX3_digest_123 ?_
        refine p_iload_n C rfl 2 rfl dX3_digest_124 ?_
        refine c_Vi (As := [.int (nI i)]) (rest := [.int 6, .ref q9, .ref q9]) C (m_X3_parts l D k (i := i) (by omega)) 0 rfl rfl rfl qml_X3_164 qim_X3_parts qse_X3_X3_parts qin_X3 qco_X3_parts nd_X3_parts ⟨Nat.le_of_ble_eq_true rfl, Nat.le_of_ble_eq_true rfl⟩ (Nat.le_of_ble_eq_true rfl) ⟨by (try simp only [rmL_c, rmL_s]); omega, by (try simp only [rmL_c, rmL_s]); omega⟩ rfl dX3_digest_125 (fun r9 w9 h9 => ?_)
        obtain ⟨e9, WkP, rfl⟩ := h9
        refine p_int e9 ?_
        refine p_iast (w9 := (MW k md 0 (nI n) Am WkP Mo v7 cp7 bt7 ml7 (nI (tx (mrow Am i)).length) (Y ++ [(q9, aI k 8 (upd (upd (upd (upd (upd (upd (upd (fun _ => 0) 0 (nI (sc (mrow Am i)))) 1 (hg (mrow Am i) 3)) 2 (nI (idl (mrow Am i)))) 3 (fi (mrow Am i))) 4 (nI (lea (mrow Am i)))) 5 (nI (tx (mrow Am i)).length)) 6 (nI (pp (mrow Am i)))))]))) C (Y.length + 6) mw_at (vp_in_nI (n := 6) (N := 8) (by omega) (by omega)) (by rw [show (6 : Int32).toNatClampNeg = 6 from rfl]; exact mw_set) dX3_digest_128 ?_
        refine p_dup C rfl dX3_digest_129 ?_
        refine p_bipush (v := 7) C (by decide) dX3_digest_130 ?_
        refine p_aload_n C rfl 1 rfl dX3_digest_132 ?_
        refine p_iload_n C rfl 2 rfl dX3_digest_133 ?_
        refine c_Vi (As := [.int (nI i)]) (rest := [.int 7, .ref q9, .ref q9]) C (m_X3_shiftFor l D k (i := i) (by omega)) 0 rfl rfl rfl qml_X3_167 qim_X3_shiftFor qse_X3_X3_shiftFor qin_X3 qco_X3_shiftFor nd_X3_shiftFor ⟨Nat.le_of_ble_eq_true rfl, Nat.le_of_ble_eq_true rfl⟩ (Nat.le_of_ble_eq_true rfl) ⟨by (try simp only [rmL_c, rmL_s]); omega, by (try simp only [rmL_c, rmL_s]); omega⟩ rfl dX3_digest_134 (fun r9 w9 h9 => ?_)
        obtain ⟨e9, WkS, rfl⟩ := h9
        refine p_int e9 ?_
        refine p_iast (w9 := (MW k md 0 (nI n) Am WkS Mo v7 cp7 bt7 ml7 (nI (tx (mrow Am i)).length) (Y ++ [(q9, aI k 8 (upd (upd (upd (upd (upd (upd (upd (upd (fun _ => 0) 0 (nI (sc (mrow Am i)))) 1 (hg (mrow Am i) 3)) 2 (nI (idl (mrow Am i)))) 3 (fi (mrow Am i))) 4 (nI (lea (mrow Am i)))) 5 (nI (tx (mrow Am i)).length)) 6 (nI (pp (mrow Am i)))) 7 (bs (mrow Am i))))]))) C (Y.length + 6) mw_at (vp_in_nI (n := 7) (N := 8) (by omega) (by omega)) (by rw [show (7 : Int32).toNatClampNeg = 7 from rfl]; exact mw_set) dX3_digest_137 ?_
        refine p_arr (n := 8) (w9 := (MW k md 0 (nI n) Am WkS Mo v7 cp7 bt7 ml7 (nI (tx (mrow Am i)).length) (Y ++ [(q9, aI k 8 (nuF (mrow Am i)))]))) (Y.length + 6) mw_at (nuF (mrow Am i)) nu8 mw_set ?_
        refine p_astore (lv9 := [(4, .ref q9), (1, .long (dg3 (mrow Am i) (dgH (mrow Am) (67549 + (nI n).toInt64) i))), (0, .ref (md 0)), (3, .int (nI i))]) C (by decide) rfl dX3_digest_138 ?_
        refine p_aload C 0 rfl dX3_digest_140 ?_
        refine p_astore (lv9 := [(5, .ref q9), (4, .ref q9), (1, .long (dg3 (mrow Am i) (dgH (mrow Am) (67549 + (nI n).toInt64) i))), (0, .ref (md 0)), (3, .int (nI i))]) C (by decide) rfl dX3_digest_142 ?_
        refine p_aload C 0 rfl dX3_digest_144 ?_
        refine p_alen (v := (nI 8)) C (Y.length + 6) 0 mw_at rfl rfl dX3_digest_146 ?_
        refine p_istore (lv9 := [(6, .int (nI 8)), (5, .ref q9), (4, .ref q9), (1, .long (dg3 (mrow Am i) (dgH (mrow Am) (67549 + (nI n).toInt64) i))), (0, .ref (md 0)), (3, .int (nI i))]) C (by decide) rfl dX3_digest_147 ?_
        refine p_iconst (v := (nI 0)) C (by decide) dX3_digest_149 ?_
        refine p_istore (lv9 := [(7, .int (nI 0)), (6, .int (nI 8)), (5, .ref q9), (4, .ref q9), (1, .long (dg3 (mrow Am i) (dgH (mrow Am) (67549 + (nI n).toInt64) i))), (0, .ref (md 0)), (3, .int (nI i))]) C (by decide) rfl dX3_digest_150 ?_
        refine p_lv (lv9 := [(0, .ref (md 0)), (1, .long (dg3 (mrow Am i) (dgH (mrow Am) (67549 + (nI n).toInt64) i))), (3, .int (nI i)), (5, .ref q9), (6, .int (nI 8)), (7, .int (nI 0))]) [5, 4, 6, 2, 1, 0] rfl ?_
        have lp152 : ∀ (n152 : Nat) (j : Nat), (hj : j + n152 = 8) → WP p l e (rmL 7 64 4064) s m args below meth c D A 9 (MW k md 0 (nI n) Am WkS Mo v7 cp7 bt7 ml7 (nI (tx (mrow Am i)).length) (Y ++ [(q9, aI k 8 (nuF (mrow Am i)))])) [(0, .ref (md 0)), (1, .long (dg8 (mrow Am i) (dg3 (mrow Am i) (dgH (mrow Am) (67549 + (nI n).toInt64) i)) j)), (3, .int (nI i)), (5, .ref q9), (6, .int (nI 8)), (7, .int (nI j))] (c9 + 1 + 3) (s9 + 8 + 246) Q 152 [] := by
          intro n152
          induction n152 with
          | zero =>
            intro j hj
            obtain rfl : j = 8 := by omega
            refine p_lvE (lv9 := [(0, .ref (md 0)), (1, .long (dg8 (mrow Am i) (dg3 (mrow Am i) (dgH (mrow Am) (67549 + (nI n).toInt64) i)) 8)), (3, .int (nI i)), (5, .ref q9), (6, .int (nI 8)), (7, .int (nI 8))]) rfl ?_
            refine p_iload C 5 rfl dX3_digest_152 ?_
            refine p_iload C 4 rfl dX3_digest_154 ?_
            refine p_icmp_ge C 182 (by decide) dX3_digest_156 (fun c_156 => ?_) (fun c_156 => absurd (nI_le (by omega) (by omega)) c_156)
            refine p_iconst (v := (nI 0)) C (by decide) dX3_digest_182 ?_
            refine p_istore (lv9 := [(5, .int (nI 0)), (0, .ref (md 0)), (1, .long (dg8 (mrow Am i) (dg3 (mrow Am i) (dgH (mrow Am) (67549 + (nI n).toInt64) i)) 8)), (3, .int (nI i)), (6, .int (nI 8)), (7, .int (nI 8))]) C (by decide) rfl dX3_digest_183 ?_
            refine p_lv (lv9 := [(0, .ref (md 0)), (1, .long (dg8 (mrow Am i) (dg3 (mrow Am i) (dgH (mrow Am) (67549 + (nI n).toInt64) i)) 8)), (3, .int (nI i)), (5, .int (nI 0))]) [1, 2, 3, 0] rfl ?_
            have lp185 : ∀ (n185 : Nat) (j : Nat), (hj : j + n185 = 9) → WP p l e (rmL 7 64 4064) s m args below meth c D A 9 (MW k md 0 (nI n) Am WkS Mo v7 cp7 bt7 ml7 (nI (tx (mrow Am i)).length) (Y ++ [(q9, aI k 8 (nuF (mrow Am i)))])) [(0, .ref (md 0)), (1, .long (dgA (mrow Am i) (dg8 (mrow Am i) (dg3 (mrow Am i) (dgH (mrow Am) (67549 + (nI n).toInt64) i)) 8) j)), (3, .int (nI i)), (5, .int (nI j))] (c9 + 1 + 3) (s9 + 8 + 246) Q 185 [] := by
              intro n185
              induction n185 with
              | zero =>
                intro j hj
                obtain rfl : j = 9 := by omega
                refine p_lvE (lv9 := [(0, .ref (md 0)), (1, .long (dgH (mrow Am) (67549 + (nI n).toInt64) (i + 1))), (3, .int (nI i)), (5, .int (nI 9))]) rfl ?_
                refine p_iload C 3 rfl dX3_digest_185 ?_
                refine p_bipush (v := (nI 9)) C (by decide) dX3_digest_187 ?_
                refine p_icmp_ge C 213 (by decide) dX3_digest_189 (fun c_189 => ?_) (fun c_189 => absurd c_189 (by decide))
                refine p_w (w9 := (MW k md 0 (nI n) Am WkS Mo v7 cp7 bt7 ml7 (nI (tx (mrow Am i)).length) Y) ++ [(q9, aI k 8 (nuF (mrow Am i)))]) rfl ?_
                refine p_drop9 ?_
                refine p_iinc (lv9 := [(3, .int (nI (i + 1))), (0, .ref (md 0)), (1, .long (dgH (mrow Am) (67549 + (nI n).toInt64) (i + 1))), (5, .int (nI 9))]) (v := (nI (i + 1))) C (j := 2) rfl (i_up i) (by decide) rfl dX3_digest_213 ?_
                refine p_goto C 17 (by decide) dX3_digest_216 ?_
                refine p_lv (lv9 := [(0, .ref (md 0)), (1, .long (dgH (mrow Am) (67549 + (nI n).toInt64) (i + 1))), (3, .int (nI (i + 1)))]) [1, 2, 0] rfl ?_
                exact ih17 (i + 1) _ _ _ _ _ _ _ _ (by omega) (by (try simp only [rmL_c, rmL_s]); omega) (by (try simp only [rmL_c, rmL_s]); omega) hok7 hft7 hl7
              | succ n185 ih185 =>
                intro j hj
                refine p_iload C 3 rfl dX3_digest_185 ?_
                refine p_bipush (v := (nI 9)) C (by decide) dX3_digest_187 ?_
                refine p_icmp_ge C 213 (by decide) dX3_digest_189 (fun c_189 => absurd c_189 (nI_ge (by omega) (by omega))) (fun c_189 => ?_)
                refine p_lload_n C rfl 1 rfl dX3_digest_192 ?_
                refine p_ldc2 (v := 31) C qkl_X3_172 dX3_digest_193 ?_
                refine p_lmul C dX3_digest_196 ?_
                refine p_aload_n C rfl 0 rfl dX3_digest_197 ?_
                refine p_iload_n C rfl 2 rfl dX3_digest_198 ?_
                refine p_iload C 3 rfl dX3_digest_199 ?_
                refine c_Vi (As := [.int (nI i), .int (nI j)]) (rest := [.long ((dgA (mrow Am i) (dg8 (mrow Am i) (dg3 (mrow Am i) (dgH (mrow Am) (67549 + (nI n).toInt64) i)) 8) j) * 31)]) C (m_X3_at l D k (i := i) (j := j) (by omega) (by omega)) 0 rfl rfl rfl qml_X3_47 qim_X3_at qse_X3_X3_at qin_X3 qco_X3_at nd_X3_at ⟨Nat.le_of_ble_eq_true rfl, Nat.le_of_ble_eq_true rfl⟩ (Nat.le_of_ble_eq_true rfl) ⟨by (try simp only [rmL_c, rmL_s]); omega, by (try simp only [rmL_c, rmL_s]); omega⟩ rfl dX3_digest_201 (fun r9 w9 h9 => ?_)
                obtain ⟨e9, rfl⟩ := h9
                refine p_int e9 ?_
                refine p_i2l C dX3_digest_204 ?_
                refine p_ladd C dX3_digest_205 ?_
                refine p_st (st9 := [.long (dgA (mrow Am i) (dg8 (mrow Am i) (dg3 (mrow Am i) (dgH (mrow Am) (67549 + (nI n).toInt64) i)) 8) (j + 1))]) (congrArg (fun z9 => Value.long z9 :: []) rfl) ?_
                refine p_lstore_n (lv9 := [(1, .long (dgA (mrow Am i) (dg8 (mrow Am i) (dg3 (mrow Am i) (dgH (mrow Am) (67549 + (nI n).toInt64) i)) 8) (j + 1))), (0, .ref (md 0)), (3, .int (nI i)), (5, .int (nI j))]) C rfl (by decide) rfl dX3_digest_206 ?_
                refine p_iinc (lv9 := [(5, .int (nI (j + 1))), (1, .long (dgA (mrow Am i) (dg8 (mrow Am i) (dg3 (mrow Am i) (dgH (mrow Am) (67549 + (nI n).toInt64) i)) 8) (j + 1))), (0, .ref (md 0)), (3, .int (nI i))]) (v := (nI (j + 1))) C (j := 3) rfl (i_up j) (by decide) rfl dX3_digest_207 ?_
                refine p_goto C 185 (by decide) dX3_digest_210 ?_
                refine p_lv (lv9 := [(0, .ref (md 0)), (1, .long (dgA (mrow Am i) (dg8 (mrow Am i) (dg3 (mrow Am i) (dgH (mrow Am) (67549 + (nI n).toInt64) i)) 8) (j + 1))), (3, .int (nI i)), (5, .int (nI (j + 1)))]) [2, 1, 3, 0] rfl ?_
                exact ih185 (j + 1) (by omega)
            exact lp185 9 0 rfl
          | succ n152 ih152 =>
            intro j hj
            refine p_iload C 5 rfl dX3_digest_152 ?_
            refine p_iload C 4 rfl dX3_digest_154 ?_
            refine p_icmp_ge C 182 (by decide) dX3_digest_156 (fun c_156 => absurd c_156 (nI_ge (by omega) (by omega))) (fun c_156 => ?_)
            refine p_aload C 3 rfl dX3_digest_159 ?_
            refine p_iload C 5 rfl dX3_digest_161 ?_
            refine p_iald (v := ((nuF (mrow Am i)) j)) C (Y.length + 6) mw_at (vp_in_nI (n := j) (N := 8) (by omega) (by omega)) (by rw [show ((nI j)).toNatClampNeg = j from nI_clamp (by omega)]) dX3_digest_163 ?_
            refine p_istore (lv9 := [(8, .int ((nuF (mrow Am i)) j)), (0, .ref (md 0)), (1, .long (dg8 (mrow Am i) (dg3 (mrow Am i) (dgH (mrow Am) (67549 + (nI n).toInt64) i)) j)), (3, .int (nI i)), (5, .ref q9), (6, .int (nI 8)), (7, .int (nI j))]) C (by decide) rfl dX3_digest_164 ?_
            refine p_lload_n C rfl 2 rfl dX3_digest_166 ?_
            refine p_ldc2 (v := 31) C qkl_X3_172 dX3_digest_167 ?_
            refine p_lmul C dX3_digest_170 ?_
            refine p_iload C 0 rfl dX3_digest_171 ?_
            refine p_i2l C dX3_digest_173 ?_
            refine p_ladd C dX3_digest_174 ?_
            refine p_st (st9 := [.long (dg8 (mrow Am i) (dg3 (mrow Am i) (dgH (mrow Am) (67549 + (nI n).toInt64) i)) (j + 1))]) (congrArg (fun z9 => Value.long z9 :: []) rfl) ?_
            refine p_lstore_n (lv9 := [(1, .long (dg8 (mrow Am i) (dg3 (mrow Am i) (dgH (mrow Am) (67549 + (nI n).toInt64) i)) (j + 1))), (8, .int ((nuF (mrow Am i)) j)), (0, .ref (md 0)), (3, .int (nI i)), (5, .ref q9), (6, .int (nI 8)), (7, .int (nI j))]) C rfl (by decide) rfl dX3_digest_175 ?_
            refine p_iinc (lv9 := [(7, .int (nI (j + 1))), (1, .long (dg8 (mrow Am i) (dg3 (mrow Am i) (dgH (mrow Am) (67549 + (nI n).toInt64) i)) (j + 1))), (8, .int ((nuF (mrow Am i)) j)), (0, .ref (md 0)), (3, .int (nI i)), (5, .ref q9), (6, .int (nI 8))]) (v := (nI (j + 1))) C (j := 6) rfl (i_up j) (by decide) rfl dX3_digest_176 ?_
            refine p_goto C 152 (by decide) dX3_digest_179 ?_
            refine p_lv (lv9 := [(0, .ref (md 0)), (1, .long (dg8 (mrow Am i) (dg3 (mrow Am i) (dgH (mrow Am) (67549 + (nI n).toInt64) i)) (j + 1))), (3, .int (nI i)), (5, .ref q9), (6, .int (nI 8)), (7, .int (nI (j + 1)))]) [3, 1, 4, 5, 6, 0] rfl ?_
            exact ih152 (j + 1) (by omega)
        exact lp152 8 0 rfl
      refine p_if_eq C 53 (by decide) dX3_digest_46 (fun c_46 => ?_) (fun c_46 => ?_)
      · refine p_iconst (v := 0) C (by decide) dX3_digest_53 ?_
        refine p_st (st9 := [.int (bI (pln (mrow Am i))), .long ((((dgH (mrow Am) (67549 + (nI n).toInt64) i) * 31) + ((dI (dg (mrow Am i))).toInt64)) * 31)]) (by rw [bI_eq c_46]; rfl) ?_
        exact j54
      · refine p_iconst (v := 1) C (by decide) dX3_digest_49 ?_
        refine p_goto C 54 (by decide) dX3_digest_50 ?_
        refine p_st (st9 := [.int (bI (pln (mrow Am i))), .long ((((dgH (mrow Am) (67549 + (nI n).toInt64) i) * 31) + ((dI (dg (mrow Am i))).toInt64)) * 31)]) (by rw [bI_ne c_46]; rfl) ?_
        exact j54
  exact lp17 n 0 0 0 v cp cn bt Wk ml (Nat.zero_add _) (by omega) (by omega) hok hft hm
