/-! capacities of the builder -/
def cpOK (c : Nat) : Prop := c = 16 ∨ c = 34 ∨ c = 70 ∨ c = 142
def pC (c : Nat) : Nat := if c = 16 then 3 else if c = 34 then 2 else if c = 70 then 1 else 0
def pS (c : Nat) : Nat := if c = 16 then 246 else if c = 34 then 212 else if c = 70 then 142 else 0
theorem pC_le (c : Nat) : pC c ≤ 3 := by unfold pC; (repeat' split) <;> omega
theorem pS_le (c : Nat) : pS c ≤ 246 := by unfold pS; (repeat' split) <;> omega
theorem cpOK_b {c : Nat} (h : cpOK c) : 16 ≤ c ∧ c ≤ 142 := by unfold cpOK at h; omega
theorem gw_ok {c q : Nat} (h : cpOK c) (hq : q ≤ 142) (hL : q ≤ c + 10) : cpOK (cwA q c) ∧ pC (cwA q c) + gwC q c ≤ pC c ∧ pS (cwA q c) + gwS q c ≤ pS c ∧ q ≤ cwA q c := by
  by_cases k : q ≤ c
  · rw [cwA_a k, gwC_a k, gwS_a k]
    exact ⟨h, Nat.le_refl _, Nat.le_refl _, k⟩
  · have k2 : c < q := by omega
    rw [cwA_b k2, gwC_b k2, gwS_b k2]
    unfold cpOK at h
    rcases h with h | h | h | h <;> subst h
    · exact ⟨Or.inr (Or.inl rfl), by decide, by decide, by omega⟩
    · exact ⟨Or.inr (Or.inr (Or.inl rfl)), by decide, by decide, by omega⟩
    · exact ⟨Or.inr (Or.inr (Or.inr rfl)), by decide, by decide, by omega⟩
    · omega
/-- a builder that holds L, with the room that is left to it -/
def wI (L : List Nat) (c s cp : Nat) (bt : Nat → Int32) : Prop := cpOK cp ∧ c + pC cp ≤ 3 ∧ s + pS cp ≤ 246 ∧ sb_Fit bt ∧ tHas bt L ∧ L.length ≤ cp
theorem wI_b {L : List Nat} {c s cp : Nat} {bt : Nat → Int32} (h : wI L c s cp bt) {q : Nat} (hq : q ≤ 142) (hL : q ≤ L.length + 10) : c + gwC q cp ≤ 3 ∧ s + gwS q cp ≤ 246 ∧ L.length ≤ cp ∧ 16 ≤ cp ∧ cp < 65536 / 4 ∧ sb_Fit bt := by
  obtain ⟨h1, h2, h3, h4, -, h6⟩ := h
  have g := gw_ok h1 hq (by omega)
  have b := cpOK_b h1
  exact ⟨by omega, by omega, h6, b.1, by omega, h4⟩
theorem wI_c {L : List Nat} {c s cp x : Nat} {bt b : Nat → Int32} (h : wI L c s cp bt) (hl : L.length + 1 ≤ 142) (hf : sb_Fit b) (hk : ∀ j, j < L.length → b j = bt j) (hx : b L.length = nI x) : wI (L ++ [x]) (c + gwC (L.length + 1) cp) (s + gwS (L.length + 1) cp) (cwA (L.length + 1) cp) b := by
  obtain ⟨h1, h2, h3, h4, h5, h6⟩ := h
  have g := gw_ok h1 hl (by omega)
  refine ⟨g.1, by omega, by omega, hf, tHas_app h5 hk (fun j hj => ?_), by rw [List.length_append]; exact g.2.2.2⟩
  have : j = 0 := Nat.lt_one_iff.mp hj
  subst this
  exact hx
theorem wI_j {L : List Nat} {c s cp u : Nat} {bt b : Nat → Int32} (h : wI L c s cp bt) (hl : L.length + sb_dg u ≤ 142) (hf : sb_Fit b) (hk : ∀ j, j < L.length → b j = bt j) (hx : ∀ j, j < sb_dg u → b (L.length + j) = nI (sb_dec u j)) : wI (L ++ decL u) (c + gwC (L.length + sb_dg u) cp) (s + gwS (L.length + sb_dg u) cp) (cwA (L.length + sb_dg u) cp) b := by
  obtain ⟨h1, h2, h3, h4, h5, h6⟩ := h
  have hd := sb_dg_in u
  have g := gw_ok h1 hl (by omega)
  refine ⟨g.1, by omega, by omega, hf, tHas_app h5 hk (fun j hj => ?_), by rw [List.length_append, decL_len]; exact g.2.2.2⟩
  rw [decL_len] at hj
  rw [decL_get hj]; exact hx j hj
theorem lx_ge {x : Int32} (h : 0 ≤ lg_cmp x.toInt64 0) : ¬ x < 0 := fun q => by
  rw [lg_cmp_ge, Int64.le_iff_toInt_le, Int32.toInt_toInt64] at h
  rw [Int32.lt_iff_toInt_lt] at q
  exact absurd q (Int.not_lt.mpr h)
theorem lx_lt {x : Int32} (h : ¬ 0 ≤ lg_cmp x.toInt64 0) : x < 0 := by
  rw [lg_cmp_ge, Int64.le_iff_toInt_le, Int32.toInt_toInt64] at h
  rw [Int32.lt_iff_toInt_lt]
  exact Int.lt_of_not_ge h
theorem lx_eq {x : Int32} : lg_cmp x.toInt64 0 = 0 ↔ x = 0 := by
  rw [lg_cmp_eq]
  constructor
  · intro h
    have := congrArg Int64.toInt h
    rw [Int32.toInt_toInt64] at this
    exact Int32.toInt_inj.mp this
  · intro h; subst h; rfl
theorem l_1 {a : Nat} (h : a < 2 ^ 62) : 0 < lg_cmp (lN a) 1 ↔ 1 < a := by
  rw [lg_cmp_gt, show (1 : Int64) = lN 1 from rfl, pk_lLT (by omega) (by omega)]
theorem nI_le0 {a : Nat} (h : a < 2 ^ 31) : nI a ≤ 0 ↔ a = 0 := by
  rw [show (0 : Int32) = nI 0 from rfl, nI_leI h (by omega)]; omega
theorem nI_e0 {a : Nat} (h : a < 2 ^ 31) : nI a = 0 ↔ a = 0 := by
  rw [show (0 : Int32) = nI 0 from rfl, nI_eq h (by omega)]
theorem tHas_0 {t : List Nat} {b : Nat → Int32} (h : b t.length = nI 48) (h0 : t.length = 0) : tHas b [48] := fun j hj => by
  have : j = 0 := Nat.lt_one_iff.mp hj
  subst this
  rw [h0] at h; exact h
set_option maxHeartbeats 4000000 in
set_option maxRecDepth 100000 in
/-- write -/
theorem m_X3_write (l : Launch) (D : va_G) (k : Nat → ClassId) {md : Nat → Nat} {th : Int32} {n : Nat} {Am Wk Mo : Nat → Int32} {v cp cn : Nat} {bt : Nat → Int32} {ml : Int32} {Y : va_W} {i : Nat} (hi : i < 16) (hok : cpOK cp) (hft : sb_Fit bt) (hm : cn ≤ cp) : CtV l D k yX3_write (wU yX3_write cX3_write 5 (none)) (rmL 5 3 246) [.ref (md 0), .int (nI i)] (MW k md th (nI n) Am Wk Mo v cp bt ml (nI cn) Y) (fun w' => ∃ v' cp' bt' ml', cpOK cp' ∧ sb_Fit bt' ∧ tHas bt' (tx (mrow Am i)) ∧ (tx (mrow Am i)).length ≤ cp' ∧ w' = (MW k md th (nI n) Am Wk Mo v' cp' bt' ml' (nI (tx (mrow Am i)).length) Y)) := by
  refine openV (own := RX3) rfl (by decide) (Nat.le_of_ble_eq_true rfl) rfl ?_
  intro p e s m args below meth c A C hrt9 hnm
  obtain ⟨Q, hQ⟩ : ∃ Q, Q = (MQ below (va_Qv (fun w' => ∃ v' cp' bt' ml', cpOK cp' ∧ sb_Fit bt' ∧ tHas bt' (tx (mrow Am i)) ∧ (tx (mrow Am i)).length ≤ cp' ∧ w' = (MW k md th (nI n) Am Wk Mo v' cp' bt' ml' (nI (tx (mrow Am i)).length) Y)) (cBA D A) A) args s 3 246 A) := ⟨_, rfl⟩
  show WP p l e (rmL 5 3 246) s m args below meth c D A 5 (MW k md th (nI n) Am Wk Mo v cp bt ml (nI cn) Y) [(0, .ref (md 0)), (1, .int (nI i))] 0 0 (MQ below (va_Qv (fun w' => ∃ v' cp' bt' ml', cpOK cp' ∧ sb_Fit bt' ∧ tHas bt' (tx (mrow Am i)) ∧ (tx (mrow Am i)).length ≤ cp' ∧ w' = (MW k md th (nI n) Am Wk Mo v' cp' bt' ml' (nI (tx (mrow Am i)).length) Y)) (cBA D A) A) args s 3 246 A) 0 []
  rw [← hQ]
  have hcp9 := cpOK_b hok
  refine p_aload_n C rfl 0 rfl dX3_write_0 ?_
  refine p_get (v := .ref (md 4)) (T := TX3) C 0 rfl rfl 5 (by decide) inX3 qfl_X3_22 (fun _ h9 => h9) rfl dX3_write_1 ?_
  refine p_iconst (v := (nI 0)) C (by decide) dX3_write_4 ?_
  refine c_Vv (As := [.int (nI 0)]) (rest := []) C (m_J4_setLength l D k (cn := cn) (by have := cpOK_b hok; omega) (by have := cpOK_b hok; omega)) 4 rfl rfl rfl qml_X3_135 qim_J4_setLength_d00df qse_J4_J4_setLength_d00df qin_J4 qco_J4_setLength_d00df nd_J4_setLength_d00df ⟨Nat.le_of_ble_eq_true rfl, Nat.le_of_ble_eq_true rfl⟩ (Nat.le_of_ble_eq_true rfl) ⟨Nat.le_of_ble_eq_true rfl, Nat.le_of_ble_eq_true rfl⟩ rfl dX3_write_5 (fun w9 h9 => ?_)
  obtain ⟨ml9, rfl⟩ := h9
  refine p_bipush (v := (nI 9 - 1)) C (by decide) dX3_write_8 ?_
  refine p_istore_n (lv9 := [(2, .int (nI 9 - 1)), (0, .ref (md 0)), (1, .int (nI i))]) C rfl (by decide) rfl dX3_write_10 ?_
  refine p_lv (lv9 := [(0, .ref (md 0)), (1, .int (nI i)), (2, .int (nI 9 - 1))]) [1, 2, 0] rfl ?_
  have lp11 : ∀ (n11 : Nat) (t : List Nat) (c9 s9 v9 cp9 : Nat) (bt9 : Nat → Int32), (hw : wI t c9 s9 cp9 bt9) → (hl : t.length + 13 * n11 ≤ 117) → (hT : txN (mrow Am i) n11 t = txN (mrow Am i) 9 []) → (hn : n11 ≤ 9) → WP p l e (rmL 5 3 246) s m args below meth c D A 5 (MW k md th (nI n) Am Wk Mo v9 cp9 bt9 ml9 (nI t.length) Y) [(0, .ref (md 0)), (1, .int (nI i)), (2, .int (nI n11 - 1))] c9 s9 Q 11 [] := by
    intro n11
    induction n11 with
    | zero =>
      intro t c9 s9 v9 cp9 bt9 hw hl hT hn
      have hwb := hw.2.1
      have hwb2 := hw.2.2.1
      have hE : tx (mrow Am i) = txE t := by unfold tx; rw [← hT]; rfl
      refine p_lvE (lv9 := [(0, .ref (md 0)), (1, .int (nI i)), (2, .int (-1))]) (by rw [i_z1]) ?_
      refine p_iload_n C rfl 2 rfl dX3_write_11 ?_
      refine p_if_lt C 130 (by decide) dX3_write_12 (fun c_12 => ?_) (fun c_12 => absurd c_12 (by decide))
      refine p_aload_n C rfl 0 rfl dX3_write_130 ?_
      refine p_get (v := .ref (md 4)) (T := TX3) C 0 rfl rfl 5 (by decide) inX3 qfl_X3_22 (fun _ h9 => h9) rfl dX3_write_131 ?_
      refine c_Vi (As := []) (rest := []) C (m_J4_length l D k ) 4 rfl rfl rfl qml_X3_142 qim_J4_length_8abf5 qse_J4_J4_length_8abf5 qin_J4 qco_J4_length_8abf5 nd_J4_length_8abf5 ⟨Nat.le_of_ble_eq_true rfl, Nat.le_of_ble_eq_true rfl⟩ (Nat.le_of_ble_eq_true rfl) ⟨by (try simp only [rmL_c, rmL_s]); omega, by (try simp only [rmL_c, rmL_s]); omega⟩ rfl dX3_write_134 (fun r9 w9 h9 => ?_)
      obtain ⟨e9, rfl⟩ := h9
      refine p_int e9 ?_
      refine p_if_ne C 150 (by decide) dX3_write_137 (fun c_137 => ?_) (fun c_137 => ?_)
      · have h0 : ¬ t.length = 0 := fun z9 => c_137 ((nI_e0 (by omega)).mpr z9)
        rw [show txE t = t from if_neg h0] at hE
        rw [hQ]
        exact r_v C hrt9 (⟨_, _, _, _, hw.1, hw.2.2.2.1, by rw [hE]; exact hw.2.2.2.2.1, by rw [hE]; exact hw.2.2.2.2.2, by rw [hE]⟩) (by (try simp only [rmL_c, rmL_s]); omega) (by (try simp only [rmL_c, rmL_s]); omega) dX3_write_150
      · have h0 : t.length = 0 := (nI_e0 (by omega)).mp (c_137)
        rw [show txE t = [48] from if_pos h0] at hE
        have hln : (tx (mrow Am i)).length = t.length + 1 := by rw [hE, h0]; rfl
        refine p_aload_n C rfl 0 rfl dX3_write_140 ?_
        refine p_get (v := .ref (md 4)) (T := TX3) C 0 rfl rfl 5 (by decide) inX3 qfl_X3_22 (fun _ h9 => h9) rfl dX3_write_141 ?_
        refine p_bipush (v := 48) C (by decide) dX3_write_144 ?_
        obtain ⟨hb1, hb2, hb3, hb4, hb5, hb6⟩ := wI_b hw (q := t.length + 1) (by omega) (by omega)
        refine c_Vr (As := [.int 48]) (rest := []) C (m_J4_appC l D k (cn := t.length) (c9 := 48) (by omega) hb3 hb5 hb6) 4 rfl rfl rfl qml_X3_138 qim_J4_append_cf468 qse_J4_J4_append_cf468 qin_J4 qco_J4_append_cf468 nd_J4_append_cf468 ⟨Nat.le_of_ble_eq_true rfl, Nat.le_of_ble_eq_true rfl⟩ (Nat.le_of_ble_eq_true rfl) ⟨by (try simp only [rmL_c, rmL_s]); omega, by (try simp only [rmL_c, rmL_s]); omega⟩ rfl dX3_write_146 (fun r9 w9 h9 => ?_)
        obtain ⟨rfl, v8, bt8, hf8, hk8, hx8, rfl⟩ := h9
        refine p_pop C rfl dX3_write_149 ?_
        rw [hQ]
        exact r_v C hrt9 (⟨_, _, _, _, (wI_c (x := 48) hw (by omega) hf8 hk8 hx8).1, hf8, by rw [hE]; exact tHas_0 hx8 h0, by rw [hln]; exact (gw_ok hw.1 (by omega) (by omega)).2.2.2, by rw [hln]⟩) (by (try simp only [rmL_c, rmL_s]); omega) (by (try simp only [rmL_c, rmL_s]); omega) dX3_write_150
    | succ n11 ih11 =>
      intro t c9 s9 v9 cp9 bt9 hw hl hT hn
      have hwb := hw.2.1
      have hwb2 := hw.2.2.1
      refine p_lvE (lv9 := [(0, .ref (md 0)), (1, .int (nI i)), (2, .int (nI n11))]) (by rw [nI_pred]) ?_
      refine p_iload_n C rfl 2 rfl dX3_write_11 ?_
      refine p_if_lt C 130 (by decide) dX3_write_12 (fun c_12 => absurd c_12 (nI_pos (by omega))) (fun c_12 => ?_)
      refine p_aload_n C rfl 0 rfl dX3_write_15 ?_
      refine p_iload_n C rfl 1 rfl dX3_write_16 ?_
      refine p_iload_n C rfl 2 rfl dX3_write_17 ?_
      refine c_Vi (As := [.int (nI i), .int (nI n11)]) (rest := []) C (m_X3_at l D k (i := i) (j := n11) (by omega) (by omega)) 0 rfl rfl rfl qml_X3_47 qim_X3_at qse_X3_X3_at qin_X3 qco_X3_at nd_X3_at ⟨Nat.le_of_ble_eq_true rfl, Nat.le_of_ble_eq_true rfl⟩ (Nat.le_of_ble_eq_true rfl) ⟨by (try simp only [rmL_c, rmL_s]); omega, by (try simp only [rmL_c, rmL_s]); omega⟩ rfl dX3_write_18 (fun r9 w9 h9 => ?_)
      obtain ⟨e9, rfl⟩ := h9
      refine p_int e9 ?_
      refine p_i2l C dX3_write_21 ?_
      obtain ⟨x, hx⟩ : ∃ x, x = (mrow Am i) n11 := ⟨_, rfl⟩
      refine p_st (st9 := [.long x.toInt64]) (by rw [hx]) ?_
      rw [show txN (mrow Am i) (n11 + 1) t = txN (mrow Am i) n11 (if mrow Am i n11 = 0 then t else paL (mrow Am i n11) n11 t) from rfl, ← hx] at hT
      refine p_lstore_n (lv9 := [(3, .long x.toInt64), (0, .ref (md 0)), (1, .int (nI i)), (2, .int (nI n11))]) C rfl (by decide) rfl dX3_write_22 ?_
      refine p_lload_n C rfl 0 rfl dX3_write_23 ?_
      refine p_lconst (v := 0) C (by decide) dX3_write_24 ?_
      refine p_lcmp C dX3_write_25 ?_
      refine p_if_ne C 32 (by decide) dX3_write_26 (fun c_26 => ?_) (fun c_26 => ?_)
      · have hx0 : ¬ x = 0 := fun z9 => c_26 (lx_eq.mpr z9)
        have hab := ab_pos hx0
        have hab2 := ab_le x
        have hsd := sb_dg_in (ab x)
        have := sgL_le x t
        have := dgL_le x n11
        have := xL_le n11
        have := pL_le n11
        have := paL_le x n11 t
        have : (t ++ sgL x t).length = (t).length + (sgL x t).length := List.length_append
        have : (t ++ sgL x t ++ dgL x n11).length = (t ++ sgL x t).length + (dgL x n11).length := List.length_append
        have : (t ++ sgL x t ++ dgL x n11 ++ xL n11).length = (t ++ sgL x t ++ dgL x n11).length + (xL n11).length := List.length_append
        have j124 : ∀ (c9 s9 v9 cp9 : Nat) (bt9 : Nat → Int32), wI (paL x n11 t) c9 s9 cp9 bt9 → WP p l e (rmL 5 3 246) s m args below meth c D A 5 (MW k md th (nI n) Am Wk Mo v9 cp9 bt9 ml9 (nI (paL x n11 t).length) Y) [(0, .ref (md 0)), (1, .int (nI i)), (2, .int (nI n11))] c9 s9 Q 124 [] := by
          intro c9 s9 v9 cp9 bt9 hw
          have hwb := hw.2.1
          have hwb2 := hw.2.2.1
          refine p_iinc (lv9 := [(2, .int (nI n11 - 1)), (0, .ref (md 0)), (1, .int (nI i))]) (v := (nI n11 - 1)) C (j := 2) rfl (i_dn _) (by decide) rfl dX3_write_124 ?_
          refine p_goto C 11 (by decide) dX3_write_127 ?_
          refine p_lv (lv9 := [(0, .ref (md 0)), (1, .int (nI i)), (2, .int (nI n11 - 1))]) [1, 2, 0] rfl ?_
          exact ih11 (paL x n11 t) c9 s9 v9 cp9 bt9 hw (by omega) ((show _ = txN _ n11 (if _ then _ else _) from (by rw [if_neg hx0])).trans hT) (by omega)
        have j110 : ∀ (c9 s9 v9 cp9 : Nat) (bt9 : Nat → Int32), wI (t ++ sgL x t ++ dgL x n11 ++ xL n11) c9 s9 cp9 bt9 → WP p l e (rmL 5 3 246) s m args below meth c D A 5 (MW k md th (nI n) Am Wk Mo v9 cp9 bt9 ml9 (nI (t ++ sgL x t ++ dgL x n11 ++ xL n11).length) Y) [(0, .ref (md 0)), (1, .int (nI i)), (2, .int (nI n11))] c9 s9 Q 110 [] := by
          intro c9 s9 v9 cp9 bt9 hw
          have hwb := hw.2.1
          have hwb2 := hw.2.2.1
          refine p_iload_n C rfl 2 rfl dX3_write_110 ?_
          refine p_iconst (v := 1) C (by decide) dX3_write_111 ?_
          refine p_icmp_le C 124 (by decide) dX3_write_112 (fun c_112 => ?_) (fun c_112 => ?_)
          · have es : pL n11 = [] := if_neg (by have := (nI_leI (b := 1) (by omega) (by omega)).mp c_112; omega)
            have hln : (paL x n11 t).length = (t ++ sgL x t ++ dgL x n11 ++ xL n11).length := by rw [show paL x n11 t = t ++ sgL x t ++ dgL x n11 ++ xL n11 ++ pL n11 from rfl]; rw [es, List.append_nil]
            refine p_w (w9 := (MW k md th (nI n) Am Wk Mo v9 cp9 bt9 ml9 (nI (paL x n11 t).length) Y)) (by rw [hln]) ?_
            exact j124 _ _ _ _ _ (by rw [show paL x n11 t = t ++ sgL x t ++ dgL x n11 ++ xL n11 ++ pL n11 from rfl]; rw [es, List.append_nil]; exact hw)
          · refine p_aload_n C rfl 0 rfl dX3_write_115 ?_
            refine p_get (v := .ref (md 4)) (T := TX3) C 0 rfl rfl 5 (by decide) inX3 qfl_X3_22 (fun _ h9 => h9) rfl dX3_write_116 ?_
            refine p_iload_n C rfl 2 rfl dX3_write_119 ?_
            obtain ⟨hb1, hb2, hb3, hb4, hb5, hb6⟩ := wI_b hw (q := (t ++ sgL x t ++ dgL x n11 ++ xL n11).length + 1) (by omega) (by omega)
            refine c_Vr (As := [.int (nI n11)]) (rest := []) C (m_J4_appI l D k (cn := (t ++ sgL x t ++ dgL x n11 ++ xL n11).length) (x9 := n11) (by omega) hb3 hb5 hb6) 4 rfl rfl rfl qml_X3_148 qim_J4_append_bf812 qse_J4_J4_append_bf812 qin_J4 qco_J4_append_bf812 nd_J4_append_bf812 ⟨Nat.le_of_ble_eq_true rfl, Nat.le_of_ble_eq_true rfl⟩ (Nat.le_of_ble_eq_true rfl) ⟨by (try simp only [rmL_c, rmL_s]); omega, by (try simp only [rmL_c, rmL_s]); omega⟩ rfl dX3_write_120 (fun r9 w9 h9 => ?_)
            obtain ⟨rfl, v8, bt8, hf8, hk8, hx8, rfl⟩ := h9
            refine p_pop C rfl dX3_write_123 ?_
            have es : pL n11 = [48 + n11] := if_pos (Nat.lt_of_not_le fun z9 => c_112 ((nI_leI (b := 1) (by omega) (by omega)).mpr z9))
            have hln : (paL x n11 t).length = ((t ++ sgL x t ++ dgL x n11 ++ xL n11).length + 1) := by rw [show paL x n11 t = t ++ sgL x t ++ dgL x n11 ++ xL n11 ++ pL n11 from rfl]; rw [es, List.length_append]; first | rfl | rw [decL_len]
            refine p_w (w9 := (MW k md th (nI n) Am Wk Mo v8 (cwA ((t ++ sgL x t ++ dgL x n11 ++ xL n11).length + 1) cp9) bt8 ml9 (nI (paL x n11 t).length) Y)) (by rw [hln]) ?_
            exact j124 _ _ _ _ _ (by rw [show paL x n11 t = t ++ sgL x t ++ dgL x n11 ++ xL n11 ++ pL n11 from rfl]; rw [es]; exact (wI_c hw (by omega) hf8 hk8 hx8))
        have j96 : ∀ (c9 s9 v9 cp9 : Nat) (bt9 : Nat → Int32), wI (t ++ sgL x t ++ dgL x n11) c9 s9 cp9 bt9 → WP p l e (rmL 5 3 246) s m args below meth c D A 5 (MW k md th (nI n) Am Wk Mo v9 cp9 bt9 ml9 (nI (t ++ sgL x t ++ dgL x n11).length) Y) [(0, .ref (md 0)), (1, .int (nI i)), (2, .int (nI n11))] c9 s9 Q 96 [] := by
          intro c9 s9 v9 cp9 bt9 hw
          have hwb := hw.2.1
          have hwb2 := hw.2.2.1
          refine p_iload_n C rfl 2 rfl dX3_write_96 ?_
          refine p_if_le C 110 (by decide) dX3_write_97 (fun c_97 => ?_) (fun c_97 => ?_)
          · have es : xL n11 = [] := if_neg (by have := (nI_le0 (by omega)).mp c_97; omega)
            have hln : (t ++ sgL x t ++ dgL x n11 ++ xL n11).length = (t ++ sgL x t ++ dgL x n11).length := by rw [es, List.append_nil]
            refine p_w (w9 := (MW k md th (nI n) Am Wk Mo v9 cp9 bt9 ml9 (nI (t ++ sgL x t ++ dgL x n11 ++ xL n11).length) Y)) (by rw [hln]) ?_
            exact j110 _ _ _ _ _ (by rw [es, List.append_nil]; exact hw)
          · refine p_aload_n C rfl 0 rfl dX3_write_100 ?_
            refine p_get (v := .ref (md 4)) (T := TX3) C 0 rfl rfl 5 (by decide) inX3 qfl_X3_22 (fun _ h9 => h9) rfl dX3_write_101 ?_
            refine p_bipush (v := 120) C (by decide) dX3_write_104 ?_
            obtain ⟨hb1, hb2, hb3, hb4, hb5, hb6⟩ := wI_b hw (q := (t ++ sgL x t ++ dgL x n11).length + 1) (by omega) (by omega)
            refine c_Vr (As := [.int 120]) (rest := []) C (m_J4_appC l D k (cn := (t ++ sgL x t ++ dgL x n11).length) (c9 := 120) (by omega) hb3 hb5 hb6) 4 rfl rfl rfl qml_X3_138 qim_J4_append_cf468 qse_J4_J4_append_cf468 qin_J4 qco_J4_append_cf468 nd_J4_append_cf468 ⟨Nat.le_of_ble_eq_true rfl, Nat.le_of_ble_eq_true rfl⟩ (Nat.le_of_ble_eq_true rfl) ⟨by (try simp only [rmL_c, rmL_s]); omega, by (try simp only [rmL_c, rmL_s]); omega⟩ rfl dX3_write_106 (fun r9 w9 h9 => ?_)
            obtain ⟨rfl, v8, bt8, hf8, hk8, hx8, rfl⟩ := h9
            refine p_pop C rfl dX3_write_109 ?_
            have es : xL n11 = [120] := if_pos (Nat.pos_of_ne_zero fun z9 => c_97 ((nI_le0 (by omega)).mpr z9))
            have hln : (t ++ sgL x t ++ dgL x n11 ++ xL n11).length = ((t ++ sgL x t ++ dgL x n11).length + 1) := by rw [es, List.length_append]; first | rfl | rw [decL_len]
            refine p_w (w9 := (MW k md th (nI n) Am Wk Mo v8 (cwA ((t ++ sgL x t ++ dgL x n11).length + 1) cp9) bt8 ml9 (nI (t ++ sgL x t ++ dgL x n11 ++ xL n11).length) Y)) (by rw [hln]) ?_
            exact j110 _ _ _ _ _ (by rw [es]; exact (wI_c hw (by omega) hf8 hk8 hx8))
        have j71 : ∀ (c9 s9 v9 cp9 : Nat) (bt9 : Nat → Int32), wI (t ++ sgL x t) c9 s9 cp9 bt9 → WP p l e (rmL 5 3 246) s m args below meth c D A 5 (MW k md th (nI n) Am Wk Mo v9 cp9 bt9 ml9 (nI (t ++ sgL x t).length) Y) [(0, .ref (md 0)), (1, .int (nI i)), (2, .int (nI n11)), (3, .long x.toInt64)] c9 s9 Q 71 [] := by
          intro c9 s9 v9 cp9 bt9 hw
          have hwb := hw.2.1
          have hwb2 := hw.2.2.1
          refine p_lload_n C rfl 3 rfl dX3_write_71 ?_
          refine p_labs (x := x) (rest := []) C qml_X3_101 qst_J9_abs_067f4 qin_J9 qma_abs_long (Nat.le_of_ble_eq_true rfl) (Nat.le_of_ble_eq_true rfl) (by (try simp only [rmL_c, rmL_s]); omega) (by (try simp only [rmL_c, rmL_s]); omega) dX3_write_72 ?_
          refine p_lconst (v := 1) C (by decide) dX3_write_75 ?_
          refine p_lcmp C dX3_write_76 ?_
          refine p_if_gt C 84 (by decide) dX3_write_77 (fun c_77 => ?_) (fun c_77 => ?_)
          · refine p_aload_n C rfl 0 rfl dX3_write_84 ?_
            refine p_get (v := .ref (md 4)) (T := TX3) C 0 rfl rfl 5 (by decide) inX3 qfl_X3_22 (fun _ h9 => h9) rfl dX3_write_85 ?_
            refine p_lload_n C rfl 3 rfl dX3_write_88 ?_
            refine p_labs (x := x) (rest := [.ref (md 4)]) C qml_X3_101 qst_J9_abs_067f4 qin_J9 qma_abs_long (Nat.le_of_ble_eq_true rfl) (Nat.le_of_ble_eq_true rfl) (by (try simp only [rmL_c, rmL_s]); omega) (by (try simp only [rmL_c, rmL_s]); omega) dX3_write_89 ?_
            obtain ⟨hb1, hb2, hb3, hb4, hb5, hb6⟩ := wI_b hw (q := (t ++ sgL x t).length + sb_dg (ab x)) (by omega) (by omega)
            refine c_Vr (As := [.long (lN (ab x))]) (rest := []) C (m_J4_appJ l D k (cn := (t ++ sgL x t).length) (u := (ab x)) (ab_le _) hb3 hb4 hb5 hb6) 4 rfl rfl rfl qml_X3_145 qim_J4_append_f7089 qse_J4_J4_append_f7089 qin_J4 qco_J4_append_f7089 nd_J4_append_f7089 ⟨Nat.le_of_ble_eq_true rfl, Nat.le_of_ble_eq_true rfl⟩ (Nat.le_of_ble_eq_true rfl) ⟨by (try simp only [rmL_c, rmL_s]); omega, by (try simp only [rmL_c, rmL_s]); omega⟩ rfl dX3_write_92 (fun r9 w9 h9 => ?_)
            obtain ⟨rfl, v8, bt8, hf8, hk8, hx8, rfl⟩ := h9
            refine p_pop C rfl dX3_write_95 ?_
            refine p_lv (lv9 := [(0, .ref (md 0)), (1, .int (nI i)), (2, .int (nI n11))]) [0, 1, 2] rfl ?_
            have es : dgL x n11 = decL (ab x) := if_neg (fun z9 => by have := (l_1 (by omega)).mp c_77; omega)
            have hln : (t ++ sgL x t ++ dgL x n11).length = ((t ++ sgL x t).length + sb_dg (ab x)) := by rw [es, List.length_append]; first | rfl | rw [decL_len]
            refine p_w (w9 := (MW k md th (nI n) Am Wk Mo v8 (cwA ((t ++ sgL x t).length + sb_dg (ab x)) cp9) bt8 ml9 (nI (t ++ sgL x t ++ dgL x n11).length) Y)) (by rw [hln]) ?_
            exact j96 _ _ _ _ _ (by rw [es]; exact (wI_j hw (by omega) hf8 hk8 hx8))
          · refine p_iload_n C rfl 2 rfl dX3_write_80 ?_
            refine p_if_ne C 96 (by decide) dX3_write_81 (fun c_81 => ?_) (fun c_81 => ?_)
            · refine p_lv (lv9 := [(0, .ref (md 0)), (1, .int (nI i)), (2, .int (nI n11))]) [0, 1, 2] rfl ?_
              have es : dgL x n11 = [] := if_pos ⟨by have : ¬ 1 < ab x := fun z9 => c_77 ((l_1 (by omega)).mpr z9); omega, fun z9 => c_81 ((nI_e0 (by omega)).mpr z9)⟩
              have hln : (t ++ sgL x t ++ dgL x n11).length = (t ++ sgL x t).length := by rw [es, List.append_nil]
              refine p_w (w9 := (MW k md th (nI n) Am Wk Mo v9 cp9 bt9 ml9 (nI (t ++ sgL x t ++ dgL x n11).length) Y)) (by rw [hln]) ?_
              exact j96 _ _ _ _ _ (by rw [es, List.append_nil]; exact hw)
            · refine p_aload_n C rfl 0 rfl dX3_write_84 ?_
              refine p_get (v := .ref (md 4)) (T := TX3) C 0 rfl rfl 5 (by decide) inX3 qfl_X3_22 (fun _ h9 => h9) rfl dX3_write_85 ?_
              refine p_lload_n C rfl 3 rfl dX3_write_88 ?_
              refine p_labs (x := x) (rest := [.ref (md 4)]) C qml_X3_101 qst_J9_abs_067f4 qin_J9 qma_abs_long (Nat.le_of_ble_eq_true rfl) (Nat.le_of_ble_eq_true rfl) (by (try simp only [rmL_c, rmL_s]); omega) (by (try simp only [rmL_c, rmL_s]); omega) dX3_write_89 ?_
              obtain ⟨hb1, hb2, hb3, hb4, hb5, hb6⟩ := wI_b hw (q := (t ++ sgL x t).length + sb_dg (ab x)) (by omega) (by omega)
              refine c_Vr (As := [.long (lN (ab x))]) (rest := []) C (m_J4_appJ l D k (cn := (t ++ sgL x t).length) (u := (ab x)) (ab_le _) hb3 hb4 hb5 hb6) 4 rfl rfl rfl qml_X3_145 qim_J4_append_f7089 qse_J4_J4_append_f7089 qin_J4 qco_J4_append_f7089 nd_J4_append_f7089 ⟨Nat.le_of_ble_eq_true rfl, Nat.le_of_ble_eq_true rfl⟩ (Nat.le_of_ble_eq_true rfl) ⟨by (try simp only [rmL_c, rmL_s]); omega, by (try simp only [rmL_c, rmL_s]); omega⟩ rfl dX3_write_92 (fun r9 w9 h9 => ?_)
              obtain ⟨rfl, v8, bt8, hf8, hk8, hx8, rfl⟩ := h9
              refine p_pop C rfl dX3_write_95 ?_
              refine p_lv (lv9 := [(0, .ref (md 0)), (1, .int (nI i)), (2, .int (nI n11))]) [0, 1, 2] rfl ?_
              have es : dgL x n11 = decL (ab x) := if_neg (fun z9 => z9.2 ((nI_e0 (by omega)).mp (c_81)))
              have hln : (t ++ sgL x t ++ dgL x n11).length = ((t ++ sgL x t).length + sb_dg (ab x)) := by rw [es, List.length_append]; first | rfl | rw [decL_len]
              refine p_w (w9 := (MW k md th (nI n) Am Wk Mo v8 (cwA ((t ++ sgL x t).length + sb_dg (ab x)) cp9) bt8 ml9 (nI (t ++ sgL x t ++ dgL x n11).length) Y)) (by rw [hln]) ?_
              exact j96 _ _ _ _ _ (by rw [es]; exact (wI_j hw (by omega) hf8 hk8 hx8))
        refine p_lload_n C rfl 0 rfl dX3_write_32 ?_
        refine p_lconst (v := 0) C (by decide) dX3_write_33 ?_
        refine p_lcmp C dX3_write_34 ?_
        refine p_if_ge C 51 (by decide) dX3_write_35 (fun c_35 => ?_) (fun c_35 => ?_)
        · refine p_aload_n C rfl 1 rfl dX3_write_51 ?_
          refine p_get (v := .ref (md 4)) (T := TX3) C 0 rfl rfl 5 (by decide) inX3 qfl_X3_22 (fun _ h9 => h9) rfl dX3_write_52 ?_
          refine c_Vi (As := []) (rest := []) C (m_J4_length l D k ) 4 rfl rfl rfl qml_X3_142 qim_J4_length_8abf5 qse_J4_J4_length_8abf5 qin_J4 qco_J4_length_8abf5 nd_J4_length_8abf5 ⟨Nat.le_of_ble_eq_true rfl, Nat.le_of_ble_eq_true rfl⟩ (Nat.le_of_ble_eq_true rfl) ⟨by (try simp only [rmL_c, rmL_s]); omega, by (try simp only [rmL_c, rmL_s]); omega⟩ rfl dX3_write_55 (fun r9 w9 h9 => ?_)
          obtain ⟨e9, rfl⟩ := h9
          refine p_int e9 ?_
          refine p_if_le C 71 (by decide) dX3_write_58 (fun c_58 => ?_) (fun c_58 => ?_)
          · refine p_lv (lv9 := [(0, .ref (md 0)), (1, .int (nI i)), (2, .int (nI n11)), (3, .long x.toInt64)]) [1, 2, 3, 0] rfl ?_
            have es : sgL x t = [] := (if_neg (lx_ge c_35)).trans (if_neg (by have := (nI_le0 (by omega)).mp c_58; omega))
            have hln : (t ++ sgL x t).length = t.length := by rw [es, List.append_nil]
            refine p_w (w9 := (MW k md th (nI n) Am Wk Mo v9 cp9 bt9 ml9 (nI (t ++ sgL x t).length) Y)) (by rw [hln]) ?_
            exact j71 _ _ _ _ _ (by rw [es, List.append_nil]; exact hw)
          · refine p_aload_n C rfl 1 rfl dX3_write_61 ?_
            refine p_get (v := .ref (md 4)) (T := TX3) C 0 rfl rfl 5 (by decide) inX3 qfl_X3_22 (fun _ h9 => h9) rfl dX3_write_62 ?_
            refine p_bipush (v := 43) C (by decide) dX3_write_65 ?_
            obtain ⟨hb1, hb2, hb3, hb4, hb5, hb6⟩ := wI_b hw (q := t.length + 1) (by omega) (by omega)
            refine c_Vr (As := [.int 43]) (rest := []) C (m_J4_appC l D k (cn := t.length) (c9 := 43) (by omega) hb3 hb5 hb6) 4 rfl rfl rfl qml_X3_138 qim_J4_append_cf468 qse_J4_J4_append_cf468 qin_J4 qco_J4_append_cf468 nd_J4_append_cf468 ⟨Nat.le_of_ble_eq_true rfl, Nat.le_of_ble_eq_true rfl⟩ (Nat.le_of_ble_eq_true rfl) ⟨by (try simp only [rmL_c, rmL_s]); omega, by (try simp only [rmL_c, rmL_s]); omega⟩ rfl dX3_write_67 (fun r9 w9 h9 => ?_)
            obtain ⟨rfl, v8, bt8, hf8, hk8, hx8, rfl⟩ := h9
            refine p_pop C rfl dX3_write_70 ?_
            refine p_lv (lv9 := [(0, .ref (md 0)), (1, .int (nI i)), (2, .int (nI n11)), (3, .long x.toInt64)]) [1, 2, 3, 0] rfl ?_
            have es : sgL x t = [43] := (if_neg (lx_ge c_35)).trans (if_pos (Nat.pos_of_ne_zero fun z9 => c_58 ((nI_le0 (by omega)).mpr z9)))
            have hln : (t ++ sgL x t).length = (t.length + 1) := by rw [es, List.length_append]; first | rfl | rw [decL_len]
            refine p_w (w9 := (MW k md th (nI n) Am Wk Mo v8 (cwA (t.length + 1) cp9) bt8 ml9 (nI (t ++ sgL x t).length) Y)) (by rw [hln]) ?_
            exact j71 _ _ _ _ _ (by rw [es]; exact (wI_c hw (by omega) hf8 hk8 hx8))
        · refine p_aload_n C rfl 1 rfl dX3_write_38 ?_
          refine p_get (v := .ref (md 4)) (T := TX3) C 0 rfl rfl 5 (by decide) inX3 qfl_X3_22 (fun _ h9 => h9) rfl dX3_write_39 ?_
          refine p_bipush (v := 45) C (by decide) dX3_write_42 ?_
          obtain ⟨hb1, hb2, hb3, hb4, hb5, hb6⟩ := wI_b hw (q := t.length + 1) (by omega) (by omega)
          refine c_Vr (As := [.int 45]) (rest := []) C (m_J4_appC l D k (cn := t.length) (c9 := 45) (by omega) hb3 hb5 hb6) 4 rfl rfl rfl qml_X3_138 qim_J4_append_cf468 qse_J4_J4_append_cf468 qin_J4 qco_J4_append_cf468 nd_J4_append_cf468 ⟨Nat.le_of_ble_eq_true rfl, Nat.le_of_ble_eq_true rfl⟩ (Nat.le_of_ble_eq_true rfl) ⟨by (try simp only [rmL_c, rmL_s]); omega, by (try simp only [rmL_c, rmL_s]); omega⟩ rfl dX3_write_44 (fun r9 w9 h9 => ?_)
          obtain ⟨rfl, v8, bt8, hf8, hk8, hx8, rfl⟩ := h9
          refine p_pop C rfl dX3_write_47 ?_
          refine p_goto C 71 (by decide) dX3_write_48 ?_
          refine p_lv (lv9 := [(0, .ref (md 0)), (1, .int (nI i)), (2, .int (nI n11)), (3, .long x.toInt64)]) [1, 2, 3, 0] rfl ?_
          have es : sgL x t = [45] := if_pos (lx_lt c_35)
          have hln : (t ++ sgL x t).length = (t.length + 1) := by rw [es, List.length_append]; first | rfl | rw [decL_len]
          refine p_w (w9 := (MW k md th (nI n) Am Wk Mo v8 (cwA (t.length + 1) cp9) bt8 ml9 (nI (t ++ sgL x t).length) Y)) (by rw [hln]) ?_
          exact j71 _ _ _ _ _ (by rw [es]; exact (wI_c hw (by omega) hf8 hk8 hx8))
      · have hx0 : x = 0 := lx_eq.mp (c_26)
        refine p_goto C 124 (by decide) dX3_write_29 ?_
        refine p_iinc (lv9 := [(2, .int (nI n11 - 1)), (3, .long x.toInt64), (0, .ref (md 0)), (1, .int (nI i))]) (v := (nI n11 - 1)) C (j := 3) rfl (i_dn _) (by decide) rfl dX3_write_124 ?_
        refine p_goto C 11 (by decide) dX3_write_127 ?_
        refine p_lv (lv9 := [(0, .ref (md 0)), (1, .int (nI i)), (2, .int (nI n11 - 1))]) [2, 3, 0] rfl ?_
        exact ih11 t c9 s9 v9 cp9 bt9 hw (by omega) ((show _ = txN _ n11 (if _ then _ else _) from (by rw [if_pos hx0])).trans hT) (by omega)
  exact lp11 9 [] 0 0 v cp bt ⟨hok, by have := pC_le cp; omega, by have := pS_le cp; omega, hft, tHas_nil _, Nat.zero_le _⟩ (by decide) rfl (Nat.le_refl _)
set_option maxHeartbeats 4000000 in
set_option maxRecDepth 100000 in
/-- textOf -/
theorem m_X3_textOf (l : Launch) (D : va_G) (k : Nat → ClassId) {md : Nat → Nat} {th : Int32} {n : Nat} {Am Wk Mo : Nat → Int32} {v cp cn : Nat} {bt : Nat → Int32} {ml : Int32} {Y : va_W} {i : Nat} (hi : i < 16) (hok : cpOK cp) (hft : sb_Fit bt) (hm : cn ≤ cp) : CtI l D k yX3_textOf (wU yX3_textOf cX3_textOf 2 (some .int)) (rmL 6 3 246) [.ref (md 0), .int (nI i)] (MW k md th (nI n) Am Wk Mo v cp bt ml (nI cn) Y) (fun r w' => r = nI (tx (mrow Am i)).length ∧ ∃ v' cp' bt' ml', cpOK cp' ∧ sb_Fit bt' ∧ tHas bt' (tx (mrow Am i)) ∧ (tx (mrow Am i)).length ≤ cp' ∧ w' = (MW k md th (nI n) Am Wk Mo v' cp' bt' ml' (nI (tx (mrow Am i)).length) Y)) := by
  refine openI (own := RX3) rfl (by decide) (Nat.le_of_ble_eq_true rfl) rfl ?_
  intro p e s m args below meth c A C hrt9 hnm
  obtain ⟨Q, hQ⟩ : ∃ Q, Q = (MQ below (va_Qi (fun r w' => r = nI (tx (mrow Am i)).length ∧ ∃ v' cp' bt' ml', cpOK cp' ∧ sb_Fit bt' ∧ tHas bt' (tx (mrow Am i)) ∧ (tx (mrow Am i)).length ≤ cp' ∧ w' = (MW k md th (nI n) Am Wk Mo v' cp' bt' ml' (nI (tx (mrow Am i)).length) Y)) (cBA D A) A) args s 3 246 A) := ⟨_, rfl⟩
  show WP p l e (rmL 6 3 246) s m args below meth c D A 2 (MW k md th (nI n) Am Wk Mo v cp bt ml (nI cn) Y) [(0, .ref (md 0)), (1, .int (nI i))] 0 0 (MQ below (va_Qi (fun r w' => r = nI (tx (mrow Am i)).length ∧ ∃ v' cp' bt' ml', cpOK cp' ∧ sb_Fit bt' ∧ tHas bt' (tx (mrow Am i)) ∧ (tx (mrow Am i)).length ≤ cp' ∧ w' = (MW k md th (nI n) Am Wk Mo v' cp' bt' ml' (nI (tx (mrow Am i)).length) Y)) (cBA D A) A) args s 3 246 A) 0 []
  rw [← hQ]
  refine p_aload_n C rfl 0 rfl dX3_textOf_0 ?_
  refine p_iload_n C rfl 1 rfl dX3_textOf_1 ?_
  refine c_Vv (As := [.int (nI i)]) (rest := []) C (m_X3_write l D k (i := i) (by omega) hok hft hm) 0 rfl rfl rfl qml_X3_151 qim_X3_write qse_X3_X3_write qin_X3 qco_X3_write nd_X3_write ⟨Nat.le_of_ble_eq_true rfl, Nat.le_of_ble_eq_true rfl⟩ (Nat.le_of_ble_eq_true rfl) ⟨Nat.le_of_ble_eq_true rfl, Nat.le_of_ble_eq_true rfl⟩ rfl dX3_textOf_2 (fun w9 h9 => ?_)
  obtain ⟨v7, cp7, bt7, ml7, hok7, hft7, ht7, hl7, rfl⟩ := h9
  refine p_aload_n C rfl 0 rfl dX3_textOf_5 ?_
  refine p_get (v := .ref (md 4)) (T := TX3) C 0 rfl rfl 5 (by decide) inX3 qfl_X3_22 (fun _ h9 => h9) rfl dX3_textOf_6 ?_
  refine c_Vi (As := []) (rest := []) C (m_J4_length l D k ) 4 rfl rfl rfl qml_X3_142 qim_J4_length_8abf5 qse_J4_J4_length_8abf5 qin_J4 qco_J4_length_8abf5 nd_J4_length_8abf5 ⟨Nat.le_of_ble_eq_true rfl, Nat.le_of_ble_eq_true rfl⟩ (Nat.le_of_ble_eq_true rfl) ⟨Nat.le_of_ble_eq_true rfl, Nat.le_of_ble_eq_true rfl⟩ rfl dX3_textOf_9 (fun r9 w9 h9 => ?_)
  obtain ⟨e9, rfl⟩ := h9
  refine p_int e9 ?_
  rw [hQ]
  exact r_i C hrt9 (⟨rfl, _, _, _, _, hok7, hft7, ht7, hl7, rfl⟩) (by decide) (by decide) dX3_textOf_12
/-! the signs of a text -/
theorem decL_128 (u : Nat) : ∀ c ∈ decL u, c < 128 := fun c hc => by
  unfold decL at hc
  rw [List.mem_map] at hc
  obtain ⟨j, -, rfl⟩ := hc
  have := dec_lt u j
  omega
theorem paL_128 {x : Int32} {q : Nat} {t : List Nat} (hq : q < 10) (h : ∀ c ∈ t, c < 128) : ∀ c ∈ paL x q t, c < 128 := fun c hc => by
  unfold paL at hc
  simp only [List.mem_append] at hc
  rcases hc with (((hc | hc) | hc) | hc) | hc
  · exact h c hc
  · unfold sgL at hc
    split at hc
    · cases List.mem_singleton.mp hc; decide
    · split at hc
      · cases List.mem_singleton.mp hc; decide
      · cases hc
  · unfold dgL at hc
    split at hc
    · cases hc
    · exact decL_128 _ c hc
  · unfold xL at hc
    split at hc
    · cases List.mem_singleton.mp hc; decide
    · cases hc
  · unfold pL at hc
    split at hc
    · have := List.mem_singleton.mp hc; omega
    · cases hc
theorem txN_128 (f : Nat → Int32) : ∀ (q : Nat) (t : List Nat), q ≤ 9 → (∀ c ∈ t, c < 128) → ∀ c ∈ txN f q t, c < 128
  | 0, t, _, h => h
  | q + 1, t, hq, h => by
    refine txN_128 f q _ (by omega) ?_
    split
    · exact h
    · exact paL_128 (by omega) h
theorem tx_128 (f : Nat → Int32) (j : Nat) : (tx f).getD j 0 < 128 := by
  have h : ∀ c ∈ tx f, c < 128 := fun c hc => by
    unfold tx txE at hc
    split at hc
    · cases List.mem_singleton.mp hc; decide
    · exact txN_128 f 9 [] (Nat.le_refl _) (fun _ h => absurd h (List.not_mem_nil)) c hc
  rcases Nat.lt_or_ge j (tx f).length with q | q
  · rw [List.getD_eq_getElem?_getD, List.getElem?_eq_getElem q]
    exact h _ (List.getElem_mem q)
  · rw [List.getD_eq_getElem?_getD, List.getElem?_eq_none q]; decide
theorem isF_spec {N : Nat} (hN : N < 2 ^ 31) {v : Int32} (h : isF v 0 (nI N - 1) = true) : ∃ j, j < N ∧ v = nI j := by
  obtain ⟨h1, h2⟩ := of_decide_eq_true h
  obtain ⟨j, hj, rfl⟩ := nI_of (Int32.not_lt.mpr h1)
  refine ⟨j, ?_, rfl⟩
  rw [Int32.le_iff_toInt_le, nI_toInt hj] at h2
  rcases N with _ | N
  · rw [i_z1] at h2; have : (-1 : Int32).toInt = -1 := rfl; omega
  · rw [nI_pred, nI_toInt (by omega)] at h2; omega
theorem isF_of {N j : Nat} (hN : N < 2 ^ 31) (h : j < N) : isF (nI j) 0 (nI N - 1) = true := by
  obtain ⟨m, rfl⟩ : ∃ m, N = m + 1 := ⟨N - 1, by omega⟩
  rw [nI_pred]
  exact decide_eq_true ⟨nI_pos' (by omega), nI_le (by omega) (by omega)⟩
def eTA (n : Nat) (R : Nat → Nat → Int32) (rc a : Int32) : Int32 := if isR n rc && isF a 0 (nI (tx (R (ix rc))).length - 1) then 0 else 1
set_option maxHeartbeats 4000000 in
set_option maxRecDepth 100000 in
/-- textLength -/
theorem m_X3_textLength (l : Launch) (D : va_G) (k : Nat → ClassId) {md : Nat → Nat} {th : Int32} {n : Nat} {Am Wk Mo : Nat → Int32} {v cp cn : Nat} {bt : Nat → Int32} {ml : Int32} {Y : va_W} (hn : n ≤ 16) {rc : Int32} (hok : cpOK cp) (hft : sb_Fit bt) (hm : cn ≤ cp) : CtI l D k yX3_textLength (wU yX3_textLength cX3_textLength 2 (some .int)) (rmL 7 3 246) [.ref (md 0), .int rc] (MW k md th (nI n) Am Wk Mo v cp bt ml (nI cn) Y) (fun r w' => ∃ v' cp' bt' ml' cn', cpOK cp' ∧ sb_Fit bt' ∧ cn' ≤ cp' ∧ w' = (MW k md (e1 n rc) (nI n) Am Wk Mo v' cp' bt' ml' (nI cn') Y) ∧ ((e1 n rc) = 0 → r = nI (tx (mrow Am (ix rc))).length)) := by
  refine openI (own := RX3) rfl (by decide) (Nat.le_of_ble_eq_true rfl) rfl ?_
  intro p e s m args below meth c A C hrt9 hnm
  obtain ⟨Q, hQ⟩ : ∃ Q, Q = (MQ below (va_Qi (fun r w' => ∃ v' cp' bt' ml' cn', cpOK cp' ∧ sb_Fit bt' ∧ cn' ≤ cp' ∧ w' = (MW k md (e1 n rc) (nI n) Am Wk Mo v' cp' bt' ml' (nI cn') Y) ∧ ((e1 n rc) = 0 → r = nI (tx (mrow Am (ix rc))).length)) (cBA D A) A) args s 3 246 A) := ⟨_, rfl⟩
  show WP p l e (rmL 7 3 246) s m args below meth c D A 2 (MW k md th (nI n) Am Wk Mo v cp bt ml (nI cn) Y) [(0, .ref (md 0)), (1, .int rc)] 0 0 (MQ below (va_Qi (fun r w' => ∃ v' cp' bt' ml' cn', cpOK cp' ∧ sb_Fit bt' ∧ cn' ≤ cp' ∧ w' = (MW k md (e1 n rc) (nI n) Am Wk Mo v' cp' bt' ml' (nI cn') Y) ∧ ((e1 n rc) = 0 → r = nI (tx (mrow Am (ix rc))).length)) (cBA D A) A) args s 3 246 A) 0 []
  rw [← hQ]
  refine p_aload_n C rfl 0 rfl dX3_textLength_0 ?_
  refine p_iconst (v := 0) C (by decide) dX3_textLength_1 ?_
  refine p_put (w9 := (MW k md 0 (nI n) Am Wk Mo v cp bt ml (nI cn) Y)) (v := .int 0) (T := TX3) C tyX3 tyX3_ok nmX3 0 rfl rfl 0 (by decide) inX3 qfl_X3_26 (fun _ h9 => h9) rfl rfl rfl (Nat.le_of_ble_eq_true rfl) rfl dX3_textLength_2 ?_
  refine p_aload_n C rfl 0 rfl dX3_textLength_5 ?_
  refine p_iload_n C rfl 1 rfl dX3_textLength_6 ?_
  refine c_Vi (As := [.int rc]) (rest := []) C (m_X3_isRecipe l D k (x := rc)) 0 rfl rfl rfl qml_X3_73 qim_X3_isRecipe qse_X3_X3_isRecipe qin_X3 qco_X3_isRecipe nd_X3_isRecipe ⟨Nat.le_of_ble_eq_true rfl, Nat.le_of_ble_eq_true rfl⟩ (Nat.le_of_ble_eq_true rfl) ⟨Nat.le_of_ble_eq_true rfl, Nat.le_of_ble_eq_true rfl⟩ rfl dX3_textLength_7 (fun r9 w9 h9 => ?_)
  obtain ⟨e9, rfl⟩ := h9
  refine p_int e9 ?_
  refine p_if_eq C 21 (by decide) dX3_textLength_10 (fun c_10 => ?_) (fun c_10 => ?_)
  · have hr := bI_eq c_10
    refine p_aload_n C rfl 0 rfl dX3_textLength_21 ?_
    refine p_iconst (v := 1) C (by decide) dX3_textLength_22 ?_
    refine c_Vi (As := [.int 1]) (rest := []) C (m_X3_no l D k (x := 1)) 0 rfl rfl rfl qml_X3_66 qim_X3_no qse_X3_X3_no qin_X3 qco_X3_no nd_X3_no ⟨Nat.le_of_ble_eq_true rfl, Nat.le_of_ble_eq_true rfl⟩ (Nat.le_of_ble_eq_true rfl) ⟨Nat.le_of_ble_eq_true rfl, Nat.le_of_ble_eq_true rfl⟩ rfl dX3_textLength_23 (fun r9 w9 h9 => ?_)
    obtain ⟨e9, rfl⟩ := h9
    refine p_int e9 ?_
    rw [hQ]
    exact r_i C hrt9 (⟨_, _, _, _, cn, hok, hft, hm, by rw [show e1 n rc = 1 from by unfold e1; rw [hr]; rfl], fun q => absurd q (by rw [show e1 n rc = 1 from by unfold e1; rw [hr]; rfl]; exact one_n0)⟩) (by decide) (by decide) dX3_textLength_26
  · obtain ⟨i, hi, rfl⟩ := isR_spec hn (bI_ne c_10)
    have vi := isR_of hn hi
    refine p_aload_n C rfl 0 rfl dX3_textLength_13 ?_
    refine p_iload_n C rfl 1 rfl dX3_textLength_14 ?_
    refine c_Vi (As := [.int (nI i)]) (rest := []) C (m_X3_textOf l D k (i := i) (by omega) hok hft hm) 0 rfl rfl rfl qml_X3_154 qim_X3_textOf qse_X3_X3_textOf qin_X3 qco_X3_textOf nd_X3_textOf ⟨Nat.le_of_ble_eq_true rfl, Nat.le_of_ble_eq_true rfl⟩ (Nat.le_of_ble_eq_true rfl) ⟨Nat.le_of_ble_eq_true rfl, Nat.le_of_ble_eq_true rfl⟩ rfl dX3_textLength_15 (fun r9 w9 h9 => ?_)
    obtain ⟨e9, v7, cp7, bt7, ml7, hok7, hft7, ht7, hl7, rfl⟩ := h9
    refine p_int e9 ?_
    refine p_goto C 26 (by decide) dX3_textLength_18 ?_
    rw [hQ]
    exact r_i C hrt9 (⟨_, _, _, _, _, hok7, hft7, hl7, by rw [show e1 n (nI i) = 0 from by unfold e1; rw [vi]; rfl], fun _ => by rw [ix_nI (by omega)]⟩) (by decide) (by decide) dX3_textLength_26
set_option maxHeartbeats 4000000 in
set_option maxRecDepth 100000 in
/-- textAt -/
theorem m_X3_textAt (l : Launch) (D : va_G) (k : Nat → ClassId) {md : Nat → Nat} {th : Int32} {n : Nat} {Am Wk Mo : Nat → Int32} {v cp cn : Nat} {bt : Nat → Int32} {ml : Int32} {Y : va_W} (hn : n ≤ 16) {rc at9 : Int32} (hok : cpOK cp) (hft : sb_Fit bt) (hm : cn ≤ cp) : CtI l D k yX3_textAt (wU yX3_textAt cX3_textAt 3 (some .int)) (rmL 7 3 246) [.ref (md 0), .int rc, .int at9] (MW k md th (nI n) Am Wk Mo v cp bt ml (nI cn) Y) (fun r w' => ∃ v' cp' bt' ml' cn', cpOK cp' ∧ sb_Fit bt' ∧ cn' ≤ cp' ∧ w' = (MW k md (eTA n (mrow Am) rc at9) (nI n) Am Wk Mo v' cp' bt' ml' (nI cn') Y) ∧ ((eTA n (mrow Am) rc at9) = 0 → r = nI ((tx (mrow Am (ix rc))).getD (ix at9) 0))) := by
  refine openI (own := RX3) rfl (by decide) (Nat.le_of_ble_eq_true rfl) rfl ?_
  intro p e s m args below meth c A C hrt9 hnm
  obtain ⟨Q, hQ⟩ : ∃ Q, Q = (MQ below (va_Qi (fun r w' => ∃ v' cp' bt' ml' cn', cpOK cp' ∧ sb_Fit bt' ∧ cn' ≤ cp' ∧ w' = (MW k md (eTA n (mrow Am) rc at9) (nI n) Am Wk Mo v' cp' bt' ml' (nI cn') Y) ∧ ((eTA n (mrow Am) rc at9) = 0 → r = nI ((tx (mrow Am (ix rc))).getD (ix at9) 0))) (cBA D A) A) args s 3 246 A) := ⟨_, rfl⟩
  show WP p l e (rmL 7 3 246) s m args below meth c D A 3 (MW k md th (nI n) Am Wk Mo v cp bt ml (nI cn) Y) [(0, .ref (md 0)), (1, .int rc), (2, .int at9)] 0 0 (MQ below (va_Qi (fun r w' => ∃ v' cp' bt' ml' cn', cpOK cp' ∧ sb_Fit bt' ∧ cn' ≤ cp' ∧ w' = (MW k md (eTA n (mrow Am) rc at9) (nI n) Am Wk Mo v' cp' bt' ml' (nI cn') Y) ∧ ((eTA n (mrow Am) rc at9) = 0 → r = nI ((tx (mrow Am (ix rc))).getD (ix at9) 0))) (cBA D A) A) args s 3 246 A) 0 []
  rw [← hQ]
  refine p_aload_n C rfl 0 rfl dX3_textAt_0 ?_
  refine p_iconst (v := 0) C (by decide) dX3_textAt_1 ?_
  refine p_put (w9 := (MW k md 0 (nI n) Am Wk Mo v cp bt ml (nI cn) Y)) (v := .int 0) (T := TX3) C tyX3 tyX3_ok nmX3 0 rfl rfl 0 (by decide) inX3 qfl_X3_26 (fun _ h9 => h9) rfl rfl rfl (Nat.le_of_ble_eq_true rfl) rfl dX3_textAt_2 ?_
  refine p_aload_n C rfl 0 rfl dX3_textAt_5 ?_
  refine p_iload_n C rfl 1 rfl dX3_textAt_6 ?_
  refine c_Vi (As := [.int rc]) (rest := []) C (m_X3_isRecipe l D k (x := rc)) 0 rfl rfl rfl qml_X3_73 qim_X3_isRecipe qse_X3_X3_isRecipe qin_X3 qco_X3_isRecipe nd_X3_isRecipe ⟨Nat.le_of_ble_eq_true rfl, Nat.le_of_ble_eq_true rfl⟩ (Nat.le_of_ble_eq_true rfl) ⟨Nat.le_of_ble_eq_true rfl, Nat.le_of_ble_eq_true rfl⟩ rfl dX3_textAt_7 (fun r9 w9 h9 => ?_)
  obtain ⟨e9, rfl⟩ := h9
  refine p_int e9 ?_
  refine p_if_eq C 39 (by decide) dX3_textAt_10 (fun c_10 => ?_) (fun c_10 => ?_)
  · have hr := bI_eq c_10
    refine p_aload_n C rfl 0 rfl dX3_textAt_39 ?_
    refine p_iconst (v := 1) C (by decide) dX3_textAt_40 ?_
    refine c_Vi (As := [.int 1]) (rest := []) C (m_X3_no l D k (x := 1)) 0 rfl rfl rfl qml_X3_66 qim_X3_no qse_X3_X3_no qin_X3 qco_X3_no nd_X3_no ⟨Nat.le_of_ble_eq_true rfl, Nat.le_of_ble_eq_true rfl⟩ (Nat.le_of_ble_eq_true rfl) ⟨Nat.le_of_ble_eq_true rfl, Nat.le_of_ble_eq_true rfl⟩ rfl dX3_textAt_41 (fun r9 w9 h9 => ?_)
    obtain ⟨e9, rfl⟩ := h9
    refine p_int e9 ?_
    rw [hQ]
    exact r_i C hrt9 (⟨_, _, _, _, cn, hok, hft, hm, by rw [show eTA n (mrow Am) rc at9 = 1 from by unfold eTA; rw [hr]; rfl], fun q => absurd q (by rw [show eTA n (mrow Am) rc at9 = 1 from by unfold eTA; rw [hr]; rfl]; exact one_n0)⟩) (by decide) (by decide) dX3_textAt_44
  · obtain ⟨i, hi, rfl⟩ := isR_spec hn (bI_ne c_10)
    have vi := isR_of hn hi
    refine p_iload_n C rfl 2 rfl dX3_textAt_13 ?_
    refine p_iconst (v := 0) C (by decide) dX3_textAt_14 ?_
    refine p_aload_n C rfl 0 rfl dX3_textAt_15 ?_
    refine p_iload_n C rfl 1 rfl dX3_textAt_16 ?_
    refine c_Vi (As := [.int (nI i)]) (rest := [.int 0, .int at9]) C (m_X3_textOf l D k (i := i) (by omega) hok hft hm) 0 rfl rfl rfl qml_X3_154 qim_X3_textOf qse_X3_X3_textOf qin_X3 qco_X3_textOf nd_X3_textOf ⟨Nat.le_of_ble_eq_true rfl, Nat.le_of_ble_eq_true rfl⟩ (Nat.le_of_ble_eq_true rfl) ⟨Nat.le_of_ble_eq_true rfl, Nat.le_of_ble_eq_true rfl⟩ rfl dX3_textAt_17 (fun r9 w9 h9 => ?_)
    obtain ⟨e9, v7, cp7, bt7, ml7, hok7, hft7, ht7, hl7, rfl⟩ := h9
    refine p_int e9 ?_
    refine p_iconst (v := 1) C (by decide) dX3_textAt_20 ?_
    refine p_isub C dX3_textAt_21 ?_
    refine c_Si (As := [.int at9, .int 0, .int ((nI (tx (mrow Am i)).length) - 1)]) (rest := []) C (m_X3_isFrom l D k (x := at9) (lo := 0) (hi := ((nI (tx (mrow Am i)).length) - 1))) qml_X3_33 qst_X3_isFrom qin_X3 qco_X3_isFrom nd_X3_isFrom ⟨Nat.le_of_ble_eq_true rfl, Nat.le_of_ble_eq_true rfl⟩ (Nat.le_of_ble_eq_true rfl) ⟨Nat.le_of_ble_eq_true rfl, Nat.le_of_ble_eq_true rfl⟩ rfl dX3_textAt_22 (fun r9 w9 h9 => ?_)
    obtain ⟨e9, rfl⟩ := h9
    refine p_int e9 ?_
    refine p_if_eq C 39 (by decide) dX3_textAt_25 (fun c_25 => ?_) (fun c_25 => ?_)
    · have hp := bI_eq c_25
      refine p_aload_n C rfl 0 rfl dX3_textAt_39 ?_
      refine p_iconst (v := 1) C (by decide) dX3_textAt_40 ?_
      refine c_Vi (As := [.int 1]) (rest := []) C (m_X3_no l D k (x := 1)) 0 rfl rfl rfl qml_X3_66 qim_X3_no qse_X3_X3_no qin_X3 qco_X3_no nd_X3_no ⟨Nat.le_of_ble_eq_true rfl, Nat.le_of_ble_eq_true rfl⟩ (Nat.le_of_ble_eq_true rfl) ⟨Nat.le_of_ble_eq_true rfl, Nat.le_of_ble_eq_true rfl⟩ rfl dX3_textAt_41 (fun r9 w9 h9 => ?_)
      obtain ⟨e9, rfl⟩ := h9
      refine p_int e9 ?_
      rw [hQ]
      exact r_i C hrt9 (⟨_, _, _, _, _, hok7, hft7, hl7, by rw [show eTA n (mrow Am) (nI i) at9 = 1 from by unfold eTA; rw [vi, ix_nI (by omega), hp]; rfl], fun q => absurd q (by rw [show eTA n (mrow Am) (nI i) at9 = 1 from by unfold eTA; rw [vi, ix_nI (by omega), hp]; rfl]; exact one_n0)⟩) (by decide) (by decide) dX3_textAt_44
    · obtain ⟨j, hj, rfl⟩ := isF_spec (by have := tx_le (mrow Am i); omega) (bI_ne c_25)
      have vj := isF_of (j := j) (N := (tx (mrow Am i)).length) (by have := tx_le (mrow Am i); omega) hj
      refine p_aload_n C rfl 0 rfl dX3_textAt_28 ?_
      refine p_get (v := .ref (md 4)) (T := TX3) C 0 rfl rfl 5 (by decide) inX3 qfl_X3_22 (fun _ h9 => h9) rfl dX3_textAt_29 ?_
      refine p_iload_n C rfl 2 rfl dX3_textAt_32 ?_
      refine c_Vi (As := [.int (nI j)]) (rest := []) C (m_J4_charAt l D k (i9 := j) (c9 := (tx (mrow Am i)).getD j 0) hj hl7 (by have := cpOK_b hok7; omega) (tx_128 _ _) (ht7 j hj)) 4 rfl rfl rfl qml_X3_157 qim_J4_charAt_5068e qse_J4_J4_charAt_5068e qin_J4 qco_J4_charAt_5068e nd_J4_charAt_5068e ⟨Nat.le_of_ble_eq_true rfl, Nat.le_of_ble_eq_true rfl⟩ (Nat.le_of_ble_eq_true rfl) ⟨Nat.le_of_ble_eq_true rfl, Nat.le_of_ble_eq_true rfl⟩ rfl dX3_textAt_33 (fun r9 w9 h9 => ?_)
      obtain ⟨e9, rfl⟩ := h9
      refine p_int e9 ?_
      refine p_goto C 44 (by decide) dX3_textAt_36 ?_
      rw [hQ]
      exact r_i C hrt9 (⟨_, _, _, _, _, hok7, hft7, hl7, by rw [show eTA n (mrow Am) (nI i) (nI j) = 0 from by unfold eTA; rw [vi, ix_nI (by omega), vj]; rfl], fun _ => by rw [ix_nI (by omega), ix_nI (by have := tx_le (mrow Am i); omega)]; exact ht7 j hj⟩) (by decide) (by decide) dX3_textAt_44
