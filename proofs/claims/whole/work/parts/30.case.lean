theorem sel_n {α : Type} {e : Int32} (h : ¬ e = 0) (x y : α) : sel e x y = y := if_neg h
theorem cv_eSet {n : Nat} {a b c : Int32} (h : eSet n a b c = 0) : isR n a = true := by
  unfold eSet at h
  by_cases q : (isR n a && isF b 0 8) = true
  · exact (and_t q).1
  · rw [if_neg q] at h; exact absurd h (by decide)
theorem cv_eSetp {n : Nat} {a b c : Int32} (h : eSet n a b c = 0) : ix b < 9 := by
  unfold eSet at h
  by_cases q : (isR n a && isF b 0 8) = true
  · obtain ⟨j, hj, rfl⟩ := isF_spec (N := 9) (v := b) (by decide) (and_t q).2
    rw [ix_nI (by omega)]; exact hj
  · rw [if_neg q] at h; exact absurd h (by decide)
theorem cv_eAmt {n : Nat} {a b : Int32} (h : eAmt n a b = 0) : isR n a = true := by
  unfold eAmt at h
  by_cases q : isR n a = true
  · exact q
  · rw [if_neg (by simp [Bool.eq_false_iff.mpr q])] at h; exact absurd h (by decide)
theorem cv_eShift {n : Nat} {a b : Int32} (h : eShift n a b = 0) : isR n a = true := by
  unfold eShift at h
  by_cases q : isR n a = true
  · exact q
  · rw [if_neg (by simp [Bool.eq_false_iff.mpr q])] at h; exact absurd h (by decide)
theorem cv_eUp {n : Nat} {a b : Int32} (h : eUp n a b = 0) : isR n a = true := by
  unfold eUp at h
  by_cases q : isR n a = true
  · exact q
  · rw [if_neg (by simp [Bool.eq_false_iff.mpr q])] at h; exact absurd h (by decide)
theorem cv_eDer {n : Nat} {a : Int32} (h : eDer n a = 0) : isR n a = true := by
  unfold eDer at h
  by_cases q : isR n a = true
  · exact q
  · rw [if_neg (by simp [Bool.eq_false_iff.mpr q])] at h; exact absurd h (by decide)
theorem cv_eTA {n : Nat} {R : Nat → Nat → Int32} {a b : Int32} (h : eTA n R a b = 0) : isR n a = true := by
  unfold eTA at h
  by_cases q : isR n a = true
  · exact q
  · rw [Bool.eq_false_iff.mpr q, Bool.false_and] at h; exact absurd h (by decide)
theorem cv_eJoin {n : Nat} (hn : n ≤ 16) {a b : Int32} (h : eJoin n a b = 0) : ix a < n ∧ ix b < n := by
  unfold eJoin at h
  by_cases q : (isR n a && isR n b) = true
  · exact ⟨isR_ix hn (and_t q).1, isR_ix hn (and_t q).2⟩
  · rw [if_neg q] at h; exact absurd h (by decide)
theorem cv_e2 {n : Nat} (hn : n ≤ 16) {a b : Int32} (h : e2 n a b = 0) : ix a < n ∧ ix b < n := by
  unfold e2 at h
  by_cases q : (isR n a && isR n b) = true
  · exact ⟨isR_ix hn (and_t q).1, isR_ix hn (and_t q).2⟩
  · rw [if_neg q] at h; exact absurd h (by decide)
theorem cv_eProd {n : Nat} (hn : n ≤ 16) {R : Nat → Nat → Int32} {a b : Int32} (h : eProd n R a b = 0) : ix a < n ∧ ix b < n := by
  unfold eProd at h
  by_cases q : (isR n a && isR n b) = true
  · exact ⟨isR_ix hn (and_t q).1, isR_ix hn (and_t q).2⟩
  · rw [if_neg q] at h; exact absurd h (by decide)
theorem cv_eChain {n : Nat} (hn : n ≤ 16) {R : Nat → Nat → Int32} {a b : Int32} (h : eChain n R a b = 0) : ix a < n ∧ ix b < n := by
  unfold eChain at h
  by_cases q : (isR n a && isR n b) = true
  · exact ⟨isR_ix hn (and_t q).1, isR_ix hn (and_t q).2⟩
  · rw [if_neg q] at h; exact absurd h (by decide)
theorem cv_eDiv {n : Nat} (hn : n ≤ 16) {R : Nat → Nat → Int32} {a b : Int32} (h : eDiv n R a b = 0) : ix a < n ∧ ix b < n := by
  unfold eDiv at h
  by_cases q : (isR n a && isR n b) = true
  · exact ⟨isR_ix hn (and_t q).1, isR_ix hn (and_t q).2⟩
  · rw [if_neg q] at h; exact absurd h (by decide)
theorem cn_eAdd {n : Nat} (hn : n ≤ 16) (h : eAdd n = 0) : n + 1 ≤ 16 := by
  unfold eAdd at h
  split at h
  · exact absurd h (by decide)
  · omega
theorem cn_eJoin {n : Nat} (hn : n ≤ 16) {a b : Int32} (h : eJoin n a b = 0) : n + 1 ≤ 16 := by
  unfold eJoin at h
  repeat' split at h
  all_goals first | omega | exact absurd h (by decide)
theorem cn_eProd {n : Nat} (hn : n ≤ 16) {R : Nat → Nat → Int32} {a b : Int32} (h : eProd n R a b = 0) : n + 1 ≤ 16 := by
  unfold eProd at h
  repeat' split at h
  all_goals first | omega | exact absurd h (by decide)
theorem cn_eChain {n : Nat} (hn : n ≤ 16) {R : Nat → Nat → Int32} {a b : Int32} (h : eChain n R a b = 0) : n + 1 ≤ 16 := by
  unfold eChain at h
  repeat' split at h
  all_goals first | omega | exact absurd h (by decide)
theorem cn_eDiv {n : Nat} (hn : n ≤ 16) {R : Nat → Nat → Int32} {a b : Int32} (h : eDiv n R a b = 0) : n + 1 + 1 ≤ 16 := by
  unfold eDiv at h
  repeat' split at h
  all_goals first | omega | exact absurd h (by decide)
theorem cn_eDer {n : Nat} (hn : n ≤ 16) {a : Int32} (h : eDer n a = 0) : n + 1 ≤ 16 := by
  unfold eDer at h
  repeat' split at h
  all_goals first | omega | exact absurd h (by decide)
set_option maxHeartbeats 4000000 in
set_option maxRecDepth 100000 in
/-- the law at addRecipe -/
theorem lc_addRecipe {p : Program} {l : Launch} {e : Env} {s : State} {m : MethodId} {args : Array Value} {below : List Frame} {meth : Method} {c : Code} {D : va_G} {A : Nat → Prop} {k : Nat → ClassId} {Q : State → Prop} (C : Cx p s m args meth c cL_law 9 RL A D k) (hfl : l.stackTraces = false) {b L i oa n cp cn v c9 s9 : Nat} {xs : Nat → Int32} {ad r md : Nat → Nat} {R : Nat → Nat → Int32} {T U tx Am Wk Mo bt : Nat → Int32} {th sz ml : Int32} {g : Nat → Int64} (hX : va_X b L xs s s.heap) (hbl : b < s.heap.size) (hbA : ¬ A b) (hL : L ≤ 2048) (hi : i + 4 ≤ L) (hI : LI n R Am cp cn bt) (hc9 : c9 + 544 ≤ 601024) (hs9 : s9 + 6944 ≤ 7293034) (hnext : ∀ (n' cp' cn' v' c' s' : Nat) (R' : Nat → Nat → Int32) (T' U' tx' Am' Wk' Mo' bt' : Nat → Int32) (th' sz' ml' : Int32) (g' : Nat → Int64), LI n' R' Am' cp' cn' bt' → c' ≤ c9 + 544 → s' ≤ s9 + 6944 → WP p l e (room_1) s m args below meth c D A 9 (KW k ad r (nI n') R' T' U' tx' sz' ((oa, aL k 1 g') :: (MW k md th' (nI n') Am' Wk' Mo' v' cp' bt' ml' (nI cn') []))) [(0, .ref b), (1, .ref (ad 0)), (2, .ref (md 0)), (3, .ref oa), (4, .int (nI i))] c' s' Q 1932 []) : WP p l e (room_1) s m args below meth c D A 9 (KW k ad r (nI n) R T U tx sz ((oa, aL k 1 g) :: (MW k md th (nI n) Am Wk Mo v cp bt ml (nI cn) []))) [(0, .ref b), (1, .ref (ad 0)), (2, .ref (md 0)), (3, .ref oa), (4, .int (nI i))] c9 s9 Q 172 [] := by
  obtain ⟨hn, hrel, hok, hft, hm⟩ := hI
  have hvv : eAdd n = 0 → (nI n).toInt64 = (nI n).toInt64 := fun he => by
    rfl
  refine p_aload_n C rfl 1 rfl dL_law_172 ?_
  refine p_aload_n C rfl 3 rfl dL_law_173 ?_
  refine c_Wi (As := [.ref (ad 0), .ref oa]) (rest := []) C (m_L_addRecipe l D k hfl (hn := hn)) qml_L_108 qst_L_addRecipe qin_L qco_L_addRecipe nd_L_addRecipe ⟨Nat.le_of_ble_eq_true rfl, Nat.le_of_ble_eq_true rfl⟩ (Nat.le_of_ble_eq_true rfl) ⟨by (try simp only [rmL_c, rmL_s, room_c, room_s]); omega, by (try simp only [rmL_c, rmL_s, room_c, room_s]); omega⟩ rfl dL_law_174 (fun r9 w9 h9 => ?_)
  obtain ⟨e9, T9, U9, tx9, sz9, g9, rfl, hv9⟩ := h9
  refine p_int e9 ?_
  by_cases he : eAdd n = 0
  · have heM : eAdd n = eAdd n := rfl
    have hn9 := cn_eAdd hn he
    refine p_w (w9 := (KW k ad r (nI (n + 1)) (upR R n (fun _ => 0)) T9 U9 tx9 sz9 ((oa, aL k 1 g9) :: (MW k md th (nI n) Am Wk Mo v cp bt ml (nI cn) [])))) (by rw [he, sel_0, sel_0]) ?_
    have hv := hv9 he
    refine p_int (y := 0) he ?_
    refine p_istore (lv9 := [(5, .int 0), (0, .ref b), (1, .ref (ad 0)), (2, .ref (md 0)), (3, .ref oa), (4, .int (nI i))]) C (by decide) rfl dL_law_177 ?_
    refine p_aload_n C rfl 3 rfl dL_law_179 ?_
    refine p_toM ?_
    refine c_Vi (As := []) (rest := []) C (m_X3_addRecipe l D k hn) 0 rfl rfl rfl qml_L_113 qim_X3_addRecipe qse_X3_X3_addRecipe qin_X3 qco_X3_addRecipe nd_X3_addRecipe ⟨Nat.le_of_ble_eq_true rfl, Nat.le_of_ble_eq_true rfl⟩ (Nat.le_of_ble_eq_true rfl) ⟨by (try simp only [rmL_c, rmL_s, room_c, room_s]); omega, by (try simp only [rmL_c, rmL_s, room_c, room_s]); omega⟩ rfl dL_law_180 (fun r9 w9 h9 => ?_)
    obtain ⟨Wk8, Mo8, rfl, hvM⟩ := h9
    refine p_w (w9 := (MW k md 0 (nI (n + 1)) (ptR Am n (fun _ => 0)) Wk8 Mo8 v cp bt ml (nI cn) (KW k ad r (nI (n + 1)) (upR R n (fun _ => 0)) T9 U9 tx9 sz9 [(oa, aL k 1 g9)]))) (by rw [heM.trans he, sel_0, sel_0]) ?_
    refine p_int (y := nI n) (hvM (heM.trans he)) ?_
    refine p_istore (lv9 := [(6, .int (nI n)), (5, .int 0), (0, .ref b), (1, .ref (ad 0)), (2, .ref (md 0)), (3, .ref oa), (4, .int (nI i))]) C (by decide) rfl dL_law_183 ?_
    refine p_aload_n C rfl 4 rfl dL_law_185 ?_
    refine c_Vi (As := []) (rest := []) C (m_X3_thrown l D k ) 0 rfl rfl rfl qml_L_114 qim_X3_thrown qse_X3_X3_thrown qin_X3 qco_X3_thrown nd_X3_thrown ⟨Nat.le_of_ble_eq_true rfl, Nat.le_of_ble_eq_true rfl⟩ (Nat.le_of_ble_eq_true rfl) ⟨by (try simp only [rmL_c, rmL_s, room_c, room_s]); omega, by (try simp only [rmL_c, rmL_s, room_c, room_s]); omega⟩ rfl dL_law_186 (fun r9 w9 h9 => ?_)
    obtain ⟨e9, rfl⟩ := h9
    refine p_int e9 ?_
    refine p_toK ?_
    refine p_iload C 1 rfl dL_law_189 ?_
    refine p_icmp_eq C 196 (by decide) dL_law_191 (fun c_191 => ?_) (fun c_191 => absurd rfl c_191)
    refine p_iload C 1 rfl dL_law_196 ?_
    refine p_if_ne C 213 (by decide) dL_law_198 (fun c_198 => absurd c_198 (fun z9 => z9 rfl)) (fun c_198 => ?_)
    refine p_aload_n C rfl 5 rfl dL_law_201 ?_
    refine p_iconst (v := 0) C (by decide) dL_law_202 ?_
    refine p_lald (v := (g9 0)) C 22 KW_y (vp_in_nI (n := 0) (N := 1) (by omega) (by omega)) (by rw [show (0 : Int32).toNatClampNeg = 0 from rfl]) dL_law_203 ?_
    refine p_iload C 0 rfl dL_law_204 ?_
    refine p_i2l C dL_law_206 ?_
    refine p_lcmp C dL_law_207 ?_
    refine p_if_eq C 213 (by decide) dL_law_208 (fun c_208 => ?_) (fun c_208 => absurd ((lg_cmp_eq _ _).mpr (hv.trans (hvv he))) c_208)
    refine p_goto C 1932 (by decide) dL_law_213 ?_
    refine p_lv (lv9 := [(0, .ref b), (1, .ref (ad 0)), (2, .ref (md 0)), (3, .ref oa), (4, .int (nI i))]) [2, 3, 4, 5, 6] rfl ?_
    have hW : RelW (n + 1) (upR R n (fun _ => 0)) (ptR Am n (fun _ => 0)) := rw_pt hrel (fun q hq => by omega) (fun _ _ => rfl)
    refine p_KWn (R2 := RN (n + 1) (upR R n (fun _ => 0)) (ptR Am n (fun _ => 0))) (fun i9 j9 hj9 => RN_ok hW i9 j9 hj9) ?_
    exact hnext _ _ _ _ _ _ _ _ _ _ _ _ _ _ _ _ _ _ ⟨hn9, RN_rel _ _ _, hok, hft, hm⟩ (by (try simp only [rmL_c, rmL_s, room_c, room_s]); omega) (by (try simp only [rmL_c, rmL_s, room_c, room_s]); omega)
  · have heM : eAdd n = eAdd n := rfl
    refine p_w (w9 := (KW k ad r (nI n) R T9 U9 tx9 sz9 ((oa, aL k 1 g9) :: (MW k md th (nI n) Am Wk Mo v cp bt ml (nI cn) [])))) (by rw [sel_n he, sel_n he]) ?_
    refine p_istore (lv9 := [(5, .int (eAdd n)), (0, .ref b), (1, .ref (ad 0)), (2, .ref (md 0)), (3, .ref oa), (4, .int (nI i))]) C (by decide) rfl dL_law_177 ?_
    refine p_aload_n C rfl 3 rfl dL_law_179 ?_
    refine p_toM ?_
    refine c_Vi (As := []) (rest := []) C (m_X3_addRecipe l D k hn) 0 rfl rfl rfl qml_L_113 qim_X3_addRecipe qse_X3_X3_addRecipe qin_X3 qco_X3_addRecipe nd_X3_addRecipe ⟨Nat.le_of_ble_eq_true rfl, Nat.le_of_ble_eq_true rfl⟩ (Nat.le_of_ble_eq_true rfl) ⟨by (try simp only [rmL_c, rmL_s, room_c, room_s]); omega, by (try simp only [rmL_c, rmL_s, room_c, room_s]); omega⟩ rfl dL_law_180 (fun r9 w9 h9 => ?_)
    obtain ⟨Wk8, Mo8, rfl, hvM⟩ := h9
    refine p_w (w9 := (MW k md (eAdd n) (nI n) Am Wk8 Mo8 v cp bt ml (nI cn) (KW k ad r (nI n) R T9 U9 tx9 sz9 [(oa, aL k 1 g9)]))) (by rw [heM, sel_n he, sel_n he]) ?_
    refine p_istore (lv9 := [(6, .int r9), (5, .int (eAdd n)), (0, .ref b), (1, .ref (ad 0)), (2, .ref (md 0)), (3, .ref oa), (4, .int (nI i))]) C (by decide) rfl dL_law_183 ?_
    refine p_aload_n C rfl 4 rfl dL_law_185 ?_
    refine c_Vi (As := []) (rest := []) C (m_X3_thrown l D k ) 0 rfl rfl rfl qml_L_114 qim_X3_thrown qse_X3_X3_thrown qin_X3 qco_X3_thrown nd_X3_thrown ⟨Nat.le_of_ble_eq_true rfl, Nat.le_of_ble_eq_true rfl⟩ (Nat.le_of_ble_eq_true rfl) ⟨by (try simp only [rmL_c, rmL_s, room_c, room_s]); omega, by (try simp only [rmL_c, rmL_s, room_c, room_s]); omega⟩ rfl dL_law_186 (fun r9 w9 h9 => ?_)
    obtain ⟨e9, rfl⟩ := h9
    refine p_int e9 ?_
    refine p_toK ?_
    refine p_iload C 1 rfl dL_law_189 ?_
    refine p_icmp_eq C 196 (by decide) dL_law_191 (fun c_191 => ?_) (fun c_191 => absurd rfl c_191)
    refine p_iload C 1 rfl dL_law_196 ?_
    refine p_if_ne C 213 (by decide) dL_law_198 (fun c_198 => ?_) (fun c_198 => absurd c_198 he)
    refine p_goto C 1932 (by decide) dL_law_213 ?_
    refine p_lv (lv9 := [(0, .ref b), (1, .ref (ad 0)), (2, .ref (md 0)), (3, .ref oa), (4, .int (nI i))]) [2, 3, 4, 5, 6] rfl ?_
    exact hnext _ _ _ _ _ _ _ _ _ _ _ _ _ _ _ _ _ _ ⟨hn, hrel, hok, hft, hm⟩ (by (try simp only [rmL_c, rmL_s, room_c, room_s]); omega) (by (try simp only [rmL_c, rmL_s, room_c, room_s]); omega)
set_option maxHeartbeats 4000000 in
set_option maxRecDepth 100000 in
/-- the law at set -/
theorem lc_set {p : Program} {l : Launch} {e : Env} {s : State} {m : MethodId} {args : Array Value} {below : List Frame} {meth : Method} {c : Code} {D : va_G} {A : Nat → Prop} {k : Nat → ClassId} {Q : State → Prop} (C : Cx p s m args meth c cL_law 9 RL A D k) (hfl : l.stackTraces = false) {b L i oa n cp cn v c9 s9 : Nat} {xs : Nat → Int32} {ad r md : Nat → Nat} {R : Nat → Nat → Int32} {T U tx Am Wk Mo bt : Nat → Int32} {th sz ml : Int32} {g : Nat → Int64} (hX : va_X b L xs s s.heap) (hbl : b < s.heap.size) (hbA : ¬ A b) (hL : L ≤ 2048) (hi : i + 4 ≤ L) (hI : LI n R Am cp cn bt) (hc9 : c9 + 544 ≤ 601024) (hs9 : s9 + 6944 ≤ 7293034) (hnext : ∀ (n' cp' cn' v' c' s' : Nat) (R' : Nat → Nat → Int32) (T' U' tx' Am' Wk' Mo' bt' : Nat → Int32) (th' sz' ml' : Int32) (g' : Nat → Int64), LI n' R' Am' cp' cn' bt' → c' ≤ c9 + 544 → s' ≤ s9 + 6944 → WP p l e (room_1) s m args below meth c D A 9 (KW k ad r (nI n') R' T' U' tx' sz' ((oa, aL k 1 g') :: (MW k md th' (nI n') Am' Wk' Mo' v' cp' bt' ml' (nI cn') []))) [(0, .ref b), (1, .ref (ad 0)), (2, .ref (md 0)), (3, .ref oa), (4, .int (nI i))] c' s' Q 1932 []) : WP p l e (room_1) s m args below meth c D A 9 (KW k ad r (nI n) R T U tx sz ((oa, aL k 1 g) :: (MW k md th (nI n) Am Wk Mo v cp bt ml (nI cn) []))) [(0, .ref b), (1, .ref (ad 0)), (2, .ref (md 0)), (3, .ref oa), (4, .int (nI i))] c9 s9 Q 216 [] := by
  obtain ⟨hn, hrel, hok, hft, hm⟩ := hI
  have hvv : eSet n (xs (i + 1)) (xs (i + 2)) (xs (i + 3)) = 0 → ((R (ix (xs (i + 1)))) (ix (xs (i + 2)))).toInt64 = ((mrow Am (ix (xs (i + 1)))) (ix (xs (i + 2)))).toInt64 := fun he => by
    have hrc := isR_ix hn (cv_eSet he)
    rw [hrel _ hrc]
  refine p_aload_n C rfl 1 rfl dL_law_216 ?_
  refine p_aload_n C rfl 0 rfl dL_law_217 ?_
  refine p_iload C 4 rfl dL_law_218 ?_
  refine p_iconst (v := (nI 1)) C (by decide) dL_law_220 ?_
  refine p_iadd C dL_law_221 ?_
  refine p_int (y := (nI (i + 1))) (nI_add _ _) ?_
  refine p_sld (x := xs (i + 1)) C hX hbl hbA (vp_in_nI (by omega) (by omega)) (congrArg xs (nI_clamp (by omega))) dL_law_222 ?_
  refine p_aload_n C rfl 0 rfl dL_law_223 ?_
  refine p_iload C 4 rfl dL_law_224 ?_
  refine p_iconst (v := (nI 2)) C (by decide) dL_law_226 ?_
  refine p_iadd C dL_law_227 ?_
  refine p_int (y := (nI (i + 2))) (nI_add _ _) ?_
  refine p_sld (x := xs (i + 2)) C hX hbl hbA (vp_in_nI (by omega) (by omega)) (congrArg xs (nI_clamp (by omega))) dL_law_228 ?_
  refine p_aload_n C rfl 0 rfl dL_law_229 ?_
  refine p_iload C 4 rfl dL_law_230 ?_
  refine p_iconst (v := (nI 3)) C (by decide) dL_law_232 ?_
  refine p_iadd C dL_law_233 ?_
  refine p_int (y := (nI (i + 3))) (nI_add _ _) ?_
  refine p_sld (x := xs (i + 3)) C hX hbl hbA (vp_in_nI (by omega) (by omega)) (congrArg xs (nI_clamp (by omega))) dL_law_234 ?_
  refine p_aload_n C rfl 3 rfl dL_law_235 ?_
  refine c_Wi (As := [.ref (ad 0), .int (xs (i + 1)), .int (xs (i + 2)), .int (xs (i + 3)), .ref oa]) (rest := []) C (m_L_set l D k hfl (hn := hn)) qml_L_117 qst_L_set qin_L qco_L_set nd_L_set ⟨Nat.le_of_ble_eq_true rfl, Nat.le_of_ble_eq_true rfl⟩ (Nat.le_of_ble_eq_true rfl) ⟨by (try simp only [rmL_c, rmL_s, room_c, room_s]); omega, by (try simp only [rmL_c, rmL_s, room_c, room_s]); omega⟩ rfl dL_law_236 (fun r9 w9 h9 => ?_)
  obtain ⟨e9, T9, U9, tx9, sz9, g9, rfl, hv9⟩ := h9
  refine p_int e9 ?_
  by_cases he : eSet n (xs (i + 1)) (xs (i + 2)) (xs (i + 3)) = 0
  · have heM : eSet n (xs (i + 1)) (xs (i + 2)) (xs (i + 3)) = eSet n (xs (i + 1)) (xs (i + 2)) (xs (i + 3)) := rfl
    have hrc := isR_ix hn (cv_eSet he)
    have hp9 := cv_eSetp he
    have hn9 := hn
    refine p_w (w9 := (KW k ad r (nI n) (upR R (ix (xs (i + 1))) (upd (R (ix (xs (i + 1)))) (ix (xs (i + 2))) (xs (i + 3)))) T9 U9 tx9 sz9 ((oa, aL k 1 g9) :: (MW k md th (nI n) Am Wk Mo v cp bt ml (nI cn) [])))) (by rw [he, sel_0, sel_0]) ?_
    have hv := hv9 he
    refine p_int (y := 0) he ?_
    refine p_istore (lv9 := [(5, .int 0), (0, .ref b), (1, .ref (ad 0)), (2, .ref (md 0)), (3, .ref oa), (4, .int (nI i))]) C (by decide) rfl dL_law_239 ?_
    refine p_aload_n C rfl 3 rfl dL_law_241 ?_
    refine p_aload_n C rfl 1 rfl dL_law_242 ?_
    refine p_iload C 5 rfl dL_law_243 ?_
    refine p_iconst (v := (nI 1)) C (by decide) dL_law_245 ?_
    refine p_iadd C dL_law_246 ?_
    refine p_int (y := (nI (i + 1))) (nI_add _ _) ?_
    refine p_sld (x := xs (i + 1)) C hX hbl hbA (vp_in_nI (by omega) (by omega)) (congrArg xs (nI_clamp (by omega))) dL_law_247 ?_
    refine p_aload_n C rfl 1 rfl dL_law_248 ?_
    refine p_iload C 5 rfl dL_law_249 ?_
    refine p_iconst (v := (nI 2)) C (by decide) dL_law_251 ?_
    refine p_iadd C dL_law_252 ?_
    refine p_int (y := (nI (i + 2))) (nI_add _ _) ?_
    refine p_sld (x := xs (i + 2)) C hX hbl hbA (vp_in_nI (by omega) (by omega)) (congrArg xs (nI_clamp (by omega))) dL_law_253 ?_
    refine p_aload_n C rfl 1 rfl dL_law_254 ?_
    refine p_iload C 5 rfl dL_law_255 ?_
    refine p_iconst (v := (nI 3)) C (by decide) dL_law_257 ?_
    refine p_iadd C dL_law_258 ?_
    refine p_int (y := (nI (i + 3))) (nI_add _ _) ?_
    refine p_sld (x := xs (i + 3)) C hX hbl hbA (vp_in_nI (by omega) (by omega)) (congrArg xs (nI_clamp (by omega))) dL_law_259 ?_
    refine p_toM ?_
    refine c_Vi (As := [.int (xs (i + 1)), .int (xs (i + 2)), .int (xs (i + 3))]) (rest := []) C (m_X3_set l D k hn) 0 rfl rfl rfl qml_L_120 qim_X3_set qse_X3_X3_set qin_X3 qco_X3_set nd_X3_set ⟨Nat.le_of_ble_eq_true rfl, Nat.le_of_ble_eq_true rfl⟩ (Nat.le_of_ble_eq_true rfl) ⟨by (try simp only [rmL_c, rmL_s, room_c, room_s]); omega, by (try simp only [rmL_c, rmL_s, room_c, room_s]); omega⟩ rfl dL_law_260 (fun r9 w9 h9 => ?_)
    obtain ⟨Wk8, Mo8, rfl, hvM⟩ := h9
    refine p_w (w9 := (MW k md 0 (nI n) (seR Am (ix (xs (i + 1))) (ix (xs (i + 2))) (xs (i + 3))) Wk8 Mo8 v cp bt ml (nI cn) (KW k ad r (nI n) (upR R (ix (xs (i + 1))) (upd (R (ix (xs (i + 1)))) (ix (xs (i + 2))) (xs (i + 3)))) T9 U9 tx9 sz9 [(oa, aL k 1 g9)]))) (by rw [heM.trans he, sel_0]) ?_
    refine p_int (y := (mrow Am (ix (xs (i + 1)))) (ix (xs (i + 2)))) (hvM (heM.trans he)) ?_
    refine p_istore (lv9 := [(6, .int ((mrow Am (ix (xs (i + 1)))) (ix (xs (i + 2))))), (5, .int 0), (0, .ref b), (1, .ref (ad 0)), (2, .ref (md 0)), (3, .ref oa), (4, .int (nI i))]) C (by decide) rfl dL_law_263 ?_
    refine p_aload_n C rfl 4 rfl dL_law_265 ?_
    refine c_Vi (As := []) (rest := []) C (m_X3_thrown l D k ) 0 rfl rfl rfl qml_L_114 qim_X3_thrown qse_X3_X3_thrown qin_X3 qco_X3_thrown nd_X3_thrown ⟨Nat.le_of_ble_eq_true rfl, Nat.le_of_ble_eq_true rfl⟩ (Nat.le_of_ble_eq_true rfl) ⟨by (try simp only [rmL_c, rmL_s, room_c, room_s]); omega, by (try simp only [rmL_c, rmL_s, room_c, room_s]); omega⟩ rfl dL_law_266 (fun r9 w9 h9 => ?_)
    obtain ⟨e9, rfl⟩ := h9
    refine p_int e9 ?_
    refine p_toK ?_
    refine p_iload C 1 rfl dL_law_269 ?_
    refine p_icmp_eq C 276 (by decide) dL_law_271 (fun c_271 => ?_) (fun c_271 => absurd rfl c_271)
    refine p_iload C 1 rfl dL_law_276 ?_
    refine p_if_ne C 293 (by decide) dL_law_278 (fun c_278 => absurd c_278 (fun z9 => z9 rfl)) (fun c_278 => ?_)
    refine p_aload_n C rfl 5 rfl dL_law_281 ?_
    refine p_iconst (v := 0) C (by decide) dL_law_282 ?_
    refine p_lald (v := (g9 0)) C 22 KW_y (vp_in_nI (n := 0) (N := 1) (by omega) (by omega)) (by rw [show (0 : Int32).toNatClampNeg = 0 from rfl]) dL_law_283 ?_
    refine p_iload C 0 rfl dL_law_284 ?_
    refine p_i2l C dL_law_286 ?_
    refine p_lcmp C dL_law_287 ?_
    refine p_if_eq C 293 (by decide) dL_law_288 (fun c_288 => ?_) (fun c_288 => absurd ((lg_cmp_eq _ _).mpr (hv.trans (hvv he))) c_288)
    refine p_goto C 1932 (by decide) dL_law_293 ?_
    refine p_lv (lv9 := [(0, .ref b), (1, .ref (ad 0)), (2, .ref (md 0)), (3, .ref oa), (4, .int (nI i))]) [2, 3, 4, 5, 6] rfl ?_
    have hW : RelW n (upR R (ix (xs (i + 1))) (upd (R (ix (xs (i + 1)))) (ix (xs (i + 2))) (xs (i + 3)))) (seR Am (ix (xs (i + 1))) (ix (xs (i + 2))) (xs (i + 3))) := rw_se hrel hrc hp9
    refine p_KWn (R2 := RN n (upR R (ix (xs (i + 1))) (upd (R (ix (xs (i + 1)))) (ix (xs (i + 2))) (xs (i + 3)))) (seR Am (ix (xs (i + 1))) (ix (xs (i + 2))) (xs (i + 3)))) (fun i9 j9 hj9 => RN_ok hW i9 j9 hj9) ?_
    exact hnext _ _ _ _ _ _ _ _ _ _ _ _ _ _ _ _ _ _ ⟨hn9, RN_rel _ _ _, hok, hft, hm⟩ (by (try simp only [rmL_c, rmL_s, room_c, room_s]); omega) (by (try simp only [rmL_c, rmL_s, room_c, room_s]); omega)
  · have heM : eSet n (xs (i + 1)) (xs (i + 2)) (xs (i + 3)) = eSet n (xs (i + 1)) (xs (i + 2)) (xs (i + 3)) := rfl
    refine p_w (w9 := (KW k ad r (nI n) R T9 U9 tx9 sz9 ((oa, aL k 1 g9) :: (MW k md th (nI n) Am Wk Mo v cp bt ml (nI cn) [])))) (by rw [sel_n he, sel_n he]) ?_
    refine p_istore (lv9 := [(5, .int (eSet n (xs (i + 1)) (xs (i + 2)) (xs (i + 3)))), (0, .ref b), (1, .ref (ad 0)), (2, .ref (md 0)), (3, .ref oa), (4, .int (nI i))]) C (by decide) rfl dL_law_239 ?_
    refine p_aload_n C rfl 3 rfl dL_law_241 ?_
    refine p_aload_n C rfl 1 rfl dL_law_242 ?_
    refine p_iload C 5 rfl dL_law_243 ?_
    refine p_iconst (v := (nI 1)) C (by decide) dL_law_245 ?_
    refine p_iadd C dL_law_246 ?_
    refine p_int (y := (nI (i + 1))) (nI_add _ _) ?_
    refine p_sld (x := xs (i + 1)) C hX hbl hbA (vp_in_nI (by omega) (by omega)) (congrArg xs (nI_clamp (by omega))) dL_law_247 ?_
    refine p_aload_n C rfl 1 rfl dL_law_248 ?_
    refine p_iload C 5 rfl dL_law_249 ?_
    refine p_iconst (v := (nI 2)) C (by decide) dL_law_251 ?_
    refine p_iadd C dL_law_252 ?_
    refine p_int (y := (nI (i + 2))) (nI_add _ _) ?_
    refine p_sld (x := xs (i + 2)) C hX hbl hbA (vp_in_nI (by omega) (by omega)) (congrArg xs (nI_clamp (by omega))) dL_law_253 ?_
    refine p_aload_n C rfl 1 rfl dL_law_254 ?_
    refine p_iload C 5 rfl dL_law_255 ?_
    refine p_iconst (v := (nI 3)) C (by decide) dL_law_257 ?_
    refine p_iadd C dL_law_258 ?_
    refine p_int (y := (nI (i + 3))) (nI_add _ _) ?_
    refine p_sld (x := xs (i + 3)) C hX hbl hbA (vp_in_nI (by omega) (by omega)) (congrArg xs (nI_clamp (by omega))) dL_law_259 ?_
    refine p_toM ?_
    refine c_Vi (As := [.int (xs (i + 1)), .int (xs (i + 2)), .int (xs (i + 3))]) (rest := []) C (m_X3_set l D k hn) 0 rfl rfl rfl qml_L_120 qim_X3_set qse_X3_X3_set qin_X3 qco_X3_set nd_X3_set ⟨Nat.le_of_ble_eq_true rfl, Nat.le_of_ble_eq_true rfl⟩ (Nat.le_of_ble_eq_true rfl) ⟨by (try simp only [rmL_c, rmL_s, room_c, room_s]); omega, by (try simp only [rmL_c, rmL_s, room_c, room_s]); omega⟩ rfl dL_law_260 (fun r9 w9 h9 => ?_)
    obtain ⟨Wk8, Mo8, rfl, hvM⟩ := h9
    refine p_w (w9 := (MW k md (eSet n (xs (i + 1)) (xs (i + 2)) (xs (i + 3))) (nI n) Am Wk8 Mo8 v cp bt ml (nI cn) (KW k ad r (nI n) R T9 U9 tx9 sz9 [(oa, aL k 1 g9)]))) (by rw [heM, sel_n he]) ?_
    refine p_istore (lv9 := [(6, .int r9), (5, .int (eSet n (xs (i + 1)) (xs (i + 2)) (xs (i + 3)))), (0, .ref b), (1, .ref (ad 0)), (2, .ref (md 0)), (3, .ref oa), (4, .int (nI i))]) C (by decide) rfl dL_law_263 ?_
    refine p_aload_n C rfl 4 rfl dL_law_265 ?_
    refine c_Vi (As := []) (rest := []) C (m_X3_thrown l D k ) 0 rfl rfl rfl qml_L_114 qim_X3_thrown qse_X3_X3_thrown qin_X3 qco_X3_thrown nd_X3_thrown ⟨Nat.le_of_ble_eq_true rfl, Nat.le_of_ble_eq_true rfl⟩ (Nat.le_of_ble_eq_true rfl) ⟨by (try simp only [rmL_c, rmL_s, room_c, room_s]); omega, by (try simp only [rmL_c, rmL_s, room_c, room_s]); omega⟩ rfl dL_law_266 (fun r9 w9 h9 => ?_)
    obtain ⟨e9, rfl⟩ := h9
    refine p_int e9 ?_
    refine p_toK ?_
    refine p_iload C 1 rfl dL_law_269 ?_
    refine p_icmp_eq C 276 (by decide) dL_law_271 (fun c_271 => ?_) (fun c_271 => absurd rfl c_271)
    refine p_iload C 1 rfl dL_law_276 ?_
    refine p_if_ne C 293 (by decide) dL_law_278 (fun c_278 => ?_) (fun c_278 => absurd c_278 he)
    refine p_goto C 1932 (by decide) dL_law_293 ?_
    refine p_lv (lv9 := [(0, .ref b), (1, .ref (ad 0)), (2, .ref (md 0)), (3, .ref oa), (4, .int (nI i))]) [2, 3, 4, 5, 6] rfl ?_
    exact hnext _ _ _ _ _ _ _ _ _ _ _ _ _ _ _ _ _ _ ⟨hn, hrel, hok, hft, hm⟩ (by (try simp only [rmL_c, rmL_s, room_c, room_s]); omega) (by (try simp only [rmL_c, rmL_s, room_c, room_s]); omega)
set_option maxHeartbeats 4000000 in
set_option maxRecDepth 100000 in
/-- the law at drop -/
theorem lc_drop {p : Program} {l : Launch} {e : Env} {s : State} {m : MethodId} {args : Array Value} {below : List Frame} {meth : Method} {c : Code} {D : va_G} {A : Nat → Prop} {k : Nat → ClassId} {Q : State → Prop} (C : Cx p s m args meth c cL_law 9 RL A D k) (hfl : l.stackTraces = false) {b L i oa n cp cn v c9 s9 : Nat} {xs : Nat → Int32} {ad r md : Nat → Nat} {R : Nat → Nat → Int32} {T U tx Am Wk Mo bt : Nat → Int32} {th sz ml : Int32} {g : Nat → Int64} (hX : va_X b L xs s s.heap) (hbl : b < s.heap.size) (hbA : ¬ A b) (hL : L ≤ 2048) (hi : i + 4 ≤ L) (hI : LI n R Am cp cn bt) (hc9 : c9 + 544 ≤ 601024) (hs9 : s9 + 6944 ≤ 7293034) (hnext : ∀ (n' cp' cn' v' c' s' : Nat) (R' : Nat → Nat → Int32) (T' U' tx' Am' Wk' Mo' bt' : Nat → Int32) (th' sz' ml' : Int32) (g' : Nat → Int64), LI n' R' Am' cp' cn' bt' → c' ≤ c9 + 544 → s' ≤ s9 + 6944 → WP p l e (room_1) s m args below meth c D A 9 (KW k ad r (nI n') R' T' U' tx' sz' ((oa, aL k 1 g') :: (MW k md th' (nI n') Am' Wk' Mo' v' cp' bt' ml' (nI cn') []))) [(0, .ref b), (1, .ref (ad 0)), (2, .ref (md 0)), (3, .ref oa), (4, .int (nI i))] c' s' Q 1932 []) : WP p l e (room_1) s m args below meth c D A 9 (KW k ad r (nI n) R T U tx sz ((oa, aL k 1 g) :: (MW k md th (nI n) Am Wk Mo v cp bt ml (nI cn) []))) [(0, .ref b), (1, .ref (ad 0)), (2, .ref (md 0)), (3, .ref oa), (4, .int (nI i))] c9 s9 Q 296 [] := by
  obtain ⟨hn, hrel, hok, hft, hm⟩ := hI
  have hvv : e1 n (xs (i + 1)) = 0 → (dI (dg (R (ix (xs (i + 1)))))).toInt64 = (dI (dg (mrow Am (ix (xs (i + 1)))))).toInt64 := fun he => by
    have hrc := isR_ix hn (e1_t he)
    rw [hrel _ hrc]
  refine p_aload_n C rfl 1 rfl dL_law_296 ?_
  refine p_aload_n C rfl 0 rfl dL_law_297 ?_
  refine p_iload C 4 rfl dL_law_298 ?_
  refine p_iconst (v := (nI 1)) C (by decide) dL_law_300 ?_
  refine p_iadd C dL_law_301 ?_
  refine p_int (y := (nI (i + 1))) (nI_add _ _) ?_
  refine p_sld (x := xs (i + 1)) C hX hbl hbA (vp_in_nI (by omega) (by omega)) (congrArg xs (nI_clamp (by omega))) dL_law_302 ?_
  refine p_aload_n C rfl 3 rfl dL_law_303 ?_
  refine c_Wi (As := [.ref (ad 0), .int (xs (i + 1)), .ref oa]) (rest := []) C (m_L_drop l D k hfl (hn := hn)) qml_L_121 qst_L_drop qin_L qco_L_drop nd_L_drop ⟨Nat.le_of_ble_eq_true rfl, Nat.le_of_ble_eq_true rfl⟩ (Nat.le_of_ble_eq_true rfl) ⟨by (try simp only [rmL_c, rmL_s, room_c, room_s]); omega, by (try simp only [rmL_c, rmL_s, room_c, room_s]); omega⟩ rfl dL_law_304 (fun r9 w9 h9 => ?_)
  obtain ⟨e9, T9, U9, tx9, sz9, g9, rfl, hv9⟩ := h9
  refine p_int e9 ?_
  by_cases he : e1 n (xs (i + 1)) = 0
  · have heM : e1 n (xs (i + 1)) = e1 n (xs (i + 1)) := rfl
    have hrc := isR_ix hn (e1_t he)
    have hn9 : n - 1 ≤ 16 := by omega
    refine p_w (w9 := (KW k ad r (nI (n - 1)) (dK R (ix (xs (i + 1))) (n - 1)) T9 U9 tx9 sz9 ((oa, aL k 1 g9) :: (MW k md th (nI n) Am Wk Mo v cp bt ml (nI cn) [])))) (by rw [he, sel_0, sel_0]) ?_
    have hv := hv9 he
    refine p_int (y := 0) he ?_
    refine p_istore (lv9 := [(5, .int 0), (0, .ref b), (1, .ref (ad 0)), (2, .ref (md 0)), (3, .ref oa), (4, .int (nI i))]) C (by decide) rfl dL_law_307 ?_
    refine p_aload_n C rfl 3 rfl dL_law_309 ?_
    refine p_aload_n C rfl 1 rfl dL_law_310 ?_
    refine p_iload C 5 rfl dL_law_311 ?_
    refine p_iconst (v := (nI 1)) C (by decide) dL_law_313 ?_
    refine p_iadd C dL_law_314 ?_
    refine p_int (y := (nI (i + 1))) (nI_add _ _) ?_
    refine p_sld (x := xs (i + 1)) C hX hbl hbA (vp_in_nI (by omega) (by omega)) (congrArg xs (nI_clamp (by omega))) dL_law_315 ?_
    refine p_toM ?_
    refine c_Vi (As := [.int (xs (i + 1))]) (rest := []) C (m_X3_drop l D k hn) 0 rfl rfl rfl qml_L_124 qim_X3_drop qse_X3_X3_drop qin_X3 qco_X3_drop nd_X3_drop ⟨Nat.le_of_ble_eq_true rfl, Nat.le_of_ble_eq_true rfl⟩ (Nat.le_of_ble_eq_true rfl) ⟨by (try simp only [rmL_c, rmL_s, room_c, room_s]); omega, by (try simp only [rmL_c, rmL_s, room_c, room_s]); omega⟩ rfl dL_law_316 (fun r9 w9 h9 => ?_)
    obtain ⟨Wk8, Mo8, rfl, hvM⟩ := h9
    refine p_w (w9 := (MW k md 0 (nI (n - 1)) (drR Am (ix (xs (i + 1))) n) Wk8 Mo8 v cp bt ml (nI cn) (KW k ad r (nI (n - 1)) (dK R (ix (xs (i + 1))) (n - 1)) T9 U9 tx9 sz9 [(oa, aL k 1 g9)]))) (by rw [heM.trans he, sel_0, sel_0]) ?_
    refine p_int (y := dI (dg (mrow Am (ix (xs (i + 1)))))) (hvM (heM.trans he)) ?_
    refine p_istore (lv9 := [(6, .int (dI (dg (mrow Am (ix (xs (i + 1))))))), (5, .int 0), (0, .ref b), (1, .ref (ad 0)), (2, .ref (md 0)), (3, .ref oa), (4, .int (nI i))]) C (by decide) rfl dL_law_319 ?_
    refine p_aload_n C rfl 4 rfl dL_law_321 ?_
    refine c_Vi (As := []) (rest := []) C (m_X3_thrown l D k ) 0 rfl rfl rfl qml_L_114 qim_X3_thrown qse_X3_X3_thrown qin_X3 qco_X3_thrown nd_X3_thrown ⟨Nat.le_of_ble_eq_true rfl, Nat.le_of_ble_eq_true rfl⟩ (Nat.le_of_ble_eq_true rfl) ⟨by (try simp only [rmL_c, rmL_s, room_c, room_s]); omega, by (try simp only [rmL_c, rmL_s, room_c, room_s]); omega⟩ rfl dL_law_322 (fun r9 w9 h9 => ?_)
    obtain ⟨e9, rfl⟩ := h9
    refine p_int e9 ?_
    refine p_toK ?_
    refine p_iload C 1 rfl dL_law_325 ?_
    refine p_icmp_eq C 332 (by decide) dL_law_327 (fun c_327 => ?_) (fun c_327 => absurd rfl c_327)
    refine p_iload C 1 rfl dL_law_332 ?_
    refine p_if_ne C 349 (by decide) dL_law_334 (fun c_334 => absurd c_334 (fun z9 => z9 rfl)) (fun c_334 => ?_)
    refine p_aload_n C rfl 5 rfl dL_law_337 ?_
    refine p_iconst (v := 0) C (by decide) dL_law_338 ?_
    refine p_lald (v := (g9 0)) C 22 KW_y (vp_in_nI (n := 0) (N := 1) (by omega) (by omega)) (by rw [show (0 : Int32).toNatClampNeg = 0 from rfl]) dL_law_339 ?_
    refine p_iload C 0 rfl dL_law_340 ?_
    refine p_i2l C dL_law_342 ?_
    refine p_lcmp C dL_law_343 ?_
    refine p_if_eq C 349 (by decide) dL_law_344 (fun c_344 => ?_) (fun c_344 => absurd ((lg_cmp_eq _ _).mpr (hv.trans (hvv he))) c_344)
    refine p_goto C 1932 (by decide) dL_law_349 ?_
    refine p_lv (lv9 := [(0, .ref b), (1, .ref (ad 0)), (2, .ref (md 0)), (3, .ref oa), (4, .int (nI i))]) [2, 3, 4, 5, 6] rfl ?_
    have hW : RelW (n - 1) (dK R (ix (xs (i + 1))) (n - 1)) (drR Am (ix (xs (i + 1))) n) := rw_dr hrel hrc
    refine p_KWn (R2 := RN (n - 1) (dK R (ix (xs (i + 1))) (n - 1)) (drR Am (ix (xs (i + 1))) n)) (fun i9 j9 hj9 => RN_ok hW i9 j9 hj9) ?_
    exact hnext _ _ _ _ _ _ _ _ _ _ _ _ _ _ _ _ _ _ ⟨hn9, RN_rel _ _ _, hok, hft, hm⟩ (by (try simp only [rmL_c, rmL_s, room_c, room_s]); omega) (by (try simp only [rmL_c, rmL_s, room_c, room_s]); omega)
  · have heM : e1 n (xs (i + 1)) = e1 n (xs (i + 1)) := rfl
    refine p_w (w9 := (KW k ad r (nI n) R T9 U9 tx9 sz9 ((oa, aL k 1 g9) :: (MW k md th (nI n) Am Wk Mo v cp bt ml (nI cn) [])))) (by rw [sel_n he, sel_n he]) ?_
    refine p_istore (lv9 := [(5, .int (e1 n (xs (i + 1)))), (0, .ref b), (1, .ref (ad 0)), (2, .ref (md 0)), (3, .ref oa), (4, .int (nI i))]) C (by decide) rfl dL_law_307 ?_
    refine p_aload_n C rfl 3 rfl dL_law_309 ?_
    refine p_aload_n C rfl 1 rfl dL_law_310 ?_
    refine p_iload C 5 rfl dL_law_311 ?_
    refine p_iconst (v := (nI 1)) C (by decide) dL_law_313 ?_
    refine p_iadd C dL_law_314 ?_
    refine p_int (y := (nI (i + 1))) (nI_add _ _) ?_
    refine p_sld (x := xs (i + 1)) C hX hbl hbA (vp_in_nI (by omega) (by omega)) (congrArg xs (nI_clamp (by omega))) dL_law_315 ?_
    refine p_toM ?_
    refine c_Vi (As := [.int (xs (i + 1))]) (rest := []) C (m_X3_drop l D k hn) 0 rfl rfl rfl qml_L_124 qim_X3_drop qse_X3_X3_drop qin_X3 qco_X3_drop nd_X3_drop ⟨Nat.le_of_ble_eq_true rfl, Nat.le_of_ble_eq_true rfl⟩ (Nat.le_of_ble_eq_true rfl) ⟨by (try simp only [rmL_c, rmL_s, room_c, room_s]); omega, by (try simp only [rmL_c, rmL_s, room_c, room_s]); omega⟩ rfl dL_law_316 (fun r9 w9 h9 => ?_)
    obtain ⟨Wk8, Mo8, rfl, hvM⟩ := h9
    refine p_w (w9 := (MW k md (e1 n (xs (i + 1))) (nI n) Am Wk8 Mo8 v cp bt ml (nI cn) (KW k ad r (nI n) R T9 U9 tx9 sz9 [(oa, aL k 1 g9)]))) (by rw [heM, sel_n he, sel_n he]) ?_
    refine p_istore (lv9 := [(6, .int r9), (5, .int (e1 n (xs (i + 1)))), (0, .ref b), (1, .ref (ad 0)), (2, .ref (md 0)), (3, .ref oa), (4, .int (nI i))]) C (by decide) rfl dL_law_319 ?_
    refine p_aload_n C rfl 4 rfl dL_law_321 ?_
    refine c_Vi (As := []) (rest := []) C (m_X3_thrown l D k ) 0 rfl rfl rfl qml_L_114 qim_X3_thrown qse_X3_X3_thrown qin_X3 qco_X3_thrown nd_X3_thrown ⟨Nat.le_of_ble_eq_true rfl, Nat.le_of_ble_eq_true rfl⟩ (Nat.le_of_ble_eq_true rfl) ⟨by (try simp only [rmL_c, rmL_s, room_c, room_s]); omega, by (try simp only [rmL_c, rmL_s, room_c, room_s]); omega⟩ rfl dL_law_322 (fun r9 w9 h9 => ?_)
    obtain ⟨e9, rfl⟩ := h9
    refine p_int e9 ?_
    refine p_toK ?_
    refine p_iload C 1 rfl dL_law_325 ?_
    refine p_icmp_eq C 332 (by decide) dL_law_327 (fun c_327 => ?_) (fun c_327 => absurd rfl c_327)
    refine p_iload C 1 rfl dL_law_332 ?_
    refine p_if_ne C 349 (by decide) dL_law_334 (fun c_334 => ?_) (fun c_334 => absurd c_334 he)
    refine p_goto C 1932 (by decide) dL_law_349 ?_
    refine p_lv (lv9 := [(0, .ref b), (1, .ref (ad 0)), (2, .ref (md 0)), (3, .ref oa), (4, .int (nI i))]) [2, 3, 4, 5, 6] rfl ?_
    exact hnext _ _ _ _ _ _ _ _ _ _ _ _ _ _ _ _ _ _ ⟨hn, hrel, hok, hft, hm⟩ (by (try simp only [rmL_c, rmL_s, room_c, room_s]); omega) (by (try simp only [rmL_c, rmL_s, room_c, room_s]); omega)
set_option maxHeartbeats 4000000 in
set_option maxRecDepth 100000 in
/-- the law at scale -/
theorem lc_scale {p : Program} {l : Launch} {e : Env} {s : State} {m : MethodId} {args : Array Value} {below : List Frame} {meth : Method} {c : Code} {D : va_G} {A : Nat → Prop} {k : Nat → ClassId} {Q : State → Prop} (C : Cx p s m args meth c cL_law 9 RL A D k) (hfl : l.stackTraces = false) {b L i oa n cp cn v c9 s9 : Nat} {xs : Nat → Int32} {ad r md : Nat → Nat} {R : Nat → Nat → Int32} {T U tx Am Wk Mo bt : Nat → Int32} {th sz ml : Int32} {g : Nat → Int64} (hX : va_X b L xs s s.heap) (hbl : b < s.heap.size) (hbA : ¬ A b) (hL : L ≤ 2048) (hi : i + 4 ≤ L) (hI : LI n R Am cp cn bt) (hc9 : c9 + 544 ≤ 601024) (hs9 : s9 + 6944 ≤ 7293034) (hnext : ∀ (n' cp' cn' v' c' s' : Nat) (R' : Nat → Nat → Int32) (T' U' tx' Am' Wk' Mo' bt' : Nat → Int32) (th' sz' ml' : Int32) (g' : Nat → Int64), LI n' R' Am' cp' cn' bt' → c' ≤ c9 + 544 → s' ≤ s9 + 6944 → WP p l e (room_1) s m args below meth c D A 9 (KW k ad r (nI n') R' T' U' tx' sz' ((oa, aL k 1 g') :: (MW k md th' (nI n') Am' Wk' Mo' v' cp' bt' ml' (nI cn') []))) [(0, .ref b), (1, .ref (ad 0)), (2, .ref (md 0)), (3, .ref oa), (4, .int (nI i))] c' s' Q 1932 []) : WP p l e (room_1) s m args below meth c D A 9 (KW k ad r (nI n) R T U tx sz ((oa, aL k 1 g) :: (MW k md th (nI n) Am Wk Mo v cp bt ml (nI cn) []))) [(0, .ref b), (1, .ref (ad 0)), (2, .ref (md 0)), (3, .ref oa), (4, .int (nI i))] c9 s9 Q 352 [] := by
  obtain ⟨hn, hrel, hok, hft, hm⟩ := hI
  refine p_aload_n C rfl 1 rfl dL_law_352 ?_
  refine p_aload_n C rfl 0 rfl dL_law_353 ?_
  refine p_iload C 4 rfl dL_law_354 ?_
  refine p_iconst (v := (nI 1)) C (by decide) dL_law_356 ?_
  refine p_iadd C dL_law_357 ?_
  refine p_int (y := (nI (i + 1))) (nI_add _ _) ?_
  refine p_sld (x := xs (i + 1)) C hX hbl hbA (vp_in_nI (by omega) (by omega)) (congrArg xs (nI_clamp (by omega))) dL_law_358 ?_
  refine p_aload_n C rfl 0 rfl dL_law_359 ?_
  refine p_iload C 4 rfl dL_law_360 ?_
  refine p_iconst (v := (nI 2)) C (by decide) dL_law_362 ?_
  refine p_iadd C dL_law_363 ?_
  refine p_int (y := (nI (i + 2))) (nI_add _ _) ?_
  refine p_sld (x := xs (i + 2)) C hX hbl hbA (vp_in_nI (by omega) (by omega)) (congrArg xs (nI_clamp (by omega))) dL_law_364 ?_
  refine p_aload_n C rfl 3 rfl dL_law_365 ?_
  refine c_Wi (As := [.ref (ad 0), .int (xs (i + 1)), .int (xs (i + 2)), .ref oa]) (rest := []) C (m_L_scale l D k hfl (hn := hn)) qml_L_125 qst_L_scale qin_L qco_L_scale nd_L_scale ⟨Nat.le_of_ble_eq_true rfl, Nat.le_of_ble_eq_true rfl⟩ (Nat.le_of_ble_eq_true rfl) ⟨by (try simp only [rmL_c, rmL_s, room_c, room_s]); omega, by (try simp only [rmL_c, rmL_s, room_c, room_s]); omega⟩ rfl dL_law_366 (fun r9 w9 h9 => ?_)
  obtain ⟨e9, T9, U9, tx9, sz9, g9, rfl, hv9⟩ := h9
  refine p_int e9 ?_
  by_cases he : e1 n (xs (i + 1)) = 0
  · have heM : e1 n (xs (i + 1)) = e1 n (xs (i + 1)) := rfl
    have hrc := isR_ix hn (e1_t he)
    have hn9 := hn
    refine p_w (w9 := (KW k ad r (nI n) (upR R (ix (xs (i + 1))) (scF (R (ix (xs (i + 1)))) (xs (i + 2)))) T9 U9 tx9 sz9 ((oa, aL k 1 g9) :: (MW k md th (nI n) Am Wk Mo v cp bt ml (nI cn) [])))) (by rw [he, sel_0, sel_0]) ?_
    have hv := hv9 he
    refine p_int (y := 0) he ?_
    refine p_istore (lv9 := [(5, .int 0), (0, .ref b), (1, .ref (ad 0)), (2, .ref (md 0)), (3, .ref oa), (4, .int (nI i))]) C (by decide) rfl dL_law_369 ?_
    refine p_aload_n C rfl 3 rfl dL_law_371 ?_
    refine p_aload_n C rfl 1 rfl dL_law_372 ?_
    refine p_iload C 5 rfl dL_law_373 ?_
    refine p_iconst (v := (nI 1)) C (by decide) dL_law_375 ?_
    refine p_iadd C dL_law_376 ?_
    refine p_int (y := (nI (i + 1))) (nI_add _ _) ?_
    refine p_sld (x := xs (i + 1)) C hX hbl hbA (vp_in_nI (by omega) (by omega)) (congrArg xs (nI_clamp (by omega))) dL_law_377 ?_
    refine p_aload_n C rfl 1 rfl dL_law_378 ?_
    refine p_iload C 5 rfl dL_law_379 ?_
    refine p_iconst (v := (nI 2)) C (by decide) dL_law_381 ?_
    refine p_iadd C dL_law_382 ?_
    refine p_int (y := (nI (i + 2))) (nI_add _ _) ?_
    refine p_sld (x := xs (i + 2)) C hX hbl hbA (vp_in_nI (by omega) (by omega)) (congrArg xs (nI_clamp (by omega))) dL_law_383 ?_
    refine p_toM ?_
    refine c_Vi (As := [.int (xs (i + 1)), .int (xs (i + 2))]) (rest := []) C (m_X3_scale l D k hn) 0 rfl rfl rfl qml_L_128 qim_X3_scale qse_X3_X3_scale qin_X3 qco_X3_scale nd_X3_scale ⟨Nat.le_of_ble_eq_true rfl, Nat.le_of_ble_eq_true rfl⟩ (Nat.le_of_ble_eq_true rfl) ⟨by (try simp only [rmL_c, rmL_s, room_c, room_s]); omega, by (try simp only [rmL_c, rmL_s, room_c, room_s]); omega⟩ rfl dL_law_384 (fun r9 w9 h9 => ?_)
    obtain ⟨Wk8, Mo8, rfl, hvM⟩ := h9
    refine p_w (w9 := (MW k md 0 (nI n) (scR Am (ix (xs (i + 1))) (xs (i + 2)) 9) Wk8 Mo8 v cp bt ml (nI cn) (KW k ad r (nI n) (upR R (ix (xs (i + 1))) (scF (R (ix (xs (i + 1)))) (xs (i + 2)))) T9 U9 tx9 sz9 [(oa, aL k 1 g9)]))) (by rw [heM.trans he, sel_0]) ?_
    refine p_int (y := dI (dg (mrow (scR Am (ix (xs (i + 1))) (xs (i + 2)) 9) (ix (xs (i + 1)))))) (hvM (heM.trans he)) ?_
    refine p_istore (lv9 := [(6, .int (dI (dg (mrow (scR Am (ix (xs (i + 1))) (xs (i + 2)) 9) (ix (xs (i + 1))))))), (5, .int 0), (0, .ref b), (1, .ref (ad 0)), (2, .ref (md 0)), (3, .ref oa), (4, .int (nI i))]) C (by decide) rfl dL_law_387 ?_
    refine p_aload_n C rfl 4 rfl dL_law_389 ?_
    refine c_Vi (As := []) (rest := []) C (m_X3_thrown l D k ) 0 rfl rfl rfl qml_L_114 qim_X3_thrown qse_X3_X3_thrown qin_X3 qco_X3_thrown nd_X3_thrown ⟨Nat.le_of_ble_eq_true rfl, Nat.le_of_ble_eq_true rfl⟩ (Nat.le_of_ble_eq_true rfl) ⟨by (try simp only [rmL_c, rmL_s, room_c, room_s]); omega, by (try simp only [rmL_c, rmL_s, room_c, room_s]); omega⟩ rfl dL_law_390 (fun r9 w9 h9 => ?_)
    obtain ⟨e9, rfl⟩ := h9
    refine p_int e9 ?_
    refine p_toK ?_
    refine p_iload C 1 rfl dL_law_393 ?_
    refine p_icmp_eq C 400 (by decide) dL_law_395 (fun c_395 => ?_) (fun c_395 => absurd rfl c_395)
    refine p_iload C 1 rfl dL_law_400 ?_
    refine p_if_ne C 417 (by decide) dL_law_402 (fun c_402 => absurd c_402 (fun z9 => z9 rfl)) (fun c_402 => ?_)
    refine p_aload_n C rfl 5 rfl dL_law_405 ?_
    refine p_iconst (v := 0) C (by decide) dL_law_406 ?_
    refine p_lald (v := (g9 0)) C 22 KW_y (vp_in_nI (n := 0) (N := 1) (by omega) (by omega)) (by rw [show (0 : Int32).toNatClampNeg = 0 from rfl]) dL_law_407 ?_
    refine p_iload C 0 rfl dL_law_408 ?_
    refine p_i2l C dL_law_410 ?_
    refine p_lcmp C dL_law_411 ?_
    refine p_if_eq C 417 (by decide) dL_law_412 (fun c_412 => ?_) (fun c_412 => absurd ((lg_cmp_eq _ _).mpr (hv.trans (congrArg (fun z9 => (dI z9).toInt64) (sc_dg hrel hrc)))) c_412)
    refine p_goto C 1932 (by decide) dL_law_417 ?_
    refine p_lv (lv9 := [(0, .ref b), (1, .ref (ad 0)), (2, .ref (md 0)), (3, .ref oa), (4, .int (nI i))]) [2, 3, 4, 5, 6] rfl ?_
    have hW : RelW n (upR R (ix (xs (i + 1))) (scF (R (ix (xs (i + 1)))) (xs (i + 2)))) (scR Am (ix (xs (i + 1))) (xs (i + 2)) 9) := rw_sc hrel hrc
    refine p_KWn (R2 := RN n (upR R (ix (xs (i + 1))) (scF (R (ix (xs (i + 1)))) (xs (i + 2)))) (scR Am (ix (xs (i + 1))) (xs (i + 2)) 9)) (fun i9 j9 hj9 => RN_ok hW i9 j9 hj9) ?_
    exact hnext _ _ _ _ _ _ _ _ _ _ _ _ _ _ _ _ _ _ ⟨hn9, RN_rel _ _ _, hok, hft, hm⟩ (by (try simp only [rmL_c, rmL_s, room_c, room_s]); omega) (by (try simp only [rmL_c, rmL_s, room_c, room_s]); omega)
  · have heM : e1 n (xs (i + 1)) = e1 n (xs (i + 1)) := rfl
    refine p_w (w9 := (KW k ad r (nI n) R T9 U9 tx9 sz9 ((oa, aL k 1 g9) :: (MW k md th (nI n) Am Wk Mo v cp bt ml (nI cn) [])))) (by rw [sel_n he, sel_n he]) ?_
    refine p_istore (lv9 := [(5, .int (e1 n (xs (i + 1)))), (0, .ref b), (1, .ref (ad 0)), (2, .ref (md 0)), (3, .ref oa), (4, .int (nI i))]) C (by decide) rfl dL_law_369 ?_
    refine p_aload_n C rfl 3 rfl dL_law_371 ?_
    refine p_aload_n C rfl 1 rfl dL_law_372 ?_
    refine p_iload C 5 rfl dL_law_373 ?_
    refine p_iconst (v := (nI 1)) C (by decide) dL_law_375 ?_
    refine p_iadd C dL_law_376 ?_
    refine p_int (y := (nI (i + 1))) (nI_add _ _) ?_
    refine p_sld (x := xs (i + 1)) C hX hbl hbA (vp_in_nI (by omega) (by omega)) (congrArg xs (nI_clamp (by omega))) dL_law_377 ?_
    refine p_aload_n C rfl 1 rfl dL_law_378 ?_
    refine p_iload C 5 rfl dL_law_379 ?_
    refine p_iconst (v := (nI 2)) C (by decide) dL_law_381 ?_
    refine p_iadd C dL_law_382 ?_
    refine p_int (y := (nI (i + 2))) (nI_add _ _) ?_
    refine p_sld (x := xs (i + 2)) C hX hbl hbA (vp_in_nI (by omega) (by omega)) (congrArg xs (nI_clamp (by omega))) dL_law_383 ?_
    refine p_toM ?_
    refine c_Vi (As := [.int (xs (i + 1)), .int (xs (i + 2))]) (rest := []) C (m_X3_scale l D k hn) 0 rfl rfl rfl qml_L_128 qim_X3_scale qse_X3_X3_scale qin_X3 qco_X3_scale nd_X3_scale ⟨Nat.le_of_ble_eq_true rfl, Nat.le_of_ble_eq_true rfl⟩ (Nat.le_of_ble_eq_true rfl) ⟨by (try simp only [rmL_c, rmL_s, room_c, room_s]); omega, by (try simp only [rmL_c, rmL_s, room_c, room_s]); omega⟩ rfl dL_law_384 (fun r9 w9 h9 => ?_)
    obtain ⟨Wk8, Mo8, rfl, hvM⟩ := h9
    refine p_w (w9 := (MW k md (e1 n (xs (i + 1))) (nI n) Am Wk8 Mo8 v cp bt ml (nI cn) (KW k ad r (nI n) R T9 U9 tx9 sz9 [(oa, aL k 1 g9)]))) (by rw [heM, sel_n he]) ?_
    refine p_istore (lv9 := [(6, .int r9), (5, .int (e1 n (xs (i + 1)))), (0, .ref b), (1, .ref (ad 0)), (2, .ref (md 0)), (3, .ref oa), (4, .int (nI i))]) C (by decide) rfl dL_law_387 ?_
    refine p_aload_n C rfl 4 rfl dL_law_389 ?_
    refine c_Vi (As := []) (rest := []) C (m_X3_thrown l D k ) 0 rfl rfl rfl qml_L_114 qim_X3_thrown qse_X3_X3_thrown qin_X3 qco_X3_thrown nd_X3_thrown ⟨Nat.le_of_ble_eq_true rfl, Nat.le_of_ble_eq_true rfl⟩ (Nat.le_of_ble_eq_true rfl) ⟨by (try simp only [rmL_c, rmL_s, room_c, room_s]); omega, by (try simp only [rmL_c, rmL_s, room_c, room_s]); omega⟩ rfl dL_law_390 (fun r9 w9 h9 => ?_)
    obtain ⟨e9, rfl⟩ := h9
    refine p_int e9 ?_
    refine p_toK ?_
    refine p_iload C 1 rfl dL_law_393 ?_
    refine p_icmp_eq C 400 (by decide) dL_law_395 (fun c_395 => ?_) (fun c_395 => absurd rfl c_395)
    refine p_iload C 1 rfl dL_law_400 ?_
    refine p_if_ne C 417 (by decide) dL_law_402 (fun c_402 => ?_) (fun c_402 => absurd c_402 he)
    refine p_goto C 1932 (by decide) dL_law_417 ?_
    refine p_lv (lv9 := [(0, .ref b), (1, .ref (ad 0)), (2, .ref (md 0)), (3, .ref oa), (4, .int (nI i))]) [2, 3, 4, 5, 6] rfl ?_
    exact hnext _ _ _ _ _ _ _ _ _ _ _ _ _ _ _ _ _ _ ⟨hn, hrel, hok, hft, hm⟩ (by (try simp only [rmL_c, rmL_s, room_c, room_s]); omega) (by (try simp only [rmL_c, rmL_s, room_c, room_s]); omega)
set_option maxHeartbeats 4000000 in
set_option maxRecDepth 100000 in
/-- the law at shift -/
theorem lc_shift {p : Program} {l : Launch} {e : Env} {s : State} {m : MethodId} {args : Array Value} {below : List Frame} {meth : Method} {c : Code} {D : va_G} {A : Nat → Prop} {k : Nat → ClassId} {Q : State → Prop} (C : Cx p s m args meth c cL_law 9 RL A D k) (hfl : l.stackTraces = false) {b L i oa n cp cn v c9 s9 : Nat} {xs : Nat → Int32} {ad r md : Nat → Nat} {R : Nat → Nat → Int32} {T U tx Am Wk Mo bt : Nat → Int32} {th sz ml : Int32} {g : Nat → Int64} (hX : va_X b L xs s s.heap) (hbl : b < s.heap.size) (hbA : ¬ A b) (hL : L ≤ 2048) (hi : i + 4 ≤ L) (hI : LI n R Am cp cn bt) (hc9 : c9 + 544 ≤ 601024) (hs9 : s9 + 6944 ≤ 7293034) (hnext : ∀ (n' cp' cn' v' c' s' : Nat) (R' : Nat → Nat → Int32) (T' U' tx' Am' Wk' Mo' bt' : Nat → Int32) (th' sz' ml' : Int32) (g' : Nat → Int64), LI n' R' Am' cp' cn' bt' → c' ≤ c9 + 544 → s' ≤ s9 + 6944 → WP p l e (room_1) s m args below meth c D A 9 (KW k ad r (nI n') R' T' U' tx' sz' ((oa, aL k 1 g') :: (MW k md th' (nI n') Am' Wk' Mo' v' cp' bt' ml' (nI cn') []))) [(0, .ref b), (1, .ref (ad 0)), (2, .ref (md 0)), (3, .ref oa), (4, .int (nI i))] c' s' Q 1932 []) : WP p l e (room_1) s m args below meth c D A 9 (KW k ad r (nI n) R T U tx sz ((oa, aL k 1 g) :: (MW k md th (nI n) Am Wk Mo v cp bt ml (nI cn) []))) [(0, .ref b), (1, .ref (ad 0)), (2, .ref (md 0)), (3, .ref oa), (4, .int (nI i))] c9 s9 Q 420 [] := by
  obtain ⟨hn, hrel, hok, hft, hm⟩ := hI
  have hvv : eShift n (xs (i + 1)) (xs (i + 2)) = 0 → (mv (R (ix (xs (i + 1)))) (xs (i + 2)) 0).toInt64 = (mv (mrow Am (ix (xs (i + 1)))) (xs (i + 2)) 0).toInt64 := fun he => by
    have hrc := isR_ix hn (cv_eShift he)
    rw [hrel _ hrc]
  refine p_aload_n C rfl 1 rfl dL_law_420 ?_
  refine p_aload_n C rfl 0 rfl dL_law_421 ?_
  refine p_iload C 4 rfl dL_law_422 ?_
  refine p_iconst (v := (nI 1)) C (by decide) dL_law_424 ?_
  refine p_iadd C dL_law_425 ?_
  refine p_int (y := (nI (i + 1))) (nI_add _ _) ?_
  refine p_sld (x := xs (i + 1)) C hX hbl hbA (vp_in_nI (by omega) (by omega)) (congrArg xs (nI_clamp (by omega))) dL_law_426 ?_
  refine p_aload_n C rfl 0 rfl dL_law_427 ?_
  refine p_iload C 4 rfl dL_law_428 ?_
  refine p_iconst (v := (nI 2)) C (by decide) dL_law_430 ?_
  refine p_iadd C dL_law_431 ?_
  refine p_int (y := (nI (i + 2))) (nI_add _ _) ?_
  refine p_sld (x := xs (i + 2)) C hX hbl hbA (vp_in_nI (by omega) (by omega)) (congrArg xs (nI_clamp (by omega))) dL_law_432 ?_
  refine p_aload_n C rfl 3 rfl dL_law_433 ?_
  refine c_Wi (As := [.ref (ad 0), .int (xs (i + 1)), .int (xs (i + 2)), .ref oa]) (rest := []) C (m_L_shift l D k hfl (hn := hn)) qml_L_129 qst_L_shift qin_L qco_L_shift nd_L_shift ⟨Nat.le_of_ble_eq_true rfl, Nat.le_of_ble_eq_true rfl⟩ (Nat.le_of_ble_eq_true rfl) ⟨by (try simp only [rmL_c, rmL_s, room_c, room_s]); omega, by (try simp only [rmL_c, rmL_s, room_c, room_s]); omega⟩ rfl dL_law_434 (fun r9 w9 h9 => ?_)
  obtain ⟨e9, T9, U9, tx9, sz9, g9, rfl, hv9⟩ := h9
  refine p_int e9 ?_
  by_cases he : eShift n (xs (i + 1)) (xs (i + 2)) = 0
  · have heM : eShift n (xs (i + 1)) (xs (i + 2)) = eShift n (xs (i + 1)) (xs (i + 2)) := rfl
    have hrc := isR_ix hn (cv_eShift he)
    have hn9 := hn
    refine p_w (w9 := (KW k ad r (nI n) (upR R (ix (xs (i + 1))) (mv (R (ix (xs (i + 1)))) (xs (i + 2)))) T9 U9 tx9 sz9 ((oa, aL k 1 g9) :: (MW k md th (nI n) Am Wk Mo v cp bt ml (nI cn) [])))) (by rw [he, sel_0, sel_0]) ?_
    have hv := hv9 he
    refine p_int (y := 0) he ?_
    refine p_istore (lv9 := [(5, .int 0), (0, .ref b), (1, .ref (ad 0)), (2, .ref (md 0)), (3, .ref oa), (4, .int (nI i))]) C (by decide) rfl dL_law_437 ?_
    refine p_aload_n C rfl 3 rfl dL_law_439 ?_
    refine p_aload_n C rfl 1 rfl dL_law_440 ?_
    refine p_iload C 5 rfl dL_law_441 ?_
    refine p_iconst (v := (nI 1)) C (by decide) dL_law_443 ?_
    refine p_iadd C dL_law_444 ?_
    refine p_int (y := (nI (i + 1))) (nI_add _ _) ?_
    refine p_sld (x := xs (i + 1)) C hX hbl hbA (vp_in_nI (by omega) (by omega)) (congrArg xs (nI_clamp (by omega))) dL_law_445 ?_
    refine p_aload_n C rfl 1 rfl dL_law_446 ?_
    refine p_iload C 5 rfl dL_law_447 ?_
    refine p_iconst (v := (nI 2)) C (by decide) dL_law_449 ?_
    refine p_iadd C dL_law_450 ?_
    refine p_int (y := (nI (i + 2))) (nI_add _ _) ?_
    refine p_sld (x := xs (i + 2)) C hX hbl hbA (vp_in_nI (by omega) (by omega)) (congrArg xs (nI_clamp (by omega))) dL_law_451 ?_
    refine p_toM ?_
    refine c_Vi (As := [.int (xs (i + 1)), .int (xs (i + 2))]) (rest := []) C (m_X3_shift l D k hn) 0 rfl rfl rfl qml_L_131 qim_X3_shift qse_X3_X3_shift qin_X3 qco_X3_shift nd_X3_shift ⟨Nat.le_of_ble_eq_true rfl, Nat.le_of_ble_eq_true rfl⟩ (Nat.le_of_ble_eq_true rfl) ⟨by (try simp only [rmL_c, rmL_s, room_c, room_s]); omega, by (try simp only [rmL_c, rmL_s, room_c, room_s]); omega⟩ rfl dL_law_452 (fun r9 w9 h9 => ?_)
    obtain ⟨Wk8, Mo8, rfl, hvM⟩ := h9
    refine p_w (w9 := (MW k md 0 (nI n) (ptR Am (ix (xs (i + 1))) (mv (mrow Am (ix (xs (i + 1)))) (xs (i + 2)))) Wk8 Mo8 v cp bt ml (nI cn) (KW k ad r (nI n) (upR R (ix (xs (i + 1))) (mv (R (ix (xs (i + 1)))) (xs (i + 2)))) T9 U9 tx9 sz9 [(oa, aL k 1 g9)]))) (by rw [heM.trans he, sel_0]) ?_
    refine p_int (y := mv (mrow Am (ix (xs (i + 1)))) (xs (i + 2)) 0) (hvM (heM.trans he)) ?_
    refine p_istore (lv9 := [(6, .int (mv (mrow Am (ix (xs (i + 1)))) (xs (i + 2)) 0)), (5, .int 0), (0, .ref b), (1, .ref (ad 0)), (2, .ref (md 0)), (3, .ref oa), (4, .int (nI i))]) C (by decide) rfl dL_law_455 ?_
    refine p_aload_n C rfl 4 rfl dL_law_457 ?_
    refine c_Vi (As := []) (rest := []) C (m_X3_thrown l D k ) 0 rfl rfl rfl qml_L_114 qim_X3_thrown qse_X3_X3_thrown qin_X3 qco_X3_thrown nd_X3_thrown ⟨Nat.le_of_ble_eq_true rfl, Nat.le_of_ble_eq_true rfl⟩ (Nat.le_of_ble_eq_true rfl) ⟨by (try simp only [rmL_c, rmL_s, room_c, room_s]); omega, by (try simp only [rmL_c, rmL_s, room_c, room_s]); omega⟩ rfl dL_law_458 (fun r9 w9 h9 => ?_)
    obtain ⟨e9, rfl⟩ := h9
    refine p_int e9 ?_
    refine p_toK ?_
    refine p_iload C 1 rfl dL_law_461 ?_
    refine p_icmp_eq C 468 (by decide) dL_law_463 (fun c_463 => ?_) (fun c_463 => absurd rfl c_463)
    refine p_iload C 1 rfl dL_law_468 ?_
    refine p_if_ne C 485 (by decide) dL_law_470 (fun c_470 => absurd c_470 (fun z9 => z9 rfl)) (fun c_470 => ?_)
    refine p_aload_n C rfl 5 rfl dL_law_473 ?_
    refine p_iconst (v := 0) C (by decide) dL_law_474 ?_
    refine p_lald (v := (g9 0)) C 22 KW_y (vp_in_nI (n := 0) (N := 1) (by omega) (by omega)) (by rw [show (0 : Int32).toNatClampNeg = 0 from rfl]) dL_law_475 ?_
    refine p_iload C 0 rfl dL_law_476 ?_
    refine p_i2l C dL_law_478 ?_
    refine p_lcmp C dL_law_479 ?_
    refine p_if_eq C 485 (by decide) dL_law_480 (fun c_480 => ?_) (fun c_480 => absurd ((lg_cmp_eq _ _).mpr (hv.trans (hvv he))) c_480)
    refine p_goto C 1932 (by decide) dL_law_485 ?_
    refine p_lv (lv9 := [(0, .ref b), (1, .ref (ad 0)), (2, .ref (md 0)), (3, .ref oa), (4, .int (nI i))]) [2, 3, 4, 5, 6] rfl ?_
    have hW : RelW n (upR R (ix (xs (i + 1))) (mv (R (ix (xs (i + 1)))) (xs (i + 2)))) (ptR Am (ix (xs (i + 1))) (mv (mrow Am (ix (xs (i + 1)))) (xs (i + 2)))) := rw_pt hrel (fun q hq => Or.inr hq) (fun _ _ => by rw [hrel _ hrc])
    refine p_KWn (R2 := RN n (upR R (ix (xs (i + 1))) (mv (R (ix (xs (i + 1)))) (xs (i + 2)))) (ptR Am (ix (xs (i + 1))) (mv (mrow Am (ix (xs (i + 1)))) (xs (i + 2))))) (fun i9 j9 hj9 => RN_ok hW i9 j9 hj9) ?_
    exact hnext _ _ _ _ _ _ _ _ _ _ _ _ _ _ _ _ _ _ ⟨hn9, RN_rel _ _ _, hok, hft, hm⟩ (by (try simp only [rmL_c, rmL_s, room_c, room_s]); omega) (by (try simp only [rmL_c, rmL_s, room_c, room_s]); omega)
  · have heM : eShift n (xs (i + 1)) (xs (i + 2)) = eShift n (xs (i + 1)) (xs (i + 2)) := rfl
    refine p_w (w9 := (KW k ad r (nI n) R T9 U9 tx9 sz9 ((oa, aL k 1 g9) :: (MW k md th (nI n) Am Wk Mo v cp bt ml (nI cn) [])))) (by rw [sel_n he, sel_n he]) ?_
    refine p_istore (lv9 := [(5, .int (eShift n (xs (i + 1)) (xs (i + 2)))), (0, .ref b), (1, .ref (ad 0)), (2, .ref (md 0)), (3, .ref oa), (4, .int (nI i))]) C (by decide) rfl dL_law_437 ?_
    refine p_aload_n C rfl 3 rfl dL_law_439 ?_
    refine p_aload_n C rfl 1 rfl dL_law_440 ?_
    refine p_iload C 5 rfl dL_law_441 ?_
    refine p_iconst (v := (nI 1)) C (by decide) dL_law_443 ?_
    refine p_iadd C dL_law_444 ?_
    refine p_int (y := (nI (i + 1))) (nI_add _ _) ?_
    refine p_sld (x := xs (i + 1)) C hX hbl hbA (vp_in_nI (by omega) (by omega)) (congrArg xs (nI_clamp (by omega))) dL_law_445 ?_
    refine p_aload_n C rfl 1 rfl dL_law_446 ?_
    refine p_iload C 5 rfl dL_law_447 ?_
    refine p_iconst (v := (nI 2)) C (by decide) dL_law_449 ?_
    refine p_iadd C dL_law_450 ?_
    refine p_int (y := (nI (i + 2))) (nI_add _ _) ?_
    refine p_sld (x := xs (i + 2)) C hX hbl hbA (vp_in_nI (by omega) (by omega)) (congrArg xs (nI_clamp (by omega))) dL_law_451 ?_
    refine p_toM ?_
    refine c_Vi (As := [.int (xs (i + 1)), .int (xs (i + 2))]) (rest := []) C (m_X3_shift l D k hn) 0 rfl rfl rfl qml_L_131 qim_X3_shift qse_X3_X3_shift qin_X3 qco_X3_shift nd_X3_shift ⟨Nat.le_of_ble_eq_true rfl, Nat.le_of_ble_eq_true rfl⟩ (Nat.le_of_ble_eq_true rfl) ⟨by (try simp only [rmL_c, rmL_s, room_c, room_s]); omega, by (try simp only [rmL_c, rmL_s, room_c, room_s]); omega⟩ rfl dL_law_452 (fun r9 w9 h9 => ?_)
    obtain ⟨Wk8, Mo8, rfl, hvM⟩ := h9
    refine p_w (w9 := (MW k md (eShift n (xs (i + 1)) (xs (i + 2))) (nI n) Am Wk8 Mo8 v cp bt ml (nI cn) (KW k ad r (nI n) R T9 U9 tx9 sz9 [(oa, aL k 1 g9)]))) (by rw [heM, sel_n he]) ?_
    refine p_istore (lv9 := [(6, .int r9), (5, .int (eShift n (xs (i + 1)) (xs (i + 2)))), (0, .ref b), (1, .ref (ad 0)), (2, .ref (md 0)), (3, .ref oa), (4, .int (nI i))]) C (by decide) rfl dL_law_455 ?_
    refine p_aload_n C rfl 4 rfl dL_law_457 ?_
    refine c_Vi (As := []) (rest := []) C (m_X3_thrown l D k ) 0 rfl rfl rfl qml_L_114 qim_X3_thrown qse_X3_X3_thrown qin_X3 qco_X3_thrown nd_X3_thrown ⟨Nat.le_of_ble_eq_true rfl, Nat.le_of_ble_eq_true rfl⟩ (Nat.le_of_ble_eq_true rfl) ⟨by (try simp only [rmL_c, rmL_s, room_c, room_s]); omega, by (try simp only [rmL_c, rmL_s, room_c, room_s]); omega⟩ rfl dL_law_458 (fun r9 w9 h9 => ?_)
    obtain ⟨e9, rfl⟩ := h9
    refine p_int e9 ?_
    refine p_toK ?_
    refine p_iload C 1 rfl dL_law_461 ?_
    refine p_icmp_eq C 468 (by decide) dL_law_463 (fun c_463 => ?_) (fun c_463 => absurd rfl c_463)
    refine p_iload C 1 rfl dL_law_468 ?_
    refine p_if_ne C 485 (by decide) dL_law_470 (fun c_470 => ?_) (fun c_470 => absurd c_470 he)
    refine p_goto C 1932 (by decide) dL_law_485 ?_
    refine p_lv (lv9 := [(0, .ref b), (1, .ref (ad 0)), (2, .ref (md 0)), (3, .ref oa), (4, .int (nI i))]) [2, 3, 4, 5, 6] rfl ?_
    exact hnext _ _ _ _ _ _ _ _ _ _ _ _ _ _ _ _ _ _ ⟨hn, hrel, hok, hft, hm⟩ (by (try simp only [rmL_c, rmL_s, room_c, room_s]); omega) (by (try simp only [rmL_c, rmL_s, room_c, room_s]); omega)
set_option maxHeartbeats 4000000 in
set_option maxRecDepth 100000 in
/-- the law at sum -/
theorem lc_sum {p : Program} {l : Launch} {e : Env} {s : State} {m : MethodId} {args : Array Value} {below : List Frame} {meth : Method} {c : Code} {D : va_G} {A : Nat → Prop} {k : Nat → ClassId} {Q : State → Prop} (C : Cx p s m args meth c cL_law 9 RL A D k) (hfl : l.stackTraces = false) {b L i oa n cp cn v c9 s9 : Nat} {xs : Nat → Int32} {ad r md : Nat → Nat} {R : Nat → Nat → Int32} {T U tx Am Wk Mo bt : Nat → Int32} {th sz ml : Int32} {g : Nat → Int64} (hX : va_X b L xs s s.heap) (hbl : b < s.heap.size) (hbA : ¬ A b) (hL : L ≤ 2048) (hi : i + 4 ≤ L) (hI : LI n R Am cp cn bt) (hc9 : c9 + 544 ≤ 601024) (hs9 : s9 + 6944 ≤ 7293034) (hnext : ∀ (n' cp' cn' v' c' s' : Nat) (R' : Nat → Nat → Int32) (T' U' tx' Am' Wk' Mo' bt' : Nat → Int32) (th' sz' ml' : Int32) (g' : Nat → Int64), LI n' R' Am' cp' cn' bt' → c' ≤ c9 + 544 → s' ≤ s9 + 6944 → WP p l e (room_1) s m args below meth c D A 9 (KW k ad r (nI n') R' T' U' tx' sz' ((oa, aL k 1 g') :: (MW k md th' (nI n') Am' Wk' Mo' v' cp' bt' ml' (nI cn') []))) [(0, .ref b), (1, .ref (ad 0)), (2, .ref (md 0)), (3, .ref oa), (4, .int (nI i))] c' s' Q 1932 []) : WP p l e (room_1) s m args below meth c D A 9 (KW k ad r (nI n) R T U tx sz ((oa, aL k 1 g) :: (MW k md th (nI n) Am Wk Mo v cp bt ml (nI cn) []))) [(0, .ref b), (1, .ref (ad 0)), (2, .ref (md 0)), (3, .ref oa), (4, .int (nI i))] c9 s9 Q 488 [] := by
  obtain ⟨hn, hrel, hok, hft, hm⟩ := hI
  have hvv : eJoin n (xs (i + 1)) (xs (i + 2)) = 0 → (nI n).toInt64 = (nI n).toInt64 := fun he => by
    rfl
  refine p_aload_n C rfl 1 rfl dL_law_488 ?_
  refine p_aload_n C rfl 0 rfl dL_law_489 ?_
  refine p_iload C 4 rfl dL_law_490 ?_
  refine p_iconst (v := (nI 1)) C (by decide) dL_law_492 ?_
  refine p_iadd C dL_law_493 ?_
  refine p_int (y := (nI (i + 1))) (nI_add _ _) ?_
  refine p_sld (x := xs (i + 1)) C hX hbl hbA (vp_in_nI (by omega) (by omega)) (congrArg xs (nI_clamp (by omega))) dL_law_494 ?_
  refine p_aload_n C rfl 0 rfl dL_law_495 ?_
  refine p_iload C 4 rfl dL_law_496 ?_
  refine p_iconst (v := (nI 2)) C (by decide) dL_law_498 ?_
  refine p_iadd C dL_law_499 ?_
  refine p_int (y := (nI (i + 2))) (nI_add _ _) ?_
  refine p_sld (x := xs (i + 2)) C hX hbl hbA (vp_in_nI (by omega) (by omega)) (congrArg xs (nI_clamp (by omega))) dL_law_500 ?_
  refine p_aload_n C rfl 3 rfl dL_law_501 ?_
  refine c_Wi (As := [.ref (ad 0), .int (xs (i + 1)), .int (xs (i + 2)), .ref oa]) (rest := []) C (m_L_sum l D k hfl (hn := hn)) qml_L_132 qst_L_sum qin_L qco_L_sum nd_L_sum ⟨Nat.le_of_ble_eq_true rfl, Nat.le_of_ble_eq_true rfl⟩ (Nat.le_of_ble_eq_true rfl) ⟨by (try simp only [rmL_c, rmL_s, room_c, room_s]); omega, by (try simp only [rmL_c, rmL_s, room_c, room_s]); omega⟩ rfl dL_law_502 (fun r9 w9 h9 => ?_)
  obtain ⟨e9, T9, U9, tx9, sz9, g9, rfl, hv9⟩ := h9
  refine p_int e9 ?_
  by_cases he : eJoin n (xs (i + 1)) (xs (i + 2)) = 0
  · have heM : eJoin n (xs (i + 1)) (xs (i + 2)) = eJoin n (xs (i + 1)) (xs (i + 2)) := rfl
    obtain ⟨hra, hrb⟩ := cv_eJoin hn he
    have hn9 := cn_eJoin hn he
    refine p_w (w9 := (KW k ad r (nI (n + 1)) (upR R n (suF (R (ix (xs (i + 1)))) (R (ix (xs (i + 2)))))) T9 U9 tx9 sz9 ((oa, aL k 1 g9) :: (MW k md th (nI n) Am Wk Mo v cp bt ml (nI cn) [])))) (by rw [he, sel_0, sel_0]) ?_
    have hv := hv9 he
    refine p_int (y := 0) he ?_
    refine p_istore (lv9 := [(5, .int 0), (0, .ref b), (1, .ref (ad 0)), (2, .ref (md 0)), (3, .ref oa), (4, .int (nI i))]) C (by decide) rfl dL_law_505 ?_
    refine p_aload_n C rfl 3 rfl dL_law_507 ?_
    refine p_aload_n C rfl 1 rfl dL_law_508 ?_
    refine p_iload C 5 rfl dL_law_509 ?_
    refine p_iconst (v := (nI 1)) C (by decide) dL_law_511 ?_
    refine p_iadd C dL_law_512 ?_
    refine p_int (y := (nI (i + 1))) (nI_add _ _) ?_
    refine p_sld (x := xs (i + 1)) C hX hbl hbA (vp_in_nI (by omega) (by omega)) (congrArg xs (nI_clamp (by omega))) dL_law_513 ?_
    refine p_aload_n C rfl 1 rfl dL_law_514 ?_
    refine p_iload C 5 rfl dL_law_515 ?_
    refine p_iconst (v := (nI 2)) C (by decide) dL_law_517 ?_
    refine p_iadd C dL_law_518 ?_
    refine p_int (y := (nI (i + 2))) (nI_add _ _) ?_
    refine p_sld (x := xs (i + 2)) C hX hbl hbA (vp_in_nI (by omega) (by omega)) (congrArg xs (nI_clamp (by omega))) dL_law_519 ?_
    refine p_toM ?_
    refine c_Vi (As := [.int (xs (i + 1)), .int (xs (i + 2))]) (rest := []) C (m_X3_sum l D k hn) 0 rfl rfl rfl qml_L_134 qim_X3_sum qse_X3_X3_sum qin_X3 qco_X3_sum nd_X3_sum ⟨Nat.le_of_ble_eq_true rfl, Nat.le_of_ble_eq_true rfl⟩ (Nat.le_of_ble_eq_true rfl) ⟨by (try simp only [rmL_c, rmL_s, room_c, room_s]); omega, by (try simp only [rmL_c, rmL_s, room_c, room_s]); omega⟩ rfl dL_law_520 (fun r9 w9 h9 => ?_)
    obtain ⟨Wk8, Mo8, rfl, hvM⟩ := h9
    refine p_w (w9 := (MW k md 0 (nI (n + 1)) (ptR Am n (jnR (mrow Am (ix (xs (i + 1)))) (mrow Am (ix (xs (i + 2)))) 1)) Wk8 Mo8 v cp bt ml (nI cn) (KW k ad r (nI (n + 1)) (upR R n (suF (R (ix (xs (i + 1)))) (R (ix (xs (i + 2)))))) T9 U9 tx9 sz9 [(oa, aL k 1 g9)]))) (by rw [heM.trans he, sel_0, sel_0]) ?_
    refine p_int (y := nI n) (hvM (heM.trans he)) ?_
    refine p_istore (lv9 := [(6, .int (nI n)), (5, .int 0), (0, .ref b), (1, .ref (ad 0)), (2, .ref (md 0)), (3, .ref oa), (4, .int (nI i))]) C (by decide) rfl dL_law_523 ?_
    refine p_aload_n C rfl 4 rfl dL_law_525 ?_
    refine c_Vi (As := []) (rest := []) C (m_X3_thrown l D k ) 0 rfl rfl rfl qml_L_114 qim_X3_thrown qse_X3_X3_thrown qin_X3 qco_X3_thrown nd_X3_thrown ⟨Nat.le_of_ble_eq_true rfl, Nat.le_of_ble_eq_true rfl⟩ (Nat.le_of_ble_eq_true rfl) ⟨by (try simp only [rmL_c, rmL_s, room_c, room_s]); omega, by (try simp only [rmL_c, rmL_s, room_c, room_s]); omega⟩ rfl dL_law_526 (fun r9 w9 h9 => ?_)
    obtain ⟨e9, rfl⟩ := h9
    refine p_int e9 ?_
    refine p_toK ?_
    refine p_iload C 1 rfl dL_law_529 ?_
    refine p_icmp_eq C 536 (by decide) dL_law_531 (fun c_531 => ?_) (fun c_531 => absurd rfl c_531)
    refine p_iload C 1 rfl dL_law_536 ?_
    refine p_if_ne C 553 (by decide) dL_law_538 (fun c_538 => absurd c_538 (fun z9 => z9 rfl)) (fun c_538 => ?_)
    refine p_aload_n C rfl 5 rfl dL_law_541 ?_
    refine p_iconst (v := 0) C (by decide) dL_law_542 ?_
    refine p_lald (v := (g9 0)) C 22 KW_y (vp_in_nI (n := 0) (N := 1) (by omega) (by omega)) (by rw [show (0 : Int32).toNatClampNeg = 0 from rfl]) dL_law_543 ?_
    refine p_iload C 0 rfl dL_law_544 ?_
    refine p_i2l C dL_law_546 ?_
    refine p_lcmp C dL_law_547 ?_
    refine p_if_eq C 553 (by decide) dL_law_548 (fun c_548 => ?_) (fun c_548 => absurd ((lg_cmp_eq _ _).mpr (hv.trans (hvv he))) c_548)
    refine p_goto C 1932 (by decide) dL_law_553 ?_
    refine p_lv (lv9 := [(0, .ref b), (1, .ref (ad 0)), (2, .ref (md 0)), (3, .ref oa), (4, .int (nI i))]) [2, 3, 4, 5, 6] rfl ?_
    have hW : RelW (n + 1) (upR R n (suF (R (ix (xs (i + 1)))) (R (ix (xs (i + 2)))))) (ptR Am n (jnR (mrow Am (ix (xs (i + 1)))) (mrow Am (ix (xs (i + 2)))) 1)) := rw_pt hrel (fun q hq => by omega) (fun j hj => by rw [hrel _ hra, hrel _ hrb]; exact su_j hj)
    refine p_KWn (R2 := RN (n + 1) (upR R n (suF (R (ix (xs (i + 1)))) (R (ix (xs (i + 2)))))) (ptR Am n (jnR (mrow Am (ix (xs (i + 1)))) (mrow Am (ix (xs (i + 2)))) 1))) (fun i9 j9 hj9 => RN_ok hW i9 j9 hj9) ?_
    exact hnext _ _ _ _ _ _ _ _ _ _ _ _ _ _ _ _ _ _ ⟨hn9, RN_rel _ _ _, hok, hft, hm⟩ (by (try simp only [rmL_c, rmL_s, room_c, room_s]); omega) (by (try simp only [rmL_c, rmL_s, room_c, room_s]); omega)
  · have heM : eJoin n (xs (i + 1)) (xs (i + 2)) = eJoin n (xs (i + 1)) (xs (i + 2)) := rfl
    refine p_w (w9 := (KW k ad r (nI n) R T9 U9 tx9 sz9 ((oa, aL k 1 g9) :: (MW k md th (nI n) Am Wk Mo v cp bt ml (nI cn) [])))) (by rw [sel_n he, sel_n he]) ?_
    refine p_istore (lv9 := [(5, .int (eJoin n (xs (i + 1)) (xs (i + 2)))), (0, .ref b), (1, .ref (ad 0)), (2, .ref (md 0)), (3, .ref oa), (4, .int (nI i))]) C (by decide) rfl dL_law_505 ?_
    refine p_aload_n C rfl 3 rfl dL_law_507 ?_
    refine p_aload_n C rfl 1 rfl dL_law_508 ?_
    refine p_iload C 5 rfl dL_law_509 ?_
    refine p_iconst (v := (nI 1)) C (by decide) dL_law_511 ?_
    refine p_iadd C dL_law_512 ?_
    refine p_int (y := (nI (i + 1))) (nI_add _ _) ?_
    refine p_sld (x := xs (i + 1)) C hX hbl hbA (vp_in_nI (by omega) (by omega)) (congrArg xs (nI_clamp (by omega))) dL_law_513 ?_
    refine p_aload_n C rfl 1 rfl dL_law_514 ?_
    refine p_iload C 5 rfl dL_law_515 ?_
    refine p_iconst (v := (nI 2)) C (by decide) dL_law_517 ?_
    refine p_iadd C dL_law_518 ?_
    refine p_int (y := (nI (i + 2))) (nI_add _ _) ?_
    refine p_sld (x := xs (i + 2)) C hX hbl hbA (vp_in_nI (by omega) (by omega)) (congrArg xs (nI_clamp (by omega))) dL_law_519 ?_
    refine p_toM ?_
    refine c_Vi (As := [.int (xs (i + 1)), .int (xs (i + 2))]) (rest := []) C (m_X3_sum l D k hn) 0 rfl rfl rfl qml_L_134 qim_X3_sum qse_X3_X3_sum qin_X3 qco_X3_sum nd_X3_sum ⟨Nat.le_of_ble_eq_true rfl, Nat.le_of_ble_eq_true rfl⟩ (Nat.le_of_ble_eq_true rfl) ⟨by (try simp only [rmL_c, rmL_s, room_c, room_s]); omega, by (try simp only [rmL_c, rmL_s, room_c, room_s]); omega⟩ rfl dL_law_520 (fun r9 w9 h9 => ?_)
    obtain ⟨Wk8, Mo8, rfl, hvM⟩ := h9
    refine p_w (w9 := (MW k md (eJoin n (xs (i + 1)) (xs (i + 2))) (nI n) Am Wk8 Mo8 v cp bt ml (nI cn) (KW k ad r (nI n) R T9 U9 tx9 sz9 [(oa, aL k 1 g9)]))) (by rw [heM, sel_n he, sel_n he]) ?_
    refine p_istore (lv9 := [(6, .int r9), (5, .int (eJoin n (xs (i + 1)) (xs (i + 2)))), (0, .ref b), (1, .ref (ad 0)), (2, .ref (md 0)), (3, .ref oa), (4, .int (nI i))]) C (by decide) rfl dL_law_523 ?_
    refine p_aload_n C rfl 4 rfl dL_law_525 ?_
    refine c_Vi (As := []) (rest := []) C (m_X3_thrown l D k ) 0 rfl rfl rfl qml_L_114 qim_X3_thrown qse_X3_X3_thrown qin_X3 qco_X3_thrown nd_X3_thrown ⟨Nat.le_of_ble_eq_true rfl, Nat.le_of_ble_eq_true rfl⟩ (Nat.le_of_ble_eq_true rfl) ⟨by (try simp only [rmL_c, rmL_s, room_c, room_s]); omega, by (try simp only [rmL_c, rmL_s, room_c, room_s]); omega⟩ rfl dL_law_526 (fun r9 w9 h9 => ?_)
    obtain ⟨e9, rfl⟩ := h9
    refine p_int e9 ?_
    refine p_toK ?_
    refine p_iload C 1 rfl dL_law_529 ?_
    refine p_icmp_eq C 536 (by decide) dL_law_531 (fun c_531 => ?_) (fun c_531 => absurd rfl c_531)
    refine p_iload C 1 rfl dL_law_536 ?_
    refine p_if_ne C 553 (by decide) dL_law_538 (fun c_538 => ?_) (fun c_538 => absurd c_538 he)
    refine p_goto C 1932 (by decide) dL_law_553 ?_
    refine p_lv (lv9 := [(0, .ref b), (1, .ref (ad 0)), (2, .ref (md 0)), (3, .ref oa), (4, .int (nI i))]) [2, 3, 4, 5, 6] rfl ?_
    exact hnext _ _ _ _ _ _ _ _ _ _ _ _ _ _ _ _ _ _ ⟨hn, hrel, hok, hft, hm⟩ (by (try simp only [rmL_c, rmL_s, room_c, room_s]); omega) (by (try simp only [rmL_c, rmL_s, room_c, room_s]); omega)
set_option maxHeartbeats 4000000 in
set_option maxRecDepth 100000 in
/-- the law at difference -/
theorem lc_difference {p : Program} {l : Launch} {e : Env} {s : State} {m : MethodId} {args : Array Value} {below : List Frame} {meth : Method} {c : Code} {D : va_G} {A : Nat → Prop} {k : Nat → ClassId} {Q : State → Prop} (C : Cx p s m args meth c cL_law 9 RL A D k) (hfl : l.stackTraces = false) {b L i oa n cp cn v c9 s9 : Nat} {xs : Nat → Int32} {ad r md : Nat → Nat} {R : Nat → Nat → Int32} {T U tx Am Wk Mo bt : Nat → Int32} {th sz ml : Int32} {g : Nat → Int64} (hX : va_X b L xs s s.heap) (hbl : b < s.heap.size) (hbA : ¬ A b) (hL : L ≤ 2048) (hi : i + 4 ≤ L) (hI : LI n R Am cp cn bt) (hc9 : c9 + 544 ≤ 601024) (hs9 : s9 + 6944 ≤ 7293034) (hnext : ∀ (n' cp' cn' v' c' s' : Nat) (R' : Nat → Nat → Int32) (T' U' tx' Am' Wk' Mo' bt' : Nat → Int32) (th' sz' ml' : Int32) (g' : Nat → Int64), LI n' R' Am' cp' cn' bt' → c' ≤ c9 + 544 → s' ≤ s9 + 6944 → WP p l e (room_1) s m args below meth c D A 9 (KW k ad r (nI n') R' T' U' tx' sz' ((oa, aL k 1 g') :: (MW k md th' (nI n') Am' Wk' Mo' v' cp' bt' ml' (nI cn') []))) [(0, .ref b), (1, .ref (ad 0)), (2, .ref (md 0)), (3, .ref oa), (4, .int (nI i))] c' s' Q 1932 []) : WP p l e (room_1) s m args below meth c D A 9 (KW k ad r (nI n) R T U tx sz ((oa, aL k 1 g) :: (MW k md th (nI n) Am Wk Mo v cp bt ml (nI cn) []))) [(0, .ref b), (1, .ref (ad 0)), (2, .ref (md 0)), (3, .ref oa), (4, .int (nI i))] c9 s9 Q 556 [] := by
  obtain ⟨hn, hrel, hok, hft, hm⟩ := hI
  have hvv : eJoin n (xs (i + 1)) (xs (i + 2)) = 0 → (nI n).toInt64 = (nI n).toInt64 := fun he => by
    rfl
  refine p_aload_n C rfl 1 rfl dL_law_556 ?_
  refine p_aload_n C rfl 0 rfl dL_law_557 ?_
  refine p_iload C 4 rfl dL_law_558 ?_
  refine p_iconst (v := (nI 1)) C (by decide) dL_law_560 ?_
  refine p_iadd C dL_law_561 ?_
  refine p_int (y := (nI (i + 1))) (nI_add _ _) ?_
  refine p_sld (x := xs (i + 1)) C hX hbl hbA (vp_in_nI (by omega) (by omega)) (congrArg xs (nI_clamp (by omega))) dL_law_562 ?_
  refine p_aload_n C rfl 0 rfl dL_law_563 ?_
  refine p_iload C 4 rfl dL_law_564 ?_
  refine p_iconst (v := (nI 2)) C (by decide) dL_law_566 ?_
  refine p_iadd C dL_law_567 ?_
  refine p_int (y := (nI (i + 2))) (nI_add _ _) ?_
  refine p_sld (x := xs (i + 2)) C hX hbl hbA (vp_in_nI (by omega) (by omega)) (congrArg xs (nI_clamp (by omega))) dL_law_568 ?_
  refine p_aload_n C rfl 3 rfl dL_law_569 ?_
  refine c_Wi (As := [.ref (ad 0), .int (xs (i + 1)), .int (xs (i + 2)), .ref oa]) (rest := []) C (m_L_difference l D k hfl (hn := hn)) qml_L_135 qst_L_difference qin_L qco_L_difference nd_L_difference ⟨Nat.le_of_ble_eq_true rfl, Nat.le_of_ble_eq_true rfl⟩ (Nat.le_of_ble_eq_true rfl) ⟨by (try simp only [rmL_c, rmL_s, room_c, room_s]); omega, by (try simp only [rmL_c, rmL_s, room_c, room_s]); omega⟩ rfl dL_law_570 (fun r9 w9 h9 => ?_)
  obtain ⟨e9, T9, U9, tx9, sz9, g9, rfl, hv9⟩ := h9
  refine p_int e9 ?_
  by_cases he : eJoin n (xs (i + 1)) (xs (i + 2)) = 0
  · have heM : eJoin n (xs (i + 1)) (xs (i + 2)) = eJoin n (xs (i + 1)) (xs (i + 2)) := rfl
    obtain ⟨hra, hrb⟩ := cv_eJoin hn he
    have hn9 := cn_eJoin hn he
    refine p_w (w9 := (KW k ad r (nI (n + 1)) (upR R n (diF (R (ix (xs (i + 1)))) (R (ix (xs (i + 2)))))) T9 U9 tx9 sz9 ((oa, aL k 1 g9) :: (MW k md th (nI n) Am Wk Mo v cp bt ml (nI cn) [])))) (by rw [he, sel_0, sel_0]) ?_
    have hv := hv9 he
    refine p_int (y := 0) he ?_
    refine p_istore (lv9 := [(5, .int 0), (0, .ref b), (1, .ref (ad 0)), (2, .ref (md 0)), (3, .ref oa), (4, .int (nI i))]) C (by decide) rfl dL_law_573 ?_
    refine p_aload_n C rfl 3 rfl dL_law_575 ?_
    refine p_aload_n C rfl 1 rfl dL_law_576 ?_
    refine p_iload C 5 rfl dL_law_577 ?_
    refine p_iconst (v := (nI 1)) C (by decide) dL_law_579 ?_
    refine p_iadd C dL_law_580 ?_
    refine p_int (y := (nI (i + 1))) (nI_add _ _) ?_
    refine p_sld (x := xs (i + 1)) C hX hbl hbA (vp_in_nI (by omega) (by omega)) (congrArg xs (nI_clamp (by omega))) dL_law_581 ?_
    refine p_aload_n C rfl 1 rfl dL_law_582 ?_
    refine p_iload C 5 rfl dL_law_583 ?_
    refine p_iconst (v := (nI 2)) C (by decide) dL_law_585 ?_
    refine p_iadd C dL_law_586 ?_
    refine p_int (y := (nI (i + 2))) (nI_add _ _) ?_
    refine p_sld (x := xs (i + 2)) C hX hbl hbA (vp_in_nI (by omega) (by omega)) (congrArg xs (nI_clamp (by omega))) dL_law_587 ?_
    refine p_toM ?_
    refine c_Vi (As := [.int (xs (i + 1)), .int (xs (i + 2))]) (rest := []) C (m_X3_difference l D k hn) 0 rfl rfl rfl qml_L_137 qim_X3_difference qse_X3_X3_difference qin_X3 qco_X3_difference nd_X3_difference ⟨Nat.le_of_ble_eq_true rfl, Nat.le_of_ble_eq_true rfl⟩ (Nat.le_of_ble_eq_true rfl) ⟨by (try simp only [rmL_c, rmL_s, room_c, room_s]); omega, by (try simp only [rmL_c, rmL_s, room_c, room_s]); omega⟩ rfl dL_law_588 (fun r9 w9 h9 => ?_)
    obtain ⟨Wk8, Mo8, rfl, hvM⟩ := h9
    refine p_w (w9 := (MW k md 0 (nI (n + 1)) (ptR Am n (jnR (mrow Am (ix (xs (i + 1)))) (mrow Am (ix (xs (i + 2)))) (-1))) Wk8 Mo8 v cp bt ml (nI cn) (KW k ad r (nI (n + 1)) (upR R n (diF (R (ix (xs (i + 1)))) (R (ix (xs (i + 2)))))) T9 U9 tx9 sz9 [(oa, aL k 1 g9)]))) (by rw [heM.trans he, sel_0, sel_0]) ?_
    refine p_int (y := nI n) (hvM (heM.trans he)) ?_
    refine p_istore (lv9 := [(6, .int (nI n)), (5, .int 0), (0, .ref b), (1, .ref (ad 0)), (2, .ref (md 0)), (3, .ref oa), (4, .int (nI i))]) C (by decide) rfl dL_law_591 ?_
    refine p_aload_n C rfl 4 rfl dL_law_593 ?_
    refine c_Vi (As := []) (rest := []) C (m_X3_thrown l D k ) 0 rfl rfl rfl qml_L_114 qim_X3_thrown qse_X3_X3_thrown qin_X3 qco_X3_thrown nd_X3_thrown ⟨Nat.le_of_ble_eq_true rfl, Nat.le_of_ble_eq_true rfl⟩ (Nat.le_of_ble_eq_true rfl) ⟨by (try simp only [rmL_c, rmL_s, room_c, room_s]); omega, by (try simp only [rmL_c, rmL_s, room_c, room_s]); omega⟩ rfl dL_law_594 (fun r9 w9 h9 => ?_)
    obtain ⟨e9, rfl⟩ := h9
    refine p_int e9 ?_
    refine p_toK ?_
    refine p_iload C 1 rfl dL_law_597 ?_
    refine p_icmp_eq C 604 (by decide) dL_law_599 (fun c_599 => ?_) (fun c_599 => absurd rfl c_599)
    refine p_iload C 1 rfl dL_law_604 ?_
    refine p_if_ne C 621 (by decide) dL_law_606 (fun c_606 => absurd c_606 (fun z9 => z9 rfl)) (fun c_606 => ?_)
    refine p_aload_n C rfl 5 rfl dL_law_609 ?_
    refine p_iconst (v := 0) C (by decide) dL_law_610 ?_
    refine p_lald (v := (g9 0)) C 22 KW_y (vp_in_nI (n := 0) (N := 1) (by omega) (by omega)) (by rw [show (0 : Int32).toNatClampNeg = 0 from rfl]) dL_law_611 ?_
    refine p_iload C 0 rfl dL_law_612 ?_
    refine p_i2l C dL_law_614 ?_
    refine p_lcmp C dL_law_615 ?_
    refine p_if_eq C 621 (by decide) dL_law_616 (fun c_616 => ?_) (fun c_616 => absurd ((lg_cmp_eq _ _).mpr (hv.trans (hvv he))) c_616)
    refine p_goto C 1932 (by decide) dL_law_621 ?_
    refine p_lv (lv9 := [(0, .ref b), (1, .ref (ad 0)), (2, .ref (md 0)), (3, .ref oa), (4, .int (nI i))]) [2, 3, 4, 5, 6] rfl ?_
    have hW : RelW (n + 1) (upR R n (diF (R (ix (xs (i + 1)))) (R (ix (xs (i + 2)))))) (ptR Am n (jnR (mrow Am (ix (xs (i + 1)))) (mrow Am (ix (xs (i + 2)))) (-1))) := rw_pt hrel (fun q hq => by omega) (fun j hj => by rw [hrel _ hra, hrel _ hrb]; exact di_j hj)
    refine p_KWn (R2 := RN (n + 1) (upR R n (diF (R (ix (xs (i + 1)))) (R (ix (xs (i + 2)))))) (ptR Am n (jnR (mrow Am (ix (xs (i + 1)))) (mrow Am (ix (xs (i + 2)))) (-1)))) (fun i9 j9 hj9 => RN_ok hW i9 j9 hj9) ?_
    exact hnext _ _ _ _ _ _ _ _ _ _ _ _ _ _ _ _ _ _ ⟨hn9, RN_rel _ _ _, hok, hft, hm⟩ (by (try simp only [rmL_c, rmL_s, room_c, room_s]); omega) (by (try simp only [rmL_c, rmL_s, room_c, room_s]); omega)
  · have heM : eJoin n (xs (i + 1)) (xs (i + 2)) = eJoin n (xs (i + 1)) (xs (i + 2)) := rfl
    refine p_w (w9 := (KW k ad r (nI n) R T9 U9 tx9 sz9 ((oa, aL k 1 g9) :: (MW k md th (nI n) Am Wk Mo v cp bt ml (nI cn) [])))) (by rw [sel_n he, sel_n he]) ?_
    refine p_istore (lv9 := [(5, .int (eJoin n (xs (i + 1)) (xs (i + 2)))), (0, .ref b), (1, .ref (ad 0)), (2, .ref (md 0)), (3, .ref oa), (4, .int (nI i))]) C (by decide) rfl dL_law_573 ?_
    refine p_aload_n C rfl 3 rfl dL_law_575 ?_
    refine p_aload_n C rfl 1 rfl dL_law_576 ?_
    refine p_iload C 5 rfl dL_law_577 ?_
    refine p_iconst (v := (nI 1)) C (by decide) dL_law_579 ?_
    refine p_iadd C dL_law_580 ?_
    refine p_int (y := (nI (i + 1))) (nI_add _ _) ?_
    refine p_sld (x := xs (i + 1)) C hX hbl hbA (vp_in_nI (by omega) (by omega)) (congrArg xs (nI_clamp (by omega))) dL_law_581 ?_
    refine p_aload_n C rfl 1 rfl dL_law_582 ?_
    refine p_iload C 5 rfl dL_law_583 ?_
    refine p_iconst (v := (nI 2)) C (by decide) dL_law_585 ?_
    refine p_iadd C dL_law_586 ?_
    refine p_int (y := (nI (i + 2))) (nI_add _ _) ?_
    refine p_sld (x := xs (i + 2)) C hX hbl hbA (vp_in_nI (by omega) (by omega)) (congrArg xs (nI_clamp (by omega))) dL_law_587 ?_
    refine p_toM ?_
    refine c_Vi (As := [.int (xs (i + 1)), .int (xs (i + 2))]) (rest := []) C (m_X3_difference l D k hn) 0 rfl rfl rfl qml_L_137 qim_X3_difference qse_X3_X3_difference qin_X3 qco_X3_difference nd_X3_difference ⟨Nat.le_of_ble_eq_true rfl, Nat.le_of_ble_eq_true rfl⟩ (Nat.le_of_ble_eq_true rfl) ⟨by (try simp only [rmL_c, rmL_s, room_c, room_s]); omega, by (try simp only [rmL_c, rmL_s, room_c, room_s]); omega⟩ rfl dL_law_588 (fun r9 w9 h9 => ?_)
    obtain ⟨Wk8, Mo8, rfl, hvM⟩ := h9
    refine p_w (w9 := (MW k md (eJoin n (xs (i + 1)) (xs (i + 2))) (nI n) Am Wk8 Mo8 v cp bt ml (nI cn) (KW k ad r (nI n) R T9 U9 tx9 sz9 [(oa, aL k 1 g9)]))) (by rw [heM, sel_n he, sel_n he]) ?_
    refine p_istore (lv9 := [(6, .int r9), (5, .int (eJoin n (xs (i + 1)) (xs (i + 2)))), (0, .ref b), (1, .ref (ad 0)), (2, .ref (md 0)), (3, .ref oa), (4, .int (nI i))]) C (by decide) rfl dL_law_591 ?_
    refine p_aload_n C rfl 4 rfl dL_law_593 ?_
    refine c_Vi (As := []) (rest := []) C (m_X3_thrown l D k ) 0 rfl rfl rfl qml_L_114 qim_X3_thrown qse_X3_X3_thrown qin_X3 qco_X3_thrown nd_X3_thrown ⟨Nat.le_of_ble_eq_true rfl, Nat.le_of_ble_eq_true rfl⟩ (Nat.le_of_ble_eq_true rfl) ⟨by (try simp only [rmL_c, rmL_s, room_c, room_s]); omega, by (try simp only [rmL_c, rmL_s, room_c, room_s]); omega⟩ rfl dL_law_594 (fun r9 w9 h9 => ?_)
    obtain ⟨e9, rfl⟩ := h9
    refine p_int e9 ?_
    refine p_toK ?_
    refine p_iload C 1 rfl dL_law_597 ?_
    refine p_icmp_eq C 604 (by decide) dL_law_599 (fun c_599 => ?_) (fun c_599 => absurd rfl c_599)
    refine p_iload C 1 rfl dL_law_604 ?_
    refine p_if_ne C 621 (by decide) dL_law_606 (fun c_606 => ?_) (fun c_606 => absurd c_606 he)
    refine p_goto C 1932 (by decide) dL_law_621 ?_
    refine p_lv (lv9 := [(0, .ref b), (1, .ref (ad 0)), (2, .ref (md 0)), (3, .ref oa), (4, .int (nI i))]) [2, 3, 4, 5, 6] rfl ?_
    exact hnext _ _ _ _ _ _ _ _ _ _ _ _ _ _ _ _ _ _ ⟨hn, hrel, hok, hft, hm⟩ (by (try simp only [rmL_c, rmL_s, room_c, room_s]); omega) (by (try simp only [rmL_c, rmL_s, room_c, room_s]); omega)
set_option maxHeartbeats 4000000 in
set_option maxRecDepth 100000 in
/-- the law at product -/
theorem lc_product {p : Program} {l : Launch} {e : Env} {s : State} {m : MethodId} {args : Array Value} {below : List Frame} {meth : Method} {c : Code} {D : va_G} {A : Nat → Prop} {k : Nat → ClassId} {Q : State → Prop} (C : Cx p s m args meth c cL_law 9 RL A D k) (hfl : l.stackTraces = false) {b L i oa n cp cn v c9 s9 : Nat} {xs : Nat → Int32} {ad r md : Nat → Nat} {R : Nat → Nat → Int32} {T U tx Am Wk Mo bt : Nat → Int32} {th sz ml : Int32} {g : Nat → Int64} (hX : va_X b L xs s s.heap) (hbl : b < s.heap.size) (hbA : ¬ A b) (hL : L ≤ 2048) (hi : i + 4 ≤ L) (hI : LI n R Am cp cn bt) (hc9 : c9 + 544 ≤ 601024) (hs9 : s9 + 6944 ≤ 7293034) (hnext : ∀ (n' cp' cn' v' c' s' : Nat) (R' : Nat → Nat → Int32) (T' U' tx' Am' Wk' Mo' bt' : Nat → Int32) (th' sz' ml' : Int32) (g' : Nat → Int64), LI n' R' Am' cp' cn' bt' → c' ≤ c9 + 544 → s' ≤ s9 + 6944 → WP p l e (room_1) s m args below meth c D A 9 (KW k ad r (nI n') R' T' U' tx' sz' ((oa, aL k 1 g') :: (MW k md th' (nI n') Am' Wk' Mo' v' cp' bt' ml' (nI cn') []))) [(0, .ref b), (1, .ref (ad 0)), (2, .ref (md 0)), (3, .ref oa), (4, .int (nI i))] c' s' Q 1932 []) : WP p l e (room_1) s m args below meth c D A 9 (KW k ad r (nI n) R T U tx sz ((oa, aL k 1 g) :: (MW k md th (nI n) Am Wk Mo v cp bt ml (nI cn) []))) [(0, .ref b), (1, .ref (ad 0)), (2, .ref (md 0)), (3, .ref oa), (4, .int (nI i))] c9 s9 Q 624 [] := by
  obtain ⟨hn, hrel, hok, hft, hm⟩ := hI
  have hvv : eProd n R (xs (i + 1)) (xs (i + 2)) = 0 → (nI n).toInt64 = (nI n).toInt64 := fun he => by
    rfl
  refine p_aload_n C rfl 1 rfl dL_law_624 ?_
  refine p_aload_n C rfl 0 rfl dL_law_625 ?_
  refine p_iload C 4 rfl dL_law_626 ?_
  refine p_iconst (v := (nI 1)) C (by decide) dL_law_628 ?_
  refine p_iadd C dL_law_629 ?_
  refine p_int (y := (nI (i + 1))) (nI_add _ _) ?_
  refine p_sld (x := xs (i + 1)) C hX hbl hbA (vp_in_nI (by omega) (by omega)) (congrArg xs (nI_clamp (by omega))) dL_law_630 ?_
  refine p_aload_n C rfl 0 rfl dL_law_631 ?_
  refine p_iload C 4 rfl dL_law_632 ?_
  refine p_iconst (v := (nI 2)) C (by decide) dL_law_634 ?_
  refine p_iadd C dL_law_635 ?_
  refine p_int (y := (nI (i + 2))) (nI_add _ _) ?_
  refine p_sld (x := xs (i + 2)) C hX hbl hbA (vp_in_nI (by omega) (by omega)) (congrArg xs (nI_clamp (by omega))) dL_law_636 ?_
  refine p_aload_n C rfl 3 rfl dL_law_637 ?_
  refine c_Wi (As := [.ref (ad 0), .int (xs (i + 1)), .int (xs (i + 2)), .ref oa]) (rest := []) C (m_L_product l D k hfl (hn := hn)) qml_L_138 qst_L_product qin_L qco_L_product nd_L_product ⟨Nat.le_of_ble_eq_true rfl, Nat.le_of_ble_eq_true rfl⟩ (Nat.le_of_ble_eq_true rfl) ⟨by (try simp only [rmL_c, rmL_s, room_c, room_s]); omega, by (try simp only [rmL_c, rmL_s, room_c, room_s]); omega⟩ rfl dL_law_638 (fun r9 w9 h9 => ?_)
  obtain ⟨e9, T9, U9, tx9, sz9, g9, rfl, hv9⟩ := h9
  refine p_int e9 ?_
  by_cases he : eProd n R (xs (i + 1)) (xs (i + 2)) = 0
  · have heM : eProd n (mrow Am) (xs (i + 1)) (xs (i + 2)) = eProd n R (xs (i + 1)) (xs (i + 2)) := (eProd_c hn hrel _ _).symm
    obtain ⟨hra, hrb⟩ := cv_eProd hn he
    have hn9 := cn_eProd hn he
    refine p_w (w9 := (KW k ad r (nI (n + 1)) (upR R n (n9 (cv (R (ix (xs (i + 1)))) (R (ix (xs (i + 2))))))) T9 U9 tx9 sz9 ((oa, aL k 1 g9) :: (MW k md th (nI n) Am Wk Mo v cp bt ml (nI cn) [])))) (by rw [he, sel_0, sel_0]) ?_
    have hv := hv9 he
    refine p_int (y := 0) he ?_
    refine p_istore (lv9 := [(5, .int 0), (0, .ref b), (1, .ref (ad 0)), (2, .ref (md 0)), (3, .ref oa), (4, .int (nI i))]) C (by decide) rfl dL_law_641 ?_
    refine p_aload_n C rfl 3 rfl dL_law_643 ?_
    refine p_aload_n C rfl 1 rfl dL_law_644 ?_
    refine p_iload C 5 rfl dL_law_645 ?_
    refine p_iconst (v := (nI 1)) C (by decide) dL_law_647 ?_
    refine p_iadd C dL_law_648 ?_
    refine p_int (y := (nI (i + 1))) (nI_add _ _) ?_
    refine p_sld (x := xs (i + 1)) C hX hbl hbA (vp_in_nI (by omega) (by omega)) (congrArg xs (nI_clamp (by omega))) dL_law_649 ?_
    refine p_aload_n C rfl 1 rfl dL_law_650 ?_
    refine p_iload C 5 rfl dL_law_651 ?_
    refine p_iconst (v := (nI 2)) C (by decide) dL_law_653 ?_
    refine p_iadd C dL_law_654 ?_
    refine p_int (y := (nI (i + 2))) (nI_add _ _) ?_
    refine p_sld (x := xs (i + 2)) C hX hbl hbA (vp_in_nI (by omega) (by omega)) (congrArg xs (nI_clamp (by omega))) dL_law_655 ?_
    refine p_toM ?_
    refine c_Vi (As := [.int (xs (i + 1)), .int (xs (i + 2))]) (rest := []) C (m_X3_product l D k hn) 0 rfl rfl rfl qml_L_140 qim_X3_product qse_X3_X3_product qin_X3 qco_X3_product nd_X3_product ⟨Nat.le_of_ble_eq_true rfl, Nat.le_of_ble_eq_true rfl⟩ (Nat.le_of_ble_eq_true rfl) ⟨by (try simp only [rmL_c, rmL_s, room_c, room_s]); omega, by (try simp only [rmL_c, rmL_s, room_c, room_s]); omega⟩ rfl dL_law_656 (fun r9 w9 h9 => ?_)
    obtain ⟨Wk8, Mo8, rfl, hvM⟩ := h9
    refine p_w (w9 := (MW k md 0 (nI (n + 1)) (ptR Am n (n9 (cv (mrow Am (ix (xs (i + 1)))) (mrow Am (ix (xs (i + 2))))))) Wk8 Mo8 v cp bt ml (nI cn) (KW k ad r (nI (n + 1)) (upR R n (n9 (cv (R (ix (xs (i + 1)))) (R (ix (xs (i + 2))))))) T9 U9 tx9 sz9 [(oa, aL k 1 g9)]))) (by rw [heM.trans he, sel_0, sel_0]) ?_
    refine p_int (y := nI n) (hvM (heM.trans he)) ?_
    refine p_istore (lv9 := [(6, .int (nI n)), (5, .int 0), (0, .ref b), (1, .ref (ad 0)), (2, .ref (md 0)), (3, .ref oa), (4, .int (nI i))]) C (by decide) rfl dL_law_659 ?_
    refine p_aload_n C rfl 4 rfl dL_law_661 ?_
    refine c_Vi (As := []) (rest := []) C (m_X3_thrown l D k ) 0 rfl rfl rfl qml_L_114 qim_X3_thrown qse_X3_X3_thrown qin_X3 qco_X3_thrown nd_X3_thrown ⟨Nat.le_of_ble_eq_true rfl, Nat.le_of_ble_eq_true rfl⟩ (Nat.le_of_ble_eq_true rfl) ⟨by (try simp only [rmL_c, rmL_s, room_c, room_s]); omega, by (try simp only [rmL_c, rmL_s, room_c, room_s]); omega⟩ rfl dL_law_662 (fun r9 w9 h9 => ?_)
    obtain ⟨e9, rfl⟩ := h9
    refine p_int e9 ?_
    refine p_toK ?_
    refine p_iload C 1 rfl dL_law_665 ?_
    refine p_icmp_eq C 672 (by decide) dL_law_667 (fun c_667 => ?_) (fun c_667 => absurd rfl c_667)
    refine p_iload C 1 rfl dL_law_672 ?_
    refine p_if_ne C 689 (by decide) dL_law_674 (fun c_674 => absurd c_674 (fun z9 => z9 rfl)) (fun c_674 => ?_)
    refine p_aload_n C rfl 5 rfl dL_law_677 ?_
    refine p_iconst (v := 0) C (by decide) dL_law_678 ?_
    refine p_lald (v := (g9 0)) C 22 KW_y (vp_in_nI (n := 0) (N := 1) (by omega) (by omega)) (by rw [show (0 : Int32).toNatClampNeg = 0 from rfl]) dL_law_679 ?_
    refine p_iload C 0 rfl dL_law_680 ?_
    refine p_i2l C dL_law_682 ?_
    refine p_lcmp C dL_law_683 ?_
    refine p_if_eq C 689 (by decide) dL_law_684 (fun c_684 => ?_) (fun c_684 => absurd ((lg_cmp_eq _ _).mpr (hv.trans (hvv he))) c_684)
    refine p_goto C 1932 (by decide) dL_law_689 ?_
    refine p_lv (lv9 := [(0, .ref b), (1, .ref (ad 0)), (2, .ref (md 0)), (3, .ref oa), (4, .int (nI i))]) [2, 3, 4, 5, 6] rfl ?_
    have hW : RelW (n + 1) (upR R n (n9 (cv (R (ix (xs (i + 1)))) (R (ix (xs (i + 2))))))) (ptR Am n (n9 (cv (mrow Am (ix (xs (i + 1)))) (mrow Am (ix (xs (i + 2))))))) := rw_pt hrel (fun q hq => by omega) (fun _ _ => by rw [hrel _ hra, hrel _ hrb])
    refine p_KWn (R2 := RN (n + 1) (upR R n (n9 (cv (R (ix (xs (i + 1)))) (R (ix (xs (i + 2))))))) (ptR Am n (n9 (cv (mrow Am (ix (xs (i + 1)))) (mrow Am (ix (xs (i + 2)))))))) (fun i9 j9 hj9 => RN_ok hW i9 j9 hj9) ?_
    exact hnext _ _ _ _ _ _ _ _ _ _ _ _ _ _ _ _ _ _ ⟨hn9, RN_rel _ _ _, hok, hft, hm⟩ (by (try simp only [rmL_c, rmL_s, room_c, room_s]); omega) (by (try simp only [rmL_c, rmL_s, room_c, room_s]); omega)
  · have heM : eProd n (mrow Am) (xs (i + 1)) (xs (i + 2)) = eProd n R (xs (i + 1)) (xs (i + 2)) := (eProd_c hn hrel _ _).symm
    refine p_w (w9 := (KW k ad r (nI n) R T9 U9 tx9 sz9 ((oa, aL k 1 g9) :: (MW k md th (nI n) Am Wk Mo v cp bt ml (nI cn) [])))) (by rw [sel_n he, sel_n he]) ?_
    refine p_istore (lv9 := [(5, .int (eProd n R (xs (i + 1)) (xs (i + 2)))), (0, .ref b), (1, .ref (ad 0)), (2, .ref (md 0)), (3, .ref oa), (4, .int (nI i))]) C (by decide) rfl dL_law_641 ?_
    refine p_aload_n C rfl 3 rfl dL_law_643 ?_
    refine p_aload_n C rfl 1 rfl dL_law_644 ?_
    refine p_iload C 5 rfl dL_law_645 ?_
    refine p_iconst (v := (nI 1)) C (by decide) dL_law_647 ?_
    refine p_iadd C dL_law_648 ?_
    refine p_int (y := (nI (i + 1))) (nI_add _ _) ?_
    refine p_sld (x := xs (i + 1)) C hX hbl hbA (vp_in_nI (by omega) (by omega)) (congrArg xs (nI_clamp (by omega))) dL_law_649 ?_
    refine p_aload_n C rfl 1 rfl dL_law_650 ?_
    refine p_iload C 5 rfl dL_law_651 ?_
    refine p_iconst (v := (nI 2)) C (by decide) dL_law_653 ?_
    refine p_iadd C dL_law_654 ?_
    refine p_int (y := (nI (i + 2))) (nI_add _ _) ?_
    refine p_sld (x := xs (i + 2)) C hX hbl hbA (vp_in_nI (by omega) (by omega)) (congrArg xs (nI_clamp (by omega))) dL_law_655 ?_
    refine p_toM ?_
    refine c_Vi (As := [.int (xs (i + 1)), .int (xs (i + 2))]) (rest := []) C (m_X3_product l D k hn) 0 rfl rfl rfl qml_L_140 qim_X3_product qse_X3_X3_product qin_X3 qco_X3_product nd_X3_product ⟨Nat.le_of_ble_eq_true rfl, Nat.le_of_ble_eq_true rfl⟩ (Nat.le_of_ble_eq_true rfl) ⟨by (try simp only [rmL_c, rmL_s, room_c, room_s]); omega, by (try simp only [rmL_c, rmL_s, room_c, room_s]); omega⟩ rfl dL_law_656 (fun r9 w9 h9 => ?_)
    obtain ⟨Wk8, Mo8, rfl, hvM⟩ := h9
    refine p_w (w9 := (MW k md (eProd n R (xs (i + 1)) (xs (i + 2))) (nI n) Am Wk8 Mo8 v cp bt ml (nI cn) (KW k ad r (nI n) R T9 U9 tx9 sz9 [(oa, aL k 1 g9)]))) (by rw [heM, sel_n he, sel_n he]) ?_
    refine p_istore (lv9 := [(6, .int r9), (5, .int (eProd n R (xs (i + 1)) (xs (i + 2)))), (0, .ref b), (1, .ref (ad 0)), (2, .ref (md 0)), (3, .ref oa), (4, .int (nI i))]) C (by decide) rfl dL_law_659 ?_
    refine p_aload_n C rfl 4 rfl dL_law_661 ?_
    refine c_Vi (As := []) (rest := []) C (m_X3_thrown l D k ) 0 rfl rfl rfl qml_L_114 qim_X3_thrown qse_X3_X3_thrown qin_X3 qco_X3_thrown nd_X3_thrown ⟨Nat.le_of_ble_eq_true rfl, Nat.le_of_ble_eq_true rfl⟩ (Nat.le_of_ble_eq_true rfl) ⟨by (try simp only [rmL_c, rmL_s, room_c, room_s]); omega, by (try simp only [rmL_c, rmL_s, room_c, room_s]); omega⟩ rfl dL_law_662 (fun r9 w9 h9 => ?_)
    obtain ⟨e9, rfl⟩ := h9
    refine p_int e9 ?_
    refine p_toK ?_
    refine p_iload C 1 rfl dL_law_665 ?_
    refine p_icmp_eq C 672 (by decide) dL_law_667 (fun c_667 => ?_) (fun c_667 => absurd rfl c_667)
    refine p_iload C 1 rfl dL_law_672 ?_
    refine p_if_ne C 689 (by decide) dL_law_674 (fun c_674 => ?_) (fun c_674 => absurd c_674 he)
    refine p_goto C 1932 (by decide) dL_law_689 ?_
    refine p_lv (lv9 := [(0, .ref b), (1, .ref (ad 0)), (2, .ref (md 0)), (3, .ref oa), (4, .int (nI i))]) [2, 3, 4, 5, 6] rfl ?_
    exact hnext _ _ _ _ _ _ _ _ _ _ _ _ _ _ _ _ _ _ ⟨hn, hrel, hok, hft, hm⟩ (by (try simp only [rmL_c, rmL_s, room_c, room_s]); omega) (by (try simp only [rmL_c, rmL_s, room_c, room_s]); omega)
set_option maxHeartbeats 4000000 in
set_option maxRecDepth 100000 in
/-- the law at chain -/
theorem lc_chain {p : Program} {l : Launch} {e : Env} {s : State} {m : MethodId} {args : Array Value} {below : List Frame} {meth : Method} {c : Code} {D : va_G} {A : Nat → Prop} {k : Nat → ClassId} {Q : State → Prop} (C : Cx p s m args meth c cL_law 9 RL A D k) (hfl : l.stackTraces = false) {b L i oa n cp cn v c9 s9 : Nat} {xs : Nat → Int32} {ad r md : Nat → Nat} {R : Nat → Nat → Int32} {T U tx Am Wk Mo bt : Nat → Int32} {th sz ml : Int32} {g : Nat → Int64} (hX : va_X b L xs s s.heap) (hbl : b < s.heap.size) (hbA : ¬ A b) (hL : L ≤ 2048) (hi : i + 4 ≤ L) (hI : LI n R Am cp cn bt) (hc9 : c9 + 544 ≤ 601024) (hs9 : s9 + 6944 ≤ 7293034) (hnext : ∀ (n' cp' cn' v' c' s' : Nat) (R' : Nat → Nat → Int32) (T' U' tx' Am' Wk' Mo' bt' : Nat → Int32) (th' sz' ml' : Int32) (g' : Nat → Int64), LI n' R' Am' cp' cn' bt' → c' ≤ c9 + 544 → s' ≤ s9 + 6944 → WP p l e (room_1) s m args below meth c D A 9 (KW k ad r (nI n') R' T' U' tx' sz' ((oa, aL k 1 g') :: (MW k md th' (nI n') Am' Wk' Mo' v' cp' bt' ml' (nI cn') []))) [(0, .ref b), (1, .ref (ad 0)), (2, .ref (md 0)), (3, .ref oa), (4, .int (nI i))] c' s' Q 1932 []) : WP p l e (room_1) s m args below meth c D A 9 (KW k ad r (nI n) R T U tx sz ((oa, aL k 1 g) :: (MW k md th (nI n) Am Wk Mo v cp bt ml (nI cn) []))) [(0, .ref b), (1, .ref (ad 0)), (2, .ref (md 0)), (3, .ref oa), (4, .int (nI i))] c9 s9 Q 692 [] := by
  obtain ⟨hn, hrel, hok, hft, hm⟩ := hI
  have hvv : eChain n R (xs (i + 1)) (xs (i + 2)) = 0 → (nI n).toInt64 = (nI n).toInt64 := fun he => by
    rfl
  refine p_aload_n C rfl 1 rfl dL_law_692 ?_
  refine p_aload_n C rfl 0 rfl dL_law_693 ?_
  refine p_iload C 4 rfl dL_law_694 ?_
  refine p_iconst (v := (nI 1)) C (by decide) dL_law_696 ?_
  refine p_iadd C dL_law_697 ?_
  refine p_int (y := (nI (i + 1))) (nI_add _ _) ?_
  refine p_sld (x := xs (i + 1)) C hX hbl hbA (vp_in_nI (by omega) (by omega)) (congrArg xs (nI_clamp (by omega))) dL_law_698 ?_
  refine p_aload_n C rfl 0 rfl dL_law_699 ?_
  refine p_iload C 4 rfl dL_law_700 ?_
  refine p_iconst (v := (nI 2)) C (by decide) dL_law_702 ?_
  refine p_iadd C dL_law_703 ?_
  refine p_int (y := (nI (i + 2))) (nI_add _ _) ?_
  refine p_sld (x := xs (i + 2)) C hX hbl hbA (vp_in_nI (by omega) (by omega)) (congrArg xs (nI_clamp (by omega))) dL_law_704 ?_
  refine p_aload_n C rfl 3 rfl dL_law_705 ?_
  refine c_Wi (As := [.ref (ad 0), .int (xs (i + 1)), .int (xs (i + 2)), .ref oa]) (rest := []) C (m_L_chain l D k hfl (hn := hn)) qml_L_141 qst_L_chain qin_L qco_L_chain nd_L_chain ⟨Nat.le_of_ble_eq_true rfl, Nat.le_of_ble_eq_true rfl⟩ (Nat.le_of_ble_eq_true rfl) ⟨by (try simp only [rmL_c, rmL_s, room_c, room_s]); omega, by (try simp only [rmL_c, rmL_s, room_c, room_s]); omega⟩ rfl dL_law_706 (fun r9 w9 h9 => ?_)
  obtain ⟨e9, T9, U9, tx9, sz9, g9, rfl, hv9⟩ := h9
  refine p_int e9 ?_
  by_cases he : eChain n R (xs (i + 1)) (xs (i + 2)) = 0
  · have heM : eChain n (mrow Am) (xs (i + 1)) (xs (i + 2)) = eChain n R (xs (i + 1)) (xs (i + 2)) := (eChain_c hn hrel _ _).symm
    obtain ⟨hra, hrb⟩ := cv_eChain hn he
    have hn9 := cn_eChain hn he
    refine p_w (w9 := (KW k ad r (nI (n + 1)) (upR R n (chD (R (ix (xs (i + 1)))) (R (ix (xs (i + 2)))) (dg (R (ix (xs (i + 1))))) (fun _ => 0))) T9 U9 tx9 sz9 ((oa, aL k 1 g9) :: (MW k md th (nI n) Am Wk Mo v cp bt ml (nI cn) [])))) (by rw [he, sel_0, sel_0]) ?_
    have hv := hv9 he
    refine p_int (y := 0) he ?_
    refine p_istore (lv9 := [(5, .int 0), (0, .ref b), (1, .ref (ad 0)), (2, .ref (md 0)), (3, .ref oa), (4, .int (nI i))]) C (by decide) rfl dL_law_709 ?_
    refine p_aload_n C rfl 3 rfl dL_law_711 ?_
    refine p_aload_n C rfl 1 rfl dL_law_712 ?_
    refine p_iload C 5 rfl dL_law_713 ?_
    refine p_iconst (v := (nI 1)) C (by decide) dL_law_715 ?_
    refine p_iadd C dL_law_716 ?_
    refine p_int (y := (nI (i + 1))) (nI_add _ _) ?_
    refine p_sld (x := xs (i + 1)) C hX hbl hbA (vp_in_nI (by omega) (by omega)) (congrArg xs (nI_clamp (by omega))) dL_law_717 ?_
    refine p_aload_n C rfl 1 rfl dL_law_718 ?_
    refine p_iload C 5 rfl dL_law_719 ?_
    refine p_iconst (v := (nI 2)) C (by decide) dL_law_721 ?_
    refine p_iadd C dL_law_722 ?_
    refine p_int (y := (nI (i + 2))) (nI_add _ _) ?_
    refine p_sld (x := xs (i + 2)) C hX hbl hbA (vp_in_nI (by omega) (by omega)) (congrArg xs (nI_clamp (by omega))) dL_law_723 ?_
    refine p_toM ?_
    refine c_Vi (As := [.int (xs (i + 1)), .int (xs (i + 2))]) (rest := []) C (m_X3_chain l D k hn) 0 rfl rfl rfl qml_L_143 qim_X3_chain qse_X3_X3_chain qin_X3 qco_X3_chain nd_X3_chain ⟨Nat.le_of_ble_eq_true rfl, Nat.le_of_ble_eq_true rfl⟩ (Nat.le_of_ble_eq_true rfl) ⟨by (try simp only [rmL_c, rmL_s, room_c, room_s]); omega, by (try simp only [rmL_c, rmL_s, room_c, room_s]); omega⟩ rfl dL_law_724 (fun r9 w9 h9 => ?_)
    obtain ⟨Wk8, Mo8, rfl, hvM⟩ := h9
    refine p_w (w9 := (MW k md 0 (nI (n + 1)) (ptR Am n (chR (mrow Am (ix (xs (i + 1)))) (mrow Am (ix (xs (i + 2)))))) Wk8 Mo8 v cp bt ml (nI cn) (KW k ad r (nI (n + 1)) (upR R n (chD (R (ix (xs (i + 1)))) (R (ix (xs (i + 2)))) (dg (R (ix (xs (i + 1))))) (fun _ => 0))) T9 U9 tx9 sz9 [(oa, aL k 1 g9)]))) (by rw [heM.trans he, sel_0, sel_0]) ?_
    refine p_int (y := nI n) (hvM (heM.trans he)) ?_
    refine p_istore (lv9 := [(6, .int (nI n)), (5, .int 0), (0, .ref b), (1, .ref (ad 0)), (2, .ref (md 0)), (3, .ref oa), (4, .int (nI i))]) C (by decide) rfl dL_law_727 ?_
    refine p_aload_n C rfl 4 rfl dL_law_729 ?_
    refine c_Vi (As := []) (rest := []) C (m_X3_thrown l D k ) 0 rfl rfl rfl qml_L_114 qim_X3_thrown qse_X3_X3_thrown qin_X3 qco_X3_thrown nd_X3_thrown ⟨Nat.le_of_ble_eq_true rfl, Nat.le_of_ble_eq_true rfl⟩ (Nat.le_of_ble_eq_true rfl) ⟨by (try simp only [rmL_c, rmL_s, room_c, room_s]); omega, by (try simp only [rmL_c, rmL_s, room_c, room_s]); omega⟩ rfl dL_law_730 (fun r9 w9 h9 => ?_)
    obtain ⟨e9, rfl⟩ := h9
    refine p_int e9 ?_
    refine p_toK ?_
    refine p_iload C 1 rfl dL_law_733 ?_
    refine p_icmp_eq C 740 (by decide) dL_law_735 (fun c_735 => ?_) (fun c_735 => absurd rfl c_735)
    refine p_iload C 1 rfl dL_law_740 ?_
    refine p_if_ne C 757 (by decide) dL_law_742 (fun c_742 => absurd c_742 (fun z9 => z9 rfl)) (fun c_742 => ?_)
    refine p_aload_n C rfl 5 rfl dL_law_745 ?_
    refine p_iconst (v := 0) C (by decide) dL_law_746 ?_
    refine p_lald (v := (g9 0)) C 22 KW_y (vp_in_nI (n := 0) (N := 1) (by omega) (by omega)) (by rw [show (0 : Int32).toNatClampNeg = 0 from rfl]) dL_law_747 ?_
    refine p_iload C 0 rfl dL_law_748 ?_
    refine p_i2l C dL_law_750 ?_
    refine p_lcmp C dL_law_751 ?_
    refine p_if_eq C 757 (by decide) dL_law_752 (fun c_752 => ?_) (fun c_752 => absurd ((lg_cmp_eq _ _).mpr (hv.trans (hvv he))) c_752)
    refine p_goto C 1932 (by decide) dL_law_757 ?_
    refine p_lv (lv9 := [(0, .ref b), (1, .ref (ad 0)), (2, .ref (md 0)), (3, .ref oa), (4, .int (nI i))]) [2, 3, 4, 5, 6] rfl ?_
    have hW : RelW (n + 1) (upR R n (chD (R (ix (xs (i + 1)))) (R (ix (xs (i + 2)))) (dg (R (ix (xs (i + 1))))) (fun _ => 0))) (ptR Am n (chR (mrow Am (ix (xs (i + 1)))) (mrow Am (ix (xs (i + 2)))))) := rw_pt hrel (fun q hq => by omega) (fun _ _ => by rw [hrel _ hra, hrel _ hrb, ch_eq])
    refine p_KWn (R2 := RN (n + 1) (upR R n (chD (R (ix (xs (i + 1)))) (R (ix (xs (i + 2)))) (dg (R (ix (xs (i + 1))))) (fun _ => 0))) (ptR Am n (chR (mrow Am (ix (xs (i + 1)))) (mrow Am (ix (xs (i + 2))))))) (fun i9 j9 hj9 => RN_ok hW i9 j9 hj9) ?_
    exact hnext _ _ _ _ _ _ _ _ _ _ _ _ _ _ _ _ _ _ ⟨hn9, RN_rel _ _ _, hok, hft, hm⟩ (by (try simp only [rmL_c, rmL_s, room_c, room_s]); omega) (by (try simp only [rmL_c, rmL_s, room_c, room_s]); omega)
  · have heM : eChain n (mrow Am) (xs (i + 1)) (xs (i + 2)) = eChain n R (xs (i + 1)) (xs (i + 2)) := (eChain_c hn hrel _ _).symm
    refine p_w (w9 := (KW k ad r (nI n) R T9 U9 tx9 sz9 ((oa, aL k 1 g9) :: (MW k md th (nI n) Am Wk Mo v cp bt ml (nI cn) [])))) (by rw [sel_n he, sel_n he]) ?_
    refine p_istore (lv9 := [(5, .int (eChain n R (xs (i + 1)) (xs (i + 2)))), (0, .ref b), (1, .ref (ad 0)), (2, .ref (md 0)), (3, .ref oa), (4, .int (nI i))]) C (by decide) rfl dL_law_709 ?_
    refine p_aload_n C rfl 3 rfl dL_law_711 ?_
    refine p_aload_n C rfl 1 rfl dL_law_712 ?_
    refine p_iload C 5 rfl dL_law_713 ?_
    refine p_iconst (v := (nI 1)) C (by decide) dL_law_715 ?_
    refine p_iadd C dL_law_716 ?_
    refine p_int (y := (nI (i + 1))) (nI_add _ _) ?_
    refine p_sld (x := xs (i + 1)) C hX hbl hbA (vp_in_nI (by omega) (by omega)) (congrArg xs (nI_clamp (by omega))) dL_law_717 ?_
    refine p_aload_n C rfl 1 rfl dL_law_718 ?_
    refine p_iload C 5 rfl dL_law_719 ?_
    refine p_iconst (v := (nI 2)) C (by decide) dL_law_721 ?_
    refine p_iadd C dL_law_722 ?_
    refine p_int (y := (nI (i + 2))) (nI_add _ _) ?_
    refine p_sld (x := xs (i + 2)) C hX hbl hbA (vp_in_nI (by omega) (by omega)) (congrArg xs (nI_clamp (by omega))) dL_law_723 ?_
    refine p_toM ?_
    refine c_Vi (As := [.int (xs (i + 1)), .int (xs (i + 2))]) (rest := []) C (m_X3_chain l D k hn) 0 rfl rfl rfl qml_L_143 qim_X3_chain qse_X3_X3_chain qin_X3 qco_X3_chain nd_X3_chain ⟨Nat.le_of_ble_eq_true rfl, Nat.le_of_ble_eq_true rfl⟩ (Nat.le_of_ble_eq_true rfl) ⟨by (try simp only [rmL_c, rmL_s, room_c, room_s]); omega, by (try simp only [rmL_c, rmL_s, room_c, room_s]); omega⟩ rfl dL_law_724 (fun r9 w9 h9 => ?_)
    obtain ⟨Wk8, Mo8, rfl, hvM⟩ := h9
    refine p_w (w9 := (MW k md (eChain n R (xs (i + 1)) (xs (i + 2))) (nI n) Am Wk8 Mo8 v cp bt ml (nI cn) (KW k ad r (nI n) R T9 U9 tx9 sz9 [(oa, aL k 1 g9)]))) (by rw [heM, sel_n he, sel_n he]) ?_
    refine p_istore (lv9 := [(6, .int r9), (5, .int (eChain n R (xs (i + 1)) (xs (i + 2)))), (0, .ref b), (1, .ref (ad 0)), (2, .ref (md 0)), (3, .ref oa), (4, .int (nI i))]) C (by decide) rfl dL_law_727 ?_
    refine p_aload_n C rfl 4 rfl dL_law_729 ?_
    refine c_Vi (As := []) (rest := []) C (m_X3_thrown l D k ) 0 rfl rfl rfl qml_L_114 qim_X3_thrown qse_X3_X3_thrown qin_X3 qco_X3_thrown nd_X3_thrown ⟨Nat.le_of_ble_eq_true rfl, Nat.le_of_ble_eq_true rfl⟩ (Nat.le_of_ble_eq_true rfl) ⟨by (try simp only [rmL_c, rmL_s, room_c, room_s]); omega, by (try simp only [rmL_c, rmL_s, room_c, room_s]); omega⟩ rfl dL_law_730 (fun r9 w9 h9 => ?_)
    obtain ⟨e9, rfl⟩ := h9
    refine p_int e9 ?_
    refine p_toK ?_
    refine p_iload C 1 rfl dL_law_733 ?_
    refine p_icmp_eq C 740 (by decide) dL_law_735 (fun c_735 => ?_) (fun c_735 => absurd rfl c_735)
    refine p_iload C 1 rfl dL_law_740 ?_
    refine p_if_ne C 757 (by decide) dL_law_742 (fun c_742 => ?_) (fun c_742 => absurd c_742 he)
    refine p_goto C 1932 (by decide) dL_law_757 ?_
    refine p_lv (lv9 := [(0, .ref b), (1, .ref (ad 0)), (2, .ref (md 0)), (3, .ref oa), (4, .int (nI i))]) [2, 3, 4, 5, 6] rfl ?_
    exact hnext _ _ _ _ _ _ _ _ _ _ _ _ _ _ _ _ _ _ ⟨hn, hrel, hok, hft, hm⟩ (by (try simp only [rmL_c, rmL_s, room_c, room_s]); omega) (by (try simp only [rmL_c, rmL_s, room_c, room_s]); omega)
set_option maxHeartbeats 4000000 in
set_option maxRecDepth 100000 in
/-- the law at derive -/
theorem lc_derive {p : Program} {l : Launch} {e : Env} {s : State} {m : MethodId} {args : Array Value} {below : List Frame} {meth : Method} {c : Code} {D : va_G} {A : Nat → Prop} {k : Nat → ClassId} {Q : State → Prop} (C : Cx p s m args meth c cL_law 9 RL A D k) (hfl : l.stackTraces = false) {b L i oa n cp cn v c9 s9 : Nat} {xs : Nat → Int32} {ad r md : Nat → Nat} {R : Nat → Nat → Int32} {T U tx Am Wk Mo bt : Nat → Int32} {th sz ml : Int32} {g : Nat → Int64} (hX : va_X b L xs s s.heap) (hbl : b < s.heap.size) (hbA : ¬ A b) (hL : L ≤ 2048) (hi : i + 4 ≤ L) (hI : LI n R Am cp cn bt) (hc9 : c9 + 544 ≤ 601024) (hs9 : s9 + 6944 ≤ 7293034) (hnext : ∀ (n' cp' cn' v' c' s' : Nat) (R' : Nat → Nat → Int32) (T' U' tx' Am' Wk' Mo' bt' : Nat → Int32) (th' sz' ml' : Int32) (g' : Nat → Int64), LI n' R' Am' cp' cn' bt' → c' ≤ c9 + 544 → s' ≤ s9 + 6944 → WP p l e (room_1) s m args below meth c D A 9 (KW k ad r (nI n') R' T' U' tx' sz' ((oa, aL k 1 g') :: (MW k md th' (nI n') Am' Wk' Mo' v' cp' bt' ml' (nI cn') []))) [(0, .ref b), (1, .ref (ad 0)), (2, .ref (md 0)), (3, .ref oa), (4, .int (nI i))] c' s' Q 1932 []) : WP p l e (room_1) s m args below meth c D A 9 (KW k ad r (nI n) R T U tx sz ((oa, aL k 1 g) :: (MW k md th (nI n) Am Wk Mo v cp bt ml (nI cn) []))) [(0, .ref b), (1, .ref (ad 0)), (2, .ref (md 0)), (3, .ref oa), (4, .int (nI i))] c9 s9 Q 760 [] := by
  obtain ⟨hn, hrel, hok, hft, hm⟩ := hI
  have hvv : eDer n (xs (i + 1)) = 0 → (nI n).toInt64 = (nI n).toInt64 := fun he => by
    rfl
  refine p_aload_n C rfl 1 rfl dL_law_760 ?_
  refine p_aload_n C rfl 0 rfl dL_law_761 ?_
  refine p_iload C 4 rfl dL_law_762 ?_
  refine p_iconst (v := (nI 1)) C (by decide) dL_law_764 ?_
  refine p_iadd C dL_law_765 ?_
  refine p_int (y := (nI (i + 1))) (nI_add _ _) ?_
  refine p_sld (x := xs (i + 1)) C hX hbl hbA (vp_in_nI (by omega) (by omega)) (congrArg xs (nI_clamp (by omega))) dL_law_766 ?_
  refine p_aload_n C rfl 3 rfl dL_law_767 ?_
  refine c_Wi (As := [.ref (ad 0), .int (xs (i + 1)), .ref oa]) (rest := []) C (m_L_derive l D k hfl (hn := hn)) qml_L_144 qst_L_derive qin_L qco_L_derive nd_L_derive ⟨Nat.le_of_ble_eq_true rfl, Nat.le_of_ble_eq_true rfl⟩ (Nat.le_of_ble_eq_true rfl) ⟨by (try simp only [rmL_c, rmL_s, room_c, room_s]); omega, by (try simp only [rmL_c, rmL_s, room_c, room_s]); omega⟩ rfl dL_law_768 (fun r9 w9 h9 => ?_)
  obtain ⟨e9, T9, U9, tx9, sz9, g9, rfl, hv9⟩ := h9
  refine p_int e9 ?_
  by_cases he : eDer n (xs (i + 1)) = 0
  · have heM : eDer n (xs (i + 1)) = eDer n (xs (i + 1)) := rfl
    have hrc := isR_ix hn (cv_eDer he)
    have hn9 := cn_eDer hn he
    refine p_w (w9 := (KW k ad r (nI (n + 1)) (upR R n (drF (R (ix (xs (i + 1)))))) T9 U9 tx9 sz9 ((oa, aL k 1 g9) :: (MW k md th (nI n) Am Wk Mo v cp bt ml (nI cn) [])))) (by rw [he, sel_0, sel_0]) ?_
    have hv := hv9 he
    refine p_int (y := 0) he ?_
    refine p_istore (lv9 := [(5, .int 0), (0, .ref b), (1, .ref (ad 0)), (2, .ref (md 0)), (3, .ref oa), (4, .int (nI i))]) C (by decide) rfl dL_law_771 ?_
    refine p_aload_n C rfl 3 rfl dL_law_773 ?_
    refine p_aload_n C rfl 1 rfl dL_law_774 ?_
    refine p_iload C 5 rfl dL_law_775 ?_
    refine p_iconst (v := (nI 1)) C (by decide) dL_law_777 ?_
    refine p_iadd C dL_law_778 ?_
    refine p_int (y := (nI (i + 1))) (nI_add _ _) ?_
    refine p_sld (x := xs (i + 1)) C hX hbl hbA (vp_in_nI (by omega) (by omega)) (congrArg xs (nI_clamp (by omega))) dL_law_779 ?_
    refine p_toM ?_
    refine c_Vi (As := [.int (xs (i + 1))]) (rest := []) C (m_X3_derive l D k hn) 0 rfl rfl rfl qml_L_146 qim_X3_derive qse_X3_X3_derive qin_X3 qco_X3_derive nd_X3_derive ⟨Nat.le_of_ble_eq_true rfl, Nat.le_of_ble_eq_true rfl⟩ (Nat.le_of_ble_eq_true rfl) ⟨by (try simp only [rmL_c, rmL_s, room_c, room_s]); omega, by (try simp only [rmL_c, rmL_s, room_c, room_s]); omega⟩ rfl dL_law_780 (fun r9 w9 h9 => ?_)
    obtain ⟨Wk8, Mo8, rfl, hvM⟩ := h9
    refine p_w (w9 := (MW k md 0 (nI (n + 1)) (ptR Am n (deR (mrow Am (ix (xs (i + 1)))))) Wk8 Mo8 v cp bt ml (nI cn) (KW k ad r (nI (n + 1)) (upR R n (drF (R (ix (xs (i + 1)))))) T9 U9 tx9 sz9 [(oa, aL k 1 g9)]))) (by rw [heM.trans he, sel_0, sel_0]) ?_
    refine p_int (y := nI n) (hvM (heM.trans he)) ?_
    refine p_istore (lv9 := [(6, .int (nI n)), (5, .int 0), (0, .ref b), (1, .ref (ad 0)), (2, .ref (md 0)), (3, .ref oa), (4, .int (nI i))]) C (by decide) rfl dL_law_783 ?_
    refine p_aload_n C rfl 4 rfl dL_law_785 ?_
    refine c_Vi (As := []) (rest := []) C (m_X3_thrown l D k ) 0 rfl rfl rfl qml_L_114 qim_X3_thrown qse_X3_X3_thrown qin_X3 qco_X3_thrown nd_X3_thrown ⟨Nat.le_of_ble_eq_true rfl, Nat.le_of_ble_eq_true rfl⟩ (Nat.le_of_ble_eq_true rfl) ⟨by (try simp only [rmL_c, rmL_s, room_c, room_s]); omega, by (try simp only [rmL_c, rmL_s, room_c, room_s]); omega⟩ rfl dL_law_786 (fun r9 w9 h9 => ?_)
    obtain ⟨e9, rfl⟩ := h9
    refine p_int e9 ?_
    refine p_toK ?_
    refine p_iload C 1 rfl dL_law_789 ?_
    refine p_icmp_eq C 796 (by decide) dL_law_791 (fun c_791 => ?_) (fun c_791 => absurd rfl c_791)
    refine p_iload C 1 rfl dL_law_796 ?_
    refine p_if_ne C 813 (by decide) dL_law_798 (fun c_798 => absurd c_798 (fun z9 => z9 rfl)) (fun c_798 => ?_)
    refine p_aload_n C rfl 5 rfl dL_law_801 ?_
    refine p_iconst (v := 0) C (by decide) dL_law_802 ?_
    refine p_lald (v := (g9 0)) C 22 KW_y (vp_in_nI (n := 0) (N := 1) (by omega) (by omega)) (by rw [show (0 : Int32).toNatClampNeg = 0 from rfl]) dL_law_803 ?_
    refine p_iload C 0 rfl dL_law_804 ?_
    refine p_i2l C dL_law_806 ?_
    refine p_lcmp C dL_law_807 ?_
    refine p_if_eq C 813 (by decide) dL_law_808 (fun c_808 => ?_) (fun c_808 => absurd ((lg_cmp_eq _ _).mpr (hv.trans (hvv he))) c_808)
    refine p_goto C 1932 (by decide) dL_law_813 ?_
    refine p_lv (lv9 := [(0, .ref b), (1, .ref (ad 0)), (2, .ref (md 0)), (3, .ref oa), (4, .int (nI i))]) [2, 3, 4, 5, 6] rfl ?_
    have hW : RelW (n + 1) (upR R n (drF (R (ix (xs (i + 1)))))) (ptR Am n (deR (mrow Am (ix (xs (i + 1)))))) := rw_pt hrel (fun q hq => by omega) (fun j hj => by rw [hrel _ hrc]; exact dr_j hj)
    refine p_KWn (R2 := RN (n + 1) (upR R n (drF (R (ix (xs (i + 1)))))) (ptR Am n (deR (mrow Am (ix (xs (i + 1))))))) (fun i9 j9 hj9 => RN_ok hW i9 j9 hj9) ?_
    exact hnext _ _ _ _ _ _ _ _ _ _ _ _ _ _ _ _ _ _ ⟨hn9, RN_rel _ _ _, hok, hft, hm⟩ (by (try simp only [rmL_c, rmL_s, room_c, room_s]); omega) (by (try simp only [rmL_c, rmL_s, room_c, room_s]); omega)
  · have heM : eDer n (xs (i + 1)) = eDer n (xs (i + 1)) := rfl
    refine p_w (w9 := (KW k ad r (nI n) R T9 U9 tx9 sz9 ((oa, aL k 1 g9) :: (MW k md th (nI n) Am Wk Mo v cp bt ml (nI cn) [])))) (by rw [sel_n he, sel_n he]) ?_
    refine p_istore (lv9 := [(5, .int (eDer n (xs (i + 1)))), (0, .ref b), (1, .ref (ad 0)), (2, .ref (md 0)), (3, .ref oa), (4, .int (nI i))]) C (by decide) rfl dL_law_771 ?_
    refine p_aload_n C rfl 3 rfl dL_law_773 ?_
    refine p_aload_n C rfl 1 rfl dL_law_774 ?_
    refine p_iload C 5 rfl dL_law_775 ?_
    refine p_iconst (v := (nI 1)) C (by decide) dL_law_777 ?_
    refine p_iadd C dL_law_778 ?_
    refine p_int (y := (nI (i + 1))) (nI_add _ _) ?_
    refine p_sld (x := xs (i + 1)) C hX hbl hbA (vp_in_nI (by omega) (by omega)) (congrArg xs (nI_clamp (by omega))) dL_law_779 ?_
    refine p_toM ?_
    refine c_Vi (As := [.int (xs (i + 1))]) (rest := []) C (m_X3_derive l D k hn) 0 rfl rfl rfl qml_L_146 qim_X3_derive qse_X3_X3_derive qin_X3 qco_X3_derive nd_X3_derive ⟨Nat.le_of_ble_eq_true rfl, Nat.le_of_ble_eq_true rfl⟩ (Nat.le_of_ble_eq_true rfl) ⟨by (try simp only [rmL_c, rmL_s, room_c, room_s]); omega, by (try simp only [rmL_c, rmL_s, room_c, room_s]); omega⟩ rfl dL_law_780 (fun r9 w9 h9 => ?_)
    obtain ⟨Wk8, Mo8, rfl, hvM⟩ := h9
    refine p_w (w9 := (MW k md (eDer n (xs (i + 1))) (nI n) Am Wk8 Mo8 v cp bt ml (nI cn) (KW k ad r (nI n) R T9 U9 tx9 sz9 [(oa, aL k 1 g9)]))) (by rw [heM, sel_n he, sel_n he]) ?_
    refine p_istore (lv9 := [(6, .int r9), (5, .int (eDer n (xs (i + 1)))), (0, .ref b), (1, .ref (ad 0)), (2, .ref (md 0)), (3, .ref oa), (4, .int (nI i))]) C (by decide) rfl dL_law_783 ?_
    refine p_aload_n C rfl 4 rfl dL_law_785 ?_
    refine c_Vi (As := []) (rest := []) C (m_X3_thrown l D k ) 0 rfl rfl rfl qml_L_114 qim_X3_thrown qse_X3_X3_thrown qin_X3 qco_X3_thrown nd_X3_thrown ⟨Nat.le_of_ble_eq_true rfl, Nat.le_of_ble_eq_true rfl⟩ (Nat.le_of_ble_eq_true rfl) ⟨by (try simp only [rmL_c, rmL_s, room_c, room_s]); omega, by (try simp only [rmL_c, rmL_s, room_c, room_s]); omega⟩ rfl dL_law_786 (fun r9 w9 h9 => ?_)
    obtain ⟨e9, rfl⟩ := h9
    refine p_int e9 ?_
    refine p_toK ?_
    refine p_iload C 1 rfl dL_law_789 ?_
    refine p_icmp_eq C 796 (by decide) dL_law_791 (fun c_791 => ?_) (fun c_791 => absurd rfl c_791)
    refine p_iload C 1 rfl dL_law_796 ?_
    refine p_if_ne C 813 (by decide) dL_law_798 (fun c_798 => ?_) (fun c_798 => absurd c_798 he)
    refine p_goto C 1932 (by decide) dL_law_813 ?_
    refine p_lv (lv9 := [(0, .ref b), (1, .ref (ad 0)), (2, .ref (md 0)), (3, .ref oa), (4, .int (nI i))]) [2, 3, 4, 5, 6] rfl ?_
    exact hnext _ _ _ _ _ _ _ _ _ _ _ _ _ _ _ _ _ _ ⟨hn, hrel, hok, hft, hm⟩ (by (try simp only [rmL_c, rmL_s, room_c, room_s]); omega) (by (try simp only [rmL_c, rmL_s, room_c, room_s]); omega)
set_option maxHeartbeats 4000000 in
set_option maxRecDepth 100000 in
/-- the law at divide -/
theorem lc_divide {p : Program} {l : Launch} {e : Env} {s : State} {m : MethodId} {args : Array Value} {below : List Frame} {meth : Method} {c : Code} {D : va_G} {A : Nat → Prop} {k : Nat → ClassId} {Q : State → Prop} (C : Cx p s m args meth c cL_law 9 RL A D k) (hfl : l.stackTraces = false) {b L i oa n cp cn v c9 s9 : Nat} {xs : Nat → Int32} {ad r md : Nat → Nat} {R : Nat → Nat → Int32} {T U tx Am Wk Mo bt : Nat → Int32} {th sz ml : Int32} {g : Nat → Int64} (hX : va_X b L xs s s.heap) (hbl : b < s.heap.size) (hbA : ¬ A b) (hL : L ≤ 2048) (hi : i + 4 ≤ L) (hI : LI n R Am cp cn bt) (hc9 : c9 + 544 ≤ 601024) (hs9 : s9 + 6944 ≤ 7293034) (hnext : ∀ (n' cp' cn' v' c' s' : Nat) (R' : Nat → Nat → Int32) (T' U' tx' Am' Wk' Mo' bt' : Nat → Int32) (th' sz' ml' : Int32) (g' : Nat → Int64), LI n' R' Am' cp' cn' bt' → c' ≤ c9 + 544 → s' ≤ s9 + 6944 → WP p l e (room_1) s m args below meth c D A 9 (KW k ad r (nI n') R' T' U' tx' sz' ((oa, aL k 1 g') :: (MW k md th' (nI n') Am' Wk' Mo' v' cp' bt' ml' (nI cn') []))) [(0, .ref b), (1, .ref (ad 0)), (2, .ref (md 0)), (3, .ref oa), (4, .int (nI i))] c' s' Q 1932 []) : WP p l e (room_1) s m args below meth c D A 9 (KW k ad r (nI n) R T U tx sz ((oa, aL k 1 g) :: (MW k md th (nI n) Am Wk Mo v cp bt ml (nI cn) []))) [(0, .ref b), (1, .ref (ad 0)), (2, .ref (md 0)), (3, .ref oa), (4, .int (nI i))] c9 s9 Q 816 [] := by
  obtain ⟨hn, hrel, hok, hft, hm⟩ := hI
  have hvv : eDiv n R (xs (i + 1)) (xs (i + 2)) = 0 → (nI n).toInt64 = (nI n).toInt64 := fun he => by
    rfl
  refine p_aload_n C rfl 1 rfl dL_law_816 ?_
  refine p_aload_n C rfl 0 rfl dL_law_817 ?_
  refine p_iload C 4 rfl dL_law_818 ?_
  refine p_iconst (v := (nI 1)) C (by decide) dL_law_820 ?_
  refine p_iadd C dL_law_821 ?_
  refine p_int (y := (nI (i + 1))) (nI_add _ _) ?_
  refine p_sld (x := xs (i + 1)) C hX hbl hbA (vp_in_nI (by omega) (by omega)) (congrArg xs (nI_clamp (by omega))) dL_law_822 ?_
  refine p_aload_n C rfl 0 rfl dL_law_823 ?_
  refine p_iload C 4 rfl dL_law_824 ?_
  refine p_iconst (v := (nI 2)) C (by decide) dL_law_826 ?_
  refine p_iadd C dL_law_827 ?_
  refine p_int (y := (nI (i + 2))) (nI_add _ _) ?_
  refine p_sld (x := xs (i + 2)) C hX hbl hbA (vp_in_nI (by omega) (by omega)) (congrArg xs (nI_clamp (by omega))) dL_law_828 ?_
  refine p_aload_n C rfl 3 rfl dL_law_829 ?_
  refine c_Wi (As := [.ref (ad 0), .int (xs (i + 1)), .int (xs (i + 2)), .ref oa]) (rest := []) C (m_L_divide l D k hfl (hn := hn)) qml_L_147 qst_L_divide qin_L qco_L_divide nd_L_divide ⟨Nat.le_of_ble_eq_true rfl, Nat.le_of_ble_eq_true rfl⟩ (Nat.le_of_ble_eq_true rfl) ⟨by (try simp only [rmL_c, rmL_s, room_c, room_s]); omega, by (try simp only [rmL_c, rmL_s, room_c, room_s]); omega⟩ rfl dL_law_830 (fun r9 w9 h9 => ?_)
  obtain ⟨e9, T9, U9, tx9, sz9, g9, rfl, hv9⟩ := h9
  refine p_int e9 ?_
  by_cases he : eDiv n R (xs (i + 1)) (xs (i + 2)) = 0
  · have heM : eDiv n (mrow Am) (xs (i + 1)) (xs (i + 2)) = eDiv n R (xs (i + 1)) (xs (i + 2)) := (eDiv_c hn hrel _ _).symm
    obtain ⟨hra, hrb⟩ := cv_eDiv hn he
    have hn9 := cn_eDiv hn he
    refine p_w (w9 := (KW k ad r (nI (n + 1 + 1)) (upR (upR R n (sp (R (ix (xs (i + 1)))) (R (ix (xs (i + 2))))).1) (n + 1) (sp (R (ix (xs (i + 1)))) (R (ix (xs (i + 2))))).2) T9 U9 tx9 sz9 ((oa, aL k 1 g9) :: (MW k md th (nI n) Am Wk Mo v cp bt ml (nI cn) [])))) (by rw [he, sel_0, sel_0]) ?_
    have hv := hv9 he
    refine p_int (y := 0) he ?_
    refine p_istore (lv9 := [(5, .int 0), (0, .ref b), (1, .ref (ad 0)), (2, .ref (md 0)), (3, .ref oa), (4, .int (nI i))]) C (by decide) rfl dL_law_833 ?_
    refine p_aload_n C rfl 3 rfl dL_law_835 ?_
    refine p_aload_n C rfl 1 rfl dL_law_836 ?_
    refine p_iload C 5 rfl dL_law_837 ?_
    refine p_iconst (v := (nI 1)) C (by decide) dL_law_839 ?_
    refine p_iadd C dL_law_840 ?_
    refine p_int (y := (nI (i + 1))) (nI_add _ _) ?_
    refine p_sld (x := xs (i + 1)) C hX hbl hbA (vp_in_nI (by omega) (by omega)) (congrArg xs (nI_clamp (by omega))) dL_law_841 ?_
    refine p_aload_n C rfl 1 rfl dL_law_842 ?_
    refine p_iload C 5 rfl dL_law_843 ?_
    refine p_iconst (v := (nI 2)) C (by decide) dL_law_845 ?_
    refine p_iadd C dL_law_846 ?_
    refine p_int (y := (nI (i + 2))) (nI_add _ _) ?_
    refine p_sld (x := xs (i + 2)) C hX hbl hbA (vp_in_nI (by omega) (by omega)) (congrArg xs (nI_clamp (by omega))) dL_law_847 ?_
    refine p_toM ?_
    refine c_Vi (As := [.int (xs (i + 1)), .int (xs (i + 2))]) (rest := []) C (m_X3_divide l D k hn) 0 rfl rfl rfl qml_L_149 qim_X3_divide qse_X3_X3_divide qin_X3 qco_X3_divide nd_X3_divide ⟨Nat.le_of_ble_eq_true rfl, Nat.le_of_ble_eq_true rfl⟩ (Nat.le_of_ble_eq_true rfl) ⟨by (try simp only [rmL_c, rmL_s, room_c, room_s]); omega, by (try simp only [rmL_c, rmL_s, room_c, room_s]); omega⟩ rfl dL_law_848 (fun r9 w9 h9 => ?_)
    obtain ⟨Wk8, Mo8, rfl, hvM⟩ := h9
    refine p_w (w9 := (MW k md 0 (nI (n + 1 + 1)) (ptR (ptR Am n (sp (mrow Am (ix (xs (i + 1)))) (mrow Am (ix (xs (i + 2))))).1) (n + 1) (sp (mrow Am (ix (xs (i + 1)))) (mrow Am (ix (xs (i + 2))))).2) Wk8 Mo8 v cp bt ml (nI cn) (KW k ad r (nI (n + 1 + 1)) (upR (upR R n (sp (R (ix (xs (i + 1)))) (R (ix (xs (i + 2))))).1) (n + 1) (sp (R (ix (xs (i + 1)))) (R (ix (xs (i + 2))))).2) T9 U9 tx9 sz9 [(oa, aL k 1 g9)]))) (by rw [heM.trans he, sel_0, sel_0]) ?_
    refine p_int (y := nI n) (hvM (heM.trans he)) ?_
    refine p_istore (lv9 := [(6, .int (nI n)), (5, .int 0), (0, .ref b), (1, .ref (ad 0)), (2, .ref (md 0)), (3, .ref oa), (4, .int (nI i))]) C (by decide) rfl dL_law_851 ?_
    refine p_aload_n C rfl 4 rfl dL_law_853 ?_
    refine c_Vi (As := []) (rest := []) C (m_X3_thrown l D k ) 0 rfl rfl rfl qml_L_114 qim_X3_thrown qse_X3_X3_thrown qin_X3 qco_X3_thrown nd_X3_thrown ⟨Nat.le_of_ble_eq_true rfl, Nat.le_of_ble_eq_true rfl⟩ (Nat.le_of_ble_eq_true rfl) ⟨by (try simp only [rmL_c, rmL_s, room_c, room_s]); omega, by (try simp only [rmL_c, rmL_s, room_c, room_s]); omega⟩ rfl dL_law_854 (fun r9 w9 h9 => ?_)
    obtain ⟨e9, rfl⟩ := h9
    refine p_int e9 ?_
    refine p_toK ?_
    refine p_iload C 1 rfl dL_law_857 ?_
    refine p_icmp_eq C 864 (by decide) dL_law_859 (fun c_859 => ?_) (fun c_859 => absurd rfl c_859)
    refine p_iload C 1 rfl dL_law_864 ?_
    refine p_if_ne C 881 (by decide) dL_law_866 (fun c_866 => absurd c_866 (fun z9 => z9 rfl)) (fun c_866 => ?_)
    refine p_aload_n C rfl 5 rfl dL_law_869 ?_
    refine p_iconst (v := 0) C (by decide) dL_law_870 ?_
    refine p_lald (v := (g9 0)) C 22 KW_y (vp_in_nI (n := 0) (N := 1) (by omega) (by omega)) (by rw [show (0 : Int32).toNatClampNeg = 0 from rfl]) dL_law_871 ?_
    refine p_iload C 0 rfl dL_law_872 ?_
    refine p_i2l C dL_law_874 ?_
    refine p_lcmp C dL_law_875 ?_
    refine p_if_eq C 881 (by decide) dL_law_876 (fun c_876 => ?_) (fun c_876 => absurd ((lg_cmp_eq _ _).mpr (hv.trans (hvv he))) c_876)
    refine p_goto C 1932 (by decide) dL_law_881 ?_
    refine p_lv (lv9 := [(0, .ref b), (1, .ref (ad 0)), (2, .ref (md 0)), (3, .ref oa), (4, .int (nI i))]) [2, 3, 4, 5, 6] rfl ?_
    have hW : RelW (n + 1 + 1) (upR (upR R n (sp (R (ix (xs (i + 1)))) (R (ix (xs (i + 2))))).1) (n + 1) (sp (R (ix (xs (i + 1)))) (R (ix (xs (i + 2))))).2) (ptR (ptR Am n (sp (mrow Am (ix (xs (i + 1)))) (mrow Am (ix (xs (i + 2))))).1) (n + 1) (sp (mrow Am (ix (xs (i + 1)))) (mrow Am (ix (xs (i + 2))))).2) := (by rw [hrel _ hra, hrel _ hrb]; exact rw_pt2 hrel)
    refine p_KWn (R2 := RN (n + 1 + 1) (upR (upR R n (sp (R (ix (xs (i + 1)))) (R (ix (xs (i + 2))))).1) (n + 1) (sp (R (ix (xs (i + 1)))) (R (ix (xs (i + 2))))).2) (ptR (ptR Am n (sp (mrow Am (ix (xs (i + 1)))) (mrow Am (ix (xs (i + 2))))).1) (n + 1) (sp (mrow Am (ix (xs (i + 1)))) (mrow Am (ix (xs (i + 2))))).2)) (fun i9 j9 hj9 => RN_ok hW i9 j9 hj9) ?_
    exact hnext _ _ _ _ _ _ _ _ _ _ _ _ _ _ _ _ _ _ ⟨hn9, RN_rel _ _ _, hok, hft, hm⟩ (by (try simp only [rmL_c, rmL_s, room_c, room_s]); omega) (by (try simp only [rmL_c, rmL_s, room_c, room_s]); omega)
  · have heM : eDiv n (mrow Am) (xs (i + 1)) (xs (i + 2)) = eDiv n R (xs (i + 1)) (xs (i + 2)) := (eDiv_c hn hrel _ _).symm
    refine p_w (w9 := (KW k ad r (nI n) R T9 U9 tx9 sz9 ((oa, aL k 1 g9) :: (MW k md th (nI n) Am Wk Mo v cp bt ml (nI cn) [])))) (by rw [sel_n he, sel_n he]) ?_
    refine p_istore (lv9 := [(5, .int (eDiv n R (xs (i + 1)) (xs (i + 2)))), (0, .ref b), (1, .ref (ad 0)), (2, .ref (md 0)), (3, .ref oa), (4, .int (nI i))]) C (by decide) rfl dL_law_833 ?_
    refine p_aload_n C rfl 3 rfl dL_law_835 ?_
    refine p_aload_n C rfl 1 rfl dL_law_836 ?_
    refine p_iload C 5 rfl dL_law_837 ?_
    refine p_iconst (v := (nI 1)) C (by decide) dL_law_839 ?_
    refine p_iadd C dL_law_840 ?_
    refine p_int (y := (nI (i + 1))) (nI_add _ _) ?_
    refine p_sld (x := xs (i + 1)) C hX hbl hbA (vp_in_nI (by omega) (by omega)) (congrArg xs (nI_clamp (by omega))) dL_law_841 ?_
    refine p_aload_n C rfl 1 rfl dL_law_842 ?_
    refine p_iload C 5 rfl dL_law_843 ?_
    refine p_iconst (v := (nI 2)) C (by decide) dL_law_845 ?_
    refine p_iadd C dL_law_846 ?_
    refine p_int (y := (nI (i + 2))) (nI_add _ _) ?_
    refine p_sld (x := xs (i + 2)) C hX hbl hbA (vp_in_nI (by omega) (by omega)) (congrArg xs (nI_clamp (by omega))) dL_law_847 ?_
    refine p_toM ?_
    refine c_Vi (As := [.int (xs (i + 1)), .int (xs (i + 2))]) (rest := []) C (m_X3_divide l D k hn) 0 rfl rfl rfl qml_L_149 qim_X3_divide qse_X3_X3_divide qin_X3 qco_X3_divide nd_X3_divide ⟨Nat.le_of_ble_eq_true rfl, Nat.le_of_ble_eq_true rfl⟩ (Nat.le_of_ble_eq_true rfl) ⟨by (try simp only [rmL_c, rmL_s, room_c, room_s]); omega, by (try simp only [rmL_c, rmL_s, room_c, room_s]); omega⟩ rfl dL_law_848 (fun r9 w9 h9 => ?_)
    obtain ⟨Wk8, Mo8, rfl, hvM⟩ := h9
    refine p_w (w9 := (MW k md (eDiv n R (xs (i + 1)) (xs (i + 2))) (nI n) Am Wk8 Mo8 v cp bt ml (nI cn) (KW k ad r (nI n) R T9 U9 tx9 sz9 [(oa, aL k 1 g9)]))) (by rw [heM, sel_n he, sel_n he]) ?_
    refine p_istore (lv9 := [(6, .int r9), (5, .int (eDiv n R (xs (i + 1)) (xs (i + 2)))), (0, .ref b), (1, .ref (ad 0)), (2, .ref (md 0)), (3, .ref oa), (4, .int (nI i))]) C (by decide) rfl dL_law_851 ?_
    refine p_aload_n C rfl 4 rfl dL_law_853 ?_
    refine c_Vi (As := []) (rest := []) C (m_X3_thrown l D k ) 0 rfl rfl rfl qml_L_114 qim_X3_thrown qse_X3_X3_thrown qin_X3 qco_X3_thrown nd_X3_thrown ⟨Nat.le_of_ble_eq_true rfl, Nat.le_of_ble_eq_true rfl⟩ (Nat.le_of_ble_eq_true rfl) ⟨by (try simp only [rmL_c, rmL_s, room_c, room_s]); omega, by (try simp only [rmL_c, rmL_s, room_c, room_s]); omega⟩ rfl dL_law_854 (fun r9 w9 h9 => ?_)
    obtain ⟨e9, rfl⟩ := h9
    refine p_int e9 ?_
    refine p_toK ?_
    refine p_iload C 1 rfl dL_law_857 ?_
    refine p_icmp_eq C 864 (by decide) dL_law_859 (fun c_859 => ?_) (fun c_859 => absurd rfl c_859)
    refine p_iload C 1 rfl dL_law_864 ?_
    refine p_if_ne C 881 (by decide) dL_law_866 (fun c_866 => ?_) (fun c_866 => absurd c_866 he)
    refine p_goto C 1932 (by decide) dL_law_881 ?_
    refine p_lv (lv9 := [(0, .ref b), (1, .ref (ad 0)), (2, .ref (md 0)), (3, .ref oa), (4, .int (nI i))]) [2, 3, 4, 5, 6] rfl ?_
    exact hnext _ _ _ _ _ _ _ _ _ _ _ _ _ _ _ _ _ _ ⟨hn, hrel, hok, hft, hm⟩ (by (try simp only [rmL_c, rmL_s, room_c, room_s]); omega) (by (try simp only [rmL_c, rmL_s, room_c, room_s]); omega)
set_option maxHeartbeats 4000000 in
set_option maxRecDepth 100000 in
/-- the law at amountOf -/
theorem lc_amountOf {p : Program} {l : Launch} {e : Env} {s : State} {m : MethodId} {args : Array Value} {below : List Frame} {meth : Method} {c : Code} {D : va_G} {A : Nat → Prop} {k : Nat → ClassId} {Q : State → Prop} (C : Cx p s m args meth c cL_law 9 RL A D k) (hfl : l.stackTraces = false) {b L i oa n cp cn v c9 s9 : Nat} {xs : Nat → Int32} {ad r md : Nat → Nat} {R : Nat → Nat → Int32} {T U tx Am Wk Mo bt : Nat → Int32} {th sz ml : Int32} {g : Nat → Int64} (hX : va_X b L xs s s.heap) (hbl : b < s.heap.size) (hbA : ¬ A b) (hL : L ≤ 2048) (hi : i + 4 ≤ L) (hI : LI n R Am cp cn bt) (hc9 : c9 + 544 ≤ 601024) (hs9 : s9 + 6944 ≤ 7293034) (hnext : ∀ (n' cp' cn' v' c' s' : Nat) (R' : Nat → Nat → Int32) (T' U' tx' Am' Wk' Mo' bt' : Nat → Int32) (th' sz' ml' : Int32) (g' : Nat → Int64), LI n' R' Am' cp' cn' bt' → c' ≤ c9 + 544 → s' ≤ s9 + 6944 → WP p l e (room_1) s m args below meth c D A 9 (KW k ad r (nI n') R' T' U' tx' sz' ((oa, aL k 1 g') :: (MW k md th' (nI n') Am' Wk' Mo' v' cp' bt' ml' (nI cn') []))) [(0, .ref b), (1, .ref (ad 0)), (2, .ref (md 0)), (3, .ref oa), (4, .int (nI i))] c' s' Q 1932 []) : WP p l e (room_1) s m args below meth c D A 9 (KW k ad r (nI n) R T U tx sz ((oa, aL k 1 g) :: (MW k md th (nI n) Am Wk Mo v cp bt ml (nI cn) []))) [(0, .ref b), (1, .ref (ad 0)), (2, .ref (md 0)), (3, .ref oa), (4, .int (nI i))] c9 s9 Q 897 [] := by
  obtain ⟨hn, hrel, hok, hft, hm⟩ := hI
  have hvv : eAmt n (xs (i + 1)) (xs (i + 2)) = 0 → ((R (ix (xs (i + 1)))) (ix (xs (i + 2)))).toInt64 = ((mrow Am (ix (xs (i + 1)))) (ix (xs (i + 2)))).toInt64 := fun he => by
    have hrc := isR_ix hn (cv_eAmt he)
    rw [hrel _ hrc]
  refine p_aload_n C rfl 1 rfl dL_law_897 ?_
  refine p_aload_n C rfl 0 rfl dL_law_898 ?_
  refine p_iload C 4 rfl dL_law_899 ?_
  refine p_iconst (v := (nI 1)) C (by decide) dL_law_901 ?_
  refine p_iadd C dL_law_902 ?_
  refine p_int (y := (nI (i + 1))) (nI_add _ _) ?_
  refine p_sld (x := xs (i + 1)) C hX hbl hbA (vp_in_nI (by omega) (by omega)) (congrArg xs (nI_clamp (by omega))) dL_law_903 ?_
  refine p_aload_n C rfl 0 rfl dL_law_904 ?_
  refine p_iload C 4 rfl dL_law_905 ?_
  refine p_iconst (v := (nI 2)) C (by decide) dL_law_907 ?_
  refine p_iadd C dL_law_908 ?_
  refine p_int (y := (nI (i + 2))) (nI_add _ _) ?_
  refine p_sld (x := xs (i + 2)) C hX hbl hbA (vp_in_nI (by omega) (by omega)) (congrArg xs (nI_clamp (by omega))) dL_law_909 ?_
  refine p_aload_n C rfl 3 rfl dL_law_910 ?_
  refine c_Wi (As := [.ref (ad 0), .int (xs (i + 1)), .int (xs (i + 2)), .ref oa]) (rest := []) C (m_L_amountOf l D k hfl (hn := hn)) qml_L_154 qst_L_amountOf qin_L qco_L_amountOf nd_L_amountOf ⟨Nat.le_of_ble_eq_true rfl, Nat.le_of_ble_eq_true rfl⟩ (Nat.le_of_ble_eq_true rfl) ⟨by (try simp only [rmL_c, rmL_s, room_c, room_s]); omega, by (try simp only [rmL_c, rmL_s, room_c, room_s]); omega⟩ rfl dL_law_911 (fun r9 w9 h9 => ?_)
  obtain ⟨e9, T9, U9, tx9, sz9, g9, rfl, hv9⟩ := h9
  refine p_int e9 ?_
  by_cases he : eAmt n (xs (i + 1)) (xs (i + 2)) = 0
  · have heM : eAmt n (xs (i + 1)) (xs (i + 2)) = eAmt n (xs (i + 1)) (xs (i + 2)) := rfl
    have hrc := isR_ix hn (cv_eAmt he)
    refine p_w (w9 := (KW k ad r (nI n) R T9 U9 tx9 sz9 ((oa, aL k 1 g9) :: (MW k md th (nI n) Am Wk Mo v cp bt ml (nI cn) [])))) (by rw [he, sel_0, sel_0]) ?_
    have hv := hv9 he
    refine p_int (y := 0) he ?_
    refine p_istore (lv9 := [(5, .int 0), (0, .ref b), (1, .ref (ad 0)), (2, .ref (md 0)), (3, .ref oa), (4, .int (nI i))]) C (by decide) rfl dL_law_914 ?_
    refine p_aload_n C rfl 3 rfl dL_law_916 ?_
    refine p_aload_n C rfl 1 rfl dL_law_917 ?_
    refine p_iload C 5 rfl dL_law_918 ?_
    refine p_iconst (v := (nI 1)) C (by decide) dL_law_920 ?_
    refine p_iadd C dL_law_921 ?_
    refine p_int (y := (nI (i + 1))) (nI_add _ _) ?_
    refine p_sld (x := xs (i + 1)) C hX hbl hbA (vp_in_nI (by omega) (by omega)) (congrArg xs (nI_clamp (by omega))) dL_law_922 ?_
    refine p_aload_n C rfl 1 rfl dL_law_923 ?_
    refine p_iload C 5 rfl dL_law_924 ?_
    refine p_iconst (v := (nI 2)) C (by decide) dL_law_926 ?_
    refine p_iadd C dL_law_927 ?_
    refine p_int (y := (nI (i + 2))) (nI_add _ _) ?_
    refine p_sld (x := xs (i + 2)) C hX hbl hbA (vp_in_nI (by omega) (by omega)) (congrArg xs (nI_clamp (by omega))) dL_law_928 ?_
    refine p_toM ?_
    refine c_Vi (As := [.int (xs (i + 1)), .int (xs (i + 2))]) (rest := []) C (m_X3_amountOf l D k hn) 0 rfl rfl rfl qml_L_156 qim_X3_amountOf qse_X3_X3_amountOf qin_X3 qco_X3_amountOf nd_X3_amountOf ⟨Nat.le_of_ble_eq_true rfl, Nat.le_of_ble_eq_true rfl⟩ (Nat.le_of_ble_eq_true rfl) ⟨by (try simp only [rmL_c, rmL_s, room_c, room_s]); omega, by (try simp only [rmL_c, rmL_s, room_c, room_s]); omega⟩ rfl dL_law_929 (fun r9 w9 h9 => ?_)
    obtain ⟨Wk8, Mo8, rfl, hvM⟩ := h9
    refine p_w (w9 := (MW k md 0 (nI n) Am Wk8 Mo8 v cp bt ml (nI cn) (KW k ad r (nI n) R T9 U9 tx9 sz9 [(oa, aL k 1 g9)]))) (by rw [heM.trans he]) ?_
    refine p_int (y := (mrow Am (ix (xs (i + 1)))) (ix (xs (i + 2)))) (hvM (heM.trans he)) ?_
    refine p_istore (lv9 := [(6, .int ((mrow Am (ix (xs (i + 1)))) (ix (xs (i + 2))))), (5, .int 0), (0, .ref b), (1, .ref (ad 0)), (2, .ref (md 0)), (3, .ref oa), (4, .int (nI i))]) C (by decide) rfl dL_law_932 ?_
    refine p_aload_n C rfl 4 rfl dL_law_934 ?_
    refine c_Vi (As := []) (rest := []) C (m_X3_thrown l D k ) 0 rfl rfl rfl qml_L_114 qim_X3_thrown qse_X3_X3_thrown qin_X3 qco_X3_thrown nd_X3_thrown ⟨Nat.le_of_ble_eq_true rfl, Nat.le_of_ble_eq_true rfl⟩ (Nat.le_of_ble_eq_true rfl) ⟨by (try simp only [rmL_c, rmL_s, room_c, room_s]); omega, by (try simp only [rmL_c, rmL_s, room_c, room_s]); omega⟩ rfl dL_law_935 (fun r9 w9 h9 => ?_)
    obtain ⟨e9, rfl⟩ := h9
    refine p_int e9 ?_
    refine p_toK ?_
    refine p_iload C 1 rfl dL_law_938 ?_
    refine p_icmp_eq C 945 (by decide) dL_law_940 (fun c_940 => ?_) (fun c_940 => absurd rfl c_940)
    refine p_iload C 1 rfl dL_law_945 ?_
    refine p_if_ne C 962 (by decide) dL_law_947 (fun c_947 => absurd c_947 (fun z9 => z9 rfl)) (fun c_947 => ?_)
    refine p_aload_n C rfl 5 rfl dL_law_950 ?_
    refine p_iconst (v := 0) C (by decide) dL_law_951 ?_
    refine p_lald (v := (g9 0)) C 22 KW_y (vp_in_nI (n := 0) (N := 1) (by omega) (by omega)) (by rw [show (0 : Int32).toNatClampNeg = 0 from rfl]) dL_law_952 ?_
    refine p_iload C 0 rfl dL_law_953 ?_
    refine p_i2l C dL_law_955 ?_
    refine p_lcmp C dL_law_956 ?_
    refine p_if_eq C 962 (by decide) dL_law_957 (fun c_957 => ?_) (fun c_957 => absurd ((lg_cmp_eq _ _).mpr (hv.trans (hvv he))) c_957)
    refine p_goto C 1932 (by decide) dL_law_962 ?_
    refine p_lv (lv9 := [(0, .ref b), (1, .ref (ad 0)), (2, .ref (md 0)), (3, .ref oa), (4, .int (nI i))]) [2, 3, 4, 5, 6] rfl ?_
    exact hnext _ _ _ _ _ _ _ _ _ _ _ _ _ _ _ _ _ _ ⟨hn, hrel, hok, hft, hm⟩ (by (try simp only [rmL_c, rmL_s, room_c, room_s]); omega) (by (try simp only [rmL_c, rmL_s, room_c, room_s]); omega)
  · have heM : eAmt n (xs (i + 1)) (xs (i + 2)) = eAmt n (xs (i + 1)) (xs (i + 2)) := rfl
    refine p_w (w9 := (KW k ad r (nI n) R T9 U9 tx9 sz9 ((oa, aL k 1 g9) :: (MW k md th (nI n) Am Wk Mo v cp bt ml (nI cn) [])))) (by rw [sel_n he, sel_n he]) ?_
    refine p_istore (lv9 := [(5, .int (eAmt n (xs (i + 1)) (xs (i + 2)))), (0, .ref b), (1, .ref (ad 0)), (2, .ref (md 0)), (3, .ref oa), (4, .int (nI i))]) C (by decide) rfl dL_law_914 ?_
    refine p_aload_n C rfl 3 rfl dL_law_916 ?_
    refine p_aload_n C rfl 1 rfl dL_law_917 ?_
    refine p_iload C 5 rfl dL_law_918 ?_
    refine p_iconst (v := (nI 1)) C (by decide) dL_law_920 ?_
    refine p_iadd C dL_law_921 ?_
    refine p_int (y := (nI (i + 1))) (nI_add _ _) ?_
    refine p_sld (x := xs (i + 1)) C hX hbl hbA (vp_in_nI (by omega) (by omega)) (congrArg xs (nI_clamp (by omega))) dL_law_922 ?_
    refine p_aload_n C rfl 1 rfl dL_law_923 ?_
    refine p_iload C 5 rfl dL_law_924 ?_
    refine p_iconst (v := (nI 2)) C (by decide) dL_law_926 ?_
    refine p_iadd C dL_law_927 ?_
    refine p_int (y := (nI (i + 2))) (nI_add _ _) ?_
    refine p_sld (x := xs (i + 2)) C hX hbl hbA (vp_in_nI (by omega) (by omega)) (congrArg xs (nI_clamp (by omega))) dL_law_928 ?_
    refine p_toM ?_
    refine c_Vi (As := [.int (xs (i + 1)), .int (xs (i + 2))]) (rest := []) C (m_X3_amountOf l D k hn) 0 rfl rfl rfl qml_L_156 qim_X3_amountOf qse_X3_X3_amountOf qin_X3 qco_X3_amountOf nd_X3_amountOf ⟨Nat.le_of_ble_eq_true rfl, Nat.le_of_ble_eq_true rfl⟩ (Nat.le_of_ble_eq_true rfl) ⟨by (try simp only [rmL_c, rmL_s, room_c, room_s]); omega, by (try simp only [rmL_c, rmL_s, room_c, room_s]); omega⟩ rfl dL_law_929 (fun r9 w9 h9 => ?_)
    obtain ⟨Wk8, Mo8, rfl, hvM⟩ := h9
    refine p_w (w9 := (MW k md (eAmt n (xs (i + 1)) (xs (i + 2))) (nI n) Am Wk8 Mo8 v cp bt ml (nI cn) (KW k ad r (nI n) R T9 U9 tx9 sz9 [(oa, aL k 1 g9)]))) (by rw [heM]) ?_
    refine p_istore (lv9 := [(6, .int r9), (5, .int (eAmt n (xs (i + 1)) (xs (i + 2)))), (0, .ref b), (1, .ref (ad 0)), (2, .ref (md 0)), (3, .ref oa), (4, .int (nI i))]) C (by decide) rfl dL_law_932 ?_
    refine p_aload_n C rfl 4 rfl dL_law_934 ?_
    refine c_Vi (As := []) (rest := []) C (m_X3_thrown l D k ) 0 rfl rfl rfl qml_L_114 qim_X3_thrown qse_X3_X3_thrown qin_X3 qco_X3_thrown nd_X3_thrown ⟨Nat.le_of_ble_eq_true rfl, Nat.le_of_ble_eq_true rfl⟩ (Nat.le_of_ble_eq_true rfl) ⟨by (try simp only [rmL_c, rmL_s, room_c, room_s]); omega, by (try simp only [rmL_c, rmL_s, room_c, room_s]); omega⟩ rfl dL_law_935 (fun r9 w9 h9 => ?_)
    obtain ⟨e9, rfl⟩ := h9
    refine p_int e9 ?_
    refine p_toK ?_
    refine p_iload C 1 rfl dL_law_938 ?_
    refine p_icmp_eq C 945 (by decide) dL_law_940 (fun c_940 => ?_) (fun c_940 => absurd rfl c_940)
    refine p_iload C 1 rfl dL_law_945 ?_
    refine p_if_ne C 962 (by decide) dL_law_947 (fun c_947 => ?_) (fun c_947 => absurd c_947 he)
    refine p_goto C 1932 (by decide) dL_law_962 ?_
    refine p_lv (lv9 := [(0, .ref b), (1, .ref (ad 0)), (2, .ref (md 0)), (3, .ref oa), (4, .int (nI i))]) [2, 3, 4, 5, 6] rfl ?_
    exact hnext _ _ _ _ _ _ _ _ _ _ _ _ _ _ _ _ _ _ ⟨hn, hrel, hok, hft, hm⟩ (by (try simp only [rmL_c, rmL_s, room_c, room_s]); omega) (by (try simp only [rmL_c, rmL_s, room_c, room_s]); omega)
set_option maxHeartbeats 4000000 in
set_option maxRecDepth 100000 in
/-- the law at degreeOf -/
theorem lc_degreeOf {p : Program} {l : Launch} {e : Env} {s : State} {m : MethodId} {args : Array Value} {below : List Frame} {meth : Method} {c : Code} {D : va_G} {A : Nat → Prop} {k : Nat → ClassId} {Q : State → Prop} (C : Cx p s m args meth c cL_law 9 RL A D k) (hfl : l.stackTraces = false) {b L i oa n cp cn v c9 s9 : Nat} {xs : Nat → Int32} {ad r md : Nat → Nat} {R : Nat → Nat → Int32} {T U tx Am Wk Mo bt : Nat → Int32} {th sz ml : Int32} {g : Nat → Int64} (hX : va_X b L xs s s.heap) (hbl : b < s.heap.size) (hbA : ¬ A b) (hL : L ≤ 2048) (hi : i + 4 ≤ L) (hI : LI n R Am cp cn bt) (hc9 : c9 + 544 ≤ 601024) (hs9 : s9 + 6944 ≤ 7293034) (hnext : ∀ (n' cp' cn' v' c' s' : Nat) (R' : Nat → Nat → Int32) (T' U' tx' Am' Wk' Mo' bt' : Nat → Int32) (th' sz' ml' : Int32) (g' : Nat → Int64), LI n' R' Am' cp' cn' bt' → c' ≤ c9 + 544 → s' ≤ s9 + 6944 → WP p l e (room_1) s m args below meth c D A 9 (KW k ad r (nI n') R' T' U' tx' sz' ((oa, aL k 1 g') :: (MW k md th' (nI n') Am' Wk' Mo' v' cp' bt' ml' (nI cn') []))) [(0, .ref b), (1, .ref (ad 0)), (2, .ref (md 0)), (3, .ref oa), (4, .int (nI i))] c' s' Q 1932 []) : WP p l e (room_1) s m args below meth c D A 9 (KW k ad r (nI n) R T U tx sz ((oa, aL k 1 g) :: (MW k md th (nI n) Am Wk Mo v cp bt ml (nI cn) []))) [(0, .ref b), (1, .ref (ad 0)), (2, .ref (md 0)), (3, .ref oa), (4, .int (nI i))] c9 s9 Q 965 [] := by
  obtain ⟨hn, hrel, hok, hft, hm⟩ := hI
  have hvv : e1 n (xs (i + 1)) = 0 → (dI (dg (R (ix (xs (i + 1)))))).toInt64 = (dI (dg (mrow Am (ix (xs (i + 1)))))).toInt64 := fun he => by
    have hrc := isR_ix hn (e1_t he)
    rw [hrel _ hrc]
  refine p_aload_n C rfl 1 rfl dL_law_965 ?_
  refine p_aload_n C rfl 0 rfl dL_law_966 ?_
  refine p_iload C 4 rfl dL_law_967 ?_
  refine p_iconst (v := (nI 1)) C (by decide) dL_law_969 ?_
  refine p_iadd C dL_law_970 ?_
  refine p_int (y := (nI (i + 1))) (nI_add _ _) ?_
  refine p_sld (x := xs (i + 1)) C hX hbl hbA (vp_in_nI (by omega) (by omega)) (congrArg xs (nI_clamp (by omega))) dL_law_971 ?_
  refine p_aload_n C rfl 3 rfl dL_law_972 ?_
  refine c_Wi (As := [.ref (ad 0), .int (xs (i + 1)), .ref oa]) (rest := []) C (m_L_degreeOf l D k hfl (hn := hn)) qml_L_157 qst_L_degreeOf qin_L qco_L_degreeOf nd_L_degreeOf ⟨Nat.le_of_ble_eq_true rfl, Nat.le_of_ble_eq_true rfl⟩ (Nat.le_of_ble_eq_true rfl) ⟨by (try simp only [rmL_c, rmL_s, room_c, room_s]); omega, by (try simp only [rmL_c, rmL_s, room_c, room_s]); omega⟩ rfl dL_law_973 (fun r9 w9 h9 => ?_)
  obtain ⟨e9, T9, U9, tx9, sz9, g9, rfl, hv9⟩ := h9
  refine p_int e9 ?_
  by_cases he : e1 n (xs (i + 1)) = 0
  · have heM : e1 n (xs (i + 1)) = e1 n (xs (i + 1)) := rfl
    have hrc := isR_ix hn (e1_t he)
    refine p_w (w9 := (KW k ad r (nI n) R T9 U9 tx9 sz9 ((oa, aL k 1 g9) :: (MW k md th (nI n) Am Wk Mo v cp bt ml (nI cn) [])))) (by rw [he, sel_0, sel_0]) ?_
    have hv := hv9 he
    refine p_int (y := 0) he ?_
    refine p_istore (lv9 := [(5, .int 0), (0, .ref b), (1, .ref (ad 0)), (2, .ref (md 0)), (3, .ref oa), (4, .int (nI i))]) C (by decide) rfl dL_law_976 ?_
    refine p_aload_n C rfl 3 rfl dL_law_978 ?_
    refine p_aload_n C rfl 1 rfl dL_law_979 ?_
    refine p_iload C 5 rfl dL_law_980 ?_
    refine p_iconst (v := (nI 1)) C (by decide) dL_law_982 ?_
    refine p_iadd C dL_law_983 ?_
    refine p_int (y := (nI (i + 1))) (nI_add _ _) ?_
    refine p_sld (x := xs (i + 1)) C hX hbl hbA (vp_in_nI (by omega) (by omega)) (congrArg xs (nI_clamp (by omega))) dL_law_984 ?_
    refine p_toM ?_
    refine c_Vi (As := [.int (xs (i + 1))]) (rest := []) C (m_X3_degreeOf l D k hn) 0 rfl rfl rfl qml_L_159 qim_X3_degreeOf qse_X3_X3_degreeOf qin_X3 qco_X3_degreeOf nd_X3_degreeOf ⟨Nat.le_of_ble_eq_true rfl, Nat.le_of_ble_eq_true rfl⟩ (Nat.le_of_ble_eq_true rfl) ⟨by (try simp only [rmL_c, rmL_s, room_c, room_s]); omega, by (try simp only [rmL_c, rmL_s, room_c, room_s]); omega⟩ rfl dL_law_985 (fun r9 w9 h9 => ?_)
    obtain ⟨Wk8, Mo8, rfl, hvM⟩ := h9
    refine p_w (w9 := (MW k md 0 (nI n) Am Wk8 Mo8 v cp bt ml (nI cn) (KW k ad r (nI n) R T9 U9 tx9 sz9 [(oa, aL k 1 g9)]))) (by rw [heM.trans he]) ?_
    refine p_int (y := dI (dg (mrow Am (ix (xs (i + 1)))))) (hvM (heM.trans he)) ?_
    refine p_istore (lv9 := [(6, .int (dI (dg (mrow Am (ix (xs (i + 1))))))), (5, .int 0), (0, .ref b), (1, .ref (ad 0)), (2, .ref (md 0)), (3, .ref oa), (4, .int (nI i))]) C (by decide) rfl dL_law_988 ?_
    refine p_aload_n C rfl 4 rfl dL_law_990 ?_
    refine c_Vi (As := []) (rest := []) C (m_X3_thrown l D k ) 0 rfl rfl rfl qml_L_114 qim_X3_thrown qse_X3_X3_thrown qin_X3 qco_X3_thrown nd_X3_thrown ⟨Nat.le_of_ble_eq_true rfl, Nat.le_of_ble_eq_true rfl⟩ (Nat.le_of_ble_eq_true rfl) ⟨by (try simp only [rmL_c, rmL_s, room_c, room_s]); omega, by (try simp only [rmL_c, rmL_s, room_c, room_s]); omega⟩ rfl dL_law_991 (fun r9 w9 h9 => ?_)
    obtain ⟨e9, rfl⟩ := h9
    refine p_int e9 ?_
    refine p_toK ?_
    refine p_iload C 1 rfl dL_law_994 ?_
    refine p_icmp_eq C 1001 (by decide) dL_law_996 (fun c_996 => ?_) (fun c_996 => absurd rfl c_996)
    refine p_iload C 1 rfl dL_law_1001 ?_
    refine p_if_ne C 1018 (by decide) dL_law_1003 (fun c_1003 => absurd c_1003 (fun z9 => z9 rfl)) (fun c_1003 => ?_)
    refine p_aload_n C rfl 5 rfl dL_law_1006 ?_
    refine p_iconst (v := 0) C (by decide) dL_law_1007 ?_
    refine p_lald (v := (g9 0)) C 22 KW_y (vp_in_nI (n := 0) (N := 1) (by omega) (by omega)) (by rw [show (0 : Int32).toNatClampNeg = 0 from rfl]) dL_law_1008 ?_
    refine p_iload C 0 rfl dL_law_1009 ?_
    refine p_i2l C dL_law_1011 ?_
    refine p_lcmp C dL_law_1012 ?_
    refine p_if_eq C 1018 (by decide) dL_law_1013 (fun c_1013 => ?_) (fun c_1013 => absurd ((lg_cmp_eq _ _).mpr (hv.trans (hvv he))) c_1013)
    refine p_goto C 1932 (by decide) dL_law_1018 ?_
    refine p_lv (lv9 := [(0, .ref b), (1, .ref (ad 0)), (2, .ref (md 0)), (3, .ref oa), (4, .int (nI i))]) [2, 3, 4, 5, 6] rfl ?_
    exact hnext _ _ _ _ _ _ _ _ _ _ _ _ _ _ _ _ _ _ ⟨hn, hrel, hok, hft, hm⟩ (by (try simp only [rmL_c, rmL_s, room_c, room_s]); omega) (by (try simp only [rmL_c, rmL_s, room_c, room_s]); omega)
  · have heM : e1 n (xs (i + 1)) = e1 n (xs (i + 1)) := rfl
    refine p_w (w9 := (KW k ad r (nI n) R T9 U9 tx9 sz9 ((oa, aL k 1 g9) :: (MW k md th (nI n) Am Wk Mo v cp bt ml (nI cn) [])))) (by rw [sel_n he, sel_n he]) ?_
    refine p_istore (lv9 := [(5, .int (e1 n (xs (i + 1)))), (0, .ref b), (1, .ref (ad 0)), (2, .ref (md 0)), (3, .ref oa), (4, .int (nI i))]) C (by decide) rfl dL_law_976 ?_
    refine p_aload_n C rfl 3 rfl dL_law_978 ?_
    refine p_aload_n C rfl 1 rfl dL_law_979 ?_
    refine p_iload C 5 rfl dL_law_980 ?_
    refine p_iconst (v := (nI 1)) C (by decide) dL_law_982 ?_
    refine p_iadd C dL_law_983 ?_
    refine p_int (y := (nI (i + 1))) (nI_add _ _) ?_
    refine p_sld (x := xs (i + 1)) C hX hbl hbA (vp_in_nI (by omega) (by omega)) (congrArg xs (nI_clamp (by omega))) dL_law_984 ?_
    refine p_toM ?_
    refine c_Vi (As := [.int (xs (i + 1))]) (rest := []) C (m_X3_degreeOf l D k hn) 0 rfl rfl rfl qml_L_159 qim_X3_degreeOf qse_X3_X3_degreeOf qin_X3 qco_X3_degreeOf nd_X3_degreeOf ⟨Nat.le_of_ble_eq_true rfl, Nat.le_of_ble_eq_true rfl⟩ (Nat.le_of_ble_eq_true rfl) ⟨by (try simp only [rmL_c, rmL_s, room_c, room_s]); omega, by (try simp only [rmL_c, rmL_s, room_c, room_s]); omega⟩ rfl dL_law_985 (fun r9 w9 h9 => ?_)
    obtain ⟨Wk8, Mo8, rfl, hvM⟩ := h9
    refine p_w (w9 := (MW k md (e1 n (xs (i + 1))) (nI n) Am Wk8 Mo8 v cp bt ml (nI cn) (KW k ad r (nI n) R T9 U9 tx9 sz9 [(oa, aL k 1 g9)]))) (by rw [heM]) ?_
    refine p_istore (lv9 := [(6, .int r9), (5, .int (e1 n (xs (i + 1)))), (0, .ref b), (1, .ref (ad 0)), (2, .ref (md 0)), (3, .ref oa), (4, .int (nI i))]) C (by decide) rfl dL_law_988 ?_
    refine p_aload_n C rfl 4 rfl dL_law_990 ?_
    refine c_Vi (As := []) (rest := []) C (m_X3_thrown l D k ) 0 rfl rfl rfl qml_L_114 qim_X3_thrown qse_X3_X3_thrown qin_X3 qco_X3_thrown nd_X3_thrown ⟨Nat.le_of_ble_eq_true rfl, Nat.le_of_ble_eq_true rfl⟩ (Nat.le_of_ble_eq_true rfl) ⟨by (try simp only [rmL_c, rmL_s, room_c, room_s]); omega, by (try simp only [rmL_c, rmL_s, room_c, room_s]); omega⟩ rfl dL_law_991 (fun r9 w9 h9 => ?_)
    obtain ⟨e9, rfl⟩ := h9
    refine p_int e9 ?_
    refine p_toK ?_
    refine p_iload C 1 rfl dL_law_994 ?_
    refine p_icmp_eq C 1001 (by decide) dL_law_996 (fun c_996 => ?_) (fun c_996 => absurd rfl c_996)
    refine p_iload C 1 rfl dL_law_1001 ?_
    refine p_if_ne C 1018 (by decide) dL_law_1003 (fun c_1003 => ?_) (fun c_1003 => absurd c_1003 he)
    refine p_goto C 1932 (by decide) dL_law_1018 ?_
    refine p_lv (lv9 := [(0, .ref b), (1, .ref (ad 0)), (2, .ref (md 0)), (3, .ref oa), (4, .int (nI i))]) [2, 3, 4, 5, 6] rfl ?_
    exact hnext _ _ _ _ _ _ _ _ _ _ _ _ _ _ _ _ _ _ ⟨hn, hrel, hok, hft, hm⟩ (by (try simp only [rmL_c, rmL_s, room_c, room_s]); omega) (by (try simp only [rmL_c, rmL_s, room_c, room_s]); omega)
set_option maxHeartbeats 4000000 in
set_option maxRecDepth 100000 in
/-- the law at isPlain -/
theorem lc_isPlain {p : Program} {l : Launch} {e : Env} {s : State} {m : MethodId} {args : Array Value} {below : List Frame} {meth : Method} {c : Code} {D : va_G} {A : Nat → Prop} {k : Nat → ClassId} {Q : State → Prop} (C : Cx p s m args meth c cL_law 9 RL A D k) (hfl : l.stackTraces = false) {b L i oa n cp cn v c9 s9 : Nat} {xs : Nat → Int32} {ad r md : Nat → Nat} {R : Nat → Nat → Int32} {T U tx Am Wk Mo bt : Nat → Int32} {th sz ml : Int32} {g : Nat → Int64} (hX : va_X b L xs s s.heap) (hbl : b < s.heap.size) (hbA : ¬ A b) (hL : L ≤ 2048) (hi : i + 4 ≤ L) (hI : LI n R Am cp cn bt) (hc9 : c9 + 544 ≤ 601024) (hs9 : s9 + 6944 ≤ 7293034) (hnext : ∀ (n' cp' cn' v' c' s' : Nat) (R' : Nat → Nat → Int32) (T' U' tx' Am' Wk' Mo' bt' : Nat → Int32) (th' sz' ml' : Int32) (g' : Nat → Int64), LI n' R' Am' cp' cn' bt' → c' ≤ c9 + 544 → s' ≤ s9 + 6944 → WP p l e (room_1) s m args below meth c D A 9 (KW k ad r (nI n') R' T' U' tx' sz' ((oa, aL k 1 g') :: (MW k md th' (nI n') Am' Wk' Mo' v' cp' bt' ml' (nI cn') []))) [(0, .ref b), (1, .ref (ad 0)), (2, .ref (md 0)), (3, .ref oa), (4, .int (nI i))] c' s' Q 1932 []) : WP p l e (room_1) s m args below meth c D A 9 (KW k ad r (nI n) R T U tx sz ((oa, aL k 1 g) :: (MW k md th (nI n) Am Wk Mo v cp bt ml (nI cn) []))) [(0, .ref b), (1, .ref (ad 0)), (2, .ref (md 0)), (3, .ref oa), (4, .int (nI i))] c9 s9 Q 1021 [] := by
  obtain ⟨hn, hrel, hok, hft, hm⟩ := hI
  have hvv : e1 n (xs (i + 1)) = 0 → (bI (pln (R (ix (xs (i + 1)))))).toInt64 = (bI (pln (mrow Am (ix (xs (i + 1)))))).toInt64 := fun he => by
    have hrc := isR_ix hn (e1_t he)
    rw [hrel _ hrc]
  refine p_aload_n C rfl 1 rfl dL_law_1021 ?_
  refine p_aload_n C rfl 0 rfl dL_law_1022 ?_
  refine p_iload C 4 rfl dL_law_1023 ?_
  refine p_iconst (v := (nI 1)) C (by decide) dL_law_1025 ?_
  refine p_iadd C dL_law_1026 ?_
  refine p_int (y := (nI (i + 1))) (nI_add _ _) ?_
  refine p_sld (x := xs (i + 1)) C hX hbl hbA (vp_in_nI (by omega) (by omega)) (congrArg xs (nI_clamp (by omega))) dL_law_1027 ?_
  refine p_aload_n C rfl 3 rfl dL_law_1028 ?_
  refine c_Wi (As := [.ref (ad 0), .int (xs (i + 1)), .ref oa]) (rest := []) C (m_L_isPlain l D k hfl (hn := hn)) qml_L_160 qst_L_isPlain qin_L qco_L_isPlain nd_L_isPlain ⟨Nat.le_of_ble_eq_true rfl, Nat.le_of_ble_eq_true rfl⟩ (Nat.le_of_ble_eq_true rfl) ⟨by (try simp only [rmL_c, rmL_s, room_c, room_s]); omega, by (try simp only [rmL_c, rmL_s, room_c, room_s]); omega⟩ rfl dL_law_1029 (fun r9 w9 h9 => ?_)
  obtain ⟨e9, T9, U9, tx9, sz9, g9, rfl, hv9⟩ := h9
  refine p_int e9 ?_
  by_cases he : e1 n (xs (i + 1)) = 0
  · have heM : e1 n (xs (i + 1)) = e1 n (xs (i + 1)) := rfl
    have hrc := isR_ix hn (e1_t he)
    refine p_w (w9 := (KW k ad r (nI n) R T9 U9 tx9 sz9 ((oa, aL k 1 g9) :: (MW k md th (nI n) Am Wk Mo v cp bt ml (nI cn) [])))) (by rw [he, sel_0, sel_0]) ?_
    have hv := hv9 he
    refine p_int (y := 0) he ?_
    refine p_istore (lv9 := [(5, .int 0), (0, .ref b), (1, .ref (ad 0)), (2, .ref (md 0)), (3, .ref oa), (4, .int (nI i))]) C (by decide) rfl dL_law_1032 ?_
    refine p_aload_n C rfl 3 rfl dL_law_1034 ?_
    refine p_aload_n C rfl 1 rfl dL_law_1035 ?_
    refine p_iload C 5 rfl dL_law_1036 ?_
    refine p_iconst (v := (nI 1)) C (by decide) dL_law_1038 ?_
    refine p_iadd C dL_law_1039 ?_
    refine p_int (y := (nI (i + 1))) (nI_add _ _) ?_
    refine p_sld (x := xs (i + 1)) C hX hbl hbA (vp_in_nI (by omega) (by omega)) (congrArg xs (nI_clamp (by omega))) dL_law_1040 ?_
    refine p_toM ?_
    refine c_Vi (As := [.int (xs (i + 1))]) (rest := []) C (m_X3_isPlain l D k hn) 0 rfl rfl rfl qml_L_162 qim_X3_isPlain qse_X3_X3_isPlain qin_X3 qco_X3_isPlain nd_X3_isPlain ⟨Nat.le_of_ble_eq_true rfl, Nat.le_of_ble_eq_true rfl⟩ (Nat.le_of_ble_eq_true rfl) ⟨by (try simp only [rmL_c, rmL_s, room_c, room_s]); omega, by (try simp only [rmL_c, rmL_s, room_c, room_s]); omega⟩ rfl dL_law_1041 (fun r9 w9 h9 => ?_)
    obtain ⟨Wk8, Mo8, rfl, hvM⟩ := h9
    refine p_w (w9 := (MW k md 0 (nI n) Am Wk8 Mo8 v cp bt ml (nI cn) (KW k ad r (nI n) R T9 U9 tx9 sz9 [(oa, aL k 1 g9)]))) (by rw [heM.trans he]) ?_
    refine p_int (y := bI (pln (mrow Am (ix (xs (i + 1)))))) (hvM (heM.trans he)) ?_
    refine p_istore (lv9 := [(6, .int (bI (pln (mrow Am (ix (xs (i + 1))))))), (5, .int 0), (0, .ref b), (1, .ref (ad 0)), (2, .ref (md 0)), (3, .ref oa), (4, .int (nI i))]) C (by decide) rfl dL_law_1044 ?_
    refine p_aload_n C rfl 4 rfl dL_law_1046 ?_
    refine c_Vi (As := []) (rest := []) C (m_X3_thrown l D k ) 0 rfl rfl rfl qml_L_114 qim_X3_thrown qse_X3_X3_thrown qin_X3 qco_X3_thrown nd_X3_thrown ⟨Nat.le_of_ble_eq_true rfl, Nat.le_of_ble_eq_true rfl⟩ (Nat.le_of_ble_eq_true rfl) ⟨by (try simp only [rmL_c, rmL_s, room_c, room_s]); omega, by (try simp only [rmL_c, rmL_s, room_c, room_s]); omega⟩ rfl dL_law_1047 (fun r9 w9 h9 => ?_)
    obtain ⟨e9, rfl⟩ := h9
    refine p_int e9 ?_
    refine p_toK ?_
    refine p_iload C 1 rfl dL_law_1050 ?_
    refine p_icmp_eq C 1057 (by decide) dL_law_1052 (fun c_1052 => ?_) (fun c_1052 => absurd rfl c_1052)
    refine p_iload C 1 rfl dL_law_1057 ?_
    refine p_if_ne C 1081 (by decide) dL_law_1059 (fun c_1059 => absurd c_1059 (fun z9 => z9 rfl)) (fun c_1059 => ?_)
    refine p_aload_n C rfl 5 rfl dL_law_1062 ?_
    refine p_iconst (v := 0) C (by decide) dL_law_1063 ?_
    refine p_lald (v := (g9 0)) C 22 KW_y (vp_in_nI (n := 0) (N := 1) (by omega) (by omega)) (by rw [show (0 : Int32).toNatClampNeg = 0 from rfl]) dL_law_1064 ?_
    refine p_iload C 0 rfl dL_law_1065 ?_
    refine p_if_eq C 1074 (by decide) dL_law_1067 (fun c_1067 => ?_) (fun c_1067 => ?_)
    · have zz := c_1067
      refine p_lconst (v := 0) C (by decide) dL_law_1074 ?_
      refine p_lcmp C dL_law_1075 ?_
      refine p_if_eq C 1081 (by decide) dL_law_1076 (fun c_1076 => ?_) (fun c_1076 => absurd ((lg_cmp_eq _ _).mpr (hv.trans ((hvv he).trans (by rw [zz]; rfl)))) c_1076)
      refine p_goto C 1932 (by decide) dL_law_1081 ?_
      refine p_lv (lv9 := [(0, .ref b), (1, .ref (ad 0)), (2, .ref (md 0)), (3, .ref oa), (4, .int (nI i))]) [2, 3, 4, 5, 6] rfl ?_
      exact hnext _ _ _ _ _ _ _ _ _ _ _ _ _ _ _ _ _ _ ⟨hn, hrel, hok, hft, hm⟩ (by (try simp only [rmL_c, rmL_s, room_c, room_s]); omega) (by (try simp only [rmL_c, rmL_s, room_c, room_s]); omega)
    · have zz := bI_ne1 c_1067
      refine p_lconst (v := 1) C (by decide) dL_law_1070 ?_
      refine p_goto C 1075 (by decide) dL_law_1071 ?_
      refine p_lcmp C dL_law_1075 ?_
      refine p_if_eq C 1081 (by decide) dL_law_1076 (fun c_1076 => ?_) (fun c_1076 => absurd ((lg_cmp_eq _ _).mpr (hv.trans ((hvv he).trans (by rw [zz]; rfl)))) c_1076)
      refine p_goto C 1932 (by decide) dL_law_1081 ?_
      refine p_lv (lv9 := [(0, .ref b), (1, .ref (ad 0)), (2, .ref (md 0)), (3, .ref oa), (4, .int (nI i))]) [2, 3, 4, 5, 6] rfl ?_
      exact hnext _ _ _ _ _ _ _ _ _ _ _ _ _ _ _ _ _ _ ⟨hn, hrel, hok, hft, hm⟩ (by (try simp only [rmL_c, rmL_s, room_c, room_s]); omega) (by (try simp only [rmL_c, rmL_s, room_c, room_s]); omega)
  · have heM : e1 n (xs (i + 1)) = e1 n (xs (i + 1)) := rfl
    refine p_w (w9 := (KW k ad r (nI n) R T9 U9 tx9 sz9 ((oa, aL k 1 g9) :: (MW k md th (nI n) Am Wk Mo v cp bt ml (nI cn) [])))) (by rw [sel_n he, sel_n he]) ?_
    refine p_istore (lv9 := [(5, .int (e1 n (xs (i + 1)))), (0, .ref b), (1, .ref (ad 0)), (2, .ref (md 0)), (3, .ref oa), (4, .int (nI i))]) C (by decide) rfl dL_law_1032 ?_
    refine p_aload_n C rfl 3 rfl dL_law_1034 ?_
    refine p_aload_n C rfl 1 rfl dL_law_1035 ?_
    refine p_iload C 5 rfl dL_law_1036 ?_
    refine p_iconst (v := (nI 1)) C (by decide) dL_law_1038 ?_
    refine p_iadd C dL_law_1039 ?_
    refine p_int (y := (nI (i + 1))) (nI_add _ _) ?_
    refine p_sld (x := xs (i + 1)) C hX hbl hbA (vp_in_nI (by omega) (by omega)) (congrArg xs (nI_clamp (by omega))) dL_law_1040 ?_
    refine p_toM ?_
    refine c_Vi (As := [.int (xs (i + 1))]) (rest := []) C (m_X3_isPlain l D k hn) 0 rfl rfl rfl qml_L_162 qim_X3_isPlain qse_X3_X3_isPlain qin_X3 qco_X3_isPlain nd_X3_isPlain ⟨Nat.le_of_ble_eq_true rfl, Nat.le_of_ble_eq_true rfl⟩ (Nat.le_of_ble_eq_true rfl) ⟨by (try simp only [rmL_c, rmL_s, room_c, room_s]); omega, by (try simp only [rmL_c, rmL_s, room_c, room_s]); omega⟩ rfl dL_law_1041 (fun r9 w9 h9 => ?_)
    obtain ⟨Wk8, Mo8, rfl, hvM⟩ := h9
    refine p_w (w9 := (MW k md (e1 n (xs (i + 1))) (nI n) Am Wk8 Mo8 v cp bt ml (nI cn) (KW k ad r (nI n) R T9 U9 tx9 sz9 [(oa, aL k 1 g9)]))) (by rw [heM]) ?_
    refine p_istore (lv9 := [(6, .int r9), (5, .int (e1 n (xs (i + 1)))), (0, .ref b), (1, .ref (ad 0)), (2, .ref (md 0)), (3, .ref oa), (4, .int (nI i))]) C (by decide) rfl dL_law_1044 ?_
    refine p_aload_n C rfl 4 rfl dL_law_1046 ?_
    refine c_Vi (As := []) (rest := []) C (m_X3_thrown l D k ) 0 rfl rfl rfl qml_L_114 qim_X3_thrown qse_X3_X3_thrown qin_X3 qco_X3_thrown nd_X3_thrown ⟨Nat.le_of_ble_eq_true rfl, Nat.le_of_ble_eq_true rfl⟩ (Nat.le_of_ble_eq_true rfl) ⟨by (try simp only [rmL_c, rmL_s, room_c, room_s]); omega, by (try simp only [rmL_c, rmL_s, room_c, room_s]); omega⟩ rfl dL_law_1047 (fun r9 w9 h9 => ?_)
    obtain ⟨e9, rfl⟩ := h9
    refine p_int e9 ?_
    refine p_toK ?_
    refine p_iload C 1 rfl dL_law_1050 ?_
    refine p_icmp_eq C 1057 (by decide) dL_law_1052 (fun c_1052 => ?_) (fun c_1052 => absurd rfl c_1052)
    refine p_iload C 1 rfl dL_law_1057 ?_
    refine p_if_ne C 1081 (by decide) dL_law_1059 (fun c_1059 => ?_) (fun c_1059 => absurd c_1059 he)
    refine p_goto C 1932 (by decide) dL_law_1081 ?_
    refine p_lv (lv9 := [(0, .ref b), (1, .ref (ad 0)), (2, .ref (md 0)), (3, .ref oa), (4, .int (nI i))]) [2, 3, 4, 5, 6] rfl ?_
    exact hnext _ _ _ _ _ _ _ _ _ _ _ _ _ _ _ _ _ _ ⟨hn, hrel, hok, hft, hm⟩ (by (try simp only [rmL_c, rmL_s, room_c, room_s]); omega) (by (try simp only [rmL_c, rmL_s, room_c, room_s]); omega)
set_option maxHeartbeats 4000000 in
set_option maxRecDepth 100000 in
/-- the law at content -/
theorem lc_content {p : Program} {l : Launch} {e : Env} {s : State} {m : MethodId} {args : Array Value} {below : List Frame} {meth : Method} {c : Code} {D : va_G} {A : Nat → Prop} {k : Nat → ClassId} {Q : State → Prop} (C : Cx p s m args meth c cL_law 9 RL A D k) (hfl : l.stackTraces = false) {b L i oa n cp cn v c9 s9 : Nat} {xs : Nat → Int32} {ad r md : Nat → Nat} {R : Nat → Nat → Int32} {T U tx Am Wk Mo bt : Nat → Int32} {th sz ml : Int32} {g : Nat → Int64} (hX : va_X b L xs s s.heap) (hbl : b < s.heap.size) (hbA : ¬ A b) (hL : L ≤ 2048) (hi : i + 4 ≤ L) (hI : LI n R Am cp cn bt) (hc9 : c9 + 544 ≤ 601024) (hs9 : s9 + 6944 ≤ 7293034) (hnext : ∀ (n' cp' cn' v' c' s' : Nat) (R' : Nat → Nat → Int32) (T' U' tx' Am' Wk' Mo' bt' : Nat → Int32) (th' sz' ml' : Int32) (g' : Nat → Int64), LI n' R' Am' cp' cn' bt' → c' ≤ c9 + 544 → s' ≤ s9 + 6944 → WP p l e (room_1) s m args below meth c D A 9 (KW k ad r (nI n') R' T' U' tx' sz' ((oa, aL k 1 g') :: (MW k md th' (nI n') Am' Wk' Mo' v' cp' bt' ml' (nI cn') []))) [(0, .ref b), (1, .ref (ad 0)), (2, .ref (md 0)), (3, .ref oa), (4, .int (nI i))] c' s' Q 1932 []) : WP p l e (room_1) s m args below meth c D A 9 (KW k ad r (nI n) R T U tx sz ((oa, aL k 1 g) :: (MW k md th (nI n) Am Wk Mo v cp bt ml (nI cn) []))) [(0, .ref b), (1, .ref (ad 0)), (2, .ref (md 0)), (3, .ref oa), (4, .int (nI i))] c9 s9 Q 1084 [] := by
  obtain ⟨hn, hrel, hok, hft, hm⟩ := hI
  have hvv : e1 n (xs (i + 1)) = 0 → (lN (ct (R (ix (xs (i + 1)))))) = (lN (ct (mrow Am (ix (xs (i + 1)))))) := fun he => by
    have hrc := isR_ix hn (e1_t he)
    rw [hrel _ hrc]
  refine p_aload_n C rfl 1 rfl dL_law_1084 ?_
  refine p_aload_n C rfl 0 rfl dL_law_1085 ?_
  refine p_iload C 4 rfl dL_law_1086 ?_
  refine p_iconst (v := (nI 1)) C (by decide) dL_law_1088 ?_
  refine p_iadd C dL_law_1089 ?_
  refine p_int (y := (nI (i + 1))) (nI_add _ _) ?_
  refine p_sld (x := xs (i + 1)) C hX hbl hbA (vp_in_nI (by omega) (by omega)) (congrArg xs (nI_clamp (by omega))) dL_law_1090 ?_
  refine p_aload_n C rfl 3 rfl dL_law_1091 ?_
  refine c_Wi (As := [.ref (ad 0), .int (xs (i + 1)), .ref oa]) (rest := []) C (m_L_content l D k hfl (hn := hn)) qml_L_163 qst_L_content qin_L qco_L_content nd_L_content ⟨Nat.le_of_ble_eq_true rfl, Nat.le_of_ble_eq_true rfl⟩ (Nat.le_of_ble_eq_true rfl) ⟨by (try simp only [rmL_c, rmL_s, room_c, room_s]); omega, by (try simp only [rmL_c, rmL_s, room_c, room_s]); omega⟩ rfl dL_law_1092 (fun r9 w9 h9 => ?_)
  obtain ⟨e9, T9, U9, tx9, sz9, g9, rfl, hv9⟩ := h9
  refine p_int e9 ?_
  by_cases he : e1 n (xs (i + 1)) = 0
  · have heM : e1 n (xs (i + 1)) = e1 n (xs (i + 1)) := rfl
    have hrc := isR_ix hn (e1_t he)
    refine p_w (w9 := (KW k ad r (nI n) R T9 U9 tx9 sz9 ((oa, aL k 1 g9) :: (MW k md th (nI n) Am Wk Mo v cp bt ml (nI cn) [])))) (by rw [he, sel_0, sel_0]) ?_
    have hv := hv9 he
    refine p_int (y := 0) he ?_
    refine p_istore (lv9 := [(5, .int 0), (0, .ref b), (1, .ref (ad 0)), (2, .ref (md 0)), (3, .ref oa), (4, .int (nI i))]) C (by decide) rfl dL_law_1095 ?_
    refine p_aload_n C rfl 3 rfl dL_law_1097 ?_
    refine p_aload_n C rfl 1 rfl dL_law_1098 ?_
    refine p_iload C 5 rfl dL_law_1099 ?_
    refine p_iconst (v := (nI 1)) C (by decide) dL_law_1101 ?_
    refine p_iadd C dL_law_1102 ?_
    refine p_int (y := (nI (i + 1))) (nI_add _ _) ?_
    refine p_sld (x := xs (i + 1)) C hX hbl hbA (vp_in_nI (by omega) (by omega)) (congrArg xs (nI_clamp (by omega))) dL_law_1103 ?_
    refine p_toM ?_
    refine c_Vl (As := [.int (xs (i + 1))]) (rest := []) C (m_X3_content l D k hn) 0 rfl rfl rfl qml_L_165 qim_X3_content qse_X3_X3_content qin_X3 qco_X3_content nd_X3_content ⟨Nat.le_of_ble_eq_true rfl, Nat.le_of_ble_eq_true rfl⟩ (Nat.le_of_ble_eq_true rfl) ⟨by (try simp only [rmL_c, rmL_s, room_c, room_s]); omega, by (try simp only [rmL_c, rmL_s, room_c, room_s]); omega⟩ rfl dL_law_1104 (fun r9 w9 h9 => ?_)
    obtain ⟨Wk8, Mo8, rfl, hvM⟩ := h9
    refine p_w (w9 := (MW k md 0 (nI n) Am Wk8 Mo8 v cp bt ml (nI cn) (KW k ad r (nI n) R T9 U9 tx9 sz9 [(oa, aL k 1 g9)]))) (by rw [heM.trans he]) ?_
    rw [hvM (heM.trans he)]
    refine p_lstore (lv9 := [(6, .long (lN (ct (mrow Am (ix (xs (i + 1))))))), (5, .int 0), (0, .ref b), (1, .ref (ad 0)), (2, .ref (md 0)), (3, .ref oa), (4, .int (nI i))]) C (by decide) rfl dL_law_1107 ?_
    refine p_aload_n C rfl 4 rfl dL_law_1109 ?_
    refine c_Vi (As := []) (rest := []) C (m_X3_thrown l D k ) 0 rfl rfl rfl qml_L_114 qim_X3_thrown qse_X3_X3_thrown qin_X3 qco_X3_thrown nd_X3_thrown ⟨Nat.le_of_ble_eq_true rfl, Nat.le_of_ble_eq_true rfl⟩ (Nat.le_of_ble_eq_true rfl) ⟨by (try simp only [rmL_c, rmL_s, room_c, room_s]); omega, by (try simp only [rmL_c, rmL_s, room_c, room_s]); omega⟩ rfl dL_law_1110 (fun r9 w9 h9 => ?_)
    obtain ⟨e9, rfl⟩ := h9
    refine p_int e9 ?_
    refine p_toK ?_
    refine p_iload C 1 rfl dL_law_1113 ?_
    refine p_icmp_eq C 1120 (by decide) dL_law_1115 (fun c_1115 => ?_) (fun c_1115 => absurd rfl c_1115)
    refine p_iload C 1 rfl dL_law_1120 ?_
    refine p_if_ne C 1136 (by decide) dL_law_1122 (fun c_1122 => absurd c_1122 (fun z9 => z9 rfl)) (fun c_1122 => ?_)
    refine p_aload_n C rfl 5 rfl dL_law_1125 ?_
    refine p_iconst (v := 0) C (by decide) dL_law_1126 ?_
    refine p_lald (v := (g9 0)) C 22 KW_y (vp_in_nI (n := 0) (N := 1) (by omega) (by omega)) (by rw [show (0 : Int32).toNatClampNeg = 0 from rfl]) dL_law_1127 ?_
    refine p_lload C 0 rfl dL_law_1128 ?_
    refine p_lcmp C dL_law_1130 ?_
    refine p_if_eq C 1136 (by decide) dL_law_1131 (fun c_1131 => ?_) (fun c_1131 => absurd ((lg_cmp_eq _ _).mpr (hv.trans (hvv he))) c_1131)
    refine p_goto C 1932 (by decide) dL_law_1136 ?_
    refine p_lv (lv9 := [(0, .ref b), (1, .ref (ad 0)), (2, .ref (md 0)), (3, .ref oa), (4, .int (nI i))]) [2, 3, 4, 5, 6] rfl ?_
    exact hnext _ _ _ _ _ _ _ _ _ _ _ _ _ _ _ _ _ _ ⟨hn, hrel, hok, hft, hm⟩ (by (try simp only [rmL_c, rmL_s, room_c, room_s]); omega) (by (try simp only [rmL_c, rmL_s, room_c, room_s]); omega)
  · have heM : e1 n (xs (i + 1)) = e1 n (xs (i + 1)) := rfl
    refine p_w (w9 := (KW k ad r (nI n) R T9 U9 tx9 sz9 ((oa, aL k 1 g9) :: (MW k md th (nI n) Am Wk Mo v cp bt ml (nI cn) [])))) (by rw [sel_n he, sel_n he]) ?_
    refine p_istore (lv9 := [(5, .int (e1 n (xs (i + 1)))), (0, .ref b), (1, .ref (ad 0)), (2, .ref (md 0)), (3, .ref oa), (4, .int (nI i))]) C (by decide) rfl dL_law_1095 ?_
    refine p_aload_n C rfl 3 rfl dL_law_1097 ?_
    refine p_aload_n C rfl 1 rfl dL_law_1098 ?_
    refine p_iload C 5 rfl dL_law_1099 ?_
    refine p_iconst (v := (nI 1)) C (by decide) dL_law_1101 ?_
    refine p_iadd C dL_law_1102 ?_
    refine p_int (y := (nI (i + 1))) (nI_add _ _) ?_
    refine p_sld (x := xs (i + 1)) C hX hbl hbA (vp_in_nI (by omega) (by omega)) (congrArg xs (nI_clamp (by omega))) dL_law_1103 ?_
    refine p_toM ?_
    refine c_Vl (As := [.int (xs (i + 1))]) (rest := []) C (m_X3_content l D k hn) 0 rfl rfl rfl qml_L_165 qim_X3_content qse_X3_X3_content qin_X3 qco_X3_content nd_X3_content ⟨Nat.le_of_ble_eq_true rfl, Nat.le_of_ble_eq_true rfl⟩ (Nat.le_of_ble_eq_true rfl) ⟨by (try simp only [rmL_c, rmL_s, room_c, room_s]); omega, by (try simp only [rmL_c, rmL_s, room_c, room_s]); omega⟩ rfl dL_law_1104 (fun r9 w9 h9 => ?_)
    obtain ⟨Wk8, Mo8, rfl, hvM⟩ := h9
    refine p_w (w9 := (MW k md (e1 n (xs (i + 1))) (nI n) Am Wk8 Mo8 v cp bt ml (nI cn) (KW k ad r (nI n) R T9 U9 tx9 sz9 [(oa, aL k 1 g9)]))) (by rw [heM]) ?_
    refine p_lstore (lv9 := [(6, .long r9), (5, .int (e1 n (xs (i + 1)))), (0, .ref b), (1, .ref (ad 0)), (2, .ref (md 0)), (3, .ref oa), (4, .int (nI i))]) C (by decide) rfl dL_law_1107 ?_
    refine p_aload_n C rfl 4 rfl dL_law_1109 ?_
    refine c_Vi (As := []) (rest := []) C (m_X3_thrown l D k ) 0 rfl rfl rfl qml_L_114 qim_X3_thrown qse_X3_X3_thrown qin_X3 qco_X3_thrown nd_X3_thrown ⟨Nat.le_of_ble_eq_true rfl, Nat.le_of_ble_eq_true rfl⟩ (Nat.le_of_ble_eq_true rfl) ⟨by (try simp only [rmL_c, rmL_s, room_c, room_s]); omega, by (try simp only [rmL_c, rmL_s, room_c, room_s]); omega⟩ rfl dL_law_1110 (fun r9 w9 h9 => ?_)
    obtain ⟨e9, rfl⟩ := h9
    refine p_int e9 ?_
    refine p_toK ?_
    refine p_iload C 1 rfl dL_law_1113 ?_
    refine p_icmp_eq C 1120 (by decide) dL_law_1115 (fun c_1115 => ?_) (fun c_1115 => absurd rfl c_1115)
    refine p_iload C 1 rfl dL_law_1120 ?_
    refine p_if_ne C 1136 (by decide) dL_law_1122 (fun c_1122 => ?_) (fun c_1122 => absurd c_1122 he)
    refine p_goto C 1932 (by decide) dL_law_1136 ?_
    refine p_lv (lv9 := [(0, .ref b), (1, .ref (ad 0)), (2, .ref (md 0)), (3, .ref oa), (4, .int (nI i))]) [2, 3, 4, 5, 6] rfl ?_
    exact hnext _ _ _ _ _ _ _ _ _ _ _ _ _ _ _ _ _ _ ⟨hn, hrel, hok, hft, hm⟩ (by (try simp only [rmL_c, rmL_s, room_c, room_s]); omega) (by (try simp only [rmL_c, rmL_s, room_c, room_s]); omega)
set_option maxHeartbeats 4000000 in
set_option maxRecDepth 100000 in
/-- the law at signChanges -/
theorem lc_signChanges {p : Program} {l : Launch} {e : Env} {s : State} {m : MethodId} {args : Array Value} {below : List Frame} {meth : Method} {c : Code} {D : va_G} {A : Nat → Prop} {k : Nat → ClassId} {Q : State → Prop} (C : Cx p s m args meth c cL_law 9 RL A D k) (hfl : l.stackTraces = false) {b L i oa n cp cn v c9 s9 : Nat} {xs : Nat → Int32} {ad r md : Nat → Nat} {R : Nat → Nat → Int32} {T U tx Am Wk Mo bt : Nat → Int32} {th sz ml : Int32} {g : Nat → Int64} (hX : va_X b L xs s s.heap) (hbl : b < s.heap.size) (hbA : ¬ A b) (hL : L ≤ 2048) (hi : i + 4 ≤ L) (hI : LI n R Am cp cn bt) (hc9 : c9 + 544 ≤ 601024) (hs9 : s9 + 6944 ≤ 7293034) (hnext : ∀ (n' cp' cn' v' c' s' : Nat) (R' : Nat → Nat → Int32) (T' U' tx' Am' Wk' Mo' bt' : Nat → Int32) (th' sz' ml' : Int32) (g' : Nat → Int64), LI n' R' Am' cp' cn' bt' → c' ≤ c9 + 544 → s' ≤ s9 + 6944 → WP p l e (room_1) s m args below meth c D A 9 (KW k ad r (nI n') R' T' U' tx' sz' ((oa, aL k 1 g') :: (MW k md th' (nI n') Am' Wk' Mo' v' cp' bt' ml' (nI cn') []))) [(0, .ref b), (1, .ref (ad 0)), (2, .ref (md 0)), (3, .ref oa), (4, .int (nI i))] c' s' Q 1932 []) : WP p l e (room_1) s m args below meth c D A 9 (KW k ad r (nI n) R T U tx sz ((oa, aL k 1 g) :: (MW k md th (nI n) Am Wk Mo v cp bt ml (nI cn) []))) [(0, .ref b), (1, .ref (ad 0)), (2, .ref (md 0)), (3, .ref oa), (4, .int (nI i))] c9 s9 Q 1139 [] := by
  obtain ⟨hn, hrel, hok, hft, hm⟩ := hI
  have hvv : e1 n (xs (i + 1)) = 0 → (nI (sc (R (ix (xs (i + 1)))))).toInt64 = (nI (sc (mrow Am (ix (xs (i + 1)))))).toInt64 := fun he => by
    have hrc := isR_ix hn (e1_t he)
    rw [hrel _ hrc]
  refine p_aload_n C rfl 1 rfl dL_law_1139 ?_
  refine p_aload_n C rfl 0 rfl dL_law_1140 ?_
  refine p_iload C 4 rfl dL_law_1141 ?_
  refine p_iconst (v := (nI 1)) C (by decide) dL_law_1143 ?_
  refine p_iadd C dL_law_1144 ?_
  refine p_int (y := (nI (i + 1))) (nI_add _ _) ?_
  refine p_sld (x := xs (i + 1)) C hX hbl hbA (vp_in_nI (by omega) (by omega)) (congrArg xs (nI_clamp (by omega))) dL_law_1145 ?_
  refine p_aload_n C rfl 3 rfl dL_law_1146 ?_
  refine c_Wi (As := [.ref (ad 0), .int (xs (i + 1)), .ref oa]) (rest := []) C (m_L_signChanges l D k hfl (hn := hn)) qml_L_166 qst_L_signChanges qin_L qco_L_signChanges nd_L_signChanges ⟨Nat.le_of_ble_eq_true rfl, Nat.le_of_ble_eq_true rfl⟩ (Nat.le_of_ble_eq_true rfl) ⟨by (try simp only [rmL_c, rmL_s, room_c, room_s]); omega, by (try simp only [rmL_c, rmL_s, room_c, room_s]); omega⟩ rfl dL_law_1147 (fun r9 w9 h9 => ?_)
  obtain ⟨e9, T9, U9, tx9, sz9, g9, rfl, hv9⟩ := h9
  refine p_int e9 ?_
  by_cases he : e1 n (xs (i + 1)) = 0
  · have heM : e1 n (xs (i + 1)) = e1 n (xs (i + 1)) := rfl
    have hrc := isR_ix hn (e1_t he)
    refine p_w (w9 := (KW k ad r (nI n) R T9 U9 tx9 sz9 ((oa, aL k 1 g9) :: (MW k md th (nI n) Am Wk Mo v cp bt ml (nI cn) [])))) (by rw [he, sel_0, sel_0]) ?_
    have hv := hv9 he
    refine p_int (y := 0) he ?_
    refine p_istore (lv9 := [(5, .int 0), (0, .ref b), (1, .ref (ad 0)), (2, .ref (md 0)), (3, .ref oa), (4, .int (nI i))]) C (by decide) rfl dL_law_1150 ?_
    refine p_aload_n C rfl 3 rfl dL_law_1152 ?_
    refine p_aload_n C rfl 1 rfl dL_law_1153 ?_
    refine p_iload C 5 rfl dL_law_1154 ?_
    refine p_iconst (v := (nI 1)) C (by decide) dL_law_1156 ?_
    refine p_iadd C dL_law_1157 ?_
    refine p_int (y := (nI (i + 1))) (nI_add _ _) ?_
    refine p_sld (x := xs (i + 1)) C hX hbl hbA (vp_in_nI (by omega) (by omega)) (congrArg xs (nI_clamp (by omega))) dL_law_1158 ?_
    refine p_toM ?_
    refine c_Vi (As := [.int (xs (i + 1))]) (rest := []) C (m_X3_signChanges l D k hn) 0 rfl rfl rfl qml_L_168 qim_X3_signChanges qse_X3_X3_signChanges qin_X3 qco_X3_signChanges nd_X3_signChanges ⟨Nat.le_of_ble_eq_true rfl, Nat.le_of_ble_eq_true rfl⟩ (Nat.le_of_ble_eq_true rfl) ⟨by (try simp only [rmL_c, rmL_s, room_c, room_s]); omega, by (try simp only [rmL_c, rmL_s, room_c, room_s]); omega⟩ rfl dL_law_1159 (fun r9 w9 h9 => ?_)
    obtain ⟨Wk8, Mo8, rfl, hvM⟩ := h9
    refine p_w (w9 := (MW k md 0 (nI n) Am Wk8 Mo8 v cp bt ml (nI cn) (KW k ad r (nI n) R T9 U9 tx9 sz9 [(oa, aL k 1 g9)]))) (by rw [heM.trans he]) ?_
    refine p_int (y := nI (sc (mrow Am (ix (xs (i + 1)))))) (hvM (heM.trans he)) ?_
    refine p_istore (lv9 := [(6, .int (nI (sc (mrow Am (ix (xs (i + 1))))))), (5, .int 0), (0, .ref b), (1, .ref (ad 0)), (2, .ref (md 0)), (3, .ref oa), (4, .int (nI i))]) C (by decide) rfl dL_law_1162 ?_
    refine p_aload_n C rfl 4 rfl dL_law_1164 ?_
    refine c_Vi (As := []) (rest := []) C (m_X3_thrown l D k ) 0 rfl rfl rfl qml_L_114 qim_X3_thrown qse_X3_X3_thrown qin_X3 qco_X3_thrown nd_X3_thrown ⟨Nat.le_of_ble_eq_true rfl, Nat.le_of_ble_eq_true rfl⟩ (Nat.le_of_ble_eq_true rfl) ⟨by (try simp only [rmL_c, rmL_s, room_c, room_s]); omega, by (try simp only [rmL_c, rmL_s, room_c, room_s]); omega⟩ rfl dL_law_1165 (fun r9 w9 h9 => ?_)
    obtain ⟨e9, rfl⟩ := h9
    refine p_int e9 ?_
    refine p_toK ?_
    refine p_iload C 1 rfl dL_law_1168 ?_
    refine p_icmp_eq C 1175 (by decide) dL_law_1170 (fun c_1170 => ?_) (fun c_1170 => absurd rfl c_1170)
    refine p_iload C 1 rfl dL_law_1175 ?_
    refine p_if_ne C 1192 (by decide) dL_law_1177 (fun c_1177 => absurd c_1177 (fun z9 => z9 rfl)) (fun c_1177 => ?_)
    refine p_aload_n C rfl 5 rfl dL_law_1180 ?_
    refine p_iconst (v := 0) C (by decide) dL_law_1181 ?_
    refine p_lald (v := (g9 0)) C 22 KW_y (vp_in_nI (n := 0) (N := 1) (by omega) (by omega)) (by rw [show (0 : Int32).toNatClampNeg = 0 from rfl]) dL_law_1182 ?_
    refine p_iload C 0 rfl dL_law_1183 ?_
    refine p_i2l C dL_law_1185 ?_
    refine p_lcmp C dL_law_1186 ?_
    refine p_if_eq C 1192 (by decide) dL_law_1187 (fun c_1187 => ?_) (fun c_1187 => absurd ((lg_cmp_eq _ _).mpr (hv.trans (hvv he))) c_1187)
    refine p_goto C 1932 (by decide) dL_law_1192 ?_
    refine p_lv (lv9 := [(0, .ref b), (1, .ref (ad 0)), (2, .ref (md 0)), (3, .ref oa), (4, .int (nI i))]) [2, 3, 4, 5, 6] rfl ?_
    exact hnext _ _ _ _ _ _ _ _ _ _ _ _ _ _ _ _ _ _ ⟨hn, hrel, hok, hft, hm⟩ (by (try simp only [rmL_c, rmL_s, room_c, room_s]); omega) (by (try simp only [rmL_c, rmL_s, room_c, room_s]); omega)
  · have heM : e1 n (xs (i + 1)) = e1 n (xs (i + 1)) := rfl
    refine p_w (w9 := (KW k ad r (nI n) R T9 U9 tx9 sz9 ((oa, aL k 1 g9) :: (MW k md th (nI n) Am Wk Mo v cp bt ml (nI cn) [])))) (by rw [sel_n he, sel_n he]) ?_
    refine p_istore (lv9 := [(5, .int (e1 n (xs (i + 1)))), (0, .ref b), (1, .ref (ad 0)), (2, .ref (md 0)), (3, .ref oa), (4, .int (nI i))]) C (by decide) rfl dL_law_1150 ?_
    refine p_aload_n C rfl 3 rfl dL_law_1152 ?_
    refine p_aload_n C rfl 1 rfl dL_law_1153 ?_
    refine p_iload C 5 rfl dL_law_1154 ?_
    refine p_iconst (v := (nI 1)) C (by decide) dL_law_1156 ?_
    refine p_iadd C dL_law_1157 ?_
    refine p_int (y := (nI (i + 1))) (nI_add _ _) ?_
    refine p_sld (x := xs (i + 1)) C hX hbl hbA (vp_in_nI (by omega) (by omega)) (congrArg xs (nI_clamp (by omega))) dL_law_1158 ?_
    refine p_toM ?_
    refine c_Vi (As := [.int (xs (i + 1))]) (rest := []) C (m_X3_signChanges l D k hn) 0 rfl rfl rfl qml_L_168 qim_X3_signChanges qse_X3_X3_signChanges qin_X3 qco_X3_signChanges nd_X3_signChanges ⟨Nat.le_of_ble_eq_true rfl, Nat.le_of_ble_eq_true rfl⟩ (Nat.le_of_ble_eq_true rfl) ⟨by (try simp only [rmL_c, rmL_s, room_c, room_s]); omega, by (try simp only [rmL_c, rmL_s, room_c, room_s]); omega⟩ rfl dL_law_1159 (fun r9 w9 h9 => ?_)
    obtain ⟨Wk8, Mo8, rfl, hvM⟩ := h9
    refine p_w (w9 := (MW k md (e1 n (xs (i + 1))) (nI n) Am Wk8 Mo8 v cp bt ml (nI cn) (KW k ad r (nI n) R T9 U9 tx9 sz9 [(oa, aL k 1 g9)]))) (by rw [heM]) ?_
    refine p_istore (lv9 := [(6, .int r9), (5, .int (e1 n (xs (i + 1)))), (0, .ref b), (1, .ref (ad 0)), (2, .ref (md 0)), (3, .ref oa), (4, .int (nI i))]) C (by decide) rfl dL_law_1162 ?_
    refine p_aload_n C rfl 4 rfl dL_law_1164 ?_
    refine c_Vi (As := []) (rest := []) C (m_X3_thrown l D k ) 0 rfl rfl rfl qml_L_114 qim_X3_thrown qse_X3_X3_thrown qin_X3 qco_X3_thrown nd_X3_thrown ⟨Nat.le_of_ble_eq_true rfl, Nat.le_of_ble_eq_true rfl⟩ (Nat.le_of_ble_eq_true rfl) ⟨by (try simp only [rmL_c, rmL_s, room_c, room_s]); omega, by (try simp only [rmL_c, rmL_s, room_c, room_s]); omega⟩ rfl dL_law_1165 (fun r9 w9 h9 => ?_)
    obtain ⟨e9, rfl⟩ := h9
    refine p_int e9 ?_
    refine p_toK ?_
    refine p_iload C 1 rfl dL_law_1168 ?_
    refine p_icmp_eq C 1175 (by decide) dL_law_1170 (fun c_1170 => ?_) (fun c_1170 => absurd rfl c_1170)
    refine p_iload C 1 rfl dL_law_1175 ?_
    refine p_if_ne C 1192 (by decide) dL_law_1177 (fun c_1177 => ?_) (fun c_1177 => absurd c_1177 he)
    refine p_goto C 1932 (by decide) dL_law_1192 ?_
    refine p_lv (lv9 := [(0, .ref b), (1, .ref (ad 0)), (2, .ref (md 0)), (3, .ref oa), (4, .int (nI i))]) [2, 3, 4, 5, 6] rfl ?_
    exact hnext _ _ _ _ _ _ _ _ _ _ _ _ _ _ _ _ _ _ ⟨hn, hrel, hok, hft, hm⟩ (by (try simp only [rmL_c, rmL_s, room_c, room_s]); omega) (by (try simp only [rmL_c, rmL_s, room_c, room_s]); omega)
set_option maxHeartbeats 4000000 in
set_option maxRecDepth 100000 in
/-- the law at hunger -/
theorem lc_hunger {p : Program} {l : Launch} {e : Env} {s : State} {m : MethodId} {args : Array Value} {below : List Frame} {meth : Method} {c : Code} {D : va_G} {A : Nat → Prop} {k : Nat → ClassId} {Q : State → Prop} (C : Cx p s m args meth c cL_law 9 RL A D k) (hfl : l.stackTraces = false) {b L i oa n cp cn v c9 s9 : Nat} {xs : Nat → Int32} {ad r md : Nat → Nat} {R : Nat → Nat → Int32} {T U tx Am Wk Mo bt : Nat → Int32} {th sz ml : Int32} {g : Nat → Int64} (hX : va_X b L xs s s.heap) (hbl : b < s.heap.size) (hbA : ¬ A b) (hL : L ≤ 2048) (hi : i + 4 ≤ L) (hI : LI n R Am cp cn bt) (hc9 : c9 + 544 ≤ 601024) (hs9 : s9 + 6944 ≤ 7293034) (hnext : ∀ (n' cp' cn' v' c' s' : Nat) (R' : Nat → Nat → Int32) (T' U' tx' Am' Wk' Mo' bt' : Nat → Int32) (th' sz' ml' : Int32) (g' : Nat → Int64), LI n' R' Am' cp' cn' bt' → c' ≤ c9 + 544 → s' ≤ s9 + 6944 → WP p l e (room_1) s m args below meth c D A 9 (KW k ad r (nI n') R' T' U' tx' sz' ((oa, aL k 1 g') :: (MW k md th' (nI n') Am' Wk' Mo' v' cp' bt' ml' (nI cn') []))) [(0, .ref b), (1, .ref (ad 0)), (2, .ref (md 0)), (3, .ref oa), (4, .int (nI i))] c' s' Q 1932 []) : WP p l e (room_1) s m args below meth c D A 9 (KW k ad r (nI n) R T U tx sz ((oa, aL k 1 g) :: (MW k md th (nI n) Am Wk Mo v cp bt ml (nI cn) []))) [(0, .ref b), (1, .ref (ad 0)), (2, .ref (md 0)), (3, .ref oa), (4, .int (nI i))] c9 s9 Q 1195 [] := by
  obtain ⟨hn, hrel, hok, hft, hm⟩ := hI
  have hvv : e1 n (xs (i + 1)) = 0 → (hg (R (ix (xs (i + 1)))) (xs (i + 2))).toInt64 = (hg (mrow Am (ix (xs (i + 1)))) (xs (i + 2))).toInt64 := fun he => by
    have hrc := isR_ix hn (e1_t he)
    rw [hrel _ hrc]
  refine p_aload_n C rfl 1 rfl dL_law_1195 ?_
  refine p_aload_n C rfl 0 rfl dL_law_1196 ?_
  refine p_iload C 4 rfl dL_law_1197 ?_
  refine p_iconst (v := (nI 1)) C (by decide) dL_law_1199 ?_
  refine p_iadd C dL_law_1200 ?_
  refine p_int (y := (nI (i + 1))) (nI_add _ _) ?_
  refine p_sld (x := xs (i + 1)) C hX hbl hbA (vp_in_nI (by omega) (by omega)) (congrArg xs (nI_clamp (by omega))) dL_law_1201 ?_
  refine p_aload_n C rfl 0 rfl dL_law_1202 ?_
  refine p_iload C 4 rfl dL_law_1203 ?_
  refine p_iconst (v := (nI 2)) C (by decide) dL_law_1205 ?_
  refine p_iadd C dL_law_1206 ?_
  refine p_int (y := (nI (i + 2))) (nI_add _ _) ?_
  refine p_sld (x := xs (i + 2)) C hX hbl hbA (vp_in_nI (by omega) (by omega)) (congrArg xs (nI_clamp (by omega))) dL_law_1207 ?_
  refine p_aload_n C rfl 3 rfl dL_law_1208 ?_
  refine c_Wi (As := [.ref (ad 0), .int (xs (i + 1)), .int (xs (i + 2)), .ref oa]) (rest := []) C (m_L_hunger l D k hfl (hn := hn)) qml_L_169 qst_L_hunger qin_L qco_L_hunger nd_L_hunger ⟨Nat.le_of_ble_eq_true rfl, Nat.le_of_ble_eq_true rfl⟩ (Nat.le_of_ble_eq_true rfl) ⟨by (try simp only [rmL_c, rmL_s, room_c, room_s]); omega, by (try simp only [rmL_c, rmL_s, room_c, room_s]); omega⟩ rfl dL_law_1209 (fun r9 w9 h9 => ?_)
  obtain ⟨e9, T9, U9, tx9, sz9, g9, rfl, hv9⟩ := h9
  refine p_int e9 ?_
  by_cases he : e1 n (xs (i + 1)) = 0
  · have heM : e1 n (xs (i + 1)) = e1 n (xs (i + 1)) := rfl
    have hrc := isR_ix hn (e1_t he)
    refine p_w (w9 := (KW k ad r (nI n) R T9 U9 tx9 sz9 ((oa, aL k 1 g9) :: (MW k md th (nI n) Am Wk Mo v cp bt ml (nI cn) [])))) (by rw [he, sel_0, sel_0]) ?_
    have hv := hv9 he
    refine p_int (y := 0) he ?_
    refine p_istore (lv9 := [(5, .int 0), (0, .ref b), (1, .ref (ad 0)), (2, .ref (md 0)), (3, .ref oa), (4, .int (nI i))]) C (by decide) rfl dL_law_1212 ?_
    refine p_aload_n C rfl 3 rfl dL_law_1214 ?_
    refine p_aload_n C rfl 1 rfl dL_law_1215 ?_
    refine p_iload C 5 rfl dL_law_1216 ?_
    refine p_iconst (v := (nI 1)) C (by decide) dL_law_1218 ?_
    refine p_iadd C dL_law_1219 ?_
    refine p_int (y := (nI (i + 1))) (nI_add _ _) ?_
    refine p_sld (x := xs (i + 1)) C hX hbl hbA (vp_in_nI (by omega) (by omega)) (congrArg xs (nI_clamp (by omega))) dL_law_1220 ?_
    refine p_aload_n C rfl 1 rfl dL_law_1221 ?_
    refine p_iload C 5 rfl dL_law_1222 ?_
    refine p_iconst (v := (nI 2)) C (by decide) dL_law_1224 ?_
    refine p_iadd C dL_law_1225 ?_
    refine p_int (y := (nI (i + 2))) (nI_add _ _) ?_
    refine p_sld (x := xs (i + 2)) C hX hbl hbA (vp_in_nI (by omega) (by omega)) (congrArg xs (nI_clamp (by omega))) dL_law_1226 ?_
    refine p_toM ?_
    refine c_Vi (As := [.int (xs (i + 1)), .int (xs (i + 2))]) (rest := []) C (m_X3_hunger l D k hn) 0 rfl rfl rfl qml_L_171 qim_X3_hunger qse_X3_X3_hunger qin_X3 qco_X3_hunger nd_X3_hunger ⟨Nat.le_of_ble_eq_true rfl, Nat.le_of_ble_eq_true rfl⟩ (Nat.le_of_ble_eq_true rfl) ⟨by (try simp only [rmL_c, rmL_s, room_c, room_s]); omega, by (try simp only [rmL_c, rmL_s, room_c, room_s]); omega⟩ rfl dL_law_1227 (fun r9 w9 h9 => ?_)
    obtain ⟨Wk8, Mo8, rfl, hvM⟩ := h9
    refine p_w (w9 := (MW k md 0 (nI n) Am Wk8 Mo8 v cp bt ml (nI cn) (KW k ad r (nI n) R T9 U9 tx9 sz9 [(oa, aL k 1 g9)]))) (by rw [heM.trans he]) ?_
    refine p_int (y := hg (mrow Am (ix (xs (i + 1)))) (xs (i + 2))) (hvM (heM.trans he)) ?_
    refine p_istore (lv9 := [(6, .int (hg (mrow Am (ix (xs (i + 1)))) (xs (i + 2)))), (5, .int 0), (0, .ref b), (1, .ref (ad 0)), (2, .ref (md 0)), (3, .ref oa), (4, .int (nI i))]) C (by decide) rfl dL_law_1230 ?_
    refine p_aload_n C rfl 4 rfl dL_law_1232 ?_
    refine c_Vi (As := []) (rest := []) C (m_X3_thrown l D k ) 0 rfl rfl rfl qml_L_114 qim_X3_thrown qse_X3_X3_thrown qin_X3 qco_X3_thrown nd_X3_thrown ⟨Nat.le_of_ble_eq_true rfl, Nat.le_of_ble_eq_true rfl⟩ (Nat.le_of_ble_eq_true rfl) ⟨by (try simp only [rmL_c, rmL_s, room_c, room_s]); omega, by (try simp only [rmL_c, rmL_s, room_c, room_s]); omega⟩ rfl dL_law_1233 (fun r9 w9 h9 => ?_)
    obtain ⟨e9, rfl⟩ := h9
    refine p_int e9 ?_
    refine p_toK ?_
    refine p_iload C 1 rfl dL_law_1236 ?_
    refine p_icmp_eq C 1243 (by decide) dL_law_1238 (fun c_1238 => ?_) (fun c_1238 => absurd rfl c_1238)
    refine p_iload C 1 rfl dL_law_1243 ?_
    refine p_if_ne C 1260 (by decide) dL_law_1245 (fun c_1245 => absurd c_1245 (fun z9 => z9 rfl)) (fun c_1245 => ?_)
    refine p_aload_n C rfl 5 rfl dL_law_1248 ?_
    refine p_iconst (v := 0) C (by decide) dL_law_1249 ?_
    refine p_lald (v := (g9 0)) C 22 KW_y (vp_in_nI (n := 0) (N := 1) (by omega) (by omega)) (by rw [show (0 : Int32).toNatClampNeg = 0 from rfl]) dL_law_1250 ?_
    refine p_iload C 0 rfl dL_law_1251 ?_
    refine p_i2l C dL_law_1253 ?_
    refine p_lcmp C dL_law_1254 ?_
    refine p_if_eq C 1260 (by decide) dL_law_1255 (fun c_1255 => ?_) (fun c_1255 => absurd ((lg_cmp_eq _ _).mpr (hv.trans (hvv he))) c_1255)
    refine p_goto C 1932 (by decide) dL_law_1260 ?_
    refine p_lv (lv9 := [(0, .ref b), (1, .ref (ad 0)), (2, .ref (md 0)), (3, .ref oa), (4, .int (nI i))]) [2, 3, 4, 5, 6] rfl ?_
    exact hnext _ _ _ _ _ _ _ _ _ _ _ _ _ _ _ _ _ _ ⟨hn, hrel, hok, hft, hm⟩ (by (try simp only [rmL_c, rmL_s, room_c, room_s]); omega) (by (try simp only [rmL_c, rmL_s, room_c, room_s]); omega)
  · have heM : e1 n (xs (i + 1)) = e1 n (xs (i + 1)) := rfl
    refine p_w (w9 := (KW k ad r (nI n) R T9 U9 tx9 sz9 ((oa, aL k 1 g9) :: (MW k md th (nI n) Am Wk Mo v cp bt ml (nI cn) [])))) (by rw [sel_n he, sel_n he]) ?_
    refine p_istore (lv9 := [(5, .int (e1 n (xs (i + 1)))), (0, .ref b), (1, .ref (ad 0)), (2, .ref (md 0)), (3, .ref oa), (4, .int (nI i))]) C (by decide) rfl dL_law_1212 ?_
    refine p_aload_n C rfl 3 rfl dL_law_1214 ?_
    refine p_aload_n C rfl 1 rfl dL_law_1215 ?_
    refine p_iload C 5 rfl dL_law_1216 ?_
    refine p_iconst (v := (nI 1)) C (by decide) dL_law_1218 ?_
    refine p_iadd C dL_law_1219 ?_
    refine p_int (y := (nI (i + 1))) (nI_add _ _) ?_
    refine p_sld (x := xs (i + 1)) C hX hbl hbA (vp_in_nI (by omega) (by omega)) (congrArg xs (nI_clamp (by omega))) dL_law_1220 ?_
    refine p_aload_n C rfl 1 rfl dL_law_1221 ?_
    refine p_iload C 5 rfl dL_law_1222 ?_
    refine p_iconst (v := (nI 2)) C (by decide) dL_law_1224 ?_
    refine p_iadd C dL_law_1225 ?_
    refine p_int (y := (nI (i + 2))) (nI_add _ _) ?_
    refine p_sld (x := xs (i + 2)) C hX hbl hbA (vp_in_nI (by omega) (by omega)) (congrArg xs (nI_clamp (by omega))) dL_law_1226 ?_
    refine p_toM ?_
    refine c_Vi (As := [.int (xs (i + 1)), .int (xs (i + 2))]) (rest := []) C (m_X3_hunger l D k hn) 0 rfl rfl rfl qml_L_171 qim_X3_hunger qse_X3_X3_hunger qin_X3 qco_X3_hunger nd_X3_hunger ⟨Nat.le_of_ble_eq_true rfl, Nat.le_of_ble_eq_true rfl⟩ (Nat.le_of_ble_eq_true rfl) ⟨by (try simp only [rmL_c, rmL_s, room_c, room_s]); omega, by (try simp only [rmL_c, rmL_s, room_c, room_s]); omega⟩ rfl dL_law_1227 (fun r9 w9 h9 => ?_)
    obtain ⟨Wk8, Mo8, rfl, hvM⟩ := h9
    refine p_w (w9 := (MW k md (e1 n (xs (i + 1))) (nI n) Am Wk8 Mo8 v cp bt ml (nI cn) (KW k ad r (nI n) R T9 U9 tx9 sz9 [(oa, aL k 1 g9)]))) (by rw [heM]) ?_
    refine p_istore (lv9 := [(6, .int r9), (5, .int (e1 n (xs (i + 1)))), (0, .ref b), (1, .ref (ad 0)), (2, .ref (md 0)), (3, .ref oa), (4, .int (nI i))]) C (by decide) rfl dL_law_1230 ?_
    refine p_aload_n C rfl 4 rfl dL_law_1232 ?_
    refine c_Vi (As := []) (rest := []) C (m_X3_thrown l D k ) 0 rfl rfl rfl qml_L_114 qim_X3_thrown qse_X3_X3_thrown qin_X3 qco_X3_thrown nd_X3_thrown ⟨Nat.le_of_ble_eq_true rfl, Nat.le_of_ble_eq_true rfl⟩ (Nat.le_of_ble_eq_true rfl) ⟨by (try simp only [rmL_c, rmL_s, room_c, room_s]); omega, by (try simp only [rmL_c, rmL_s, room_c, room_s]); omega⟩ rfl dL_law_1233 (fun r9 w9 h9 => ?_)
    obtain ⟨e9, rfl⟩ := h9
    refine p_int e9 ?_
    refine p_toK ?_
    refine p_iload C 1 rfl dL_law_1236 ?_
    refine p_icmp_eq C 1243 (by decide) dL_law_1238 (fun c_1238 => ?_) (fun c_1238 => absurd rfl c_1238)
    refine p_iload C 1 rfl dL_law_1243 ?_
    refine p_if_ne C 1260 (by decide) dL_law_1245 (fun c_1245 => ?_) (fun c_1245 => absurd c_1245 he)
    refine p_goto C 1932 (by decide) dL_law_1260 ?_
    refine p_lv (lv9 := [(0, .ref b), (1, .ref (ad 0)), (2, .ref (md 0)), (3, .ref oa), (4, .int (nI i))]) [2, 3, 4, 5, 6] rfl ?_
    exact hnext _ _ _ _ _ _ _ _ _ _ _ _ _ _ _ _ _ _ ⟨hn, hrel, hok, hft, hm⟩ (by (try simp only [rmL_c, rmL_s, room_c, room_s]); omega) (by (try simp only [rmL_c, rmL_s, room_c, room_s]); omega)
set_option maxHeartbeats 4000000 in
set_option maxRecDepth 100000 in
/-- the law at idleGuests -/
theorem lc_idleGuests {p : Program} {l : Launch} {e : Env} {s : State} {m : MethodId} {args : Array Value} {below : List Frame} {meth : Method} {c : Code} {D : va_G} {A : Nat → Prop} {k : Nat → ClassId} {Q : State → Prop} (C : Cx p s m args meth c cL_law 9 RL A D k) (hfl : l.stackTraces = false) {b L i oa n cp cn v c9 s9 : Nat} {xs : Nat → Int32} {ad r md : Nat → Nat} {R : Nat → Nat → Int32} {T U tx Am Wk Mo bt : Nat → Int32} {th sz ml : Int32} {g : Nat → Int64} (hX : va_X b L xs s s.heap) (hbl : b < s.heap.size) (hbA : ¬ A b) (hL : L ≤ 2048) (hi : i + 4 ≤ L) (hI : LI n R Am cp cn bt) (hc9 : c9 + 544 ≤ 601024) (hs9 : s9 + 6944 ≤ 7293034) (hnext : ∀ (n' cp' cn' v' c' s' : Nat) (R' : Nat → Nat → Int32) (T' U' tx' Am' Wk' Mo' bt' : Nat → Int32) (th' sz' ml' : Int32) (g' : Nat → Int64), LI n' R' Am' cp' cn' bt' → c' ≤ c9 + 544 → s' ≤ s9 + 6944 → WP p l e (room_1) s m args below meth c D A 9 (KW k ad r (nI n') R' T' U' tx' sz' ((oa, aL k 1 g') :: (MW k md th' (nI n') Am' Wk' Mo' v' cp' bt' ml' (nI cn') []))) [(0, .ref b), (1, .ref (ad 0)), (2, .ref (md 0)), (3, .ref oa), (4, .int (nI i))] c' s' Q 1932 []) : WP p l e (room_1) s m args below meth c D A 9 (KW k ad r (nI n) R T U tx sz ((oa, aL k 1 g) :: (MW k md th (nI n) Am Wk Mo v cp bt ml (nI cn) []))) [(0, .ref b), (1, .ref (ad 0)), (2, .ref (md 0)), (3, .ref oa), (4, .int (nI i))] c9 s9 Q 1263 [] := by
  obtain ⟨hn, hrel, hok, hft, hm⟩ := hI
  have hvv : e1 n (xs (i + 1)) = 0 → (nI (idl (R (ix (xs (i + 1)))))).toInt64 = (nI (idl (mrow Am (ix (xs (i + 1)))))).toInt64 := fun he => by
    have hrc := isR_ix hn (e1_t he)
    rw [hrel _ hrc]
  refine p_aload_n C rfl 1 rfl dL_law_1263 ?_
  refine p_aload_n C rfl 0 rfl dL_law_1264 ?_
  refine p_iload C 4 rfl dL_law_1265 ?_
  refine p_iconst (v := (nI 1)) C (by decide) dL_law_1267 ?_
  refine p_iadd C dL_law_1268 ?_
  refine p_int (y := (nI (i + 1))) (nI_add _ _) ?_
  refine p_sld (x := xs (i + 1)) C hX hbl hbA (vp_in_nI (by omega) (by omega)) (congrArg xs (nI_clamp (by omega))) dL_law_1269 ?_
  refine p_aload_n C rfl 3 rfl dL_law_1270 ?_
  refine c_Wi (As := [.ref (ad 0), .int (xs (i + 1)), .ref oa]) (rest := []) C (m_L_idleGuests l D k hfl (hn := hn)) qml_L_172 qst_L_idleGuests qin_L qco_L_idleGuests nd_L_idleGuests ⟨Nat.le_of_ble_eq_true rfl, Nat.le_of_ble_eq_true rfl⟩ (Nat.le_of_ble_eq_true rfl) ⟨by (try simp only [rmL_c, rmL_s, room_c, room_s]); omega, by (try simp only [rmL_c, rmL_s, room_c, room_s]); omega⟩ rfl dL_law_1271 (fun r9 w9 h9 => ?_)
  obtain ⟨e9, T9, U9, tx9, sz9, g9, rfl, hv9⟩ := h9
  refine p_int e9 ?_
  by_cases he : e1 n (xs (i + 1)) = 0
  · have heM : e1 n (xs (i + 1)) = e1 n (xs (i + 1)) := rfl
    have hrc := isR_ix hn (e1_t he)
    refine p_w (w9 := (KW k ad r (nI n) R T9 U9 tx9 sz9 ((oa, aL k 1 g9) :: (MW k md th (nI n) Am Wk Mo v cp bt ml (nI cn) [])))) (by rw [he, sel_0, sel_0]) ?_
    have hv := hv9 he
    refine p_int (y := 0) he ?_
    refine p_istore (lv9 := [(5, .int 0), (0, .ref b), (1, .ref (ad 0)), (2, .ref (md 0)), (3, .ref oa), (4, .int (nI i))]) C (by decide) rfl dL_law_1274 ?_
    refine p_aload_n C rfl 3 rfl dL_law_1276 ?_
    refine p_aload_n C rfl 1 rfl dL_law_1277 ?_
    refine p_iload C 5 rfl dL_law_1278 ?_
    refine p_iconst (v := (nI 1)) C (by decide) dL_law_1280 ?_
    refine p_iadd C dL_law_1281 ?_
    refine p_int (y := (nI (i + 1))) (nI_add _ _) ?_
    refine p_sld (x := xs (i + 1)) C hX hbl hbA (vp_in_nI (by omega) (by omega)) (congrArg xs (nI_clamp (by omega))) dL_law_1282 ?_
    refine p_toM ?_
    refine c_Vi (As := [.int (xs (i + 1))]) (rest := []) C (m_X3_idleGuests l D k hn) 0 rfl rfl rfl qml_L_174 qim_X3_idleGuests qse_X3_X3_idleGuests qin_X3 qco_X3_idleGuests nd_X3_idleGuests ⟨Nat.le_of_ble_eq_true rfl, Nat.le_of_ble_eq_true rfl⟩ (Nat.le_of_ble_eq_true rfl) ⟨by (try simp only [rmL_c, rmL_s, room_c, room_s]); omega, by (try simp only [rmL_c, rmL_s, room_c, room_s]); omega⟩ rfl dL_law_1283 (fun r9 w9 h9 => ?_)
    obtain ⟨Wk8, Mo8, rfl, hvM⟩ := h9
    refine p_w (w9 := (MW k md 0 (nI n) Am Wk8 Mo8 v cp bt ml (nI cn) (KW k ad r (nI n) R T9 U9 tx9 sz9 [(oa, aL k 1 g9)]))) (by rw [heM.trans he]) ?_
    refine p_int (y := nI (idl (mrow Am (ix (xs (i + 1)))))) (hvM (heM.trans he)) ?_
    refine p_istore (lv9 := [(6, .int (nI (idl (mrow Am (ix (xs (i + 1))))))), (5, .int 0), (0, .ref b), (1, .ref (ad 0)), (2, .ref (md 0)), (3, .ref oa), (4, .int (nI i))]) C (by decide) rfl dL_law_1286 ?_
    refine p_aload_n C rfl 4 rfl dL_law_1288 ?_
    refine c_Vi (As := []) (rest := []) C (m_X3_thrown l D k ) 0 rfl rfl rfl qml_L_114 qim_X3_thrown qse_X3_X3_thrown qin_X3 qco_X3_thrown nd_X3_thrown ⟨Nat.le_of_ble_eq_true rfl, Nat.le_of_ble_eq_true rfl⟩ (Nat.le_of_ble_eq_true rfl) ⟨by (try simp only [rmL_c, rmL_s, room_c, room_s]); omega, by (try simp only [rmL_c, rmL_s, room_c, room_s]); omega⟩ rfl dL_law_1289 (fun r9 w9 h9 => ?_)
    obtain ⟨e9, rfl⟩ := h9
    refine p_int e9 ?_
    refine p_toK ?_
    refine p_iload C 1 rfl dL_law_1292 ?_
    refine p_icmp_eq C 1299 (by decide) dL_law_1294 (fun c_1294 => ?_) (fun c_1294 => absurd rfl c_1294)
    refine p_iload C 1 rfl dL_law_1299 ?_
    refine p_if_ne C 1316 (by decide) dL_law_1301 (fun c_1301 => absurd c_1301 (fun z9 => z9 rfl)) (fun c_1301 => ?_)
    refine p_aload_n C rfl 5 rfl dL_law_1304 ?_
    refine p_iconst (v := 0) C (by decide) dL_law_1305 ?_
    refine p_lald (v := (g9 0)) C 22 KW_y (vp_in_nI (n := 0) (N := 1) (by omega) (by omega)) (by rw [show (0 : Int32).toNatClampNeg = 0 from rfl]) dL_law_1306 ?_
    refine p_iload C 0 rfl dL_law_1307 ?_
    refine p_i2l C dL_law_1309 ?_
    refine p_lcmp C dL_law_1310 ?_
    refine p_if_eq C 1316 (by decide) dL_law_1311 (fun c_1311 => ?_) (fun c_1311 => absurd ((lg_cmp_eq _ _).mpr (hv.trans (hvv he))) c_1311)
    refine p_goto C 1932 (by decide) dL_law_1316 ?_
    refine p_lv (lv9 := [(0, .ref b), (1, .ref (ad 0)), (2, .ref (md 0)), (3, .ref oa), (4, .int (nI i))]) [2, 3, 4, 5, 6] rfl ?_
    exact hnext _ _ _ _ _ _ _ _ _ _ _ _ _ _ _ _ _ _ ⟨hn, hrel, hok, hft, hm⟩ (by (try simp only [rmL_c, rmL_s, room_c, room_s]); omega) (by (try simp only [rmL_c, rmL_s, room_c, room_s]); omega)
  · have heM : e1 n (xs (i + 1)) = e1 n (xs (i + 1)) := rfl
    refine p_w (w9 := (KW k ad r (nI n) R T9 U9 tx9 sz9 ((oa, aL k 1 g9) :: (MW k md th (nI n) Am Wk Mo v cp bt ml (nI cn) [])))) (by rw [sel_n he, sel_n he]) ?_
    refine p_istore (lv9 := [(5, .int (e1 n (xs (i + 1)))), (0, .ref b), (1, .ref (ad 0)), (2, .ref (md 0)), (3, .ref oa), (4, .int (nI i))]) C (by decide) rfl dL_law_1274 ?_
    refine p_aload_n C rfl 3 rfl dL_law_1276 ?_
    refine p_aload_n C rfl 1 rfl dL_law_1277 ?_
    refine p_iload C 5 rfl dL_law_1278 ?_
    refine p_iconst (v := (nI 1)) C (by decide) dL_law_1280 ?_
    refine p_iadd C dL_law_1281 ?_
    refine p_int (y := (nI (i + 1))) (nI_add _ _) ?_
    refine p_sld (x := xs (i + 1)) C hX hbl hbA (vp_in_nI (by omega) (by omega)) (congrArg xs (nI_clamp (by omega))) dL_law_1282 ?_
    refine p_toM ?_
    refine c_Vi (As := [.int (xs (i + 1))]) (rest := []) C (m_X3_idleGuests l D k hn) 0 rfl rfl rfl qml_L_174 qim_X3_idleGuests qse_X3_X3_idleGuests qin_X3 qco_X3_idleGuests nd_X3_idleGuests ⟨Nat.le_of_ble_eq_true rfl, Nat.le_of_ble_eq_true rfl⟩ (Nat.le_of_ble_eq_true rfl) ⟨by (try simp only [rmL_c, rmL_s, room_c, room_s]); omega, by (try simp only [rmL_c, rmL_s, room_c, room_s]); omega⟩ rfl dL_law_1283 (fun r9 w9 h9 => ?_)
    obtain ⟨Wk8, Mo8, rfl, hvM⟩ := h9
    refine p_w (w9 := (MW k md (e1 n (xs (i + 1))) (nI n) Am Wk8 Mo8 v cp bt ml (nI cn) (KW k ad r (nI n) R T9 U9 tx9 sz9 [(oa, aL k 1 g9)]))) (by rw [heM]) ?_
    refine p_istore (lv9 := [(6, .int r9), (5, .int (e1 n (xs (i + 1)))), (0, .ref b), (1, .ref (ad 0)), (2, .ref (md 0)), (3, .ref oa), (4, .int (nI i))]) C (by decide) rfl dL_law_1286 ?_
    refine p_aload_n C rfl 4 rfl dL_law_1288 ?_
    refine c_Vi (As := []) (rest := []) C (m_X3_thrown l D k ) 0 rfl rfl rfl qml_L_114 qim_X3_thrown qse_X3_X3_thrown qin_X3 qco_X3_thrown nd_X3_thrown ⟨Nat.le_of_ble_eq_true rfl, Nat.le_of_ble_eq_true rfl⟩ (Nat.le_of_ble_eq_true rfl) ⟨by (try simp only [rmL_c, rmL_s, room_c, room_s]); omega, by (try simp only [rmL_c, rmL_s, room_c, room_s]); omega⟩ rfl dL_law_1289 (fun r9 w9 h9 => ?_)
    obtain ⟨e9, rfl⟩ := h9
    refine p_int e9 ?_
    refine p_toK ?_
    refine p_iload C 1 rfl dL_law_1292 ?_
    refine p_icmp_eq C 1299 (by decide) dL_law_1294 (fun c_1294 => ?_) (fun c_1294 => absurd rfl c_1294)
    refine p_iload C 1 rfl dL_law_1299 ?_
    refine p_if_ne C 1316 (by decide) dL_law_1301 (fun c_1301 => ?_) (fun c_1301 => absurd c_1301 he)
    refine p_goto C 1932 (by decide) dL_law_1316 ?_
    refine p_lv (lv9 := [(0, .ref b), (1, .ref (ad 0)), (2, .ref (md 0)), (3, .ref oa), (4, .int (nI i))]) [2, 3, 4, 5, 6] rfl ?_
    exact hnext _ _ _ _ _ _ _ _ _ _ _ _ _ _ _ _ _ _ ⟨hn, hrel, hok, hft, hm⟩ (by (try simp only [rmL_c, rmL_s, room_c, room_s]); omega) (by (try simp only [rmL_c, rmL_s, room_c, room_s]); omega)
set_option maxHeartbeats 4000000 in
set_option maxRecDepth 100000 in
/-- the law at firstIdle -/
theorem lc_firstIdle {p : Program} {l : Launch} {e : Env} {s : State} {m : MethodId} {args : Array Value} {below : List Frame} {meth : Method} {c : Code} {D : va_G} {A : Nat → Prop} {k : Nat → ClassId} {Q : State → Prop} (C : Cx p s m args meth c cL_law 9 RL A D k) (hfl : l.stackTraces = false) {b L i oa n cp cn v c9 s9 : Nat} {xs : Nat → Int32} {ad r md : Nat → Nat} {R : Nat → Nat → Int32} {T U tx Am Wk Mo bt : Nat → Int32} {th sz ml : Int32} {g : Nat → Int64} (hX : va_X b L xs s s.heap) (hbl : b < s.heap.size) (hbA : ¬ A b) (hL : L ≤ 2048) (hi : i + 4 ≤ L) (hI : LI n R Am cp cn bt) (hc9 : c9 + 544 ≤ 601024) (hs9 : s9 + 6944 ≤ 7293034) (hnext : ∀ (n' cp' cn' v' c' s' : Nat) (R' : Nat → Nat → Int32) (T' U' tx' Am' Wk' Mo' bt' : Nat → Int32) (th' sz' ml' : Int32) (g' : Nat → Int64), LI n' R' Am' cp' cn' bt' → c' ≤ c9 + 544 → s' ≤ s9 + 6944 → WP p l e (room_1) s m args below meth c D A 9 (KW k ad r (nI n') R' T' U' tx' sz' ((oa, aL k 1 g') :: (MW k md th' (nI n') Am' Wk' Mo' v' cp' bt' ml' (nI cn') []))) [(0, .ref b), (1, .ref (ad 0)), (2, .ref (md 0)), (3, .ref oa), (4, .int (nI i))] c' s' Q 1932 []) : WP p l e (room_1) s m args below meth c D A 9 (KW k ad r (nI n) R T U tx sz ((oa, aL k 1 g) :: (MW k md th (nI n) Am Wk Mo v cp bt ml (nI cn) []))) [(0, .ref b), (1, .ref (ad 0)), (2, .ref (md 0)), (3, .ref oa), (4, .int (nI i))] c9 s9 Q 1319 [] := by
  obtain ⟨hn, hrel, hok, hft, hm⟩ := hI
  have hvv : e1 n (xs (i + 1)) = 0 → (fi (R (ix (xs (i + 1))))).toInt64 = (fi (mrow Am (ix (xs (i + 1))))).toInt64 := fun he => by
    have hrc := isR_ix hn (e1_t he)
    rw [hrel _ hrc]
  refine p_aload_n C rfl 1 rfl dL_law_1319 ?_
  refine p_aload_n C rfl 0 rfl dL_law_1320 ?_
  refine p_iload C 4 rfl dL_law_1321 ?_
  refine p_iconst (v := (nI 1)) C (by decide) dL_law_1323 ?_
  refine p_iadd C dL_law_1324 ?_
  refine p_int (y := (nI (i + 1))) (nI_add _ _) ?_
  refine p_sld (x := xs (i + 1)) C hX hbl hbA (vp_in_nI (by omega) (by omega)) (congrArg xs (nI_clamp (by omega))) dL_law_1325 ?_
  refine p_aload_n C rfl 3 rfl dL_law_1326 ?_
  refine c_Wi (As := [.ref (ad 0), .int (xs (i + 1)), .ref oa]) (rest := []) C (m_L_firstIdle l D k hfl (hn := hn)) qml_L_175 qst_L_firstIdle qin_L qco_L_firstIdle nd_L_firstIdle ⟨Nat.le_of_ble_eq_true rfl, Nat.le_of_ble_eq_true rfl⟩ (Nat.le_of_ble_eq_true rfl) ⟨by (try simp only [rmL_c, rmL_s, room_c, room_s]); omega, by (try simp only [rmL_c, rmL_s, room_c, room_s]); omega⟩ rfl dL_law_1327 (fun r9 w9 h9 => ?_)
  obtain ⟨e9, T9, U9, tx9, sz9, g9, rfl, hv9⟩ := h9
  refine p_int e9 ?_
  by_cases he : e1 n (xs (i + 1)) = 0
  · have heM : e1 n (xs (i + 1)) = e1 n (xs (i + 1)) := rfl
    have hrc := isR_ix hn (e1_t he)
    refine p_w (w9 := (KW k ad r (nI n) R T9 U9 tx9 sz9 ((oa, aL k 1 g9) :: (MW k md th (nI n) Am Wk Mo v cp bt ml (nI cn) [])))) (by rw [he, sel_0, sel_0]) ?_
    have hv := hv9 he
    refine p_int (y := 0) he ?_
    refine p_istore (lv9 := [(5, .int 0), (0, .ref b), (1, .ref (ad 0)), (2, .ref (md 0)), (3, .ref oa), (4, .int (nI i))]) C (by decide) rfl dL_law_1330 ?_
    refine p_aload_n C rfl 3 rfl dL_law_1332 ?_
    refine p_aload_n C rfl 1 rfl dL_law_1333 ?_
    refine p_iload C 5 rfl dL_law_1334 ?_
    refine p_iconst (v := (nI 1)) C (by decide) dL_law_1336 ?_
    refine p_iadd C dL_law_1337 ?_
    refine p_int (y := (nI (i + 1))) (nI_add _ _) ?_
    refine p_sld (x := xs (i + 1)) C hX hbl hbA (vp_in_nI (by omega) (by omega)) (congrArg xs (nI_clamp (by omega))) dL_law_1338 ?_
    refine p_toM ?_
    refine c_Vi (As := [.int (xs (i + 1))]) (rest := []) C (m_X3_firstIdle l D k hn) 0 rfl rfl rfl qml_L_177 qim_X3_firstIdle qse_X3_X3_firstIdle qin_X3 qco_X3_firstIdle nd_X3_firstIdle ⟨Nat.le_of_ble_eq_true rfl, Nat.le_of_ble_eq_true rfl⟩ (Nat.le_of_ble_eq_true rfl) ⟨by (try simp only [rmL_c, rmL_s, room_c, room_s]); omega, by (try simp only [rmL_c, rmL_s, room_c, room_s]); omega⟩ rfl dL_law_1339 (fun r9 w9 h9 => ?_)
    obtain ⟨Wk8, Mo8, rfl, hvM⟩ := h9
    refine p_w (w9 := (MW k md 0 (nI n) Am Wk8 Mo8 v cp bt ml (nI cn) (KW k ad r (nI n) R T9 U9 tx9 sz9 [(oa, aL k 1 g9)]))) (by rw [heM.trans he]) ?_
    refine p_int (y := fi (mrow Am (ix (xs (i + 1))))) (hvM (heM.trans he)) ?_
    refine p_istore (lv9 := [(6, .int (fi (mrow Am (ix (xs (i + 1)))))), (5, .int 0), (0, .ref b), (1, .ref (ad 0)), (2, .ref (md 0)), (3, .ref oa), (4, .int (nI i))]) C (by decide) rfl dL_law_1342 ?_
    refine p_aload_n C rfl 4 rfl dL_law_1344 ?_
    refine c_Vi (As := []) (rest := []) C (m_X3_thrown l D k ) 0 rfl rfl rfl qml_L_114 qim_X3_thrown qse_X3_X3_thrown qin_X3 qco_X3_thrown nd_X3_thrown ⟨Nat.le_of_ble_eq_true rfl, Nat.le_of_ble_eq_true rfl⟩ (Nat.le_of_ble_eq_true rfl) ⟨by (try simp only [rmL_c, rmL_s, room_c, room_s]); omega, by (try simp only [rmL_c, rmL_s, room_c, room_s]); omega⟩ rfl dL_law_1345 (fun r9 w9 h9 => ?_)
    obtain ⟨e9, rfl⟩ := h9
    refine p_int e9 ?_
    refine p_toK ?_
    refine p_iload C 1 rfl dL_law_1348 ?_
    refine p_icmp_eq C 1355 (by decide) dL_law_1350 (fun c_1350 => ?_) (fun c_1350 => absurd rfl c_1350)
    refine p_iload C 1 rfl dL_law_1355 ?_
    refine p_if_ne C 1372 (by decide) dL_law_1357 (fun c_1357 => absurd c_1357 (fun z9 => z9 rfl)) (fun c_1357 => ?_)
    refine p_aload_n C rfl 5 rfl dL_law_1360 ?_
    refine p_iconst (v := 0) C (by decide) dL_law_1361 ?_
    refine p_lald (v := (g9 0)) C 22 KW_y (vp_in_nI (n := 0) (N := 1) (by omega) (by omega)) (by rw [show (0 : Int32).toNatClampNeg = 0 from rfl]) dL_law_1362 ?_
    refine p_iload C 0 rfl dL_law_1363 ?_
    refine p_i2l C dL_law_1365 ?_
    refine p_lcmp C dL_law_1366 ?_
    refine p_if_eq C 1372 (by decide) dL_law_1367 (fun c_1367 => ?_) (fun c_1367 => absurd ((lg_cmp_eq _ _).mpr (hv.trans (hvv he))) c_1367)
    refine p_goto C 1932 (by decide) dL_law_1372 ?_
    refine p_lv (lv9 := [(0, .ref b), (1, .ref (ad 0)), (2, .ref (md 0)), (3, .ref oa), (4, .int (nI i))]) [2, 3, 4, 5, 6] rfl ?_
    exact hnext _ _ _ _ _ _ _ _ _ _ _ _ _ _ _ _ _ _ ⟨hn, hrel, hok, hft, hm⟩ (by (try simp only [rmL_c, rmL_s, room_c, room_s]); omega) (by (try simp only [rmL_c, rmL_s, room_c, room_s]); omega)
  · have heM : e1 n (xs (i + 1)) = e1 n (xs (i + 1)) := rfl
    refine p_w (w9 := (KW k ad r (nI n) R T9 U9 tx9 sz9 ((oa, aL k 1 g9) :: (MW k md th (nI n) Am Wk Mo v cp bt ml (nI cn) [])))) (by rw [sel_n he, sel_n he]) ?_
    refine p_istore (lv9 := [(5, .int (e1 n (xs (i + 1)))), (0, .ref b), (1, .ref (ad 0)), (2, .ref (md 0)), (3, .ref oa), (4, .int (nI i))]) C (by decide) rfl dL_law_1330 ?_
    refine p_aload_n C rfl 3 rfl dL_law_1332 ?_
    refine p_aload_n C rfl 1 rfl dL_law_1333 ?_
    refine p_iload C 5 rfl dL_law_1334 ?_
    refine p_iconst (v := (nI 1)) C (by decide) dL_law_1336 ?_
    refine p_iadd C dL_law_1337 ?_
    refine p_int (y := (nI (i + 1))) (nI_add _ _) ?_
    refine p_sld (x := xs (i + 1)) C hX hbl hbA (vp_in_nI (by omega) (by omega)) (congrArg xs (nI_clamp (by omega))) dL_law_1338 ?_
    refine p_toM ?_
    refine c_Vi (As := [.int (xs (i + 1))]) (rest := []) C (m_X3_firstIdle l D k hn) 0 rfl rfl rfl qml_L_177 qim_X3_firstIdle qse_X3_X3_firstIdle qin_X3 qco_X3_firstIdle nd_X3_firstIdle ⟨Nat.le_of_ble_eq_true rfl, Nat.le_of_ble_eq_true rfl⟩ (Nat.le_of_ble_eq_true rfl) ⟨by (try simp only [rmL_c, rmL_s, room_c, room_s]); omega, by (try simp only [rmL_c, rmL_s, room_c, room_s]); omega⟩ rfl dL_law_1339 (fun r9 w9 h9 => ?_)
    obtain ⟨Wk8, Mo8, rfl, hvM⟩ := h9
    refine p_w (w9 := (MW k md (e1 n (xs (i + 1))) (nI n) Am Wk8 Mo8 v cp bt ml (nI cn) (KW k ad r (nI n) R T9 U9 tx9 sz9 [(oa, aL k 1 g9)]))) (by rw [heM]) ?_
    refine p_istore (lv9 := [(6, .int r9), (5, .int (e1 n (xs (i + 1)))), (0, .ref b), (1, .ref (ad 0)), (2, .ref (md 0)), (3, .ref oa), (4, .int (nI i))]) C (by decide) rfl dL_law_1342 ?_
    refine p_aload_n C rfl 4 rfl dL_law_1344 ?_
    refine c_Vi (As := []) (rest := []) C (m_X3_thrown l D k ) 0 rfl rfl rfl qml_L_114 qim_X3_thrown qse_X3_X3_thrown qin_X3 qco_X3_thrown nd_X3_thrown ⟨Nat.le_of_ble_eq_true rfl, Nat.le_of_ble_eq_true rfl⟩ (Nat.le_of_ble_eq_true rfl) ⟨by (try simp only [rmL_c, rmL_s, room_c, room_s]); omega, by (try simp only [rmL_c, rmL_s, room_c, room_s]); omega⟩ rfl dL_law_1345 (fun r9 w9 h9 => ?_)
    obtain ⟨e9, rfl⟩ := h9
    refine p_int e9 ?_
    refine p_toK ?_
    refine p_iload C 1 rfl dL_law_1348 ?_
    refine p_icmp_eq C 1355 (by decide) dL_law_1350 (fun c_1350 => ?_) (fun c_1350 => absurd rfl c_1350)
    refine p_iload C 1 rfl dL_law_1355 ?_
    refine p_if_ne C 1372 (by decide) dL_law_1357 (fun c_1357 => ?_) (fun c_1357 => absurd c_1357 he)
    refine p_goto C 1932 (by decide) dL_law_1372 ?_
    refine p_lv (lv9 := [(0, .ref b), (1, .ref (ad 0)), (2, .ref (md 0)), (3, .ref oa), (4, .int (nI i))]) [2, 3, 4, 5, 6] rfl ?_
    exact hnext _ _ _ _ _ _ _ _ _ _ _ _ _ _ _ _ _ _ ⟨hn, hrel, hok, hft, hm⟩ (by (try simp only [rmL_c, rmL_s, room_c, room_s]); omega) (by (try simp only [rmL_c, rmL_s, room_c, room_s]); omega)
set_option maxHeartbeats 4000000 in
set_option maxRecDepth 100000 in
/-- the law at agreeAt -/
theorem lc_agreeAt {p : Program} {l : Launch} {e : Env} {s : State} {m : MethodId} {args : Array Value} {below : List Frame} {meth : Method} {c : Code} {D : va_G} {A : Nat → Prop} {k : Nat → ClassId} {Q : State → Prop} (C : Cx p s m args meth c cL_law 9 RL A D k) (hfl : l.stackTraces = false) {b L i oa n cp cn v c9 s9 : Nat} {xs : Nat → Int32} {ad r md : Nat → Nat} {R : Nat → Nat → Int32} {T U tx Am Wk Mo bt : Nat → Int32} {th sz ml : Int32} {g : Nat → Int64} (hX : va_X b L xs s s.heap) (hbl : b < s.heap.size) (hbA : ¬ A b) (hL : L ≤ 2048) (hi : i + 4 ≤ L) (hI : LI n R Am cp cn bt) (hc9 : c9 + 544 ≤ 601024) (hs9 : s9 + 6944 ≤ 7293034) (hnext : ∀ (n' cp' cn' v' c' s' : Nat) (R' : Nat → Nat → Int32) (T' U' tx' Am' Wk' Mo' bt' : Nat → Int32) (th' sz' ml' : Int32) (g' : Nat → Int64), LI n' R' Am' cp' cn' bt' → c' ≤ c9 + 544 → s' ≤ s9 + 6944 → WP p l e (room_1) s m args below meth c D A 9 (KW k ad r (nI n') R' T' U' tx' sz' ((oa, aL k 1 g') :: (MW k md th' (nI n') Am' Wk' Mo' v' cp' bt' ml' (nI cn') []))) [(0, .ref b), (1, .ref (ad 0)), (2, .ref (md 0)), (3, .ref oa), (4, .int (nI i))] c' s' Q 1932 []) : WP p l e (room_1) s m args below meth c D A 9 (KW k ad r (nI n) R T U tx sz ((oa, aL k 1 g) :: (MW k md th (nI n) Am Wk Mo v cp bt ml (nI cn) []))) [(0, .ref b), (1, .ref (ad 0)), (2, .ref (md 0)), (3, .ref oa), (4, .int (nI i))] c9 s9 Q 1375 [] := by
  obtain ⟨hn, hrel, hok, hft, hm⟩ := hI
  have hvv : e2 n (xs (i + 1)) (xs (i + 2)) = 0 → (fi (fun q => (R (ix (xs (i + 1)))) q - (R (ix (xs (i + 2)))) q)).toInt64 = (fi (fun q => (mrow Am (ix (xs (i + 1)))) q - (mrow Am (ix (xs (i + 2)))) q)).toInt64 := fun he => by
    obtain ⟨hra, hrb⟩ := cv_e2 hn he
    rw [hrel _ hra, hrel _ hrb]
  refine p_aload_n C rfl 1 rfl dL_law_1375 ?_
  refine p_aload_n C rfl 0 rfl dL_law_1376 ?_
  refine p_iload C 4 rfl dL_law_1377 ?_
  refine p_iconst (v := (nI 1)) C (by decide) dL_law_1379 ?_
  refine p_iadd C dL_law_1380 ?_
  refine p_int (y := (nI (i + 1))) (nI_add _ _) ?_
  refine p_sld (x := xs (i + 1)) C hX hbl hbA (vp_in_nI (by omega) (by omega)) (congrArg xs (nI_clamp (by omega))) dL_law_1381 ?_
  refine p_aload_n C rfl 0 rfl dL_law_1382 ?_
  refine p_iload C 4 rfl dL_law_1383 ?_
  refine p_iconst (v := (nI 2)) C (by decide) dL_law_1385 ?_
  refine p_iadd C dL_law_1386 ?_
  refine p_int (y := (nI (i + 2))) (nI_add _ _) ?_
  refine p_sld (x := xs (i + 2)) C hX hbl hbA (vp_in_nI (by omega) (by omega)) (congrArg xs (nI_clamp (by omega))) dL_law_1387 ?_
  refine p_aload_n C rfl 3 rfl dL_law_1388 ?_
  refine c_Wi (As := [.ref (ad 0), .int (xs (i + 1)), .int (xs (i + 2)), .ref oa]) (rest := []) C (m_L_agreeAt l D k hfl (hn := hn)) qml_L_178 qst_L_agreeAt qin_L qco_L_agreeAt nd_L_agreeAt ⟨Nat.le_of_ble_eq_true rfl, Nat.le_of_ble_eq_true rfl⟩ (Nat.le_of_ble_eq_true rfl) ⟨by (try simp only [rmL_c, rmL_s, room_c, room_s]); omega, by (try simp only [rmL_c, rmL_s, room_c, room_s]); omega⟩ rfl dL_law_1389 (fun r9 w9 h9 => ?_)
  obtain ⟨e9, T9, U9, tx9, sz9, g9, rfl, hv9⟩ := h9
  refine p_int e9 ?_
  by_cases he : e2 n (xs (i + 1)) (xs (i + 2)) = 0
  · have heM : e2 n (xs (i + 1)) (xs (i + 2)) = e2 n (xs (i + 1)) (xs (i + 2)) := rfl
    obtain ⟨hra, hrb⟩ := cv_e2 hn he
    refine p_w (w9 := (KW k ad r (nI n) R T9 U9 tx9 sz9 ((oa, aL k 1 g9) :: (MW k md th (nI n) Am Wk Mo v cp bt ml (nI cn) [])))) (by rw [he, sel_0, sel_0]) ?_
    have hv := hv9 he
    refine p_int (y := 0) he ?_
    refine p_istore (lv9 := [(5, .int 0), (0, .ref b), (1, .ref (ad 0)), (2, .ref (md 0)), (3, .ref oa), (4, .int (nI i))]) C (by decide) rfl dL_law_1392 ?_
    refine p_aload_n C rfl 3 rfl dL_law_1394 ?_
    refine p_aload_n C rfl 1 rfl dL_law_1395 ?_
    refine p_iload C 5 rfl dL_law_1396 ?_
    refine p_iconst (v := (nI 1)) C (by decide) dL_law_1398 ?_
    refine p_iadd C dL_law_1399 ?_
    refine p_int (y := (nI (i + 1))) (nI_add _ _) ?_
    refine p_sld (x := xs (i + 1)) C hX hbl hbA (vp_in_nI (by omega) (by omega)) (congrArg xs (nI_clamp (by omega))) dL_law_1400 ?_
    refine p_aload_n C rfl 1 rfl dL_law_1401 ?_
    refine p_iload C 5 rfl dL_law_1402 ?_
    refine p_iconst (v := (nI 2)) C (by decide) dL_law_1404 ?_
    refine p_iadd C dL_law_1405 ?_
    refine p_int (y := (nI (i + 2))) (nI_add _ _) ?_
    refine p_sld (x := xs (i + 2)) C hX hbl hbA (vp_in_nI (by omega) (by omega)) (congrArg xs (nI_clamp (by omega))) dL_law_1406 ?_
    refine p_toM ?_
    refine c_Vi (As := [.int (xs (i + 1)), .int (xs (i + 2))]) (rest := []) C (m_X3_agreeAt l D k hn) 0 rfl rfl rfl qml_L_180 qim_X3_agreeAt qse_X3_X3_agreeAt qin_X3 qco_X3_agreeAt nd_X3_agreeAt ⟨Nat.le_of_ble_eq_true rfl, Nat.le_of_ble_eq_true rfl⟩ (Nat.le_of_ble_eq_true rfl) ⟨by (try simp only [rmL_c, rmL_s, room_c, room_s]); omega, by (try simp only [rmL_c, rmL_s, room_c, room_s]); omega⟩ rfl dL_law_1407 (fun r9 w9 h9 => ?_)
    obtain ⟨Wk8, Mo8, rfl, hvM⟩ := h9
    refine p_w (w9 := (MW k md 0 (nI n) Am Wk8 Mo8 v cp bt ml (nI cn) (KW k ad r (nI n) R T9 U9 tx9 sz9 [(oa, aL k 1 g9)]))) (by rw [heM.trans he]) ?_
    refine p_int (y := fi (fun q => (mrow Am (ix (xs (i + 1)))) q - (mrow Am (ix (xs (i + 2)))) q)) (hvM (heM.trans he)) ?_
    refine p_istore (lv9 := [(6, .int (fi (fun q => (mrow Am (ix (xs (i + 1)))) q - (mrow Am (ix (xs (i + 2)))) q))), (5, .int 0), (0, .ref b), (1, .ref (ad 0)), (2, .ref (md 0)), (3, .ref oa), (4, .int (nI i))]) C (by decide) rfl dL_law_1410 ?_
    refine p_aload_n C rfl 4 rfl dL_law_1412 ?_
    refine c_Vi (As := []) (rest := []) C (m_X3_thrown l D k ) 0 rfl rfl rfl qml_L_114 qim_X3_thrown qse_X3_X3_thrown qin_X3 qco_X3_thrown nd_X3_thrown ⟨Nat.le_of_ble_eq_true rfl, Nat.le_of_ble_eq_true rfl⟩ (Nat.le_of_ble_eq_true rfl) ⟨by (try simp only [rmL_c, rmL_s, room_c, room_s]); omega, by (try simp only [rmL_c, rmL_s, room_c, room_s]); omega⟩ rfl dL_law_1413 (fun r9 w9 h9 => ?_)
    obtain ⟨e9, rfl⟩ := h9
    refine p_int e9 ?_
    refine p_toK ?_
    refine p_iload C 1 rfl dL_law_1416 ?_
    refine p_icmp_eq C 1423 (by decide) dL_law_1418 (fun c_1418 => ?_) (fun c_1418 => absurd rfl c_1418)
    refine p_iload C 1 rfl dL_law_1423 ?_
    refine p_if_ne C 1440 (by decide) dL_law_1425 (fun c_1425 => absurd c_1425 (fun z9 => z9 rfl)) (fun c_1425 => ?_)
    refine p_aload_n C rfl 5 rfl dL_law_1428 ?_
    refine p_iconst (v := 0) C (by decide) dL_law_1429 ?_
    refine p_lald (v := (g9 0)) C 22 KW_y (vp_in_nI (n := 0) (N := 1) (by omega) (by omega)) (by rw [show (0 : Int32).toNatClampNeg = 0 from rfl]) dL_law_1430 ?_
    refine p_iload C 0 rfl dL_law_1431 ?_
    refine p_i2l C dL_law_1433 ?_
    refine p_lcmp C dL_law_1434 ?_
    refine p_if_eq C 1440 (by decide) dL_law_1435 (fun c_1435 => ?_) (fun c_1435 => absurd ((lg_cmp_eq _ _).mpr (hv.trans (hvv he))) c_1435)
    refine p_goto C 1932 (by decide) dL_law_1440 ?_
    refine p_lv (lv9 := [(0, .ref b), (1, .ref (ad 0)), (2, .ref (md 0)), (3, .ref oa), (4, .int (nI i))]) [2, 3, 4, 5, 6] rfl ?_
    exact hnext _ _ _ _ _ _ _ _ _ _ _ _ _ _ _ _ _ _ ⟨hn, hrel, hok, hft, hm⟩ (by (try simp only [rmL_c, rmL_s, room_c, room_s]); omega) (by (try simp only [rmL_c, rmL_s, room_c, room_s]); omega)
  · have heM : e2 n (xs (i + 1)) (xs (i + 2)) = e2 n (xs (i + 1)) (xs (i + 2)) := rfl
    refine p_w (w9 := (KW k ad r (nI n) R T9 U9 tx9 sz9 ((oa, aL k 1 g9) :: (MW k md th (nI n) Am Wk Mo v cp bt ml (nI cn) [])))) (by rw [sel_n he, sel_n he]) ?_
    refine p_istore (lv9 := [(5, .int (e2 n (xs (i + 1)) (xs (i + 2)))), (0, .ref b), (1, .ref (ad 0)), (2, .ref (md 0)), (3, .ref oa), (4, .int (nI i))]) C (by decide) rfl dL_law_1392 ?_
    refine p_aload_n C rfl 3 rfl dL_law_1394 ?_
    refine p_aload_n C rfl 1 rfl dL_law_1395 ?_
    refine p_iload C 5 rfl dL_law_1396 ?_
    refine p_iconst (v := (nI 1)) C (by decide) dL_law_1398 ?_
    refine p_iadd C dL_law_1399 ?_
    refine p_int (y := (nI (i + 1))) (nI_add _ _) ?_
    refine p_sld (x := xs (i + 1)) C hX hbl hbA (vp_in_nI (by omega) (by omega)) (congrArg xs (nI_clamp (by omega))) dL_law_1400 ?_
    refine p_aload_n C rfl 1 rfl dL_law_1401 ?_
    refine p_iload C 5 rfl dL_law_1402 ?_
    refine p_iconst (v := (nI 2)) C (by decide) dL_law_1404 ?_
    refine p_iadd C dL_law_1405 ?_
    refine p_int (y := (nI (i + 2))) (nI_add _ _) ?_
    refine p_sld (x := xs (i + 2)) C hX hbl hbA (vp_in_nI (by omega) (by omega)) (congrArg xs (nI_clamp (by omega))) dL_law_1406 ?_
    refine p_toM ?_
    refine c_Vi (As := [.int (xs (i + 1)), .int (xs (i + 2))]) (rest := []) C (m_X3_agreeAt l D k hn) 0 rfl rfl rfl qml_L_180 qim_X3_agreeAt qse_X3_X3_agreeAt qin_X3 qco_X3_agreeAt nd_X3_agreeAt ⟨Nat.le_of_ble_eq_true rfl, Nat.le_of_ble_eq_true rfl⟩ (Nat.le_of_ble_eq_true rfl) ⟨by (try simp only [rmL_c, rmL_s, room_c, room_s]); omega, by (try simp only [rmL_c, rmL_s, room_c, room_s]); omega⟩ rfl dL_law_1407 (fun r9 w9 h9 => ?_)
    obtain ⟨Wk8, Mo8, rfl, hvM⟩ := h9
    refine p_w (w9 := (MW k md (e2 n (xs (i + 1)) (xs (i + 2))) (nI n) Am Wk8 Mo8 v cp bt ml (nI cn) (KW k ad r (nI n) R T9 U9 tx9 sz9 [(oa, aL k 1 g9)]))) (by rw [heM]) ?_
    refine p_istore (lv9 := [(6, .int r9), (5, .int (e2 n (xs (i + 1)) (xs (i + 2)))), (0, .ref b), (1, .ref (ad 0)), (2, .ref (md 0)), (3, .ref oa), (4, .int (nI i))]) C (by decide) rfl dL_law_1410 ?_
    refine p_aload_n C rfl 4 rfl dL_law_1412 ?_
    refine c_Vi (As := []) (rest := []) C (m_X3_thrown l D k ) 0 rfl rfl rfl qml_L_114 qim_X3_thrown qse_X3_X3_thrown qin_X3 qco_X3_thrown nd_X3_thrown ⟨Nat.le_of_ble_eq_true rfl, Nat.le_of_ble_eq_true rfl⟩ (Nat.le_of_ble_eq_true rfl) ⟨by (try simp only [rmL_c, rmL_s, room_c, room_s]); omega, by (try simp only [rmL_c, rmL_s, room_c, room_s]); omega⟩ rfl dL_law_1413 (fun r9 w9 h9 => ?_)
    obtain ⟨e9, rfl⟩ := h9
    refine p_int e9 ?_
    refine p_toK ?_
    refine p_iload C 1 rfl dL_law_1416 ?_
    refine p_icmp_eq C 1423 (by decide) dL_law_1418 (fun c_1418 => ?_) (fun c_1418 => absurd rfl c_1418)
    refine p_iload C 1 rfl dL_law_1423 ?_
    refine p_if_ne C 1440 (by decide) dL_law_1425 (fun c_1425 => ?_) (fun c_1425 => absurd c_1425 he)
    refine p_goto C 1932 (by decide) dL_law_1440 ?_
    refine p_lv (lv9 := [(0, .ref b), (1, .ref (ad 0)), (2, .ref (md 0)), (3, .ref oa), (4, .int (nI i))]) [2, 3, 4, 5, 6] rfl ?_
    exact hnext _ _ _ _ _ _ _ _ _ _ _ _ _ _ _ _ _ _ ⟨hn, hrel, hok, hft, hm⟩ (by (try simp only [rmL_c, rmL_s, room_c, room_s]); omega) (by (try simp only [rmL_c, rmL_s, room_c, room_s]); omega)
set_option maxHeartbeats 4000000 in
set_option maxRecDepth 100000 in
/-- the law at cheapest -/
theorem lc_cheapest {p : Program} {l : Launch} {e : Env} {s : State} {m : MethodId} {args : Array Value} {below : List Frame} {meth : Method} {c : Code} {D : va_G} {A : Nat → Prop} {k : Nat → ClassId} {Q : State → Prop} (C : Cx p s m args meth c cL_law 9 RL A D k) (hfl : l.stackTraces = false) {b L i oa n cp cn v c9 s9 : Nat} {xs : Nat → Int32} {ad r md : Nat → Nat} {R : Nat → Nat → Int32} {T U tx Am Wk Mo bt : Nat → Int32} {th sz ml : Int32} {g : Nat → Int64} (hX : va_X b L xs s s.heap) (hbl : b < s.heap.size) (hbA : ¬ A b) (hL : L ≤ 2048) (hi : i + 4 ≤ L) (hI : LI n R Am cp cn bt) (hc9 : c9 + 544 ≤ 601024) (hs9 : s9 + 6944 ≤ 7293034) (hnext : ∀ (n' cp' cn' v' c' s' : Nat) (R' : Nat → Nat → Int32) (T' U' tx' Am' Wk' Mo' bt' : Nat → Int32) (th' sz' ml' : Int32) (g' : Nat → Int64), LI n' R' Am' cp' cn' bt' → c' ≤ c9 + 544 → s' ≤ s9 + 6944 → WP p l e (room_1) s m args below meth c D A 9 (KW k ad r (nI n') R' T' U' tx' sz' ((oa, aL k 1 g') :: (MW k md th' (nI n') Am' Wk' Mo' v' cp' bt' ml' (nI cn') []))) [(0, .ref b), (1, .ref (ad 0)), (2, .ref (md 0)), (3, .ref oa), (4, .int (nI i))] c' s' Q 1932 []) : WP p l e (room_1) s m args below meth c D A 9 (KW k ad r (nI n) R T U tx sz ((oa, aL k 1 g) :: (MW k md th (nI n) Am Wk Mo v cp bt ml (nI cn) []))) [(0, .ref b), (1, .ref (ad 0)), (2, .ref (md 0)), (3, .ref oa), (4, .int (nI i))] c9 s9 Q 1443 [] := by
  obtain ⟨hn, hrel, hok, hft, hm⟩ := hI
  have hvv : e1 n (xs (i + 1)) = 0 → (nI (lea (R (ix (xs (i + 1)))))).toInt64 = (nI (lea (mrow Am (ix (xs (i + 1)))))).toInt64 := fun he => by
    have hrc := isR_ix hn (e1_t he)
    rw [hrel _ hrc]
  refine p_aload_n C rfl 1 rfl dL_law_1443 ?_
  refine p_aload_n C rfl 0 rfl dL_law_1444 ?_
  refine p_iload C 4 rfl dL_law_1445 ?_
  refine p_iconst (v := (nI 1)) C (by decide) dL_law_1447 ?_
  refine p_iadd C dL_law_1448 ?_
  refine p_int (y := (nI (i + 1))) (nI_add _ _) ?_
  refine p_sld (x := xs (i + 1)) C hX hbl hbA (vp_in_nI (by omega) (by omega)) (congrArg xs (nI_clamp (by omega))) dL_law_1449 ?_
  refine p_aload_n C rfl 3 rfl dL_law_1450 ?_
  refine c_Wi (As := [.ref (ad 0), .int (xs (i + 1)), .ref oa]) (rest := []) C (m_L_cheapest l D k hfl (hn := hn)) qml_L_181 qst_L_cheapest qin_L qco_L_cheapest nd_L_cheapest ⟨Nat.le_of_ble_eq_true rfl, Nat.le_of_ble_eq_true rfl⟩ (Nat.le_of_ble_eq_true rfl) ⟨by (try simp only [rmL_c, rmL_s, room_c, room_s]); omega, by (try simp only [rmL_c, rmL_s, room_c, room_s]); omega⟩ rfl dL_law_1451 (fun r9 w9 h9 => ?_)
  obtain ⟨e9, T9, U9, tx9, sz9, g9, rfl, hv9⟩ := h9
  refine p_int e9 ?_
  by_cases he : e1 n (xs (i + 1)) = 0
  · have heM : e1 n (xs (i + 1)) = e1 n (xs (i + 1)) := rfl
    have hrc := isR_ix hn (e1_t he)
    refine p_w (w9 := (KW k ad r (nI n) R T9 U9 tx9 sz9 ((oa, aL k 1 g9) :: (MW k md th (nI n) Am Wk Mo v cp bt ml (nI cn) [])))) (by rw [he, sel_0, sel_0]) ?_
    have hv := hv9 he
    refine p_int (y := 0) he ?_
    refine p_istore (lv9 := [(5, .int 0), (0, .ref b), (1, .ref (ad 0)), (2, .ref (md 0)), (3, .ref oa), (4, .int (nI i))]) C (by decide) rfl dL_law_1454 ?_
    refine p_aload_n C rfl 3 rfl dL_law_1456 ?_
    refine p_aload_n C rfl 1 rfl dL_law_1457 ?_
    refine p_iload C 5 rfl dL_law_1458 ?_
    refine p_iconst (v := (nI 1)) C (by decide) dL_law_1460 ?_
    refine p_iadd C dL_law_1461 ?_
    refine p_int (y := (nI (i + 1))) (nI_add _ _) ?_
    refine p_sld (x := xs (i + 1)) C hX hbl hbA (vp_in_nI (by omega) (by omega)) (congrArg xs (nI_clamp (by omega))) dL_law_1462 ?_
    refine p_toM ?_
    refine c_Vi (As := [.int (xs (i + 1))]) (rest := []) C (m_X3_cheapest l D k hn) 0 rfl rfl rfl qml_L_183 qim_X3_cheapest qse_X3_X3_cheapest qin_X3 qco_X3_cheapest nd_X3_cheapest ⟨Nat.le_of_ble_eq_true rfl, Nat.le_of_ble_eq_true rfl⟩ (Nat.le_of_ble_eq_true rfl) ⟨by (try simp only [rmL_c, rmL_s, room_c, room_s]); omega, by (try simp only [rmL_c, rmL_s, room_c, room_s]); omega⟩ rfl dL_law_1463 (fun r9 w9 h9 => ?_)
    obtain ⟨Wk8, Mo8, rfl, hvM⟩ := h9
    refine p_w (w9 := (MW k md 0 (nI n) Am Wk8 Mo8 v cp bt ml (nI cn) (KW k ad r (nI n) R T9 U9 tx9 sz9 [(oa, aL k 1 g9)]))) (by rw [heM.trans he]) ?_
    refine p_int (y := nI (lea (mrow Am (ix (xs (i + 1)))))) (hvM (heM.trans he)) ?_
    refine p_istore (lv9 := [(6, .int (nI (lea (mrow Am (ix (xs (i + 1))))))), (5, .int 0), (0, .ref b), (1, .ref (ad 0)), (2, .ref (md 0)), (3, .ref oa), (4, .int (nI i))]) C (by decide) rfl dL_law_1466 ?_
    refine p_aload_n C rfl 4 rfl dL_law_1468 ?_
    refine c_Vi (As := []) (rest := []) C (m_X3_thrown l D k ) 0 rfl rfl rfl qml_L_114 qim_X3_thrown qse_X3_X3_thrown qin_X3 qco_X3_thrown nd_X3_thrown ⟨Nat.le_of_ble_eq_true rfl, Nat.le_of_ble_eq_true rfl⟩ (Nat.le_of_ble_eq_true rfl) ⟨by (try simp only [rmL_c, rmL_s, room_c, room_s]); omega, by (try simp only [rmL_c, rmL_s, room_c, room_s]); omega⟩ rfl dL_law_1469 (fun r9 w9 h9 => ?_)
    obtain ⟨e9, rfl⟩ := h9
    refine p_int e9 ?_
    refine p_toK ?_
    refine p_iload C 1 rfl dL_law_1472 ?_
    refine p_icmp_eq C 1479 (by decide) dL_law_1474 (fun c_1474 => ?_) (fun c_1474 => absurd rfl c_1474)
    refine p_iload C 1 rfl dL_law_1479 ?_
    refine p_if_ne C 1496 (by decide) dL_law_1481 (fun c_1481 => absurd c_1481 (fun z9 => z9 rfl)) (fun c_1481 => ?_)
    refine p_aload_n C rfl 5 rfl dL_law_1484 ?_
    refine p_iconst (v := 0) C (by decide) dL_law_1485 ?_
    refine p_lald (v := (g9 0)) C 22 KW_y (vp_in_nI (n := 0) (N := 1) (by omega) (by omega)) (by rw [show (0 : Int32).toNatClampNeg = 0 from rfl]) dL_law_1486 ?_
    refine p_iload C 0 rfl dL_law_1487 ?_
    refine p_i2l C dL_law_1489 ?_
    refine p_lcmp C dL_law_1490 ?_
    refine p_if_eq C 1496 (by decide) dL_law_1491 (fun c_1491 => ?_) (fun c_1491 => absurd ((lg_cmp_eq _ _).mpr (hv.trans (hvv he))) c_1491)
    refine p_goto C 1932 (by decide) dL_law_1496 ?_
    refine p_lv (lv9 := [(0, .ref b), (1, .ref (ad 0)), (2, .ref (md 0)), (3, .ref oa), (4, .int (nI i))]) [2, 3, 4, 5, 6] rfl ?_
    exact hnext _ _ _ _ _ _ _ _ _ _ _ _ _ _ _ _ _ _ ⟨hn, hrel, hok, hft, hm⟩ (by (try simp only [rmL_c, rmL_s, room_c, room_s]); omega) (by (try simp only [rmL_c, rmL_s, room_c, room_s]); omega)
  · have heM : e1 n (xs (i + 1)) = e1 n (xs (i + 1)) := rfl
    refine p_w (w9 := (KW k ad r (nI n) R T9 U9 tx9 sz9 ((oa, aL k 1 g9) :: (MW k md th (nI n) Am Wk Mo v cp bt ml (nI cn) [])))) (by rw [sel_n he, sel_n he]) ?_
    refine p_istore (lv9 := [(5, .int (e1 n (xs (i + 1)))), (0, .ref b), (1, .ref (ad 0)), (2, .ref (md 0)), (3, .ref oa), (4, .int (nI i))]) C (by decide) rfl dL_law_1454 ?_
    refine p_aload_n C rfl 3 rfl dL_law_1456 ?_
    refine p_aload_n C rfl 1 rfl dL_law_1457 ?_
    refine p_iload C 5 rfl dL_law_1458 ?_
    refine p_iconst (v := (nI 1)) C (by decide) dL_law_1460 ?_
    refine p_iadd C dL_law_1461 ?_
    refine p_int (y := (nI (i + 1))) (nI_add _ _) ?_
    refine p_sld (x := xs (i + 1)) C hX hbl hbA (vp_in_nI (by omega) (by omega)) (congrArg xs (nI_clamp (by omega))) dL_law_1462 ?_
    refine p_toM ?_
    refine c_Vi (As := [.int (xs (i + 1))]) (rest := []) C (m_X3_cheapest l D k hn) 0 rfl rfl rfl qml_L_183 qim_X3_cheapest qse_X3_X3_cheapest qin_X3 qco_X3_cheapest nd_X3_cheapest ⟨Nat.le_of_ble_eq_true rfl, Nat.le_of_ble_eq_true rfl⟩ (Nat.le_of_ble_eq_true rfl) ⟨by (try simp only [rmL_c, rmL_s, room_c, room_s]); omega, by (try simp only [rmL_c, rmL_s, room_c, room_s]); omega⟩ rfl dL_law_1463 (fun r9 w9 h9 => ?_)
    obtain ⟨Wk8, Mo8, rfl, hvM⟩ := h9
    refine p_w (w9 := (MW k md (e1 n (xs (i + 1))) (nI n) Am Wk8 Mo8 v cp bt ml (nI cn) (KW k ad r (nI n) R T9 U9 tx9 sz9 [(oa, aL k 1 g9)]))) (by rw [heM]) ?_
    refine p_istore (lv9 := [(6, .int r9), (5, .int (e1 n (xs (i + 1)))), (0, .ref b), (1, .ref (ad 0)), (2, .ref (md 0)), (3, .ref oa), (4, .int (nI i))]) C (by decide) rfl dL_law_1466 ?_
    refine p_aload_n C rfl 4 rfl dL_law_1468 ?_
    refine c_Vi (As := []) (rest := []) C (m_X3_thrown l D k ) 0 rfl rfl rfl qml_L_114 qim_X3_thrown qse_X3_X3_thrown qin_X3 qco_X3_thrown nd_X3_thrown ⟨Nat.le_of_ble_eq_true rfl, Nat.le_of_ble_eq_true rfl⟩ (Nat.le_of_ble_eq_true rfl) ⟨by (try simp only [rmL_c, rmL_s, room_c, room_s]); omega, by (try simp only [rmL_c, rmL_s, room_c, room_s]); omega⟩ rfl dL_law_1469 (fun r9 w9 h9 => ?_)
    obtain ⟨e9, rfl⟩ := h9
    refine p_int e9 ?_
    refine p_toK ?_
    refine p_iload C 1 rfl dL_law_1472 ?_
    refine p_icmp_eq C 1479 (by decide) dL_law_1474 (fun c_1474 => ?_) (fun c_1474 => absurd rfl c_1474)
    refine p_iload C 1 rfl dL_law_1479 ?_
    refine p_if_ne C 1496 (by decide) dL_law_1481 (fun c_1481 => ?_) (fun c_1481 => absurd c_1481 he)
    refine p_goto C 1932 (by decide) dL_law_1496 ?_
    refine p_lv (lv9 := [(0, .ref b), (1, .ref (ad 0)), (2, .ref (md 0)), (3, .ref oa), (4, .int (nI i))]) [2, 3, 4, 5, 6] rfl ?_
    exact hnext _ _ _ _ _ _ _ _ _ _ _ _ _ _ _ _ _ _ ⟨hn, hrel, hok, hft, hm⟩ (by (try simp only [rmL_c, rmL_s, room_c, room_s]); omega) (by (try simp only [rmL_c, rmL_s, room_c, room_s]); omega)
set_option maxHeartbeats 4000000 in
set_option maxRecDepth 100000 in
/-- the law at hungerUpTo -/
theorem lc_hungerUpTo {p : Program} {l : Launch} {e : Env} {s : State} {m : MethodId} {args : Array Value} {below : List Frame} {meth : Method} {c : Code} {D : va_G} {A : Nat → Prop} {k : Nat → ClassId} {Q : State → Prop} (C : Cx p s m args meth c cL_law 9 RL A D k) (hfl : l.stackTraces = false) {b L i oa n cp cn v c9 s9 : Nat} {xs : Nat → Int32} {ad r md : Nat → Nat} {R : Nat → Nat → Int32} {T U tx Am Wk Mo bt : Nat → Int32} {th sz ml : Int32} {g : Nat → Int64} (hX : va_X b L xs s s.heap) (hbl : b < s.heap.size) (hbA : ¬ A b) (hL : L ≤ 2048) (hi : i + 4 ≤ L) (hI : LI n R Am cp cn bt) (hc9 : c9 + 544 ≤ 601024) (hs9 : s9 + 6944 ≤ 7293034) (hnext : ∀ (n' cp' cn' v' c' s' : Nat) (R' : Nat → Nat → Int32) (T' U' tx' Am' Wk' Mo' bt' : Nat → Int32) (th' sz' ml' : Int32) (g' : Nat → Int64), LI n' R' Am' cp' cn' bt' → c' ≤ c9 + 544 → s' ≤ s9 + 6944 → WP p l e (room_1) s m args below meth c D A 9 (KW k ad r (nI n') R' T' U' tx' sz' ((oa, aL k 1 g') :: (MW k md th' (nI n') Am' Wk' Mo' v' cp' bt' ml' (nI cn') []))) [(0, .ref b), (1, .ref (ad 0)), (2, .ref (md 0)), (3, .ref oa), (4, .int (nI i))] c' s' Q 1932 []) : WP p l e (room_1) s m args below meth c D A 9 (KW k ad r (nI n) R T U tx sz ((oa, aL k 1 g) :: (MW k md th (nI n) Am Wk Mo v cp bt ml (nI cn) []))) [(0, .ref b), (1, .ref (ad 0)), (2, .ref (md 0)), (3, .ref oa), (4, .int (nI i))] c9 s9 Q 1499 [] := by
  obtain ⟨hn, hrel, hok, hft, hm⟩ := hI
  have hvv : eUp n (xs (i + 1)) (xs (i + 2)) = 0 → (huN (R (ix (xs (i + 1)))) (ix (xs (i + 2)))) = (huN (mrow Am (ix (xs (i + 1)))) (ix (xs (i + 2)))) := fun he => by
    have hrc := isR_ix hn (cv_eUp he)
    rw [hrel _ hrc]
  refine p_aload_n C rfl 1 rfl dL_law_1499 ?_
  refine p_aload_n C rfl 0 rfl dL_law_1500 ?_
  refine p_iload C 4 rfl dL_law_1501 ?_
  refine p_iconst (v := (nI 1)) C (by decide) dL_law_1503 ?_
  refine p_iadd C dL_law_1504 ?_
  refine p_int (y := (nI (i + 1))) (nI_add _ _) ?_
  refine p_sld (x := xs (i + 1)) C hX hbl hbA (vp_in_nI (by omega) (by omega)) (congrArg xs (nI_clamp (by omega))) dL_law_1505 ?_
  refine p_aload_n C rfl 0 rfl dL_law_1506 ?_
  refine p_iload C 4 rfl dL_law_1507 ?_
  refine p_iconst (v := (nI 2)) C (by decide) dL_law_1509 ?_
  refine p_iadd C dL_law_1510 ?_
  refine p_int (y := (nI (i + 2))) (nI_add _ _) ?_
  refine p_sld (x := xs (i + 2)) C hX hbl hbA (vp_in_nI (by omega) (by omega)) (congrArg xs (nI_clamp (by omega))) dL_law_1511 ?_
  refine p_aload_n C rfl 3 rfl dL_law_1512 ?_
  refine c_Wi (As := [.ref (ad 0), .int (xs (i + 1)), .int (xs (i + 2)), .ref oa]) (rest := []) C (m_L_hungerUpTo l D k hfl (hn := hn)) qml_L_184 qst_L_hungerUpTo qin_L qco_L_hungerUpTo nd_L_hungerUpTo ⟨Nat.le_of_ble_eq_true rfl, Nat.le_of_ble_eq_true rfl⟩ (Nat.le_of_ble_eq_true rfl) ⟨by (try simp only [rmL_c, rmL_s, room_c, room_s]); omega, by (try simp only [rmL_c, rmL_s, room_c, room_s]); omega⟩ rfl dL_law_1513 (fun r9 w9 h9 => ?_)
  obtain ⟨e9, T9, U9, tx9, sz9, g9, rfl, hv9⟩ := h9
  refine p_int e9 ?_
  by_cases he : eUp n (xs (i + 1)) (xs (i + 2)) = 0
  · have heM : eUp n (xs (i + 1)) (xs (i + 2)) = eUp n (xs (i + 1)) (xs (i + 2)) := rfl
    have hrc := isR_ix hn (cv_eUp he)
    refine p_w (w9 := (KW k ad r (nI n) R T9 U9 tx9 sz9 ((oa, aL k 1 g9) :: (MW k md th (nI n) Am Wk Mo v cp bt ml (nI cn) [])))) (by rw [he, sel_0, sel_0]) ?_
    have hv := hv9 he
    refine p_int (y := 0) he ?_
    refine p_istore (lv9 := [(5, .int 0), (0, .ref b), (1, .ref (ad 0)), (2, .ref (md 0)), (3, .ref oa), (4, .int (nI i))]) C (by decide) rfl dL_law_1516 ?_
    refine p_aload_n C rfl 3 rfl dL_law_1518 ?_
    refine p_aload_n C rfl 1 rfl dL_law_1519 ?_
    refine p_iload C 5 rfl dL_law_1520 ?_
    refine p_iconst (v := (nI 1)) C (by decide) dL_law_1522 ?_
    refine p_iadd C dL_law_1523 ?_
    refine p_int (y := (nI (i + 1))) (nI_add _ _) ?_
    refine p_sld (x := xs (i + 1)) C hX hbl hbA (vp_in_nI (by omega) (by omega)) (congrArg xs (nI_clamp (by omega))) dL_law_1524 ?_
    refine p_aload_n C rfl 1 rfl dL_law_1525 ?_
    refine p_iload C 5 rfl dL_law_1526 ?_
    refine p_iconst (v := (nI 2)) C (by decide) dL_law_1528 ?_
    refine p_iadd C dL_law_1529 ?_
    refine p_int (y := (nI (i + 2))) (nI_add _ _) ?_
    refine p_sld (x := xs (i + 2)) C hX hbl hbA (vp_in_nI (by omega) (by omega)) (congrArg xs (nI_clamp (by omega))) dL_law_1530 ?_
    refine p_toM ?_
    refine c_Vl (As := [.int (xs (i + 1)), .int (xs (i + 2))]) (rest := []) C (m_X3_hungerUpTo l D k hn) 0 rfl rfl rfl qml_L_186 qim_X3_hungerUpTo qse_X3_X3_hungerUpTo qin_X3 qco_X3_hungerUpTo nd_X3_hungerUpTo ⟨Nat.le_of_ble_eq_true rfl, Nat.le_of_ble_eq_true rfl⟩ (Nat.le_of_ble_eq_true rfl) ⟨by (try simp only [rmL_c, rmL_s, room_c, room_s]); omega, by (try simp only [rmL_c, rmL_s, room_c, room_s]); omega⟩ rfl dL_law_1531 (fun r9 w9 h9 => ?_)
    obtain ⟨Wk8, Mo8, rfl, hvM⟩ := h9
    refine p_w (w9 := (MW k md 0 (nI n) Am Wk8 Mo8 v cp bt ml (nI cn) (KW k ad r (nI n) R T9 U9 tx9 sz9 [(oa, aL k 1 g9)]))) (by rw [heM.trans he]) ?_
    rw [hvM (heM.trans he)]
    refine p_lstore (lv9 := [(6, .long (huN (mrow Am (ix (xs (i + 1)))) (ix (xs (i + 2))))), (5, .int 0), (0, .ref b), (1, .ref (ad 0)), (2, .ref (md 0)), (3, .ref oa), (4, .int (nI i))]) C (by decide) rfl dL_law_1534 ?_
    refine p_aload_n C rfl 4 rfl dL_law_1536 ?_
    refine c_Vi (As := []) (rest := []) C (m_X3_thrown l D k ) 0 rfl rfl rfl qml_L_114 qim_X3_thrown qse_X3_X3_thrown qin_X3 qco_X3_thrown nd_X3_thrown ⟨Nat.le_of_ble_eq_true rfl, Nat.le_of_ble_eq_true rfl⟩ (Nat.le_of_ble_eq_true rfl) ⟨by (try simp only [rmL_c, rmL_s, room_c, room_s]); omega, by (try simp only [rmL_c, rmL_s, room_c, room_s]); omega⟩ rfl dL_law_1537 (fun r9 w9 h9 => ?_)
    obtain ⟨e9, rfl⟩ := h9
    refine p_int e9 ?_
    refine p_toK ?_
    refine p_iload C 1 rfl dL_law_1540 ?_
    refine p_icmp_eq C 1547 (by decide) dL_law_1542 (fun c_1542 => ?_) (fun c_1542 => absurd rfl c_1542)
    refine p_iload C 1 rfl dL_law_1547 ?_
    refine p_if_ne C 1563 (by decide) dL_law_1549 (fun c_1549 => absurd c_1549 (fun z9 => z9 rfl)) (fun c_1549 => ?_)
    refine p_aload_n C rfl 5 rfl dL_law_1552 ?_
    refine p_iconst (v := 0) C (by decide) dL_law_1553 ?_
    refine p_lald (v := (g9 0)) C 22 KW_y (vp_in_nI (n := 0) (N := 1) (by omega) (by omega)) (by rw [show (0 : Int32).toNatClampNeg = 0 from rfl]) dL_law_1554 ?_
    refine p_lload C 0 rfl dL_law_1555 ?_
    refine p_lcmp C dL_law_1557 ?_
    refine p_if_eq C 1563 (by decide) dL_law_1558 (fun c_1558 => ?_) (fun c_1558 => absurd ((lg_cmp_eq _ _).mpr (hv.trans (hvv he))) c_1558)
    refine p_goto C 1932 (by decide) dL_law_1563 ?_
    refine p_lv (lv9 := [(0, .ref b), (1, .ref (ad 0)), (2, .ref (md 0)), (3, .ref oa), (4, .int (nI i))]) [2, 3, 4, 5, 6] rfl ?_
    exact hnext _ _ _ _ _ _ _ _ _ _ _ _ _ _ _ _ _ _ ⟨hn, hrel, hok, hft, hm⟩ (by (try simp only [rmL_c, rmL_s, room_c, room_s]); omega) (by (try simp only [rmL_c, rmL_s, room_c, room_s]); omega)
  · have heM : eUp n (xs (i + 1)) (xs (i + 2)) = eUp n (xs (i + 1)) (xs (i + 2)) := rfl
    refine p_w (w9 := (KW k ad r (nI n) R T9 U9 tx9 sz9 ((oa, aL k 1 g9) :: (MW k md th (nI n) Am Wk Mo v cp bt ml (nI cn) [])))) (by rw [sel_n he, sel_n he]) ?_
    refine p_istore (lv9 := [(5, .int (eUp n (xs (i + 1)) (xs (i + 2)))), (0, .ref b), (1, .ref (ad 0)), (2, .ref (md 0)), (3, .ref oa), (4, .int (nI i))]) C (by decide) rfl dL_law_1516 ?_
    refine p_aload_n C rfl 3 rfl dL_law_1518 ?_
    refine p_aload_n C rfl 1 rfl dL_law_1519 ?_
    refine p_iload C 5 rfl dL_law_1520 ?_
    refine p_iconst (v := (nI 1)) C (by decide) dL_law_1522 ?_
    refine p_iadd C dL_law_1523 ?_
    refine p_int (y := (nI (i + 1))) (nI_add _ _) ?_
    refine p_sld (x := xs (i + 1)) C hX hbl hbA (vp_in_nI (by omega) (by omega)) (congrArg xs (nI_clamp (by omega))) dL_law_1524 ?_
    refine p_aload_n C rfl 1 rfl dL_law_1525 ?_
    refine p_iload C 5 rfl dL_law_1526 ?_
    refine p_iconst (v := (nI 2)) C (by decide) dL_law_1528 ?_
    refine p_iadd C dL_law_1529 ?_
    refine p_int (y := (nI (i + 2))) (nI_add _ _) ?_
    refine p_sld (x := xs (i + 2)) C hX hbl hbA (vp_in_nI (by omega) (by omega)) (congrArg xs (nI_clamp (by omega))) dL_law_1530 ?_
    refine p_toM ?_
    refine c_Vl (As := [.int (xs (i + 1)), .int (xs (i + 2))]) (rest := []) C (m_X3_hungerUpTo l D k hn) 0 rfl rfl rfl qml_L_186 qim_X3_hungerUpTo qse_X3_X3_hungerUpTo qin_X3 qco_X3_hungerUpTo nd_X3_hungerUpTo ⟨Nat.le_of_ble_eq_true rfl, Nat.le_of_ble_eq_true rfl⟩ (Nat.le_of_ble_eq_true rfl) ⟨by (try simp only [rmL_c, rmL_s, room_c, room_s]); omega, by (try simp only [rmL_c, rmL_s, room_c, room_s]); omega⟩ rfl dL_law_1531 (fun r9 w9 h9 => ?_)
    obtain ⟨Wk8, Mo8, rfl, hvM⟩ := h9
    refine p_w (w9 := (MW k md (eUp n (xs (i + 1)) (xs (i + 2))) (nI n) Am Wk8 Mo8 v cp bt ml (nI cn) (KW k ad r (nI n) R T9 U9 tx9 sz9 [(oa, aL k 1 g9)]))) (by rw [heM]) ?_
    refine p_lstore (lv9 := [(6, .long r9), (5, .int (eUp n (xs (i + 1)) (xs (i + 2)))), (0, .ref b), (1, .ref (ad 0)), (2, .ref (md 0)), (3, .ref oa), (4, .int (nI i))]) C (by decide) rfl dL_law_1534 ?_
    refine p_aload_n C rfl 4 rfl dL_law_1536 ?_
    refine c_Vi (As := []) (rest := []) C (m_X3_thrown l D k ) 0 rfl rfl rfl qml_L_114 qim_X3_thrown qse_X3_X3_thrown qin_X3 qco_X3_thrown nd_X3_thrown ⟨Nat.le_of_ble_eq_true rfl, Nat.le_of_ble_eq_true rfl⟩ (Nat.le_of_ble_eq_true rfl) ⟨by (try simp only [rmL_c, rmL_s, room_c, room_s]); omega, by (try simp only [rmL_c, rmL_s, room_c, room_s]); omega⟩ rfl dL_law_1537 (fun r9 w9 h9 => ?_)
    obtain ⟨e9, rfl⟩ := h9
    refine p_int e9 ?_
    refine p_toK ?_
    refine p_iload C 1 rfl dL_law_1540 ?_
    refine p_icmp_eq C 1547 (by decide) dL_law_1542 (fun c_1542 => ?_) (fun c_1542 => absurd rfl c_1542)
    refine p_iload C 1 rfl dL_law_1547 ?_
    refine p_if_ne C 1563 (by decide) dL_law_1549 (fun c_1549 => ?_) (fun c_1549 => absurd c_1549 he)
    refine p_goto C 1932 (by decide) dL_law_1563 ?_
    refine p_lv (lv9 := [(0, .ref b), (1, .ref (ad 0)), (2, .ref (md 0)), (3, .ref oa), (4, .int (nI i))]) [2, 3, 4, 5, 6] rfl ?_
    exact hnext _ _ _ _ _ _ _ _ _ _ _ _ _ _ _ _ _ _ ⟨hn, hrel, hok, hft, hm⟩ (by (try simp only [rmL_c, rmL_s, room_c, room_s]); omega) (by (try simp only [rmL_c, rmL_s, room_c, room_s]); omega)
set_option maxHeartbeats 4000000 in
set_option maxRecDepth 100000 in
/-- the law at textLength -/
theorem lc_textLength {p : Program} {l : Launch} {e : Env} {s : State} {m : MethodId} {args : Array Value} {below : List Frame} {meth : Method} {c : Code} {D : va_G} {A : Nat → Prop} {k : Nat → ClassId} {Q : State → Prop} (C : Cx p s m args meth c cL_law 9 RL A D k) (hfl : l.stackTraces = false) {b L i oa n cp cn v c9 s9 : Nat} {xs : Nat → Int32} {ad r md : Nat → Nat} {R : Nat → Nat → Int32} {T U tx Am Wk Mo bt : Nat → Int32} {th sz ml : Int32} {g : Nat → Int64} (hX : va_X b L xs s s.heap) (hbl : b < s.heap.size) (hbA : ¬ A b) (hL : L ≤ 2048) (hi : i + 4 ≤ L) (hI : LI n R Am cp cn bt) (hc9 : c9 + 544 ≤ 601024) (hs9 : s9 + 6944 ≤ 7293034) (hnext : ∀ (n' cp' cn' v' c' s' : Nat) (R' : Nat → Nat → Int32) (T' U' tx' Am' Wk' Mo' bt' : Nat → Int32) (th' sz' ml' : Int32) (g' : Nat → Int64), LI n' R' Am' cp' cn' bt' → c' ≤ c9 + 544 → s' ≤ s9 + 6944 → WP p l e (room_1) s m args below meth c D A 9 (KW k ad r (nI n') R' T' U' tx' sz' ((oa, aL k 1 g') :: (MW k md th' (nI n') Am' Wk' Mo' v' cp' bt' ml' (nI cn') []))) [(0, .ref b), (1, .ref (ad 0)), (2, .ref (md 0)), (3, .ref oa), (4, .int (nI i))] c' s' Q 1932 []) : WP p l e (room_1) s m args below meth c D A 9 (KW k ad r (nI n) R T U tx sz ((oa, aL k 1 g) :: (MW k md th (nI n) Am Wk Mo v cp bt ml (nI cn) []))) [(0, .ref b), (1, .ref (ad 0)), (2, .ref (md 0)), (3, .ref oa), (4, .int (nI i))] c9 s9 Q 1566 [] := by
  obtain ⟨hn, hrel, hok, hft, hm⟩ := hI
  have hvv : e1 n (xs (i + 1)) = 0 → (nI (tx_ (R (ix (xs (i + 1))))).length).toInt64 = (nI (tx_ (mrow Am (ix (xs (i + 1))))).length).toInt64 := fun he => by
    have hrc := isR_ix hn (e1_t he)
    rw [hrel _ hrc]
  refine p_aload_n C rfl 1 rfl dL_law_1566 ?_
  refine p_aload_n C rfl 0 rfl dL_law_1567 ?_
  refine p_iload C 4 rfl dL_law_1568 ?_
  refine p_iconst (v := (nI 1)) C (by decide) dL_law_1570 ?_
  refine p_iadd C dL_law_1571 ?_
  refine p_int (y := (nI (i + 1))) (nI_add _ _) ?_
  refine p_sld (x := xs (i + 1)) C hX hbl hbA (vp_in_nI (by omega) (by omega)) (congrArg xs (nI_clamp (by omega))) dL_law_1572 ?_
  refine p_aload_n C rfl 3 rfl dL_law_1573 ?_
  refine c_Wi (As := [.ref (ad 0), .int (xs (i + 1)), .ref oa]) (rest := []) C (m_L_textLength l D k hfl (hn := hn)) qml_L_187 qst_L_textLength qin_L qco_L_textLength nd_L_textLength ⟨Nat.le_of_ble_eq_true rfl, Nat.le_of_ble_eq_true rfl⟩ (Nat.le_of_ble_eq_true rfl) ⟨by (try simp only [rmL_c, rmL_s, room_c, room_s]); omega, by (try simp only [rmL_c, rmL_s, room_c, room_s]); omega⟩ rfl dL_law_1574 (fun r9 w9 h9 => ?_)
  obtain ⟨e9, T9, U9, tx9, sz9, g9, rfl, hv9⟩ := h9
  refine p_int e9 ?_
  by_cases he : e1 n (xs (i + 1)) = 0
  · have heM : e1 n (xs (i + 1)) = e1 n (xs (i + 1)) := rfl
    have hrc := isR_ix hn (e1_t he)
    refine p_w (w9 := (KW k ad r (nI n) R T9 U9 tx9 sz9 ((oa, aL k 1 g9) :: (MW k md th (nI n) Am Wk Mo v cp bt ml (nI cn) [])))) (by rw [he, sel_0, sel_0]) ?_
    have hv := hv9 he
    refine p_int (y := 0) he ?_
    refine p_istore (lv9 := [(5, .int 0), (0, .ref b), (1, .ref (ad 0)), (2, .ref (md 0)), (3, .ref oa), (4, .int (nI i))]) C (by decide) rfl dL_law_1577 ?_
    refine p_aload_n C rfl 3 rfl dL_law_1579 ?_
    refine p_aload_n C rfl 1 rfl dL_law_1580 ?_
    refine p_iload C 5 rfl dL_law_1581 ?_
    refine p_iconst (v := (nI 1)) C (by decide) dL_law_1583 ?_
    refine p_iadd C dL_law_1584 ?_
    refine p_int (y := (nI (i + 1))) (nI_add _ _) ?_
    refine p_sld (x := xs (i + 1)) C hX hbl hbA (vp_in_nI (by omega) (by omega)) (congrArg xs (nI_clamp (by omega))) dL_law_1585 ?_
    refine p_toM ?_
    refine c_Vi (As := [.int (xs (i + 1))]) (rest := []) C (m_X3_textLength l D k hn hok hft hm) 0 rfl rfl rfl qml_L_189 qim_X3_textLength qse_X3_X3_textLength qin_X3 qco_X3_textLength nd_X3_textLength ⟨Nat.le_of_ble_eq_true rfl, Nat.le_of_ble_eq_true rfl⟩ (Nat.le_of_ble_eq_true rfl) ⟨by (try simp only [rmL_c, rmL_s, room_c, room_s]); omega, by (try simp only [rmL_c, rmL_s, room_c, room_s]); omega⟩ rfl dL_law_1586 (fun r9 w9 h9 => ?_)
    obtain ⟨v8, cp8, bt8, ml8, cn8, hok8, hft8, hm8, rfl, hvM⟩ := h9
    refine p_w (w9 := (MW k md 0 (nI n) Am Wk Mo v8 cp8 bt8 ml8 (nI cn8) (KW k ad r (nI n) R T9 U9 tx9 sz9 [(oa, aL k 1 g9)]))) (by rw [heM.trans he]) ?_
    refine p_int (y := nI (tx_ (mrow Am (ix (xs (i + 1))))).length) (hvM (heM.trans he)) ?_
    refine p_istore (lv9 := [(6, .int (nI (tx_ (mrow Am (ix (xs (i + 1))))).length)), (5, .int 0), (0, .ref b), (1, .ref (ad 0)), (2, .ref (md 0)), (3, .ref oa), (4, .int (nI i))]) C (by decide) rfl dL_law_1589 ?_
    refine p_aload_n C rfl 4 rfl dL_law_1591 ?_
    refine c_Vi (As := []) (rest := []) C (m_X3_thrown l D k ) 0 rfl rfl rfl qml_L_114 qim_X3_thrown qse_X3_X3_thrown qin_X3 qco_X3_thrown nd_X3_thrown ⟨Nat.le_of_ble_eq_true rfl, Nat.le_of_ble_eq_true rfl⟩ (Nat.le_of_ble_eq_true rfl) ⟨by (try simp only [rmL_c, rmL_s, room_c, room_s]); omega, by (try simp only [rmL_c, rmL_s, room_c, room_s]); omega⟩ rfl dL_law_1592 (fun r9 w9 h9 => ?_)
    obtain ⟨e9, rfl⟩ := h9
    refine p_int e9 ?_
    refine p_toK ?_
    refine p_iload C 1 rfl dL_law_1595 ?_
    refine p_icmp_eq C 1602 (by decide) dL_law_1597 (fun c_1597 => ?_) (fun c_1597 => absurd rfl c_1597)
    refine p_iload C 1 rfl dL_law_1602 ?_
    refine p_if_ne C 1619 (by decide) dL_law_1604 (fun c_1604 => absurd c_1604 (fun z9 => z9 rfl)) (fun c_1604 => ?_)
    refine p_aload_n C rfl 5 rfl dL_law_1607 ?_
    refine p_iconst (v := 0) C (by decide) dL_law_1608 ?_
    refine p_lald (v := (g9 0)) C 22 KW_y (vp_in_nI (n := 0) (N := 1) (by omega) (by omega)) (by rw [show (0 : Int32).toNatClampNeg = 0 from rfl]) dL_law_1609 ?_
    refine p_iload C 0 rfl dL_law_1610 ?_
    refine p_i2l C dL_law_1612 ?_
    refine p_lcmp C dL_law_1613 ?_
    refine p_if_eq C 1619 (by decide) dL_law_1614 (fun c_1614 => ?_) (fun c_1614 => absurd ((lg_cmp_eq _ _).mpr (hv.trans (hvv he))) c_1614)
    refine p_goto C 1932 (by decide) dL_law_1619 ?_
    refine p_lv (lv9 := [(0, .ref b), (1, .ref (ad 0)), (2, .ref (md 0)), (3, .ref oa), (4, .int (nI i))]) [2, 3, 4, 5, 6] rfl ?_
    exact hnext _ _ _ _ _ _ _ _ _ _ _ _ _ _ _ _ _ _ ⟨hn, hrel, hok8, hft8, hm8⟩ (by (try simp only [rmL_c, rmL_s, room_c, room_s]); omega) (by (try simp only [rmL_c, rmL_s, room_c, room_s]); omega)
  · have heM : e1 n (xs (i + 1)) = e1 n (xs (i + 1)) := rfl
    refine p_w (w9 := (KW k ad r (nI n) R T9 U9 tx9 sz9 ((oa, aL k 1 g9) :: (MW k md th (nI n) Am Wk Mo v cp bt ml (nI cn) [])))) (by rw [sel_n he, sel_n he]) ?_
    refine p_istore (lv9 := [(5, .int (e1 n (xs (i + 1)))), (0, .ref b), (1, .ref (ad 0)), (2, .ref (md 0)), (3, .ref oa), (4, .int (nI i))]) C (by decide) rfl dL_law_1577 ?_
    refine p_aload_n C rfl 3 rfl dL_law_1579 ?_
    refine p_aload_n C rfl 1 rfl dL_law_1580 ?_
    refine p_iload C 5 rfl dL_law_1581 ?_
    refine p_iconst (v := (nI 1)) C (by decide) dL_law_1583 ?_
    refine p_iadd C dL_law_1584 ?_
    refine p_int (y := (nI (i + 1))) (nI_add _ _) ?_
    refine p_sld (x := xs (i + 1)) C hX hbl hbA (vp_in_nI (by omega) (by omega)) (congrArg xs (nI_clamp (by omega))) dL_law_1585 ?_
    refine p_toM ?_
    refine c_Vi (As := [.int (xs (i + 1))]) (rest := []) C (m_X3_textLength l D k hn hok hft hm) 0 rfl rfl rfl qml_L_189 qim_X3_textLength qse_X3_X3_textLength qin_X3 qco_X3_textLength nd_X3_textLength ⟨Nat.le_of_ble_eq_true rfl, Nat.le_of_ble_eq_true rfl⟩ (Nat.le_of_ble_eq_true rfl) ⟨by (try simp only [rmL_c, rmL_s, room_c, room_s]); omega, by (try simp only [rmL_c, rmL_s, room_c, room_s]); omega⟩ rfl dL_law_1586 (fun r9 w9 h9 => ?_)
    obtain ⟨v8, cp8, bt8, ml8, cn8, hok8, hft8, hm8, rfl, hvM⟩ := h9
    refine p_w (w9 := (MW k md (e1 n (xs (i + 1))) (nI n) Am Wk Mo v8 cp8 bt8 ml8 (nI cn8) (KW k ad r (nI n) R T9 U9 tx9 sz9 [(oa, aL k 1 g9)]))) (by rw [heM]) ?_
    refine p_istore (lv9 := [(6, .int r9), (5, .int (e1 n (xs (i + 1)))), (0, .ref b), (1, .ref (ad 0)), (2, .ref (md 0)), (3, .ref oa), (4, .int (nI i))]) C (by decide) rfl dL_law_1589 ?_
    refine p_aload_n C rfl 4 rfl dL_law_1591 ?_
    refine c_Vi (As := []) (rest := []) C (m_X3_thrown l D k ) 0 rfl rfl rfl qml_L_114 qim_X3_thrown qse_X3_X3_thrown qin_X3 qco_X3_thrown nd_X3_thrown ⟨Nat.le_of_ble_eq_true rfl, Nat.le_of_ble_eq_true rfl⟩ (Nat.le_of_ble_eq_true rfl) ⟨by (try simp only [rmL_c, rmL_s, room_c, room_s]); omega, by (try simp only [rmL_c, rmL_s, room_c, room_s]); omega⟩ rfl dL_law_1592 (fun r9 w9 h9 => ?_)
    obtain ⟨e9, rfl⟩ := h9
    refine p_int e9 ?_
    refine p_toK ?_
    refine p_iload C 1 rfl dL_law_1595 ?_
    refine p_icmp_eq C 1602 (by decide) dL_law_1597 (fun c_1597 => ?_) (fun c_1597 => absurd rfl c_1597)
    refine p_iload C 1 rfl dL_law_1602 ?_
    refine p_if_ne C 1619 (by decide) dL_law_1604 (fun c_1604 => ?_) (fun c_1604 => absurd c_1604 he)
    refine p_goto C 1932 (by decide) dL_law_1619 ?_
    refine p_lv (lv9 := [(0, .ref b), (1, .ref (ad 0)), (2, .ref (md 0)), (3, .ref oa), (4, .int (nI i))]) [2, 3, 4, 5, 6] rfl ?_
    exact hnext _ _ _ _ _ _ _ _ _ _ _ _ _ _ _ _ _ _ ⟨hn, hrel, hok8, hft8, hm8⟩ (by (try simp only [rmL_c, rmL_s, room_c, room_s]); omega) (by (try simp only [rmL_c, rmL_s, room_c, room_s]); omega)
set_option maxHeartbeats 4000000 in
set_option maxRecDepth 100000 in
/-- the law at textAt -/
theorem lc_textAt {p : Program} {l : Launch} {e : Env} {s : State} {m : MethodId} {args : Array Value} {below : List Frame} {meth : Method} {c : Code} {D : va_G} {A : Nat → Prop} {k : Nat → ClassId} {Q : State → Prop} (C : Cx p s m args meth c cL_law 9 RL A D k) (hfl : l.stackTraces = false) {b L i oa n cp cn v c9 s9 : Nat} {xs : Nat → Int32} {ad r md : Nat → Nat} {R : Nat → Nat → Int32} {T U tx Am Wk Mo bt : Nat → Int32} {th sz ml : Int32} {g : Nat → Int64} (hX : va_X b L xs s s.heap) (hbl : b < s.heap.size) (hbA : ¬ A b) (hL : L ≤ 2048) (hi : i + 4 ≤ L) (hI : LI n R Am cp cn bt) (hc9 : c9 + 544 ≤ 601024) (hs9 : s9 + 6944 ≤ 7293034) (hnext : ∀ (n' cp' cn' v' c' s' : Nat) (R' : Nat → Nat → Int32) (T' U' tx' Am' Wk' Mo' bt' : Nat → Int32) (th' sz' ml' : Int32) (g' : Nat → Int64), LI n' R' Am' cp' cn' bt' → c' ≤ c9 + 544 → s' ≤ s9 + 6944 → WP p l e (room_1) s m args below meth c D A 9 (KW k ad r (nI n') R' T' U' tx' sz' ((oa, aL k 1 g') :: (MW k md th' (nI n') Am' Wk' Mo' v' cp' bt' ml' (nI cn') []))) [(0, .ref b), (1, .ref (ad 0)), (2, .ref (md 0)), (3, .ref oa), (4, .int (nI i))] c' s' Q 1932 []) : WP p l e (room_1) s m args below meth c D A 9 (KW k ad r (nI n) R T U tx sz ((oa, aL k 1 g) :: (MW k md th (nI n) Am Wk Mo v cp bt ml (nI cn) []))) [(0, .ref b), (1, .ref (ad 0)), (2, .ref (md 0)), (3, .ref oa), (4, .int (nI i))] c9 s9 Q 1622 [] := by
  obtain ⟨hn, hrel, hok, hft, hm⟩ := hI
  have hvv : eTA n R (xs (i + 1)) (xs (i + 2)) = 0 → (nI ((tx_ (R (ix (xs (i + 1))))).getD (ix (xs (i + 2))) 0)).toInt64 = (nI ((tx_ (mrow Am (ix (xs (i + 1))))).getD (ix (xs (i + 2))) 0)).toInt64 := fun he => by
    have hrc := isR_ix hn (cv_eTA he)
    rw [hrel _ hrc]
  refine p_aload_n C rfl 1 rfl dL_law_1622 ?_
  refine p_aload_n C rfl 0 rfl dL_law_1623 ?_
  refine p_iload C 4 rfl dL_law_1624 ?_
  refine p_iconst (v := (nI 1)) C (by decide) dL_law_1626 ?_
  refine p_iadd C dL_law_1627 ?_
  refine p_int (y := (nI (i + 1))) (nI_add _ _) ?_
  refine p_sld (x := xs (i + 1)) C hX hbl hbA (vp_in_nI (by omega) (by omega)) (congrArg xs (nI_clamp (by omega))) dL_law_1628 ?_
  refine p_aload_n C rfl 0 rfl dL_law_1629 ?_
  refine p_iload C 4 rfl dL_law_1630 ?_
  refine p_iconst (v := (nI 2)) C (by decide) dL_law_1632 ?_
  refine p_iadd C dL_law_1633 ?_
  refine p_int (y := (nI (i + 2))) (nI_add _ _) ?_
  refine p_sld (x := xs (i + 2)) C hX hbl hbA (vp_in_nI (by omega) (by omega)) (congrArg xs (nI_clamp (by omega))) dL_law_1634 ?_
  refine p_aload_n C rfl 3 rfl dL_law_1635 ?_
  refine c_Wi (As := [.ref (ad 0), .int (xs (i + 1)), .int (xs (i + 2)), .ref oa]) (rest := []) C (m_L_textAt l D k hfl (hn := hn)) qml_L_190 qst_L_textAt qin_L qco_L_textAt nd_L_textAt ⟨Nat.le_of_ble_eq_true rfl, Nat.le_of_ble_eq_true rfl⟩ (Nat.le_of_ble_eq_true rfl) ⟨by (try simp only [rmL_c, rmL_s, room_c, room_s]); omega, by (try simp only [rmL_c, rmL_s, room_c, room_s]); omega⟩ rfl dL_law_1636 (fun r9 w9 h9 => ?_)
  obtain ⟨e9, T9, U9, tx9, sz9, g9, rfl, hv9⟩ := h9
  refine p_int e9 ?_
  by_cases he : eTA n R (xs (i + 1)) (xs (i + 2)) = 0
  · have heM : eTA n (mrow Am) (xs (i + 1)) (xs (i + 2)) = eTA n R (xs (i + 1)) (xs (i + 2)) := (eTA_c hn hrel _ _).symm
    have hrc := isR_ix hn (cv_eTA he)
    refine p_w (w9 := (KW k ad r (nI n) R T9 U9 tx9 sz9 ((oa, aL k 1 g9) :: (MW k md th (nI n) Am Wk Mo v cp bt ml (nI cn) [])))) (by rw [he, sel_0, sel_0]) ?_
    have hv := hv9 he
    refine p_int (y := 0) he ?_
    refine p_istore (lv9 := [(5, .int 0), (0, .ref b), (1, .ref (ad 0)), (2, .ref (md 0)), (3, .ref oa), (4, .int (nI i))]) C (by decide) rfl dL_law_1639 ?_
    refine p_aload_n C rfl 3 rfl dL_law_1641 ?_
    refine p_aload_n C rfl 1 rfl dL_law_1642 ?_
    refine p_iload C 5 rfl dL_law_1643 ?_
    refine p_iconst (v := (nI 1)) C (by decide) dL_law_1645 ?_
    refine p_iadd C dL_law_1646 ?_
    refine p_int (y := (nI (i + 1))) (nI_add _ _) ?_
    refine p_sld (x := xs (i + 1)) C hX hbl hbA (vp_in_nI (by omega) (by omega)) (congrArg xs (nI_clamp (by omega))) dL_law_1647 ?_
    refine p_aload_n C rfl 1 rfl dL_law_1648 ?_
    refine p_iload C 5 rfl dL_law_1649 ?_
    refine p_iconst (v := (nI 2)) C (by decide) dL_law_1651 ?_
    refine p_iadd C dL_law_1652 ?_
    refine p_int (y := (nI (i + 2))) (nI_add _ _) ?_
    refine p_sld (x := xs (i + 2)) C hX hbl hbA (vp_in_nI (by omega) (by omega)) (congrArg xs (nI_clamp (by omega))) dL_law_1653 ?_
    refine p_toM ?_
    refine c_Vi (As := [.int (xs (i + 1)), .int (xs (i + 2))]) (rest := []) C (m_X3_textAt l D k hn hok hft hm) 0 rfl rfl rfl qml_L_192 qim_X3_textAt qse_X3_X3_textAt qin_X3 qco_X3_textAt nd_X3_textAt ⟨Nat.le_of_ble_eq_true rfl, Nat.le_of_ble_eq_true rfl⟩ (Nat.le_of_ble_eq_true rfl) ⟨by (try simp only [rmL_c, rmL_s, room_c, room_s]); omega, by (try simp only [rmL_c, rmL_s, room_c, room_s]); omega⟩ rfl dL_law_1654 (fun r9 w9 h9 => ?_)
    obtain ⟨v8, cp8, bt8, ml8, cn8, hok8, hft8, hm8, rfl, hvM⟩ := h9
    refine p_w (w9 := (MW k md 0 (nI n) Am Wk Mo v8 cp8 bt8 ml8 (nI cn8) (KW k ad r (nI n) R T9 U9 tx9 sz9 [(oa, aL k 1 g9)]))) (by rw [heM.trans he]) ?_
    refine p_int (y := nI ((tx_ (mrow Am (ix (xs (i + 1))))).getD (ix (xs (i + 2))) 0)) (hvM (heM.trans he)) ?_
    refine p_istore (lv9 := [(6, .int (nI ((tx_ (mrow Am (ix (xs (i + 1))))).getD (ix (xs (i + 2))) 0))), (5, .int 0), (0, .ref b), (1, .ref (ad 0)), (2, .ref (md 0)), (3, .ref oa), (4, .int (nI i))]) C (by decide) rfl dL_law_1657 ?_
    refine p_aload_n C rfl 4 rfl dL_law_1659 ?_
    refine c_Vi (As := []) (rest := []) C (m_X3_thrown l D k ) 0 rfl rfl rfl qml_L_114 qim_X3_thrown qse_X3_X3_thrown qin_X3 qco_X3_thrown nd_X3_thrown ⟨Nat.le_of_ble_eq_true rfl, Nat.le_of_ble_eq_true rfl⟩ (Nat.le_of_ble_eq_true rfl) ⟨by (try simp only [rmL_c, rmL_s, room_c, room_s]); omega, by (try simp only [rmL_c, rmL_s, room_c, room_s]); omega⟩ rfl dL_law_1660 (fun r9 w9 h9 => ?_)
    obtain ⟨e9, rfl⟩ := h9
    refine p_int e9 ?_
    refine p_toK ?_
    refine p_iload C 1 rfl dL_law_1663 ?_
    refine p_icmp_eq C 1670 (by decide) dL_law_1665 (fun c_1665 => ?_) (fun c_1665 => absurd rfl c_1665)
    refine p_iload C 1 rfl dL_law_1670 ?_
    refine p_if_ne C 1687 (by decide) dL_law_1672 (fun c_1672 => absurd c_1672 (fun z9 => z9 rfl)) (fun c_1672 => ?_)
    refine p_aload_n C rfl 5 rfl dL_law_1675 ?_
    refine p_iconst (v := 0) C (by decide) dL_law_1676 ?_
    refine p_lald (v := (g9 0)) C 22 KW_y (vp_in_nI (n := 0) (N := 1) (by omega) (by omega)) (by rw [show (0 : Int32).toNatClampNeg = 0 from rfl]) dL_law_1677 ?_
    refine p_iload C 0 rfl dL_law_1678 ?_
    refine p_i2l C dL_law_1680 ?_
    refine p_lcmp C dL_law_1681 ?_
    refine p_if_eq C 1687 (by decide) dL_law_1682 (fun c_1682 => ?_) (fun c_1682 => absurd ((lg_cmp_eq _ _).mpr (hv.trans (hvv he))) c_1682)
    refine p_goto C 1932 (by decide) dL_law_1687 ?_
    refine p_lv (lv9 := [(0, .ref b), (1, .ref (ad 0)), (2, .ref (md 0)), (3, .ref oa), (4, .int (nI i))]) [2, 3, 4, 5, 6] rfl ?_
    exact hnext _ _ _ _ _ _ _ _ _ _ _ _ _ _ _ _ _ _ ⟨hn, hrel, hok8, hft8, hm8⟩ (by (try simp only [rmL_c, rmL_s, room_c, room_s]); omega) (by (try simp only [rmL_c, rmL_s, room_c, room_s]); omega)
  · have heM : eTA n (mrow Am) (xs (i + 1)) (xs (i + 2)) = eTA n R (xs (i + 1)) (xs (i + 2)) := (eTA_c hn hrel _ _).symm
    refine p_w (w9 := (KW k ad r (nI n) R T9 U9 tx9 sz9 ((oa, aL k 1 g9) :: (MW k md th (nI n) Am Wk Mo v cp bt ml (nI cn) [])))) (by rw [sel_n he, sel_n he]) ?_
    refine p_istore (lv9 := [(5, .int (eTA n R (xs (i + 1)) (xs (i + 2)))), (0, .ref b), (1, .ref (ad 0)), (2, .ref (md 0)), (3, .ref oa), (4, .int (nI i))]) C (by decide) rfl dL_law_1639 ?_
    refine p_aload_n C rfl 3 rfl dL_law_1641 ?_
    refine p_aload_n C rfl 1 rfl dL_law_1642 ?_
    refine p_iload C 5 rfl dL_law_1643 ?_
    refine p_iconst (v := (nI 1)) C (by decide) dL_law_1645 ?_
    refine p_iadd C dL_law_1646 ?_
    refine p_int (y := (nI (i + 1))) (nI_add _ _) ?_
    refine p_sld (x := xs (i + 1)) C hX hbl hbA (vp_in_nI (by omega) (by omega)) (congrArg xs (nI_clamp (by omega))) dL_law_1647 ?_
    refine p_aload_n C rfl 1 rfl dL_law_1648 ?_
    refine p_iload C 5 rfl dL_law_1649 ?_
    refine p_iconst (v := (nI 2)) C (by decide) dL_law_1651 ?_
    refine p_iadd C dL_law_1652 ?_
    refine p_int (y := (nI (i + 2))) (nI_add _ _) ?_
    refine p_sld (x := xs (i + 2)) C hX hbl hbA (vp_in_nI (by omega) (by omega)) (congrArg xs (nI_clamp (by omega))) dL_law_1653 ?_
    refine p_toM ?_
    refine c_Vi (As := [.int (xs (i + 1)), .int (xs (i + 2))]) (rest := []) C (m_X3_textAt l D k hn hok hft hm) 0 rfl rfl rfl qml_L_192 qim_X3_textAt qse_X3_X3_textAt qin_X3 qco_X3_textAt nd_X3_textAt ⟨Nat.le_of_ble_eq_true rfl, Nat.le_of_ble_eq_true rfl⟩ (Nat.le_of_ble_eq_true rfl) ⟨by (try simp only [rmL_c, rmL_s, room_c, room_s]); omega, by (try simp only [rmL_c, rmL_s, room_c, room_s]); omega⟩ rfl dL_law_1654 (fun r9 w9 h9 => ?_)
    obtain ⟨v8, cp8, bt8, ml8, cn8, hok8, hft8, hm8, rfl, hvM⟩ := h9
    refine p_w (w9 := (MW k md (eTA n R (xs (i + 1)) (xs (i + 2))) (nI n) Am Wk Mo v8 cp8 bt8 ml8 (nI cn8) (KW k ad r (nI n) R T9 U9 tx9 sz9 [(oa, aL k 1 g9)]))) (by rw [heM]) ?_
    refine p_istore (lv9 := [(6, .int r9), (5, .int (eTA n R (xs (i + 1)) (xs (i + 2)))), (0, .ref b), (1, .ref (ad 0)), (2, .ref (md 0)), (3, .ref oa), (4, .int (nI i))]) C (by decide) rfl dL_law_1657 ?_
    refine p_aload_n C rfl 4 rfl dL_law_1659 ?_
    refine c_Vi (As := []) (rest := []) C (m_X3_thrown l D k ) 0 rfl rfl rfl qml_L_114 qim_X3_thrown qse_X3_X3_thrown qin_X3 qco_X3_thrown nd_X3_thrown ⟨Nat.le_of_ble_eq_true rfl, Nat.le_of_ble_eq_true rfl⟩ (Nat.le_of_ble_eq_true rfl) ⟨by (try simp only [rmL_c, rmL_s, room_c, room_s]); omega, by (try simp only [rmL_c, rmL_s, room_c, room_s]); omega⟩ rfl dL_law_1660 (fun r9 w9 h9 => ?_)
    obtain ⟨e9, rfl⟩ := h9
    refine p_int e9 ?_
    refine p_toK ?_
    refine p_iload C 1 rfl dL_law_1663 ?_
    refine p_icmp_eq C 1670 (by decide) dL_law_1665 (fun c_1665 => ?_) (fun c_1665 => absurd rfl c_1665)
    refine p_iload C 1 rfl dL_law_1670 ?_
    refine p_if_ne C 1687 (by decide) dL_law_1672 (fun c_1672 => ?_) (fun c_1672 => absurd c_1672 he)
    refine p_goto C 1932 (by decide) dL_law_1687 ?_
    refine p_lv (lv9 := [(0, .ref b), (1, .ref (ad 0)), (2, .ref (md 0)), (3, .ref oa), (4, .int (nI i))]) [2, 3, 4, 5, 6] rfl ?_
    exact hnext _ _ _ _ _ _ _ _ _ _ _ _ _ _ _ _ _ _ ⟨hn, hrel, hok8, hft8, hm8⟩ (by (try simp only [rmL_c, rmL_s, room_c, room_s]); omega) (by (try simp only [rmL_c, rmL_s, room_c, room_s]); omega)
set_option maxHeartbeats 4000000 in
set_option maxRecDepth 100000 in
/-- the law at isPartOf -/
theorem lc_isPartOf {p : Program} {l : Launch} {e : Env} {s : State} {m : MethodId} {args : Array Value} {below : List Frame} {meth : Method} {c : Code} {D : va_G} {A : Nat → Prop} {k : Nat → ClassId} {Q : State → Prop} (C : Cx p s m args meth c cL_law 9 RL A D k) (hfl : l.stackTraces = false) {b L i oa n cp cn v c9 s9 : Nat} {xs : Nat → Int32} {ad r md : Nat → Nat} {R : Nat → Nat → Int32} {T U tx Am Wk Mo bt : Nat → Int32} {th sz ml : Int32} {g : Nat → Int64} (hX : va_X b L xs s s.heap) (hbl : b < s.heap.size) (hbA : ¬ A b) (hL : L ≤ 2048) (hi : i + 4 ≤ L) (hI : LI n R Am cp cn bt) (hc9 : c9 + 544 ≤ 601024) (hs9 : s9 + 6944 ≤ 7293034) (hnext : ∀ (n' cp' cn' v' c' s' : Nat) (R' : Nat → Nat → Int32) (T' U' tx' Am' Wk' Mo' bt' : Nat → Int32) (th' sz' ml' : Int32) (g' : Nat → Int64), LI n' R' Am' cp' cn' bt' → c' ≤ c9 + 544 → s' ≤ s9 + 6944 → WP p l e (room_1) s m args below meth c D A 9 (KW k ad r (nI n') R' T' U' tx' sz' ((oa, aL k 1 g') :: (MW k md th' (nI n') Am' Wk' Mo' v' cp' bt' ml' (nI cn') []))) [(0, .ref b), (1, .ref (ad 0)), (2, .ref (md 0)), (3, .ref oa), (4, .int (nI i))] c' s' Q 1932 []) : WP p l e (room_1) s m args below meth c D A 9 (KW k ad r (nI n) R T U tx sz ((oa, aL k 1 g) :: (MW k md th (nI n) Am Wk Mo v cp bt ml (nI cn) []))) [(0, .ref b), (1, .ref (ad 0)), (2, .ref (md 0)), (3, .ref oa), (4, .int (nI i))] c9 s9 Q 1690 [] := by
  obtain ⟨hn, hrel, hok, hft, hm⟩ := hI
  have hvv : e2 n (xs (i + 1)) (xs (i + 2)) = 0 → (bI (ipo (R (ix (xs (i + 1)))) (R (ix (xs (i + 2)))))).toInt64 = (bI (ipo (mrow Am (ix (xs (i + 1)))) (mrow Am (ix (xs (i + 2)))))).toInt64 := fun he => by
    obtain ⟨hra, hrb⟩ := cv_e2 hn he
    rw [hrel _ hra, hrel _ hrb]
  refine p_aload_n C rfl 1 rfl dL_law_1690 ?_
  refine p_aload_n C rfl 0 rfl dL_law_1691 ?_
  refine p_iload C 4 rfl dL_law_1692 ?_
  refine p_iconst (v := (nI 1)) C (by decide) dL_law_1694 ?_
  refine p_iadd C dL_law_1695 ?_
  refine p_int (y := (nI (i + 1))) (nI_add _ _) ?_
  refine p_sld (x := xs (i + 1)) C hX hbl hbA (vp_in_nI (by omega) (by omega)) (congrArg xs (nI_clamp (by omega))) dL_law_1696 ?_
  refine p_aload_n C rfl 0 rfl dL_law_1697 ?_
  refine p_iload C 4 rfl dL_law_1698 ?_
  refine p_iconst (v := (nI 2)) C (by decide) dL_law_1700 ?_
  refine p_iadd C dL_law_1701 ?_
  refine p_int (y := (nI (i + 2))) (nI_add _ _) ?_
  refine p_sld (x := xs (i + 2)) C hX hbl hbA (vp_in_nI (by omega) (by omega)) (congrArg xs (nI_clamp (by omega))) dL_law_1702 ?_
  refine p_aload_n C rfl 3 rfl dL_law_1703 ?_
  refine c_Wi (As := [.ref (ad 0), .int (xs (i + 1)), .int (xs (i + 2)), .ref oa]) (rest := []) C (m_L_isPartOf l D k hfl (hn := hn)) qml_L_193 qst_L_isPartOf qin_L qco_L_isPartOf nd_L_isPartOf ⟨Nat.le_of_ble_eq_true rfl, Nat.le_of_ble_eq_true rfl⟩ (Nat.le_of_ble_eq_true rfl) ⟨by (try simp only [rmL_c, rmL_s, room_c, room_s]); omega, by (try simp only [rmL_c, rmL_s, room_c, room_s]); omega⟩ rfl dL_law_1704 (fun r9 w9 h9 => ?_)
  obtain ⟨e9, T9, U9, tx9, sz9, g9, rfl, hv9⟩ := h9
  refine p_int e9 ?_
  by_cases he : e2 n (xs (i + 1)) (xs (i + 2)) = 0
  · have heM : e2 n (xs (i + 1)) (xs (i + 2)) = e2 n (xs (i + 1)) (xs (i + 2)) := rfl
    obtain ⟨hra, hrb⟩ := cv_e2 hn he
    refine p_w (w9 := (KW k ad r (nI n) R T9 U9 tx9 sz9 ((oa, aL k 1 g9) :: (MW k md th (nI n) Am Wk Mo v cp bt ml (nI cn) [])))) (by rw [he, sel_0, sel_0]) ?_
    have hv := hv9 he
    refine p_int (y := 0) he ?_
    refine p_istore (lv9 := [(5, .int 0), (0, .ref b), (1, .ref (ad 0)), (2, .ref (md 0)), (3, .ref oa), (4, .int (nI i))]) C (by decide) rfl dL_law_1707 ?_
    refine p_aload_n C rfl 3 rfl dL_law_1709 ?_
    refine p_aload_n C rfl 1 rfl dL_law_1710 ?_
    refine p_iload C 5 rfl dL_law_1711 ?_
    refine p_iconst (v := (nI 1)) C (by decide) dL_law_1713 ?_
    refine p_iadd C dL_law_1714 ?_
    refine p_int (y := (nI (i + 1))) (nI_add _ _) ?_
    refine p_sld (x := xs (i + 1)) C hX hbl hbA (vp_in_nI (by omega) (by omega)) (congrArg xs (nI_clamp (by omega))) dL_law_1715 ?_
    refine p_aload_n C rfl 1 rfl dL_law_1716 ?_
    refine p_iload C 5 rfl dL_law_1717 ?_
    refine p_iconst (v := (nI 2)) C (by decide) dL_law_1719 ?_
    refine p_iadd C dL_law_1720 ?_
    refine p_int (y := (nI (i + 2))) (nI_add _ _) ?_
    refine p_sld (x := xs (i + 2)) C hX hbl hbA (vp_in_nI (by omega) (by omega)) (congrArg xs (nI_clamp (by omega))) dL_law_1721 ?_
    refine p_toM ?_
    refine c_Vi (As := [.int (xs (i + 1)), .int (xs (i + 2))]) (rest := []) C (m_X3_isPartOf l D k hn) 0 rfl rfl rfl qml_L_195 qim_X3_isPartOf qse_X3_X3_isPartOf qin_X3 qco_X3_isPartOf nd_X3_isPartOf ⟨Nat.le_of_ble_eq_true rfl, Nat.le_of_ble_eq_true rfl⟩ (Nat.le_of_ble_eq_true rfl) ⟨by (try simp only [rmL_c, rmL_s, room_c, room_s]); omega, by (try simp only [rmL_c, rmL_s, room_c, room_s]); omega⟩ rfl dL_law_1722 (fun r9 w9 h9 => ?_)
    obtain ⟨Wk8, Mo8, rfl, hvM⟩ := h9
    refine p_w (w9 := (MW k md 0 (nI n) Am Wk8 Mo8 v cp bt ml (nI cn) (KW k ad r (nI n) R T9 U9 tx9 sz9 [(oa, aL k 1 g9)]))) (by rw [heM.trans he]) ?_
    refine p_int (y := bI (ipo (mrow Am (ix (xs (i + 1)))) (mrow Am (ix (xs (i + 2)))))) (hvM (heM.trans he)) ?_
    refine p_istore (lv9 := [(6, .int (bI (ipo (mrow Am (ix (xs (i + 1)))) (mrow Am (ix (xs (i + 2))))))), (5, .int 0), (0, .ref b), (1, .ref (ad 0)), (2, .ref (md 0)), (3, .ref oa), (4, .int (nI i))]) C (by decide) rfl dL_law_1725 ?_
    refine p_aload_n C rfl 4 rfl dL_law_1727 ?_
    refine c_Vi (As := []) (rest := []) C (m_X3_thrown l D k ) 0 rfl rfl rfl qml_L_114 qim_X3_thrown qse_X3_X3_thrown qin_X3 qco_X3_thrown nd_X3_thrown ⟨Nat.le_of_ble_eq_true rfl, Nat.le_of_ble_eq_true rfl⟩ (Nat.le_of_ble_eq_true rfl) ⟨by (try simp only [rmL_c, rmL_s, room_c, room_s]); omega, by (try simp only [rmL_c, rmL_s, room_c, room_s]); omega⟩ rfl dL_law_1728 (fun r9 w9 h9 => ?_)
    obtain ⟨e9, rfl⟩ := h9
    refine p_int e9 ?_
    refine p_toK ?_
    refine p_iload C 1 rfl dL_law_1731 ?_
    refine p_icmp_eq C 1738 (by decide) dL_law_1733 (fun c_1733 => ?_) (fun c_1733 => absurd rfl c_1733)
    refine p_iload C 1 rfl dL_law_1738 ?_
    refine p_if_ne C 1762 (by decide) dL_law_1740 (fun c_1740 => absurd c_1740 (fun z9 => z9 rfl)) (fun c_1740 => ?_)
    refine p_aload_n C rfl 5 rfl dL_law_1743 ?_
    refine p_iconst (v := 0) C (by decide) dL_law_1744 ?_
    refine p_lald (v := (g9 0)) C 22 KW_y (vp_in_nI (n := 0) (N := 1) (by omega) (by omega)) (by rw [show (0 : Int32).toNatClampNeg = 0 from rfl]) dL_law_1745 ?_
    refine p_iload C 0 rfl dL_law_1746 ?_
    refine p_if_eq C 1755 (by decide) dL_law_1748 (fun c_1748 => ?_) (fun c_1748 => ?_)
    · have zz := c_1748
      refine p_lconst (v := 0) C (by decide) dL_law_1755 ?_
      refine p_lcmp C dL_law_1756 ?_
      refine p_if_eq C 1762 (by decide) dL_law_1757 (fun c_1757 => ?_) (fun c_1757 => absurd ((lg_cmp_eq _ _).mpr (hv.trans ((hvv he).trans (by rw [zz]; rfl)))) c_1757)
      refine p_goto C 1932 (by decide) dL_law_1762 ?_
      refine p_lv (lv9 := [(0, .ref b), (1, .ref (ad 0)), (2, .ref (md 0)), (3, .ref oa), (4, .int (nI i))]) [2, 3, 4, 5, 6] rfl ?_
      exact hnext _ _ _ _ _ _ _ _ _ _ _ _ _ _ _ _ _ _ ⟨hn, hrel, hok, hft, hm⟩ (by (try simp only [rmL_c, rmL_s, room_c, room_s]); omega) (by (try simp only [rmL_c, rmL_s, room_c, room_s]); omega)
    · have zz := bI_ne1 c_1748
      refine p_lconst (v := 1) C (by decide) dL_law_1751 ?_
      refine p_goto C 1756 (by decide) dL_law_1752 ?_
      refine p_lcmp C dL_law_1756 ?_
      refine p_if_eq C 1762 (by decide) dL_law_1757 (fun c_1757 => ?_) (fun c_1757 => absurd ((lg_cmp_eq _ _).mpr (hv.trans ((hvv he).trans (by rw [zz]; rfl)))) c_1757)
      refine p_goto C 1932 (by decide) dL_law_1762 ?_
      refine p_lv (lv9 := [(0, .ref b), (1, .ref (ad 0)), (2, .ref (md 0)), (3, .ref oa), (4, .int (nI i))]) [2, 3, 4, 5, 6] rfl ?_
      exact hnext _ _ _ _ _ _ _ _ _ _ _ _ _ _ _ _ _ _ ⟨hn, hrel, hok, hft, hm⟩ (by (try simp only [rmL_c, rmL_s, room_c, room_s]); omega) (by (try simp only [rmL_c, rmL_s, room_c, room_s]); omega)
  · have heM : e2 n (xs (i + 1)) (xs (i + 2)) = e2 n (xs (i + 1)) (xs (i + 2)) := rfl
    refine p_w (w9 := (KW k ad r (nI n) R T9 U9 tx9 sz9 ((oa, aL k 1 g9) :: (MW k md th (nI n) Am Wk Mo v cp bt ml (nI cn) [])))) (by rw [sel_n he, sel_n he]) ?_
    refine p_istore (lv9 := [(5, .int (e2 n (xs (i + 1)) (xs (i + 2)))), (0, .ref b), (1, .ref (ad 0)), (2, .ref (md 0)), (3, .ref oa), (4, .int (nI i))]) C (by decide) rfl dL_law_1707 ?_
    refine p_aload_n C rfl 3 rfl dL_law_1709 ?_
    refine p_aload_n C rfl 1 rfl dL_law_1710 ?_
    refine p_iload C 5 rfl dL_law_1711 ?_
    refine p_iconst (v := (nI 1)) C (by decide) dL_law_1713 ?_
    refine p_iadd C dL_law_1714 ?_
    refine p_int (y := (nI (i + 1))) (nI_add _ _) ?_
    refine p_sld (x := xs (i + 1)) C hX hbl hbA (vp_in_nI (by omega) (by omega)) (congrArg xs (nI_clamp (by omega))) dL_law_1715 ?_
    refine p_aload_n C rfl 1 rfl dL_law_1716 ?_
    refine p_iload C 5 rfl dL_law_1717 ?_
    refine p_iconst (v := (nI 2)) C (by decide) dL_law_1719 ?_
    refine p_iadd C dL_law_1720 ?_
    refine p_int (y := (nI (i + 2))) (nI_add _ _) ?_
    refine p_sld (x := xs (i + 2)) C hX hbl hbA (vp_in_nI (by omega) (by omega)) (congrArg xs (nI_clamp (by omega))) dL_law_1721 ?_
    refine p_toM ?_
    refine c_Vi (As := [.int (xs (i + 1)), .int (xs (i + 2))]) (rest := []) C (m_X3_isPartOf l D k hn) 0 rfl rfl rfl qml_L_195 qim_X3_isPartOf qse_X3_X3_isPartOf qin_X3 qco_X3_isPartOf nd_X3_isPartOf ⟨Nat.le_of_ble_eq_true rfl, Nat.le_of_ble_eq_true rfl⟩ (Nat.le_of_ble_eq_true rfl) ⟨by (try simp only [rmL_c, rmL_s, room_c, room_s]); omega, by (try simp only [rmL_c, rmL_s, room_c, room_s]); omega⟩ rfl dL_law_1722 (fun r9 w9 h9 => ?_)
    obtain ⟨Wk8, Mo8, rfl, hvM⟩ := h9
    refine p_w (w9 := (MW k md (e2 n (xs (i + 1)) (xs (i + 2))) (nI n) Am Wk8 Mo8 v cp bt ml (nI cn) (KW k ad r (nI n) R T9 U9 tx9 sz9 [(oa, aL k 1 g9)]))) (by rw [heM]) ?_
    refine p_istore (lv9 := [(6, .int r9), (5, .int (e2 n (xs (i + 1)) (xs (i + 2)))), (0, .ref b), (1, .ref (ad 0)), (2, .ref (md 0)), (3, .ref oa), (4, .int (nI i))]) C (by decide) rfl dL_law_1725 ?_
    refine p_aload_n C rfl 4 rfl dL_law_1727 ?_
    refine c_Vi (As := []) (rest := []) C (m_X3_thrown l D k ) 0 rfl rfl rfl qml_L_114 qim_X3_thrown qse_X3_X3_thrown qin_X3 qco_X3_thrown nd_X3_thrown ⟨Nat.le_of_ble_eq_true rfl, Nat.le_of_ble_eq_true rfl⟩ (Nat.le_of_ble_eq_true rfl) ⟨by (try simp only [rmL_c, rmL_s, room_c, room_s]); omega, by (try simp only [rmL_c, rmL_s, room_c, room_s]); omega⟩ rfl dL_law_1728 (fun r9 w9 h9 => ?_)
    obtain ⟨e9, rfl⟩ := h9
    refine p_int e9 ?_
    refine p_toK ?_
    refine p_iload C 1 rfl dL_law_1731 ?_
    refine p_icmp_eq C 1738 (by decide) dL_law_1733 (fun c_1733 => ?_) (fun c_1733 => absurd rfl c_1733)
    refine p_iload C 1 rfl dL_law_1738 ?_
    refine p_if_ne C 1762 (by decide) dL_law_1740 (fun c_1740 => ?_) (fun c_1740 => absurd c_1740 he)
    refine p_goto C 1932 (by decide) dL_law_1762 ?_
    refine p_lv (lv9 := [(0, .ref b), (1, .ref (ad 0)), (2, .ref (md 0)), (3, .ref oa), (4, .int (nI i))]) [2, 3, 4, 5, 6] rfl ?_
    exact hnext _ _ _ _ _ _ _ _ _ _ _ _ _ _ _ _ _ _ ⟨hn, hrel, hok, hft, hm⟩ (by (try simp only [rmL_c, rmL_s, room_c, room_s]); omega) (by (try simp only [rmL_c, rmL_s, room_c, room_s]); omega)
set_option maxHeartbeats 4000000 in
set_option maxRecDepth 100000 in
/-- the law at plainParts -/
theorem lc_plainParts {p : Program} {l : Launch} {e : Env} {s : State} {m : MethodId} {args : Array Value} {below : List Frame} {meth : Method} {c : Code} {D : va_G} {A : Nat → Prop} {k : Nat → ClassId} {Q : State → Prop} (C : Cx p s m args meth c cL_law 9 RL A D k) (hfl : l.stackTraces = false) {b L i oa n cp cn v c9 s9 : Nat} {xs : Nat → Int32} {ad r md : Nat → Nat} {R : Nat → Nat → Int32} {T U tx Am Wk Mo bt : Nat → Int32} {th sz ml : Int32} {g : Nat → Int64} (hX : va_X b L xs s s.heap) (hbl : b < s.heap.size) (hbA : ¬ A b) (hL : L ≤ 2048) (hi : i + 4 ≤ L) (hI : LI n R Am cp cn bt) (hc9 : c9 + 544 ≤ 601024) (hs9 : s9 + 6944 ≤ 7293034) (hnext : ∀ (n' cp' cn' v' c' s' : Nat) (R' : Nat → Nat → Int32) (T' U' tx' Am' Wk' Mo' bt' : Nat → Int32) (th' sz' ml' : Int32) (g' : Nat → Int64), LI n' R' Am' cp' cn' bt' → c' ≤ c9 + 544 → s' ≤ s9 + 6944 → WP p l e (room_1) s m args below meth c D A 9 (KW k ad r (nI n') R' T' U' tx' sz' ((oa, aL k 1 g') :: (MW k md th' (nI n') Am' Wk' Mo' v' cp' bt' ml' (nI cn') []))) [(0, .ref b), (1, .ref (ad 0)), (2, .ref (md 0)), (3, .ref oa), (4, .int (nI i))] c' s' Q 1932 []) : WP p l e (room_1) s m args below meth c D A 9 (KW k ad r (nI n) R T U tx sz ((oa, aL k 1 g) :: (MW k md th (nI n) Am Wk Mo v cp bt ml (nI cn) []))) [(0, .ref b), (1, .ref (ad 0)), (2, .ref (md 0)), (3, .ref oa), (4, .int (nI i))] c9 s9 Q 1765 [] := by
  obtain ⟨hn, hrel, hok, hft, hm⟩ := hI
  have hvv : e1 n (xs (i + 1)) = 0 → (nI (pp (n9 (R (ix (xs (i + 1))))))).toInt64 = (nI (pp (mrow Am (ix (xs (i + 1)))))).toInt64 := fun he => by
    have hrc := isR_ix hn (e1_t he)
    rw [hrel _ hrc, mrow_n9]
  refine p_aload_n C rfl 1 rfl dL_law_1765 ?_
  refine p_aload_n C rfl 0 rfl dL_law_1766 ?_
  refine p_iload C 4 rfl dL_law_1767 ?_
  refine p_iconst (v := (nI 1)) C (by decide) dL_law_1769 ?_
  refine p_iadd C dL_law_1770 ?_
  refine p_int (y := (nI (i + 1))) (nI_add _ _) ?_
  refine p_sld (x := xs (i + 1)) C hX hbl hbA (vp_in_nI (by omega) (by omega)) (congrArg xs (nI_clamp (by omega))) dL_law_1771 ?_
  refine p_aload_n C rfl 3 rfl dL_law_1772 ?_
  refine c_Wi (As := [.ref (ad 0), .int (xs (i + 1)), .ref oa]) (rest := []) C (m_L_plainParts l D k hfl (hn := hn)) qml_L_196 qst_L_plainParts qin_L qco_L_plainParts nd_L_plainParts ⟨Nat.le_of_ble_eq_true rfl, Nat.le_of_ble_eq_true rfl⟩ (Nat.le_of_ble_eq_true rfl) ⟨by (try simp only [rmL_c, rmL_s, room_c, room_s]); omega, by (try simp only [rmL_c, rmL_s, room_c, room_s]); omega⟩ rfl dL_law_1773 (fun r9 w9 h9 => ?_)
  obtain ⟨e9, T9, U9, tx9, sz9, g9, rfl, hv9⟩ := h9
  refine p_int e9 ?_
  by_cases he : e1 n (xs (i + 1)) = 0
  · have heM : e1 n (xs (i + 1)) = e1 n (xs (i + 1)) := rfl
    have hrc := isR_ix hn (e1_t he)
    refine p_w (w9 := (KW k ad r (nI n) R T9 U9 tx9 sz9 ((oa, aL k 1 g9) :: (MW k md th (nI n) Am Wk Mo v cp bt ml (nI cn) [])))) (by rw [he, sel_0, sel_0]) ?_
    have hv := hv9 he
    refine p_int (y := 0) he ?_
    refine p_istore (lv9 := [(5, .int 0), (0, .ref b), (1, .ref (ad 0)), (2, .ref (md 0)), (3, .ref oa), (4, .int (nI i))]) C (by decide) rfl dL_law_1776 ?_
    refine p_aload_n C rfl 3 rfl dL_law_1778 ?_
    refine p_aload_n C rfl 1 rfl dL_law_1779 ?_
    refine p_iload C 5 rfl dL_law_1780 ?_
    refine p_iconst (v := (nI 1)) C (by decide) dL_law_1782 ?_
    refine p_iadd C dL_law_1783 ?_
    refine p_int (y := (nI (i + 1))) (nI_add _ _) ?_
    refine p_sld (x := xs (i + 1)) C hX hbl hbA (vp_in_nI (by omega) (by omega)) (congrArg xs (nI_clamp (by omega))) dL_law_1784 ?_
    refine p_toM ?_
    refine c_Vi (As := [.int (xs (i + 1))]) (rest := []) C (m_X3_plainParts l D k hn) 0 rfl rfl rfl qml_L_198 qim_X3_plainParts qse_X3_X3_plainParts qin_X3 qco_X3_plainParts nd_X3_plainParts ⟨Nat.le_of_ble_eq_true rfl, Nat.le_of_ble_eq_true rfl⟩ (Nat.le_of_ble_eq_true rfl) ⟨by (try simp only [rmL_c, rmL_s, room_c, room_s]); omega, by (try simp only [rmL_c, rmL_s, room_c, room_s]); omega⟩ rfl dL_law_1785 (fun r9 w9 h9 => ?_)
    obtain ⟨Wk8, Mo8, rfl, hvM⟩ := h9
    refine p_w (w9 := (MW k md 0 (nI n) Am Wk8 Mo8 v cp bt ml (nI cn) (KW k ad r (nI n) R T9 U9 tx9 sz9 [(oa, aL k 1 g9)]))) (by rw [heM.trans he]) ?_
    refine p_int (y := nI (pp (mrow Am (ix (xs (i + 1)))))) (hvM (heM.trans he)) ?_
    refine p_istore (lv9 := [(6, .int (nI (pp (mrow Am (ix (xs (i + 1))))))), (5, .int 0), (0, .ref b), (1, .ref (ad 0)), (2, .ref (md 0)), (3, .ref oa), (4, .int (nI i))]) C (by decide) rfl dL_law_1788 ?_
    refine p_aload_n C rfl 4 rfl dL_law_1790 ?_
    refine c_Vi (As := []) (rest := []) C (m_X3_thrown l D k ) 0 rfl rfl rfl qml_L_114 qim_X3_thrown qse_X3_X3_thrown qin_X3 qco_X3_thrown nd_X3_thrown ⟨Nat.le_of_ble_eq_true rfl, Nat.le_of_ble_eq_true rfl⟩ (Nat.le_of_ble_eq_true rfl) ⟨by (try simp only [rmL_c, rmL_s, room_c, room_s]); omega, by (try simp only [rmL_c, rmL_s, room_c, room_s]); omega⟩ rfl dL_law_1791 (fun r9 w9 h9 => ?_)
    obtain ⟨e9, rfl⟩ := h9
    refine p_int e9 ?_
    refine p_toK ?_
    refine p_iload C 1 rfl dL_law_1794 ?_
    refine p_icmp_eq C 1801 (by decide) dL_law_1796 (fun c_1796 => ?_) (fun c_1796 => absurd rfl c_1796)
    refine p_iload C 1 rfl dL_law_1801 ?_
    refine p_if_ne C 1818 (by decide) dL_law_1803 (fun c_1803 => absurd c_1803 (fun z9 => z9 rfl)) (fun c_1803 => ?_)
    refine p_aload_n C rfl 5 rfl dL_law_1806 ?_
    refine p_iconst (v := 0) C (by decide) dL_law_1807 ?_
    refine p_lald (v := (g9 0)) C 22 KW_y (vp_in_nI (n := 0) (N := 1) (by omega) (by omega)) (by rw [show (0 : Int32).toNatClampNeg = 0 from rfl]) dL_law_1808 ?_
    refine p_iload C 0 rfl dL_law_1809 ?_
    refine p_i2l C dL_law_1811 ?_
    refine p_lcmp C dL_law_1812 ?_
    refine p_if_eq C 1818 (by decide) dL_law_1813 (fun c_1813 => ?_) (fun c_1813 => absurd ((lg_cmp_eq _ _).mpr (hv.trans (hvv he))) c_1813)
    refine p_goto C 1932 (by decide) dL_law_1818 ?_
    refine p_lv (lv9 := [(0, .ref b), (1, .ref (ad 0)), (2, .ref (md 0)), (3, .ref oa), (4, .int (nI i))]) [2, 3, 4, 5, 6] rfl ?_
    exact hnext _ _ _ _ _ _ _ _ _ _ _ _ _ _ _ _ _ _ ⟨hn, hrel, hok, hft, hm⟩ (by (try simp only [rmL_c, rmL_s, room_c, room_s]); omega) (by (try simp only [rmL_c, rmL_s, room_c, room_s]); omega)
  · have heM : e1 n (xs (i + 1)) = e1 n (xs (i + 1)) := rfl
    refine p_w (w9 := (KW k ad r (nI n) R T9 U9 tx9 sz9 ((oa, aL k 1 g9) :: (MW k md th (nI n) Am Wk Mo v cp bt ml (nI cn) [])))) (by rw [sel_n he, sel_n he]) ?_
    refine p_istore (lv9 := [(5, .int (e1 n (xs (i + 1)))), (0, .ref b), (1, .ref (ad 0)), (2, .ref (md 0)), (3, .ref oa), (4, .int (nI i))]) C (by decide) rfl dL_law_1776 ?_
    refine p_aload_n C rfl 3 rfl dL_law_1778 ?_
    refine p_aload_n C rfl 1 rfl dL_law_1779 ?_
    refine p_iload C 5 rfl dL_law_1780 ?_
    refine p_iconst (v := (nI 1)) C (by decide) dL_law_1782 ?_
    refine p_iadd C dL_law_1783 ?_
    refine p_int (y := (nI (i + 1))) (nI_add _ _) ?_
    refine p_sld (x := xs (i + 1)) C hX hbl hbA (vp_in_nI (by omega) (by omega)) (congrArg xs (nI_clamp (by omega))) dL_law_1784 ?_
    refine p_toM ?_
    refine c_Vi (As := [.int (xs (i + 1))]) (rest := []) C (m_X3_plainParts l D k hn) 0 rfl rfl rfl qml_L_198 qim_X3_plainParts qse_X3_X3_plainParts qin_X3 qco_X3_plainParts nd_X3_plainParts ⟨Nat.le_of_ble_eq_true rfl, Nat.le_of_ble_eq_true rfl⟩ (Nat.le_of_ble_eq_true rfl) ⟨by (try simp only [rmL_c, rmL_s, room_c, room_s]); omega, by (try simp only [rmL_c, rmL_s, room_c, room_s]); omega⟩ rfl dL_law_1785 (fun r9 w9 h9 => ?_)
    obtain ⟨Wk8, Mo8, rfl, hvM⟩ := h9
    refine p_w (w9 := (MW k md (e1 n (xs (i + 1))) (nI n) Am Wk8 Mo8 v cp bt ml (nI cn) (KW k ad r (nI n) R T9 U9 tx9 sz9 [(oa, aL k 1 g9)]))) (by rw [heM]) ?_
    refine p_istore (lv9 := [(6, .int r9), (5, .int (e1 n (xs (i + 1)))), (0, .ref b), (1, .ref (ad 0)), (2, .ref (md 0)), (3, .ref oa), (4, .int (nI i))]) C (by decide) rfl dL_law_1788 ?_
    refine p_aload_n C rfl 4 rfl dL_law_1790 ?_
    refine c_Vi (As := []) (rest := []) C (m_X3_thrown l D k ) 0 rfl rfl rfl qml_L_114 qim_X3_thrown qse_X3_X3_thrown qin_X3 qco_X3_thrown nd_X3_thrown ⟨Nat.le_of_ble_eq_true rfl, Nat.le_of_ble_eq_true rfl⟩ (Nat.le_of_ble_eq_true rfl) ⟨by (try simp only [rmL_c, rmL_s, room_c, room_s]); omega, by (try simp only [rmL_c, rmL_s, room_c, room_s]); omega⟩ rfl dL_law_1791 (fun r9 w9 h9 => ?_)
    obtain ⟨e9, rfl⟩ := h9
    refine p_int e9 ?_
    refine p_toK ?_
    refine p_iload C 1 rfl dL_law_1794 ?_
    refine p_icmp_eq C 1801 (by decide) dL_law_1796 (fun c_1796 => ?_) (fun c_1796 => absurd rfl c_1796)
    refine p_iload C 1 rfl dL_law_1801 ?_
    refine p_if_ne C 1818 (by decide) dL_law_1803 (fun c_1803 => ?_) (fun c_1803 => absurd c_1803 he)
    refine p_goto C 1932 (by decide) dL_law_1818 ?_
    refine p_lv (lv9 := [(0, .ref b), (1, .ref (ad 0)), (2, .ref (md 0)), (3, .ref oa), (4, .int (nI i))]) [2, 3, 4, 5, 6] rfl ?_
    exact hnext _ _ _ _ _ _ _ _ _ _ _ _ _ _ _ _ _ _ ⟨hn, hrel, hok, hft, hm⟩ (by (try simp only [rmL_c, rmL_s, room_c, room_s]); omega) (by (try simp only [rmL_c, rmL_s, room_c, room_s]); omega)
set_option maxHeartbeats 4000000 in
set_option maxRecDepth 100000 in
/-- the law at bestShift -/
theorem lc_bestShift {p : Program} {l : Launch} {e : Env} {s : State} {m : MethodId} {args : Array Value} {below : List Frame} {meth : Method} {c : Code} {D : va_G} {A : Nat → Prop} {k : Nat → ClassId} {Q : State → Prop} (C : Cx p s m args meth c cL_law 9 RL A D k) (hfl : l.stackTraces = false) {b L i oa n cp cn v c9 s9 : Nat} {xs : Nat → Int32} {ad r md : Nat → Nat} {R : Nat → Nat → Int32} {T U tx Am Wk Mo bt : Nat → Int32} {th sz ml : Int32} {g : Nat → Int64} (hX : va_X b L xs s s.heap) (hbl : b < s.heap.size) (hbA : ¬ A b) (hL : L ≤ 2048) (hi : i + 4 ≤ L) (hI : LI n R Am cp cn bt) (hc9 : c9 + 544 ≤ 601024) (hs9 : s9 + 6944 ≤ 7293034) (hnext : ∀ (n' cp' cn' v' c' s' : Nat) (R' : Nat → Nat → Int32) (T' U' tx' Am' Wk' Mo' bt' : Nat → Int32) (th' sz' ml' : Int32) (g' : Nat → Int64), LI n' R' Am' cp' cn' bt' → c' ≤ c9 + 544 → s' ≤ s9 + 6944 → WP p l e (room_1) s m args below meth c D A 9 (KW k ad r (nI n') R' T' U' tx' sz' ((oa, aL k 1 g') :: (MW k md th' (nI n') Am' Wk' Mo' v' cp' bt' ml' (nI cn') []))) [(0, .ref b), (1, .ref (ad 0)), (2, .ref (md 0)), (3, .ref oa), (4, .int (nI i))] c' s' Q 1932 []) : WP p l e (room_1) s m args below meth c D A 9 (KW k ad r (nI n) R T U tx sz ((oa, aL k 1 g) :: (MW k md th (nI n) Am Wk Mo v cp bt ml (nI cn) []))) [(0, .ref b), (1, .ref (ad 0)), (2, .ref (md 0)), (3, .ref oa), (4, .int (nI i))] c9 s9 Q 1821 [] := by
  obtain ⟨hn, hrel, hok, hft, hm⟩ := hI
  have hvv : e1 n (xs (i + 1)) = 0 → (bs (n9 (R (ix (xs (i + 1)))))).toInt64 = (bs (mrow Am (ix (xs (i + 1))))).toInt64 := fun he => by
    have hrc := isR_ix hn (e1_t he)
    rw [hrel _ hrc, mrow_n9]
  refine p_aload_n C rfl 1 rfl dL_law_1821 ?_
  refine p_aload_n C rfl 0 rfl dL_law_1822 ?_
  refine p_iload C 4 rfl dL_law_1823 ?_
  refine p_iconst (v := (nI 1)) C (by decide) dL_law_1825 ?_
  refine p_iadd C dL_law_1826 ?_
  refine p_int (y := (nI (i + 1))) (nI_add _ _) ?_
  refine p_sld (x := xs (i + 1)) C hX hbl hbA (vp_in_nI (by omega) (by omega)) (congrArg xs (nI_clamp (by omega))) dL_law_1827 ?_
  refine p_aload_n C rfl 3 rfl dL_law_1828 ?_
  refine c_Wi (As := [.ref (ad 0), .int (xs (i + 1)), .ref oa]) (rest := []) C (m_L_bestShift l D k hfl (hn := hn) (hnrm := hrel.nrm)) qml_L_199 qst_L_bestShift qin_L qco_L_bestShift nd_L_bestShift ⟨Nat.le_of_ble_eq_true rfl, Nat.le_of_ble_eq_true rfl⟩ (Nat.le_of_ble_eq_true rfl) ⟨by (try simp only [rmL_c, rmL_s, room_c, room_s]); omega, by (try simp only [rmL_c, rmL_s, room_c, room_s]); omega⟩ rfl dL_law_1829 (fun r9 w9 h9 => ?_)
  obtain ⟨e9, T9, U9, tx9, sz9, g9, rfl, hv9⟩ := h9
  refine p_int e9 ?_
  by_cases he : e1 n (xs (i + 1)) = 0
  · have heM : e1 n (xs (i + 1)) = e1 n (xs (i + 1)) := rfl
    have hrc := isR_ix hn (e1_t he)
    refine p_w (w9 := (KW k ad r (nI n) R T9 U9 tx9 sz9 ((oa, aL k 1 g9) :: (MW k md th (nI n) Am Wk Mo v cp bt ml (nI cn) [])))) (by rw [he, sel_0, sel_0]) ?_
    have hv := hv9 he
    refine p_int (y := 0) he ?_
    refine p_istore (lv9 := [(5, .int 0), (0, .ref b), (1, .ref (ad 0)), (2, .ref (md 0)), (3, .ref oa), (4, .int (nI i))]) C (by decide) rfl dL_law_1832 ?_
    refine p_aload_n C rfl 3 rfl dL_law_1834 ?_
    refine p_aload_n C rfl 1 rfl dL_law_1835 ?_
    refine p_iload C 5 rfl dL_law_1836 ?_
    refine p_iconst (v := (nI 1)) C (by decide) dL_law_1838 ?_
    refine p_iadd C dL_law_1839 ?_
    refine p_int (y := (nI (i + 1))) (nI_add _ _) ?_
    refine p_sld (x := xs (i + 1)) C hX hbl hbA (vp_in_nI (by omega) (by omega)) (congrArg xs (nI_clamp (by omega))) dL_law_1840 ?_
    refine p_toM ?_
    refine c_Vi (As := [.int (xs (i + 1))]) (rest := []) C (m_X3_bestShift l D k hn) 0 rfl rfl rfl qml_L_201 qim_X3_bestShift qse_X3_X3_bestShift qin_X3 qco_X3_bestShift nd_X3_bestShift ⟨Nat.le_of_ble_eq_true rfl, Nat.le_of_ble_eq_true rfl⟩ (Nat.le_of_ble_eq_true rfl) ⟨by (try simp only [rmL_c, rmL_s, room_c, room_s]); omega, by (try simp only [rmL_c, rmL_s, room_c, room_s]); omega⟩ rfl dL_law_1841 (fun r9 w9 h9 => ?_)
    obtain ⟨Wk8, Mo8, rfl, hvM⟩ := h9
    refine p_w (w9 := (MW k md 0 (nI n) Am Wk8 Mo8 v cp bt ml (nI cn) (KW k ad r (nI n) R T9 U9 tx9 sz9 [(oa, aL k 1 g9)]))) (by rw [heM.trans he]) ?_
    refine p_int (y := bs (mrow Am (ix (xs (i + 1))))) (hvM (heM.trans he)) ?_
    refine p_istore (lv9 := [(6, .int (bs (mrow Am (ix (xs (i + 1)))))), (5, .int 0), (0, .ref b), (1, .ref (ad 0)), (2, .ref (md 0)), (3, .ref oa), (4, .int (nI i))]) C (by decide) rfl dL_law_1844 ?_
    refine p_aload_n C rfl 4 rfl dL_law_1846 ?_
    refine c_Vi (As := []) (rest := []) C (m_X3_thrown l D k ) 0 rfl rfl rfl qml_L_114 qim_X3_thrown qse_X3_X3_thrown qin_X3 qco_X3_thrown nd_X3_thrown ⟨Nat.le_of_ble_eq_true rfl, Nat.le_of_ble_eq_true rfl⟩ (Nat.le_of_ble_eq_true rfl) ⟨by (try simp only [rmL_c, rmL_s, room_c, room_s]); omega, by (try simp only [rmL_c, rmL_s, room_c, room_s]); omega⟩ rfl dL_law_1847 (fun r9 w9 h9 => ?_)
    obtain ⟨e9, rfl⟩ := h9
    refine p_int e9 ?_
    refine p_toK ?_
    refine p_iload C 1 rfl dL_law_1850 ?_
    refine p_icmp_eq C 1857 (by decide) dL_law_1852 (fun c_1852 => ?_) (fun c_1852 => absurd rfl c_1852)
    refine p_iload C 1 rfl dL_law_1857 ?_
    refine p_if_ne C 1874 (by decide) dL_law_1859 (fun c_1859 => absurd c_1859 (fun z9 => z9 rfl)) (fun c_1859 => ?_)
    refine p_aload_n C rfl 5 rfl dL_law_1862 ?_
    refine p_iconst (v := 0) C (by decide) dL_law_1863 ?_
    refine p_lald (v := (g9 0)) C 22 KW_y (vp_in_nI (n := 0) (N := 1) (by omega) (by omega)) (by rw [show (0 : Int32).toNatClampNeg = 0 from rfl]) dL_law_1864 ?_
    refine p_iload C 0 rfl dL_law_1865 ?_
    refine p_i2l C dL_law_1867 ?_
    refine p_lcmp C dL_law_1868 ?_
    refine p_if_eq C 1874 (by decide) dL_law_1869 (fun c_1869 => ?_) (fun c_1869 => absurd ((lg_cmp_eq _ _).mpr (hv.trans (hvv he))) c_1869)
    refine p_goto C 1932 (by decide) dL_law_1874 ?_
    refine p_lv (lv9 := [(0, .ref b), (1, .ref (ad 0)), (2, .ref (md 0)), (3, .ref oa), (4, .int (nI i))]) [2, 3, 4, 5, 6] rfl ?_
    exact hnext _ _ _ _ _ _ _ _ _ _ _ _ _ _ _ _ _ _ ⟨hn, hrel, hok, hft, hm⟩ (by (try simp only [rmL_c, rmL_s, room_c, room_s]); omega) (by (try simp only [rmL_c, rmL_s, room_c, room_s]); omega)
  · have heM : e1 n (xs (i + 1)) = e1 n (xs (i + 1)) := rfl
    refine p_w (w9 := (KW k ad r (nI n) R T9 U9 tx9 sz9 ((oa, aL k 1 g9) :: (MW k md th (nI n) Am Wk Mo v cp bt ml (nI cn) [])))) (by rw [sel_n he, sel_n he]) ?_
    refine p_istore (lv9 := [(5, .int (e1 n (xs (i + 1)))), (0, .ref b), (1, .ref (ad 0)), (2, .ref (md 0)), (3, .ref oa), (4, .int (nI i))]) C (by decide) rfl dL_law_1832 ?_
    refine p_aload_n C rfl 3 rfl dL_law_1834 ?_
    refine p_aload_n C rfl 1 rfl dL_law_1835 ?_
    refine p_iload C 5 rfl dL_law_1836 ?_
    refine p_iconst (v := (nI 1)) C (by decide) dL_law_1838 ?_
    refine p_iadd C dL_law_1839 ?_
    refine p_int (y := (nI (i + 1))) (nI_add _ _) ?_
    refine p_sld (x := xs (i + 1)) C hX hbl hbA (vp_in_nI (by omega) (by omega)) (congrArg xs (nI_clamp (by omega))) dL_law_1840 ?_
    refine p_toM ?_
    refine c_Vi (As := [.int (xs (i + 1))]) (rest := []) C (m_X3_bestShift l D k hn) 0 rfl rfl rfl qml_L_201 qim_X3_bestShift qse_X3_X3_bestShift qin_X3 qco_X3_bestShift nd_X3_bestShift ⟨Nat.le_of_ble_eq_true rfl, Nat.le_of_ble_eq_true rfl⟩ (Nat.le_of_ble_eq_true rfl) ⟨by (try simp only [rmL_c, rmL_s, room_c, room_s]); omega, by (try simp only [rmL_c, rmL_s, room_c, room_s]); omega⟩ rfl dL_law_1841 (fun r9 w9 h9 => ?_)
    obtain ⟨Wk8, Mo8, rfl, hvM⟩ := h9
    refine p_w (w9 := (MW k md (e1 n (xs (i + 1))) (nI n) Am Wk8 Mo8 v cp bt ml (nI cn) (KW k ad r (nI n) R T9 U9 tx9 sz9 [(oa, aL k 1 g9)]))) (by rw [heM]) ?_
    refine p_istore (lv9 := [(6, .int r9), (5, .int (e1 n (xs (i + 1)))), (0, .ref b), (1, .ref (ad 0)), (2, .ref (md 0)), (3, .ref oa), (4, .int (nI i))]) C (by decide) rfl dL_law_1844 ?_
    refine p_aload_n C rfl 4 rfl dL_law_1846 ?_
    refine c_Vi (As := []) (rest := []) C (m_X3_thrown l D k ) 0 rfl rfl rfl qml_L_114 qim_X3_thrown qse_X3_X3_thrown qin_X3 qco_X3_thrown nd_X3_thrown ⟨Nat.le_of_ble_eq_true rfl, Nat.le_of_ble_eq_true rfl⟩ (Nat.le_of_ble_eq_true rfl) ⟨by (try simp only [rmL_c, rmL_s, room_c, room_s]); omega, by (try simp only [rmL_c, rmL_s, room_c, room_s]); omega⟩ rfl dL_law_1847 (fun r9 w9 h9 => ?_)
    obtain ⟨e9, rfl⟩ := h9
    refine p_int e9 ?_
    refine p_toK ?_
    refine p_iload C 1 rfl dL_law_1850 ?_
    refine p_icmp_eq C 1857 (by decide) dL_law_1852 (fun c_1852 => ?_) (fun c_1852 => absurd rfl c_1852)
    refine p_iload C 1 rfl dL_law_1857 ?_
    refine p_if_ne C 1874 (by decide) dL_law_1859 (fun c_1859 => ?_) (fun c_1859 => absurd c_1859 he)
    refine p_goto C 1932 (by decide) dL_law_1874 ?_
    refine p_lv (lv9 := [(0, .ref b), (1, .ref (ad 0)), (2, .ref (md 0)), (3, .ref oa), (4, .int (nI i))]) [2, 3, 4, 5, 6] rfl ?_
    exact hnext _ _ _ _ _ _ _ _ _ _ _ _ _ _ _ _ _ _ ⟨hn, hrel, hok, hft, hm⟩ (by (try simp only [rmL_c, rmL_s, room_c, room_s]); omega) (by (try simp only [rmL_c, rmL_s, room_c, room_s]); omega)
