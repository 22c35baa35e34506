set_option maxHeartbeats 4000000 in
set_option maxRecDepth 100000 in
/-- the law at recipes -/
theorem lc_recipes {p : Program} {l : Launch} {e : Env} {s : State} {m : MethodId} {args : Array Value} {below : List Frame} {meth : Method} {c : Code} {D : va_G} {A : Nat → Prop} {k : Nat → ClassId} {Q : State → Prop} (C : Cx p s m args meth c cL_law 9 RL A D k) (hfl : l.stackTraces = false) {b L i oa n cp cn v c9 s9 : Nat} {xs : Nat → Int32} {ad r md : Nat → Nat} {R : Nat → Nat → Int32} {T U tx Am Wk Mo bt : Nat → Int32} {th sz ml : Int32} {g : Nat → Int64} (hX : va_X b L xs s s.heap) (hbl : b < s.heap.size) (hbA : ¬ A b) (hL : L ≤ 2048) (hi : i + 4 ≤ L) (hI : LI n R Am cp cn bt) (hc9 : c9 + 544 ≤ 601024) (hs9 : s9 + 6944 ≤ 7293034) (hnext : ∀ (n' cp' cn' v' c' s' : Nat) (R' : Nat → Nat → Int32) (T' U' tx' Am' Wk' Mo' bt' : Nat → Int32) (th' sz' ml' : Int32) (g' : Nat → Int64), LI n' R' Am' cp' cn' bt' → c' ≤ c9 + 544 → s' ≤ s9 + 6944 → WP p l e (room_1) s m args below meth c D A 9 (KW k ad r (nI n') R' T' U' tx' sz' ((oa, aL k 1 g') :: (MW k md th' (nI n') Am' Wk' Mo' v' cp' bt' ml' (nI cn') []))) [(0, .ref b), (1, .ref (ad 0)), (2, .ref (md 0)), (3, .ref oa), (4, .int (nI i))] c' s' Q 1932 []) : WP p l e (room_1) s m args below meth c D A 9 (KW k ad r (nI n) R T U tx sz ((oa, aL k 1 g) :: (MW k md th (nI n) Am Wk Mo v cp bt ml (nI cn) []))) [(0, .ref b), (1, .ref (ad 0)), (2, .ref (md 0)), (3, .ref oa), (4, .int (nI i))] c9 s9 Q 884 [] := by
  obtain ⟨hn, hrel, hok, hft, hm⟩ := hI
  refine p_aload_n C rfl 1 rfl dL_law_884 ?_
  refine c_Vi (As := []) (rest := []) C (m_X2_recipes l D k ) 0 rfl rfl rfl qml_L_150 qim_X2_recipes qse_X2_X2_recipes qin_X2 qco_X2_recipes nd_X2_recipes ⟨Nat.le_of_ble_eq_true rfl, Nat.le_of_ble_eq_true rfl⟩ (Nat.le_of_ble_eq_true rfl) ⟨by (try simp only [rmL_c, rmL_s, room_c, room_s]); omega, by (try simp only [rmL_c, rmL_s, room_c, room_s]); omega⟩ rfl dL_law_885 (fun r9 w9 h9 => ?_)
  obtain ⟨e9, rfl⟩ := h9
  refine p_int e9 ?_
  refine p_aload_n C rfl 2 rfl dL_law_888 ?_
  refine p_toM ?_
  refine c_Vi (As := []) (rest := [.int (nI n)]) C (m_X3_recipes l D k ) 0 rfl rfl rfl qml_L_153 qim_X3_recipes qse_X3_X3_recipes qin_X3 qco_X3_recipes nd_X3_recipes ⟨Nat.le_of_ble_eq_true rfl, Nat.le_of_ble_eq_true rfl⟩ (Nat.le_of_ble_eq_true rfl) ⟨by (try simp only [rmL_c, rmL_s, room_c, room_s]); omega, by (try simp only [rmL_c, rmL_s, room_c, room_s]); omega⟩ rfl dL_law_889 (fun r9 w9 h9 => ?_)
  obtain ⟨e9, rfl⟩ := h9
  refine p_int e9 ?_
  refine p_toK ?_
  refine p_icmp_eq C 1932 (by decide) dL_law_892 (fun c_892 => ?_) (fun c_892 => absurd rfl c_892)
  exact hnext _ _ _ _ _ _ _ _ _ _ _ _ _ _ _ _ _ _ ⟨hn, hrel, hok, hft, hm⟩ (by (try simp only [rmL_c, rmL_s, room_c, room_s]); omega) (by (try simp only [rmL_c, rmL_s, room_c, room_s]); omega)
set_option maxHeartbeats 4000000 in
set_option maxRecDepth 100000 in
/-- the law at meanDegree -/
theorem lc_meanDegree {p : Program} {l : Launch} {e : Env} {s : State} {m : MethodId} {args : Array Value} {below : List Frame} {meth : Method} {c : Code} {D : va_G} {A : Nat → Prop} {k : Nat → ClassId} {Q : State → Prop} (C : Cx p s m args meth c cL_law 9 RL A D k) (hfl : l.stackTraces = false) {b L i oa n cp cn v c9 s9 : Nat} {xs : Nat → Int32} {ad r md : Nat → Nat} {R : Nat → Nat → Int32} {T U tx Am Wk Mo bt : Nat → Int32} {th sz ml : Int32} {g : Nat → Int64} (hX : va_X b L xs s s.heap) (hbl : b < s.heap.size) (hbA : ¬ A b) (hL : L ≤ 2048) (hi : i + 4 ≤ L) (hI : LI n R Am cp cn bt) (hc9 : c9 + 544 ≤ 601024) (hs9 : s9 + 6944 ≤ 7293034) (hnext : ∀ (n' cp' cn' v' c' s' : Nat) (R' : Nat → Nat → Int32) (T' U' tx' Am' Wk' Mo' bt' : Nat → Int32) (th' sz' ml' : Int32) (g' : Nat → Int64), LI n' R' Am' cp' cn' bt' → c' ≤ c9 + 544 → s' ≤ s9 + 6944 → WP p l e (room_1) s m args below meth c D A 9 (KW k ad r (nI n') R' T' U' tx' sz' ((oa, aL k 1 g') :: (MW k md th' (nI n') Am' Wk' Mo' v' cp' bt' ml' (nI cn') []))) [(0, .ref b), (1, .ref (ad 0)), (2, .ref (md 0)), (3, .ref oa), (4, .int (nI i))] c' s' Q 1932 []) : WP p l e (room_1) s m args below meth c D A 9 (KW k ad r (nI n) R T U tx sz ((oa, aL k 1 g) :: (MW k md th (nI n) Am Wk Mo v cp bt ml (nI cn) []))) [(0, .ref b), (1, .ref (ad 0)), (2, .ref (md 0)), (3, .ref oa), (4, .int (nI i))] c9 s9 Q 1877 [] := by
  obtain ⟨hn, hrel, hok, hft, hm⟩ := hI
  refine p_aload_n C rfl 1 rfl dL_law_1877 ?_
  refine c_Vd (As := []) (rest := []) C (m_X2_meanDegree l D k (hfl := hfl) (hn := hn)) 0 rfl rfl rfl qml_L_202 qim_X2_meanDegree qse_X2_X2_meanDegree qin_X2 qco_X2_meanDegree nd_X2_meanDegree ⟨Nat.le_of_ble_eq_true rfl, Nat.le_of_ble_eq_true rfl⟩ (Nat.le_of_ble_eq_true rfl) ⟨by (try simp only [rmL_c, rmL_s, room_c, room_s]); omega, by (try simp only [rmL_c, rmL_s, room_c, room_s]); omega⟩ rfl dL_law_1878 (fun r9 w9 h9 => ?_)
  obtain ⟨e9, T9, U9, tx9, sz9, rfl⟩ := h9
  rw [e9, mdg_c hrel]
  refine p_dstore (lv9 := [(5, .double (mdg (mrow Am) n)), (0, .ref b), (1, .ref (ad 0)), (2, .ref (md 0)), (3, .ref oa), (4, .int (nI i))]) C (by decide) rfl dL_law_1881 ?_
  refine p_aload_n C rfl 3 rfl dL_law_1883 ?_
  refine p_toM ?_
  refine c_Vd (As := []) (rest := []) C (m_X3_meanDegree l D k hn) 0 rfl rfl rfl qml_L_206 qim_X3_meanDegree qse_X3_X3_meanDegree qin_X3 qco_X3_meanDegree nd_X3_meanDegree ⟨Nat.le_of_ble_eq_true rfl, Nat.le_of_ble_eq_true rfl⟩ (Nat.le_of_ble_eq_true rfl) ⟨by (try simp only [rmL_c, rmL_s, room_c, room_s]); omega, by (try simp only [rmL_c, rmL_s, room_c, room_s]); omega⟩ rfl dL_law_1884 (fun r9 w9 h9 => ?_)
  obtain ⟨e9, rfl⟩ := h9
  rw [e9]
  refine p_toK ?_
  refine p_dstore (lv9 := [(7, .double (mdg (mrow Am) n)), (5, .double (mdg (mrow Am) n)), (0, .ref b), (1, .ref (ad 0)), (2, .ref (md 0)), (3, .ref oa), (4, .int (nI i))]) C (by decide) rfl dL_law_1887 ?_
  refine p_dload C 1 rfl dL_law_1889 ?_
  refine p_dload C 0 rfl dL_law_1891 ?_
  refine p_dcmp C dL_law_1893 ?_
  refine p_if_eq C 1915 (by decide) dL_law_1894 (fun c_1894 => ?_) (fun c_1894 => ?_)
  · refine p_goto C 1932 (by decide) dL_law_1915 ?_
    refine p_lv (lv9 := [(0, .ref b), (1, .ref (ad 0)), (2, .ref (md 0)), (3, .ref oa), (4, .int (nI i))]) [2, 3, 4, 5, 6] rfl ?_
    exact hnext _ _ _ _ _ _ _ _ _ _ _ _ _ _ _ _ _ _ ⟨hn, hrel, hok, hft, hm⟩ (by (try simp only [rmL_c, rmL_s, room_c, room_s]); omega) (by (try simp only [rmL_c, rmL_s, room_c, room_s]); omega)
  · refine p_dload C 1 rfl dL_law_1897 ?_
    refine p_dload C 1 rfl dL_law_1899 ?_
    refine p_dcmp C dL_law_1901 ?_
    refine p_if_eq C 1913 (by decide) dL_law_1902 (fun c_1902 => absurd c_1902 c_1894) (fun c_1902 => ?_)
    refine p_dload C 0 rfl dL_law_1905 ?_
    refine p_dload C 0 rfl dL_law_1907 ?_
    refine p_dcmp C dL_law_1909 ?_
    refine p_if_ne C 1915 (by decide) dL_law_1910 (fun c_1910 => ?_) (fun c_1910 => absurd c_1910 c_1894)
    refine p_goto C 1932 (by decide) dL_law_1915 ?_
    refine p_lv (lv9 := [(0, .ref b), (1, .ref (ad 0)), (2, .ref (md 0)), (3, .ref oa), (4, .int (nI i))]) [2, 3, 4, 5, 6] rfl ?_
    exact hnext _ _ _ _ _ _ _ _ _ _ _ _ _ _ _ _ _ _ ⟨hn, hrel, hok, hft, hm⟩ (by (try simp only [rmL_c, rmL_s, room_c, room_s]); omega) (by (try simp only [rmL_c, rmL_s, room_c, room_s]); omega)
set_option maxHeartbeats 4000000 in
set_option maxRecDepth 100000 in
/-- the law at digest -/
theorem lc_digest {p : Program} {l : Launch} {e : Env} {s : State} {m : MethodId} {args : Array Value} {below : List Frame} {meth : Method} {c : Code} {D : va_G} {A : Nat → Prop} {k : Nat → ClassId} {Q : State → Prop} (C : Cx p s m args meth c cL_law 9 RL A D k) (hfl : l.stackTraces = false) {b L i oa n cp cn v c9 s9 : Nat} {xs : Nat → Int32} {ad r md : Nat → Nat} {R : Nat → Nat → Int32} {T U tx Am Wk Mo bt : Nat → Int32} {th sz ml : Int32} {g : Nat → Int64} (hX : va_X b L xs s s.heap) (hbl : b < s.heap.size) (hbA : ¬ A b) (hL : L ≤ 2048) (hi : i + 4 ≤ L) (hI : LI n R Am cp cn bt) (hc9 : c9 + 544 ≤ 601024) (hs9 : s9 + 6944 ≤ 7293034) (hnext : ∀ (n' cp' cn' v' c' s' : Nat) (R' : Nat → Nat → Int32) (T' U' tx' Am' Wk' Mo' bt' : Nat → Int32) (th' sz' ml' : Int32) (g' : Nat → Int64), LI n' R' Am' cp' cn' bt' → c' ≤ c9 + 544 → s' ≤ s9 + 6944 → WP p l e (room_1) s m args below meth c D A 9 (KW k ad r (nI n') R' T' U' tx' sz' ((oa, aL k 1 g') :: (MW k md th' (nI n') Am' Wk' Mo' v' cp' bt' ml' (nI cn') []))) [(0, .ref b), (1, .ref (ad 0)), (2, .ref (md 0)), (3, .ref oa), (4, .int (nI i))] c' s' Q 1932 []) : WP p l e (room_1) s m args below meth c D A 9 (KW k ad r (nI n) R T U tx sz ((oa, aL k 1 g) :: (MW k md th (nI n) Am Wk Mo v cp bt ml (nI cn) []))) [(0, .ref b), (1, .ref (ad 0)), (2, .ref (md 0)), (3, .ref oa), (4, .int (nI i))] c9 s9 Q 1918 [] := by
  obtain ⟨hn, hrel, hok, hft, hm⟩ := hI
  refine p_aload_n C rfl 1 rfl dL_law_1918 ?_
  refine c_Vl (As := []) (rest := []) C (m_X2_digest l D k (hfl := hfl) (hn := hn) (hnrm := hrel.nrm)) 0 rfl rfl rfl qml_L_207 qim_X2_digest qse_X2_X2_digest qin_X2 qco_X2_digest nd_X2_digest ⟨Nat.le_of_ble_eq_true rfl, Nat.le_of_ble_eq_true rfl⟩ (Nat.le_of_ble_eq_true rfl) ⟨by (try simp only [rmL_c, rmL_s, room_c, room_s]); omega, by (try simp only [rmL_c, rmL_s, room_c, room_s]); omega⟩ rfl dL_law_1919 (fun r9 w9 h9 => ?_)
  obtain ⟨e9, T9, U9, tx9, sz9, rfl⟩ := h9
  rw [e9, dig_c hrel]
  refine p_aload_n C rfl 2 rfl dL_law_1922 ?_
  refine p_toM ?_
  refine c_Vl (As := []) (rest := [.long (dig n (mrow Am))]) C (m_X3_digest l D k hn hok hft hm) 0 rfl rfl rfl qml_L_211 qim_X3_digest qse_X3_X3_digest qin_X3 qco_X3_digest nd_X3_digest ⟨Nat.le_of_ble_eq_true rfl, Nat.le_of_ble_eq_true rfl⟩ (Nat.le_of_ble_eq_true rfl) ⟨by (try simp only [rmL_c, rmL_s, room_c, room_s]); omega, by (try simp only [rmL_c, rmL_s, room_c, room_s]); omega⟩ rfl dL_law_1923 (fun r9 w9 h9 => ?_)
  obtain ⟨e9, v8, cp8, bt8, ml8, cn8, Wk8, Mo8, hok8, hft8, hm8, rfl⟩ := h9
  rw [e9]
  refine p_toK ?_
  refine p_lcmp C dL_law_1926 ?_
  refine p_if_eq C 1932 (by decide) dL_law_1927 (fun c_1927 => ?_) (fun c_1927 => absurd ((lg_cmp_eq _ _).mpr rfl) c_1927)
  exact hnext _ _ _ _ _ _ _ _ _ _ _ _ _ _ _ _ _ _ ⟨hn, hrel, hok8, hft8, hm8⟩ (by (try simp only [rmL_c, rmL_s, room_c, room_s]); omega) (by (try simp only [rmL_c, rmL_s, room_c, room_s]); omega)
