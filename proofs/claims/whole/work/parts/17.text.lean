theorem p_gets {p : Program} {l : Launch} {e : Env} {R : Room} {s : State} {m : MethodId} {args : Array Value} {below : List Frame} {meth : Method} {c : Code} {D : va_G} {A : Nat → Prop} {nL : Nat} {k : Nat → ClassId} {own : String} {cc : ByteArray} {w : va_W} {lv : List (Nat × Value)} {cells slots : Nat} {Q : State → Prop} {pc : Nat} {rest : List Value} (C : Cx p s m args meth c cc nL own A D k) {Cn n d ref : String} {v : Value} {index : Nat} (hZ : va_Z Cn n d v A s s.heap) (q : Cond.fieldLink own index ref n d ∈ cAll) (hsame : ∀ x, s.fieldFound? Cn n d = some x → s.fieldFound? ref n d = some x) (hdg : decode cc pc = .ok (.getstatic index, 3)) (kk : WP p l e R s m args below meth c D A nL w lv cells slots Q (pc + 3) (v :: rest)) : WP p l e R s m args below meth c D A nL w lv cells slots Q pc rest :=
  fun H locs ls hP hD hS hl => va_gets C.1 C.2.1 hZ hS C.2.2.2.1 (C.2.2.2.2.1 _ q) hsame hdg (kk H locs ls hP hD hS hl)
theorem p_tb {p : Program} {l : Launch} {e : Env} {R : Room} {s : State} {m : MethodId} {args : Array Value} {below : List Frame} {meth : Method} {c : Code} {D : va_G} {A : Nat → Prop} {nL : Nat} {k : Nat → ClassId} {own : String} {cc : ByteArray} {w : va_W} {lv : List (Nat × Value)} {cells slots : Nat} {Q : State → Prop} {pc : Nat} {rest : List Value} (C : Cx p s m args meth c cc nL own A D k) {t N : Nat} {f : Nat → Value} (hT : va_T .byte t N f A s s.heap) {i : Int32} (hin : vp_in i N) {v : Value} (hv : f i.toNatClampNeg = v) (hdg : decode cc pc = .ok (.baload, 1)) (kk : WP p l e R s m args below meth c D A nL w lv cells slots Q (pc + 1) (v :: rest)) : WP p l e R s m args below meth c D A nL w lv cells slots Q pc (.int i :: .ref t :: rest) :=
  fun H locs ls hP hD hS hl => va_tb C.1 C.2.1 hT hS hin hv hdg (kk H locs ls hP hD hS hl)
theorem p_bast2 {p : Program} {l : Launch} {e : Env} {R : Room} {s : State} {m : MethodId} {args : Array Value} {below : List Frame} {meth : Method} {c : Code} {D : va_G} {A : Nat → Prop} {nL : Nat} {k : Nat → ClassId} {own : String} {cc : ByteArray} {w : va_W} {lv : List (Nat × Value)} {cells slots : Nat} {Q : State → Prop} {pc : Nat} {rest : List Value} (C : Cx p s m args meth c cc nL own A D k) (q0 : Nat) {a n : Nat} {f : Nat → Int32} {i x y : Int32} (ha : w[q0]? = some (a, aB k n f)) (hin : vp_in i n) (hy : vp_nar .byte x = y) {w9 : va_W} (hw : w.set q0 (a, aB k n (upd f i.toNatClampNeg y)) = w9) (hdg : decode cc pc = .ok (.bastore, 1)) (kk : WP p l e R s m args below meth c D A nL w9 lv cells slots Q (pc + 1) rest) : WP p l e R s m args below meth c D A nL w lv cells slots Q pc (.int x :: .int i :: .ref a :: rest) :=
  p_bast C q0 ha hin (by rw [hy]; exact hw) hdg kk
theorem p_cast2 {p : Program} {l : Launch} {e : Env} {R : Room} {s : State} {m : MethodId} {args : Array Value} {below : List Frame} {meth : Method} {c : Code} {D : va_G} {A : Nat → Prop} {nL : Nat} {k : Nat → ClassId} {own : String} {cc : ByteArray} {w : va_W} {lv : List (Nat × Value)} {cells slots : Nat} {Q : State → Prop} {pc : Nat} {rest : List Value} (C : Cx p s m args meth c cc nL own A D k) (q0 : Nat) {a n : Nat} {f : Nat → Int32} {i x y : Int32} (ha : w[q0]? = some (a, aC k n f)) (hin : vp_in i n) (hy : vp_nar .char x = y) {w9 : va_W} (hw : w.set q0 (a, aC k n (upd f i.toNatClampNeg y)) = w9) (hdg : decode cc pc = .ok (.castore, 1)) (kk : WP p l e R s m args below meth c D A nL w9 lv cells slots Q (pc + 1) rest) : WP p l e R s m args below meth c D A nL w lv cells slots Q pc (.int x :: .int i :: .ref a :: rest) :=
  p_cast C q0 ha hin (by rw [hy]; exact hw) hdg kk
theorem p_copyb {p : Program} {l : Launch} {e : Env} {R : Room} {s : State} {m : MethodId} {args : Array Value} {below : List Frame} {meth : Method} {c : Code} {D : va_G} {A : Nat → Prop} {nL : Nat} {k : Nat → ClassId} {own : String} {cc : ByteArray} {w : va_W} {lv : List (Nat × Value)} {cells slots : Nat} {Q : State → Prop} {pc : Nat} {rest : List Value} (C : Cx p s m args meth c cc nL own A D k) {index : Nat} (q1 : Cond.methodLink own index arraycopyName ∈ cAll) (q2 : Cond.native arraycopyName ∈ cAll) (q3 : Cond.static arraycopyName ∈ cAll) (q4 : Cond.initialized "java/lang/System" ∈ cAll) (u0 u1 : Nat) {a0 a1 n0 n1 sp dp n : Nat} {f g : Nat → Int32} (ha0 : w[u0]? = some (a0, aB k n0 f)) (ha1 : w[u1]? = some (a1, aB k n1 g)) (hft : sb_Fit f) (h4 : sp + n ≤ n0) (h5 : dp + n ≤ n1) (h6 : n0 < 2 ^ 31) (h7 : n1 < 2 ^ 31) (hfr : 1 ≤ R.frames) (hlo : (rest.map fun v => v.category).sum + (nativeFrameWords "java/lang/System" "arraycopy" 5 + 11) ≤ R.locals) {w9 : va_W} (hw : w.set u1 (a1, aB k n1 (va_cpy f g sp dp n)) = w9) (hdg : decode cc pc = .ok (.invokestatic index, 3)) (kk : WP p l e R s m args below meth c D A nL w9 lv cells slots Q (pc + 3) rest) : WP p l e R s m args below meth c D A nL w lv cells slots Q pc (.int (nI n) :: .int (nI dp) :: .ref a1 :: .int (nI sp) :: .ref a0 :: rest) :=
  fun H locs ls hP hD hS hl => by
    have e1 : (nI sp).toNatClampNeg = sp := nI_clamp (by omega)
    have e2 : (nI dp).toNatClampNeg = dp := nI_clamp (by omega)
    have e3 : (nI n).toNatClampNeg = n := nI_clamp (by omega)
    refine va_copyi (D := D) C.1 C.2.1 (C.2.2.1.trans hl.1.symm) C.2.2.2.1 (C.2.2.2.2.1 _ q1) (C.2.2.2.2.1 _ q2) (C.2.2.2.2.1 _ q3) (C.2.2.2.2.1 _ q4) C.2.2.2.2.2.2.1 hP hD hS u0 u1 4 4 ha0 ha1 rfl rfl rfl (nI_pos (by omega)) (nI_pos (by omega)) (nI_pos (by omega)) (by rw [e1, e3]; exact h4) (by rw [e2, e3]; exact h5) (fun i _ => hft _) hfr hlo hdg (fun H1 locs1 hP1 hD1 hS1 => ?_)
    rw [e1, e2, e3] at hP1 hD1
    exact kk H1 locs1 ls (hw ▸ hP1) (hw ▸ hD1) hS1 hl
theorem w_lastP {D : va_G} {w : va_W} {x : Nat × va_E} {p : Nat} {H : Heap} (hP : va_P D cls (w ++ [x]) H) : va_P D cls (w.set p x) H := fun i q hq => by
  by_cases e : p = i
  · subst e
    by_cases hp : p < w.length
    · rw [List.getElem?_set_self hp] at hq
      exact hP w.length q (by rw [List.getElem?_append_right (Nat.le_refl _), Nat.sub_self]; exact hq)
    · rw [List.getElem?_eq_none (by rw [List.length_set]; omega)] at hq
      cases hq
  · rw [List.getElem?_set_ne e] at hq
    exact hP i q (by rw [List.getElem?_append_left (List.getElem?_eq_some_iff.mp hq).1]; exact hq)
theorem w_lastD {A : Nat → Prop} {w : va_W} {x : Nat × va_E} {p : Nat} (hD : va_D A (w ++ [x])) : va_D A (w.set p x) := by
  have hx : ∀ (i : Nat) (q : Nat × va_E), (w.set p x)[i]? = some q → ∃ j, (w ++ [x])[j]? = some q ∧ ((i = p ∧ j = w.length) ∨ (i ≠ p ∧ j = i ∧ i < w.length)) := fun i q hq => by
    by_cases e : p = i
    · subst e
      by_cases hp : p < w.length
      · rw [List.getElem?_set_self hp] at hq
        exact ⟨w.length, by rw [List.getElem?_append_right (Nat.le_refl _), Nat.sub_self]; exact hq, Or.inl ⟨rfl, rfl⟩⟩
      · rw [List.getElem?_eq_none (by rw [List.length_set]; omega)] at hq
        cases hq
    · rw [List.getElem?_set_ne e] at hq
      have hl := (List.getElem?_eq_some_iff.mp hq).1
      exact ⟨i, by rw [List.getElem?_append_left hl]; exact hq, Or.inr ⟨Ne.symm e, rfl, hl⟩⟩
  refine ⟨fun i j a b h1 h2 h3 => ?_, fun i q h => ?_⟩
  · obtain ⟨i1, e1, f1⟩ := hx i a h1
    obtain ⟨j1, e2, f2⟩ := hx j b h2
    have := hD.1 i1 j1 a b e1 e2 h3
    rcases f1 with f1 | f1 <;> rcases f2 with f2 | f2 <;> omega
  · obtain ⟨i1, e1, -⟩ := hx i q h
    exact hD.2 i1 q e1
theorem w_dropP {D : va_G} {w : va_W} {x : Nat × va_E} {H : Heap} (hP : va_P D cls (w ++ [x]) H) : va_P D cls w H := fun i q hq => hP i q (by rw [List.getElem?_append_left (List.getElem?_eq_some_iff.mp hq).1]; exact hq)
theorem w_dropD {A : Nat → Prop} {w : va_W} {x : Nat × va_E} (hD : va_D A (w ++ [x])) : va_D A w :=
  ⟨fun i j a b h1 h2 h3 => hD.1 i j a b (by rw [List.getElem?_append_left (List.getElem?_eq_some_iff.mp h1).1]; exact h1) (by rw [List.getElem?_append_left (List.getElem?_eq_some_iff.mp h2).1]; exact h2) h3, fun i q h => hD.2 i q (by rw [List.getElem?_append_left (List.getElem?_eq_some_iff.mp h).1]; exact h)⟩
theorem p_last9 {p : Program} {l : Launch} {e : Env} {R : Room} {s : State} {m : MethodId} {args : Array Value} {below : List Frame} {meth : Method} {c : Code} {D : va_G} {A : Nat → Prop} {nL : Nat} {w : va_W} {lv : List (Nat × Value)} {cells slots : Nat} {Q : State → Prop} {pc : Nat} {st : List Value} {x : Nat × va_E} (u : Nat) {w9 : va_W} (hw : w.set u x = w9) (kk : WP p l e R s m args below meth c D A nL w9 lv cells slots Q pc st) : WP p l e R s m args below meth c D A nL (w ++ [x]) lv cells slots Q pc st := fun H locs ls hP hD hS hl => kk H locs ls (hw ▸ w_lastP hP) (hw ▸ w_lastD hD) hS hl
theorem p_drop9 {p : Program} {l : Launch} {e : Env} {R : Room} {s : State} {m : MethodId} {args : Array Value} {below : List Frame} {meth : Method} {c : Code} {D : va_G} {A : Nat → Prop} {nL : Nat} {w : va_W} {lv : List (Nat × Value)} {cells slots : Nat} {Q : State → Prop} {pc : Nat} {st : List Value} {x : Nat × va_E} (kk : WP p l e R s m args below meth c D A nL w lv cells slots Q pc st) : WP p l e R s m args below meth c D A nL (w ++ [x]) lv cells slots Q pc st := fun H locs ls hP hD hS hl => kk H locs ls (w_dropP hP) (w_dropD hD) hS hl
/-! ===== digits ===== -/
theorem sbd_hi {v : Nat} (h : v < 10000000000) : v < 10 ^ sb_dg v := by
  unfold sb_dg
  repeat' split
  all_goals simp only [Nat.reducePow]
  all_goals omega
theorem sbd_lo {v : Nat} (h : 1 ≤ v) : 10 ^ (sb_dg v - 1) ≤ v := by
  unfold sb_dg
  repeat' split
  all_goals simp only [Nat.reducePow, Nat.reduceSub]
  all_goals omega
theorem sbd_of {v i : Nat} (h1 : 1 ≤ i) (h2 : i ≤ 10) (h3 : i = 1 ∨ 10 ^ (i - 1) ≤ v) (h4 : v < 10 ^ i) : sb_dg v = i := by
  have hd := sb_dg_in v
  have hv : v < 10000000000 := Nat.lt_of_lt_of_le h4 (Nat.le_trans (Nat.pow_le_pow_right (by omega) h2) (Nat.le_of_eq (by decide)))
  have a1 := sbd_hi hv
  rcases Nat.lt_trichotomy (sb_dg v) i with q | q | q
  · rcases h3 with h3 | h3
    · omega
    · have : 10 ^ sb_dg v ≤ 10 ^ (i - 1) := Nat.pow_le_pow_right (by omega) (by omega)
      omega
  · exact q
  · have hv1 : 1 ≤ v := by
      rcases Nat.eq_zero_or_pos v with z | z
      · subst z
        have : sb_dg 0 = 1 := by decide
        omega
      · exact z
    have a2 := sbd_lo hv1
    have : 10 ^ i ≤ 10 ^ (sb_dg v - 1) := Nat.pow_le_pow_right (by omega) (by omega)
    omega
def decL (v : Nat) : List Nat := (List.range (sb_dg v)).map (sb_dec v)
theorem decL_len (v : Nat) : (decL v).length = sb_dg v := by unfold decL; rw [List.length_map, List.length_range]
theorem decL_get {v j : Nat} (h : j < sb_dg v) : (decL v).getD j 0 = sb_dec v j := by
  unfold decL
  rw [List.getD_eq_getElem?_getD, List.getElem?_map, List.getElem?_range h]; rfl
theorem dec_lt (v j : Nat) : 48 ≤ sb_dec v j ∧ sb_dec v j < 58 := by
  unfold sb_dec
  have := Nat.mod_lt (v / 10 ^ (sb_dg v - 1 - j)) (show 0 < 10 by omega)
  omega
theorem dec_100 {w j : Nat} (h : 100 ≤ w) (hw : w < 2 ^ 31) (hj : j < sb_dg (w / 100)) : sb_dec w j = sb_dec (w / 100) j := by
  unfold sb_dec
  have e := sb_dg100 h hw
  rw [e, show sb_dg (w / 100) + 2 - 1 - j = 2 + (sb_dg (w / 100) - 1 - j) by omega, Nat.pow_add, ← Nat.div_div_eq_div_mul]
theorem dec_last {w : Nat} : sb_dec w (sb_dg w - 1) = 48 + w % 10 := by
  unfold sb_dec
  rw [show sb_dg w - 1 - (sb_dg w - 1) = 0 by omega, Nat.pow_zero, Nat.div_one]
theorem dec_last2 {w : Nat} (h : 2 ≤ sb_dg w) : sb_dec w (sb_dg w - 2) = 48 + w / 10 % 10 := by
  unfold sb_dec
  rw [show sb_dg w - 1 - (sb_dg w - 2) = 1 by omega, Nat.pow_one]
/-- what an array holds from its start -/
def tHas (a : Nat → Int32) (L : List Nat) : Prop := ∀ j, j < L.length → a j = nI (L.getD j 0)
theorem tHas_nil (a : Nat → Int32) : tHas a [] := fun _ h => absurd h (Nat.not_lt_zero _)
theorem getD_app1 {L M : List Nat} {j : Nat} (h : j < L.length) : (L ++ M).getD j 0 = L.getD j 0 := by
  rw [List.getD_eq_getElem?_getD, List.getD_eq_getElem?_getD, List.getElem?_append_left h]
theorem getD_app2 {L M : List Nat} {j : Nat} : (L ++ M).getD (L.length + j) 0 = M.getD j 0 := by
  rw [List.getD_eq_getElem?_getD, List.getD_eq_getElem?_getD, List.getElem?_append_right (Nat.le_add_right _ _), Nat.add_sub_cancel_left]
theorem tHas_put {a : Nat → Int32} {L : List Nat} (h : tHas a L) (c : Nat) : tHas (upd a L.length (nI c)) (L ++ [c]) := fun j hj => by
  rw [List.length_append] at hj
  have hj : j < L.length + 1 := hj
  by_cases e : j = L.length
  · subst e
    rw [pk_us]
    have := @getD_app2 L [c] 0
    rw [Nat.add_zero] at this
    rw [this]; rfl
  · rw [pk_un e, getD_app1 (by omega)]
    exact h j (by omega)
theorem tHas_app {a b : Nat → Int32} {L M : List Nat} (h : tHas a L) (h1 : ∀ j, j < L.length → b j = a j) (h2 : ∀ j, j < M.length → b (L.length + j) = nI (M.getD j 0)) : tHas b (L ++ M) := fun j hj => by
  rw [List.length_append] at hj
  by_cases e : j < L.length
  · rw [getD_app1 e, h1 j e]; exact h j e
  · obtain ⟨i, rfl⟩ : ∃ i, j = L.length + i := ⟨j - L.length, by omega⟩
    rw [getD_app2, h2 i (by omega)]
theorem tHas_keep {a b : Nat → Int32} {L : List Nat} (h : tHas a L) (h1 : ∀ j, j < L.length → b j = a j) : tHas b L := fun j hj => (h1 j hj).trans (h j hj)
theorem nar_b : ∀ c, c < 128 → vp_nar .byte (nI c) = nI c := by decide +kernel
theorem nar_bl {x : Int32} (h : ∃ c, c < 128 ∧ x = nI c) : vp_nar .byte x = x := by obtain ⟨c, h1, rfl⟩ := h; exact nar_b c h1
theorem fit_b : ∀ c, c < 128 → fits .byte (.int (nI c)) = true := by decide +kernel
/-! ===== the text of a recipe ===== -/
def sgL (x : Int32) (t : List Nat) : List Nat := if x < 0 then [45] else if 0 < t.length then [43] else []
def dgL (x : Int32) (k : Nat) : List Nat := if ab x = 1 ∧ ¬ k = 0 then [] else decL (ab x)
def xL (k : Nat) : List Nat := if 1 ≤ k then [120] else []
def pL (k : Nat) : List Nat := if 2 ≤ k then [48 + k] else []
def paL (x : Int32) (k : Nat) (t : List Nat) : List Nat := t ++ sgL x t ++ dgL x k ++ xL k ++ pL k
def txN (f : Nat → Int32) : Nat → List Nat → List Nat
  | 0, t => t
  | k + 1, t => txN f k (if f k = 0 then t else paL (f k) k t)
def txE (t : List Nat) : List Nat := if t.length = 0 then [48] else t
def tx (f : Nat → Int32) : List Nat := txE (txN f 9 [])
theorem sgL_le (x : Int32) (t : List Nat) : (sgL x t).length ≤ 1 := by unfold sgL; split; exact Nat.le_refl _; split; exact Nat.le_refl _; exact Nat.zero_le _
theorem dgL_le (x : Int32) (k : Nat) : (dgL x k).length ≤ 10 := by
  unfold dgL
  split
  · exact Nat.zero_le _
  · rw [decL_len]; exact (sb_dg_in _).2
theorem xL_le (k : Nat) : (xL k).length ≤ 1 := by unfold xL; split; exact Nat.le_refl _; exact Nat.zero_le _
theorem pL_le (k : Nat) : (pL k).length ≤ 1 := by unfold pL; split; exact Nat.le_refl _; exact Nat.zero_le _
theorem paL_le (x : Int32) (k : Nat) (t : List Nat) : (paL x k t).length ≤ t.length + 13 := by
  have h1 := sgL_le x t
  have h2 := dgL_le x k
  have h3 := xL_le k
  have h4 := pL_le k
  unfold paL
  simp only [List.length_append]
  omega
theorem txN_le (f : Nat → Int32) : ∀ k t, (txN f k t).length ≤ t.length + 13 * k
  | 0, t => by show t.length ≤ _; omega
  | k + 1, t => by
    have h1 := txN_le f k (if f k = 0 then t else paL (f k) k t)
    have h2 := paL_le (f k) k t
    show (txN f k _).length ≤ _
    split at h1 <;> rename_i q <;> simp only [q, if_true, if_false] <;> omega
theorem tx_le (f : Nat → Int32) : (tx f).length ≤ 117 := by
  have h := txN_le f 9 []
  unfold tx txE
  split
  · show 1 ≤ 117; omega
  · have : ([] : List Nat).length = 0 := rfl
    omega
theorem tx_pos (f : Nat → Int32) : 0 < (tx f).length := by
  unfold tx txE
  split
  · exact Nat.succ_pos _
  · omega
theorem ab_pos {x : Int32} (h : ¬ x = 0) : 1 ≤ ab x := by
  unfold ab
  rcases Nat.eq_zero_or_pos x.toInt.natAbs with q | q
  · exact absurd (Int32.toInt_inj.mp ((Int.natAbs_eq_zero.mp q).trans rfl)) h
  · exact q
/-! the digits, the greatest unit first -/
def pdN (v : Nat) : Nat → List Nat
  | 0 => []
  | d + 1 => if 10 ^ (9 - d) ≤ v then pdN v d ++ [48 + v / 10 ^ (9 - d) % 10] else pdN v d
theorem pdN_eq {v : Nat} (h1 : 1 ≤ v) (h2 : v < 10000000000) : ∀ d, d ≤ 10 → pdN v d = (List.range (d - (10 - sb_dg v))).map (sb_dec v)
  | 0, _ => by rw [Nat.zero_sub]; rfl
  | d + 1, hd => by
    have ih := pdN_eq h1 h2 d (by omega)
    have hi := sbd_hi h2
    have lo := sbd_lo h1
    have hn := sb_dg_in v
    show (if 10 ^ (9 - d) ≤ v then pdN v d ++ [48 + v / 10 ^ (9 - d) % 10] else pdN v d) = _
    by_cases q : 10 - sb_dg v ≤ d
    · have c : 10 ^ (9 - d) ≤ v := Nat.le_trans (Nat.pow_le_pow_right (by omega) (by omega)) lo
      rw [if_pos c, ih, show d + 1 - (10 - sb_dg v) = (d - (10 - sb_dg v)) + 1 by omega, List.range_succ, List.map_append]
      congr 1
      show [_] = [sb_dec v (d - (10 - sb_dg v))]
      unfold sb_dec
      rw [show sb_dg v - 1 - (d - (10 - sb_dg v)) = 9 - d by omega]
    · have c : ¬ 10 ^ (9 - d) ≤ v := fun z => by
        have : 10 ^ sb_dg v ≤ 10 ^ (9 - d) := Nat.pow_le_pow_right (by omega) (by omega)
        omega
      rw [if_neg c, ih, show d + 1 - (10 - sb_dg v) = 0 by omega, show d - (10 - sb_dg v) = 0 by omega]
theorem pdN_dec {v : Nat} (h1 : 1 ≤ v) (h2 : v < 10000000000) : pdN v 10 = decL v := by
  rw [pdN_eq h1 h2 10 (Nat.le_refl _)]
  unfold decL
  have := sb_dg_in v
  rw [show 10 - (10 - sb_dg v) = sb_dg v by omega]
theorem pdN_le {v : Nat} : ∀ d, (pdN v d).length ≤ d
  | 0 => Nat.le_refl 0
  | d + 1 => by
    have := @pdN_le v d
    unfold pdN
    split
    · rw [List.length_append]; show _ + 1 ≤ _; omega
    · omega
theorem decL_1 : ∀ k, k < 10 → decL k = [48 + k] := by decide +kernel
