/-! ===== the two worlds ===== -/
def upR (R : Nat → Nat → Int32) (i : Nat) (f : Nat → Int32) : Nat → Nat → Int32 := fun j => if j = i then f else R j
theorem upR_s (R : Nat → Nat → Int32) (i : Nat) (f : Nat → Int32) : upR R i f i = f := if_pos rfl
theorem upR_n (R : Nat → Nat → Int32) {i j : Nat} (f : Nat → Int32) (h : j ≠ i) : upR R i f j = R j := if_neg h
theorem upR_u (R : Nat → Nat → Int32) (i : Nat) (f g : Nat → Int32) : upR (upR R i f) i g = upR R i g := funext fun j => by
  unfold upR
  split <;> rfl
theorem upR_c (R : Nat → Nat → Int32) {i j : Nat} (f g h : Nat → Int32) (hn : i ≠ j) : upR (upR (upR R i f) j g) i h = upR (upR R i h) j g := funext fun n => by
  unfold upR
  by_cases h1 : n = i
  · subst h1
    rw [if_pos rfl, if_neg hn, if_pos rfl]
  · rw [if_neg h1, if_neg h1, if_neg h1]
def KW (k : Nat → ClassId) (ad r : Nat → Nat) (cn : Int32) (R : Nat → Nat → Int32) (T U tx : Nat → Int32) (sz : Int32) (Y : va_W) : va_W :=
  (ad 0, oK 0 [.ref (ad 1), .int cn, .ref (ad 2), .ref (ad 3), .ref (ad 4)]) :: (ad 1, aQ k 16 (fun i => if i < 16 then some (r i) else none)) :: (ad 2, aI k 9 T) :: (ad 3, aI k 9 U) :: (ad 4, oK 1 [.ref (ad 5), .int sz]) :: (ad 5, aC k 117 tx) :: ((List.range 16).map (fun i => (r i, aI k 9 (R i))) ++ Y)
def MW (k : Nat → ClassId) (md : Nat → Nat) (th nn : Int32) (Am Wk Mo : Nat → Int32) (v cp : Nat) (bt : Nat → Int32) (ml cn : Int32) (Y : va_W) : va_W :=
  (md 0, oK 2 [.int th, .int nn, .ref (md 1), .ref (md 2), .ref (md 3), .ref (md 4)]) :: (md 1, aI k 144 Am) :: (md 2, aI k 9 Wk) :: (md 3, aI k 9 Mo) :: (md 4, oK 3 [.ref v, .int 0, .int ml, .int cn]) :: (v, aB k cp bt) :: Y
theorem rows_at {k : Nat → ClassId} {r : Nat → Nat} {R : Nat → Nat → Int32} {Y : va_W} {i : Nat} (hi : i < 16) : ((List.range 16).map (fun i => (r i, aI k 9 (R i))) ++ Y)[i]? = some (r i, aI k 9 (R i)) := by
  rw [List.getElem?_append_left (by rw [List.length_map, List.length_range]; exact hi), List.getElem?_map, List.getElem?_range hi]
  rfl
theorem rows_set {k : Nat → ClassId} {r : Nat → Nat} {R : Nat → Nat → Int32} {Y : va_W} {i : Nat} (hi : i < 16) (f : Nat → Int32) : ((List.range 16).map (fun i => (r i, aI k 9 (R i))) ++ Y).set i (r i, aI k 9 f) = (List.range 16).map (fun j => (r j, aI k 9 (upR R i f j))) ++ Y := by
  apply List.ext_getElem?
  intro j
  have hl : ∀ R : Nat → Nat → Int32, ((List.range 16).map (fun i => ((r i, aI k 9 (R i)) : Nat × va_E))).length = 16 := fun R => by rw [List.length_map, List.length_range]
  by_cases hj : j < 16
  · rw [rows_at hj]
    by_cases e : i = j
    · subst e
      rw [List.getElem?_set_self (by rw [List.length_append, hl]; omega), upR_s]
    · rw [List.getElem?_set_ne e, rows_at hj, upR_n _ _ (Ne.symm e)]
  · rw [List.getElem?_set_ne (by omega), List.getElem?_append_right (by rw [hl]; omega), List.getElem?_append_right (by rw [hl]; omega), hl, hl]
theorem KW_row {k : Nat → ClassId} {ad r : Nat → Nat} {cn : Int32} {R : Nat → Nat → Int32} {T U tx : Nat → Int32} {sz : Int32} {Y : va_W} {i : Nat} (hi : i < 16) : (KW k ad r cn R T U tx sz Y)[i + 6]? = some (r i, aI k 9 (R i)) := rows_at hi
theorem KW_srow {k : Nat → ClassId} {ad r : Nat → Nat} {cn : Int32} {R : Nat → Nat → Int32} {T U tx : Nat → Int32} {sz : Int32} {Y : va_W} {i : Nat} (hi : i < 16) {f : Nat → Int32} : (KW k ad r cn R T U tx sz Y).set (i + 6) (r i, aI k 9 f) = KW k ad r cn (upR R i f) T U tx sz Y := by
  show _ :: _ :: _ :: _ :: _ :: _ :: (((List.range 16).map (fun i => (r i, aI k 9 (R i))) ++ Y).set i (r i, aI k 9 f)) = _
  rw [rows_set hi]
  rfl
/-! ===== the model's rows ===== -/
def mrow (Am : Nat → Int32) (i : Nat) : Nat → Int32 := n9 (fun p => Am (9 * i + p))
def ptR (Am : Nat → Int32) (i : Nat) (g : Nat → Int32) : Nat → Int32 := fun j => if 9 * i ≤ j ∧ j < 9 * i + 9 then g (j - 9 * i) else Am j
theorem mrow_in {Am : Nat → Int32} {i j : Nat} (h : j < 9) : mrow Am i j = Am (9 * i + j) := n9_in h
theorem mrow_n9 (Am : Nat → Int32) (i : Nat) : n9 (mrow Am i) = mrow Am i := n9_n9 _
theorem mrow_pt (Am : Nat → Int32) (i : Nat) (g : Nat → Int32) : mrow (ptR Am i g) i = n9 g := n9_eq fun j hj => by
  unfold ptR
  rw [if_pos ⟨by omega, by omega⟩, Nat.add_sub_cancel_left]
theorem mrow_pn {Am : Nat → Int32} {i j : Nat} {g : Nat → Int32} (h : j ≠ i) : mrow (ptR Am i g) j = mrow Am j := n9_eq fun p hp => by
  unfold ptR
  rw [if_neg (by omega)]
/-! ===== what is asked of arguments ===== -/
def isF (v lo hi : Int32) : Bool := decide (lo ≤ v ∧ v ≤ hi)
def isR (n : Nat) (v : Int32) : Bool := isF v 0 (nI n - 1)
theorem isR_spec {n : Nat} (hn : n ≤ 16) {v : Int32} (h : isR n v = true) : ∃ i, i < n ∧ v = nI i := by
  obtain ⟨h1, h2⟩ := of_decide_eq_true h
  cases n with
  | zero => exact absurd (Int32.le_trans h1 h2) (by decide)
  | succ n =>
    rw [nI_pred] at h2
    rcases pk_ix v (show n + 1 < 2 ^ 31 by omega) with q | q | ⟨j, h3, h4⟩
    · exact absurd h1 (Int32.not_le.mpr q)
    · exact absurd (Int32.le_trans q h2) (nI_ge (Nat.lt_succ_self n) (by omega))
    · exact ⟨j, h3, h4⟩
theorem isR_of {n i : Nat} (hn : n ≤ 16) (h : i < n) : isR n (nI i) = true := by
  cases n with
  | zero => omega
  | succ n =>
    refine decide_eq_true ⟨nI_pos' (by omega), ?_⟩
    rw [nI_pred]
    exact nI_le (by omega) (by omega)
theorem isR_lt {n : Nat} {v : Int32} (h : v < 0) : isR n v = false := decide_eq_false fun q => absurd q.1 (Int32.not_le.mpr h)
theorem isR_ge {n : Nat} (hn : n ≤ 16) {v : Int32} (h : nI n ≤ v) : isR n v = false := by
  cases hr : isR n v with
  | false => rfl
  | true =>
    obtain ⟨i, h1, rfl⟩ := isR_spec hn hr
    exact absurd h (nI_ge h1 (by omega))
theorem isF_p {v : Int32} (h : isF v 0 8 = true) : ∃ j, j < 9 ∧ v = nI j := by
  obtain ⟨h1, h2⟩ := of_decide_eq_true h
  rcases pk_ix v (show 9 < 2 ^ 31 by omega) with q | q | ⟨j, h3, h4⟩
  · exact absurd h1 (Int32.not_le.mpr q)
  · exact absurd (Int32.le_trans q h2) (by decide)
  · exact ⟨j, h3, h4⟩
def ix (v : Int32) : Nat := v.toNatClampNeg
theorem ix_nI {i : Nat} (h : i < 2 ^ 31) : ix (nI i) = i := nI_clamp h
theorem bI_ne {b : Bool} (h : ¬ bI b = 0) : b = true := by cases b; exact absurd rfl h; rfl
theorem bI_eq {b : Bool} (h : bI b = 0) : b = false := by cases b; rfl; exact absurd h (by decide)
theorem bI_n (b : Bool) : narrow .boolean (.int (bI b)) = .int (bI b) := by cases b <;> rfl
def e1 (n : Nat) (rc : Int32) : Int32 := if isR n rc then 0 else 1
def eAdd (n : Nat) : Int32 := if n = 16 then 1 else 0
def eSet (n : Nat) (rc pw am : Int32) : Int32 := if isR n rc && isF pw 0 8 then (if isF am (-999) 999 then 0 else 2) else 1
def eAmt (n : Nat) (rc pw : Int32) : Int32 := if isR n rc && isF pw 0 8 then 0 else 1
def eShift (n : Nat) (rc g : Int32) : Int32 := if isR n rc then (if isF g (-20) 20 then 0 else 2) else 1
def eUp (n : Nat) (rc g : Int32) : Int32 := if isR n rc then (if isF g 1 50 then 0 else 2) else 1
def eJoin (n : Nat) (a b : Int32) : Int32 := if isR n a && isR n b then (if n = 16 then 2 else 0) else 1
def eDer (n : Nat) (a : Int32) : Int32 := if isR n a then (if n = 16 then 2 else 0) else 1
def e2 (n : Nat) (a b : Int32) : Int32 := if isR n a && isR n b then 0 else 1
def eProd (n : Nat) (R : Nat → Nat → Int32) (a b : Int32) : Int32 := if isR n a && isR n b then (if 8 < dI (dg (R (ix a))) + dI (dg (R (ix b))) then 2 else if n = 16 then 3 else 0) else 1
def eChain (n : Nat) (R : Nat → Nat → Int32) (a b : Int32) : Int32 := if isR n a && isR n b then (if 8 < dI (dg (R (ix a))) * dI (dg (R (ix b))) then 2 else if n = 16 then 3 else 0) else 1
def eDiv (n : Nat) (R : Nat → Nat → Int32) (a b : Int32) : Int32 := if isR n a && isR n b then (if pln (R (ix b)) then (if 14 < n then 3 else 0) else 2) else 1

theorem p_copyi {p : Program} {l : Launch} {e : Env} {R : Room} {s : State} {m : MethodId} {args : Array Value} {below : List Frame} {meth : Method} {c : Code} {D : va_G} {A : Nat → Prop} {nL : Nat} {k : Nat → ClassId} {own : String} {cc : ByteArray} {w : va_W} {lv : List (Nat × Value)} {cells slots : Nat} {Q : State → Prop} {pc : Nat} {rest : List Value} (C : Cx p s m args meth c cc nL own A D k) {index : Nat} (q1 : Cond.methodLink own index arraycopyName ∈ cAll) (q2 : Cond.native arraycopyName ∈ cAll) (q3 : Cond.static arraycopyName ∈ cAll) (q4 : Cond.initialized "java/lang/System" ∈ cAll) (u0 u1 : Nat) {a0 a1 n0 n1 sp dp n : Nat} {f g : Nat → Int32} (ha0 : w[u0]? = some (a0, aI k n0 f)) (ha1 : w[u1]? = some (a1, aI k n1 g)) (h4 : sp + n ≤ n0) (h5 : dp + n ≤ n1) (h6 : n0 < 2 ^ 31) (h7 : n1 < 2 ^ 31) (hfr : 1 ≤ R.frames) (hlo : (rest.map fun v => v.category).sum + (nativeFrameWords "java/lang/System" "arraycopy" 5 + 11) ≤ R.locals) {w9 : va_W} (hw : w.set u1 (a1, aI k n1 (va_cpy f g sp dp n)) = w9) (hdg : decode cc pc = .ok (.invokestatic index, 3)) (kk : WP p l e R s m args below meth c D A nL w9 lv cells slots Q (pc + 3) rest) : WP p l e R s m args below meth c D A nL w lv cells slots Q pc (.int (nI n) :: .int (nI dp) :: .ref a1 :: .int (nI sp) :: .ref a0 :: rest) :=
  fun H locs ls hP hD hS hl => by
    have e1 : (nI sp).toNatClampNeg = sp := nI_clamp (by omega)
    have e2 : (nI dp).toNatClampNeg = dp := nI_clamp (by omega)
    have e3 : (nI n).toNatClampNeg = n := nI_clamp (by omega)
    refine va_copyi (D := D) C.1 C.2.1 (C.2.2.1.trans hl.1.symm) C.2.2.2.1 (C.2.2.2.2.1 _ q1) (C.2.2.2.2.1 _ q2) (C.2.2.2.2.1 _ q3) (C.2.2.2.2.1 _ q4) C.2.2.2.2.2.2.1 hP hD hS u0 u1 0 0 ha0 ha1 rfl rfl rfl (nI_pos (by omega)) (nI_pos (by omega)) (nI_pos (by omega)) (by rw [e1, e3]; exact h4) (by rw [e2, e3]; exact h5) (fun _ _ => rfl) hfr hlo hdg (fun H1 locs1 hP1 hD1 hS1 => ?_)
    rw [e1, e2, e3] at hP1 hD1
    exact kk H1 locs1 ls (hw ▸ hP1) (hw ▸ hD1) hS1 hl
theorem ab_if (x : Int32) : (if (0 : Int64) < x.toInt64 then x.toInt64 else -x.toInt64) = lN (ab x) := by
  by_cases h : 0 ≤ lg_cmp x.toInt64 0
  · rw [← ab_t h]
    by_cases h0 : (0 : Int64) < x.toInt64
    · rw [if_pos h0]
    · rw [if_neg h0]
      have h1 := (lg_cmp_ge _ _).mp h
      have h2 : x.toInt64 = 0 := Int64.le_antisymm (Int64.not_lt.mp h0) h1
      rw [h2]; rfl
  · rw [← ab_f h, if_neg (fun q => h ((lg_cmp_ge _ _).mpr (Int64.le_of_lt q)))]
theorem p_labs {p : Program} {l : Launch} {e : Env} {R : Room} {s : State} {m : MethodId} {args : Array Value} {below : List Frame} {meth : Method} {c : Code} {D : va_G} {A : Nat → Prop} {nL : Nat} {k : Nat → ClassId} {own : String} {cc : ByteArray} {w : va_W} {lv : List (Nat × Value)} {cells slots : Nat} {Q : State → Prop} {pc : Nat} {rest : List Value} (C : Cx p s m args meth c cc nL own A D k) {index : Nat} {x : Int32} (q1 : Cond.methodLink own index Lib.MathLoose.abs_long.x ∈ cAll) (q2 : Cond.static Lib.MathLoose.abs_long.x ∈ cAll) (q3 : Cond.initialized "java/lang/Math" ∈ cAll) (q4 : Cond.code Lib.MathLoose.abs_long.x Lib.MathLoose.abs_long.code 2 (some .long) ∈ cAll) (hfr : 1 ≤ R.frames) (hlo : (rest.map fun v => v.category).sum + 13 ≤ R.locals) (hc : cells ≤ R.cells) (hs : slots ≤ R.slots) (hdg : decode cc pc = .ok (.invokestatic index, 3)) (kk : WP p l e R s m args below meth c D A nL w lv cells slots Q (pc + 3) (.long (lN (ab x)) :: rest)) : WP p l e R s m args below meth c D A nL w lv cells slots Q pc (.long x.toInt64 :: rest) :=
  fun H locs ls hP hD hS hl => va_mabs_long C.1 C.2.1 (C.2.2.1.trans hl.1.symm) C.2.2.2.1 (C.2.2.2.2.1 _ q1) (C.2.2.2.2.1 _ q2) (C.2.2.2.2.1 _ q3) (C.2.2.2.2.1 _ q4) hfr hlo hc hs hdg (by rw [ab_if]; exact kk H locs ls hP hD hS hl)
theorem p_min {p : Program} {l : Launch} {e : Env} {R : Room} {s : State} {m : MethodId} {args : Array Value} {below : List Frame} {meth : Method} {c : Code} {D : va_G} {A : Nat → Prop} {nL : Nat} {k : Nat → ClassId} {own : String} {cc : ByteArray} {w : va_W} {lv : List (Nat × Value)} {cells slots : Nat} {Q : State → Prop} {pc : Nat} {rest : List Value} (C : Cx p s m args meth c cc nL own A D k) {index : Nat} {x y : Int32} (q1 : Cond.methodLink own index Lib.Math.min.name ∈ cAll) (q2 : Cond.static Lib.Math.min.name ∈ cAll) (q3 : Cond.initialized "java/lang/Math" ∈ cAll) (q4 : Cond.code Lib.Math.min.name Lib.Math.min.code 2 (some .int) ∈ cAll) (hfr : 1 ≤ R.frames) (hlo : (rest.map fun v => v.category).sum + 13 ≤ R.locals) (hc : cells ≤ R.cells) (hs : slots ≤ R.slots) {z : Int32} (hz : (if y < x then y else x) = z) (hdg : decode cc pc = .ok (.invokestatic index, 3)) (kk : WP p l e R s m args below meth c D A nL w lv cells slots Q (pc + 3) (.int z :: rest)) : WP p l e R s m args below meth c D A nL w lv cells slots Q pc (.int y :: .int x :: rest) :=
  fun H locs ls hP hD hS hl => va_mmin C.1 C.2.1 (C.2.2.1.trans hl.1.symm) C.2.2.2.1 (C.2.2.2.2.1 _ q1) (C.2.2.2.2.1 _ q2) (C.2.2.2.2.1 _ q3) (C.2.2.2.2.1 _ q4) hfr hlo hc hs hdg (by rw [hz]; exact kk H locs ls hP hD hS hl)
theorem p_max {p : Program} {l : Launch} {e : Env} {R : Room} {s : State} {m : MethodId} {args : Array Value} {below : List Frame} {meth : Method} {c : Code} {D : va_G} {A : Nat → Prop} {nL : Nat} {k : Nat → ClassId} {own : String} {cc : ByteArray} {w : va_W} {lv : List (Nat × Value)} {cells slots : Nat} {Q : State → Prop} {pc : Nat} {rest : List Value} (C : Cx p s m args meth c cc nL own A D k) {index : Nat} {x y : Int32} (q1 : Cond.methodLink own index Lib.Math.max.name ∈ cAll) (q2 : Cond.static Lib.Math.max.name ∈ cAll) (q3 : Cond.initialized "java/lang/Math" ∈ cAll) (q4 : Cond.code Lib.Math.max.name Lib.Math.max.code 2 (some .int) ∈ cAll) (hfr : 1 ≤ R.frames) (hlo : (rest.map fun v => v.category).sum + 13 ≤ R.locals) (hc : cells ≤ R.cells) (hs : slots ≤ R.slots) {z : Int32} (hz : (if x < y then y else x) = z) (hdg : decode cc pc = .ok (.invokestatic index, 3)) (kk : WP p l e R s m args below meth c D A nL w lv cells slots Q (pc + 3) (.int z :: rest)) : WP p l e R s m args below meth c D A nL w lv cells slots Q pc (.int y :: .int x :: rest) :=
  fun H locs ls hP hD hS hl => va_mmax C.1 C.2.1 (C.2.2.1.trans hl.1.symm) C.2.2.2.1 (C.2.2.2.2.1 _ q1) (C.2.2.2.2.1 _ q2) (C.2.2.2.2.1 _ q3) (C.2.2.2.2.1 _ q4) hfr hlo hc hs hdg (by rw [hz]; exact kk H locs ls hP hD hS hl)
theorem p_newa_i {p : Program} {l : Launch} {e : Env} {R : Room} {s : State} {m : MethodId} {args : Array Value} {below : List Frame} {meth : Method} {c : Code} {D : va_G} {A : Nat → Prop} {nL : Nat} {k : Nat → ClassId} {own : String} {cc : ByteArray} {w : va_W} {lv : List (Nat × Value)} {cells slots : Nat} {Q : State → Prop} {pc : Nat} {rest : List Value} (C : Cx p s m args meth c cc nL own A D k) (q1 : Cond.arrayClass .int ∈ cAll) {N : Nat} (hN : N < 65536) (hc : cells + 1 ≤ R.cells) (hs : slots + N ≤ R.slots) (hdg : decode cc pc = .ok (.newarray .int, 2)) (kk : ∀ q : Nat, WP p l e R s m args below meth c D A nL (w ++ [(q, aI k N (fun _ => 0))]) lv (cells + 1) (slots + N) Q (pc + 2) (.ref q :: rest)) : WP p l e R s m args below meth c D A nL w lv cells slots Q pc (.int (nI N) :: rest) :=
  fun H locs ls hP hD hS hl => va_newa (D := D) (atype := .int) (ty := .int) (a0 := (N, .inl (fun _ => 0))) C.1 C.2.1 (C.2.2.2.2.1 _ q1) rfl C.2.2.2.2.2.2.1 hP hD hS C.2.2.2.2.2.2.2.1 (fun _ => rfl) (nI_pos (by omega)) (nI_clamp (by omega)) (by show N * _ ≤ _; simp only [componentBytes]; omega) hc hs hdg (fun q cA H1 hK1 hP1 hD1 hS1 => by
    have e1 := (hK1.2 5 (cA, .int) rfl).2
    have e2 := (C.2.2.2.2.2.2.1.2 0 _ rfl).2
    have e : cA = k 0 := Option.some.inj (Eq.trans (Eq.symm (show s.vm.findClass _ = some cA from e1)) (show s.vm.findClass _ = some (k 0) from e2))
    subst e
    exact kk q H1 locs ls hP1 hD1 hS1 hl)
theorem p_newa_b {p : Program} {l : Launch} {e : Env} {R : Room} {s : State} {m : MethodId} {args : Array Value} {below : List Frame} {meth : Method} {c : Code} {D : va_G} {A : Nat → Prop} {nL : Nat} {k : Nat → ClassId} {own : String} {cc : ByteArray} {w : va_W} {lv : List (Nat × Value)} {cells slots : Nat} {Q : State → Prop} {pc : Nat} {rest : List Value} (C : Cx p s m args meth c cc nL own A D k) (q1 : Cond.arrayClass .byte ∈ cAll) {N : Nat} (hN : N < 65536) (hc : cells + 1 ≤ R.cells) (hs : slots + N ≤ R.slots) (hdg : decode cc pc = .ok (.newarray .byte, 2)) (kk : ∀ q : Nat, WP p l e R s m args below meth c D A nL (w ++ [(q, aB k N (fun _ => 0))]) lv (cells + 1) (slots + N) Q (pc + 2) (.ref q :: rest)) : WP p l e R s m args below meth c D A nL w lv cells slots Q pc (.int (nI N) :: rest) :=
  fun H locs ls hP hD hS hl => va_newa (D := D) (atype := .byte) (ty := .byte) (a0 := (N, .inl (fun _ => 0))) C.1 C.2.1 (C.2.2.2.2.1 _ q1) rfl C.2.2.2.2.2.2.1 hP hD hS C.2.2.2.2.2.2.2.1 (fun _ => rfl) (nI_pos (by omega)) (nI_clamp (by omega)) (by show N * _ ≤ _; simp only [componentBytes]; omega) hc hs hdg (fun q cA H1 hK1 hP1 hD1 hS1 => by
    have e1 := (hK1.2 5 (cA, .byte) rfl).2
    have e2 := (C.2.2.2.2.2.2.1.2 4 _ rfl).2
    have e : cA = k 4 := Option.some.inj (Eq.trans (Eq.symm (show s.vm.findClass _ = some cA from e1)) (show s.vm.findClass _ = some (k 4) from e2))
    subst e
    exact kk q H1 locs ls hP1 hD1 hS1 hl)
theorem p_newa_c {p : Program} {l : Launch} {e : Env} {R : Room} {s : State} {m : MethodId} {args : Array Value} {below : List Frame} {meth : Method} {c : Code} {D : va_G} {A : Nat → Prop} {nL : Nat} {k : Nat → ClassId} {own : String} {cc : ByteArray} {w : va_W} {lv : List (Nat × Value)} {cells slots : Nat} {Q : State → Prop} {pc : Nat} {rest : List Value} (C : Cx p s m args meth c cc nL own A D k) (q1 : Cond.arrayClass .char ∈ cAll) {N : Nat} (hN : N < 65536) (hc : cells + 1 ≤ R.cells) (hs : slots + N ≤ R.slots) (hdg : decode cc pc = .ok (.newarray .char, 2)) (kk : ∀ q : Nat, WP p l e R s m args below meth c D A nL (w ++ [(q, aC k N (fun _ => 0))]) lv (cells + 1) (slots + N) Q (pc + 2) (.ref q :: rest)) : WP p l e R s m args below meth c D A nL w lv cells slots Q pc (.int (nI N) :: rest) :=
  fun H locs ls hP hD hS hl => va_newa (D := D) (atype := .char) (ty := .char) (a0 := (N, .inl (fun _ => 0))) C.1 C.2.1 (C.2.2.2.2.1 _ q1) rfl C.2.2.2.2.2.2.1 hP hD hS C.2.2.2.2.2.2.2.1 (fun _ => rfl) (nI_pos (by omega)) (nI_clamp (by omega)) (by show N * _ ≤ _; simp only [componentBytes]; omega) hc hs hdg (fun q cA H1 hK1 hP1 hD1 hS1 => by
    have e1 := (hK1.2 5 (cA, .char) rfl).2
    have e2 := (C.2.2.2.2.2.2.1.2 2 _ rfl).2
    have e : cA = k 2 := Option.some.inj (Eq.trans (Eq.symm (show s.vm.findClass _ = some cA from e1)) (show s.vm.findClass _ = some (k 2) from e2))
    subst e
    exact kk q H1 locs ls hP1 hD1 hS1 hl)
theorem p_dconst0 {p : Program} {l : Launch} {e : Env} {R : Room} {s : State} {m : MethodId} {args : Array Value} {below : List Frame} {meth : Method} {c : Code} {D : va_G} {A : Nat → Prop} {nL : Nat} {k : Nat → ClassId} {own : String} {cc : ByteArray} {w : va_W} {lv : List (Nat × Value)} {cells slots : Nat} {Q : State → Prop} {pc : Nat} {rest : List Value} (C : Cx p s m args meth c cc nL own A D k) (hdg : decode cc pc = .ok (.dconst 0, 1)) (kk : WP p l e R s m args below meth c D A nL w lv cells slots Q (pc + 1) (.double 0 :: rest)) : WP p l e R s m args below meth c D A nL w lv cells slots Q pc rest :=
  fun H locs ls hP hD hS hl => lv_dconst0 C.1 C.2.1 hdg (show W p l e R s m args below meth c H locs cells slots Q (F0 m (pc + 1) ls (.double 0 :: rest)) from kk H locs ls hP hD hS hl)
