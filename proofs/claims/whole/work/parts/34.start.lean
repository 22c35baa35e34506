theorem p_newa_l {p : Program} {l : Launch} {e : Env} {R : Room} {s : State} {m : MethodId} {args : Array Value} {below : List Frame} {meth : Method} {c : Code} {D : va_G} {A : Nat → Prop} {nL : Nat} {k : Nat → ClassId} {own : String} {cc : ByteArray} {w : va_W} {lv : List (Nat × Value)} {cells slots : Nat} {Q : State → Prop} {pc : Nat} {rest : List Value} (C : Cx p s m args meth c cc nL own A D k) (q1 : Cond.arrayClass .long ∈ cAll) {N : Nat} (hN : N < 65536) (hc : cells + 1 ≤ R.cells) (hs : slots + N ≤ R.slots) (hdg : decode cc pc = .ok (.newarray .long, 2)) (kk : ∀ q : Nat, WP p l e R s m args below meth c D A nL (w ++ [(q, aL k N (fun _ => 0))]) lv (cells + 1) (slots + N) Q (pc + 2) (.ref q :: rest)) : WP p l e R s m args below meth c D A nL w lv cells slots Q pc (.int (nI N) :: rest) :=
  fun H locs ls hP hD hS hl => va_newa (D := D) (atype := .long) (ty := .long) (a0 := (N, .inr (.inl (fun _ => 0)))) C.1 C.2.1 (C.2.2.2.2.1 _ q1) rfl C.2.2.2.2.2.2.1 hP hD hS C.2.2.2.2.2.2.2.1 (fun _ => rfl) (nI_pos (by omega)) (nI_clamp (by omega)) (by show N * _ ≤ _; simp only [componentBytes]; omega) hc hs hdg (fun q cA H1 hK1 hP1 hD1 hS1 => by
    have e1 := (hK1.2 5 (cA, .long) rfl).2
    have e2 := (C.2.2.2.2.2.2.1.2 3 _ rfl).2
    have e : cA = k 3 := Option.some.inj (Eq.trans (Eq.symm (show s.vm.findClass _ = some cA from e1)) (show s.vm.findClass _ = some (k 3) from e2))
    subst e
    exact kk q H1 locs ls hP1 hD1 hS1 hl)
theorem KW_e {k : Nat → ClassId} {ad r : Nat → Nat} {cn : Int32} {R : Nat → Nat → Int32} {T U tx : Nat → Int32} {sz : Int32} {x : Nat × va_E} : KW k ad r cn R T U tx sz [] ++ [x] = KW k ad r cn R T U tx sz [x] := by
  unfold KW
  simp only [List.cons_append, List.append_assoc, List.nil_append]
set_option maxHeartbeats 4000000 in
set_option maxRecDepth 100000 in
/-- the law from its entry to the loop -/
theorem law_start {p : Program} {l : Launch} {e : Env} {s : State} {m : MethodId} {args : Array Value} {below : List Frame} {meth : Method} {c : Code} {D : va_G} {A : Nat → Prop} {k : Nat → ClassId} {Q : State → Prop} (C : Cx p s m args meth c cL_law 9 RL A D k) (hfl : l.stackTraces = false) {b L : Nat} {xs : Nat → Int32} (hX : va_X b L xs s s.heap) (hbl : b < s.heap.size) (hbA : ¬ A b) (hL : L ≤ 2048) (hend : ∀ (w : va_W) (lv : List (Nat × Value)) (c' s' : Nat), c' ≤ 601024 → s' ≤ 7293034 → WP p l e (room_1) s m args below meth c D A 9 w lv c' s' Q 1938 []) : WP p l e (room_1) s m args below meth c D A 9 [] [(0, .ref b)] 0 0 Q 0 [] := by
  refine p_obj (T := TX2) (N := 5) C tyX2 tyX2_ok inX2 (ci := 0) rfl qcl_L_8 qnw_X2 qin_X2 [.null, .int 0, .null, .null, .null] (by decide) (Nat.le_of_ble_eq_true rfl) (Nat.le_of_ble_eq_true rfl) dL_law_0 (fun q1 => ?_)
  refine p_dup C rfl dL_law_3 ?_
  refine c_Iv (ret := none) (As := []) (rest := [.ref q1]) C (m_X2_init l D k (Y := []) (b := q1)) qml_L_104 qim_X2_init qin_X2 qco_X2_init rfl nd_X2_init ⟨Nat.le_of_ble_eq_true rfl, Nat.le_of_ble_eq_true rfl⟩ (Nat.le_of_ble_eq_true rfl) ⟨Nat.le_of_ble_eq_true rfl, Nat.le_of_ble_eq_true rfl⟩ rfl dL_law_4 (fun w9 h9 => ?_)
  obtain ⟨ad, r, had, rfl⟩ := h9
  subst had
  refine p_astore_n (lv9 := [(1, .ref (ad 0)), (0, .ref b)]) C rfl (by decide) rfl dL_law_7 ?_
  refine p_obj (T := TX3) (N := 6) C tyX3 tyX3_ok inX3 (ci := 2) rfl qcl_L_105 qnw_X3 qin_X3 [.int 0, .int 0, .null, .null, .null, .null] (by decide) (Nat.le_of_ble_eq_true rfl) (Nat.le_of_ble_eq_true rfl) dL_law_8 (fun q2 => ?_)
  refine p_dup C rfl dL_law_11 ?_
  refine c_Iv (ret := none) (As := []) (rest := [.ref q2]) C (m_X3_init l D k (Y := (KW k ad r 0 (fun _ _ => 0) (fun _ => 0) (fun _ => 0) (fun _ => 0) 0 [])) (b := q2)) qml_L_107 qim_X3_init qin_X3 qco_X3_init rfl nd_X3_init ⟨Nat.le_of_ble_eq_true rfl, Nat.le_of_ble_eq_true rfl⟩ (Nat.le_of_ble_eq_true rfl) ⟨Nat.le_of_ble_eq_true rfl, Nat.le_of_ble_eq_true rfl⟩ rfl dL_law_12 (fun w9 h9 => ?_)
  obtain ⟨md, v, hmd, rfl⟩ := h9
  subst hmd
  refine p_astore_n (lv9 := [(2, .ref (md 0)), (1, .ref (ad 0)), (0, .ref b)]) C rfl (by decide) rfl dL_law_15 ?_
  refine p_iconst (v := (nI 1)) C (by decide) dL_law_16 ?_
  refine p_newa_l (N := 1) C qaC_long (by omega) (Nat.le_of_ble_eq_true rfl) (Nat.le_of_ble_eq_true rfl) dL_law_17 (fun oa => ?_)
  refine p_w (w9 := (MW k md 0 (nI 0) (fun _ => 0) (fun _ => 0) (fun _ => 0) v 16 (fun _ => 0) 0 (nI 0) (KW k ad r (nI 0) (fun _ _ => 0) (fun _ => 0) (fun _ => 0) (fun _ => 0) 0 [(oa, aL k 1 (fun _ => 0))]))) ?_ ?_
  · show (MW k md 0 (nI 0) (fun _ => 0) (fun _ => 0) (fun _ => 0) v 16 (fun _ => 0) 0 (nI 0) ((KW k ad r (nI 0) (fun _ _ => 0) (fun _ => 0) (fun _ => 0) (fun _ => 0) 0 []) ++ [(oa, aL k 1 (fun _ => 0))])) = _
    rw [KW_e]
  refine p_toK ?_
  refine p_astore_n (lv9 := [(3, .ref oa), (2, .ref (md 0)), (1, .ref (ad 0)), (0, .ref b)]) C rfl (by decide) rfl dL_law_19 ?_
  refine p_iconst (v := (nI 0)) C (by decide) dL_law_20 ?_
  refine p_istore (lv9 := [(4, .int (nI 0)), (3, .ref oa), (2, .ref (md 0)), (1, .ref (ad 0)), (0, .ref b)]) C (by decide) rfl dL_law_21 ?_
  refine p_lv (lv9 := [(0, .ref b), (1, .ref (ad 0)), (2, .ref (md 0)), (3, .ref oa), (4, .int (nI 0))]) [4, 3, 2, 1, 0] rfl ?_
  exact law_loop C hfl hX hbl hbA hL (fun _ _ _ _ _ _ _ _ _ _ _ _ _ _ _ _ _ _ _ h1 h2 => hend _ _ _ _ h1 h2) 512 0 0 16 0 v _ _ _ _ _ _ _ _ _ _ _ _ _ _ (by omega) (by omega) ⟨Nat.zero_le _, fun i h => absurd h (Nat.not_lt_zero i), Or.inl rfl, fun _ => rfl, Nat.zero_le _⟩ (Nat.le_of_ble_eq_true rfl) (Nat.le_of_ble_eq_true rfl)
/-- the law's end -/
theorem law_end {p : Program} {l : Launch} {e : Env} {s : State} {m : MethodId} {below : List Frame} {meth : Method} {c : Code} {D : va_G} {k : Nat → ClassId} {b : Nat} (C : Cx p s m #[.ref b] meth c cL_law 9 RL (fun q => s.heap.size ≤ q) D k) (hr : meth.sig.returnType = ret) {w : va_W} {lv : List (Nat × Value)} {c' s' : Nat} (h1 : c' ≤ 601024) (h2 : s' ≤ 7293034) : WP p l e (room_1) s m #[.ref b] below meth c D (fun q => s.heap.size ≤ q) 9 w lv c' s' (lw_Z below #[Value.ref b] s) 1938 [] := by
  refine p_iconst (v := 1) C (by decide) dL_law_1938 ?_
  intro H locs ls hP hD hS hl
  refine va_forget (fun q hq => hS.2.2 q hq) ?_
  refine W.widen (k := 601024) (n := 7293034) h1 h2 ?_
  refine W.base ?_
  exact lw_ret (Drawn.sameBut.refl s.drawn lw_cs) C.1 C.2.1 hr C.2.2.2.2.2.1 dL_law_1939
theorem whole_start {p : Program} {e : Env} {s : State} {m : MethodId} {below : List Frame} {meth : Method} {c : Code} (l : Launch) (hflags : l.flags = flags0) {b L : Nat} {xs : Nat → Int32} (hL : L ≤ 2048) (C0 : lw_At p s m meth c b L xs) : W p l e room_1 s m #[Value.ref b] below meth c s.heap [] 0 0 (lw_Z below #[Value.ref b] s) (entryFrame m ([Value.ref b] : List Value).toArray 9) := by
  obtain ⟨D, k, C⟩ := st_Cx C0
  obtain ⟨hx, hb, hr, hml, hown, hts, hX, hbl, hlocks, hgv⟩ := C0
  have hbA : ¬ (fun q : Nat => s.heap.size ≤ q) b := Nat.not_le.mpr hbl
  have hP : va_P D cls [] s.heap := fun k q h => by simp at h
  have hD : va_D (fun q : Nat => s.heap.size ≤ q) [] := ⟨fun i j p q h => by simp at h, fun k q h => by simp at h⟩
  have hl := lv_entry ([.ref b]) (n := 9) (Nat.le_of_ble_eq_true rfl)
  rw [lg_entry_eq]
  generalize (lg_sl ([.ref b]) ++ List.replicate (9 - (lg_sl ([.ref b])).length) Slot.unset).toArray = ls at hl ⊢
  have hl : lv_has ls 9 [(0, .ref b)] := hl
  have G := law_start (e := e) (below := below) (Q := lw_Z below #[Value.ref b] s) C (st_fl hflags) hX hbl hbA hL (fun w lv c' s' h1 h2 => law_end C hr h1 h2)
  exact G s.heap [] ls hP hD va_S.rf hl
