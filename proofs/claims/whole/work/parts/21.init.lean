theorem ap_i {Y L : va_W} {i : Nat} {x : Nat × va_E} (h : L[i]? = some x) : (Y ++ L)[Y.length + i]? = some x := by
  rw [List.getElem?_append_right (Nat.le_add_right _ _), Nat.add_sub_cancel_left]; exact h
theorem ap_s {Y L L' : va_W} {i : Nat} {x : Nat × va_E} (h : L.set i x = L') : (Y ++ L).set (Y.length + i) x = Y ++ L' := by
  rw [List.set_append_right _ _ (Nat.le_add_right _ _), Nat.add_sub_cancel_left, h]
theorem w_swP {D : va_G} {a b : va_W} {H : Heap} (hP : va_P D cls (a ++ b) H) : va_P D cls (b ++ a) H := by
  have h : va_P D cls (([] ++ a) ++ b) H := hP
  exact h.swap
theorem w_swD {A : Nat → Prop} {a b : va_W} (hD : va_D A (a ++ b)) : va_D A (b ++ a) := by
  have h : va_D A (([] ++ a) ++ b) := hD
  exact h.swap
theorem p_swap9 {p : Program} {l : Launch} {e : Env} {R : Room} {s : State} {m : MethodId} {args : Array Value} {below : List Frame} {meth : Method} {c : Code} {D : va_G} {A : Nat → Prop} {nL : Nat} {lv : List (Nat × Value)} {cells slots : Nat} {Q : State → Prop} {pc : Nat} {st : List Value} {a b : va_W} (kk : WP p l e R s m args below meth c D A nL (b ++ a) lv cells slots Q pc st) : WP p l e R s m args below meth c D A nL (a ++ b) lv cells slots Q pc st := fun H locs ls hP hD hS hl => kk H locs ls (w_swP hP) (w_swD hD) hS hl
theorem p_obj {p : Program} {l : Launch} {e : Env} {R : Room} {s : State} {m : MethodId} {args : Array Value} {below : List Frame} {meth : Method} {c : Code} {D : va_G} {A : Nat → Prop} {nL : Nat} {k : Nat → ClassId} {own : String} {cc : ByteArray} {w : va_W} {lv : List (Nat × Value)} {cells slots : Nat} {Q : State → Prop} {pc : Nat} {rest : List Value} (C : Cx p s m args meth c cc nL own A D k) {Cn : String} {T : u_T} {N ci index : Nat} (ty0 : Nat → FieldType) (hty : ∀ k, k < N → parseFieldDescriptor (T k).2.2.1 = some (ty0 k)) (hin : ∀ w ∈ u_ws Cn T N, w ∈ cAll) (hc : cls[ci]? = some (Cn, T, N)) (q1 : Cond.classLink own index Cn ∈ cAll) (q2 : Cond.instantiable Cn N ∈ cAll) (q3 : Cond.initialized Cn ∈ cAll) (fs : List Value) (hfs : ∀ j, j < N → defaultValue (ty0 j) = vp_V fs j) (h1 : cells + 1 ≤ R.cells) (h2 : slots + N ≤ R.slots) (hdg : decode cc pc = .ok (.new index, 3)) (kk : ∀ q : Nat, WP p l e R s m args below meth c D A nL (w ++ [(q, .inr (ci, fs))]) lv (cells + 1) (slots + N) Q (pc + 3) (.ref q :: rest)) : WP p l e R s m args below meth c D A nL w lv cells slots Q pc rest :=
  fun H locs ls hP hD hS hl => va_new (D := D) C.1 C.2.1 C.2.2.2.2.1 hin ty0 hty C.2.2.2.1 (C.2.2.2.2.1 _ q1) (C.2.2.2.2.1 _ q2) (C.2.2.2.2.1 _ q3) C.2.2.2.2.2.2.1 hP hD hS C.2.2.2.2.2.2.2.1 hc hfs h1 h2 hdg (fun q H1 hP1 hD1 hS1 => kk q H1 locs ls hP1 hD1 hS1 hl)
theorem p_oinit {p : Program} {l : Launch} {e : Env} {R : Room} {s : State} {m : MethodId} {args : Array Value} {below : List Frame} {meth : Method} {c : Code} {D : va_G} {A : Nat → Prop} {nL : Nat} {k : Nat → ClassId} {own : String} {cc : ByteArray} {w : va_W} {lv : List (Nat × Value)} {cells slots : Nat} {Q : State → Prop} {pc : Nat} {rest : List Value} (C : Cx p s m args meth c cc nL own A D k) {index : Nat} {a : Addr} (q1 : Cond.methodLink own index Lib.objectInit ∈ cAll) (q2 : Cond.instanceMethod Lib.objectInit ∈ cAll) (q3 : Cond.code Lib.objectInit ⟨#[0xb1]⟩ 1 none ∈ cAll) (hfr : 1 ≤ R.frames) (hlo : (rest.map fun v => v.category).sum + 12 ≤ R.locals) (hdg : decode cc pc = .ok (.invokespecial index, 3)) (kk : WP p l e R s m args below meth c D A nL w lv cells slots Q (pc + 3) rest) : WP p l e R s m args below meth c D A nL w lv cells slots Q pc (.ref a :: rest) :=
  fun H locs ls hP hD hS hl => W.objInit C.1 C.2.1 C.2.2.2.1 (C.2.2.2.2.1 _ q1) (C.2.2.2.2.1 _ q2) (C.2.2.2.2.1 _ q3) rfl (hl.1.trans C.2.2.1.symm) rfl hdg hfr (by show 2 * 0 + _ + 12 ≤ _; omega) (kk H locs ls hP hD hS hl)
theorem p_mna {p : Program} {l : Launch} {e : Env} {R : Room} {s : State} {m : MethodId} {args : Array Value} {below : List Frame} {meth : Method} {c : Code} {D : va_G} {A : Nat → Prop} {nL : Nat} {k : Nat → ClassId} {own : String} {cc : ByteArray} {w : va_W} {lv : List (Nat × Value)} {cells slots : Nat} {Q : State → Prop} {pc : Nat} {rest : List Value} (C : Cx p s m args meth c cc nL own A D k) {index : Nat} (q1 : Cond.classLink own index "[[I" ∈ cAll) (q2 : Cond.arrayClass .int ∈ cAll) (h1 : cells + 17 ≤ R.cells) (h2 : slots + 160 ≤ R.slots) (hdg : decode cc pc = .ok (.multianewarray index 2, 4)) (kk : ∀ (q : Nat) (r : Nat → Nat), WP p l e R s m args below meth c D A nL (((List.range 16).map (fun i => (r i, aI k 9 (fun _ => 0)))) ++ (w ++ [(q, aQ k 16 (fun i => if i < 16 then some (r i) else none))])) lv (cells + 17) (slots + 160) Q (pc + 4) (.ref q :: rest)) : WP p l e R s m args below meth c D A nL w lv cells slots Q pc (.int (nI 9) :: .int (nI 16) :: rest) :=
  fun H locs ls hP hD hS hl => by
    have ew : w ++ va_pl [] (fun _ => (.inr (0, []) : va_E)) = w := List.append_nil w
    have hcy : s.vm.findClass (FieldType.array .int).toString = some (k 0) := (C.2.2.2.2.2.2.1.2 0 _ rfl).2
    refine va_mna (D := D) (X := w) (L := []) (f := fun _ => .inr (0, [])) (ty := .int) (cy := k 0) (N' := 16) (K' := 9) (z := (9, .inl (fun _ => 0))) C.1 C.2.1 C.2.2.2.1 (C.2.2.2.2.1 _ q1) (fun A9 => C.2.2.2.2.2.2.2.2.2.2.2.2.2.2.2.2.2.2) (C.2.2.2.2.1 _ q2) hcy C.2.2.2.2.2.2.1 (ew.symm ▸ hP) (ew.symm ▸ hD) hS C.2.2.2.2.2.2.2.1 (by decide) (by decide) (by decide) (by decide) (by decide) (by decide) (by decide) (by decide) (by decide) h1 h2 (fun _ => rfl) hdg (fun q r cA H1 hr1 hr2 hK1 hP1 hD1 hS1 => ?_)
    have e1 := (hK1.2 5 (cA, .array .int) rfl).2
    have e2 := (C.2.2.2.2.2.2.1.2 1 _ rfl).2
    have e : cA = k 1 := Option.some.inj (Eq.trans (Eq.symm (show s.vm.findClass _ = some cA from e1)) (show s.vm.findClass _ = some (k 1) from e2))
    subst e
    have er : va_pl ([] ++ (List.range 16).map r) (vr_up (fun _ => (.inr (0, []) : va_E)) ((List.range 16).map r) (.inl (k 0, (9, .inl (fun _ => 0))))) = ((List.range 16).map (fun i => (r i, aI k 9 (fun _ => 0)))) := by
      show ((List.range 16).map r).map _ = _
      rw [List.map_map]
      refine List.map_congr_left fun i hi => ?_
      show (r i, vr_up _ _ _ (r i)) = _
      rw [vr_up_in (List.mem_map.mpr ⟨i, hi, rfl⟩)]
    rw [er] at hP1 hD1
    exact kk q r H1 locs ls (w_swP hP1) (w_swD hD1) hS1 hl
theorem rmL0 {d a b : Nat} : (rmL d a b).cells = a := rfl
set_option maxHeartbeats 4000000 in
set_option maxRecDepth 100000 in
/-- the builder, new -/
theorem m_J5_init (l : Launch) (D : va_G) (k : Nat → ClassId) {Y : va_W} {b : Nat} : CtV l D k yJ5_init_d00df (wU yJ5_init_d00df cJ5_init_d00df 2 (none)) (rmL 1 1 16) [.ref b, .int (nI 16)] (Y ++ [(b, oK 3 [.null, .int 0, .int 0, .int 0])]) (fun w' => ∃ v, w' = (Y ++ [(b, oK 3 [.ref v, .int 0, .int 0, .int 0]), (v, aB k 16 (fun _ => 0))])) := by
  refine openV (own := RJ5) rfl (by decide) (Nat.le_of_ble_eq_true rfl) rfl ?_
  intro p e s m args below meth c A C hrt9 hnm
  obtain ⟨Q, hQ⟩ : ∃ Q, Q = (MQ below (va_Qv (fun w' => ∃ v, w' = (Y ++ [(b, oK 3 [.ref v, .int 0, .int 0, .int 0]), (v, aB k 16 (fun _ => 0))])) (cBA D A) A) args s 1 16 A) := ⟨_, rfl⟩
  show WP p l e (rmL 1 1 16) s m args below meth c D A 2 (Y ++ [(b, oK 3 [.null, .int 0, .int 0, .int 0])]) [(0, .ref b), (1, .int (nI 16))] 0 0 (MQ below (va_Qv (fun w' => ∃ v, w' = (Y ++ [(b, oK 3 [.ref v, .int 0, .int 0, .int 0]), (v, aB k 16 (fun _ => 0))])) (cBA D A) A) args s 1 16 A) 0 []
  rw [← hQ]
  refine p_aload_n C rfl 0 rfl dJ5_init_d00df_0 ?_
  refine p_oinit (rest := []) C qml_J5_3 qim_objectInit qco_objectInit (Nat.le_of_ble_eq_true rfl) (Nat.le_of_ble_eq_true rfl) dJ5_init_d00df_1 ?_
  refine p_gets (v := .int 1) C C.2.2.2.2.2.2.2.2.2.2.2.2.1 qfl_J5_18 (fun _ h9 => h9) dJ5_init_d00df_4 ?_
  refine p_if_eq C 25 (by decide) dJ5_init_d00df_7 (fun c_7 => absurd c_7 (by decide)) (fun c_7 => ?_)
  refine p_aload_n C rfl 0 rfl dJ5_init_d00df_10 ?_
  refine p_iload_n C rfl 1 rfl dJ5_init_d00df_11 ?_
  refine p_newa_b (N := 16) C qaC_byte (by omega) (by (try simp only [rmL_c, rmL_s]); omega) (by (try simp only [rmL_c, rmL_s]); omega) dJ5_init_d00df_12 (fun q_1 => ?_)
  refine p_w (w9 := (Y ++ [(b, oK 3 [.null, .int 0, .int 0, .int 0]), (q_1, aB k 16 (fun _ => 0))])) (List.append_assoc _ _ _) ?_
  refine p_put (w9 := (Y ++ [(b, oK 3 [.ref q_1, .int 0, .int 0, .int 0]), (q_1, aB k 16 (fun _ => 0))])) (v := .ref q_1) (T := TJ4) C tyJ4 tyJ4_ok nmJ4 (Y.length + 0) (ap_i rfl) rfl 0 (by decide) inJ4 qfl_J5_15 (fun _ h9 => h9) rfl rfl rfl (Nat.le_of_ble_eq_true rfl) (ap_s rfl) dJ5_init_d00df_14 ?_
  refine p_aload_n C rfl 0 rfl dJ5_init_d00df_17 ?_
  refine p_iconst (v := 0) C (by decide) dJ5_init_d00df_18 ?_
  refine p_put (w9 := (Y ++ [(b, oK 3 [.ref q_1, .int 0, .int 0, .int 0]), (q_1, aB k 16 (fun _ => 0))])) (v := .int 0) (T := TJ4) C tyJ4 tyJ4_ok nmJ4 (Y.length + 0) (ap_i rfl) rfl 1 (by decide) inJ4 qfl_J5_22 (fun _ h9 => h9) rfl rfl rfl (Nat.le_of_ble_eq_true rfl) (ap_s rfl) dJ5_init_d00df_19 ?_
  refine p_goto C 38 (by decide) dJ5_init_d00df_22 ?_
  rw [hQ]
  exact r_v C hrt9 (⟨_, rfl⟩) (by decide) (by decide) dJ5_init_d00df_38
set_option maxHeartbeats 4000000 in
set_option maxRecDepth 100000 in
/-- the builder, new -/
theorem m_J4_init (l : Launch) (D : va_G) (k : Nat → ClassId) {Y : va_W} {b : Nat} : CtV l D k yJ4_init_da8c8 (wU yJ4_init_da8c8 cJ4_init_da8c8 1 (none)) (rmL 2 1 16) [.ref b] (Y ++ [(b, oK 3 [.null, .int 0, .int 0, .int 0])]) (fun w' => ∃ v, w' = (Y ++ [(b, oK 3 [.ref v, .int 0, .int 0, .int 0]), (v, aB k 16 (fun _ => 0))])) := by
  refine openV (own := RJ4) rfl (by decide) (Nat.le_of_ble_eq_true rfl) rfl ?_
  intro p e s m args below meth c A C hrt9 hnm
  obtain ⟨Q, hQ⟩ : ∃ Q, Q = (MQ below (va_Qv (fun w' => ∃ v, w' = (Y ++ [(b, oK 3 [.ref v, .int 0, .int 0, .int 0]), (v, aB k 16 (fun _ => 0))])) (cBA D A) A) args s 1 16 A) := ⟨_, rfl⟩
  show WP p l e (rmL 2 1 16) s m args below meth c D A 1 (Y ++ [(b, oK 3 [.null, .int 0, .int 0, .int 0])]) [(0, .ref b)] 0 0 (MQ below (va_Qv (fun w' => ∃ v, w' = (Y ++ [(b, oK 3 [.ref v, .int 0, .int 0, .int 0]), (v, aB k 16 (fun _ => 0))])) (cBA D A) A) args s 1 16 A) 0 []
  rw [← hQ]
  refine p_aload_n C rfl 0 rfl dJ4_init_da8c8_0 ?_
  refine p_bipush (v := (nI 16)) C (by decide) dJ4_init_da8c8_1 ?_
  refine c_Iv (ret := none) (As := [.int (nI 16)]) (rest := []) C (m_J5_init l D k (Y := Y) (b := b)) qml_J4_1 qim_J5_init_d00df qin_J5 qco_J5_init_d00df rfl nd_J5_init_d00df ⟨Nat.le_of_ble_eq_true rfl, Nat.le_of_ble_eq_true rfl⟩ (Nat.le_of_ble_eq_true rfl) ⟨Nat.le_of_ble_eq_true rfl, Nat.le_of_ble_eq_true rfl⟩ rfl dJ4_init_da8c8_3 (fun w9 h9 => ?_)
  obtain ⟨v9, rfl⟩ := h9
  rw [hQ]
  exact r_v C hrt9 (⟨_, rfl⟩) (by decide) (by decide) dJ4_init_da8c8_6
set_option maxHeartbeats 4000000 in
set_option maxRecDepth 100000 in
/-- the model, new -/
theorem m_X3_init (l : Launch) (D : va_G) (k : Nat → ClassId) {Y : va_W} {b : Nat} : CtV l D k yX3_init (wU yX3_init cX3_init 1 (none)) (rmL 3 5 182) [.ref b] (Y ++ [(b, oK 2 [.int 0, .int 0, .null, .null, .null, .null])]) (fun w' => ∃ (md : Nat → Nat) (v : Nat), md 0 = b ∧ w' = MW k md 0 (nI 0) (fun _ => 0) (fun _ => 0) (fun _ => 0) v 16 (fun _ => 0) 0 (nI 0) Y) := by
  refine openV (own := RX3) rfl (by decide) (Nat.le_of_ble_eq_true rfl) rfl ?_
  intro p e s m args below meth c A C hrt9 hnm
  obtain ⟨Q, hQ⟩ : ∃ Q, Q = (MQ below (va_Qv (fun w' => ∃ (md : Nat → Nat) (v : Nat), md 0 = b ∧ w' = MW k md 0 (nI 0) (fun _ => 0) (fun _ => 0) (fun _ => 0) v 16 (fun _ => 0) 0 (nI 0) Y) (cBA D A) A) args s 5 182 A) := ⟨_, rfl⟩
  show WP p l e (rmL 3 5 182) s m args below meth c D A 1 (Y ++ [(b, oK 2 [.int 0, .int 0, .null, .null, .null, .null])]) [(0, .ref b)] 0 0 (MQ below (va_Qv (fun w' => ∃ (md : Nat → Nat) (v : Nat), md 0 = b ∧ w' = MW k md 0 (nI 0) (fun _ => 0) (fun _ => 0) (fun _ => 0) v 16 (fun _ => 0) 0 (nI 0) Y) (cBA D A) A) args s 5 182 A) 0 []
  rw [← hQ]
  refine p_aload_n C rfl 0 rfl dX3_init_0 ?_
  refine p_oinit (rest := []) C qml_X3_1 qim_objectInit qco_objectInit (Nat.le_of_ble_eq_true rfl) (Nat.le_of_ble_eq_true rfl) dX3_init_1 ?_
  refine p_aload_n C rfl 0 rfl dX3_init_4 ?_
  refine p_sipush (v := (nI 144)) C (by decide) dX3_init_5 ?_
  refine p_newa_i (N := 144) C qaC_int (by omega) (by (try simp only [rmL_c, rmL_s]); omega) (by (try simp only [rmL_c, rmL_s]); omega) dX3_init_8 (fun q_1 => ?_)
  refine p_w (w9 := (Y ++ [(b, oK 2 [.int 0, .int 0, .null, .null, .null, .null]), (q_1, aI k 144 (fun _ => 0))])) (List.append_assoc _ _ _) ?_
  refine p_putF (w9 := (Y ++ [(b, oK 2 [.int 0, .int 0, .ref q_1, .null, .null, .null]), (q_1, aI k 144 (fun _ => 0))])) (v := .ref q_1) (T := TX3) C hnm tyX3 tyX3_ok nmX3 (Y.length + 0) (ap_i rfl) rfl 2 (by decide) inX3 qfl_X3_9 (fun _ h9 => h9) rfl rfl rfl rfl (Nat.le_of_ble_eq_true rfl) (ap_s rfl) dX3_init_10 ?_
  refine p_aload_n C rfl 0 rfl dX3_init_13 ?_
  refine p_bipush (v := (nI 9)) C (by decide) dX3_init_14 ?_
  refine p_newa_i (N := 9) C qaC_int (by omega) (by (try simp only [rmL_c, rmL_s]); omega) (by (try simp only [rmL_c, rmL_s]); omega) dX3_init_16 (fun q_2 => ?_)
  refine p_w (w9 := (Y ++ [(b, oK 2 [.int 0, .int 0, .ref q_1, .null, .null, .null]), (q_1, aI k 144 (fun _ => 0)), (q_2, aI k 9 (fun _ => 0))])) (List.append_assoc _ _ _) ?_
  refine p_putF (w9 := (Y ++ [(b, oK 2 [.int 0, .int 0, .ref q_1, .ref q_2, .null, .null]), (q_1, aI k 144 (fun _ => 0)), (q_2, aI k 9 (fun _ => 0))])) (v := .ref q_2) (T := TX3) C hnm tyX3 tyX3_ok nmX3 (Y.length + 0) (ap_i rfl) rfl 3 (by decide) inX3 qfl_X3_13 (fun _ h9 => h9) rfl rfl rfl rfl (Nat.le_of_ble_eq_true rfl) (ap_s rfl) dX3_init_18 ?_
  refine p_aload_n C rfl 0 rfl dX3_init_21 ?_
  refine p_bipush (v := (nI 9)) C (by decide) dX3_init_22 ?_
  refine p_newa_i (N := 9) C qaC_int (by omega) (by (try simp only [rmL_c, rmL_s]); omega) (by (try simp only [rmL_c, rmL_s]); omega) dX3_init_24 (fun q_3 => ?_)
  refine p_w (w9 := (Y ++ [(b, oK 2 [.int 0, .int 0, .ref q_1, .ref q_2, .null, .null]), (q_1, aI k 144 (fun _ => 0)), (q_2, aI k 9 (fun _ => 0)), (q_3, aI k 9 (fun _ => 0))])) (List.append_assoc _ _ _) ?_
  refine p_putF (w9 := (Y ++ [(b, oK 2 [.int 0, .int 0, .ref q_1, .ref q_2, .ref q_3, .null]), (q_1, aI k 144 (fun _ => 0)), (q_2, aI k 9 (fun _ => 0)), (q_3, aI k 9 (fun _ => 0))])) (v := .ref q_3) (T := TX3) C hnm tyX3 tyX3_ok nmX3 (Y.length + 0) (ap_i rfl) rfl 4 (by decide) inX3 qfl_X3_16 (fun _ h9 => h9) rfl rfl rfl rfl (Nat.le_of_ble_eq_true rfl) (ap_s rfl) dX3_init_26 ?_
  refine p_aload_n C rfl 0 rfl dX3_init_29 ?_
  refine p_obj (T := TJ4) (N := 4) C tyJ4 tyJ4_ok inJ4 (ci := 3) rfl qcl_X3_19 qnw_J4 qin_J4 [.null, .int 0, .int 0, .int 0] (by decide) (by (try simp only [rmL_c, rmL_s]); omega) (by (try simp only [rmL_c, rmL_s]); omega) dX3_init_30 (fun q_4 => ?_)
  refine p_w (w9 := (Y ++ [(b, oK 2 [.int 0, .int 0, .ref q_1, .ref q_2, .ref q_3, .null]), (q_1, aI k 144 (fun _ => 0)), (q_2, aI k 9 (fun _ => 0)), (q_3, aI k 9 (fun _ => 0)), (q_4, oK 3 [.null, .int 0, .int 0, .int 0])])) (List.append_assoc _ _ _) ?_
  refine p_dup C rfl dX3_init_33 ?_
  refine p_w (w9 := ((Y ++ [(b, oK 2 [.int 0, .int 0, .ref q_1, .ref q_2, .ref q_3, .null]), (q_1, aI k 144 (fun _ => 0)), (q_2, aI k 9 (fun _ => 0)), (q_3, aI k 9 (fun _ => 0))]) ++ [(q_4, oK 3 [.null, .int 0, .int 0, .int 0])])) (List.append_assoc _ [(b, oK 2 [.int 0, .int 0, .ref q_1, .ref q_2, .ref q_3, .null]), (q_1, aI k 144 (fun _ => 0)), (q_2, aI k 9 (fun _ => 0)), (q_3, aI k 9 (fun _ => 0))] [(q_4, oK 3 [.null, .int 0, .int 0, .int 0])]).symm ?_
  refine c_Iv (ret := none) (As := []) (rest := [.ref q_4, .ref b]) C (m_J4_init l D k (Y := (Y ++ [(b, oK 2 [.int 0, .int 0, .ref q_1, .ref q_2, .ref q_3, .null]), (q_1, aI k 144 (fun _ => 0)), (q_2, aI k 9 (fun _ => 0)), (q_3, aI k 9 (fun _ => 0))])) (b := q_4)) qml_X3_21 qim_J4_init_da8c8 qin_J4 qco_J4_init_da8c8 rfl nd_J4_init_da8c8 ⟨Nat.le_of_ble_eq_true rfl, Nat.le_of_ble_eq_true rfl⟩ (Nat.le_of_ble_eq_true rfl) ⟨Nat.le_of_ble_eq_true rfl, Nat.le_of_ble_eq_true rfl⟩ rfl dX3_init_34 (fun w9 h9 => ?_)
  obtain ⟨v9, rfl⟩ := h9
  refine p_w (w9 := (Y ++ [(b, oK 2 [.int 0, .int 0, .ref q_1, .ref q_2, .ref q_3, .null]), (q_1, aI k 144 (fun _ => 0)), (q_2, aI k 9 (fun _ => 0)), (q_3, aI k 9 (fun _ => 0)), (q_4, oK 3 [.ref v9, .int 0, .int 0, .int 0]), (v9, aB k 16 (fun _ => 0))])) (List.append_assoc _ _ _) ?_
  refine p_putF (w9 := (Y ++ [(b, oK 2 [.int 0, .int 0, .ref q_1, .ref q_2, .ref q_3, .ref q_4]), (q_1, aI k 144 (fun _ => 0)), (q_2, aI k 9 (fun _ => 0)), (q_3, aI k 9 (fun _ => 0)), (q_4, oK 3 [.ref v9, .int 0, .int 0, .int 0]), (v9, aB k 16 (fun _ => 0))])) (v := .ref q_4) (T := TX3) C hnm tyX3 tyX3_ok nmX3 (Y.length + 0) (ap_i rfl) rfl 5 (by decide) inX3 qfl_X3_22 (fun _ h9 => h9) rfl rfl rfl rfl (Nat.le_of_ble_eq_true rfl) (ap_s rfl) dX3_init_37 ?_
  refine p_swap9 ?_
  rw [hQ]
  exact r_v C hrt9 ⟨fun i => [b, q_1, q_2, q_3, q_4].getD i 0, v9, rfl, rfl⟩ (by (try simp only [rmL_c, rmL_s]); omega) (by (try simp only [rmL_c, rmL_s]); omega) dX3_init_40
set_option maxHeartbeats 4000000 in
set_option maxRecDepth 100000 in
/-- the text of the class, new -/
theorem m_X0_init (l : Launch) (D : va_G) (k : Nat → ClassId) {Y : va_W} {b : Nat} : CtV l D k yX0_init (wU yX0_init cX0_init 1 (none)) (rmL 1 1 117) [.ref b] (Y ++ [(b, oK 1 [.null, .int 0])]) (fun w' => ∃ v, w' = (Y ++ [(b, oK 1 [.ref v, .int 0]), (v, aC k 117 (fun _ => 0))])) := by
  refine openV (own := RX0) rfl (by decide) (Nat.le_of_ble_eq_true rfl) rfl ?_
  intro p e s m args below meth c A C hrt9 hnm
  obtain ⟨Q, hQ⟩ : ∃ Q, Q = (MQ below (va_Qv (fun w' => ∃ v, w' = (Y ++ [(b, oK 1 [.ref v, .int 0]), (v, aC k 117 (fun _ => 0))])) (cBA D A) A) args s 1 117 A) := ⟨_, rfl⟩
  show WP p l e (rmL 1 1 117) s m args below meth c D A 1 (Y ++ [(b, oK 1 [.null, .int 0])]) [(0, .ref b)] 0 0 (MQ below (va_Qv (fun w' => ∃ v, w' = (Y ++ [(b, oK 1 [.ref v, .int 0]), (v, aC k 117 (fun _ => 0))])) (cBA D A) A) args s 1 117 A) 0 []
  rw [← hQ]
  refine p_aload_n C rfl 0 rfl dX0_init_0 ?_
  refine p_oinit (rest := []) C qml_X0_5 qim_objectInit qco_objectInit (Nat.le_of_ble_eq_true rfl) (Nat.le_of_ble_eq_true rfl) dX0_init_1 ?_
  refine p_aload_n C rfl 0 rfl dX0_init_4 ?_
  refine p_bipush (v := (nI 117)) C (by decide) dX0_init_5 ?_
  refine p_newa_c (N := 117) C qaC_char (by omega) (by (try simp only [rmL_c, rmL_s]); omega) (by (try simp only [rmL_c, rmL_s]); omega) dX0_init_7 (fun q_1 => ?_)
  refine p_w (w9 := (Y ++ [(b, oK 1 [.null, .int 0]), (q_1, aC k 117 (fun _ => 0))])) (List.append_assoc _ _ _) ?_
  refine p_putF (w9 := (Y ++ [(b, oK 1 [.ref q_1, .int 0]), (q_1, aC k 117 (fun _ => 0))])) (v := .ref q_1) (T := TX0) C hnm tyX0 tyX0_ok nmX0 (Y.length + 0) (ap_i rfl) rfl 0 (by decide) inX0 qfl_X0_11 (fun _ h9 => h9) rfl rfl rfl rfl (Nat.le_of_ble_eq_true rfl) (ap_s rfl) dX0_init_9 ?_
  refine p_aload_n C rfl 0 rfl dX0_init_12 ?_
  refine p_iconst (v := 0) C (by decide) dX0_init_13 ?_
  refine p_put (w9 := (Y ++ [(b, oK 1 [.ref q_1, .int 0]), (q_1, aC k 117 (fun _ => 0))])) (v := .int 0) (T := TX0) C tyX0 tyX0_ok nmX0 (Y.length + 0) (ap_i rfl) rfl 1 (by decide) inX0 qfl_X0_15 (fun _ h9 => h9) rfl rfl rfl (Nat.le_of_ble_eq_true rfl) (ap_s rfl) dX0_init_14 ?_
  rw [hQ]
  exact r_v C hrt9 (⟨_, rfl⟩) (by decide) (by decide) dX0_init_17
set_option maxHeartbeats 4000000 in
set_option maxRecDepth 100000 in
/-- the class, new -/
theorem m_X2_init (l : Launch) (D : va_G) (k : Nat → ClassId) {Y : va_W} {b : Nat} : CtV l D k yX2_init (wU yX2_init cX2_init 1 (none)) (rmL 3 21 297) [.ref b] (Y ++ [(b, oK 0 [.null, .int 0, .null, .null, .null])]) (fun w' => ∃ (ad r : Nat → Nat), ad 0 = b ∧ w' = KW k ad r 0 (fun _ _ => 0) (fun _ => 0) (fun _ => 0) (fun _ => 0) 0 Y) := by
  refine openV (own := RX2) rfl (by decide) (Nat.le_of_ble_eq_true rfl) rfl ?_
  intro p e s m args below meth c A C hrt9 hnm
  obtain ⟨Q, hQ⟩ : ∃ Q, Q = (MQ below (va_Qv (fun w' => ∃ (ad r : Nat → Nat), ad 0 = b ∧ w' = KW k ad r 0 (fun _ _ => 0) (fun _ => 0) (fun _ => 0) (fun _ => 0) 0 Y) (cBA D A) A) args s 21 297 A) := ⟨_, rfl⟩
  show WP p l e (rmL 3 21 297) s m args below meth c D A 1 (Y ++ [(b, oK 0 [.null, .int 0, .null, .null, .null])]) [(0, .ref b)] 0 0 (MQ below (va_Qv (fun w' => ∃ (ad r : Nat → Nat), ad 0 = b ∧ w' = KW k ad r 0 (fun _ _ => 0) (fun _ => 0) (fun _ => 0) (fun _ => 0) 0 Y) (cBA D A) A) args s 21 297 A) 0 []
  rw [← hQ]
  refine p_aload_n C rfl 0 rfl dX2_init_0 ?_
  refine p_oinit (rest := []) C qml_X2_1 qim_objectInit qco_objectInit (Nat.le_of_ble_eq_true rfl) (Nat.le_of_ble_eq_true rfl) dX2_init_1 ?_
  refine p_aload_n C rfl 0 rfl dX2_init_4 ?_
  refine p_bipush (v := (nI 16)) C (by decide) dX2_init_5 ?_
  refine p_bipush (v := (nI 9)) C (by decide) dX2_init_7 ?_
  refine p_mna C qcl_X2_9 qaC_int (by (try simp only [rmL_c, rmL_s]); omega) (by (try simp only [rmL_c, rmL_s]); omega) dX2_init_9 (fun q9 r => ?_)
  refine p_w (w9 := ((((List.range 16).map (fun i => (r i, aI k 9 (fun _ => 0)))) ++ Y) ++ [(b, oK 0 [.null, .int 0, .null, .null, .null]), (q9, aQ k 16 (fun i => if i < 16 then some (r i) else none))])) (by simp only [List.append_assoc]; rfl) ?_
  refine p_putF (w9 := ((((List.range 16).map (fun i => (r i, aI k 9 (fun _ => 0)))) ++ Y) ++ [(b, oK 0 [.ref q9, .int 0, .null, .null, .null]), (q9, aQ k 16 (fun i => if i < 16 then some (r i) else none))])) (v := .ref q9) (T := TX2) C hnm tyX2 tyX2_ok nmX2 ((((List.range 16).map (fun i => (r i, aI k 9 (fun _ => 0)))) ++ Y).length + 0) (ap_i rfl) rfl 0 (by decide) inX2 qfl_X2_11 (fun _ h9 => h9) rfl rfl rfl rfl (Nat.le_of_ble_eq_true rfl) (ap_s rfl) dX2_init_13 ?_
  refine p_aload_n C rfl 0 rfl dX2_init_16 ?_
  refine p_iconst (v := 0) C (by decide) dX2_init_17 ?_
  refine p_put (w9 := ((((List.range 16).map (fun i => (r i, aI k 9 (fun _ => 0)))) ++ Y) ++ [(b, oK 0 [.ref q9, .int 0, .null, .null, .null]), (q9, aQ k 16 (fun i => if i < 16 then some (r i) else none))])) (v := .int 0) (T := TX2) C tyX2 tyX2_ok nmX2 ((((List.range 16).map (fun i => (r i, aI k 9 (fun _ => 0)))) ++ Y).length + 0) (ap_i rfl) rfl 1 (by decide) inX2 qfl_X2_14 (fun _ h9 => h9) rfl rfl rfl (Nat.le_of_ble_eq_true rfl) (ap_s rfl) dX2_init_18 ?_
  refine p_aload_n C rfl 0 rfl dX2_init_21 ?_
  refine p_bipush (v := (nI 9)) C (by decide) dX2_init_22 ?_
  refine p_newa_i (N := 9) C qaC_int (by omega) (by (try simp only [rmL_c, rmL_s]); omega) (by (try simp only [rmL_c, rmL_s]); omega) dX2_init_24 (fun q_1 => ?_)
  refine p_w (w9 := ((((List.range 16).map (fun i => (r i, aI k 9 (fun _ => 0)))) ++ Y) ++ [(b, oK 0 [.ref q9, .int 0, .null, .null, .null]), (q9, aQ k 16 (fun i => if i < 16 then some (r i) else none)), (q_1, aI k 9 (fun _ => 0))])) (List.append_assoc _ _ _) ?_
  refine p_putF (w9 := ((((List.range 16).map (fun i => (r i, aI k 9 (fun _ => 0)))) ++ Y) ++ [(b, oK 0 [.ref q9, .int 0, .ref q_1, .null, .null]), (q9, aQ k 16 (fun i => if i < 16 then some (r i) else none)), (q_1, aI k 9 (fun _ => 0))])) (v := .ref q_1) (T := TX2) C hnm tyX2 tyX2_ok nmX2 ((((List.range 16).map (fun i => (r i, aI k 9 (fun _ => 0)))) ++ Y).length + 0) (ap_i rfl) rfl 2 (by decide) inX2 qfl_X2_18 (fun _ h9 => h9) rfl rfl rfl rfl (Nat.le_of_ble_eq_true rfl) (ap_s rfl) dX2_init_26 ?_
  refine p_aload_n C rfl 0 rfl dX2_init_29 ?_
  refine p_bipush (v := (nI 9)) C (by decide) dX2_init_30 ?_
  refine p_newa_i (N := 9) C qaC_int (by omega) (by (try simp only [rmL_c, rmL_s]); omega) (by (try simp only [rmL_c, rmL_s]); omega) dX2_init_32 (fun q_2 => ?_)
  refine p_w (w9 := ((((List.range 16).map (fun i => (r i, aI k 9 (fun _ => 0)))) ++ Y) ++ [(b, oK 0 [.ref q9, .int 0, .ref q_1, .null, .null]), (q9, aQ k 16 (fun i => if i < 16 then some (r i) else none)), (q_1, aI k 9 (fun _ => 0)), (q_2, aI k 9 (fun _ => 0))])) (List.append_assoc _ _ _) ?_
  refine p_putF (w9 := ((((List.range 16).map (fun i => (r i, aI k 9 (fun _ => 0)))) ++ Y) ++ [(b, oK 0 [.ref q9, .int 0, .ref q_1, .ref q_2, .null]), (q9, aQ k 16 (fun i => if i < 16 then some (r i) else none)), (q_1, aI k 9 (fun _ => 0)), (q_2, aI k 9 (fun _ => 0))])) (v := .ref q_2) (T := TX2) C hnm tyX2 tyX2_ok nmX2 ((((List.range 16).map (fun i => (r i, aI k 9 (fun _ => 0)))) ++ Y).length + 0) (ap_i rfl) rfl 3 (by decide) inX2 qfl_X2_22 (fun _ h9 => h9) rfl rfl rfl rfl (Nat.le_of_ble_eq_true rfl) (ap_s rfl) dX2_init_34 ?_
  refine p_aload_n C rfl 0 rfl dX2_init_37 ?_
  refine p_obj (T := TX0) (N := 2) C tyX0 tyX0_ok inX0 (ci := 1) rfl qcl_X2_25 qnw_X0 qin_X0 [.null, .int 0] (by decide) (by (try simp only [rmL_c, rmL_s]); omega) (by (try simp only [rmL_c, rmL_s]); omega) dX2_init_38 (fun q_3 => ?_)
  refine p_w (w9 := ((((List.range 16).map (fun i => (r i, aI k 9 (fun _ => 0)))) ++ Y) ++ [(b, oK 0 [.ref q9, .int 0, .ref q_1, .ref q_2, .null]), (q9, aQ k 16 (fun i => if i < 16 then some (r i) else none)), (q_1, aI k 9 (fun _ => 0)), (q_2, aI k 9 (fun _ => 0)), (q_3, oK 1 [.null, .int 0])])) (List.append_assoc _ _ _) ?_
  refine p_dup C rfl dX2_init_41 ?_
  refine p_w (w9 := (((((List.range 16).map (fun i => (r i, aI k 9 (fun _ => 0)))) ++ Y) ++ [(b, oK 0 [.ref q9, .int 0, .ref q_1, .ref q_2, .null]), (q9, aQ k 16 (fun i => if i < 16 then some (r i) else none)), (q_1, aI k 9 (fun _ => 0)), (q_2, aI k 9 (fun _ => 0))]) ++ [(q_3, oK 1 [.null, .int 0])])) (List.append_assoc _ [(b, oK 0 [.ref q9, .int 0, .ref q_1, .ref q_2, .null]), (q9, aQ k 16 (fun i => if i < 16 then some (r i) else none)), (q_1, aI k 9 (fun _ => 0)), (q_2, aI k 9 (fun _ => 0))] [(q_3, oK 1 [.null, .int 0])]).symm ?_
  refine c_INv (ret := none) (As := []) (rest := [.ref q_3, .ref b]) C (m_X0_init l D k (Y := ((((List.range 16).map (fun i => (r i, aI k 9 (fun _ => 0)))) ++ Y) ++ [(b, oK 0 [.ref q9, .int 0, .ref q_1, .ref q_2, .null]), (q9, aQ k 16 (fun i => if i < 16 then some (r i) else none)), (q_1, aI k 9 (fun _ => 0)), (q_2, aI k 9 (fun _ => 0))])) (b := q_3)) C.2.2.2.2.2.2.2.2.2.2.2.2.2.2.2.2.2.1 qim_X0_init qin_X0 qco_X0_init rfl nd_X0_init ⟨Nat.le_of_ble_eq_true rfl, Nat.le_of_ble_eq_true rfl⟩ (Nat.le_of_ble_eq_true rfl) ⟨Nat.le_of_ble_eq_true rfl, Nat.le_of_ble_eq_true rfl⟩ rfl dX2_init_42 (fun w9 h9 => ?_)
  obtain ⟨v9, rfl⟩ := h9
  refine p_w (w9 := ((((List.range 16).map (fun i => (r i, aI k 9 (fun _ => 0)))) ++ Y) ++ [(b, oK 0 [.ref q9, .int 0, .ref q_1, .ref q_2, .null]), (q9, aQ k 16 (fun i => if i < 16 then some (r i) else none)), (q_1, aI k 9 (fun _ => 0)), (q_2, aI k 9 (fun _ => 0)), (q_3, oK 1 [.ref v9, .int 0]), (v9, aC k 117 (fun _ => 0))])) (List.append_assoc _ _ _) ?_
  refine p_putF (w9 := ((((List.range 16).map (fun i => (r i, aI k 9 (fun _ => 0)))) ++ Y) ++ [(b, oK 0 [.ref q9, .int 0, .ref q_1, .ref q_2, .ref q_3]), (q9, aQ k 16 (fun i => if i < 16 then some (r i) else none)), (q_1, aI k 9 (fun _ => 0)), (q_2, aI k 9 (fun _ => 0)), (q_3, oK 1 [.ref v9, .int 0]), (v9, aC k 117 (fun _ => 0))])) (v := .ref q_3) (T := TX2) C hnm tyX2 tyX2_ok nmX2 ((((List.range 16).map (fun i => (r i, aI k 9 (fun _ => 0)))) ++ Y).length + 0) (ap_i rfl) rfl 4 (by decide) inX2 qfl_X2_28 (fun _ h9 => h9) rfl rfl rfl rfl (Nat.le_of_ble_eq_true rfl) (ap_s rfl) dX2_init_45 ?_
  refine p_swap9 ?_
  rw [hQ]
  exact r_v C hrt9 ⟨fun i => [b, q9, q_1, q_2, q_3, v9].getD i 0, r, rfl, rfl⟩ (by (try simp only [rmL_c, rmL_s]); omega) (by (try simp only [rmL_c, rmL_s]); omega) dX2_init_48
