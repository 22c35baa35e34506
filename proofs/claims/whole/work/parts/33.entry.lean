/-! THE CLAIM OUT OF ONE WALK OF THE LAW'S BODY. Your part is whole_start (and what it stands on); all else here is the same for every law, but numbers. -/
def R_law : String := "PolyKitchenLaw"
def lw_P (b : Addr) (xs : List Int32) (args : Array Value) (s : State) : Prop := args = #[.ref b] ∧ s.IntsAt b xs ∧ xs.length ≤ 2048 ∧ (Jvm.Cond.and given_1 narrow_1).before args s = true
/-- what a walk over the start with the record d0 says of its end, said of the start itself -/
theorem lw_closed {s t : State} {o : Outcome} {d0 : Drawn} {L : List Loc} {k n : Nat} (hd0 : s.drawn.sameBut d0 lw_cs) (hv : ∃ v, o = .returned v) (hW : (s.setDrawn d0).WarmedH t.vm) (hs : (s.setDrawn d0).sameButNew ({ t with vm := s.vm } : State) L k n) : State.butDraws s t lw_cs (fun t1 => Framed s o t1 L k n) := by
  have h2 : t.drawn = d0 := congrArg State.drawn hs.1
  refine ⟨⟨hv, hW, State.sameButNew.setDrawn hs s.drawn⟩, ?_, by decide⟩
  rw [h2]
  exact hd0
def lw_Q (_ : Array Value) (s : State) (o : Outcome) (t : State) : Prop := o = .returned (some (.int 1)) ∧ State.butDraws s t lw_cs (fun t1 => Framed s o t1 [] 601024 7293034)
def lw_Z (below : List Frame) (a : Array Value) (s : State) : State → Prop := fun t => ∃ o, t.status = .running ∧ Ended t below o ∧ lw_Q a s o t
/-- the law's own end, with 1 on the stack, nothing written that was there before, its room as the claim has it; d0: the record of draws at this point (at the entry s.drawn: begin with 'refine W.base ?_' and 'have hd0 := Drawn.sameBut.refl s.drawn lw_cs') -/
theorem lw_ret {p : Program} {l : Launch} {e : Env} {s : State} {m : MethodId} {below : List Frame} {meth : Method} {c : Code} {b : Nat} {d0 : Drawn} (hd0 : s.drawn.sameBut d0 lw_cs) (hx : p.tables.exec = Jvm.exec) (hb : c.code = code) (hr : meth.sig.returnType = ret) (hlocks : meth.locks = false) {pc : Nat} {H : Heap} {ls : Array Slot} (hdg : decode code pc = .ok (.ireturn, 1)) : W p l e room_1 (s.setDrawn d0) m #[Value.ref b] below meth c H [] 601024 7293034 (lw_Z below #[Value.ref b] s) (F0 m pc ls [.int 1]) := by
  intro T hT X
  obtain ⟨fs, hret, hrun, hended, hW, hframe⟩ := X.leave (v := some (.int 1)) (hlocks := hlocks) (fun h => by rw [hr] at h; cases h)
  have hmeth' : T.vm.method? m = some meth := X.method'
  refine ⟨T.setFrames fs, ?_, .returned (some (.int 1)), hrun, hended, rfl, lw_closed hd0 ⟨_, rfl⟩ hW hframe⟩
  jvm_step X.here [X.here.top, hx, hb, hdg, hmeth', hr, ret, narrow_b1]
  (try refine ⟨rfl, ?_⟩); (try refine ⟨rfl, ?_⟩)
  first | (intro acts; rw [hret _ acts rfl rfl rfl]) | rw [hret _ _ rfl rfl rfl]
  exact Steps.refl _
/-- what holds at the law's entry: the machine, the code, the tables' words (any of lw_tbl by 'hts w (by decide +kernel)'), the script of L ints xs at the cell b, what the Statement gives of the start (any of its parts by flat_of_before) -/
def lw_At (p : Program) (s : State) (m : MethodId) (meth : Method) (c : Code) (b L : Nat) (xs : Nat → Int32) : Prop :=
  p.tables.exec = Jvm.exec ∧ c.code = code ∧ meth.sig.returnType = ret ∧ c.maxLocals = 9 ∧ s.vm.findClass R_law = some m.cls ∧ (∀ w ∈ lw_tbl, w.before #[Value.ref b] s = true) ∧ va_X b L xs s s.heap ∧ b < s.heap.size ∧ meth.locks = false ∧ (Jvm.Cond.and given_1 narrow_1).before #[Value.ref b] s = true
theorem st_l {w : Cond} (i : Nat) (h : lw_tbl[i]? = some w) : w ∈ lw_tbl := List.mem_of_getElem? h
theorem st_f {args : Array Value} {s : State} (hg : (Jvm.Cond.and given_1 narrow_1).before args s = true) {w : Cond} (i : Nat) (h : (flatC (Jvm.Cond.and given_1 narrow_1))[i]? = some w) : w.before args s = true := flat_of_before _ hg w (List.mem_of_getElem? h)
/-- a private method of a parent, chosen by a class that chooses another method of that parent -/
theorem st_priv {y z : MethodName} {Cn : String} {s : State} {args : Array Value} {n : Nat} (hy : y.cls ≠ "java/lang/invoke/MethodHandle" ∧ y.cls ≠ "java/lang/invoke/VarHandle") (hins : (Cond.instantiable Cn n).before args s = true) (hpriv : (Cond.privateMethod y).before args s = true) (hinst : (Cond.instanceMethod y).before args s = true) (hz : (Cond.selects Cn z z).before args s = true) (hc : z.cls = y.cls) : (Cond.selects Cn y y).before args s = true := by
  obtain ⟨c, k, hc1, hk, -, -, -, -⟩ := Cond.instantiable_spec hins
  obtain ⟨mk, methM, hnamed, hmethM, -, -⟩ := Cond.instanceMethod_spec hinst
  have hfound : s.methodFound? y.cls y.name y.desc = some mk := State.methodFound?_of_named hnamed hy
  have hsel : selectMethod {} s.vm c mk = .method mk := selectMethod_private hmethM (Cond.privateMethod_at hpriv mk methM hnamed hmethM)
  obtain ⟨c2, r2, m2, q1, q2, q3, q4, kP, hkP, hkPi⟩ := Cond.selects_spec hz
  have e2 := findClass_of_methodNamed q3
  rw [hc] at e2
  have e1 : m2.cls = mk.cls := Option.some.inj (e2.symm.trans (findClass_of_methodNamed hnamed))
  rw [e1] at hkP
  simp only [Cond.before, Cond.holds, Cond.value, hc1, hfound, hnamed, hsel, hkP]
  simp; exact hkPi
theorem st_words {args : Array Value} {s : State} (hts : ∀ w ∈ lw_tbl, w.before args s = true) : ∀ w ∈ cAll, w.before args s = true := fun w hw => by
  rcases List.mem_append.mp (List.mem_filter.mp hw).1 with h | h
  · exact hts w h
  · have hz : (Cond.selects RJ4 yJ5_isLatin1_aae02 yJ5_isLatin1_aae02).before args s = true := hts _ (st_l 841 (by decide +kernel))
    have hi : (Cond.instantiable RJ4 4).before args s = true := hts _ (st_l 520 (by decide +kernel))
    rcases List.mem_cons.mp h with rfl | h
    · exact st_priv (y := yJ5_ensureCapacityInternal_d00df) ⟨by decide, by decide⟩ hi (hts _ (st_l 806 (by decide +kernel))) (hts _ (st_l 807 (by decide +kernel))) hz rfl
    · rcases List.mem_cons.mp h with rfl | h
      · exact st_priv (y := yJ5_newCapacity_0f7a4) ⟨by decide, by decide⟩ hi (hts _ (st_l 810 (by decide +kernel))) (hts _ (st_l 811 (by decide +kernel))) hz rfl
      · exact absurd h List.not_mem_nil
theorem st_K {args : Array Value} {s : State} (hts : ∀ w ∈ lw_tbl, w.before args s = true) : ∃ (D : va_G) (k : Nat → ClassId), va_K D cls (T5 k) s := by
  have hw := st_words hts
  obtain ⟨c0, i0, K0⟩ := u_known (n := 5) hw inX2 (hw _ qnw_X2)
  obtain ⟨c1, i1, K1⟩ := u_known (n := 2) hw inX0 (hw _ qnw_X0)
  obtain ⟨c2, i2, K2⟩ := u_known (n := 6) hw inX3 (hw _ qnw_X3)
  obtain ⟨c3, i3, K3⟩ := u_known (n := 4) hw inJ4 (hw _ qnw_J4)
  obtain ⟨a0, b0, m0, f0, g0, e0⟩ := Cond.arrayClass_spec (hw _ qaC_int)
  obtain ⟨a2, b2, m2, f2, g2, e2⟩ := Cond.arrayClass_spec (hw _ qaC_char)
  obtain ⟨a3, b3, m3, f3, g3, e3⟩ := Cond.arrayClass_spec (hw _ qaC_long)
  obtain ⟨a4, b4, m4, f4, g4, e4⟩ := Cond.arrayClass_spec (hw _ qaC_byte)
  have hov : (Cond.arrayOver (.array .int)).before args s = true := hts _ (st_l 66 (by decide +kernel))
  obtain ⟨m1, a1, b1, f1, x1, g1, e1, n1⟩ := arrayOverA_spec hov
  refine ⟨(fun c => match c with | 0 => c0 | 1 => c1 | 2 => c2 | _ => c3, fun c => match c with | 0 => i0 | 1 => i1 | 2 => i2 | _ => i3), fun q => match q with | 0 => a0 | 1 => a1 | 2 => a2 | 3 => a3 | _ => a4, ?_, ?_⟩
  · intro c q hq
    match c, hq with
    | 0, hq => cases hq; exact K0
    | 1, hq => cases hq; exact K1
    | 2, hq => cases hq; exact K2
    | 3, hq => cases hq; exact K3
    | n + 4, hq => simp [cls] at hq
  · intro c q hq
    match c, hq with
    | 0, hq => cases hq; exact ⟨fun n z => ⟨fun k h => (by cases h), b0, g0, m0, e0⟩, f0⟩
    | 1, hq => cases hq; exact ⟨fun n z => ⟨fun k h => (by cases h), b1, g1, m1, e1⟩, n1⟩
    | 2, hq => cases hq; exact ⟨fun n z => ⟨fun k h => (by cases h), b2, g2, m2, e2⟩, f2⟩
    | 3, hq => cases hq; exact ⟨fun n z => ⟨fun k h => (by cases h), b3, g3, m3, e3⟩, f3⟩
    | 4, hq => cases hq; exact ⟨fun n z => ⟨fun k h => (by cases h), b4, g4, m4, e4⟩, f4⟩
    | n + 5, hq => simp [T5] at hq
theorem st_R {own tx : String} {k : Nat} {args : Array Value} {s : State} (h1 : (Cond.stringRef own k tx).before args s = true) (h2 : (Cond.exactly (.string own k) "java/lang/String").before args s = true) : ∃ sa, vk_R own k tx sa s := by
  obtain ⟨a, c, cell, kk, h, -⟩ := Cond.exactly_spec h2
  exact ⟨a, vk_R.of h1 h⟩
set_option maxRecDepth 100000 in
theorem st_ones : ∀ j, j < 100 → (flatC (Jvm.Cond.and given_1 narrow_1))[14 + j]? = some (Cond.eq (.elem (.static "java/lang/Integer" "DigitOnes" "[B") (.int (Int32.ofNat j))) (.int (nI (48 + j % 10)))) := by decide +kernel
set_option maxRecDepth 100000 in
theorem st_tens : ∀ j, j < 100 → (flatC (Jvm.Cond.and given_1 narrow_1))[117 + j]? = some (Cond.eq (.elem (.static "java/lang/Integer" "DigitTens" "[B") (.int (Int32.ofNat j))) (.int (nI (48 + j / 10)))) := by decide +kernel
theorem st_bad : ∀ w ∈ cBad, w ∈ lw_tbl := by decide +kernel
theorem st_str {args : Array Value} {s : State} (hts : ∀ w ∈ lw_tbl, w.before args s = true) (hg : (Jvm.Cond.and given_1 narrow_1).before args s = true) : ∀ q ∈ cStr, ∃ sa, vk_R q.1 q.2.1 q.2.2 sa s := fun q hq => by
  simp only [cStr, List.mem_cons, List.not_mem_nil, or_false] at hq
  rcases hq with rfl | rfl | rfl | rfl | rfl | rfl | rfl | rfl | rfl | rfl | rfl
  · exact st_R (hts _ (st_l 157 (by decide +kernel))) (st_f hg 242 (by decide +kernel))
  · exact st_R (hts _ (st_l 298 (by decide +kernel))) (st_f hg 269 (by decide +kernel))
  · exact st_R (hts _ (st_l 320 (by decide +kernel))) (st_f hg 297 (by decide +kernel))
  · exact st_R (hts _ (st_l 348 (by decide +kernel))) (st_f hg 323 (by decide +kernel))
  · exact st_R (hts _ (st_l 376 (by decide +kernel))) (st_f hg 359 (by decide +kernel))
  · exact st_R (hts _ (st_l 398 (by decide +kernel))) (st_f hg 395 (by decide +kernel))
  · exact st_R (hts _ (st_l 410 (by decide +kernel))) (st_f hg 439 (by decide +kernel))
  · exact st_R (hts _ (st_l 425 (by decide +kernel))) (st_f hg 489 (by decide +kernel))
  · exact st_R (hts _ (st_l 426 (by decide +kernel))) (st_f hg 536 (by decide +kernel))
  · exact st_R (hts _ (st_l 481 (by decide +kernel))) (st_f hg 580 (by decide +kernel))
  · exact st_R (hts _ (st_l 493 (by decide +kernel))) (st_f hg 619 (by decide +kernel))
theorem st_nc {args : Array Value} {s : State} (hg : (Jvm.Cond.and given_1 narrow_1).before args s = true) : ∀ q ∈ cNcs, va_Nc q.1 q.2 s := fun q hq => by
  simp only [cNcs, List.mem_cons, List.not_mem_nil, or_false] at hq
  rcases hq with rfl | rfl | rfl
  · exact va_Nc.of (st_f hg 231 (by decide +kernel))
  · exact va_Nc.of (st_f hg 230 (by decide +kernel))
  · exact va_Nc.of (st_f hg 237 (by decide +kernel))
theorem st_dig {args : Array Value} {s : State} {n : String} {f : Nat → Int32} {i0 : Nat} (hg : (Jvm.Cond.and given_1 narrow_1).before args s = true) (hl : (Cond.laysStatic "java/lang/Integer" n "[B").before args s = true) (hi : (Cond.initialized "java/lang/Integer").before args s = true) (ha : (Cond.arrayOf (.static "java/lang/Integer" n "[B") .byte).before args s = true) (hn : (Cond.eq (.length (.static "java/lang/Integer" n "[B")) (.int 100)).before args s = true) (hf : ∀ j, j < 100 → (flatC (Jvm.Cond.and given_1 narrow_1))[i0 + j]? = some (Cond.eq (.elem (.static "java/lang/Integer" n "[B") (.int (Int32.ofNat j))) (.int (f j)))) : ∃ d, va_Z "java/lang/Integer" n "[B" (.ref d) (fun q => s.heap.size ≤ q) s s.heap ∧ va_T .byte d 100 (fun j => .int (f j)) (fun q => s.heap.size ≤ q) s s.heap := by
  have hA : ∀ a : Nat, a < s.heap.size → ¬ (fun q : Nat => s.heap.size ≤ q) a := fun a h => Nat.not_le.mpr h
  obtain ⟨t, h1, h2⟩ := va_Tof (N := 100) (f := fun j => .int (f j)) (A := fun q : Nat => s.heap.size ≤ q) (by decide) ha (va_eqt hn) (fun j hj => va_eqt (st_f hg (i0 + j) (hf j hj))) hA
  exact ⟨t, va_Zof hl hi h1 hA, h2⟩
theorem st_cSt {args : Array Value} {s : State} (hts : ∀ w ∈ lw_tbl, w.before args s = true) (hg : (Jvm.Cond.and given_1 narrow_1).before args s = true) : cSt (fun q => s.heap.size ≤ q) s s.heap := by
  have hA : ∀ a : Nat, a < s.heap.size → ¬ (fun q : Nat => s.heap.size ≤ q) a := fun a h => Nat.not_le.mpr h
  have h1 : vx_Zq Bundle.tN "UNASSIGNED_STACK" Bundle.steD (fun q => s.heap.size ≤ q) s s.heap := vx_Zqof (hts _ (st_l 141 (by decide +kernel))) (hts _ (st_l 40 (by decide +kernel))) (st_f hg 4 (by decide +kernel)) hA
  have h2 : vx_Zq Bundle.tN "SUPPRESSED_SENTINEL" Bundle.listD (fun q => s.heap.size ≤ q) s s.heap := vx_Zqof (hts _ (st_l 143 (by decide +kernel))) (hts _ (st_l 40 (by decide +kernel))) (st_f hg 5 (by decide +kernel)) hA
  have h5 : va_Z "java/lang/String" "COMPACT_STRINGS" "Z" (.int 1) (fun q => s.heap.size ≤ q) s s.heap := va_Zof (hts _ (st_l 529 (by decide +kernel))) (hts _ (st_l 38 (by decide +kernel))) (va_eqt (st_f hg 6 (by decide +kernel))) hA
  have h6 : va_Zq "jdk/internal/util/Preconditions" "SIOOBE_FORMATTER" "Ljava/util/function/BiFunction;" (fun q => s.heap.size ≤ q) s s.heap := va_Zqof (hts _ (st_l 856 (by decide +kernel))) (hts _ (st_l 53 (by decide +kernel))) (st_f hg 7 (by decide +kernel)) hA
  have h7 := st_dig (n := "DigitOnes") (f := fun j => nI (48 + j % 10)) hg (hts _ (st_l 926 (by decide +kernel))) (hts _ (st_l 49 (by decide +kernel))) (st_f hg 12 (by decide +kernel)) (st_f hg 13 (by decide +kernel)) st_ones
  have h8 := st_dig (n := "DigitTens") (f := fun j => nI (48 + j / 10)) hg (hts _ (st_l 928 (by decide +kernel))) (hts _ (st_l 49 (by decide +kernel))) (st_f hg 115 (by decide +kernel)) (st_f hg 116 (by decide +kernel)) st_tens
  have h10 : va_Nw (.methodLinkNest RX2 27 yX0_init RX2) s := va_Nw.of rfl (hts _ (st_l 69 (by decide +kernel)))
  have hov : (Cond.arrayOver (.array .int)).before args s = true := hts _ (st_l 66 (by decide +kernel))
  exact ⟨h1, h2, st_str hts hg, st_nc hg, h5, h6, h7, h8, fun w hw => va_Nw.of (cBad_ot (cBad_ok w hw)) (hts w (st_bad w hw)), h10, hov⟩
theorem st_Cx {p : Program} {s : State} {m : MethodId} {meth : Method} {c : Code} {b L : Nat} {xs : Nat → Int32} (C0 : lw_At p s m meth c b L xs) : ∃ (D : va_G) (k : Nat → ClassId), Cx p s m #[.ref b] meth c cL_law 9 RL (fun q => s.heap.size ≤ q) D k := by
  obtain ⟨hx, hb, hr, hml, hown, hts, hX, hbl, hlocks, hgv⟩ := C0
  obtain ⟨D, k, hK⟩ := st_K hts
  exact ⟨D, k, hx, hb, hml, hown, st_words hts, hlocks, hK, fun _ h => h, st_cSt hts hgv⟩
theorem st_fl {l : Launch} (h : l.flags = flags0) : l.stackTraces = false := by
  unfold Launch.stackTraces
  rw [h]
  decide +kernel
