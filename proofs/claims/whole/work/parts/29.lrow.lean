theorem KW_ap {k : Nat → ClassId} {ad r : Nat → Nat} {cn : Int32} {R : Nat → Nat → Int32} {T U tx : Nat → Int32} {sz : Int32} {x : Nat × va_E} {Z : va_W} : KW k ad r cn R T U tx sz (x :: Z) = KW k ad r cn R T U tx sz [x] ++ Z := by
  unfold KW
  simp only [List.cons_append, List.append_assoc, List.nil_append]
def KWm (R1 R2 : Nat → Nat → Int32) (q : Nat) : Nat → Nat → Int32 := fun i => if i < q then R1 i else R2 i
theorem KWm_0 (R1 R2 : Nat → Nat → Int32) : KWm R1 R2 0 = R2 := funext fun i => if_neg (Nat.not_lt_zero i)
theorem KWm_in {R1 R2 : Nat → Nat → Int32} {q i : Nat} (h : i < q) : KWm R1 R2 q i = R1 i := if_pos h
theorem KWm_s {R1 R2 : Nat → Nat → Int32} {q : Nat} : upR (KWm R1 R2 (q + 1)) q (R2 q) = KWm R1 R2 q := funext fun i => by
  by_cases e : i = q
  · subst e; rw [upR_s]; exact (if_neg (Nat.lt_irrefl _)).symm
  · rw [upR_n _ _ e]
    unfold KWm
    by_cases h : i < q
    · rw [if_pos h, if_pos (by omega)]
    · rw [if_neg h, if_neg (by omega)]
theorem KWm_16 {k : Nat → ClassId} {ad r : Nat → Nat} {cn : Int32} {R1 R2 : Nat → Nat → Int32} {T U tx : Nat → Int32} {sz : Int32} {Y : va_W} : KW k ad r cn (KWm R1 R2 16) T U tx sz Y = KW k ad r cn R1 T U tx sz Y := by
  unfold KW
  have e : (List.range 16).map (fun i => (r i, aI k 9 (KWm R1 R2 16 i))) = (List.range 16).map (fun i => (r i, aI k 9 (R1 i))) := List.map_congr_left fun i hi => by rw [KWm_in (List.mem_range.mp hi)]
  rw [e]
theorem room_c : room_1.cells = 601024 := rfl
theorem room_s : room_1.slots = 7293034 := rfl
/-- what the two sides have in common -/
def LI (n : Nat) (R : Nat → Nat → Int32) (Am : Nat → Int32) (cp cn : Nat) (bt : Nat → Int32) : Prop := n ≤ 16 ∧ Rel n R Am ∧ cpOK cp ∧ sb_Fit bt ∧ cn ≤ cp
theorem and31 (x : Int32) : ∃ q, q < 32 ∧ x &&& 31 = nI q := by
  have h : ∀ y : BitVec 32, (y &&& 31#32).toNat < 32 := fun y => by
    rw [BitVec.toNat_and]; exact Nat.lt_of_le_of_lt Nat.and_le_right (by decide)
  refine ⟨(x.toBitVec &&& 31#32).toNat, h _, ?_⟩
  apply Int32.toBitVec_inj.mp
  show x.toBitVec &&& 31#32 = BitVec.ofNat 32 _
  rw [BitVec.ofNat_toNat, BitVec.setWidth_eq]
theorem p_sld {p : Program} {l : Launch} {e : Env} {R : Room} {s : State} {m : MethodId} {args : Array Value} {below : List Frame} {meth : Method} {c : Code} {D : va_G} {A : Nat → Prop} {nL : Nat} {k : Nat → ClassId} {own : String} {cc : ByteArray} {w : va_W} {lv : List (Nat × Value)} {cells slots : Nat} {Q : State → Prop} {pc : Nat} {rest : List Value} (C : Cx p s m args meth c cc nL own A D k) {b L : Nat} {xs : Nat → Int32} (hX : va_X b L xs s s.heap) (hbl : b < s.heap.size) (hbA : ¬ A b) {i : Int32} (hin : vp_in i L) {x : Int32} (hx : xs i.toNatClampNeg = x) (hdg : decode cc pc = .ok (.iaload, 1)) (kk : WP p l e R s m args below meth c D A nL w lv cells slots Q (pc + 1) (.int x :: rest)) : WP p l e R s m args below meth c D A nL w lv cells slots Q pc (.int i :: .ref b :: rest) :=
  fun H locs ls hP hD hS hl => va_sld C.1 C.2.1 hX hbl hbA hS hin hdg (hx.symm ▸ kk H locs ls hP hD hS hl)
theorem p_slen {p : Program} {l : Launch} {e : Env} {R : Room} {s : State} {m : MethodId} {args : Array Value} {below : List Frame} {meth : Method} {c : Code} {D : va_G} {A : Nat → Prop} {nL : Nat} {k : Nat → ClassId} {own : String} {cc : ByteArray} {w : va_W} {lv : List (Nat × Value)} {cells slots : Nat} {Q : State → Prop} {pc : Nat} {rest : List Value} (C : Cx p s m args meth c cc nL own A D k) {b L : Nat} {xs : Nat → Int32} (hX : va_X b L xs s s.heap) (hbl : b < s.heap.size) (hbA : ¬ A b) (hdg : decode cc pc = .ok (.arraylength, 1)) (kk : WP p l e R s m args below meth c D A nL w lv cells slots Q (pc + 1) (.int (nI L) :: rest)) : WP p l e R s m args below meth c D A nL w lv cells slots Q pc (.ref b :: rest) :=
  fun H locs ls hP hD hS hl => va_slen C.1 C.2.1 hX hbl hbA hS hdg (kk H locs ls hP hD hS hl)
theorem p_tin {p : Program} {l : Launch} {e : Env} {R : Room} {s : State} {m : MethodId} {args : Array Value} {below : List Frame} {meth : Method} {c : Code} {D : va_G} {A : Nat → Prop} {nL : Nat} {k : Nat → ClassId} {own : String} {cc : ByteArray} {w : va_W} {lv : List (Nat × Value)} {cells slots : Nat} {Q : State → Prop} {pc : Nat} {rest : List Value} (C : Cx p s m args meth c cc nL own A D k) {dflt lo hi : Int} {offs : Array Int} {len : Nat} {x : Int32} {off : Int} {tgt : Nat} (h1 : ¬ x.toInt < lo) (h2 : ¬ hi < x.toInt) (ho : offs[(x.toInt - lo).toNat]? = some off) (ht : (pc : Int) + off = (tgt : Int)) (hdg : decode cc pc = .ok (.tableswitch dflt lo hi offs, len)) (kk : WP p l e R s m args below meth c D A nL w lv cells slots Q tgt rest) : WP p l e R s m args below meth c D A nL w lv cells slots Q pc (.int x :: rest) :=
  fun H locs ls hP hD hS hl => lv_tableIn C.1 C.2.1 hdg h1 h2 ho ht (kk H locs ls hP hD hS hl)
theorem p_tout {p : Program} {l : Launch} {e : Env} {R : Room} {s : State} {m : MethodId} {args : Array Value} {below : List Frame} {meth : Method} {c : Code} {D : va_G} {A : Nat → Prop} {nL : Nat} {k : Nat → ClassId} {own : String} {cc : ByteArray} {w : va_W} {lv : List (Nat × Value)} {cells slots : Nat} {Q : State → Prop} {pc : Nat} {rest : List Value} (C : Cx p s m args meth c cc nL own A D k) {dflt lo hi : Int} {offs : Array Int} {len : Nat} {x : Int32} {tgt : Nat} (h1 : x.toInt < lo ∨ hi < x.toInt) (ht : (pc : Int) + dflt = (tgt : Int)) (hdg : decode cc pc = .ok (.tableswitch dflt lo hi offs, len)) (kk : WP p l e R s m args below meth c D A nL w lv cells slots Q tgt rest) : WP p l e R s m args below meth c D A nL w lv cells slots Q pc (.int x :: rest) :=
  fun H locs ls hP hD hS hl => lv_tableOut C.1 C.2.1 hdg h1 ht (kk H locs ls hP hD hS hl)
theorem p_toM {p : Program} {l : Launch} {e : Env} {R : Room} {s : State} {m : MethodId} {args : Array Value} {below : List Frame} {meth : Method} {c : Code} {D : va_G} {A : Nat → Prop} {nL : Nat} {k : Nat → ClassId} {lv : List (Nat × Value)} {cells slots : Nat} {Q : State → Prop} {pc : Nat} {ad r md : Nat → Nat} {cn th nn sz ml cn9 : Int32} {R9 : Nat → Nat → Int32} {T U tx Am Wk Mo bt : Nat → Int32} {v cp : Nat} {x : Nat × va_E} {st : List Value} (kk : WP p l e R s m args below meth c D A nL (MW k md th nn Am Wk Mo v cp bt ml cn9 (KW k ad r cn R9 T U tx sz [x])) lv cells slots Q pc st) : WP p l e R s m args below meth c D A nL (KW k ad r cn R9 T U tx sz (x :: (MW k md th nn Am Wk Mo v cp bt ml cn9 []))) lv cells slots Q pc st := by
  rw [KW_ap]
  exact p_swap9 kk
theorem p_toK {p : Program} {l : Launch} {e : Env} {R : Room} {s : State} {m : MethodId} {args : Array Value} {below : List Frame} {meth : Method} {c : Code} {D : va_G} {A : Nat → Prop} {nL : Nat} {k : Nat → ClassId} {lv : List (Nat × Value)} {cells slots : Nat} {Q : State → Prop} {pc : Nat} {ad r md : Nat → Nat} {cn th nn sz ml cn9 : Int32} {R9 : Nat → Nat → Int32} {T U tx Am Wk Mo bt : Nat → Int32} {v cp : Nat} {x : Nat × va_E} {st : List Value} (kk : WP p l e R s m args below meth c D A nL (KW k ad r cn R9 T U tx sz (x :: (MW k md th nn Am Wk Mo v cp bt ml cn9 []))) lv cells slots Q pc st) : WP p l e R s m args below meth c D A nL (MW k md th nn Am Wk Mo v cp bt ml cn9 (KW k ad r cn R9 T U tx sz [x])) lv cells slots Q pc st := by
  rw [KW_ap] at kk
  exact p_swap9 (a := (MW k md th nn Am Wk Mo v cp bt ml cn9 [])) (b := (KW k ad r cn R9 T U tx sz [x])) kk
theorem p_KWn {p : Program} {l : Launch} {e : Env} {R : Room} {s : State} {m : MethodId} {args : Array Value} {below : List Frame} {meth : Method} {c : Code} {D : va_G} {A : Nat → Prop} {nL : Nat} {k : Nat → ClassId} {lv : List (Nat × Value)} {cells slots : Nat} {Q : State → Prop} {pc : Nat} {ad r : Nat → Nat} {cn sz : Int32} {R1 R2 : Nat → Nat → Int32} {T U tx : Nat → Int32} {Y : va_W} {st : List Value} (hR : ∀ i j, j < 9 → R1 i j = R2 i j) (kk : WP p l e R s m args below meth c D A nL (KW k ad r cn R2 T U tx sz Y) lv cells slots Q pc st) : WP p l e R s m args below meth c D A nL (KW k ad r cn R1 T U tx sz Y) lv cells slots Q pc st := by
  have hs : ∀ q, q ≤ 16 → WP p l e R s m args below meth c D A nL (KW k ad r cn (KWm R1 R2 q) T U tx sz Y) lv cells slots Q pc st := fun q => by
    induction q with
    | zero => intro _; rw [KWm_0]; exact kk
    | succ q ih =>
      intro hq
      have hq6 : q < 16 := by omega
      refine p_arr (n := 9) (w9 := KW k ad r cn (KWm R1 R2 q) T U tx sz Y) (q + 6) (KW_row hq6) (R2 q) (fun j hj => ?_) ?_ (ih (by omega))
      · show KWm R1 R2 (q + 1) q j = R2 q j
        rw [KWm_in (Nat.lt_succ_self q)]; exact hR q j hj
      · rw [KW_srow hq6, KWm_s]
  have h := hs 16 (Nat.le_refl _)
  intro H locs ls hP hD hS hl
  refine h H locs ls ?_ ?_ hS hl
  · rw [KWm_16]; exact hP
  · rw [KWm_16]; exact hD
