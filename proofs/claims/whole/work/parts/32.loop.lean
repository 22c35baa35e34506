theorem L_gt {L i : Nat} (hL : L ≤ 2048) (hi : i ≤ 4096) : nI L - nI 4 < nI i ↔ L < i + 4 := by
  rw [Int32.lt_iff_toInt_lt, pk_sub_toInt (by omega) (by omega), nI_toInt (by omega)]
  omega
set_option maxHeartbeats 4000000 in
set_option maxRecDepth 100000 in
theorem law_loop {p : Program} {l : Launch} {e : Env} {s : State} {m : MethodId} {args : Array Value} {below : List Frame} {meth : Method} {c : Code} {D : va_G} {A : Nat → Prop} {k : Nat → ClassId} {Q : State → Prop} (C : Cx p s m args meth c cL_law 9 RL A D k) (hfl : l.stackTraces = false) {b L oa : Nat} {xs : Nat → Int32} {ad r md : Nat → Nat} (hX : va_X b L xs s s.heap) (hbl : b < s.heap.size) (hbA : ¬ A b) (hL : L ≤ 2048) (hend : ∀ (i' n' cp' cn' v' c' s' : Nat) (R' : Nat → Nat → Int32) (T' U' tx' Am' Wk' Mo' bt' : Nat → Int32) (th' sz' ml' : Int32) (g' : Nat → Int64), c' ≤ 601024 → s' ≤ 7293034 → WP p l e (room_1) s m args below meth c D A 9 (KW k ad r (nI n') R' T' U' tx' sz' ((oa, aL k 1 g') :: (MW k md th' (nI n') Am' Wk' Mo' v' cp' bt' ml' (nI cn') []))) [(0, .ref b), (1, .ref (ad 0)), (2, .ref (md 0)), (3, .ref oa), (4, .int (nI i'))] c' s' Q 1938 []) : ∀ (t : Nat) (i n cp cn v c9 s9 : Nat) (R : Nat → Nat → Int32) (T U tx Am Wk Mo bt : Nat → Int32) (th sz ml : Int32) (g : Nat → Int64), L ≤ i + 4 * t → i + 4 * t ≤ 2052 → LI n R Am cp cn bt → c9 + 544 * (t + 1) ≤ 601024 → s9 + 6944 * (t + 1) ≤ 7293034 → WP p l e (room_1) s m args below meth c D A 9 (KW k ad r (nI n) R T U tx sz ((oa, aL k 1 g) :: (MW k md th (nI n) Am Wk Mo v cp bt ml (nI cn) []))) [(0, .ref b), (1, .ref (ad 0)), (2, .ref (md 0)), (3, .ref oa), (4, .int (nI i))] c9 s9 Q 23 [] := by
  intro t
  induction t with
  | zero =>
    intro i n cp cn v c9 s9 R T U tx Am Wk Mo bt th sz ml g hLi hi2 hI hc9 hs9
    refine p_iload C 4 rfl dL_law_23 ?_
    refine p_aload_n C rfl 0 rfl dL_law_25 ?_
    refine p_slen C hX hbl hbA dL_law_26 ?_
    refine p_iconst (v := (nI 4)) C (by decide) dL_law_27 ?_
    refine p_isub C dL_law_28 ?_
    refine p_icmp_gt C 1938 (by decide) dL_law_29 (fun c_29 => ?_) (fun c_29 => absurd ((L_gt hL (by omega)).mpr (by omega)) c_29)
    exact hend _ _ _ _ _ _ _ _ _ _ _ _ _ _ _ _ _ _ _ (by omega) (by omega)
  | succ t ih =>
    intro i n cp cn v c9 s9 R T U tx Am Wk Mo bt th sz ml g hLi hi2 hI hc9 hs9
    refine p_iload C 4 rfl dL_law_23 ?_
    refine p_aload_n C rfl 0 rfl dL_law_25 ?_
    refine p_slen C hX hbl hbA dL_law_26 ?_
    refine p_iconst (v := (nI 4)) C (by decide) dL_law_27 ?_
    refine p_isub C dL_law_28 ?_
    refine p_icmp_gt C 1938 (by decide) dL_law_29 (fun c_29 => ?_) (fun c_29 => ?_)
    · exact hend _ _ _ _ _ _ _ _ _ _ _ _ _ _ _ _ _ _ _ (by omega) (by omega)
    · have hi4 : i + 4 ≤ L := Nat.le_of_not_lt fun z9 => c_29 ((L_gt hL (by omega)).mpr z9)
      refine p_aload_n C rfl 0 rfl dL_law_32 ?_
      refine p_iload C 4 rfl dL_law_33 ?_
      refine p_sld (x := xs i) C hX hbl hbA (vp_in_nI (by omega) (by omega)) (congrArg xs (nI_clamp (by omega))) dL_law_35 ?_
      refine p_bipush (v := 31) C (by decide) dL_law_36 ?_
      refine p_iand C dL_law_38 ?_
      have hnx : ∀ (n' cp' cn' v' c' s' : Nat) (R' : Nat → Nat → Int32) (T' U' tx' Am' Wk' Mo' bt' : Nat → Int32) (th' sz' ml' : Int32) (g' : Nat → Int64), LI n' R' Am' cp' cn' bt' → c' ≤ c9 + 544 → s' ≤ s9 + 6944 → WP p l e (room_1) s m args below meth c D A 9 (KW k ad r (nI n') R' T' U' tx' sz' ((oa, aL k 1 g') :: (MW k md th' (nI n') Am' Wk' Mo' v' cp' bt' ml' (nI cn') []))) [(0, .ref b), (1, .ref (ad 0)), (2, .ref (md 0)), (3, .ref oa), (4, .int (nI i))] c' s' Q 1932 [] := by
        intro n' cp' cn' v' c' s' R' T' U' tx' Am' Wk' Mo' bt' th' sz' ml' g' hI' hc' hs'
        refine p_iinc (lv9 := [(4, .int (nI (i + 4))), (0, .ref b), (1, .ref (ad 0)), (2, .ref (md 0)), (3, .ref oa)]) (v := (nI (i + 4))) C (j := 4) rfl (by exact nI_add i 4) (by decide) rfl dL_law_1932 ?_
        refine p_goto C 23 (by decide) dL_law_1935 ?_
        refine p_lv (lv9 := [(0, .ref b), (1, .ref (ad 0)), (2, .ref (md 0)), (3, .ref oa), (4, .int (nI (i + 4)))]) [1, 2, 3, 4, 0] rfl ?_
        exact ih (i + 4) _ _ _ _ _ _ _ _ _ _ _ _ _ _ _ _ _ _ (by omega) (by omega) hI' (by omega) (by omega)
      obtain ⟨q9, hq9, e31⟩ := and31 (xs i)
      refine p_int (y := nI q9) e31 ?_
      rcases (show q9 = 0 ∨ q9 = 1 ∨ q9 = 2 ∨ q9 = 3 ∨ q9 = 4 ∨ q9 = 5 ∨ q9 = 6 ∨ q9 = 7 ∨ q9 = 8 ∨ q9 = 9 ∨ q9 = 10 ∨ q9 = 11 ∨ q9 = 12 ∨ q9 = 13 ∨ q9 = 14 ∨ q9 = 15 ∨ q9 = 16 ∨ q9 = 17 ∨ q9 = 18 ∨ q9 = 19 ∨ q9 = 20 ∨ q9 = 21 ∨ q9 = 22 ∨ q9 = 23 ∨ q9 = 24 ∨ q9 = 25 ∨ q9 = 26 ∨ q9 = 27 ∨ q9 = 28 ∨ q9 = 29 ∨ 30 ≤ q9 from by omega) with rfl | rfl | rfl | rfl | rfl | rfl | rfl | rfl | rfl | rfl | rfl | rfl | rfl | rfl | rfl | rfl | rfl | rfl | rfl | rfl | rfl | rfl | rfl | rfl | rfl | rfl | rfl | rfl | rfl | rfl | hq
      · refine p_tin (off := 133) (tgt := 172) C (by decide) (by decide) (by decide) (by decide) dL_law_39 ?_
        exact lc_addRecipe C hfl hX hbl hbA hL hi4 hI (by omega) (by omega) hnx
      · refine p_tin (off := 177) (tgt := 216) C (by decide) (by decide) (by decide) (by decide) dL_law_39 ?_
        exact lc_set C hfl hX hbl hbA hL hi4 hI (by omega) (by omega) hnx
      · refine p_tin (off := 257) (tgt := 296) C (by decide) (by decide) (by decide) (by decide) dL_law_39 ?_
        exact lc_drop C hfl hX hbl hbA hL hi4 hI (by omega) (by omega) hnx
      · refine p_tin (off := 313) (tgt := 352) C (by decide) (by decide) (by decide) (by decide) dL_law_39 ?_
        exact lc_scale C hfl hX hbl hbA hL hi4 hI (by omega) (by omega) hnx
      · refine p_tin (off := 381) (tgt := 420) C (by decide) (by decide) (by decide) (by decide) dL_law_39 ?_
        exact lc_shift C hfl hX hbl hbA hL hi4 hI (by omega) (by omega) hnx
      · refine p_tin (off := 449) (tgt := 488) C (by decide) (by decide) (by decide) (by decide) dL_law_39 ?_
        exact lc_sum C hfl hX hbl hbA hL hi4 hI (by omega) (by omega) hnx
      · refine p_tin (off := 517) (tgt := 556) C (by decide) (by decide) (by decide) (by decide) dL_law_39 ?_
        exact lc_difference C hfl hX hbl hbA hL hi4 hI (by omega) (by omega) hnx
      · refine p_tin (off := 585) (tgt := 624) C (by decide) (by decide) (by decide) (by decide) dL_law_39 ?_
        exact lc_product C hfl hX hbl hbA hL hi4 hI (by omega) (by omega) hnx
      · refine p_tin (off := 653) (tgt := 692) C (by decide) (by decide) (by decide) (by decide) dL_law_39 ?_
        exact lc_chain C hfl hX hbl hbA hL hi4 hI (by omega) (by omega) hnx
      · refine p_tin (off := 721) (tgt := 760) C (by decide) (by decide) (by decide) (by decide) dL_law_39 ?_
        exact lc_derive C hfl hX hbl hbA hL hi4 hI (by omega) (by omega) hnx
      · refine p_tin (off := 777) (tgt := 816) C (by decide) (by decide) (by decide) (by decide) dL_law_39 ?_
        exact lc_divide C hfl hX hbl hbA hL hi4 hI (by omega) (by omega) hnx
      · refine p_tin (off := 845) (tgt := 884) C (by decide) (by decide) (by decide) (by decide) dL_law_39 ?_
        exact lc_recipes C hfl hX hbl hbA hL hi4 hI (by omega) (by omega) hnx
      · refine p_tin (off := 858) (tgt := 897) C (by decide) (by decide) (by decide) (by decide) dL_law_39 ?_
        exact lc_amountOf C hfl hX hbl hbA hL hi4 hI (by omega) (by omega) hnx
      · refine p_tin (off := 926) (tgt := 965) C (by decide) (by decide) (by decide) (by decide) dL_law_39 ?_
        exact lc_degreeOf C hfl hX hbl hbA hL hi4 hI (by omega) (by omega) hnx
      · refine p_tin (off := 982) (tgt := 1021) C (by decide) (by decide) (by decide) (by decide) dL_law_39 ?_
        exact lc_isPlain C hfl hX hbl hbA hL hi4 hI (by omega) (by omega) hnx
      · refine p_tin (off := 1045) (tgt := 1084) C (by decide) (by decide) (by decide) (by decide) dL_law_39 ?_
        exact lc_content C hfl hX hbl hbA hL hi4 hI (by omega) (by omega) hnx
      · refine p_tin (off := 1100) (tgt := 1139) C (by decide) (by decide) (by decide) (by decide) dL_law_39 ?_
        exact lc_signChanges C hfl hX hbl hbA hL hi4 hI (by omega) (by omega) hnx
      · refine p_tin (off := 1156) (tgt := 1195) C (by decide) (by decide) (by decide) (by decide) dL_law_39 ?_
        exact lc_hunger C hfl hX hbl hbA hL hi4 hI (by omega) (by omega) hnx
      · refine p_tin (off := 1224) (tgt := 1263) C (by decide) (by decide) (by decide) (by decide) dL_law_39 ?_
        exact lc_idleGuests C hfl hX hbl hbA hL hi4 hI (by omega) (by omega) hnx
      · refine p_tin (off := 1280) (tgt := 1319) C (by decide) (by decide) (by decide) (by decide) dL_law_39 ?_
        exact lc_firstIdle C hfl hX hbl hbA hL hi4 hI (by omega) (by omega) hnx
      · refine p_tin (off := 1336) (tgt := 1375) C (by decide) (by decide) (by decide) (by decide) dL_law_39 ?_
        exact lc_agreeAt C hfl hX hbl hbA hL hi4 hI (by omega) (by omega) hnx
      · refine p_tin (off := 1404) (tgt := 1443) C (by decide) (by decide) (by decide) (by decide) dL_law_39 ?_
        exact lc_cheapest C hfl hX hbl hbA hL hi4 hI (by omega) (by omega) hnx
      · refine p_tin (off := 1460) (tgt := 1499) C (by decide) (by decide) (by decide) (by decide) dL_law_39 ?_
        exact lc_hungerUpTo C hfl hX hbl hbA hL hi4 hI (by omega) (by omega) hnx
      · refine p_tin (off := 1527) (tgt := 1566) C (by decide) (by decide) (by decide) (by decide) dL_law_39 ?_
        exact lc_textLength C hfl hX hbl hbA hL hi4 hI (by omega) (by omega) hnx
      · refine p_tin (off := 1583) (tgt := 1622) C (by decide) (by decide) (by decide) (by decide) dL_law_39 ?_
        exact lc_textAt C hfl hX hbl hbA hL hi4 hI (by omega) (by omega) hnx
      · refine p_tin (off := 1651) (tgt := 1690) C (by decide) (by decide) (by decide) (by decide) dL_law_39 ?_
        exact lc_isPartOf C hfl hX hbl hbA hL hi4 hI (by omega) (by omega) hnx
      · refine p_tin (off := 1726) (tgt := 1765) C (by decide) (by decide) (by decide) (by decide) dL_law_39 ?_
        exact lc_plainParts C hfl hX hbl hbA hL hi4 hI (by omega) (by omega) hnx
      · refine p_tin (off := 1782) (tgt := 1821) C (by decide) (by decide) (by decide) (by decide) dL_law_39 ?_
        exact lc_bestShift C hfl hX hbl hbA hL hi4 hI (by omega) (by omega) hnx
      · refine p_tin (off := 1838) (tgt := 1877) C (by decide) (by decide) (by decide) (by decide) dL_law_39 ?_
        exact lc_meanDegree C hfl hX hbl hbA hL hi4 hI (by omega) (by omega) hnx
      · refine p_tin (off := 1879) (tgt := 1918) C (by decide) (by decide) (by decide) (by decide) dL_law_39 ?_
        exact lc_digest C hfl hX hbl hbA hL hi4 hI (by omega) (by omega) hnx
      · refine p_tout (tgt := 1932) C (Or.inr (by rw [nI_toInt (by omega)]; omega)) (by decide) dL_law_39 ?_
        exact hnx _ _ _ _ _ _ _ _ _ _ _ _ _ _ _ _ _ _ hI (by omega) (by omega)
