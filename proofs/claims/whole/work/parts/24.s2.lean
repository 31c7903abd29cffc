theorem mx_code : Cond.code Lib.Math.max.name Lib.Math.max.code 2 (some .int) ∈ TB := tbm 333 (by decide +kernel) (by decide +kernel)
theorem mx_stat : Cond.static Lib.Math.max.name ∈ TB := ysJ9_max_7cf53.2
theorem mx_init : Cond.initialized "java/lang/Math" ∈ TB := ysJ9_max_7cf53.1.2.1
theorem most_m : ∀ g, g ≤ 3 → (if nI 0 < nI g - nI 1 then nI g - nI 1 else nI 0) = nI (g - 1) := by decide +kernel
theorem adF_tur (R : RT) (k f o : Nat) : turF (adF R (R 1 (R 0 0)) (R 2 (R 0 0)) o) (R 0 0) k f = adF R k f o := by
  funext i j
  unfold turF adF upR
  repeat' split
  all_goals (first | rfl | omega)
theorem or_pow_bit (S k j : Nat) : (S ||| 2 ^ k).testBit j = (S.testBit j || decide (k = j)) := by rw [Nat.testBit_or, Nat.testBit_two_pow]
theorem setU_st {R : RT} {a : Nat} (ha : a < R 0 0) : setF (setU R a) 0 = setF R 0 ||| 2 ^ a := by
  apply Nat.eq_of_testBit_eq
  intro k
  rw [or_pow_bit, setF_bit, setF_bit]
  have e0 : setU R a 0 0 = R 0 0 := rfl
  rw [e0]
  by_cases q : a = k
  · subst q; rw [setU_s]; simp [ha]
  · have e4 : setU R a 4 k = R 4 k := by unfold setU; rw [upR_n (by omega), upR_n (by omega)]
    rw [e4]; simp [q]
theorem setU_ly {R : RT} {a : Nat} : setF (setU R a) 1 = anN (setF R 1) (2 ^ a) := by
  apply Nat.eq_of_testBit_eq
  intro k
  rw [anN_bit, setF_bit, setF_bit, Nat.testBit_two_pow]
  have e0 : setU R a 0 0 = R 0 0 := rfl
  rw [e0]
  by_cases q : a = k
  · subst q; rw [setU_s]; simp
  · have e4 : setU R a 4 k = R 4 k := by unfold setU; rw [upR_n (by omega), upR_n (by omega)]
    rw [e4]; simp [q]
theorem setU_ar {R : RT} {a : Nat} : sA (setU R a) = cN (upN (R 5) a 0) := by
  funext j
  show nI (setU R a 5 j) = nI (upN (R 5) a 0 j)
  unfold setU upR upN
  by_cases q : j = a
  · simp [q]
  · simp [q]
theorem pul_st {R : RT} (hn : R 0 0 ≤ 10) {f v : Nat} : setF (pulF R f v) 0 = anN (anN (setF R 0) (if f < 10 then 2 ^ f else 0)) (bs (shkF R f v) (R 0 0)) := by
  apply Nat.eq_of_testBit_eq
  intro k
  rw [anN_bit, anN_bit, setF_bit, setF_bit, bs_bit, pulF_00]
  by_cases hk : k < R 0 0
  · have e4 : pulF R f v 4 k = if shkF R f v k then 1 else if k = f then 2 else R 4 k := by unfold pulF; rw [if_pos (by omega)]
    rw [e4]
    cases hs : shkF R f v k with
    | true => simp [hk]
    | false =>
      by_cases q : k = f
      · subst q
        by_cases h10 : k < 10
        · simp [hk, h10, Nat.testBit_two_pow]
        · exact absurd (Nat.lt_of_lt_of_le hk hn) h10
      · by_cases h10 : f < 10
        · have : ¬ f = k := fun z => q z.symm
          simp [hk, h10, q, this, Nat.testBit_two_pow]
        · simp [hk, h10, q]
  · simp [hk]
theorem anN_0 (a : Nat) : anN a 0 = a := by
  apply Nat.eq_of_testBit_eq
  intro k
  rw [anN_bit]; simp
theorem pul_fl {R : RT} {f v : Nat} (h : f < 10) : sF (pulF R f v) = R 0 2 := by
  show pulF R f v 0 2 = R 0 2
  unfold pulF
  rw [if_neg (by omega), if_neg (by omega)]
theorem pul_sT {R : RT} (hn : R 0 0 ≤ 10) {f v : Nat} (h : f < 10) : setF (pulF R f v) 0 = anN (anN (setF R 0) (2 ^ f)) (bs (shkF R f v) (R 0 0)) := by rw [pul_st hn, if_pos h]
theorem pul_sF {R : RT} (hn : R 0 0 ≤ 10) {v : Nat} : setF (pulF R 10 v) 0 = anN (setF R 0) (bs (shkF R 10 v) (R 0 0)) := by rw [pul_st hn, if_neg (by omega), anN_0]
theorem st_i {R : RT} {k h : Nat} (hk : k < R 0 0) : (if (0 ≤ ((k : Nat) : Int) ∧ ((k : Nat) : Int) < ((R 0 0 : Nat) : Int)) ∧ R 4 ((k : Nat) : Int).toNat = h then (1 : Int32) else 0) = if R 4 k = h then 1 else 0 := ifc (by rw [Int.toNat_natCast]; omega)
theorem pul_ly {R : RT} {f v : Nat} (hf : f < R 0 0 → R 4 f = 0) : setF (pulF R f v) 1 = setF R 1 ||| bs (shkF R f v) (R 0 0) := by
  apply Nat.eq_of_testBit_eq
  intro k
  rw [Nat.testBit_or, setF_bit, setF_bit, bs_bit, pulF_00]
  by_cases hk : k < R 0 0
  · have e4 : pulF R f v 4 k = if shkF R f v k then 1 else if k = f then 2 else R 4 k := by unfold pulF; rw [if_pos (by omega)]
    rw [e4]
    cases hs : shkF R f v k with
    | true => simp [hk]
    | false =>
      by_cases q : k = f
      · subst q; simp [hk, hf hk]
      · simp [hk, q]
  · simp [hk]
theorem adS_st {R : RT} {k f o : Nat} : setF (adF R k f o) 0 = setF R 0 ||| 2 ^ R 0 0 := by
  apply Nat.eq_of_testBit_eq
  intro j
  rw [or_pow_bit, setF_bit, setF_bit, adF_00]
  by_cases q : j = R 0 0
  · subst q
    have e4 : adF R k f o 4 (R 0 0) = 0 := by unfold adF; rw [upR_n (by omega), upR_n (by omega), upR_s]
    rw [e4]; simp
  · rw [adF_n _ _ _ _ _ _ (by omega) q]
    have : (j < R 0 0 + 1) ↔ (j < R 0 0) := by omega
    have q2 : ¬ R 0 0 = j := fun z => q z.symm
    simp [this, q2]
theorem adS_ly {R : RT} {k f o : Nat} : setF (adF R k f o) 1 = setF R 1 := by
  apply Nat.eq_of_testBit_eq
  intro j
  rw [setF_bit, setF_bit, adF_00]
  by_cases q : j = R 0 0
  · subst q
    have e4 : adF R k f o 4 (R 0 0) = 0 := by unfold adF; rw [upR_n (by omega), upR_n (by omega), upR_s]
    rw [e4]; simp
  · rw [adF_n _ _ _ _ _ _ (by omega) q]
    have : (j < R 0 0 + 1) ↔ (j < R 0 0) := by omega
    simp [this]
theorem adS_ab {R : RT} {k f o : Nat} : sO (adF R k f o) = cO (upN (R 3) (R 0 0) o) := by
  funext j
  show onI (adF R k f o 3 j) = onI (upN (R 3) (R 0 0) o j)
  congr 1
  unfold adF upR upN
  by_cases q : j = R 0 0
  · simp [q]
  · simp [q]
theorem adS_aa {R : RT} {k f o : Nat} : sA (adF R k f o) = cN (upN (R 5) (R 0 0) 0) := by
  funext j
  show nI (adF R k f o 5 j) = nI (upN (R 5) (R 0 0) 0 j)
  congr 1
  unfold adF upR upN
  by_cases q : j = R 0 0
  · simp [q]
  · simp [q]
theorem adS_ak {R : RT} {o : Nat} : sK (adF R (R 1 (R 0 0)) (R 2 (R 0 0)) o) = sK R := by
  funext j
  show nI (adF R _ _ o 1 j) = nI (R 1 j)
  congr 1
  unfold adF upR
  by_cases q : j = R 0 0
  · simp [q]
  · simp [q]
theorem adS_af {R : RT} {o : Nat} : sG (adF R (R 1 (R 0 0)) (R 2 (R 0 0)) o) = sG R := by
  funext j
  show nI (adF R _ _ o 2 j) = nI (R 2 j)
  congr 1
  unfold adF upR
  by_cases q : j = R 0 0
  · simp [q]
  · simp [q]
theorem tur_ak {R : RT} {a k f : Nat} : sK (turF R a k f) = cN (upN (R 1) a k) := by
  funext j
  show nI (turF R a k f 1 j) = nI (upN (R 1) a k j)
  congr 1
  unfold turF upR upN
  by_cases q : j = a
  · simp [q]
  · simp [q]
theorem tur_af {R : RT} {a k f : Nat} : sG (turF R a k f) = cN (upN (R 2) a f) := by
  funext j
  show nI (turF R a k f 2 j) = nI (upN (R 2) a f j)
  congr 1
  unfold turF upR upN
  by_cases q : j = a
  · simp [q]
  · simp [q]
set_option maxRecDepth 100000 in
set_option maxHeartbeats 4000000 in
theorem kX0_gripOf (l : Launch) (G : GT) (so : Nat) (ak : Nat) (af : Nat) (ab : Nat) (aa : Nat) (mi : Nat) (R : RT) (a : Nat) (hR : OK R) (ha : a < R 0 0) : Ct l yX0_gripOf cX0_gripOf 3 (some .int) 0 0 [.ref so, .int (nI a)] G [(so, .inr (0, [.int (nI (sN R)), .int (nI mi), .int (nI (sF R)), .int (nI (sS R)), .int (nI (sL R)), .ref ak, .ref af, .ref ab, .ref aa])), (ak, aI G 10 (sK R)), (af, aI G 10 (sG R)), (ab, aI G 10 (sO R)), (aa, aI G 10 (sA R))] (QI G [(so, .inr (0, [.int (nI (sN R)), .int (nI mi), .int (nI (sF R)), .int (nI (sS R)), .int (nI (sL R)), .ref ak, .ref af, .ref ab, .ref aa])), (ak, aI G 10 (sK R)), (af, aI G 10 (sG R)), (ab, aI G 10 (sO R)), (aa, aI G 10 (sA R))] (fun (r : Int32) (u : Unit) => r = nI (gripF R a)) (fun u => [(so, .inr (0, [.int (nI (sN R)), .int (nI mi), .int (nI (sF R)), .int (nI (sS R)), .int (nI (sL R)), .ref ak, .ref af, .ref ab, .ref aa])), (ak, aI G 10 (sK R)), (af, aI G 10 (sG R)), (ab, aI G 10 (sO R)), (aa, aI G 10 (sA R))])) := by
  refine en (by decide +kernel) (Nat.le_of_ble_eq_true rfl) ?_
  intro p e s m below meth c ls H locs C hl hw
  have xx := C.1
  have xb := C.2.1
  have hw : Wd G (fA [(so, .inr (0, [.int (nI (sN R)), .int (nI mi), .int (nI (sF R)), .int (nI (sS R)), .int (nI (sL R)), .ref ak, .ref af, .ref ab, .ref aa])), (ak, aI G 10 (sK R)), (af, aI G 10 (sG R)), (ab, aI G 10 (sO R)), (aa, aI G 10 (sA R))]) s [(so, .inr (0, [.int (nI (sN R)), .int (nI mi), .int (nI (sF R)), .int (nI (sS R)), .int (nI (sL R)), .ref ak, .ref af, .ref ab, .ref aa])), (ak, aI G 10 (sK R)), (af, aI G 10 (sG R)), (ab, aI G 10 (sO R)), (aa, aI G 10 (sA R))] H locs := hw
  have hl : lv_has ls 3 [(0, .ref so), (1, .int (nI a))] := hl
  obtain ⟨hn, hf0, hpr, hA⟩ := id hR
  obtain ⟨q1, q2, q3, q4, q5⟩ := hA a ha
  refine lv_aload_n xx xb dX0_gripOf_0 rfl (lv_at hl 0 rfl) ?_
  refine m_get C hw 0 rfl fk_X0_19 rfl dX0_gripOf_1 ?_
  refine lv_iload_n xx xb dX0_gripOf_4 rfl (lv_at hl 1 rfl) ?_
  refine m_ald C hw 2 rfl a rfl (by omega) (by decide) dX0_gripOf_5 ?_
  refine re_i (nI (R 2 a)) rfl ?_
  refine lv_istore_n (lv' := [(2, .int (nI (R 2 a))), (0, .ref so), (1, .int (nI a))]) xx xb dX0_gripOf_6 rfl hl (by decide) rfl (fun ls hl => ?_)
  refine lv_aload_n xx xb dX0_gripOf_7 rfl (lv_at hl 1 rfl) ?_
  refine m_get C hw 0 rfl fk_X0_15 rfl dX0_gripOf_8 ?_
  refine lv_iload_n xx xb dX0_gripOf_11 rfl (lv_at hl 2 rfl) ?_
  refine m_ald C hw 1 rfl a rfl (by omega) (by decide) dX0_gripOf_12 ?_
  refine re_i (nI (R 1 a)) rfl ?_
  by_cases k_13_1 : (R 1 a) = 1
  · skip
    refine re_i (nI 1) (by rw [k_13_1]) ?_
    refine lv_tableIn (off := 35) (tgt := 48) xx xb dX0_gripOf_13 (by decide +kernel) (by decide +kernel) (by decide +kernel) (by decide) ?_
    refine lv_bipush (v := nI 9) xx xb dX0_gripOf_48 (by decide) ?_
    refine lv_iload_n xx xb dX0_gripOf_50 rfl (lv_at hl 0 rfl) ?_
    refine lv_isub xx xb dX0_gripOf_51 ?_
    refine re_i (nI (9 - (R 2 a))) (pk_sub (by omega)) ?_
    exact rt_i C hw () (by simp only [gripF]; first | rw [if_pos (by assumption)] | (rw [if_neg (by assumption), if_pos (by assumption)]) | (rw [if_neg (by assumption), if_neg (by assumption), if_pos (by assumption)]) | (rw [if_neg (by assumption), if_neg (by assumption), if_neg (by assumption), if_pos (by assumption)]) | (rw [if_neg (by assumption), if_neg (by assumption), if_neg (by assumption), if_neg (by assumption), if_pos (by assumption)]) | (rw [if_neg (by assumption), if_neg (by assumption), if_neg (by assumption), if_neg (by assumption), if_neg (by assumption)])) rfl dX0_gripOf_52
  by_cases k_13_2 : (R 1 a) = 2
  · skip
    refine re_i (nI 2) (by rw [k_13_2]) ?_
    refine lv_tableIn (off := 40) (tgt := 53) xx xb dX0_gripOf_13 (by decide +kernel) (by decide +kernel) (by decide +kernel) (by decide) ?_
    refine lv_iload_n xx xb dX0_gripOf_53 rfl (lv_at hl 0 rfl) ?_
    refine lv_iconst (v := nI 2) xx xb dX0_gripOf_54 (by decide) ?_
    refine lv_idiv xx xb dX0_gripOf_55 (by decide +kernel) ?_
    refine re_i (nI ((R 2 a) / 2)) (pk_div (by omega) (by omega) (by omega)) ?_
    exact rt_i C hw () (by simp only [gripF]; first | rw [if_pos (by assumption)] | (rw [if_neg (by assumption), if_pos (by assumption)]) | (rw [if_neg (by assumption), if_neg (by assumption), if_pos (by assumption)]) | (rw [if_neg (by assumption), if_neg (by assumption), if_neg (by assumption), if_pos (by assumption)]) | (rw [if_neg (by assumption), if_neg (by assumption), if_neg (by assumption), if_neg (by assumption), if_pos (by assumption)]) | (rw [if_neg (by assumption), if_neg (by assumption), if_neg (by assumption), if_neg (by assumption), if_neg (by assumption)])) rfl dX0_gripOf_56
  by_cases k_13_3 : (R 1 a) = 3
  · skip
    refine re_i (nI 3) (by rw [k_13_3]) ?_
    refine lv_tableIn (off := 44) (tgt := 57) xx xb dX0_gripOf_13 (by decide +kernel) (by decide +kernel) (by decide +kernel) (by decide) ?_
    refine lv_iconst (v := nI 0) xx xb dX0_gripOf_57 (by decide) ?_
    exact rt_i C hw () (by simp only [gripF]; first | rw [if_pos (by assumption)] | (rw [if_neg (by assumption), if_pos (by assumption)]) | (rw [if_neg (by assumption), if_neg (by assumption), if_pos (by assumption)]) | (rw [if_neg (by assumption), if_neg (by assumption), if_neg (by assumption), if_pos (by assumption)]) | (rw [if_neg (by assumption), if_neg (by assumption), if_neg (by assumption), if_neg (by assumption), if_pos (by assumption)]) | (rw [if_neg (by assumption), if_neg (by assumption), if_neg (by assumption), if_neg (by assumption), if_neg (by assumption)])) rfl dX0_gripOf_58
  by_cases k_13_4 : (R 1 a) = 4
  · skip
    refine re_i (nI 4) (by rw [k_13_4]) ?_
    refine lv_tableIn (off := 46) (tgt := 59) xx xb dX0_gripOf_13 (by decide +kernel) (by decide +kernel) (by decide +kernel) (by decide) ?_
    refine lv_iload_n xx xb dX0_gripOf_59 rfl (lv_at hl 0 rfl) ?_
    refine lv_iconst (v := nI 2) xx xb dX0_gripOf_60 (by decide) ?_
    refine lv_idiv xx xb dX0_gripOf_61 (by decide +kernel) ?_
    refine re_i (nI ((R 2 a) / 2)) (pk_div (by omega) (by omega) (by omega)) ?_
    exact rt_i C hw () (by simp only [gripF]; first | rw [if_pos (by assumption)] | (rw [if_neg (by assumption), if_pos (by assumption)]) | (rw [if_neg (by assumption), if_neg (by assumption), if_pos (by assumption)]) | (rw [if_neg (by assumption), if_neg (by assumption), if_neg (by assumption), if_pos (by assumption)]) | (rw [if_neg (by assumption), if_neg (by assumption), if_neg (by assumption), if_neg (by assumption), if_pos (by assumption)]) | (rw [if_neg (by assumption), if_neg (by assumption), if_neg (by assumption), if_neg (by assumption), if_neg (by assumption)])) rfl dX0_gripOf_62
  by_cases k_13_5 : (R 1 a) = 5
  · skip
    refine re_i (nI 5) (by rw [k_13_5]) ?_
    refine lv_tableIn (off := 50) (tgt := 63) xx xb dX0_gripOf_13 (by decide +kernel) (by decide +kernel) (by decide +kernel) (by decide) ?_
    refine lv_bipush (v := nI 10) xx xb dX0_gripOf_63 (by decide) ?_
    refine lv_iload_n xx xb dX0_gripOf_65 rfl (lv_at hl 0 rfl) ?_
    refine lv_isub xx xb dX0_gripOf_66 ?_
    refine re_i (nI (10 - (R 2 a))) (pk_sub (by omega)) ?_
    exact rt_i C hw () (by simp only [gripF]; first | rw [if_pos (by assumption)] | (rw [if_neg (by assumption), if_pos (by assumption)]) | (rw [if_neg (by assumption), if_neg (by assumption), if_pos (by assumption)]) | (rw [if_neg (by assumption), if_neg (by assumption), if_neg (by assumption), if_pos (by assumption)]) | (rw [if_neg (by assumption), if_neg (by assumption), if_neg (by assumption), if_neg (by assumption), if_pos (by assumption)]) | (rw [if_neg (by assumption), if_neg (by assumption), if_neg (by assumption), if_neg (by assumption), if_neg (by assumption)])) rfl dX0_gripOf_67
  · skip
    refine lv_tableOut (tgt := 68) xx xb dX0_gripOf_13 (by rw [tN (by omega)]; omega) (by decide) ?_
    refine lv_iload_n xx xb dX0_gripOf_68 rfl (lv_at hl 0 rfl) ?_
    exact rt_i C hw () (by simp only [gripF]; first | rw [if_pos (by assumption)] | (rw [if_neg (by assumption), if_pos (by assumption)]) | (rw [if_neg (by assumption), if_neg (by assumption), if_pos (by assumption)]) | (rw [if_neg (by assumption), if_neg (by assumption), if_neg (by assumption), if_pos (by assumption)]) | (rw [if_neg (by assumption), if_neg (by assumption), if_neg (by assumption), if_neg (by assumption), if_pos (by assumption)]) | (rw [if_neg (by assumption), if_neg (by assumption), if_neg (by assumption), if_neg (by assumption), if_neg (by assumption)])) rfl dX0_gripOf_69
set_option maxRecDepth 100000 in
set_option maxHeartbeats 4000000 in
theorem kX0_habitOf (l : Launch) (G : GT) (so : Nat) (ak : Nat) (af : Nat) (ab : Nat) (aa : Nat) (mi : Nat) (R : RT) (a : Nat) (hR : OK R) (ha : a < R 0 0) : Ct l yX0_habitOf cX0_habitOf 5 (some .int) 1 30 [.ref so, .int (nI a)] G [(so, .inr (0, [.int (nI (sN R)), .int (nI mi), .int (nI (sF R)), .int (nI (sS R)), .int (nI (sL R)), .ref ak, .ref af, .ref ab, .ref aa])), (ak, aI G 10 (sK R)), (af, aI G 10 (sG R)), (ab, aI G 10 (sO R)), (aa, aI G 10 (sA R))] (QI G [(so, .inr (0, [.int (nI (sN R)), .int (nI mi), .int (nI (sF R)), .int (nI (sS R)), .int (nI (sL R)), .ref ak, .ref af, .ref ab, .ref aa])), (ak, aI G 10 (sK R)), (af, aI G 10 (sG R)), (ab, aI G 10 (sO R)), (aa, aI G 10 (sA R))] (fun (r : Int32) (u : Unit) => r = nI (habF R a (slX R a))) (fun u => [(so, .inr (0, [.int (nI (sN R)), .int (nI mi), .int (nI (sF R)), .int (nI (sS R)), .int (nI (sL R)), .ref ak, .ref af, .ref ab, .ref aa])), (ak, aI G 10 (sK R)), (af, aI G 10 (sG R)), (ab, aI G 10 (sO R)), (aa, aI G 10 (sA R))])) := by
  refine en (by decide +kernel) (Nat.le_of_ble_eq_true rfl) ?_
  intro p e s m below meth c ls H locs C hl hw
  have xx := C.1
  have xb := C.2.1
  have hw : Wd G (fA [(so, .inr (0, [.int (nI (sN R)), .int (nI mi), .int (nI (sF R)), .int (nI (sS R)), .int (nI (sL R)), .ref ak, .ref af, .ref ab, .ref aa])), (ak, aI G 10 (sK R)), (af, aI G 10 (sG R)), (ab, aI G 10 (sO R)), (aa, aI G 10 (sA R))]) s [(so, .inr (0, [.int (nI (sN R)), .int (nI mi), .int (nI (sF R)), .int (nI (sS R)), .int (nI (sL R)), .ref ak, .ref af, .ref ab, .ref aa])), (ak, aI G 10 (sK R)), (af, aI G 10 (sG R)), (ab, aI G 10 (sO R)), (aa, aI G 10 (sA R))] H locs := hw
  have hl : lv_has ls 5 [(0, .ref so), (1, .int (nI a))] := hl
  obtain ⟨hn, hf0, hpr, hA⟩ := id hR
  obtain ⟨q1, q2, q3, q4, q5⟩ := hA a ha
  have hs1 := setF_lt hR 1
  have han := anN_le (setF R 1) (2 ^ a)
  refine lv_aload_n xx xb dX0_habitOf_0 rfl (lv_at hl 0 rfl) ?_
  refine m_get C hw 0 rfl fk_X0_19 rfl dX0_habitOf_1 ?_
  refine lv_iload_n xx xb dX0_habitOf_4 rfl (lv_at hl 1 rfl) ?_
  refine m_ald C hw 2 rfl a rfl (by omega) (by decide) dX0_habitOf_5 ?_
  refine re_i (nI (R 2 a)) rfl ?_
  refine lv_iconst (v := nI 3) xx xb dX0_habitOf_6 (by decide) ?_
  refine lv_idiv xx xb dX0_habitOf_7 (by decide +kernel) ?_
  refine re_i (nI ((R 2 a) / 3)) (pk_div (by omega) (by omega) (by omega)) ?_
  refine lv_istore_n (lv' := [(2, .int (nI ((R 2 a) / 3))), (0, .ref so), (1, .int (nI a))]) xx xb dX0_habitOf_8 rfl hl (by decide) rfl (fun ls hl => ?_)
  refine lv_iconst (v := nI 0) xx xb dX0_habitOf_9 (by decide) ?_
  refine lv_iload_n xx xb dX0_habitOf_10 rfl (lv_at hl 0 rfl) ?_
  refine lv_iconst (v := nI 1) xx xb dX0_habitOf_11 (by decide) ?_
  refine lv_isub xx xb dX0_habitOf_12 ?_
  refine va_mmax xx xb (C.2.2.1.trans hl.1.symm) C.2.2.2.1 (C.2.2.2.2.1 _ (show Cond.methodLink RX0 63 Lib.Math.max.name ∈ TB from ml_X0_63)) (C.2.2.2.2.1 _ mx_stat) (C.2.2.2.2.1 _ mx_init) (C.2.2.2.2.1 _ mx_code) (by decide) (Nat.le_of_ble_eq_true rfl) (Nat.zero_le _) (Nat.zero_le _) dX0_habitOf_13 ?_
  refine re_i (nI (R 2 a / 3 - 1)) (most_m _ (by omega)) ?_
  refine lv_istore_n (lv' := [(3, .int (nI (R 2 a / 3 - 1))), (2, .int (nI ((R 2 a) / 3))), (0, .ref so), (1, .int (nI a))]) xx xb dX0_habitOf_16 rfl hl (by decide) rfl (fun ls hl => ?_)
  refine lv_iload_n xx xb dX0_habitOf_17 rfl (lv_at hl 1 rfl) ?_
  refine lv_aload_n xx xb dX0_habitOf_18 rfl (lv_at hl 2 rfl) ?_
  refine m_get C hw 0 rfl fk_X0_19 rfl dX0_habitOf_19 ?_
  refine lv_iload_n xx xb dX0_habitOf_22 rfl (lv_at hl 3 rfl) ?_
  refine m_ald C hw 2 rfl a rfl (by omega) (by decide) dX0_habitOf_23 ?_
  refine re_i (nI (R 2 a)) rfl ?_
  refine lv_iadd xx xb dX0_habitOf_24 ?_
  refine re_i (nI (((R 2 a) / 3) + (R 2 a))) (nI_add _ _) ?_
  refine lv_istore (lv' := [(4, .int (nI (((R 2 a) / 3) + (R 2 a)))), (3, .int (nI (R 2 a / 3 - 1))), (2, .int (nI ((R 2 a) / 3))), (0, .ref so), (1, .int (nI a))]) xx xb dX0_habitOf_25 hl (by decide) rfl (fun ls hl => ?_)
  refine lv_aload_n xx xb dX0_habitOf_27 rfl (lv_at hl 3 rfl) ?_
  refine m_get C hw 0 rfl fk_X0_15 rfl dX0_habitOf_28 ?_
  refine lv_iload_n xx xb dX0_habitOf_31 rfl (lv_at hl 4 rfl) ?_
  refine m_ald C hw 1 rfl a rfl (by omega) (by decide) dX0_habitOf_32 ?_
  refine re_i (nI (R 1 a)) rfl ?_
  by_cases k_33_1 : (R 1 a) = 1
  · skip
    refine re_i (nI 1) (by rw [k_33_1]) ?_
    refine lv_tableIn (off := 35) (tgt := 68) xx xb dX0_habitOf_33 (by decide +kernel) (by decide +kernel) (by decide +kernel) (by decide) ?_
    refine lv_iload_n xx xb dX0_habitOf_68 rfl (lv_at hl 1 rfl) ?_
    exact rt_i C hw () (by unfold habF; simp [*]) rfl dX0_habitOf_69
  by_cases k_33_2 : (R 1 a) = 2
  · skip
    refine re_i (nI 2) (by rw [k_33_2]) ?_
    refine lv_tableIn (off := 37) (tgt := 70) xx xb dX0_habitOf_33 (by decide +kernel) (by decide +kernel) (by decide +kernel) (by decide) ?_
    refine lv_iload xx xb dX0_habitOf_70 (lv_at hl 0 rfl) ?_
    exact rt_i C hw () (by unfold habF; simp [*]) rfl dX0_habitOf_72
  by_cases k_33_3 : (R 1 a) = 3
  · skip
    refine re_i (nI 3) (by rw [k_33_3]) ?_
    refine lv_tableIn (off := 40) (tgt := 73) xx xb dX0_habitOf_33 (by decide +kernel) (by decide +kernel) (by decide +kernel) (by decide) ?_
    refine lv_iload xx xb dX0_habitOf_73 (lv_at hl 0 rfl) ?_
    refine lv_bipush (v := nI 20) xx xb dX0_habitOf_75 (by decide) ?_
    refine lv_iadd xx xb dX0_habitOf_77 ?_
    refine re_i (nI ((((R 2 a) / 3) + (R 2 a)) + 20)) (nI_add _ _) ?_
    exact rt_i C hw () (by unfold habF; simp [*]) rfl dX0_habitOf_78
  by_cases k_33_4 : (R 1 a) = 4
  · skip
    refine re_i (nI 4) (by rw [k_33_4]) ?_
    refine lv_tableIn (off := 46) (tgt := 79) xx xb dX0_habitOf_33 (by decide +kernel) (by decide +kernel) (by decide +kernel) (by decide) ?_
    refine lv_aload_n xx xb dX0_habitOf_79 rfl (lv_at hl 3 rfl) ?_
    refine m_get C hw 0 rfl fk_X0_38 rfl dX0_habitOf_80 ?_
    refine re_i (nI (setF R 1)) rfl ?_
    refine lv_iconst (v := nI 1) xx xb dX0_habitOf_83 (by decide) ?_
    refine lv_iload_n xx xb dX0_habitOf_84 rfl (lv_at hl 4 rfl) ?_
    refine lv_ishl xx xb dX0_habitOf_85 ?_
    refine re_i (nI (2 ^ a)) (shl1 (by omega)) ?_
    refine lv_iconst (v := (-1)) xx xb dX0_habitOf_86 (by decide) ?_
    refine lv_ixor xx xb dX0_habitOf_87 ?_
    refine lv_iand xx xb dX0_habitOf_88 ?_
    refine re_i (nI (anN (setF R 1) (2 ^ a))) (an_N _ _) ?_
    refine lv_if_eq (tgt := 96) xx xb dX0_habitOf_89 (by decide) (fun c_89 => ?_) (fun c_89 => ?_)
    · skip
      have c_89 := eq_c (tN (by omega)) Int32.toInt_zero c_89
      have hsl : slX R a = false := by unfold slX; rw [decide_eq_false_iff_not]; omega
      refine lv_iload xx xb dX0_habitOf_96 (lv_at hl 0 rfl) ?_
      exact rt_i C hw () (by unfold habF; simp [*]) rfl dX0_habitOf_98
    · skip
      have c_89 := ne_c (tN (by omega)) Int32.toInt_zero c_89
      have hsl : slX R a = true := by unfold slX; rw [decide_eq_true_eq]; omega
      refine lv_iconst (v := nI 0) xx xb dX0_habitOf_92 (by decide) ?_
      refine lv_goto (tgt := 98) xx xb dX0_habitOf_93 (by decide) ?_
      exact rt_i C hw () (by unfold habF; simp [*]) rfl dX0_habitOf_98
  by_cases k_33_5 : (R 1 a) = 5
  · skip
    refine re_i (nI 5) (by rw [k_33_5]) ?_
    refine lv_tableIn (off := 66) (tgt := 99) xx xb dX0_habitOf_33 (by decide +kernel) (by decide +kernel) (by decide +kernel) (by decide) ?_
    refine lv_iload_n xx xb dX0_habitOf_99 rfl (lv_at hl 1 rfl) ?_
    refine lv_iconst (v := nI 2) xx xb dX0_habitOf_100 (by decide) ?_
    refine lv_iadd xx xb dX0_habitOf_101 ?_
    refine re_i (nI ((R 2 a / 3 - 1) + 2)) (nI_add _ _) ?_
    exact rt_i C hw () (by unfold habF; simp [*]) rfl dX0_habitOf_102
  · skip
    refine lv_tableOut (tgt := 103) xx xb dX0_habitOf_33 (by rw [tN (by omega)]; omega) (by decide) ?_
    refine lv_iload_n xx xb dX0_habitOf_103 rfl (lv_at hl 2 rfl) ?_
    exact rt_i C hw () (by unfold habF; simp [*]) rfl dX0_habitOf_104
set_option maxRecDepth 100000 in
set_option maxHeartbeats 4000000 in
theorem kX0_become (l : Launch) (G : GT) (so : Nat) (ak : Nat) (af : Nat) (ab : Nat) (aa : Nat) (mi : Nat) (R : RT) (a : Nat) (k2 : Nat) (f2 : Nat) (hn : R 0 0 ≤ 10) (ha : a < R 0 0) : Ct l yX0_become cX0_become 4 (none) 1 21 [.ref so, .int (nI a), .int (nI k2), .int (nI f2)] G [(so, .inr (0, [.int (nI (sN R)), .int (nI mi), .int (nI (sF R)), .int (nI (sS R)), .int (nI (sL R)), .ref ak, .ref af, .ref ab, .ref aa])), (ak, aI G 10 (sK R)), (af, aI G 10 (sG R)), (ab, aI G 10 (sO R)), (aa, aI G 10 (sA R))] (QV G [(so, .inr (0, [.int (nI (sN R)), .int (nI mi), .int (nI (sF R)), .int (nI (sS R)), .int (nI (sL R)), .ref ak, .ref af, .ref ab, .ref aa])), (ak, aI G 10 (sK R)), (af, aI G 10 (sG R)), (ab, aI G 10 (sO R)), (aa, aI G 10 (sA R))] (fun u : Unit => True) (fun u => [(so, .inr (0, [.int (nI (sN (turF R a k2 f2))), .int (nI mi), .int (nI (sF (turF R a k2 f2))), .int (nI (sS (turF R a k2 f2))), .int (nI (sL (turF R a k2 f2))), .ref ak, .ref af, .ref ab, .ref aa])), (ak, aI G 10 (sK (turF R a k2 f2))), (af, aI G 10 (sG (turF R a k2 f2))), (ab, aI G 10 (sO (turF R a k2 f2))), (aa, aI G 10 (sA (turF R a k2 f2)))])) := by
  refine en (by decide +kernel) (Nat.le_of_ble_eq_true rfl) ?_
  intro p e s m below meth c ls H locs C hl hw
  have xx := C.1
  have xb := C.2.1
  have hw : Wd G (fA [(so, .inr (0, [.int (nI (sN R)), .int (nI mi), .int (nI (sF R)), .int (nI (sS R)), .int (nI (sL R)), .ref ak, .ref af, .ref ab, .ref aa])), (ak, aI G 10 (sK R)), (af, aI G 10 (sG R)), (ab, aI G 10 (sO R)), (aa, aI G 10 (sA R))]) s [(so, .inr (0, [.int (nI (sN R)), .int (nI mi), .int (nI (sF R)), .int (nI (sS R)), .int (nI (sL R)), .ref ak, .ref af, .ref ab, .ref aa])), (ak, aI G 10 (sK R)), (af, aI G 10 (sG R)), (ab, aI G 10 (sO R)), (aa, aI G 10 (sA R))] H locs := hw
  have hl : lv_has ls 4 [(0, .ref so), (1, .int (nI a)), (2, .int (nI k2)), (3, .int (nI f2))] := hl
  refine lv_aload_n xx xb dX0_become_0 rfl (lv_at hl 0 rfl) ?_
  refine lv_iload_n xx xb dX0_become_1 rfl (lv_at hl 1 rfl) ?_
  have hM := kX0_isThing l G so ak af ab aa mi R (nI a) ((a : Nat) : Int) (tN (by omega)) (by first | assumption | omega)
  refine cv_i C hw hM yvX0_isThing ml_X0_73 0 rfl rfl rfl [0, 1, 2, 3, 4] rfl rfl (fun _ => (rfl : ([so, ak, af, ab, aa] : List Nat) = [so, ak, af, ab, aa])) (by decide) ⟨Nat.zero_le _, Nat.zero_le _⟩ hl.1 rfl (Nat.le_of_ble_eq_true rfl) dX0_become_2 (fun r _ H locs hr hw => ?_)
  have hw : Wd G (fA [(so, .inr (0, [.int (nI (sN R)), .int (nI mi), .int (nI (sF R)), .int (nI (sS R)), .int (nI (sL R)), .ref ak, .ref af, .ref ab, .ref aa])), (ak, aI G 10 (sK R)), (af, aI G 10 (sG R)), (ab, aI G 10 (sO R)), (aa, aI G 10 (sA R))]) s [(so, .inr (0, [.int (nI (sN R)), .int (nI mi), .int (nI (sF R)), .int (nI (sS R)), .int (nI (sL R)), .ref ak, .ref af, .ref ab, .ref aa])), (ak, aI G 10 (sK R)), (af, aI G 10 (sG R)), (ab, aI G 10 (sO R)), (aa, aI G 10 (sA R))] H locs := hw
  subst hr
  refine lv_if_eq (tgt := 22) xx xb dX0_become_5 (by decide) (fun c_5 => ?_) (fun c_5 => ?_)
  · skip
    have c_5 := b0_c c_5
    exact absurd (And.intro (by omega) (by omega)) c_5
  · skip
    have c_5 := b1_c c_5
    refine lv_aload_n xx xb dX0_become_8 rfl (lv_at hl 0 rfl) ?_
    refine m_get C hw 0 rfl fk_X0_15 rfl dX0_become_9 ?_
    refine lv_iload_n xx xb dX0_become_12 rfl (lv_at hl 1 rfl) ?_
    refine lv_iload_n xx xb dX0_become_13 rfl (lv_at hl 2 rfl) ?_
    refine m_ast C hw 1 rfl a rfl (by omega) (by decide) (cN (upN (R 1) a k2)) (cN_u _ _ _) dX0_become_14 (fun H locs hw => ?_)
    have hw : Wd G (fA [(so, .inr (0, [.int (nI (sN R)), .int (nI mi), .int (nI (sF R)), .int (nI (sS R)), .int (nI (sL R)), .ref ak, .ref af, .ref ab, .ref aa])), (ak, aI G 10 (sK R)), (af, aI G 10 (sG R)), (ab, aI G 10 (sO R)), (aa, aI G 10 (sA R))]) s [(so, .inr (0, [.int (nI (sN R)), .int (nI mi), .int (nI (sF R)), .int (nI (sS R)), .int (nI (sL R)), .ref ak, .ref af, .ref ab, .ref aa])), (ak, aI G 10 (cN (upN (R 1) a k2))), (af, aI G 10 (sG R)), (ab, aI G 10 (sO R)), (aa, aI G 10 (sA R))] H locs := hw
    refine lv_aload_n xx xb dX0_become_15 rfl (lv_at hl 0 rfl) ?_
    refine m_get C hw 0 rfl fk_X0_19 rfl dX0_become_16 ?_
    refine lv_iload_n xx xb dX0_become_19 rfl (lv_at hl 1 rfl) ?_
    refine lv_iload_n xx xb dX0_become_20 rfl (lv_at hl 3 rfl) ?_
    refine m_ast C hw 2 rfl a rfl (by omega) (by decide) (cN (upN (R 2) a f2)) (cN_u _ _ _) dX0_become_21 (fun H locs hw => ?_)
    have hw : Wd G (fA [(so, .inr (0, [.int (nI (sN R)), .int (nI mi), .int (nI (sF R)), .int (nI (sS R)), .int (nI (sL R)), .ref ak, .ref af, .ref ab, .ref aa])), (ak, aI G 10 (sK R)), (af, aI G 10 (sG R)), (ab, aI G 10 (sO R)), (aa, aI G 10 (sA R))]) s [(so, .inr (0, [.int (nI (sN R)), .int (nI mi), .int (nI (sF R)), .int (nI (sS R)), .int (nI (sL R)), .ref ak, .ref af, .ref ab, .ref aa])), (ak, aI G 10 (cN (upN (R 1) a k2))), (af, aI G 10 (cN (upN (R 2) a f2))), (ab, aI G 10 (sO R)), (aa, aI G 10 (sA R))] H locs := hw
    have hw : Wd G (fA [(so, .inr (0, [.int (nI (sN R)), .int (nI mi), .int (nI (sF R)), .int (nI (sS R)), .int (nI (sL R)), .ref ak, .ref af, .ref ab, .ref aa])), (ak, aI G 10 (sK R)), (af, aI G 10 (sG R)), (ab, aI G 10 (sO R)), (aa, aI G 10 (sA R))]) s [(so, .inr (0, [.int (nI (sN (turF R a k2 f2))), .int (nI mi), .int (nI (sF (turF R a k2 f2))), .int (nI (sS (turF R a k2 f2))), .int (nI (sL (turF R a k2 f2))), .ref ak, .ref af, .ref ab, .ref aa])), (ak, aI G 10 (sK (turF R a k2 f2))), (af, aI G 10 (sG (turF R a k2 f2))), (ab, aI G 10 (sO (turF R a k2 f2))), (aa, aI G 10 (sA (turF R a k2 f2)))] H locs := by rw [show sK (turF R a k2 f2) = _ from tur_ak, show sG (turF R a k2 f2) = _ from tur_af]; exact hw
    exact rt_v C hw () trivial rfl dX0_become_22
set_option maxRecDepth 100000 in
set_option maxHeartbeats 4000000 in
theorem kX0_setUp (l : Launch) (G : GT) (so : Nat) (ak : Nat) (af : Nat) (ab : Nat) (aa : Nat) (mi : Nat) (R : RT) (a : Nat) (hR : OK R) (ha : a < R 0 0) : Ct l yX0_setUp cX0_setUp 2 (none) 1 21 [.ref so, .int (nI a)] G [(so, .inr (0, [.int (nI (sN R)), .int (nI mi), .int (nI (sF R)), .int (nI (sS R)), .int (nI (sL R)), .ref ak, .ref af, .ref ab, .ref aa])), (ak, aI G 10 (sK R)), (af, aI G 10 (sG R)), (ab, aI G 10 (sO R)), (aa, aI G 10 (sA R))] (QV G [(so, .inr (0, [.int (nI (sN R)), .int (nI mi), .int (nI (sF R)), .int (nI (sS R)), .int (nI (sL R)), .ref ak, .ref af, .ref ab, .ref aa])), (ak, aI G 10 (sK R)), (af, aI G 10 (sG R)), (ab, aI G 10 (sO R)), (aa, aI G 10 (sA R))] (fun u : Unit => True) (fun u => [(so, .inr (0, [.int (nI (sN (setU R a))), .int (nI mi), .int (nI (sF (setU R a))), .int (nI (sS (setU R a))), .int (nI (sL (setU R a))), .ref ak, .ref af, .ref ab, .ref aa])), (ak, aI G 10 (sK (setU R a))), (af, aI G 10 (sG (setU R a))), (ab, aI G 10 (sO (setU R a))), (aa, aI G 10 (sA (setU R a)))])) := by
  refine en (by decide +kernel) (Nat.le_of_ble_eq_true rfl) ?_
  intro p e s m below meth c ls H locs C hl hw
  have xx := C.1
  have xb := C.2.1
  have hw : Wd G (fA [(so, .inr (0, [.int (nI (sN R)), .int (nI mi), .int (nI (sF R)), .int (nI (sS R)), .int (nI (sL R)), .ref ak, .ref af, .ref ab, .ref aa])), (ak, aI G 10 (sK R)), (af, aI G 10 (sG R)), (ab, aI G 10 (sO R)), (aa, aI G 10 (sA R))]) s [(so, .inr (0, [.int (nI (sN R)), .int (nI mi), .int (nI (sF R)), .int (nI (sS R)), .int (nI (sL R)), .ref ak, .ref af, .ref ab, .ref aa])), (ak, aI G 10 (sK R)), (af, aI G 10 (sG R)), (ab, aI G 10 (sO R)), (aa, aI G 10 (sA R))] H locs := hw
  have hl : lv_has ls 2 [(0, .ref so), (1, .int (nI a))] := hl
  obtain ⟨hn, hf0, hpr, hA⟩ := id hR
  refine lv_aload_n xx xb dX0_setUp_0 rfl (lv_at hl 0 rfl) ?_
  refine lv_iload_n xx xb dX0_setUp_1 rfl (lv_at hl 1 rfl) ?_
  have hM := kX0_isThing l G so ak af ab aa mi R (nI a) ((a : Nat) : Int) (tN (by omega)) (by first | assumption | omega)
  refine cv_i C hw hM yvX0_isThing ml_X0_73 0 rfl rfl rfl [0, 1, 2, 3, 4] rfl rfl (fun _ => (rfl : ([so, ak, af, ab, aa] : List Nat) = [so, ak, af, ab, aa])) (by decide) ⟨Nat.zero_le _, Nat.zero_le _⟩ hl.1 rfl (Nat.le_of_ble_eq_true rfl) dX0_setUp_2 (fun r _ H locs hr hw => ?_)
  have hw : Wd G (fA [(so, .inr (0, [.int (nI (sN R)), .int (nI mi), .int (nI (sF R)), .int (nI (sS R)), .int (nI (sL R)), .ref ak, .ref af, .ref ab, .ref aa])), (ak, aI G 10 (sK R)), (af, aI G 10 (sG R)), (ab, aI G 10 (sO R)), (aa, aI G 10 (sA R))]) s [(so, .inr (0, [.int (nI (sN R)), .int (nI mi), .int (nI (sF R)), .int (nI (sS R)), .int (nI (sL R)), .ref ak, .ref af, .ref ab, .ref aa])), (ak, aI G 10 (sK R)), (af, aI G 10 (sG R)), (ab, aI G 10 (sO R)), (aa, aI G 10 (sA R))] H locs := hw
  subst hr
  refine lv_if_eq (tgt := 41) xx xb dX0_setUp_5 (by decide) (fun c_5 => ?_) (fun c_5 => ?_)
  · skip
    have c_5 := b0_c c_5
    exact absurd (And.intro (by omega) (by omega)) c_5
  · skip
    have c_5 := b1_c c_5
    refine lv_aload_n xx xb dX0_setUp_8 rfl (lv_at hl 0 rfl) ?_
    refine lv_dup xx xb dX0_setUp_9 rfl ?_
    refine m_get C hw 0 rfl fk_X0_35 rfl dX0_setUp_10 ?_
    refine re_i (nI (setF R 0)) rfl ?_
    refine lv_iconst (v := nI 1) xx xb dX0_setUp_13 (by decide) ?_
    refine lv_iload_n xx xb dX0_setUp_14 rfl (lv_at hl 1 rfl) ?_
    refine lv_ishl xx xb dX0_setUp_15 ?_
    refine re_i (nI (2 ^ a)) (shl1 (by omega)) ?_
    refine lv_ior xx xb dX0_setUp_16 ?_
    refine re_i (nI ((setF R 0) ||| (2 ^ a))) (or_N _ _) ?_
    refine m_put C hw 0 rfl rfl tyX0 tyX0_ok nmX0 fk_X0_35 rfl rfl rfl rfl (Nat.le_of_ble_eq_true rfl) dX0_setUp_17 (fun H locs hw => ?_)
    have hw : Wd G (fA [(so, .inr (0, [.int (nI (sN R)), .int (nI mi), .int (nI (sF R)), .int (nI (sS R)), .int (nI (sL R)), .ref ak, .ref af, .ref ab, .ref aa])), (ak, aI G 10 (sK R)), (af, aI G 10 (sG R)), (ab, aI G 10 (sO R)), (aa, aI G 10 (sA R))]) s [(so, .inr (0, [.int (nI (sN R)), .int (nI mi), .int (nI (sF R)), .int (nI ((setF R 0) ||| (2 ^ a))), .int (nI (sL R)), .ref ak, .ref af, .ref ab, .ref aa])), (ak, aI G 10 (sK R)), (af, aI G 10 (sG R)), (ab, aI G 10 (sO R)), (aa, aI G 10 (sA R))] H locs := hw
    refine lv_aload_n xx xb dX0_setUp_20 rfl (lv_at hl 0 rfl) ?_
    refine lv_dup xx xb dX0_setUp_21 rfl ?_
    refine m_get C hw 0 rfl fk_X0_38 rfl dX0_setUp_22 ?_
    refine re_i (nI (setF R 1)) rfl ?_
    refine lv_iconst (v := nI 1) xx xb dX0_setUp_25 (by decide) ?_
    refine lv_iload_n xx xb dX0_setUp_26 rfl (lv_at hl 1 rfl) ?_
    refine lv_ishl xx xb dX0_setUp_27 ?_
    refine re_i (nI (2 ^ a)) (shl1 (by omega)) ?_
    refine lv_iconst (v := (-1)) xx xb dX0_setUp_28 (by decide) ?_
    refine lv_ixor xx xb dX0_setUp_29 ?_
    refine lv_iand xx xb dX0_setUp_30 ?_
    refine re_i (nI (anN (setF R 1) (2 ^ a))) (an_N _ _) ?_
    refine m_put C hw 0 rfl rfl tyX0 tyX0_ok nmX0 fk_X0_38 rfl rfl rfl rfl (Nat.le_of_ble_eq_true rfl) dX0_setUp_31 (fun H locs hw => ?_)
    have hw : Wd G (fA [(so, .inr (0, [.int (nI (sN R)), .int (nI mi), .int (nI (sF R)), .int (nI (sS R)), .int (nI (sL R)), .ref ak, .ref af, .ref ab, .ref aa])), (ak, aI G 10 (sK R)), (af, aI G 10 (sG R)), (ab, aI G 10 (sO R)), (aa, aI G 10 (sA R))]) s [(so, .inr (0, [.int (nI (sN R)), .int (nI mi), .int (nI (sF R)), .int (nI ((setF R 0) ||| (2 ^ a))), .int (nI (anN (setF R 1) (2 ^ a))), .ref ak, .ref af, .ref ab, .ref aa])), (ak, aI G 10 (sK R)), (af, aI G 10 (sG R)), (ab, aI G 10 (sO R)), (aa, aI G 10 (sA R))] H locs := hw
    refine lv_aload_n xx xb dX0_setUp_34 rfl (lv_at hl 0 rfl) ?_
    refine m_get C hw 0 rfl fk_X0_25 rfl dX0_setUp_35 ?_
    refine lv_iload_n xx xb dX0_setUp_38 rfl (lv_at hl 1 rfl) ?_
    refine lv_iconst (v := nI 0) xx xb dX0_setUp_39 (by decide) ?_
    refine m_ast C hw 4 rfl a rfl (by omega) (by decide) (cN (upN (R 5) a 0)) (cN_u _ _ _) dX0_setUp_40 (fun H locs hw => ?_)
    have hw : Wd G (fA [(so, .inr (0, [.int (nI (sN R)), .int (nI mi), .int (nI (sF R)), .int (nI (sS R)), .int (nI (sL R)), .ref ak, .ref af, .ref ab, .ref aa])), (ak, aI G 10 (sK R)), (af, aI G 10 (sG R)), (ab, aI G 10 (sO R)), (aa, aI G 10 (sA R))]) s [(so, .inr (0, [.int (nI (sN R)), .int (nI mi), .int (nI (sF R)), .int (nI ((setF R 0) ||| (2 ^ a))), .int (nI (anN (setF R 1) (2 ^ a))), .ref ak, .ref af, .ref ab, .ref aa])), (ak, aI G 10 (sK R)), (af, aI G 10 (sG R)), (ab, aI G 10 (sO R)), (aa, aI G 10 (cN (upN (R 5) a 0)))] H locs := hw
    have hw : Wd G (fA [(so, .inr (0, [.int (nI (sN R)), .int (nI mi), .int (nI (sF R)), .int (nI (sS R)), .int (nI (sL R)), .ref ak, .ref af, .ref ab, .ref aa])), (ak, aI G 10 (sK R)), (af, aI G 10 (sG R)), (ab, aI G 10 (sO R)), (aa, aI G 10 (sA R))]) s [(so, .inr (0, [.int (nI (sN (setU R a))), .int (nI mi), .int (nI (sF (setU R a))), .int (nI (sS (setU R a))), .int (nI (sL (setU R a))), .ref ak, .ref af, .ref ab, .ref aa])), (ak, aI G 10 (sK (setU R a))), (af, aI G 10 (sG (setU R a))), (ab, aI G 10 (sO (setU R a))), (aa, aI G 10 (sA (setU R a)))] H locs := by rw [show sS (setU R a) = _ from setU_st ha, show sL (setU R a) = _ from setU_ly, show sA (setU R a) = _ from setU_ar]; exact hw
    exact rt_v C hw () trivial rfl dX0_setUp_41
set_option maxRecDepth 100000 in
set_option maxHeartbeats 4000000 in
theorem kX0_layDown (l : Launch) (G : GT) (so : Nat) (ak : Nat) (af : Nat) (ab : Nat) (aa : Nat) (nn : Nat) (mi : Nat) (fr : Nat) (st : Nat) (ly : Nat) (ff : Nat)  : Ct l yX0_layDown cX0_layDown 2 (none) 0 0 [.ref so, .int (nI ff)] G [(so, .inr (0, [.int (nI nn), .int (nI mi), .int (nI fr), .int (nI st), .int (nI ly), .ref ak, .ref af, .ref ab, .ref aa]))] (QV G [(so, .inr (0, [.int (nI nn), .int (nI mi), .int (nI fr), .int (nI st), .int (nI ly), .ref ak, .ref af, .ref ab, .ref aa]))] (fun u : Unit => True) (fun u => [(so, .inr (0, [.int (nI nn), .int (nI mi), .int (nI fr), .int (nI (anN st ff)), .int (nI (ly ||| ff)), .ref ak, .ref af, .ref ab, .ref aa]))])) := by
  refine en (by decide +kernel) (Nat.le_of_ble_eq_true rfl) ?_
  intro p e s m below meth c ls H locs C hl hw
  have xx := C.1
  have xb := C.2.1
  have hw : Wd G (fA [(so, .inr (0, [.int (nI nn), .int (nI mi), .int (nI fr), .int (nI st), .int (nI ly), .ref ak, .ref af, .ref ab, .ref aa]))]) s [(so, .inr (0, [.int (nI nn), .int (nI mi), .int (nI fr), .int (nI st), .int (nI ly), .ref ak, .ref af, .ref ab, .ref aa]))] H locs := hw
  have hl : lv_has ls 2 [(0, .ref so), (1, .int (nI ff))] := hl
  refine lv_aload_n xx xb dX0_layDown_0 rfl (lv_at hl 0 rfl) ?_
  refine lv_dup xx xb dX0_layDown_1 rfl ?_
  refine m_get C hw 0 rfl fk_X0_35 rfl dX0_layDown_2 ?_
  refine lv_iload_n xx xb dX0_layDown_5 rfl (lv_at hl 1 rfl) ?_
  refine lv_iconst (v := (-1)) xx xb dX0_layDown_6 (by decide) ?_
  refine lv_ixor xx xb dX0_layDown_7 ?_
  refine lv_iand xx xb dX0_layDown_8 ?_
  refine re_i (nI (anN st ff)) (an_N _ _) ?_
  refine m_put C hw 0 rfl rfl tyX0 tyX0_ok nmX0 fk_X0_35 rfl rfl rfl rfl (Nat.le_of_ble_eq_true rfl) dX0_layDown_9 (fun H locs hw => ?_)
  have hw : Wd G (fA [(so, .inr (0, [.int (nI nn), .int (nI mi), .int (nI fr), .int (nI st), .int (nI ly), .ref ak, .ref af, .ref ab, .ref aa]))]) s [(so, .inr (0, [.int (nI nn), .int (nI mi), .int (nI fr), .int (nI (anN st ff)), .int (nI ly), .ref ak, .ref af, .ref ab, .ref aa]))] H locs := hw
  refine lv_aload_n xx xb dX0_layDown_12 rfl (lv_at hl 0 rfl) ?_
  refine lv_dup xx xb dX0_layDown_13 rfl ?_
  refine m_get C hw 0 rfl fk_X0_38 rfl dX0_layDown_14 ?_
  refine lv_iload_n xx xb dX0_layDown_17 rfl (lv_at hl 1 rfl) ?_
  refine lv_ior xx xb dX0_layDown_18 ?_
  refine re_i (nI (ly ||| ff)) (or_N _ _) ?_
  refine m_put C hw 0 rfl rfl tyX0 tyX0_ok nmX0 fk_X0_38 rfl rfl rfl rfl (Nat.le_of_ble_eq_true rfl) dX0_layDown_19 (fun H locs hw => ?_)
  have hw : Wd G (fA [(so, .inr (0, [.int (nI nn), .int (nI mi), .int (nI fr), .int (nI st), .int (nI ly), .ref ak, .ref af, .ref ab, .ref aa]))]) s [(so, .inr (0, [.int (nI nn), .int (nI mi), .int (nI fr), .int (nI (anN st ff)), .int (nI (ly ||| ff)), .ref ak, .ref af, .ref ab, .ref aa]))] H locs := hw
  exact rt_v C hw () trivial rfl dX0_layDown_22
set_option maxRecDepth 100000 in
set_option maxHeartbeats 4000000 in
theorem kX0_caughtOn (l : Launch) (G : GT) (so : Nat) (ak : Nat) (af : Nat) (ab : Nat) (aa : Nat) (mi : Nat) (R : RT) (f : Nat) (v : Nat) (hR : OK R) (hf : f ≤ 10) (hv : v ≤ 9) : Ct l yX0_caughtOn cX0_caughtOn 5 (some .int) 1 22 [.ref so, .int (onI f), .int (nI v)] G [(so, .inr (0, [.int (nI (sN R)), .int (nI mi), .int (nI (sF R)), .int (nI (sS R)), .int (nI (sL R)), .ref ak, .ref af, .ref ab, .ref aa])), (ak, aI G 10 (sK R)), (af, aI G 10 (sG R)), (ab, aI G 10 (sO R)), (aa, aI G 10 (sA R))] (QI G [(so, .inr (0, [.int (nI (sN R)), .int (nI mi), .int (nI (sF R)), .int (nI (sS R)), .int (nI (sL R)), .ref ak, .ref af, .ref ab, .ref aa])), (ak, aI G 10 (sK R)), (af, aI G 10 (sG R)), (ab, aI G 10 (sO R)), (aa, aI G 10 (sA R))] (fun (r : Int32) (u : Unit) => r = nI (bs (shkF R f v) (R 0 0))) (fun u => [(so, .inr (0, [.int (nI (sN R)), .int (nI mi), .int (nI (sF R)), .int (nI (sS R)), .int (nI (sL R)), .ref ak, .ref af, .ref ab, .ref aa])), (ak, aI G 10 (sK R)), (af, aI G 10 (sG R)), (ab, aI G 10 (sO R)), (aa, aI G 10 (sA R))])) := by
  refine en (by decide +kernel) (Nat.le_of_ble_eq_true rfl) ?_
  intro p e s m below meth c ls H locs C hl hw
  have xx := C.1
  have xb := C.2.1
  have hw : Wd G (fA [(so, .inr (0, [.int (nI (sN R)), .int (nI mi), .int (nI (sF R)), .int (nI (sS R)), .int (nI (sL R)), .ref ak, .ref af, .ref ab, .ref aa])), (ak, aI G 10 (sK R)), (af, aI G 10 (sG R)), (ab, aI G 10 (sO R)), (aa, aI G 10 (sA R))]) s [(so, .inr (0, [.int (nI (sN R)), .int (nI mi), .int (nI (sF R)), .int (nI (sS R)), .int (nI (sL R)), .ref ak, .ref af, .ref ab, .ref aa])), (ak, aI G 10 (sK R)), (af, aI G 10 (sG R)), (ab, aI G 10 (sO R)), (aa, aI G 10 (sA R))] H locs := hw
  have hl : lv_has ls 5 [(0, .ref so), (1, .int (onI f)), (2, .int (nI v))] := hl
  obtain ⟨hn, hf0, hpr, hA⟩ := id hR
  refine lv_iconst (v := nI 0) xx xb dX0_caughtOn_0 (by decide) ?_
  refine lv_istore_n (lv' := [(3, .int (nI 0)), (0, .ref so), (1, .int (onI f)), (2, .int (nI v))]) xx xb dX0_caughtOn_1 rfl hl (by decide) rfl (fun ls hl => ?_)
  refine lv_iconst (v := nI 0) xx xb dX0_caughtOn_2 (by decide) ?_
  refine lv_istore (lv' := [(4, .int (nI 0)), (3, .int (nI 0)), (0, .ref so), (1, .int (onI f)), (2, .int (nI v))]) xx xb dX0_caughtOn_3 hl (by decide) rfl (fun ls hl => ?_)
  have L_5 : ∀ (fu : Nat) (i : Nat) (H : Heap) (locs : List Loc) (ls : Array Slot), 10 - i < fu → (i ≤ R 0 0) → Wd G (fA [(so, .inr (0, [.int (nI (sN R)), .int (nI mi), .int (nI (sF R)), .int (nI (sS R)), .int (nI (sL R)), .ref ak, .ref af, .ref ab, .ref aa])), (ak, aI G 10 (sK R)), (af, aI G 10 (sG R)), (ab, aI G 10 (sO R)), (aa, aI G 10 (sA R))]) s [(so, .inr (0, [.int (nI (sN R)), .int (nI mi), .int (nI (sF R)), .int (nI (sS R)), .int (nI (sL R)), .ref ak, .ref af, .ref ab, .ref aa])), (ak, aI G 10 (sK R)), (af, aI G 10 (sG R)), (ab, aI G 10 (sO R)), (aa, aI G 10 (sA R))] H locs → lv_has ls 5 [(0, .ref so), (1, .int (onI f)), (2, .int (nI v)), (3, .int (nI (bs (shkF R f v) i))), (4, .int (nI i))] → W p l e ({ frames := 1, cells := 0, slots := 0, locals := 22 }) s m (([.ref so, .int (onI f), .int (nI v)] : List Value).toArray) below meth c H locs 0 0 (MQ below (QI G [(so, .inr (0, [.int (nI (sN R)), .int (nI mi), .int (nI (sF R)), .int (nI (sS R)), .int (nI (sL R)), .ref ak, .ref af, .ref ab, .ref aa])), (ak, aI G 10 (sK R)), (af, aI G 10 (sG R)), (ab, aI G 10 (sO R)), (aa, aI G 10 (sA R))] (fun (r : Int32) (u : Unit) => r = nI (bs (shkF R f v) (R 0 0))) (fun u => [(so, .inr (0, [.int (nI (sN R)), .int (nI mi), .int (nI (sF R)), .int (nI (sS R)), .int (nI (sL R)), .ref ak, .ref af, .ref ab, .ref aa])), (ak, aI G 10 (sK R)), (af, aI G 10 (sG R)), (ab, aI G 10 (sO R)), (aa, aI G 10 (sA R))])) (([.ref so, .int (onI f), .int (nI v)] : List Value).toArray) s 0 0 (fA [(so, .inr (0, [.int (nI (sN R)), .int (nI mi), .int (nI (sF R)), .int (nI (sS R)), .int (nI (sL R)), .ref ak, .ref af, .ref ab, .ref aa])), (ak, aI G 10 (sK R)), (af, aI G 10 (sG R)), (ab, aI G 10 (sO R)), (aa, aI G 10 (sA R))])) (F0 m 5 ls []) := by
    intro fu
    induction fu with
    | zero => intro i H locs ls hfu; exact absurd hfu (Nat.not_lt_zero _)
    | succ fu ih_5 =>
      intro i H locs ls hfu hi hw hl
      refine lv_iload xx xb dX0_caughtOn_5 (lv_at hl 4 rfl) ?_
      refine lv_aload_n xx xb dX0_caughtOn_7 rfl (lv_at hl 0 rfl) ?_
      refine m_get C hw 0 rfl fk_X0_28 rfl dX0_caughtOn_8 ?_
      refine re_i (nI (R 0 0)) rfl ?_
      refine lv_icmp_ge (tgt := 57) xx xb dX0_caughtOn_11 (by decide) (fun c_11 => ?_) (fun c_11 => ?_)
      · skip
        have c_11 := le_c (tN (by omega)) (tN (by omega)) c_11
        refine lv_iload_n xx xb dX0_caughtOn_57 rfl (lv_at hl 3 rfl) ?_
        exact rt_i C hw () (by rw [show i = R 0 0 by omega]) rfl dX0_caughtOn_58
      · skip
        have c_11 := nle_c (tN (by omega)) (tN (by omega)) c_11
        obtain ⟨q1, q2, q3, q4, q5⟩ := hA i (by omega)
        have hg := gripF_le (R := R) (a := i) (by omega)
        refine lv_aload_n xx xb dX0_caughtOn_14 rfl (lv_at hl 0 rfl) ?_
        refine lv_iload xx xb dX0_caughtOn_15 (lv_at hl 4 rfl) ?_
        have hM := kX0_stands l G so ak af ab aa mi R (nI i) ((i : Nat) : Int) (tN (by omega)) (by first | assumption | omega)
        refine cv_i C hw hM yvX0_stands ml_X0_47 0 rfl rfl rfl [0, 1, 2, 3, 4] rfl rfl (fun _ => (rfl : ([so, ak, af, ab, aa] : List Nat) = [so, ak, af, ab, aa])) (by decide) ⟨Nat.zero_le _, Nat.zero_le _⟩ hl.1 rfl (Nat.le_of_ble_eq_true rfl) dX0_caughtOn_17 (fun r _ H locs hr hw => ?_)
        have hw : Wd G (fA [(so, .inr (0, [.int (nI (sN R)), .int (nI mi), .int (nI (sF R)), .int (nI (sS R)), .int (nI (sL R)), .ref ak, .ref af, .ref ab, .ref aa])), (ak, aI G 10 (sK R)), (af, aI G 10 (sG R)), (ab, aI G 10 (sO R)), (aa, aI G 10 (sA R))]) s [(so, .inr (0, [.int (nI (sN R)), .int (nI mi), .int (nI (sF R)), .int (nI (sS R)), .int (nI (sL R)), .ref ak, .ref af, .ref ab, .ref aa])), (ak, aI G 10 (sK R)), (af, aI G 10 (sG R)), (ab, aI G 10 (sO R)), (aa, aI G 10 (sA R))] H locs := hw
        subst hr
        refine re_i (if R 4 i = 0 then 1 else 0) (st_i (by omega)) ?_
        refine lv_if_eq (tgt := 51) xx xb dX0_caughtOn_20 (by decide) (fun c_20 => ?_) (fun c_20 => ?_)
        · skip
          have c_20 := b0_c c_20
          have hl : lv_has ls 5 [(0, .ref so), (1, .int (onI f)), (2, .int (nI v)), (3, .int (nI (bs (shkF R f v) (i + 1)))), (4, .int (nI i))] := by rw [← bs_orF (shkF_n (by omega)), Nat.or_zero]; exact hl
          refine lv_iinc (v := nI (i + 1)) (lv' := [(4, .int (nI (i + 1))), (0, .ref so), (1, .int (onI f)), (2, .int (nI v)), (3, .int (nI (bs (shkF R f v) (i + 1))))]) xx xb dX0_caughtOn_51 hl (k := 4) rfl (nI_add _ 1) (by decide) rfl (fun ls hl => ?_)
          refine lv_goto (tgt := 5) xx xb dX0_caughtOn_54 (by decide) ?_
          exact ih_5 (i + 1) H _ ls (by omega) (by omega) hw (lv_sub hl [1, 2, 3, 4, 0] rfl)
        · skip
          have c_20 := b1_c c_20
          refine lv_aload_n xx xb dX0_caughtOn_23 rfl (lv_at hl 0 rfl) ?_
          refine m_get C hw 0 rfl fk_X0_22 rfl dX0_caughtOn_24 ?_
          refine lv_iload xx xb dX0_caughtOn_27 (lv_at hl 4 rfl) ?_
          refine m_ald C hw 3 rfl i rfl (by omega) (by decide) dX0_caughtOn_29 ?_
          refine re_i (onI (R 3 i)) rfl ?_
          refine lv_iload_n xx xb dX0_caughtOn_30 rfl (lv_at hl 1 rfl) ?_
          refine lv_icmp_ne (tgt := 51) xx xb dX0_caughtOn_31 (by decide) (fun c_31 => ?_) (fun c_31 => ?_)
          · skip
            have c_31 := (mt (onI_inj (by omega) (by omega)).mpr c_31)
            have hl : lv_has ls 5 [(0, .ref so), (1, .int (onI f)), (2, .int (nI v)), (3, .int (nI (bs (shkF R f v) (i + 1)))), (4, .int (nI i))] := by rw [← bs_orF (shkF_n (by omega)), Nat.or_zero]; exact hl
            refine lv_iinc (v := nI (i + 1)) (lv' := [(4, .int (nI (i + 1))), (0, .ref so), (1, .int (onI f)), (2, .int (nI v)), (3, .int (nI (bs (shkF R f v) (i + 1))))]) xx xb dX0_caughtOn_51 hl (k := 4) rfl (nI_add _ 1) (by decide) rfl (fun ls hl => ?_)
            refine lv_goto (tgt := 5) xx xb dX0_caughtOn_54 (by decide) ?_
            exact ih_5 (i + 1) H _ ls (by omega) (by omega) hw (lv_sub hl [1, 2, 3, 4, 0] rfl)
          · skip
            have c_31 := (onI_inj (by omega) (by omega)).mp c_31
            refine lv_aload_n xx xb dX0_caughtOn_34 rfl (lv_at hl 0 rfl) ?_
            refine lv_iload xx xb dX0_caughtOn_35 (lv_at hl 4 rfl) ?_
            have hM := kX0_gripOf l G so ak af ab aa mi R i (by first | assumption | omega) (by first | assumption | omega)
            refine cv_i C hw hM yvX0_gripOf ml_X0_76 0 rfl rfl rfl [0, 1, 2, 3, 4] rfl rfl (fun _ => (rfl : ([so, ak, af, ab, aa] : List Nat) = [so, ak, af, ab, aa])) (by decide) ⟨Nat.zero_le _, Nat.zero_le _⟩ hl.1 rfl (Nat.le_of_ble_eq_true rfl) dX0_caughtOn_37 (fun r _ H locs hr hw => ?_)
            have hw : Wd G (fA [(so, .inr (0, [.int (nI (sN R)), .int (nI mi), .int (nI (sF R)), .int (nI (sS R)), .int (nI (sL R)), .ref ak, .ref af, .ref ab, .ref aa])), (ak, aI G 10 (sK R)), (af, aI G 10 (sG R)), (ab, aI G 10 (sO R)), (aa, aI G 10 (sA R))]) s [(so, .inr (0, [.int (nI (sN R)), .int (nI mi), .int (nI (sF R)), .int (nI (sS R)), .int (nI (sL R)), .ref ak, .ref af, .ref ab, .ref aa])), (ak, aI G 10 (sK R)), (af, aI G 10 (sG R)), (ab, aI G 10 (sO R)), (aa, aI G 10 (sA R))] H locs := hw
            subst hr
            refine lv_iload_n xx xb dX0_caughtOn_40 rfl (lv_at hl 2 rfl) ?_
            refine lv_icmp_le (tgt := 51) xx xb dX0_caughtOn_41 (by decide) (fun c_41 => ?_) (fun c_41 => ?_)
            · skip
              have c_41 := le_c (tN (by omega)) (tN (by omega)) c_41
              have hl : lv_has ls 5 [(0, .ref so), (1, .int (onI f)), (2, .int (nI v)), (3, .int (nI (bs (shkF R f v) (i + 1)))), (4, .int (nI i))] := by rw [← bs_orF (shkF_n (by omega)), Nat.or_zero]; exact hl
              refine lv_iinc (v := nI (i + 1)) (lv' := [(4, .int (nI (i + 1))), (0, .ref so), (1, .int (onI f)), (2, .int (nI v)), (3, .int (nI (bs (shkF R f v) (i + 1))))]) xx xb dX0_caughtOn_51 hl (k := 4) rfl (nI_add _ 1) (by decide) rfl (fun ls hl => ?_)
              refine lv_goto (tgt := 5) xx xb dX0_caughtOn_54 (by decide) ?_
              exact ih_5 (i + 1) H _ ls (by omega) (by omega) hw (lv_sub hl [1, 2, 3, 4, 0] rfl)
            · skip
              have c_41 := nle_c (tN (by omega)) (tN (by omega)) c_41
              refine lv_iload_n xx xb dX0_caughtOn_44 rfl (lv_at hl 3 rfl) ?_
              refine lv_iconst (v := nI 1) xx xb dX0_caughtOn_45 (by decide) ?_
              refine lv_iload xx xb dX0_caughtOn_46 (lv_at hl 4 rfl) ?_
              refine lv_ishl xx xb dX0_caughtOn_48 ?_
              refine re_i (nI (2 ^ i)) (shl1 (by omega)) ?_
              refine lv_ior xx xb dX0_caughtOn_49 ?_
              refine re_i (nI ((bs (shkF R f v) i) ||| (2 ^ i))) (or_N _ _) ?_
              refine re_i (nI (bs (shkF R f v) (i + 1))) (congrArg nI (bs_orT (shkF_iff.mpr (by omega)))) ?_
              refine lv_istore_n (lv' := [(3, .int (nI (bs (shkF R f v) (i + 1)))), (0, .ref so), (1, .int (onI f)), (2, .int (nI v)), (4, .int (nI i))]) xx xb dX0_caughtOn_50 rfl hl (by decide) rfl (fun ls hl => ?_)
              refine lv_iinc (v := nI (i + 1)) (lv' := [(4, .int (nI (i + 1))), (3, .int (nI (bs (shkF R f v) (i + 1)))), (0, .ref so), (1, .int (onI f)), (2, .int (nI v))]) xx xb dX0_caughtOn_51 hl (k := 4) rfl (nI_add _ 1) (by decide) rfl (fun ls hl => ?_)
              refine lv_goto (tgt := 5) xx xb dX0_caughtOn_54 (by decide) ?_
              exact ih_5 (i + 1) H _ ls (by omega) (by omega) hw (lv_sub hl [2, 3, 4, 1, 0] rfl)
  exact L_5 (_ + 1) 0 H _ ls (Nat.lt_succ_self _) (by omega) hw (lv_sub hl [2, 3, 4, 1, 0] rfl)
set_option maxRecDepth 100000 in
set_option maxHeartbeats 4000000 in
theorem kX0_pullThing (l : Launch) (G : GT) (so : Nat) (ak : Nat) (af : Nat) (ab : Nat) (aa : Nat) (mi : Nat) (R : RT) (a : Nat) (v : Nat) (hR : OK R) (ha : a < R 0 0) (h4 : R 4 a = 0) (hv : v ≤ 9) : Ct l yX0_pullThing cX0_pullThing 4 (some .int) 2 46 [.ref so, .int (nI a), .int (nI v)] G [(so, .inr (0, [.int (nI (sN R)), .int (nI mi), .int (nI (sF R)), .int (nI (sS R)), .int (nI (sL R)), .ref ak, .ref af, .ref ab, .ref aa])), (ak, aI G 10 (sK R)), (af, aI G 10 (sG R)), (ab, aI G 10 (sO R)), (aa, aI G 10 (sA R))] (QI G [(so, .inr (0, [.int (nI (sN R)), .int (nI mi), .int (nI (sF R)), .int (nI (sS R)), .int (nI (sL R)), .ref ak, .ref af, .ref ab, .ref aa])), (ak, aI G 10 (sK R)), (af, aI G 10 (sG R)), (ab, aI G 10 (sO R)), (aa, aI G 10 (sA R))] (fun (r : Int32) (u : Unit) => r = nI (bs (shkF R a v) (R 0 0))) (fun u => [(so, .inr (0, [.int (nI (sN (pulF R a v))), .int (nI mi), .int (nI (sF (pulF R a v))), .int (nI (sS (pulF R a v))), .int (nI (sL (pulF R a v))), .ref ak, .ref af, .ref ab, .ref aa])), (ak, aI G 10 (sK (pulF R a v))), (af, aI G 10 (sG (pulF R a v))), (ab, aI G 10 (sO (pulF R a v))), (aa, aI G 10 (sA (pulF R a v)))])) := by
  refine en (by decide +kernel) (Nat.le_of_ble_eq_true rfl) ?_
  intro p e s m below meth c ls H locs C hl hw
  have xx := C.1
  have xb := C.2.1
  have hw : Wd G (fA [(so, .inr (0, [.int (nI (sN R)), .int (nI mi), .int (nI (sF R)), .int (nI (sS R)), .int (nI (sL R)), .ref ak, .ref af, .ref ab, .ref aa])), (ak, aI G 10 (sK R)), (af, aI G 10 (sG R)), (ab, aI G 10 (sO R)), (aa, aI G 10 (sA R))]) s [(so, .inr (0, [.int (nI (sN R)), .int (nI mi), .int (nI (sF R)), .int (nI (sS R)), .int (nI (sL R)), .ref ak, .ref af, .ref ab, .ref aa])), (ak, aI G 10 (sK R)), (af, aI G 10 (sG R)), (ab, aI G 10 (sO R)), (aa, aI G 10 (sA R))] H locs := hw
  have hl : lv_has ls 4 [(0, .ref so), (1, .int (nI a)), (2, .int (nI v))] := hl
  obtain ⟨hn, hf0, hpr, hA⟩ := id hR
  refine lv_aload_n xx xb dX0_pullThing_0 rfl (lv_at hl 0 rfl) ?_
  refine lv_iload_n xx xb dX0_pullThing_1 rfl (lv_at hl 1 rfl) ?_
  refine re_i (onI a) ((onI_lt (by omega)).symm) ?_
  refine lv_iload_n xx xb dX0_pullThing_2 rfl (lv_at hl 2 rfl) ?_
  have hM := kX0_caughtOn l G so ak af ab aa mi R a v (by first | assumption | omega) (by first | assumption | omega) (by first | assumption | omega)
  refine cv_i C hw hM yvX0_caughtOn ml_X0_79 0 rfl rfl rfl [0, 1, 2, 3, 4] rfl rfl (fun _ => (rfl : ([so, ak, af, ab, aa] : List Nat) = [so, ak, af, ab, aa])) (by decide) ⟨Nat.zero_le _, Nat.zero_le _⟩ hl.1 rfl (Nat.le_of_ble_eq_true rfl) dX0_pullThing_3 (fun r _ H locs hr hw => ?_)
  have hw : Wd G (fA [(so, .inr (0, [.int (nI (sN R)), .int (nI mi), .int (nI (sF R)), .int (nI (sS R)), .int (nI (sL R)), .ref ak, .ref af, .ref ab, .ref aa])), (ak, aI G 10 (sK R)), (af, aI G 10 (sG R)), (ab, aI G 10 (sO R)), (aa, aI G 10 (sA R))]) s [(so, .inr (0, [.int (nI (sN R)), .int (nI mi), .int (nI (sF R)), .int (nI (sS R)), .int (nI (sL R)), .ref ak, .ref af, .ref ab, .ref aa])), (ak, aI G 10 (sK R)), (af, aI G 10 (sG R)), (ab, aI G 10 (sO R)), (aa, aI G 10 (sA R))] H locs := hw
  subst hr
  refine lv_istore_n (lv' := [(3, .int (nI (bs (shkF R a v) (R 0 0)))), (0, .ref so), (1, .int (nI a)), (2, .int (nI v))]) xx xb dX0_pullThing_6 rfl hl (by decide) rfl (fun ls hl => ?_)
  refine lv_aload_n xx xb dX0_pullThing_7 rfl (lv_at hl 1 rfl) ?_
  refine lv_iload_n xx xb dX0_pullThing_8 rfl (lv_at hl 2 rfl) ?_
  have hM := kX0_isThing l G so ak af ab aa mi R (nI a) ((a : Nat) : Int) (tN (by omega)) (by first | assumption | omega)
  refine cv_i C hw hM yvX0_isThing ml_X0_73 0 rfl rfl rfl [0, 1, 2, 3, 4] rfl rfl (fun _ => (rfl : ([so, ak, af, ab, aa] : List Nat) = [so, ak, af, ab, aa])) (by decide) ⟨Nat.zero_le _, Nat.zero_le _⟩ hl.1 rfl (Nat.le_of_ble_eq_true rfl) dX0_pullThing_9 (fun r _ H locs hr hw => ?_)
  have hw : Wd G (fA [(so, .inr (0, [.int (nI (sN R)), .int (nI mi), .int (nI (sF R)), .int (nI (sS R)), .int (nI (sL R)), .ref ak, .ref af, .ref ab, .ref aa])), (ak, aI G 10 (sK R)), (af, aI G 10 (sG R)), (ab, aI G 10 (sO R)), (aa, aI G 10 (sA R))]) s [(so, .inr (0, [.int (nI (sN R)), .int (nI mi), .int (nI (sF R)), .int (nI (sS R)), .int (nI (sL R)), .ref ak, .ref af, .ref ab, .ref aa])), (ak, aI G 10 (sK R)), (af, aI G 10 (sG R)), (ab, aI G 10 (sO R)), (aa, aI G 10 (sA R))] H locs := hw
  subst hr
  refine lv_if_eq (tgt := 29) xx xb dX0_pullThing_12 (by decide) (fun c_12 => ?_) (fun c_12 => ?_)
  · skip
    have c_12 := b0_c c_12
    exact absurd (And.intro (by omega) (by omega)) c_12
  · skip
    have c_12 := b1_c c_12
    refine lv_aload_n xx xb dX0_pullThing_15 rfl (lv_at hl 1 rfl) ?_
    refine lv_dup xx xb dX0_pullThing_16 rfl ?_
    refine m_get C hw 0 rfl fk_X0_35 rfl dX0_pullThing_17 ?_
    refine re_i (nI (setF R 0)) rfl ?_
    refine lv_iconst (v := nI 1) xx xb dX0_pullThing_20 (by decide) ?_
    refine lv_iload_n xx xb dX0_pullThing_21 rfl (lv_at hl 2 rfl) ?_
    refine lv_ishl xx xb dX0_pullThing_22 ?_
    refine re_i (nI (2 ^ a)) (shl1 (by omega)) ?_
    refine lv_iconst (v := (-1)) xx xb dX0_pullThing_23 (by decide) ?_
    refine lv_ixor xx xb dX0_pullThing_24 ?_
    refine lv_iand xx xb dX0_pullThing_25 ?_
    refine re_i (nI (anN (setF R 0) (2 ^ a))) (an_N _ _) ?_
    refine m_put C hw 0 rfl rfl tyX0 tyX0_ok nmX0 fk_X0_35 rfl rfl rfl rfl (Nat.le_of_ble_eq_true rfl) dX0_pullThing_26 (fun H locs hw => ?_)
    have hw : Wd G (fA [(so, .inr (0, [.int (nI (sN R)), .int (nI mi), .int (nI (sF R)), .int (nI (sS R)), .int (nI (sL R)), .ref ak, .ref af, .ref ab, .ref aa])), (ak, aI G 10 (sK R)), (af, aI G 10 (sG R)), (ab, aI G 10 (sO R)), (aa, aI G 10 (sA R))]) s [(so, .inr (0, [.int (nI (sN R)), .int (nI mi), .int (nI (sF R)), .int (nI (anN (setF R 0) (2 ^ a))), .int (nI (sL R)), .ref ak, .ref af, .ref ab, .ref aa])), (ak, aI G 10 (sK R)), (af, aI G 10 (sG R)), (ab, aI G 10 (sO R)), (aa, aI G 10 (sA R))] H locs := hw
    refine lv_aload_n xx xb dX0_pullThing_29 rfl (lv_at hl 1 rfl) ?_
    refine lv_iload_n xx xb dX0_pullThing_30 rfl (lv_at hl 0 rfl) ?_
    have hM := kX0_layDown l G so ak af ab aa (sN R) mi (sF R) (anN (setF R 0) (2 ^ a)) (sL R) (bs (shkF R a v) (R 0 0)) 
    refine cv_v C hw hM yvX0_layDown ml_X0_82 0 rfl rfl rfl [0] rfl rfl (fun _ => (rfl : ([so] : List Nat) = [so])) (by decide) ⟨Nat.zero_le _, Nat.zero_le _⟩ hl.1 rfl (Nat.le_of_ble_eq_true rfl) dX0_pullThing_31 (fun _ H locs hr hw => ?_)
    have hw : Wd G (fA [(so, .inr (0, [.int (nI (sN R)), .int (nI mi), .int (nI (sF R)), .int (nI (sS R)), .int (nI (sL R)), .ref ak, .ref af, .ref ab, .ref aa])), (ak, aI G 10 (sK R)), (af, aI G 10 (sG R)), (ab, aI G 10 (sO R)), (aa, aI G 10 (sA R))]) s [(so, .inr (0, [.int (nI (sN R)), .int (nI mi), .int (nI (sF R)), .int (nI (anN (anN (setF R 0) (2 ^ a)) (bs (shkF R a v) (R 0 0)))), .int (nI ((sL R) ||| (bs (shkF R a v) (R 0 0)))), .ref ak, .ref af, .ref ab, .ref aa])), (ak, aI G 10 (sK R)), (af, aI G 10 (sG R)), (ab, aI G 10 (sO R)), (aa, aI G 10 (sA R))] H locs := hw
    refine lv_iload_n xx xb dX0_pullThing_34 rfl (lv_at hl 0 rfl) ?_
    have hw : Wd G (fA [(so, .inr (0, [.int (nI (sN R)), .int (nI mi), .int (nI (sF R)), .int (nI (sS R)), .int (nI (sL R)), .ref ak, .ref af, .ref ab, .ref aa])), (ak, aI G 10 (sK R)), (af, aI G 10 (sG R)), (ab, aI G 10 (sO R)), (aa, aI G 10 (sA R))]) s [(so, .inr (0, [.int (nI (sN (pulF R a v))), .int (nI mi), .int (nI (sF (pulF R a v))), .int (nI (sS (pulF R a v))), .int (nI (sL (pulF R a v))), .ref ak, .ref af, .ref ab, .ref aa])), (ak, aI G 10 (sK (pulF R a v))), (af, aI G 10 (sG (pulF R a v))), (ab, aI G 10 (sO (pulF R a v))), (aa, aI G 10 (sA (pulF R a v)))] H locs := by rw [show sS (pulF R a v) = _ from pul_sT hn (by omega), show sL (pulF R a v) = _ from pul_ly (fun _ => h4), pul_fl (show a < 10 by omega)]; exact hw
    exact rt_i C hw () rfl rfl dX0_pullThing_35
set_option maxRecDepth 100000 in
set_option maxHeartbeats 4000000 in
theorem kX0_pullFloor (l : Launch) (G : GT) (so : Nat) (ak : Nat) (af : Nat) (ab : Nat) (aa : Nat) (mi : Nat) (R : RT) (v : Nat) (hR : OK R) (hv : v ≤ 9) : Ct l yX0_pullFloor cX0_pullFloor 3 (some .int) 2 46 [.ref so, .int (nI v)] G [(so, .inr (0, [.int (nI (sN R)), .int (nI mi), .int (nI (sF R)), .int (nI (sS R)), .int (nI (sL R)), .ref ak, .ref af, .ref ab, .ref aa])), (ak, aI G 10 (sK R)), (af, aI G 10 (sG R)), (ab, aI G 10 (sO R)), (aa, aI G 10 (sA R))] (QI G [(so, .inr (0, [.int (nI (sN R)), .int (nI mi), .int (nI (sF R)), .int (nI (sS R)), .int (nI (sL R)), .ref ak, .ref af, .ref ab, .ref aa])), (ak, aI G 10 (sK R)), (af, aI G 10 (sG R)), (ab, aI G 10 (sO R)), (aa, aI G 10 (sA R))] (fun (r : Int32) (u : Unit) => r = nI (bs (shkF R 10 v) (R 0 0))) (fun u => [(so, .inr (0, [.int (nI (sN (pulF R 10 v))), .int (nI mi), .int (nI (sF (pulF R 10 v))), .int (nI (sS (pulF R 10 v))), .int (nI (sL (pulF R 10 v))), .ref ak, .ref af, .ref ab, .ref aa])), (ak, aI G 10 (sK (pulF R 10 v))), (af, aI G 10 (sG (pulF R 10 v))), (ab, aI G 10 (sO (pulF R 10 v))), (aa, aI G 10 (sA (pulF R 10 v)))])) := by
  refine en (by decide +kernel) (Nat.le_of_ble_eq_true rfl) ?_
  intro p e s m below meth c ls H locs C hl hw
  have xx := C.1
  have xb := C.2.1
  have hw : Wd G (fA [(so, .inr (0, [.int (nI (sN R)), .int (nI mi), .int (nI (sF R)), .int (nI (sS R)), .int (nI (sL R)), .ref ak, .ref af, .ref ab, .ref aa])), (ak, aI G 10 (sK R)), (af, aI G 10 (sG R)), (ab, aI G 10 (sO R)), (aa, aI G 10 (sA R))]) s [(so, .inr (0, [.int (nI (sN R)), .int (nI mi), .int (nI (sF R)), .int (nI (sS R)), .int (nI (sL R)), .ref ak, .ref af, .ref ab, .ref aa])), (ak, aI G 10 (sK R)), (af, aI G 10 (sG R)), (ab, aI G 10 (sO R)), (aa, aI G 10 (sA R))] H locs := hw
  have hl : lv_has ls 3 [(0, .ref so), (1, .int (nI v))] := hl
  obtain ⟨hn, hf0, hpr, hA⟩ := id hR
  refine lv_aload_n xx xb dX0_pullFloor_0 rfl (lv_at hl 0 rfl) ?_
  refine lv_bipush (v := (-9)) xx xb dX0_pullFloor_1 (by decide) ?_
  refine lv_iload_n xx xb dX0_pullFloor_3 rfl (lv_at hl 1 rfl) ?_
  have hM := kX0_caughtOn l G so ak af ab aa mi R 10 v (by first | assumption | omega) (by first | assumption | omega) (by first | assumption | omega)
  refine cv_i C hw hM yvX0_caughtOn ml_X0_79 0 rfl rfl rfl [0, 1, 2, 3, 4] rfl rfl (fun _ => (rfl : ([so, ak, af, ab, aa] : List Nat) = [so, ak, af, ab, aa])) (by decide) ⟨Nat.zero_le _, Nat.zero_le _⟩ hl.1 rfl (Nat.le_of_ble_eq_true rfl) dX0_pullFloor_4 (fun r _ H locs hr hw => ?_)
  have hw : Wd G (fA [(so, .inr (0, [.int (nI (sN R)), .int (nI mi), .int (nI (sF R)), .int (nI (sS R)), .int (nI (sL R)), .ref ak, .ref af, .ref ab, .ref aa])), (ak, aI G 10 (sK R)), (af, aI G 10 (sG R)), (ab, aI G 10 (sO R)), (aa, aI G 10 (sA R))]) s [(so, .inr (0, [.int (nI (sN R)), .int (nI mi), .int (nI (sF R)), .int (nI (sS R)), .int (nI (sL R)), .ref ak, .ref af, .ref ab, .ref aa])), (ak, aI G 10 (sK R)), (af, aI G 10 (sG R)), (ab, aI G 10 (sO R)), (aa, aI G 10 (sA R))] H locs := hw
  subst hr
  refine lv_istore_n (lv' := [(2, .int (nI (bs (shkF R 10 v) (R 0 0)))), (0, .ref so), (1, .int (nI v))]) xx xb dX0_pullFloor_7 rfl hl (by decide) rfl (fun ls hl => ?_)
  refine lv_aload_n xx xb dX0_pullFloor_8 rfl (lv_at hl 1 rfl) ?_
  refine lv_iconst (v := nI 0) xx xb dX0_pullFloor_9 (by decide) ?_
  refine m_put C hw 0 rfl rfl tyX0 tyX0_ok nmX0 fk_X0_9 rfl rfl rfl rfl (Nat.le_of_ble_eq_true rfl) dX0_pullFloor_10 (fun H locs hw => ?_)
  have hw : Wd G (fA [(so, .inr (0, [.int (nI (sN R)), .int (nI mi), .int (nI (sF R)), .int (nI (sS R)), .int (nI (sL R)), .ref ak, .ref af, .ref ab, .ref aa])), (ak, aI G 10 (sK R)), (af, aI G 10 (sG R)), (ab, aI G 10 (sO R)), (aa, aI G 10 (sA R))]) s [(so, .inr (0, [.int (nI (sN R)), .int (nI mi), .int (nI 0), .int (nI (sS R)), .int (nI (sL R)), .ref ak, .ref af, .ref ab, .ref aa])), (ak, aI G 10 (sK R)), (af, aI G 10 (sG R)), (ab, aI G 10 (sO R)), (aa, aI G 10 (sA R))] H locs := hw
  refine lv_aload_n xx xb dX0_pullFloor_13 rfl (lv_at hl 1 rfl) ?_
  refine lv_iload_n xx xb dX0_pullFloor_14 rfl (lv_at hl 0 rfl) ?_
  have hM := kX0_layDown l G so ak af ab aa (sN R) mi 0 (sS R) (sL R) (bs (shkF R 10 v) (R 0 0)) 
  refine cv_v C hw hM yvX0_layDown ml_X0_82 0 rfl rfl rfl [0] rfl rfl (fun _ => (rfl : ([so] : List Nat) = [so])) (by decide) ⟨Nat.zero_le _, Nat.zero_le _⟩ hl.1 rfl (Nat.le_of_ble_eq_true rfl) dX0_pullFloor_15 (fun _ H locs hr hw => ?_)
  have hw : Wd G (fA [(so, .inr (0, [.int (nI (sN R)), .int (nI mi), .int (nI (sF R)), .int (nI (sS R)), .int (nI (sL R)), .ref ak, .ref af, .ref ab, .ref aa])), (ak, aI G 10 (sK R)), (af, aI G 10 (sG R)), (ab, aI G 10 (sO R)), (aa, aI G 10 (sA R))]) s [(so, .inr (0, [.int (nI (sN R)), .int (nI mi), .int (nI 0), .int (nI (anN (sS R) (bs (shkF R 10 v) (R 0 0)))), .int (nI ((sL R) ||| (bs (shkF R 10 v) (R 0 0)))), .ref ak, .ref af, .ref ab, .ref aa])), (ak, aI G 10 (sK R)), (af, aI G 10 (sG R)), (ab, aI G 10 (sO R)), (aa, aI G 10 (sA R))] H locs := hw
  refine lv_iload_n xx xb dX0_pullFloor_18 rfl (lv_at hl 0 rfl) ?_
  have hw : Wd G (fA [(so, .inr (0, [.int (nI (sN R)), .int (nI mi), .int (nI (sF R)), .int (nI (sS R)), .int (nI (sL R)), .ref ak, .ref af, .ref ab, .ref aa])), (ak, aI G 10 (sK R)), (af, aI G 10 (sG R)), (ab, aI G 10 (sO R)), (aa, aI G 10 (sA R))]) s [(so, .inr (0, [.int (nI (sN (pulF R 10 v))), .int (nI mi), .int (nI (sF (pulF R 10 v))), .int (nI (sS (pulF R 10 v))), .int (nI (sL (pulF R 10 v))), .ref ak, .ref af, .ref ab, .ref aa])), (ak, aI G 10 (sK (pulF R 10 v))), (af, aI G 10 (sG (pulF R 10 v))), (ab, aI G 10 (sO (pulF R 10 v))), (aa, aI G 10 (sA (pulF R 10 v)))] H locs := by rw [show sS (pulF R 10 v) = _ from pul_sF hn, show sL (pulF R 10 v) = _ from pul_ly (fun q => by omega)]; exact hw
  exact rt_i C hw () rfl rfl dX0_pullFloor_19
set_option maxRecDepth 100000 in
set_option maxHeartbeats 4000000 in
theorem kX0_hasTimeFor (l : Launch) (G : GT) (so : Nat) (ak : Nat) (af : Nat) (ab : Nat) (aa : Nat) (mi : Nat) (R : RT) (x : Int32) (xz : Int) (h_x : x.toInt = xz) (hm : mi ≤ 999) (hx2 : 1 ≤ xz ∧ xz ≤ 99) : Ct l yX0_hasTimeFor cX0_hasTimeFor 2 (some .boolean) 0 0 [.ref so, .int x] G [(so, .inr (0, [.int (nI (sN R)), .int (nI mi), .int (nI (sF R)), .int (nI (sS R)), .int (nI (sL R)), .ref ak, .ref af, .ref ab, .ref aa])), (ak, aI G 10 (sK R)), (af, aI G 10 (sG R)), (ab, aI G 10 (sO R)), (aa, aI G 10 (sA R))] (QI G [(so, .inr (0, [.int (nI (sN R)), .int (nI mi), .int (nI (sF R)), .int (nI (sS R)), .int (nI (sL R)), .ref ak, .ref af, .ref ab, .ref aa])), (ak, aI G 10 (sK R)), (af, aI G 10 (sG R)), (ab, aI G 10 (sO R)), (aa, aI G 10 (sA R))] (fun (r : Int32) (u : Unit) => r = if (mi : Int) + xz ≤ 999 then 1 else 0) (fun u => [(so, .inr (0, [.int (nI (sN R)), .int (nI mi), .int (nI (sF R)), .int (nI (sS R)), .int (nI (sL R)), .ref ak, .ref af, .ref ab, .ref aa])), (ak, aI G 10 (sK R)), (af, aI G 10 (sG R)), (ab, aI G 10 (sO R)), (aa, aI G 10 (sA R))])) := by
  refine en (by decide +kernel) (Nat.le_of_ble_eq_true rfl) ?_
  intro p e s m below meth c ls H locs C hl hw
  have xx := C.1
  have xb := C.2.1
  have hw : Wd G (fA [(so, .inr (0, [.int (nI (sN R)), .int (nI mi), .int (nI (sF R)), .int (nI (sS R)), .int (nI (sL R)), .ref ak, .ref af, .ref ab, .ref aa])), (ak, aI G 10 (sK R)), (af, aI G 10 (sG R)), (ab, aI G 10 (sO R)), (aa, aI G 10 (sA R))]) s [(so, .inr (0, [.int (nI (sN R)), .int (nI mi), .int (nI (sF R)), .int (nI (sS R)), .int (nI (sL R)), .ref ak, .ref af, .ref ab, .ref aa])), (ak, aI G 10 (sK R)), (af, aI G 10 (sG R)), (ab, aI G 10 (sO R)), (aa, aI G 10 (sA R))] H locs := hw
  have hl : lv_has ls 2 [(0, .ref so), (1, .int x)] := hl
  refine lv_aload_n xx xb dX0_hasTimeFor_0 rfl (lv_at hl 0 rfl) ?_
  refine m_get C hw 0 rfl fk_X0_32 rfl dX0_hasTimeFor_1 ?_
  refine lv_sipush (v := nI 999) xx xb dX0_hasTimeFor_4 (by decide) ?_
  refine lv_iload_n xx xb dX0_hasTimeFor_7 rfl (lv_at hl 1 rfl) ?_
  refine re_i (nI xz.toNat) (ofT h_x (by omega) (by omega)) ?_
  refine lv_isub xx xb dX0_hasTimeFor_8 ?_
  refine re_i (nI (999 - xz.toNat)) (pk_sub (by omega)) ?_
  refine lv_icmp_gt (tgt := 16) xx xb dX0_hasTimeFor_9 (by decide) (fun c_9 => ?_) (fun c_9 => ?_)
  · skip
    have c_9 := lt_c (tN (by omega)) (tN (by omega)) c_9
    refine lv_iconst (v := nI 0) xx xb dX0_hasTimeFor_16 (by decide) ?_
    exact rt_z C hw () (Or.inl rfl) (by first | exact r1 (by omega) | exact r0 (by omega)) rfl dX0_hasTimeFor_17
  · skip
    have c_9 := nlt_c (tN (by omega)) (tN (by omega)) c_9
    refine lv_iconst (v := nI 1) xx xb dX0_hasTimeFor_12 (by decide) ?_
    refine lv_goto (tgt := 17) xx xb dX0_hasTimeFor_13 (by decide) ?_
    exact rt_z C hw () (Or.inr rfl) (by first | exact r1 (by omega) | exact r0 (by omega)) rfl dX0_hasTimeFor_17
