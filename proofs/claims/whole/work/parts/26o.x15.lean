def sch (k j : Nat) : Int32 := (sByt.getD k []).getD j 0
theorem sl_4 : ∀ k, k < 5 → sLen.getD k 0 ≤ 4 := by decide +kernel
theorem sch_3 : ∀ k, k < 5 → ∀ j, j < 4 → j < sLen.getD k 0 → (sch k j = 107 ∨ sch k j = 100 ∨ sch k j = 59) := by decide +kernel
theorem sch_c {k j : Nat} (hk : k < 5) (hj : j < sLen.getD k 0) : ((sch k j &&& nI 255).toUInt32 % 65536).toInt32 = sch k j := by
  have h4 := sl_4 k hk
  rcases sch_3 k hk j (by omega) hj with e | e | e <;> rw [e] <;> decide +kernel
theorem sch_n {k j : Nat} (hk : k < 5) (hj : j < sLen.getD k 0) : narrow .char (.int (sch k j)) = .int (sch k j) := by
  have h4 := sl_4 k hk
  rcases sch_3 k hk j (by omega) hj with e | e | e <;> rw [e] <;> rfl
set_option maxRecDepth 100000 in
set_option maxHeartbeats 4000000 in
theorem kJ3_checkIndex_8e157_n (l : Launch) (G : GT) (i : Nat) (n : Nat) (tf : Nat) (hin : i < n) (hn : n ≤ 100) : Ct l yJ3_checkIndex_8e157 cJ3_checkIndex_8e157 3 (some .int) 0 0 [.int (nI i), .int (nI n), .null] G [] (QI G [] (fun (r : Int32) (u : Unit) => r = nI i) (fun u => [])) := by
  refine en (by decide +kernel) (Nat.le_of_ble_eq_true rfl) ?_
  intro p e s m below meth c ls H locs C hl hw
  have xx := C.1
  have xb := C.2.1
  have hw : Wd G (fA []) s [] H locs := hw
  have hl : lv_has ls 3 [(0, .int (nI i)), (1, .int (nI n)), (2, .null)] := hl
  refine lv_iload_n xx xb dJ3_checkIndex_8e157_0 rfl (lv_at hl 0 rfl) ?_
  refine lv_if_lt (tgt := 9) xx xb dJ3_checkIndex_8e157_1 (by decide) (fun c_1 => ?_) (fun c_1 => ?_)
  · skip
    have c_1 := lt_c (tN (by omega)) Int32.toInt_zero c_1
    exact absurd c_1 (by omega)
  · skip
    have c_1 := nlt_c (tN (by omega)) Int32.toInt_zero c_1
    refine lv_iload_n xx xb dJ3_checkIndex_8e157_4 rfl (lv_at hl 0 rfl) ?_
    refine lv_iload_n xx xb dJ3_checkIndex_8e157_5 rfl (lv_at hl 1 rfl) ?_
    refine lv_icmp_lt (tgt := 16) xx xb dJ3_checkIndex_8e157_6 (by decide) (fun c_6 => ?_) (fun c_6 => ?_)
    · skip
      have c_6 := lt_c (tN (by omega)) (tN (by omega)) c_6
      refine lv_iload_n xx xb dJ3_checkIndex_8e157_16 rfl (lv_at hl 0 rfl) ?_
      exact rt_i C hw () rfl rfl dJ3_checkIndex_8e157_17
    · skip
      have c_6 := nlt_c (tN (by omega)) (tN (by omega)) c_6
      exact absurd c_6 (by omega)
set_option maxRecDepth 100000 in
set_option maxHeartbeats 4000000 in
theorem kJ3_checkIndex_8e157_r (l : Launch) (G : GT) (i : Nat) (n : Nat) (tf : Nat) (hin : i < n) (hn : n ≤ 100) : Ct l yJ3_checkIndex_8e157 cJ3_checkIndex_8e157 3 (some .int) 0 0 [.int (nI i), .int (nI n), .ref tf] G [] (QI G [] (fun (r : Int32) (u : Unit) => r = nI i) (fun u => [])) := by
  refine en (by decide +kernel) (Nat.le_of_ble_eq_true rfl) ?_
  intro p e s m below meth c ls H locs C hl hw
  have xx := C.1
  have xb := C.2.1
  have hw : Wd G (fA []) s [] H locs := hw
  have hl : lv_has ls 3 [(0, .int (nI i)), (1, .int (nI n)), (2, .ref tf)] := hl
  refine lv_iload_n xx xb dJ3_checkIndex_8e157_0 rfl (lv_at hl 0 rfl) ?_
  refine lv_if_lt (tgt := 9) xx xb dJ3_checkIndex_8e157_1 (by decide) (fun c_1 => ?_) (fun c_1 => ?_)
  · skip
    have c_1 := lt_c (tN (by omega)) Int32.toInt_zero c_1
    exact absurd c_1 (by omega)
  · skip
    have c_1 := nlt_c (tN (by omega)) Int32.toInt_zero c_1
    refine lv_iload_n xx xb dJ3_checkIndex_8e157_4 rfl (lv_at hl 0 rfl) ?_
    refine lv_iload_n xx xb dJ3_checkIndex_8e157_5 rfl (lv_at hl 1 rfl) ?_
    refine lv_icmp_lt (tgt := 16) xx xb dJ3_checkIndex_8e157_6 (by decide) (fun c_6 => ?_) (fun c_6 => ?_)
    · skip
      have c_6 := lt_c (tN (by omega)) (tN (by omega)) c_6
      refine lv_iload_n xx xb dJ3_checkIndex_8e157_16 rfl (lv_at hl 0 rfl) ?_
      exact rt_i C hw () rfl rfl dJ3_checkIndex_8e157_17
    · skip
      have c_6 := nlt_c (tN (by omega)) (tN (by omega)) c_6
      exact absurd c_6 (by omega)
set_option maxRecDepth 100000 in
set_option maxHeartbeats 4000000 in
theorem kJ0_checkIndex_df160 (l : Launch) (G : GT) (X : Xt) (i : Nat) (n : Nat) (hin : i < n) (hn : n ≤ 100) : Cte l yJ0_checkIndex_df160 cJ0_checkIndex_df160 2 (none) 1 22 [.int (nI i), .int (nI n)] G [] X (QV G [] (fun u : Unit => True) (fun u => [])) := by
  refine enE (by decide +kernel) (Nat.le_of_ble_eq_true rfl) ?_
  intro p e s m below meth c ls H locs C hE hl hw
  have xx := C.1
  have xb := C.2.1
  have hw : Wd G (fA []) s [] H locs := hw
  have hl : lv_has ls 2 [(0, .int (nI i)), (1, .int (nI n))] := hl
  refine lv_iload_n xx xb dJ0_checkIndex_df160_0 rfl (lv_at hl 0 rfl) ?_
  refine lv_iload_n xx xb dJ0_checkIndex_df160_1 rfl (lv_at hl 1 rfl) ?_
  rcases hE.2.2.2.1 with hZ | ⟨tf, hZ⟩
  · skip
    refine va_gets xx xb hZ hw.2.2 C.2.2.2.1 (C.2.2.2.2.1 _ fl_fmt) (fun _ h => h) dJ0_checkIndex_df160_2 ?_
    have hM := kJ3_checkIndex_8e157_n l G i n 0 (by first | assumption | omega) (by first | assumption | omega)
    refine cs_i C hw hM ysJ3_checkIndex_8e157 ml_J0_1059 rfl [] rfl rfl (fun _ => (rfl : ([] : List Nat) = [])) (by decide) ⟨Nat.zero_le _, Nat.zero_le _⟩ hl.1 rfl (Nat.le_of_ble_eq_true rfl) dJ0_checkIndex_df160_5 (fun r _ H locs hr hw => ?_)
    have hw : Wd G (fA []) s [] H locs := hw
    subst hr
    refine lv_pop xx xb dJ0_checkIndex_df160_8 rfl ?_
    exact rt_v C hw () trivial rfl dJ0_checkIndex_df160_9
  · skip
    refine va_gets xx xb hZ hw.2.2 C.2.2.2.1 (C.2.2.2.2.1 _ fl_fmt) (fun _ h => h) dJ0_checkIndex_df160_2 ?_
    have hM := kJ3_checkIndex_8e157_r l G i n tf (by first | assumption | omega) (by first | assumption | omega)
    refine cs_i C hw hM ysJ3_checkIndex_8e157 ml_J0_1059 rfl [] rfl rfl (fun _ => (rfl : ([] : List Nat) = [])) (by decide) ⟨Nat.zero_le _, Nat.zero_le _⟩ hl.1 rfl (Nat.le_of_ble_eq_true rfl) dJ0_checkIndex_df160_5 (fun r _ H locs hr hw => ?_)
    have hw : Wd G (fA []) s [] H locs := hw
    subst hr
    refine lv_pop xx xb dJ0_checkIndex_df160_8 rfl ?_
    exact rt_v C hw () trivial rfl dJ0_checkIndex_df160_9
set_option maxRecDepth 100000 in
set_option maxHeartbeats 4000000 in
theorem kJ0_coder_7d493 (l : Launch) (G : GT) (X : Xt) (k : Nat) (hk : k < 5) : Cte l yJ0_coder_7d493 cJ0_coder_7d493 1 (some .byte) 0 0 [.ref (X.2.1 k)] G [] X (QI G [] (fun (r : Int32) (u : Unit) => r = nI 0) (fun u => [])) := by
  refine enE (by decide +kernel) (Nat.le_of_ble_eq_true rfl) ?_
  intro p e s m below meth c ls H locs C hE hl hw
  have xx := C.1
  have xb := C.2.1
  have hw : Wd G (fA []) s [] H locs := hw
  have hl : lv_has ls 1 [(0, .ref (X.2.1 k))] := hl
  have hl4 := sl_4 k hk
  refine va_gets xx xb hE.2.2.1 hw.2.2 C.2.2.2.1 (C.2.2.2.2.1 _ fl_cmp) (fun _ h => h) dJ0_coder_7d493_0 ?_
  refine re_i (nI 1) rfl ?_
  refine lv_if_eq (tgt := 13) xx xb dJ0_coder_7d493_3 (by decide) (fun c_3 => ?_) (fun c_3 => ?_)
  · skip
    exact absurd c_3 (by decide)
  · skip
    refine lv_aload_n xx xb dJ0_coder_7d493_6 rfl (lv_at hl 0 rfl) ?_
    refine vk_getf xx xb (hE.2.1.1 _ hk).2.1 hw.2.2 C.2.2.2.1 (C.2.2.2.2.1 _ fl_cod) (fun _ h => h) dJ0_coder_7d493_7 ?_
    refine re_i (nI 0) rfl ?_
    refine lv_goto (tgt := 14) xx xb dJ0_coder_7d493_10 (by decide) ?_
    exact rt_n C hw () rfl rfl rfl dJ0_coder_7d493_14
set_option maxRecDepth 100000 in
set_option maxHeartbeats 4000000 in
theorem kJ0_isLatin1_aae02 (l : Launch) (G : GT) (X : Xt) (k : Nat) (hk : k < 5) : Cte l yJ0_isLatin1_aae02 cJ0_isLatin1_aae02 1 (some .boolean) 0 0 [.ref (X.2.1 k)] G [] X (QI G [] (fun (r : Int32) (u : Unit) => r = nI 1) (fun u => [])) := by
  refine enE (by decide +kernel) (Nat.le_of_ble_eq_true rfl) ?_
  intro p e s m below meth c ls H locs C hE hl hw
  have xx := C.1
  have xb := C.2.1
  have hw : Wd G (fA []) s [] H locs := hw
  have hl : lv_has ls 1 [(0, .ref (X.2.1 k))] := hl
  have hl4 := sl_4 k hk
  refine va_gets xx xb hE.2.2.1 hw.2.2 C.2.2.2.1 (C.2.2.2.2.1 _ fl_cmp) (fun _ h => h) dJ0_isLatin1_aae02_0 ?_
  refine re_i (nI 1) rfl ?_
  refine lv_if_eq (tgt := 17) xx xb dJ0_isLatin1_aae02_3 (by decide) (fun c_3 => ?_) (fun c_3 => ?_)
  · skip
    exact absurd c_3 (by decide)
  · skip
    refine lv_aload_n xx xb dJ0_isLatin1_aae02_6 rfl (lv_at hl 0 rfl) ?_
    refine vk_getf xx xb (hE.2.1.1 _ hk).2.1 hw.2.2 C.2.2.2.1 (C.2.2.2.2.1 _ fl_cod) (fun _ h => h) dJ0_isLatin1_aae02_7 ?_
    refine re_i (nI 0) rfl ?_
    refine lv_if_ne (tgt := 17) xx xb dJ0_isLatin1_aae02_10 (by decide) (fun c_10 => ?_) (fun c_10 => ?_)
    · skip
      exact absurd (by decide) c_10
    · skip
      refine lv_iconst (v := nI 1) xx xb dJ0_isLatin1_aae02_13 (by decide) ?_
      refine lv_goto (tgt := 18) xx xb dJ0_isLatin1_aae02_14 (by decide) ?_
      exact rt_z C hw () (Or.inr rfl) (by first | exact r1 (by omega) | exact r0 (by omega)) rfl dJ0_isLatin1_aae02_18
set_option maxRecDepth 100000 in
set_option maxHeartbeats 4000000 in
theorem kJ0_length_8abf5 (l : Launch) (G : GT) (X : Xt) (k : Nat) (hk : k < 5) : Cte l yJ0_length_8abf5 cJ0_length_8abf5 1 (some .int) 1 20 [.ref (X.2.1 k)] G [] X (QI G [] (fun (r : Int32) (u : Unit) => r = nI (sLen.getD k 0)) (fun u => [])) := by
  refine enE (by decide +kernel) (Nat.le_of_ble_eq_true rfl) ?_
  intro p e s m below meth c ls H locs C hE hl hw
  have xx := C.1
  have xb := C.2.1
  have hw : Wd G (fA []) s [] H locs := hw
  have hl : lv_has ls 1 [(0, .ref (X.2.1 k))] := hl
  have hl4 := sl_4 k hk
  refine lv_aload_n xx xb dJ0_length_8abf5_0 rfl (lv_at hl 0 rfl) ?_
  refine vk_getf xx xb (hE.2.1.1 _ hk).2.2.1 hw.2.2 C.2.2.2.1 (C.2.2.2.2.1 _ fl_val) (fun _ h => h) dJ0_length_8abf5_1 ?_
  refine va_tlen xx xb (hE.2.1.1 _ hk).2.2.2 hw.2.2 (v := nI (sLen.getD k 0)) rfl dJ0_length_8abf5_4 ?_
  refine lv_aload_n xx xb dJ0_length_8abf5_5 rfl (lv_at hl 0 rfl) ?_
  have hM := kJ0_coder_7d493 l G X k (by first | assumption | omega)
  refine eT_i C hE hw hk hM yvJ0_coder_7d493 ml_J0_335 rfl rfl (by decide) ⟨Nat.zero_le _, Nat.zero_le _⟩ hl.1 rfl (Nat.le_of_ble_eq_true rfl) dJ0_length_8abf5_6 (fun r _ H locs hr hw => ?_)
  have hw : Wd G (fA []) s [] H locs := hw
  subst hr
  refine lv_ishr xx xb dJ0_length_8abf5_9 ?_
  refine re_i (nI (sLen.getD k 0)) ((shr_N (by omega) (by decide)).trans (congrArg nI (Nat.div_one _))) ?_
  exact rt_i C hw () rfl rfl dJ0_length_8abf5_10
set_option maxRecDepth 100000 in
set_option maxHeartbeats 4000000 in
theorem kJ0_isEmpty_aae02 (l : Launch) (G : GT) (X : Xt) (k : Nat) (hk : k < 5) : Cte l yJ0_isEmpty_aae02 cJ0_isEmpty_aae02 1 (some .boolean) 0 0 [.ref (X.2.1 k)] G [] X (QI G [] (fun (r : Int32) (u : Unit) => r = if sLen.getD k 0 = 0 then 1 else 0) (fun u => [])) := by
  refine enE (by decide +kernel) (Nat.le_of_ble_eq_true rfl) ?_
  intro p e s m below meth c ls H locs C hE hl hw
  have xx := C.1
  have xb := C.2.1
  have hw : Wd G (fA []) s [] H locs := hw
  have hl : lv_has ls 1 [(0, .ref (X.2.1 k))] := hl
  have hl4 := sl_4 k hk
  refine lv_aload_n xx xb dJ0_isEmpty_aae02_0 rfl (lv_at hl 0 rfl) ?_
  refine vk_getf xx xb (hE.2.1.1 _ hk).2.2.1 hw.2.2 C.2.2.2.1 (C.2.2.2.2.1 _ fl_val) (fun _ h => h) dJ0_isEmpty_aae02_1 ?_
  refine va_tlen xx xb (hE.2.1.1 _ hk).2.2.2 hw.2.2 (v := nI (sLen.getD k 0)) rfl dJ0_isEmpty_aae02_4 ?_
  refine lv_if_ne (tgt := 12) xx xb dJ0_isEmpty_aae02_5 (by decide) (fun c_5 => ?_) (fun c_5 => ?_)
  · skip
    have c_5 := ne_c (tN (by omega)) Int32.toInt_zero c_5
    refine lv_iconst (v := nI 0) xx xb dJ0_isEmpty_aae02_12 (by decide) ?_
    exact rt_z C hw () (Or.inl rfl) (by first | exact r1 (by omega) | exact r0 (by omega)) rfl dJ0_isEmpty_aae02_13
  · skip
    have c_5 := eq_c (tN (by omega)) Int32.toInt_zero c_5
    refine lv_iconst (v := nI 1) xx xb dJ0_isEmpty_aae02_8 (by decide) ?_
    refine lv_goto (tgt := 13) xx xb dJ0_isEmpty_aae02_9 (by decide) ?_
    exact rt_z C hw () (Or.inr rfl) (by first | exact r1 (by omega) | exact r0 (by omega)) rfl dJ0_isEmpty_aae02_13
set_option maxRecDepth 100000 in
set_option maxHeartbeats 4000000 in
theorem kJ1_charAt_3b067 (l : Launch) (G : GT) (X : Xt) (k : Nat) (j : Nat) (hk : k < 5) (hj : j < sLen.getD k 0) : Cte l yJ1_charAt_3b067 cJ1_charAt_3b067 2 (some .char) 2 43 [.ref (X.2.2 k), .int (nI j)] G [] X (QI G [] (fun (r : Int32) (u : Unit) => r = sch k j) (fun u => [])) := by
  refine enE (by decide +kernel) (Nat.le_of_ble_eq_true rfl) ?_
  intro p e s m below meth c ls H locs C hE hl hw
  have xx := C.1
  have xb := C.2.1
  have hw : Wd G (fA []) s [] H locs := hw
  have hl : lv_has ls 2 [(0, .ref (X.2.2 k)), (1, .int (nI j))] := hl
  have hl4 := sl_4 k hk
  refine lv_iload_n xx xb dJ1_charAt_3b067_0 rfl (lv_at hl 1 rfl) ?_
  refine lv_aload_n xx xb dJ1_charAt_3b067_1 rfl (lv_at hl 0 rfl) ?_
  refine va_tlen xx xb (hE.2.1.1 _ hk).2.2.2 hw.2.2 (v := nI (sLen.getD k 0)) rfl dJ1_charAt_3b067_2 ?_
  have hM := kJ0_checkIndex_df160 l G X j (sLen.getD k 0) (by first | assumption | omega) (by first | assumption | omega)
  refine eS_v C hE hw hM ysJ0_checkIndex_df160 ml_J1_9 rfl [] rfl rfl (fun _ => (rfl : ([] : List Nat) = [])) (by decide) ⟨Nat.zero_le _, Nat.zero_le _⟩ hl.1 rfl (Nat.le_of_ble_eq_true rfl) dJ1_charAt_3b067_3 (fun _ H locs hr hw => ?_)
  have hw : Wd G (fA []) s [] H locs := hw
  refine lv_aload_n xx xb dJ1_charAt_3b067_6 rfl (lv_at hl 0 rfl) ?_
  refine lv_iload_n xx xb dJ1_charAt_3b067_7 rfl (lv_at hl 1 rfl) ?_
  refine va_tb xx xb (hE.2.1.1 _ hk).2.2.2 hw.2.2 (vp_in_nI (by omega) (by omega)) (v := .int (sch k j)) (by rw [nI_clamp (by omega)]; rfl) dJ1_charAt_3b067_8 ?_
  refine lv_sipush (v := nI 255) xx xb dJ1_charAt_3b067_9 (by decide) ?_
  refine lv_iand xx xb dJ1_charAt_3b067_12 ?_
  refine lv_i2c xx xb dJ1_charAt_3b067_13 (v := sch k j) (sch_c hk hj) ?_
  exact rt_n C hw () (sch_n hk hj) rfl rfl dJ1_charAt_3b067_14
set_option maxRecDepth 100000 in
set_option maxHeartbeats 4000000 in
theorem kJ0_charAt_5068e (l : Launch) (G : GT) (X : Xt) (k : Nat) (j : Nat) (hk : k < 5) (hj : j < sLen.getD k 0) : Cte l yJ0_charAt_5068e cJ0_charAt_5068e 2 (some .char) 3 64 [.ref (X.2.1 k), .int (nI j)] G [] X (QI G [] (fun (r : Int32) (u : Unit) => r = sch k j) (fun u => [])) := by
  refine enE (by decide +kernel) (Nat.le_of_ble_eq_true rfl) ?_
  intro p e s m below meth c ls H locs C hE hl hw
  have xx := C.1
  have xb := C.2.1
  have hw : Wd G (fA []) s [] H locs := hw
  have hl : lv_has ls 2 [(0, .ref (X.2.1 k)), (1, .int (nI j))] := hl
  have hl4 := sl_4 k hk
  refine lv_aload_n xx xb dJ0_charAt_5068e_0 rfl (lv_at hl 0 rfl) ?_
  have hM := kJ0_isLatin1_aae02 l G X k (by first | assumption | omega)
  refine eT_i C hE hw hk hM yvJ0_isLatin1_aae02 ml_J0_492 rfl rfl (by decide) ⟨Nat.zero_le _, Nat.zero_le _⟩ hl.1 rfl (Nat.le_of_ble_eq_true rfl) dJ0_charAt_5068e_1 (fun r _ H locs hr hw => ?_)
  have hw : Wd G (fA []) s [] H locs := hw
  subst hr
  refine lv_if_eq (tgt := 16) xx xb dJ0_charAt_5068e_4 (by decide) (fun c_4 => ?_) (fun c_4 => ?_)
  · skip
    exact absurd c_4 (by decide)
  · skip
    refine lv_aload_n xx xb dJ0_charAt_5068e_7 rfl (lv_at hl 0 rfl) ?_
    refine vk_getf xx xb (hE.2.1.1 _ hk).2.2.1 hw.2.2 C.2.2.2.1 (C.2.2.2.2.1 _ fl_val) (fun _ h => h) dJ0_charAt_5068e_8 ?_
    refine lv_iload_n xx xb dJ0_charAt_5068e_11 rfl (lv_at hl 1 rfl) ?_
    have hM := kJ1_charAt_3b067 l G X k j (by first | assumption | omega) (by first | assumption | omega)
    refine eS_i C hE hw hM ysJ1_charAt_3b067 ml_J0_495 rfl [] rfl rfl (fun _ => (rfl : ([] : List Nat) = [])) (by decide) ⟨Nat.zero_le _, Nat.zero_le _⟩ hl.1 rfl (Nat.le_of_ble_eq_true rfl) dJ0_charAt_5068e_12 (fun r _ H locs hr hw => ?_)
    have hw : Wd G (fA []) s [] H locs := hw
    subst hr
    exact rt_n C hw () (sch_n hk hj) rfl rfl dJ0_charAt_5068e_15
def shI (c : Nat) : Nat := if c = 116 then 1 else if c = 111 then 2 else if c = 112 then 3 else if c = 109 then 3 else if c = 102 then 4 else if c = 104 then 4 else 0
theorem shI_lt (c : Nat) : shI c < 5 := by unfold shI; (repeat' split) <;> omega
theorem shI_len (c : Nat) : sLen.getD (shI c) 0 = (shp c).length := by
  unfold shI shp
  repeat' split
  all_goals rfl
theorem shI_ch {c j : Nat} (h : j < (shp c).length) : sch (shI c) j = nI (wch ((shp c).getD j 0)) := by
  have e2 : ∀ j, j < 2 → sch 4 j = nI (wch ([1, 2].getD j 0)) := by decide +kernel
  have e3 : ∀ j, j < 3 → sch 3 j = nI (wch ([1, 1, 2].getD j 0)) := by decide +kernel
  have e4 : ∀ j, j < 3 → sch 1 j = nI (wch ([0, 1, 2].getD j 0)) := by decide +kernel
  have e5 : ∀ j, j < 4 → sch 2 j = nI (wch ([0, 1, 1, 2].getD j 0)) := by decide +kernel
  revert h
  unfold shI shp
  repeat' split
  all_goals intro h
  · exact e4 j h
  · exact e5 j h
  · exact e3 j h
  · exact e3 j h
  · exact e2 j h
  · exact e2 j h
  · exact absurd h (Nat.not_lt_zero _)
theorem shw_le (c j : Nat) : (shp c).getD j 0 ≤ 2 := by
  have e : ∀ l : List Nat, (∀ x ∈ l, x ≤ 2) → l.getD j 0 ≤ 2 := by
    intro l hl
    rw [List.getD_eq_getElem?_getD]
    cases h : l[j]? with
    | none => exact Nat.zero_le _
    | some x => exact hl x (List.mem_of_getElem? h)
  apply e
  unfold shp
  repeat' split
  all_goals decide
set_option maxRecDepth 100000 in
set_option maxHeartbeats 4000000 in
theorem kX1_shapeBehind (l : Launch) (G : GT) (X : Xt) (c0 : Nat) (hc0 : c0 ≤ 255) : Cte l yX1_shapeBehind cX1_shapeBehind 1 (some (.object "java/lang/String")) 0 0 [.int (nI c0)] G [] X (QR G X (shI c0) []) := by
  refine enE (by decide +kernel) (Nat.le_of_ble_eq_true rfl) ?_
  intro p e s m below meth c ls H locs C hE hl hw
  have xx := C.1
  have xb := C.2.1
  have hw : Wd G (fA []) s [] H locs := hw
  have hl : lv_has ls 1 [(0, .int (nI c0))] := hl
  refine lv_iload_n xx xb dX1_shapeBehind_0 rfl (lv_at hl 0 rfl) ?_
  by_cases k_1_102 : c0 = 102
  · skip
    refine re_i (nI 102) (by rw [k_1_102]) ?_
    refine lv_tableIn (off := 91) (tgt := 92) xx xb dX1_shapeBehind_1 (by decide +kernel) (by decide +kernel) (by decide +kernel) (by decide) ?_
    refine va_ldcwT xx xb C.2.2.2.1 hE.2.2.2.2.2.2.2.2 dX1_shapeBehind_92 ?_
    rw [show shI c0 = 4 from by unfold shI; (repeat' split) <;> omega]
    exact rt_r C hw dX1_shapeBehind_95
  by_cases k_1_103 : c0 = 103
  · skip
    refine re_i (nI 103) (by rw [k_1_103]) ?_
    refine lv_tableIn (off := 99) (tgt := 100) xx xb dX1_shapeBehind_1 (by decide +kernel) (by decide +kernel) (by decide +kernel) (by decide) ?_
    refine va_ldcS xx xb C.2.2.2.1 hE.2.2.2.2.1 dX1_shapeBehind_100 ?_
    rw [show shI c0 = 0 from by unfold shI; (repeat' split) <;> omega]
    exact rt_r C hw dX1_shapeBehind_102
  by_cases k_1_104 : c0 = 104
  · skip
    refine re_i (nI 104) (by rw [k_1_104]) ?_
    refine lv_tableIn (off := 95) (tgt := 96) xx xb dX1_shapeBehind_1 (by decide +kernel) (by decide +kernel) (by decide +kernel) (by decide) ?_
    refine va_ldcwT xx xb C.2.2.2.1 hE.2.2.2.2.2.2.2.2 dX1_shapeBehind_96 ?_
    rw [show shI c0 = 4 from by unfold shI; (repeat' split) <;> omega]
    exact rt_r C hw dX1_shapeBehind_99
  by_cases k_1_105 : c0 = 105
  · skip
    refine re_i (nI 105) (by rw [k_1_105]) ?_
    refine lv_tableIn (off := 99) (tgt := 100) xx xb dX1_shapeBehind_1 (by decide +kernel) (by decide +kernel) (by decide +kernel) (by decide) ?_
    refine va_ldcS xx xb C.2.2.2.1 hE.2.2.2.2.1 dX1_shapeBehind_100 ?_
    rw [show shI c0 = 0 from by unfold shI; (repeat' split) <;> omega]
    exact rt_r C hw dX1_shapeBehind_102
  by_cases k_1_106 : c0 = 106
  · skip
    refine re_i (nI 106) (by rw [k_1_106]) ?_
    refine lv_tableIn (off := 99) (tgt := 100) xx xb dX1_shapeBehind_1 (by decide +kernel) (by decide +kernel) (by decide +kernel) (by decide) ?_
    refine va_ldcS xx xb C.2.2.2.1 hE.2.2.2.2.1 dX1_shapeBehind_100 ?_
    rw [show shI c0 = 0 from by unfold shI; (repeat' split) <;> omega]
    exact rt_r C hw dX1_shapeBehind_102
  by_cases k_1_107 : c0 = 107
  · skip
    refine re_i (nI 107) (by rw [k_1_107]) ?_
    refine lv_tableIn (off := 99) (tgt := 100) xx xb dX1_shapeBehind_1 (by decide +kernel) (by decide +kernel) (by decide +kernel) (by decide) ?_
    refine va_ldcS xx xb C.2.2.2.1 hE.2.2.2.2.1 dX1_shapeBehind_100 ?_
    rw [show shI c0 = 0 from by unfold shI; (repeat' split) <;> omega]
    exact rt_r C hw dX1_shapeBehind_102
  by_cases k_1_108 : c0 = 108
  · skip
    refine re_i (nI 108) (by rw [k_1_108]) ?_
    refine lv_tableIn (off := 99) (tgt := 100) xx xb dX1_shapeBehind_1 (by decide +kernel) (by decide +kernel) (by decide +kernel) (by decide) ?_
    refine va_ldcS xx xb C.2.2.2.1 hE.2.2.2.2.1 dX1_shapeBehind_100 ?_
    rw [show shI c0 = 0 from by unfold shI; (repeat' split) <;> omega]
    exact rt_r C hw dX1_shapeBehind_102
  by_cases k_1_109 : c0 = 109
  · skip
    refine re_i (nI 109) (by rw [k_1_109]) ?_
    refine lv_tableIn (off := 87) (tgt := 88) xx xb dX1_shapeBehind_1 (by decide +kernel) (by decide +kernel) (by decide +kernel) (by decide) ?_
    refine va_ldcwT xx xb C.2.2.2.1 hE.2.2.2.2.2.2.2.1 dX1_shapeBehind_88 ?_
    rw [show shI c0 = 3 from by unfold shI; (repeat' split) <;> omega]
    exact rt_r C hw dX1_shapeBehind_91
  by_cases k_1_110 : c0 = 110
  · skip
    refine re_i (nI 110) (by rw [k_1_110]) ?_
    refine lv_tableIn (off := 99) (tgt := 100) xx xb dX1_shapeBehind_1 (by decide +kernel) (by decide +kernel) (by decide +kernel) (by decide) ?_
    refine va_ldcS xx xb C.2.2.2.1 hE.2.2.2.2.1 dX1_shapeBehind_100 ?_
    rw [show shI c0 = 0 from by unfold shI; (repeat' split) <;> omega]
    exact rt_r C hw dX1_shapeBehind_102
  by_cases k_1_111 : c0 = 111
  · skip
    refine re_i (nI 111) (by rw [k_1_111]) ?_
    refine lv_tableIn (off := 79) (tgt := 80) xx xb dX1_shapeBehind_1 (by decide +kernel) (by decide +kernel) (by decide +kernel) (by decide) ?_
    refine va_ldcwT xx xb C.2.2.2.1 hE.2.2.2.2.2.2.1 dX1_shapeBehind_80 ?_
    rw [show shI c0 = 2 from by unfold shI; (repeat' split) <;> omega]
    exact rt_r C hw dX1_shapeBehind_83
  by_cases k_1_112 : c0 = 112
  · skip
    refine re_i (nI 112) (by rw [k_1_112]) ?_
    refine lv_tableIn (off := 83) (tgt := 84) xx xb dX1_shapeBehind_1 (by decide +kernel) (by decide +kernel) (by decide +kernel) (by decide) ?_
    refine va_ldcwT xx xb C.2.2.2.1 hE.2.2.2.2.2.2.2.1 dX1_shapeBehind_84 ?_
    rw [show shI c0 = 3 from by unfold shI; (repeat' split) <;> omega]
    exact rt_r C hw dX1_shapeBehind_87
  by_cases k_1_113 : c0 = 113
  · skip
    refine re_i (nI 113) (by rw [k_1_113]) ?_
    refine lv_tableIn (off := 99) (tgt := 100) xx xb dX1_shapeBehind_1 (by decide +kernel) (by decide +kernel) (by decide +kernel) (by decide) ?_
    refine va_ldcS xx xb C.2.2.2.1 hE.2.2.2.2.1 dX1_shapeBehind_100 ?_
    rw [show shI c0 = 0 from by unfold shI; (repeat' split) <;> omega]
    exact rt_r C hw dX1_shapeBehind_102
  by_cases k_1_114 : c0 = 114
  · skip
    refine re_i (nI 114) (by rw [k_1_114]) ?_
    refine lv_tableIn (off := 99) (tgt := 100) xx xb dX1_shapeBehind_1 (by decide +kernel) (by decide +kernel) (by decide +kernel) (by decide) ?_
    refine va_ldcS xx xb C.2.2.2.1 hE.2.2.2.2.1 dX1_shapeBehind_100 ?_
    rw [show shI c0 = 0 from by unfold shI; (repeat' split) <;> omega]
    exact rt_r C hw dX1_shapeBehind_102
  by_cases k_1_115 : c0 = 115
  · skip
    refine re_i (nI 115) (by rw [k_1_115]) ?_
    refine lv_tableIn (off := 99) (tgt := 100) xx xb dX1_shapeBehind_1 (by decide +kernel) (by decide +kernel) (by decide +kernel) (by decide) ?_
    refine va_ldcS xx xb C.2.2.2.1 hE.2.2.2.2.1 dX1_shapeBehind_100 ?_
    rw [show shI c0 = 0 from by unfold shI; (repeat' split) <;> omega]
    exact rt_r C hw dX1_shapeBehind_102
  by_cases k_1_116 : c0 = 116
  · skip
    refine re_i (nI 116) (by rw [k_1_116]) ?_
    refine lv_tableIn (off := 75) (tgt := 76) xx xb dX1_shapeBehind_1 (by decide +kernel) (by decide +kernel) (by decide +kernel) (by decide) ?_
    refine va_ldcwT xx xb C.2.2.2.1 hE.2.2.2.2.2.1 dX1_shapeBehind_76 ?_
    rw [show shI c0 = 1 from by unfold shI; (repeat' split) <;> omega]
    exact rt_r C hw dX1_shapeBehind_79
  · skip
    refine lv_tableOut (tgt := 100) xx xb dX1_shapeBehind_1 (by rw [tN (by omega)]; omega) (by decide) ?_
    refine va_ldcS xx xb C.2.2.2.1 hE.2.2.2.2.1 dX1_shapeBehind_100 ?_
    rw [show shI c0 = 0 from by unfold shI; (repeat' split) <;> omega]
    exact rt_r C hw dX1_shapeBehind_102
def orJ (R : RT) (a b c : Int) : Nat := if (0 ≤ a ∧ a < ((R 0 0 : Nat) : Int)) ∧ (0 ≤ b ∧ b < ((R 0 0 : Nat) : Int)) ∧ (0 ≤ c ∧ c < ((R 0 0 : Nat) : Int)) ∧ a ≠ b ∧ a ≠ c ∧ b ≠ c then 0 else 1
theorem orJ_le (R : RT) (a b c : Int) : orJ R a b c ≤ 6 := by unfold orJ; split <;> omega
theorem or_eq {R : RT} {a b c v w : Int} : foN (foN (orJ R a b c) (wlN v 0 9)) (otN w 1) = cOrd R a b c v w := by
  unfold orJ cOrd foN
  rw [wl_wb]
  by_cases h : (0 ≤ a ∧ a < ((R 0 0 : Nat) : Int)) ∧ (0 ≤ b ∧ b < ((R 0 0 : Nat) : Int)) ∧ (0 ≤ c ∧ c < ((R 0 0 : Nat) : Int)) ∧ a ≠ b ∧ a ≠ c ∧ b ≠ c
  · rw [if_pos h, if_pos h, if_neg (show ¬ (0 : Nat) ≠ 0 by decide)]
    rfl
  · rw [if_neg h, if_neg h]
    rfl
theorem cOrd_le (R : RT) (a b c v w : Int) : cOrd R a b c v w ≤ 6 := by
  unfold cOrd
  have := wbN_le v 9
  (repeat' split) <;> omega
theorem cOrd_0 {R : RT} {a b c v w : Int} (h : cOrd R a b c v w = 0) : ((0 ≤ a ∧ a < ((R 0 0 : Nat) : Int)) ∧ (0 ≤ b ∧ b < ((R 0 0 : Nat) : Int)) ∧ (0 ≤ c ∧ c < ((R 0 0 : Nat) : Int)) ∧ a ≠ b ∧ a ≠ c ∧ b ≠ c) ∧ (0 ≤ v ∧ v ≤ 9) ∧ (0 ≤ w ∧ w ≤ 1) := by
  unfold cOrd at h
  by_cases q : (0 ≤ a ∧ a < ((R 0 0 : Nat) : Int)) ∧ (0 ≤ b ∧ b < ((R 0 0 : Nat) : Int)) ∧ (0 ≤ c ∧ c < ((R 0 0 : Nat) : Int)) ∧ a ≠ b ∧ a ≠ c ∧ b ≠ c
  · rw [if_pos q] at h
    by_cases h2 : wbN v 9 ≠ 0
    · rw [if_pos h2] at h; omega
    · rw [if_neg h2] at h
      by_cases h3 : 0 ≤ w ∧ w ≤ 1
      · exact ⟨q, wbN_0 (by omega), h3⟩
      · rw [if_neg h3] at h; omega
  · rw [if_neg q] at h; omega
/-- the six orders, as places: x y z -/
def oX (j : Nat) : Nat := ordN j / 100
def oY (j : Nat) : Nat := ordN j / 10 % 10
def oZ (j : Nat) : Nat := ordN j % 10
/-- the place among the nine of the reference -/
def oQ (j : Nat) : Nat := 3 * oX j + oY j
theorem o_all : ∀ j, j < 6 → ordN j = 100 * oX j + 10 * oY j + oZ j ∧ oX j < 3 ∧ oY j < 3 ∧ oZ j < 3 ∧ oZ j = 3 - oX j - oY j ∧ oQ j % 4 ≠ 0 ∧ oQ j / 3 = oX j ∧ oQ j % 3 = oY j ∧ oQ j < 9 := by decide +kernel
/-- the reference's places between one order and the next are none -/
theorem orT_w {R : RT} {a b c v q : Nat} (h : ¬ q % 4 ≠ 0) : orT R a b c v (q + 1) = orT R a b c v q := orT_n (fun z => h z.1)
theorem orC_w {R : RT} {a b c v q : Nat} (h : ¬ q % 4 ≠ 0) : orC R a b c v (q + 1) = orC R a b c v q := orC_n (fun z => h z.1)
/-- how far the nine are behind j orders -/
def oP (j : Nat) : Nat := if j = 0 then 1 else if j = 1 then 2 else if j = 2 then 3 else if j = 3 then 5 else if j = 4 then 6 else if j = 5 then 7 else 8
theorem oP_q : ∀ j, j < 6 → oP j = oQ j := by decide +kernel
theorem o_next {R : RT} {a b c v j : Nat} (h : j < 6) : orT R a b c v (oP (j + 1)) = orT R a b c v (oQ j + 1) ∧ orC R a b c v (oP (j + 1)) = orC R a b c v (oQ j + 1) := by
  have e : j = 0 ∨ j = 1 ∨ j = 2 ∨ j = 3 ∨ j = 4 ∨ j = 5 := by omega
  rcases e with e | e | e | e | e | e <;> subst e
  · exact ⟨rfl, rfl⟩
  · exact ⟨rfl, rfl⟩
  · exact ⟨orT_w (q := 4) (by decide), orC_w (q := 4) (by decide)⟩
  · exact ⟨rfl, rfl⟩
  · exact ⟨rfl, rfl⟩
  · exact ⟨rfl, rfl⟩
theorem o_end {R : RT} {a b c v : Nat} : orT R a b c v 9 = orT R a b c v (oP 6) ∧ orC R a b c v 9 = orC R a b c v (oP 6) := ⟨orT_w (q := 8) (by decide), orC_w (q := 8) (by decide)⟩
theorem o_beg {R : RT} {a b c v : Nat} : orT R a b c v (oP 0) = 0 := orT_w (q := 0) (by decide)
/-- the best of the class: -9 ahead of the first -/
def obI (t : Nat) : Int32 := if t = 0 then -9 else nI (t - 1)
theorem ob_le {t s : Nat} (ht : t ≤ 11) (hs : s ≤ 10) : nI s ≤ obI t ↔ s + 1 ≤ t := by
  have : ∀ t, t ≤ 11 → ∀ s, s ≤ 10 → (nI s ≤ obI t ↔ s + 1 ≤ t) := by decide +kernel
  exact this t ht s hs
/-- which order is the best: the first, ahead of all -/
def obC (t c : Nat) : Nat := if t = 0 then 12 else c
theorem orS_j {R : RT} {a b c v j : Nat} (h : j < 6) : stN (obF R (plX a b c (oX j)) (plX a b c (oY j)) (plX a b c (oZ j)) v 10) = orS R a b c v (oQ j) := by
  obtain ⟨-, -, -, -, h5, -, h7, h8, -⟩ := o_all j h
  unfold orS
  rw [h7, h8, h5]
theorem orC_j {R : RT} {a b c v j : Nat} (h : j < 6) (h2 : orT R a b c v (oQ j) < orS R a b c v (oQ j) + 1) : orC R a b c v (oQ j + 1) = ordN j := by
  obtain ⟨h1, -, -, -, h5, h6, h7, h8, -⟩ := o_all j h
  rw [orC_y ⟨h6, h2⟩, h7, h8, ← h5, ← h1]
set_option maxRecDepth 100000 in
set_option maxHeartbeats 4000000 in
theorem kX1_order (l : Launch) (G : GT) (X : Xt) (h0 : Nat) (so : Nat) (to : Nat) (uo : Nat) (x5 : Nat) (x6 : Nat) (x7 : Nat) (x8 : Nat) (im : Nat) (lm : Nat) (rm : Nat) (sd : Int32) (rf : Nat → Nat) (ak : Nat) (af : Nat) (ab : Nat) (aa : Nat) (R : RT) (tk : Nat) (tf : Nat) (tb : Nat) (ta : Nat) (m0 : Nat) (S : RT) (oa : Int32) (oaz : Int) (ob : Int32) (obz : Int) (oc : Int32) (ocz : Int) (v : Int32) (vz : Int) (ww : Int32) (wwz : Int) (h_oa : oa.toInt = oaz) (h_ob : ob.toInt = obz) (h_oc : oc.toInt = ocz) (h_v : v.toInt = vz) (h_ww : ww.toInt = wwz) (hR : OK R) (hK : AK R) (hp : R 0 3 = 0) : Cte l yX1_order cX1_order 15 (some .int) 5 129 [.ref h0, .int oa, .int ob, .int oc, .int v, .int ww] G [(h0, .inr (1, [.ref so, .ref to, .ref uo, .int (nI im), .ref x5, .int (nI lm), .ref x6, .int (nI rm), .ref x7, .ref x8, .int sd])), (so, .inr (0, [.int (nI (sN R)), .int (nI (R 0 1)), .int (nI (sF R)), .int (nI (sS R)), .int (nI (sL R)), .ref ak, .ref af, .ref ab, .ref aa])), (ak, aI G 10 (sK R)), (af, aI G 10 (sG R)), (ab, aI G 10 (sO R)), (aa, aI G 10 (sA R)), (to, .inr (0, [.int (nI (sN S)), .int (nI m0), .int (nI (sF S)), .int (nI (sS S)), .int (nI (sL S)), .ref tk, .ref tf, .ref tb, .ref ta])), (tk, aI G 10 (sK S)), (tf, aI G 10 (sG S)), (tb, aI G 10 (sO S)), (ta, aI G 10 (sA S)), (x7, aI G 7 (cN rf))] X (QI G [(h0, .inr (1, [.ref so, .ref to, .ref uo, .int (nI im), .ref x5, .int (nI lm), .ref x6, .int (nI rm), .ref x7, .ref x8, .int sd])), (so, .inr (0, [.int (nI (sN R)), .int (nI (R 0 1)), .int (nI (sF R)), .int (nI (sS R)), .int (nI (sL R)), .ref ak, .ref af, .ref ab, .ref aa])), (ak, aI G 10 (sK R)), (af, aI G 10 (sG R)), (ab, aI G 10 (sO R)), (aa, aI G 10 (sA R)), (to, .inr (0, [.int (nI (sN S)), .int (nI m0), .int (nI (sF S)), .int (nI (sS S)), .int (nI (sL S)), .ref tk, .ref tf, .ref tb, .ref ta])), (tk, aI G 10 (sK S)), (tf, aI G 10 (sG S)), (tb, aI G 10 (sO S)), (ta, aI G 10 (sA S)), (x7, aI G 7 (cN rf))] (fun (r : Int32) (u : Nat × RT) => r = anI (cOrd R oaz obz ocz vz wwz) (vOrd R oaz.toNat obz.toNat ocz.toNat vz.toNat wwz)) (fun u => [(h0, .inr (1, [.ref so, .ref to, .ref uo, .int (nI im), .ref x5, .int (nI lm), .ref x6, .int (nI rm), .ref x7, .ref x8, .int sd])), (so, .inr (0, [.int (nI (sN R)), .int (nI (R 0 1)), .int (nI (sF R)), .int (nI (sS R)), .int (nI (sL R)), .ref ak, .ref af, .ref ab, .ref aa])), (ak, aI G 10 (sK R)), (af, aI G 10 (sG R)), (ab, aI G 10 (sO R)), (aa, aI G 10 (sA R)), (to, .inr (0, [.int (nI (sN u.2)), .int (nI u.1), .int (nI (sF u.2)), .int (nI (sS u.2)), .int (nI (sL u.2)), .ref tk, .ref tf, .ref tb, .ref ta])), (tk, aI G 10 (sK u.2)), (tf, aI G 10 (sG u.2)), (tb, aI G 10 (sO u.2)), (ta, aI G 10 (sA u.2)), (x7, aI G 7 (cN (rfU rf (cOrd R oaz obz ocz vz wwz))))])) := by
  refine enE (by decide +kernel) (Nat.le_of_ble_eq_true rfl) ?_
  intro p e s m below meth c ls H locs C hE hl hw
  have xx := C.1
  have xb := C.2.1
  have hw : Wd G (fA [(h0, .inr (1, [.ref so, .ref to, .ref uo, .int (nI im), .ref x5, .int (nI lm), .ref x6, .int (nI rm), .ref x7, .ref x8, .int sd])), (so, .inr (0, [.int (nI (sN R)), .int (nI (R 0 1)), .int (nI (sF R)), .int (nI (sS R)), .int (nI (sL R)), .ref ak, .ref af, .ref ab, .ref aa])), (ak, aI G 10 (sK R)), (af, aI G 10 (sG R)), (ab, aI G 10 (sO R)), (aa, aI G 10 (sA R)), (to, .inr (0, [.int (nI (sN S)), .int (nI m0), .int (nI (sF S)), .int (nI (sS S)), .int (nI (sL S)), .ref tk, .ref tf, .ref tb, .ref ta])), (tk, aI G 10 (sK S)), (tf, aI G 10 (sG S)), (tb, aI G 10 (sO S)), (ta, aI G 10 (sA S)), (x7, aI G 7 (cN rf))]) s [(h0, .inr (1, [.ref so, .ref to, .ref uo, .int (nI im), .ref x5, .int (nI lm), .ref x6, .int (nI rm), .ref x7, .ref x8, .int sd])), (so, .inr (0, [.int (nI (sN R)), .int (nI (R 0 1)), .int (nI (sF R)), .int (nI (sS R)), .int (nI (sL R)), .ref ak, .ref af, .ref ab, .ref aa])), (ak, aI G 10 (sK R)), (af, aI G 10 (sG R)), (ab, aI G 10 (sO R)), (aa, aI G 10 (sA R)), (to, .inr (0, [.int (nI (sN S)), .int (nI m0), .int (nI (sF S)), .int (nI (sS S)), .int (nI (sL S)), .ref tk, .ref tf, .ref tb, .ref ta])), (tk, aI G 10 (sK S)), (tf, aI G 10 (sG S)), (tb, aI G 10 (sO S)), (ta, aI G 10 (sA S)), (x7, aI G 7 (cN rf))] H locs := hw
  have hl : lv_has ls 15 [(0, .ref h0), (1, .int oa), (2, .int ob), (3, .int oc), (4, .int v), (5, .int ww)] := hl
  obtain ⟨hn, hf0, hpr, hA⟩ := id hR
  have hc6 := cOrd_le R oaz obz ocz vz wwz
  have hj6o := orJ_le R oaz obz ocz
  have hw6 := wlN_le vz 0 9
  have ho2 := otN_le wwz 1
  have J_65 : ∀  (H : Heap) (locs : List Loc) (ls : Array Slot), Wd G (fA [(h0, .inr (1, [.ref so, .ref to, .ref uo, .int (nI im), .ref x5, .int (nI lm), .ref x6, .int (nI rm), .ref x7, .ref x8, .int sd])), (so, .inr (0, [.int (nI (sN R)), .int (nI (R 0 1)), .int (nI (sF R)), .int (nI (sS R)), .int (nI (sL R)), .ref ak, .ref af, .ref ab, .ref aa])), (ak, aI G 10 (sK R)), (af, aI G 10 (sG R)), (ab, aI G 10 (sO R)), (aa, aI G 10 (sA R)), (to, .inr (0, [.int (nI (sN S)), .int (nI m0), .int (nI (sF S)), .int (nI (sS S)), .int (nI (sL S)), .ref tk, .ref tf, .ref tb, .ref ta])), (tk, aI G 10 (sK S)), (tf, aI G 10 (sG S)), (tb, aI G 10 (sO S)), (ta, aI G 10 (sA S)), (x7, aI G 7 (cN rf))]) s [(h0, .inr (1, [.ref so, .ref to, .ref uo, .int (nI im), .ref x5, .int (nI lm), .ref x6, .int (nI rm), .ref x7, .ref x8, .int sd])), (so, .inr (0, [.int (nI (sN R)), .int (nI (R 0 1)), .int (nI (sF R)), .int (nI (sS R)), .int (nI (sL R)), .ref ak, .ref af, .ref ab, .ref aa])), (ak, aI G 10 (sK R)), (af, aI G 10 (sG R)), (ab, aI G 10 (sO R)), (aa, aI G 10 (sA R)), (to, .inr (0, [.int (nI (sN S)), .int (nI m0), .int (nI (sF S)), .int (nI (sS S)), .int (nI (sL S)), .ref tk, .ref tf, .ref tb, .ref ta])), (tk, aI G 10 (sK S)), (tf, aI G 10 (sG S)), (tb, aI G 10 (sO S)), (ta, aI G 10 (sA S)), (x7, aI G 7 (cN rf))] H locs → lv_has ls 15 [(0, .ref h0), (1, .int oa), (2, .int ob), (3, .int oc), (4, .int v), (5, .int ww)] → W p l e ({ frames := 5, cells := 0, slots := 0, locals := 129 }) s m (([.ref h0, .int oa, .int ob, .int oc, .int v, .int ww] : List Value).toArray) below meth c H locs 0 0 (MQ below (QI G [(h0, .inr (1, [.ref so, .ref to, .ref uo, .int (nI im), .ref x5, .int (nI lm), .ref x6, .int (nI rm), .ref x7, .ref x8, .int sd])), (so, .inr (0, [.int (nI (sN R)), .int (nI (R 0 1)), .int (nI (sF R)), .int (nI (sS R)), .int (nI (sL R)), .ref ak, .ref af, .ref ab, .ref aa])), (ak, aI G 10 (sK R)), (af, aI G 10 (sG R)), (ab, aI G 10 (sO R)), (aa, aI G 10 (sA R)), (to, .inr (0, [.int (nI (sN S)), .int (nI m0), .int (nI (sF S)), .int (nI (sS S)), .int (nI (sL S)), .ref tk, .ref tf, .ref tb, .ref ta])), (tk, aI G 10 (sK S)), (tf, aI G 10 (sG S)), (tb, aI G 10 (sO S)), (ta, aI G 10 (sA S)), (x7, aI G 7 (cN rf))] (fun (r : Int32) (u : Nat × RT) => r = anI (cOrd R oaz obz ocz vz wwz) (vOrd R oaz.toNat obz.toNat ocz.toNat vz.toNat wwz)) (fun u => [(h0, .inr (1, [.ref so, .ref to, .ref uo, .int (nI im), .ref x5, .int (nI lm), .ref x6, .int (nI rm), .ref x7, .ref x8, .int sd])), (so, .inr (0, [.int (nI (sN R)), .int (nI (R 0 1)), .int (nI (sF R)), .int (nI (sS R)), .int (nI (sL R)), .ref ak, .ref af, .ref ab, .ref aa])), (ak, aI G 10 (sK R)), (af, aI G 10 (sG R)), (ab, aI G 10 (sO R)), (aa, aI G 10 (sA R)), (to, .inr (0, [.int (nI (sN u.2)), .int (nI u.1), .int (nI (sF u.2)), .int (nI (sS u.2)), .int (nI (sL u.2)), .ref tk, .ref tf, .ref tb, .ref ta])), (tk, aI G 10 (sK u.2)), (tf, aI G 10 (sG u.2)), (tb, aI G 10 (sO u.2)), (ta, aI G 10 (sA u.2)), (x7, aI G 7 (cN (rfU rf (cOrd R oaz obz ocz vz wwz))))])) (([.ref h0, .int oa, .int ob, .int oc, .int v, .int ww] : List Value).toArray) s 0 0 (fA [(h0, .inr (1, [.ref so, .ref to, .ref uo, .int (nI im), .ref x5, .int (nI lm), .ref x6, .int (nI rm), .ref x7, .ref x8, .int sd])), (so, .inr (0, [.int (nI (sN R)), .int (nI (R 0 1)), .int (nI (sF R)), .int (nI (sS R)), .int (nI (sL R)), .ref ak, .ref af, .ref ab, .ref aa])), (ak, aI G 10 (sK R)), (af, aI G 10 (sG R)), (ab, aI G 10 (sO R)), (aa, aI G 10 (sA R)), (to, .inr (0, [.int (nI (sN S)), .int (nI m0), .int (nI (sF S)), .int (nI (sS S)), .int (nI (sL S)), .ref tk, .ref tf, .ref tb, .ref ta])), (tk, aI G 10 (sK S)), (tf, aI G 10 (sG S)), (tb, aI G 10 (sO S)), (ta, aI G 10 (sA S)), (x7, aI G 7 (cN rf))])) (F0 m 65 ls [.int (nG (orJ R oaz obz ocz))]) := by
    intro  H locs ls  hw hl
    refine lv_iload xx xb dX1_order_65 (lv_at hl 4 rfl) ?_
    refine lv_iconst (v := nI 0) xx xb dX1_order_67 (by decide) ?_
    refine lv_bipush (v := nI 9) xx xb dX1_order_68 (by decide) ?_
    have hM := kX1_outside l G v vz (nI 0) 0 (nI 9) 9 h_v (tN (by omega)) (tN (by omega))
    refine cs_i C hw hM ysX1_outside ml_X1_35 rfl [] rfl rfl (fun _ => (rfl : ([] : List Nat) = [])) (by decide) ⟨Nat.zero_le _, Nat.zero_le _⟩ hl.1 rfl (Nat.le_of_ble_eq_true rfl) dX1_order_70 (fun r _ H locs hr hw => ?_)
    have hw : Wd G (fA [(h0, .inr (1, [.ref so, .ref to, .ref uo, .int (nI im), .ref x5, .int (nI lm), .ref x6, .int (nI rm), .ref x7, .ref x8, .int sd])), (so, .inr (0, [.int (nI (sN R)), .int (nI (R 0 1)), .int (nI (sF R)), .int (nI (sS R)), .int (nI (sL R)), .ref ak, .ref af, .ref ab, .ref aa])), (ak, aI G 10 (sK R)), (af, aI G 10 (sG R)), (ab, aI G 10 (sO R)), (aa, aI G 10 (sA R)), (to, .inr (0, [.int (nI (sN S)), .int (nI m0), .int (nI (sF S)), .int (nI (sS S)), .int (nI (sL S)), .ref tk, .ref tf, .ref tb, .ref ta])), (tk, aI G 10 (sK S)), (tf, aI G 10 (sG S)), (tb, aI G 10 (sO S)), (ta, aI G 10 (sA S)), (x7, aI G 7 (cN rf))]) s [(h0, .inr (1, [.ref so, .ref to, .ref uo, .int (nI im), .ref x5, .int (nI lm), .ref x6, .int (nI rm), .ref x7, .ref x8, .int sd])), (so, .inr (0, [.int (nI (sN R)), .int (nI (R 0 1)), .int (nI (sF R)), .int (nI (sS R)), .int (nI (sL R)), .ref ak, .ref af, .ref ab, .ref aa])), (ak, aI G 10 (sK R)), (af, aI G 10 (sG R)), (ab, aI G 10 (sO R)), (aa, aI G 10 (sA R)), (to, .inr (0, [.int (nI (sN S)), .int (nI m0), .int (nI (sF S)), .int (nI (sS S)), .int (nI (sL S)), .ref tk, .ref tf, .ref tb, .ref ta])), (tk, aI G 10 (sK S)), (tf, aI G 10 (sG S)), (tb, aI G 10 (sO S)), (ta, aI G 10 (sA S)), (x7, aI G 7 (cN rf))] H locs := hw
    subst hr
    have hM := kX1_firstOf l G (orJ R oaz obz ocz) (wlN vz 0 9) (by first | assumption | omega)
    refine cs_i C hw hM ysX1_firstOf ml_X1_115 rfl [] rfl rfl (fun _ => (rfl : ([] : List Nat) = [])) (by decide) ⟨Nat.zero_le _, Nat.zero_le _⟩ hl.1 rfl (Nat.le_of_ble_eq_true rfl) dX1_order_73 (fun r _ H locs hr hw => ?_)
    have hw : Wd G (fA [(h0, .inr (1, [.ref so, .ref to, .ref uo, .int (nI im), .ref x5, .int (nI lm), .ref x6, .int (nI rm), .ref x7, .ref x8, .int sd])), (so, .inr (0, [.int (nI (sN R)), .int (nI (R 0 1)), .int (nI (sF R)), .int (nI (sS R)), .int (nI (sL R)), .ref ak, .ref af, .ref ab, .ref aa])), (ak, aI G 10 (sK R)), (af, aI G 10 (sG R)), (ab, aI G 10 (sO R)), (aa, aI G 10 (sA R)), (to, .inr (0, [.int (nI (sN S)), .int (nI m0), .int (nI (sF S)), .int (nI (sS S)), .int (nI (sL S)), .ref tk, .ref tf, .ref tb, .ref ta])), (tk, aI G 10 (sK S)), (tf, aI G 10 (sG S)), (tb, aI G 10 (sO S)), (ta, aI G 10 (sA S)), (x7, aI G 7 (cN rf))]) s [(h0, .inr (1, [.ref so, .ref to, .ref uo, .int (nI im), .ref x5, .int (nI lm), .ref x6, .int (nI rm), .ref x7, .ref x8, .int sd])), (so, .inr (0, [.int (nI (sN R)), .int (nI (R 0 1)), .int (nI (sF R)), .int (nI (sS R)), .int (nI (sL R)), .ref ak, .ref af, .ref ab, .ref aa])), (ak, aI G 10 (sK R)), (af, aI G 10 (sG R)), (ab, aI G 10 (sO R)), (aa, aI G 10 (sA R)), (to, .inr (0, [.int (nI (sN S)), .int (nI m0), .int (nI (sF S)), .int (nI (sS S)), .int (nI (sL S)), .ref tk, .ref tf, .ref tb, .ref ta])), (tk, aI G 10 (sK S)), (tf, aI G 10 (sG S)), (tb, aI G 10 (sO S)), (ta, aI G 10 (sA S)), (x7, aI G 7 (cN rf))] H locs := hw
    subst hr
    refine lv_istore (lv' := [(7, .int (nG (foN (orJ R oaz obz ocz) (wlN vz 0 9)))), (0, .ref h0), (1, .int oa), (2, .int ob), (3, .int oc), (4, .int v), (5, .int ww)]) xx xb dX1_order_76 hl (by decide) rfl (fun ls hl => ?_)
    refine lv_iload xx xb dX1_order_78 (lv_at hl 0 rfl) ?_
    refine lv_iload xx xb dX1_order_80 (lv_at hl 6 rfl) ?_
    refine lv_iconst (v := nI 1) xx xb dX1_order_82 (by decide) ?_
    have hM := kX1_otherThan l G ww wwz (nI 1) 1 h_ww (tN (by omega))
    refine cs_i C hw hM ysX1_otherThan ml_X1_51 rfl [] rfl rfl (fun _ => (rfl : ([] : List Nat) = [])) (by decide) ⟨Nat.zero_le _, Nat.zero_le _⟩ hl.1 rfl (Nat.le_of_ble_eq_true rfl) dX1_order_83 (fun r _ H locs hr hw => ?_)
    have hw : Wd G (fA [(h0, .inr (1, [.ref so, .ref to, .ref uo, .int (nI im), .ref x5, .int (nI lm), .ref x6, .int (nI rm), .ref x7, .ref x8, .int sd])), (so, .inr (0, [.int (nI (sN R)), .int (nI (R 0 1)), .int (nI (sF R)), .int (nI (sS R)), .int (nI (sL R)), .ref ak, .ref af, .ref ab, .ref aa])), (ak, aI G 10 (sK R)), (af, aI G 10 (sG R)), (ab, aI G 10 (sO R)), (aa, aI G 10 (sA R)), (to, .inr (0, [.int (nI (sN S)), .int (nI m0), .int (nI (sF S)), .int (nI (sS S)), .int (nI (sL S)), .ref tk, .ref tf, .ref tb, .ref ta])), (tk, aI G 10 (sK S)), (tf, aI G 10 (sG S)), (tb, aI G 10 (sO S)), (ta, aI G 10 (sA S)), (x7, aI G 7 (cN rf))]) s [(h0, .inr (1, [.ref so, .ref to, .ref uo, .int (nI im), .ref x5, .int (nI lm), .ref x6, .int (nI rm), .ref x7, .ref x8, .int sd])), (so, .inr (0, [.int (nI (sN R)), .int (nI (R 0 1)), .int (nI (sF R)), .int (nI (sS R)), .int (nI (sL R)), .ref ak, .ref af, .ref ab, .ref aa])), (ak, aI G 10 (sK R)), (af, aI G 10 (sG R)), (ab, aI G 10 (sO R)), (aa, aI G 10 (sA R)), (to, .inr (0, [.int (nI (sN S)), .int (nI m0), .int (nI (sF S)), .int (nI (sS S)), .int (nI (sL S)), .ref tk, .ref tf, .ref tb, .ref ta])), (tk, aI G 10 (sK S)), (tf, aI G 10 (sG S)), (tb, aI G 10 (sO S)), (ta, aI G 10 (sA S)), (x7, aI G 7 (cN rf))] H locs := hw
    subst hr
    have hM := kX1_firstOf l G (foN (orJ R oaz obz ocz) (wlN vz 0 9)) (otN wwz 1) (foN_le hj6o hw6)
    refine cs_i C hw hM ysX1_firstOf ml_X1_115 rfl [] rfl rfl (fun _ => (rfl : ([] : List Nat) = [])) (by decide) ⟨Nat.zero_le _, Nat.zero_le _⟩ hl.1 rfl (Nat.le_of_ble_eq_true rfl) dX1_order_86 (fun r _ H locs hr hw => ?_)
    have hw : Wd G (fA [(h0, .inr (1, [.ref so, .ref to, .ref uo, .int (nI im), .ref x5, .int (nI lm), .ref x6, .int (nI rm), .ref x7, .ref x8, .int sd])), (so, .inr (0, [.int (nI (sN R)), .int (nI (R 0 1)), .int (nI (sF R)), .int (nI (sS R)), .int (nI (sL R)), .ref ak, .ref af, .ref ab, .ref aa])), (ak, aI G 10 (sK R)), (af, aI G 10 (sG R)), (ab, aI G 10 (sO R)), (aa, aI G 10 (sA R)), (to, .inr (0, [.int (nI (sN S)), .int (nI m0), .int (nI (sF S)), .int (nI (sS S)), .int (nI (sL S)), .ref tk, .ref tf, .ref tb, .ref ta])), (tk, aI G 10 (sK S)), (tf, aI G 10 (sG S)), (tb, aI G 10 (sO S)), (ta, aI G 10 (sA S)), (x7, aI G 7 (cN rf))]) s [(h0, .inr (1, [.ref so, .ref to, .ref uo, .int (nI im), .ref x5, .int (nI lm), .ref x6, .int (nI rm), .ref x7, .ref x8, .int sd])), (so, .inr (0, [.int (nI (sN R)), .int (nI (R 0 1)), .int (nI (sF R)), .int (nI (sS R)), .int (nI (sL R)), .ref ak, .ref af, .ref ab, .ref aa])), (ak, aI G 10 (sK R)), (af, aI G 10 (sG R)), (ab, aI G 10 (sO R)), (aa, aI G 10 (sA R)), (to, .inr (0, [.int (nI (sN S)), .int (nI m0), .int (nI (sF S)), .int (nI (sS S)), .int (nI (sL S)), .ref tk, .ref tf, .ref tb, .ref ta])), (tk, aI G 10 (sK S)), (tf, aI G 10 (sG S)), (tb, aI G 10 (sO S)), (ta, aI G 10 (sA S)), (x7, aI G 7 (cN rf))] H locs := hw
    subst hr
    refine re_i (nG (cOrd R oaz obz ocz vz wwz)) (congrArg nG or_eq) ?_
    refine lv_istore (lv' := [(7, .int (nG (cOrd R oaz obz ocz vz wwz))), (0, .ref h0), (1, .int oa), (2, .int ob), (3, .int oc), (4, .int v), (5, .int ww)]) xx xb dX1_order_89 hl (by decide) rfl (fun ls hl => ?_)
    refine lv_iload xx xb dX1_order_91 (lv_at hl 0 rfl) ?_
    refine lv_if_eq (tgt := 103) xx xb dX1_order_93 (by decide) (fun c_93 => ?_) (fun c_93 => ?_)
    · skip
      have c_93 := g0_c (by omega) c_93
      obtain ⟨g1, g2, g3⟩ := cOrd_0 c_93
      refine va_gets xx xb hE.1.1 hw.2.2 C.2.2.2.1 (C.2.2.2.2.1 _ fl_ord) (fun _ h => h) dX1_order_103 ?_
      refine lv_iconst (v := nI 0) xx xb dX1_order_106 (by decide) ?_
      refine va_ti xx xb hE.1.2 hw.2.2 (vp_in_nI (by omega) (by decide)) (v := .int (nI (ordN 0))) (by rw [nI_clamp (by omega)]) dX1_order_107 ?_
      refine lv_istore (lv' := [(8, .int (nI (ordN 0))), (7, .int (nG (cOrd R oaz obz ocz vz wwz))), (0, .ref h0), (1, .int oa), (2, .int ob), (3, .int oc), (4, .int v), (5, .int ww)]) xx xb dX1_order_108 hl (by decide) rfl (fun ls hl => ?_)
      refine lv_bipush (v := (-9)) xx xb dX1_order_110 (by decide) ?_
      refine lv_istore (lv' := [(9, .int (-9)), (8, .int (nI (ordN 0))), (7, .int (nG (cOrd R oaz obz ocz vz wwz))), (0, .ref h0), (1, .int oa), (2, .int ob), (3, .int oc), (4, .int v), (5, .int ww)]) xx xb dX1_order_112 hl (by decide) rfl (fun ls hl => ?_)
      refine va_gets xx xb hE.1.1 hw.2.2 C.2.2.2.1 (C.2.2.2.2.1 _ fl_ord) (fun _ h => h) dX1_order_114 ?_
      refine lv_astore (lv' := [(10, .ref X.1), (9, .int (-9)), (8, .int (nI (ordN 0))), (7, .int (nG (cOrd R oaz obz ocz vz wwz))), (0, .ref h0), (1, .int oa), (2, .int ob), (3, .int oc), (4, .int v), (5, .int ww)]) xx xb dX1_order_117 hl (by decide) rfl (fun ls hl => ?_)
      refine lv_aload xx xb dX1_order_119 (lv_at hl 0 rfl) ?_
      refine va_tlen xx xb hE.1.2 hw.2.2 (v := nI 6) rfl dX1_order_121 ?_
      refine lv_istore (lv' := [(11, .int (nI 6)), (10, .ref X.1), (9, .int (-9)), (8, .int (nI (ordN 0))), (7, .int (nG (cOrd R oaz obz ocz vz wwz))), (0, .ref h0), (1, .int oa), (2, .int ob), (3, .int oc), (4, .int v), (5, .int ww)]) xx xb dX1_order_122 hl (by decide) rfl (fun ls hl => ?_)
      refine lv_iconst (v := nI 0) xx xb dX1_order_124 (by decide) ?_
      refine lv_istore (lv' := [(12, .int (nI 0)), (11, .int (nI 6)), (10, .ref X.1), (9, .int (-9)), (8, .int (nI (ordN 0))), (7, .int (nG (cOrd R oaz obz ocz vz wwz))), (0, .ref h0), (1, .int oa), (2, .int ob), (3, .int oc), (4, .int v), (5, .int ww)]) xx xb dX1_order_125 hl (by decide) rfl (fun ls hl => ?_)
      have hl : lv_has ls 15 [(12, .int (nI 0)), (11, .int (nI 6)), (10, .ref X.1), (9, .int (-9)), (8, .int (nI (obC (orT R oaz.toNat obz.toNat ocz.toNat vz.toNat (oP 0)) (orC R oaz.toNat obz.toNat ocz.toNat vz.toNat (oP 0))))), (7, .int (nG (cOrd R oaz obz ocz vz wwz))), (0, .ref h0), (1, .int oa), (2, .int ob), (3, .int oc), (4, .int v), (5, .int ww)] := by rw [o_beg]; exact hl
      have hl : lv_has ls 15 [(12, .int (nI 0)), (11, .int (nI 6)), (10, .ref X.1), (9, .int (obI (orT R oaz.toNat obz.toNat ocz.toNat vz.toNat (oP 0)))), (8, .int (nI (obC (orT R oaz.toNat obz.toNat ocz.toNat vz.toNat (oP 0)) (orC R oaz.toNat obz.toNat ocz.toNat vz.toNat (oP 0))))), (7, .int (nG (cOrd R oaz obz ocz vz wwz))), (0, .ref h0), (1, .int oa), (2, .int ob), (3, .int oc), (4, .int v), (5, .int ww)] := by rw [o_beg]; exact hl
      have L_127 : ∀ (fu : Nat) (j : Nat) (y0 : Nat) (Y : RT) (H : Heap) (locs : List Loc) (ls : Array Slot), 6 - j < fu → (j ≤ 6) → Wd G (fA [(h0, .inr (1, [.ref so, .ref to, .ref uo, .int (nI im), .ref x5, .int (nI lm), .ref x6, .int (nI rm), .ref x7, .ref x8, .int sd])), (so, .inr (0, [.int (nI (sN R)), .int (nI (R 0 1)), .int (nI (sF R)), .int (nI (sS R)), .int (nI (sL R)), .ref ak, .ref af, .ref ab, .ref aa])), (ak, aI G 10 (sK R)), (af, aI G 10 (sG R)), (ab, aI G 10 (sO R)), (aa, aI G 10 (sA R)), (to, .inr (0, [.int (nI (sN S)), .int (nI m0), .int (nI (sF S)), .int (nI (sS S)), .int (nI (sL S)), .ref tk, .ref tf, .ref tb, .ref ta])), (tk, aI G 10 (sK S)), (tf, aI G 10 (sG S)), (tb, aI G 10 (sO S)), (ta, aI G 10 (sA S)), (x7, aI G 7 (cN rf))]) s [(h0, .inr (1, [.ref so, .ref to, .ref uo, .int (nI im), .ref x5, .int (nI lm), .ref x6, .int (nI rm), .ref x7, .ref x8, .int sd])), (so, .inr (0, [.int (nI (sN R)), .int (nI (R 0 1)), .int (nI (sF R)), .int (nI (sS R)), .int (nI (sL R)), .ref ak, .ref af, .ref ab, .ref aa])), (ak, aI G 10 (sK R)), (af, aI G 10 (sG R)), (ab, aI G 10 (sO R)), (aa, aI G 10 (sA R)), (to, .inr (0, [.int (nI (sN Y)), .int (nI y0), .int (nI (sF Y)), .int (nI (sS Y)), .int (nI (sL Y)), .ref tk, .ref tf, .ref tb, .ref ta])), (tk, aI G 10 (sK Y)), (tf, aI G 10 (sG Y)), (tb, aI G 10 (sO Y)), (ta, aI G 10 (sA Y)), (x7, aI G 7 (cN rf))] H locs → lv_has ls 15 [(0, .ref h0), (1, .int oa), (2, .int ob), (3, .int oc), (4, .int v), (5, .int ww), (8, .int (nI (obC (orT R oaz.toNat obz.toNat ocz.toNat vz.toNat (oP j)) (orC R oaz.toNat obz.toNat ocz.toNat vz.toNat (oP j))))), (9, .int (obI (orT R oaz.toNat obz.toNat ocz.toNat vz.toNat (oP j)))), (10, .ref X.1), (11, .int (nI 6)), (12, .int (nI j))] → W p l e ({ frames := 5, cells := 0, slots := 0, locals := 129 }) s m (([.ref h0, .int oa, .int ob, .int oc, .int v, .int ww] : List Value).toArray) below meth c H locs 0 0 (MQ below (QI G [(h0, .inr (1, [.ref so, .ref to, .ref uo, .int (nI im), .ref x5, .int (nI lm), .ref x6, .int (nI rm), .ref x7, .ref x8, .int sd])), (so, .inr (0, [.int (nI (sN R)), .int (nI (R 0 1)), .int (nI (sF R)), .int (nI (sS R)), .int (nI (sL R)), .ref ak, .ref af, .ref ab, .ref aa])), (ak, aI G 10 (sK R)), (af, aI G 10 (sG R)), (ab, aI G 10 (sO R)), (aa, aI G 10 (sA R)), (to, .inr (0, [.int (nI (sN S)), .int (nI m0), .int (nI (sF S)), .int (nI (sS S)), .int (nI (sL S)), .ref tk, .ref tf, .ref tb, .ref ta])), (tk, aI G 10 (sK S)), (tf, aI G 10 (sG S)), (tb, aI G 10 (sO S)), (ta, aI G 10 (sA S)), (x7, aI G 7 (cN rf))] (fun (r : Int32) (u : Nat × RT) => r = anI (cOrd R oaz obz ocz vz wwz) (vOrd R oaz.toNat obz.toNat ocz.toNat vz.toNat wwz)) (fun u => [(h0, .inr (1, [.ref so, .ref to, .ref uo, .int (nI im), .ref x5, .int (nI lm), .ref x6, .int (nI rm), .ref x7, .ref x8, .int sd])), (so, .inr (0, [.int (nI (sN R)), .int (nI (R 0 1)), .int (nI (sF R)), .int (nI (sS R)), .int (nI (sL R)), .ref ak, .ref af, .ref ab, .ref aa])), (ak, aI G 10 (sK R)), (af, aI G 10 (sG R)), (ab, aI G 10 (sO R)), (aa, aI G 10 (sA R)), (to, .inr (0, [.int (nI (sN u.2)), .int (nI u.1), .int (nI (sF u.2)), .int (nI (sS u.2)), .int (nI (sL u.2)), .ref tk, .ref tf, .ref tb, .ref ta])), (tk, aI G 10 (sK u.2)), (tf, aI G 10 (sG u.2)), (tb, aI G 10 (sO u.2)), (ta, aI G 10 (sA u.2)), (x7, aI G 7 (cN (rfU rf (cOrd R oaz obz ocz vz wwz))))])) (([.ref h0, .int oa, .int ob, .int oc, .int v, .int ww] : List Value).toArray) s 0 0 (fA [(h0, .inr (1, [.ref so, .ref to, .ref uo, .int (nI im), .ref x5, .int (nI lm), .ref x6, .int (nI rm), .ref x7, .ref x8, .int sd])), (so, .inr (0, [.int (nI (sN R)), .int (nI (R 0 1)), .int (nI (sF R)), .int (nI (sS R)), .int (nI (sL R)), .ref ak, .ref af, .ref ab, .ref aa])), (ak, aI G 10 (sK R)), (af, aI G 10 (sG R)), (ab, aI G 10 (sO R)), (aa, aI G 10 (sA R)), (to, .inr (0, [.int (nI (sN S)), .int (nI m0), .int (nI (sF S)), .int (nI (sS S)), .int (nI (sL S)), .ref tk, .ref tf, .ref tb, .ref ta])), (tk, aI G 10 (sK S)), (tf, aI G 10 (sG S)), (tb, aI G 10 (sO S)), (ta, aI G 10 (sA S)), (x7, aI G 7 (cN rf))])) (F0 m 127 ls []) := by
        intro fu
        induction fu with
        | zero => intro j y0 Y H locs ls hfu; exact absurd hfu (Nat.not_lt_zero _)
        | succ fu ih_127 =>
          intro j y0 Y H locs ls hfu hj hw hl
          refine lv_iload xx xb dX1_order_127 (lv_at hl 10 rfl) ?_
          refine lv_iload xx xb dX1_order_129 (lv_at hl 9 rfl) ?_
          refine lv_icmp_ge (tgt := 175) xx xb dX1_order_131 (by decide) (fun c_131 => ?_) (fun c_131 => ?_)
          · skip
            have c_131 := le_c (tN (by omega)) (tN (by omega)) c_131
            have hj66 : j = 6 := by omega
            have hoe := o_end (R := R) (a := oaz.toNat) (b := obz.toNat) (c := ocz.toNat) (v := vz.toNat)
            have hop := orT_pos R oaz.toNat obz.toNat ocz.toNat vz.toNat
            have hl : lv_has ls 15 [(0, .ref h0), (1, .int oa), (2, .int ob), (3, .int oc), (4, .int v), (5, .int ww), (8, .int (nI (orC R oaz.toNat obz.toNat ocz.toNat vz.toNat 9))), (9, .int (obI (orT R oaz.toNat obz.toNat ocz.toNat vz.toNat (oP j)))), (10, .ref X.1), (11, .int (nI 6)), (12, .int (nI j))] := by rw [hoe.2, ← show obC (orT R oaz.toNat obz.toNat ocz.toNat vz.toNat (oP j)) (orC R oaz.toNat obz.toNat ocz.toNat vz.toNat (oP j)) = orC R oaz.toNat obz.toNat ocz.toNat vz.toNat (oP 6) from by rw [hj66]; exact if_neg (by rw [← hoe.1]; omega)]; exact hl
            have hl : lv_has ls 15 [(0, .ref h0), (1, .int oa), (2, .int ob), (3, .int oc), (4, .int v), (5, .int ww), (8, .int (nI (orC R oaz.toNat obz.toNat ocz.toNat vz.toNat 9))), (9, .int (nI (orT R oaz.toNat obz.toNat ocz.toNat vz.toNat 9 - 1))), (10, .ref X.1), (11, .int (nI 6)), (12, .int (nI j))] := by rw [← show obI (orT R oaz.toNat obz.toNat ocz.toNat vz.toNat (oP j)) = nI (orT R oaz.toNat obz.toNat ocz.toNat vz.toNat 9 - 1) from by rw [hj66, ← hoe.1]; exact if_neg (by omega)]; exact hl
            refine lv_iload xx xb dX1_order_175 (lv_at hl 5 rfl) ?_
            refine lv_if_ne (tgt := 185) xx xb dX1_order_177 (by decide) (fun c_177 => ?_) (fun c_177 => ?_)
            · skip
              have c_177 := ne_c h_ww Int32.toInt_zero c_177
              refine lv_iload xx xb dX1_order_185 (lv_at hl 7 rfl) ?_
              refine re_i (vOrd R oaz.toNat obz.toNat ocz.toNat vz.toNat wwz) (by unfold vOrd; first | exact (if_pos (by omega)).symm | exact (if_neg (by omega)).symm) ?_
              have hc : cOrd R oaz obz ocz vz wwz = 0 := by first | assumption | rfl
              exact rt_i C hw (y0, Y) (by exact (anI_0 hc _).symm) (by rw [rfU_0 hc]) dX1_order_187
            · skip
              have c_177 := eq_c h_ww Int32.toInt_zero c_177
              refine lv_iload xx xb dX1_order_180 (lv_at hl 6 rfl) ?_
              refine lv_goto (tgt := 187) xx xb dX1_order_182 (by decide) ?_
              refine re_i (vOrd R oaz.toNat obz.toNat ocz.toNat vz.toNat wwz) (by unfold vOrd; first | exact (if_pos (by omega)).symm | exact (if_neg (by omega)).symm) ?_
              have hc : cOrd R oaz obz ocz vz wwz = 0 := by first | assumption | rfl
              exact rt_i C hw (y0, Y) (by exact (anI_0 hc _).symm) (by rw [rfU_0 hc]) dX1_order_187
          · skip
            have c_131 := nle_c (tN (by omega)) (tN (by omega)) c_131
            have hj6 : j < 6 := by omega
            refine lv_aload xx xb dX1_order_134 (lv_at hl 8 rfl) ?_
            refine lv_iload xx xb dX1_order_136 (lv_at hl 10 rfl) ?_
            refine va_ti xx xb hE.1.2 hw.2.2 (vp_in_nI (by omega) (by decide)) (v := .int (nI (ordN j))) (by rw [nI_clamp (by omega)]) dX1_order_138 ?_
            refine lv_istore (lv' := [(13, .int (nI (ordN j))), (0, .ref h0), (1, .int oa), (2, .int ob), (3, .int oc), (4, .int v), (5, .int ww), (8, .int (nI (obC (orT R oaz.toNat obz.toNat ocz.toNat vz.toNat (oP j)) (orC R oaz.toNat obz.toNat ocz.toNat vz.toNat (oP j))))), (9, .int (obI (orT R oaz.toNat obz.toNat ocz.toNat vz.toNat (oP j)))), (10, .ref X.1), (11, .int (nI 6)), (12, .int (nI j))]) xx xb dX1_order_139 hl (by decide) rfl (fun ls hl => ?_)
            refine lv_aload_n xx xb dX1_order_141 rfl (lv_at hl 1 rfl) ?_
            refine lv_iload xx xb dX1_order_142 (lv_at hl 0 rfl) ?_
            refine re_i (nI (100 * (oX j) + 10 * (oY j) + (oZ j))) (congrArg nI (o_all j hj6).1) ?_
            refine lv_iload_n xx xb dX1_order_144 rfl (lv_at hl 2 rfl) ?_
            refine re_i (nI oaz.toNat) (ofT h_oa (by omega) (by omega)) ?_
            refine lv_iload_n xx xb dX1_order_145 rfl (lv_at hl 3 rfl) ?_
            refine re_i (nI obz.toNat) (ofT h_ob (by omega) (by omega)) ?_
            refine lv_iload_n xx xb dX1_order_146 rfl (lv_at hl 4 rfl) ?_
            refine re_i (nI ocz.toNat) (ofT h_oc (by omega) (by omega)) ?_
            refine lv_iload xx xb dX1_order_147 (lv_at hl 5 rfl) ?_
            refine re_i (nI vz.toNat) (ofT h_v (by omega) (by omega)) ?_
            have hM := kX1_standingByOrder l G h0 so to uo x5 x6 x7 x8 im lm rm sd ak af ab aa R tk tf tb ta y0 Y (oX j) (oY j) (oZ j) oaz.toNat obz.toNat ocz.toNat vz.toNat (by first | assumption | omega) (by first | assumption | omega) (by first | assumption | omega) ((o_all j hj6).2.1) ((o_all j hj6).2.2.1) ((o_all j hj6).2.2.2.1) (by omega) (by omega) (by omega) (by omega)
            refine cv_i C hw hM yvX1_standingByOrder ml_X1_175 0 rfl rfl rfl [0, 1, 2, 3, 4, 5, 6, 7, 8, 9, 10] rfl rfl (fun _ => (rfl : ([h0, so, ak, af, ab, aa, to, tk, tf, tb, ta] : List Nat) = [h0, so, ak, af, ab, aa, to, tk, tf, tb, ta])) (by decide) ⟨Nat.zero_le _, Nat.zero_le _⟩ hl.1 rfl (Nat.le_of_ble_eq_true rfl) dX1_order_149 (fun r u H locs hr hw => ?_)
            obtain ⟨u1, hu1⟩ : ∃ z, z = u := ⟨_, rfl⟩
            subst hu1
            have hw : Wd G (fA [(h0, .inr (1, [.ref so, .ref to, .ref uo, .int (nI im), .ref x5, .int (nI lm), .ref x6, .int (nI rm), .ref x7, .ref x8, .int sd])), (so, .inr (0, [.int (nI (sN R)), .int (nI (R 0 1)), .int (nI (sF R)), .int (nI (sS R)), .int (nI (sL R)), .ref ak, .ref af, .ref ab, .ref aa])), (ak, aI G 10 (sK R)), (af, aI G 10 (sG R)), (ab, aI G 10 (sO R)), (aa, aI G 10 (sA R)), (to, .inr (0, [.int (nI (sN S)), .int (nI m0), .int (nI (sF S)), .int (nI (sS S)), .int (nI (sL S)), .ref tk, .ref tf, .ref tb, .ref ta])), (tk, aI G 10 (sK S)), (tf, aI G 10 (sG S)), (tb, aI G 10 (sO S)), (ta, aI G 10 (sA S)), (x7, aI G 7 (cN rf))]) s [(h0, .inr (1, [.ref so, .ref to, .ref uo, .int (nI im), .ref x5, .int (nI lm), .ref x6, .int (nI rm), .ref x7, .ref x8, .int sd])), (so, .inr (0, [.int (nI (sN R)), .int (nI (R 0 1)), .int (nI (sF R)), .int (nI (sS R)), .int (nI (sL R)), .ref ak, .ref af, .ref ab, .ref aa])), (ak, aI G 10 (sK R)), (af, aI G 10 (sG R)), (ab, aI G 10 (sO R)), (aa, aI G 10 (sA R)), (to, .inr (0, [.int (nI (sN u1)), .int (nI (R 0 1 + 7)), .int (nI (sF u1)), .int (nI (sS u1)), .int (nI (sL u1)), .ref tk, .ref tf, .ref tb, .ref ta])), (tk, aI G 10 (sK u1)), (tf, aI G 10 (sG u1)), (tb, aI G 10 (sO u1)), (ta, aI G 10 (sA u1)), (x7, aI G 7 (cN rf))] H locs := hw
            obtain ⟨hr, hq1⟩ := hr
            subst hr
            refine re_i (nI (orS R oaz.toNat obz.toNat ocz.toNat vz.toNat (oQ j))) (congrArg nI (orS_j hj6)) ?_
            have hsl := orS_le R hn oaz.toNat obz.toNat ocz.toNat vz.toNat (oQ j)
            have htl := orT_le R hn oaz.toNat obz.toNat ocz.toNat vz.toNat (oP j)
            refine lv_istore (lv' := [(14, .int (nI (orS R oaz.toNat obz.toNat ocz.toNat vz.toNat (oQ j)))), (13, .int (nI (ordN j))), (0, .ref h0), (1, .int oa), (2, .int ob), (3, .int oc), (4, .int v), (5, .int ww), (8, .int (nI (obC (orT R oaz.toNat obz.toNat ocz.toNat vz.toNat (oP j)) (orC R oaz.toNat obz.toNat ocz.toNat vz.toNat (oP j))))), (9, .int (obI (orT R oaz.toNat obz.toNat ocz.toNat vz.toNat (oP j)))), (10, .ref X.1), (11, .int (nI 6)), (12, .int (nI j))]) xx xb dX1_order_152 hl (by decide) rfl (fun ls hl => ?_)
            refine lv_iload xx xb dX1_order_154 (lv_at hl 0 rfl) ?_
            refine lv_iload xx xb dX1_order_156 (lv_at hl 9 rfl) ?_
            refine lv_icmp_le (tgt := 169) xx xb dX1_order_158 (by decide) (fun c_158 => ?_) (fun c_158 => ?_)
            · skip
              have c_158 := (ob_le htl hsl).mp c_158
              have hon := o_next (R := R) (a := oaz.toNat) (b := obz.toNat) (c := ocz.toNat) (v := vz.toNat) hj6
              have e0 : orT R oaz.toNat obz.toNat ocz.toNat vz.toNat (oQ j) = orT R oaz.toNat obz.toNat ocz.toNat vz.toNat (oP j) := by rw [oP_q j hj6]
              have hge : ¬ (oQ j % 4 ≠ 0 ∧ orT R oaz.toNat obz.toNat ocz.toNat vz.toNat (oQ j) < orS R oaz.toNat obz.toNat ocz.toNat vz.toNat (oQ j) + 1) := fun z => by have z2 := z.2; omega
              have eT : orT R oaz.toNat obz.toNat ocz.toNat vz.toNat (oP (j + 1)) = orT R oaz.toNat obz.toNat ocz.toNat vz.toNat (oP j) := hon.1.trans ((orT_n hge).trans (by rw [oP_q j hj6]))
              have eC : orC R oaz.toNat obz.toNat ocz.toNat vz.toNat (oP (j + 1)) = orC R oaz.toNat obz.toNat ocz.toNat vz.toNat (oP j) := hon.2.trans ((orC_n hge).trans (by rw [oP_q j hj6]))
              have hl : lv_has ls 15 [(14, .int (nI (orS R oaz.toNat obz.toNat ocz.toNat vz.toNat (oQ j)))), (13, .int (nI (ordN j))), (0, .ref h0), (1, .int oa), (2, .int ob), (3, .int oc), (4, .int v), (5, .int ww), (8, .int (nI (obC (orT R oaz.toNat obz.toNat ocz.toNat vz.toNat (oP j)) (orC R oaz.toNat obz.toNat ocz.toNat vz.toNat (oP j))))), (9, .int (obI (orT R oaz.toNat obz.toNat ocz.toNat vz.toNat (oP (j + 1))))), (10, .ref X.1), (11, .int (nI 6)), (12, .int (nI j))] := by rw [show obI (orT R oaz.toNat obz.toNat ocz.toNat vz.toNat (oP (j + 1))) = obI (orT R oaz.toNat obz.toNat ocz.toNat vz.toNat (oP j)) from congrArg obI eT]; exact hl
              have hl : lv_has ls 15 [(14, .int (nI (orS R oaz.toNat obz.toNat ocz.toNat vz.toNat (oQ j)))), (13, .int (nI (ordN j))), (0, .ref h0), (1, .int oa), (2, .int ob), (3, .int oc), (4, .int v), (5, .int ww), (8, .int (nI (obC (orT R oaz.toNat obz.toNat ocz.toNat vz.toNat (oP (j + 1))) (orC R oaz.toNat obz.toNat ocz.toNat vz.toNat (oP (j + 1)))))), (9, .int (obI (orT R oaz.toNat obz.toNat ocz.toNat vz.toNat (oP (j + 1))))), (10, .ref X.1), (11, .int (nI 6)), (12, .int (nI j))] := by rw [show obC (orT R oaz.toNat obz.toNat ocz.toNat vz.toNat (oP (j + 1))) (orC R oaz.toNat obz.toNat ocz.toNat vz.toNat (oP (j + 1))) = obC (orT R oaz.toNat obz.toNat ocz.toNat vz.toNat (oP j)) (orC R oaz.toNat obz.toNat ocz.toNat vz.toNat (oP j)) from by rw [eT, eC]]; exact hl
              refine lv_iinc (v := nI (j + 1)) (lv' := [(12, .int (nI (j + 1))), (14, .int (nI (orS R oaz.toNat obz.toNat ocz.toNat vz.toNat (oQ j)))), (13, .int (nI (ordN j))), (0, .ref h0), (1, .int oa), (2, .int ob), (3, .int oc), (4, .int v), (5, .int ww), (8, .int (nI (obC (orT R oaz.toNat obz.toNat ocz.toNat vz.toNat (oP (j + 1))) (orC R oaz.toNat obz.toNat ocz.toNat vz.toNat (oP (j + 1)))))), (9, .int (obI (orT R oaz.toNat obz.toNat ocz.toNat vz.toNat (oP (j + 1))))), (10, .ref X.1), (11, .int (nI 6))]) xx xb dX1_order_169 hl (k := 12) rfl (nI_add _ 1) (by decide) rfl (fun ls hl => ?_)
              refine lv_goto (tgt := 127) xx xb dX1_order_172 (by decide) ?_
              exact ih_127 (j + 1) (R 0 1 + 7) u1 H _ ls (by omega) (by omega) hw (lv_sub hl [3, 4, 5, 6, 7, 8, 9, 10, 11, 12, 0] rfl)
            · skip
              have c_158 := mt (ob_le htl hsl).mpr c_158
              refine lv_iload xx xb dX1_order_161 (lv_at hl 0 rfl) ?_
              refine lv_istore (lv' := [(9, .int (nI (orS R oaz.toNat obz.toNat ocz.toNat vz.toNat (oQ j)))), (14, .int (nI (orS R oaz.toNat obz.toNat ocz.toNat vz.toNat (oQ j)))), (13, .int (nI (ordN j))), (0, .ref h0), (1, .int oa), (2, .int ob), (3, .int oc), (4, .int v), (5, .int ww), (8, .int (nI (obC (orT R oaz.toNat obz.toNat ocz.toNat vz.toNat (oP j)) (orC R oaz.toNat obz.toNat ocz.toNat vz.toNat (oP j))))), (10, .ref X.1), (11, .int (nI 6)), (12, .int (nI j))]) xx xb dX1_order_163 hl (by decide) rfl (fun ls hl => ?_)
              refine lv_iload xx xb dX1_order_165 (lv_at hl 2 rfl) ?_
              refine lv_istore (lv' := [(8, .int (nI (ordN j))), (9, .int (nI (orS R oaz.toNat obz.toNat ocz.toNat vz.toNat (oQ j)))), (14, .int (nI (orS R oaz.toNat obz.toNat ocz.toNat vz.toNat (oQ j)))), (13, .int (nI (ordN j))), (0, .ref h0), (1, .int oa), (2, .int ob), (3, .int oc), (4, .int v), (5, .int ww), (10, .ref X.1), (11, .int (nI 6)), (12, .int (nI j))]) xx xb dX1_order_167 hl (by decide) rfl (fun ls hl => ?_)
              have hon := o_next (R := R) (a := oaz.toNat) (b := obz.toNat) (c := ocz.toNat) (v := vz.toNat) hj6
              have e0 : orT R oaz.toNat obz.toNat ocz.toNat vz.toNat (oQ j) = orT R oaz.toNat obz.toNat ocz.toNat vz.toNat (oP j) := by rw [oP_q j hj6]
              have hlt : orT R oaz.toNat obz.toNat ocz.toNat vz.toNat (oQ j) < orS R oaz.toNat obz.toNat ocz.toNat vz.toNat (oQ j) + 1 := by omega
              have eT : orT R oaz.toNat obz.toNat ocz.toNat vz.toNat (oP (j + 1)) = orS R oaz.toNat obz.toNat ocz.toNat vz.toNat (oQ j) + 1 := hon.1.trans (orT_y ⟨(o_all j hj6).2.2.2.2.2.1, hlt⟩)
              have eC : orC R oaz.toNat obz.toNat ocz.toNat vz.toNat (oP (j + 1)) = ordN j := hon.2.trans (orC_j hj6 hlt)
              have hl : lv_has ls 15 [(8, .int (nI (ordN j))), (9, .int (obI (orT R oaz.toNat obz.toNat ocz.toNat vz.toNat (oP (j + 1))))), (14, .int (nI (orS R oaz.toNat obz.toNat ocz.toNat vz.toNat (oQ j)))), (13, .int (nI (ordN j))), (0, .ref h0), (1, .int oa), (2, .int ob), (3, .int oc), (4, .int v), (5, .int ww), (10, .ref X.1), (11, .int (nI 6)), (12, .int (nI j))] := by rw [show obI (orT R oaz.toNat obz.toNat ocz.toNat vz.toNat (oP (j + 1))) = nI (orS R oaz.toNat obz.toNat ocz.toNat vz.toNat (oQ j)) from (congrArg obI eT).trans (if_neg (by omega))]; exact hl
              have hl : lv_has ls 15 [(8, .int (nI (obC (orT R oaz.toNat obz.toNat ocz.toNat vz.toNat (oP (j + 1))) (orC R oaz.toNat obz.toNat ocz.toNat vz.toNat (oP (j + 1)))))), (9, .int (obI (orT R oaz.toNat obz.toNat ocz.toNat vz.toNat (oP (j + 1))))), (14, .int (nI (orS R oaz.toNat obz.toNat ocz.toNat vz.toNat (oQ j)))), (13, .int (nI (ordN j))), (0, .ref h0), (1, .int oa), (2, .int ob), (3, .int oc), (4, .int v), (5, .int ww), (10, .ref X.1), (11, .int (nI 6)), (12, .int (nI j))] := by rw [show obC (orT R oaz.toNat obz.toNat ocz.toNat vz.toNat (oP (j + 1))) (orC R oaz.toNat obz.toNat ocz.toNat vz.toNat (oP (j + 1))) = ordN j from (if_neg (by omega)).trans eC]; exact hl
              refine lv_iinc (v := nI (j + 1)) (lv' := [(12, .int (nI (j + 1))), (8, .int (nI (obC (orT R oaz.toNat obz.toNat ocz.toNat vz.toNat (oP (j + 1))) (orC R oaz.toNat obz.toNat ocz.toNat vz.toNat (oP (j + 1)))))), (9, .int (obI (orT R oaz.toNat obz.toNat ocz.toNat vz.toNat (oP (j + 1))))), (14, .int (nI (orS R oaz.toNat obz.toNat ocz.toNat vz.toNat (oQ j)))), (13, .int (nI (ordN j))), (0, .ref h0), (1, .int oa), (2, .int ob), (3, .int oc), (4, .int v), (5, .int ww), (10, .ref X.1), (11, .int (nI 6))]) xx xb dX1_order_169 hl (k := 12) rfl (nI_add _ 1) (by decide) rfl (fun ls hl => ?_)
              refine lv_goto (tgt := 127) xx xb dX1_order_172 (by decide) ?_
              exact ih_127 (j + 1) (R 0 1 + 7) u1 H _ ls (by omega) (by omega) hw (lv_sub hl [5, 6, 7, 8, 9, 10, 1, 2, 11, 12, 0] rfl)
      exact L_127 (_ + 1) 0 m0 S H _ ls (Nat.lt_succ_self _) (by omega) hw (lv_sub hl [6, 7, 8, 9, 10, 11, 4, 3, 2, 1, 0] rfl)
    · skip
      have c_93 := g0_n c_93
      refine lv_aload_n xx xb dX1_order_96 rfl (lv_at hl 1 rfl) ?_
      refine lv_iload xx xb dX1_order_97 (lv_at hl 0 rfl) ?_
      have hM := kX1_refuse l G h0 so to uo x5 x6 x7 x8 im lm rm sd rf (cOrd R oaz obz ocz vz wwz) (by first | assumption | omega)
      refine cv_i C hw hM yvX1_refuse ml_X1_43 0 rfl rfl rfl [0, 11] rfl rfl (fun _ => (rfl : ([h0, x7] : List Nat) = [h0, x7])) (by decide) ⟨Nat.zero_le _, Nat.zero_le _⟩ hl.1 rfl (Nat.le_of_ble_eq_true rfl) dX1_order_99 (fun r _ H locs hr hw => ?_)
      have hw : Wd G (fA [(h0, .inr (1, [.ref so, .ref to, .ref uo, .int (nI im), .ref x5, .int (nI lm), .ref x6, .int (nI rm), .ref x7, .ref x8, .int sd])), (so, .inr (0, [.int (nI (sN R)), .int (nI (R 0 1)), .int (nI (sF R)), .int (nI (sS R)), .int (nI (sL R)), .ref ak, .ref af, .ref ab, .ref aa])), (ak, aI G 10 (sK R)), (af, aI G 10 (sG R)), (ab, aI G 10 (sO R)), (aa, aI G 10 (sA R)), (to, .inr (0, [.int (nI (sN S)), .int (nI m0), .int (nI (sF S)), .int (nI (sS S)), .int (nI (sL S)), .ref tk, .ref tf, .ref tb, .ref ta])), (tk, aI G 10 (sK S)), (tf, aI G 10 (sG S)), (tb, aI G 10 (sO S)), (ta, aI G 10 (sA S)), (x7, aI G 7 (cN rf))]) s [(h0, .inr (1, [.ref so, .ref to, .ref uo, .int (nI im), .ref x5, .int (nI lm), .ref x6, .int (nI rm), .ref x7, .ref x8, .int sd])), (so, .inr (0, [.int (nI (sN R)), .int (nI (R 0 1)), .int (nI (sF R)), .int (nI (sS R)), .int (nI (sL R)), .ref ak, .ref af, .ref ab, .ref aa])), (ak, aI G 10 (sK R)), (af, aI G 10 (sG R)), (ab, aI G 10 (sO R)), (aa, aI G 10 (sA R)), (to, .inr (0, [.int (nI (sN S)), .int (nI m0), .int (nI (sF S)), .int (nI (sS S)), .int (nI (sL S)), .ref tk, .ref tf, .ref tb, .ref ta])), (tk, aI G 10 (sK S)), (tf, aI G 10 (sG S)), (tb, aI G 10 (sO S)), (ta, aI G 10 (sA S)), (x7, aI G 7 (cN (upN rf (cOrd R oaz obz ocz vz wwz) (rf (cOrd R oaz obz ocz vz wwz) + 1))))] H locs := hw
      subst hr
      have hc : cOrd R oaz obz ocz vz wwz = (cOrd R oaz obz ocz vz wwz) := by first | assumption | rfl
      have hj : (cOrd R oaz obz ocz vz wwz) ≠ 0 := by omega
      exact rt_i C hw (m0, S) (by exact (anI_r hc hj _).symm) (by rw [rfU_r hc hj]) dX1_order_102
  refine lv_aload_n xx xb dX1_order_0 rfl (lv_at hl 0 rfl) ?_
  refine m_get C hw 0 rfl fk_X1_10 rfl dX1_order_1 ?_
  refine lv_iload_n xx xb dX1_order_4 rfl (lv_at hl 1 rfl) ?_
  have hM := kX0_isThing l G so ak af ab aa (R 0 1) R oa oaz h_oa (by first | assumption | omega)
  refine cv_i C hw hM yvX0_isThing ml_X1_169 1 rfl rfl rfl [1, 2, 3, 4, 5] rfl rfl (fun _ => (rfl : ([so, ak, af, ab, aa] : List Nat) = [so, ak, af, ab, aa])) (by decide) ⟨Nat.zero_le _, Nat.zero_le _⟩ hl.1 rfl (Nat.le_of_ble_eq_true rfl) dX1_order_5 (fun r _ H locs hr hw => ?_)
  have hw : Wd G (fA [(h0, .inr (1, [.ref so, .ref to, .ref uo, .int (nI im), .ref x5, .int (nI lm), .ref x6, .int (nI rm), .ref x7, .ref x8, .int sd])), (so, .inr (0, [.int (nI (sN R)), .int (nI (R 0 1)), .int (nI (sF R)), .int (nI (sS R)), .int (nI (sL R)), .ref ak, .ref af, .ref ab, .ref aa])), (ak, aI G 10 (sK R)), (af, aI G 10 (sG R)), (ab, aI G 10 (sO R)), (aa, aI G 10 (sA R)), (to, .inr (0, [.int (nI (sN S)), .int (nI m0), .int (nI (sF S)), .int (nI (sS S)), .int (nI (sL S)), .ref tk, .ref tf, .ref tb, .ref ta])), (tk, aI G 10 (sK S)), (tf, aI G 10 (sG S)), (tb, aI G 10 (sO S)), (ta, aI G 10 (sA S)), (x7, aI G 7 (cN rf))]) s [(h0, .inr (1, [.ref so, .ref to, .ref uo, .int (nI im), .ref x5, .int (nI lm), .ref x6, .int (nI rm), .ref x7, .ref x8, .int sd])), (so, .inr (0, [.int (nI (sN R)), .int (nI (R 0 1)), .int (nI (sF R)), .int (nI (sS R)), .int (nI (sL R)), .ref ak, .ref af, .ref ab, .ref aa])), (ak, aI G 10 (sK R)), (af, aI G 10 (sG R)), (ab, aI G 10 (sO R)), (aa, aI G 10 (sA R)), (to, .inr (0, [.int (nI (sN S)), .int (nI m0), .int (nI (sF S)), .int (nI (sS S)), .int (nI (sL S)), .ref tk, .ref tf, .ref tb, .ref ta])), (tk, aI G 10 (sK S)), (tf, aI G 10 (sG S)), (tb, aI G 10 (sO S)), (ta, aI G 10 (sA S)), (x7, aI G 7 (cN rf))] H locs := hw
  subst hr
  refine lv_if_eq (tgt := 52) xx xb dX1_order_8 (by decide) (fun c_8 => ?_) (fun c_8 => ?_)
  · skip
    have c_8 := b0_c c_8
    refine lv_iconst (v := nI 0) xx xb dX1_order_52 (by decide) ?_
    refine lv_istore (lv' := [(6, .int (nI 0)), (0, .ref h0), (1, .int oa), (2, .int ob), (3, .int oc), (4, .int v), (5, .int ww)]) xx xb dX1_order_53 hl (by decide) rfl (fun ls hl => ?_)
    refine lv_iload xx xb dX1_order_55 (lv_at hl 0 rfl) ?_
    refine lv_if_eq (tgt := 64) xx xb dX1_order_57 (by decide) (fun c_57 => ?_) (fun c_57 => ?_)
    · skip
      refine lv_iconst (v := (-1)) xx xb dX1_order_64 (by decide) ?_
      refine re_i (nG (orJ R oaz obz ocz)) (by unfold orJ; first | (rw [if_pos (by omega)]; decide +kernel) | (rw [if_neg (by omega)]; decide +kernel)) ?_
      exact J_65  H _ ls  hw (lv_sub hl [1, 2, 3, 4, 5, 6] rfl)
    · skip
      exact absurd (by decide) c_57
  · skip
    have c_8 := b1_c c_8
    refine lv_aload_n xx xb dX1_order_11 rfl (lv_at hl 0 rfl) ?_
    refine m_get C hw 0 rfl fk_X1_10 rfl dX1_order_12 ?_
    refine lv_iload_n xx xb dX1_order_15 rfl (lv_at hl 2 rfl) ?_
    have hM := kX0_isThing l G so ak af ab aa (R 0 1) R ob obz h_ob (by first | assumption | omega)
    refine cv_i C hw hM yvX0_isThing ml_X1_169 1 rfl rfl rfl [1, 2, 3, 4, 5] rfl rfl (fun _ => (rfl : ([so, ak, af, ab, aa] : List Nat) = [so, ak, af, ab, aa])) (by decide) ⟨Nat.zero_le _, Nat.zero_le _⟩ hl.1 rfl (Nat.le_of_ble_eq_true rfl) dX1_order_16 (fun r _ H locs hr hw => ?_)
    have hw : Wd G (fA [(h0, .inr (1, [.ref so, .ref to, .ref uo, .int (nI im), .ref x5, .int (nI lm), .ref x6, .int (nI rm), .ref x7, .ref x8, .int sd])), (so, .inr (0, [.int (nI (sN R)), .int (nI (R 0 1)), .int (nI (sF R)), .int (nI (sS R)), .int (nI (sL R)), .ref ak, .ref af, .ref ab, .ref aa])), (ak, aI G 10 (sK R)), (af, aI G 10 (sG R)), (ab, aI G 10 (sO R)), (aa, aI G 10 (sA R)), (to, .inr (0, [.int (nI (sN S)), .int (nI m0), .int (nI (sF S)), .int (nI (sS S)), .int (nI (sL S)), .ref tk, .ref tf, .ref tb, .ref ta])), (tk, aI G 10 (sK S)), (tf, aI G 10 (sG S)), (tb, aI G 10 (sO S)), (ta, aI G 10 (sA S)), (x7, aI G 7 (cN rf))]) s [(h0, .inr (1, [.ref so, .ref to, .ref uo, .int (nI im), .ref x5, .int (nI lm), .ref x6, .int (nI rm), .ref x7, .ref x8, .int sd])), (so, .inr (0, [.int (nI (sN R)), .int (nI (R 0 1)), .int (nI (sF R)), .int (nI (sS R)), .int (nI (sL R)), .ref ak, .ref af, .ref ab, .ref aa])), (ak, aI G 10 (sK R)), (af, aI G 10 (sG R)), (ab, aI G 10 (sO R)), (aa, aI G 10 (sA R)), (to, .inr (0, [.int (nI (sN S)), .int (nI m0), .int (nI (sF S)), .int (nI (sS S)), .int (nI (sL S)), .ref tk, .ref tf, .ref tb, .ref ta])), (tk, aI G 10 (sK S)), (tf, aI G 10 (sG S)), (tb, aI G 10 (sO S)), (ta, aI G 10 (sA S)), (x7, aI G 7 (cN rf))] H locs := hw
    subst hr
    refine lv_if_eq (tgt := 52) xx xb dX1_order_19 (by decide) (fun c_19 => ?_) (fun c_19 => ?_)
    · skip
      have c_19 := b0_c c_19
      refine lv_iconst (v := nI 0) xx xb dX1_order_52 (by decide) ?_
      refine lv_istore (lv' := [(6, .int (nI 0)), (0, .ref h0), (1, .int oa), (2, .int ob), (3, .int oc), (4, .int v), (5, .int ww)]) xx xb dX1_order_53 hl (by decide) rfl (fun ls hl => ?_)
      refine lv_iload xx xb dX1_order_55 (lv_at hl 0 rfl) ?_
      refine lv_if_eq (tgt := 64) xx xb dX1_order_57 (by decide) (fun c_57 => ?_) (fun c_57 => ?_)
      · skip
        refine lv_iconst (v := (-1)) xx xb dX1_order_64 (by decide) ?_
        refine re_i (nG (orJ R oaz obz ocz)) (by unfold orJ; first | (rw [if_pos (by omega)]; decide +kernel) | (rw [if_neg (by omega)]; decide +kernel)) ?_
        exact J_65  H _ ls  hw (lv_sub hl [1, 2, 3, 4, 5, 6] rfl)
      · skip
        exact absurd (by decide) c_57
    · skip
      have c_19 := b1_c c_19
      refine lv_aload_n xx xb dX1_order_22 rfl (lv_at hl 0 rfl) ?_
      refine m_get C hw 0 rfl fk_X1_10 rfl dX1_order_23 ?_
      refine lv_iload_n xx xb dX1_order_26 rfl (lv_at hl 3 rfl) ?_
      have hM := kX0_isThing l G so ak af ab aa (R 0 1) R oc ocz h_oc (by first | assumption | omega)
      refine cv_i C hw hM yvX0_isThing ml_X1_169 1 rfl rfl rfl [1, 2, 3, 4, 5] rfl rfl (fun _ => (rfl : ([so, ak, af, ab, aa] : List Nat) = [so, ak, af, ab, aa])) (by decide) ⟨Nat.zero_le _, Nat.zero_le _⟩ hl.1 rfl (Nat.le_of_ble_eq_true rfl) dX1_order_27 (fun r _ H locs hr hw => ?_)
      have hw : Wd G (fA [(h0, .inr (1, [.ref so, .ref to, .ref uo, .int (nI im), .ref x5, .int (nI lm), .ref x6, .int (nI rm), .ref x7, .ref x8, .int sd])), (so, .inr (0, [.int (nI (sN R)), .int (nI (R 0 1)), .int (nI (sF R)), .int (nI (sS R)), .int (nI (sL R)), .ref ak, .ref af, .ref ab, .ref aa])), (ak, aI G 10 (sK R)), (af, aI G 10 (sG R)), (ab, aI G 10 (sO R)), (aa, aI G 10 (sA R)), (to, .inr (0, [.int (nI (sN S)), .int (nI m0), .int (nI (sF S)), .int (nI (sS S)), .int (nI (sL S)), .ref tk, .ref tf, .ref tb, .ref ta])), (tk, aI G 10 (sK S)), (tf, aI G 10 (sG S)), (tb, aI G 10 (sO S)), (ta, aI G 10 (sA S)), (x7, aI G 7 (cN rf))]) s [(h0, .inr (1, [.ref so, .ref to, .ref uo, .int (nI im), .ref x5, .int (nI lm), .ref x6, .int (nI rm), .ref x7, .ref x8, .int sd])), (so, .inr (0, [.int (nI (sN R)), .int (nI (R 0 1)), .int (nI (sF R)), .int (nI (sS R)), .int (nI (sL R)), .ref ak, .ref af, .ref ab, .ref aa])), (ak, aI G 10 (sK R)), (af, aI G 10 (sG R)), (ab, aI G 10 (sO R)), (aa, aI G 10 (sA R)), (to, .inr (0, [.int (nI (sN S)), .int (nI m0), .int (nI (sF S)), .int (nI (sS S)), .int (nI (sL S)), .ref tk, .ref tf, .ref tb, .ref ta])), (tk, aI G 10 (sK S)), (tf, aI G 10 (sG S)), (tb, aI G 10 (sO S)), (ta, aI G 10 (sA S)), (x7, aI G 7 (cN rf))] H locs := hw
      subst hr
      refine lv_if_eq (tgt := 52) xx xb dX1_order_30 (by decide) (fun c_30 => ?_) (fun c_30 => ?_)
      · skip
        have c_30 := b0_c c_30
        refine lv_iconst (v := nI 0) xx xb dX1_order_52 (by decide) ?_
        refine lv_istore (lv' := [(6, .int (nI 0)), (0, .ref h0), (1, .int oa), (2, .int ob), (3, .int oc), (4, .int v), (5, .int ww)]) xx xb dX1_order_53 hl (by decide) rfl (fun ls hl => ?_)
        refine lv_iload xx xb dX1_order_55 (lv_at hl 0 rfl) ?_
        refine lv_if_eq (tgt := 64) xx xb dX1_order_57 (by decide) (fun c_57 => ?_) (fun c_57 => ?_)
        · skip
          refine lv_iconst (v := (-1)) xx xb dX1_order_64 (by decide) ?_
          refine re_i (nG (orJ R oaz obz ocz)) (by unfold orJ; first | (rw [if_pos (by omega)]; decide +kernel) | (rw [if_neg (by omega)]; decide +kernel)) ?_
          exact J_65  H _ ls  hw (lv_sub hl [1, 2, 3, 4, 5, 6] rfl)
        · skip
          exact absurd (by decide) c_57
      · skip
        have c_30 := b1_c c_30
        refine lv_iload_n xx xb dX1_order_33 rfl (lv_at hl 1 rfl) ?_
        refine lv_iload_n xx xb dX1_order_34 rfl (lv_at hl 2 rfl) ?_
        refine lv_icmp_eq (tgt := 52) xx xb dX1_order_35 (by decide) (fun c_35 => ?_) (fun c_35 => ?_)
        · skip
          have c_35 := eq_c h_oa h_ob c_35
          refine lv_iconst (v := nI 0) xx xb dX1_order_52 (by decide) ?_
          refine lv_istore (lv' := [(6, .int (nI 0)), (0, .ref h0), (1, .int oa), (2, .int ob), (3, .int oc), (4, .int v), (5, .int ww)]) xx xb dX1_order_53 hl (by decide) rfl (fun ls hl => ?_)
          refine lv_iload xx xb dX1_order_55 (lv_at hl 0 rfl) ?_
          refine lv_if_eq (tgt := 64) xx xb dX1_order_57 (by decide) (fun c_57 => ?_) (fun c_57 => ?_)
          · skip
            refine lv_iconst (v := (-1)) xx xb dX1_order_64 (by decide) ?_
            refine re_i (nG (orJ R oaz obz ocz)) (by unfold orJ; first | (rw [if_pos (by omega)]; decide +kernel) | (rw [if_neg (by omega)]; decide +kernel)) ?_
            exact J_65  H _ ls  hw (lv_sub hl [1, 2, 3, 4, 5, 6] rfl)
          · skip
            exact absurd (by decide) c_57
        · skip
          have c_35 := ne_c h_oa h_ob c_35
          refine lv_iload_n xx xb dX1_order_38 rfl (lv_at hl 2 rfl) ?_
          refine lv_iload_n xx xb dX1_order_39 rfl (lv_at hl 3 rfl) ?_
          refine lv_icmp_eq (tgt := 52) xx xb dX1_order_40 (by decide) (fun c_40 => ?_) (fun c_40 => ?_)
          · skip
            have c_40 := eq_c h_ob h_oc c_40
            refine lv_iconst (v := nI 0) xx xb dX1_order_52 (by decide) ?_
            refine lv_istore (lv' := [(6, .int (nI 0)), (0, .ref h0), (1, .int oa), (2, .int ob), (3, .int oc), (4, .int v), (5, .int ww)]) xx xb dX1_order_53 hl (by decide) rfl (fun ls hl => ?_)
            refine lv_iload xx xb dX1_order_55 (lv_at hl 0 rfl) ?_
            refine lv_if_eq (tgt := 64) xx xb dX1_order_57 (by decide) (fun c_57 => ?_) (fun c_57 => ?_)
            · skip
              refine lv_iconst (v := (-1)) xx xb dX1_order_64 (by decide) ?_
              refine re_i (nG (orJ R oaz obz ocz)) (by unfold orJ; first | (rw [if_pos (by omega)]; decide +kernel) | (rw [if_neg (by omega)]; decide +kernel)) ?_
              exact J_65  H _ ls  hw (lv_sub hl [1, 2, 3, 4, 5, 6] rfl)
            · skip
              exact absurd (by decide) c_57
          · skip
            have c_40 := ne_c h_ob h_oc c_40
            refine lv_iload_n xx xb dX1_order_43 rfl (lv_at hl 1 rfl) ?_
            refine lv_iload_n xx xb dX1_order_44 rfl (lv_at hl 3 rfl) ?_
            refine lv_icmp_eq (tgt := 52) xx xb dX1_order_45 (by decide) (fun c_45 => ?_) (fun c_45 => ?_)
            · skip
              have c_45 := eq_c h_oa h_oc c_45
              refine lv_iconst (v := nI 0) xx xb dX1_order_52 (by decide) ?_
              refine lv_istore (lv' := [(6, .int (nI 0)), (0, .ref h0), (1, .int oa), (2, .int ob), (3, .int oc), (4, .int v), (5, .int ww)]) xx xb dX1_order_53 hl (by decide) rfl (fun ls hl => ?_)
              refine lv_iload xx xb dX1_order_55 (lv_at hl 0 rfl) ?_
              refine lv_if_eq (tgt := 64) xx xb dX1_order_57 (by decide) (fun c_57 => ?_) (fun c_57 => ?_)
              · skip
                refine lv_iconst (v := (-1)) xx xb dX1_order_64 (by decide) ?_
                refine re_i (nG (orJ R oaz obz ocz)) (by unfold orJ; first | (rw [if_pos (by omega)]; decide +kernel) | (rw [if_neg (by omega)]; decide +kernel)) ?_
                exact J_65  H _ ls  hw (lv_sub hl [1, 2, 3, 4, 5, 6] rfl)
              · skip
                exact absurd (by decide) c_57
            · skip
              have c_45 := ne_c h_oa h_oc c_45
              refine lv_iconst (v := nI 1) xx xb dX1_order_48 (by decide) ?_
              refine lv_goto (tgt := 53) xx xb dX1_order_49 (by decide) ?_
              refine lv_istore (lv' := [(6, .int (nI 1)), (0, .ref h0), (1, .int oa), (2, .int ob), (3, .int oc), (4, .int v), (5, .int ww)]) xx xb dX1_order_53 hl (by decide) rfl (fun ls hl => ?_)
              refine lv_iload xx xb dX1_order_55 (lv_at hl 0 rfl) ?_
              refine lv_if_eq (tgt := 64) xx xb dX1_order_57 (by decide) (fun c_57 => ?_) (fun c_57 => ?_)
              · skip
                exact absurd c_57 (by decide)
              · skip
                refine lv_iconst (v := nI 0) xx xb dX1_order_60 (by decide) ?_
                refine lv_goto (tgt := 65) xx xb dX1_order_61 (by decide) ?_
                refine re_i (nG (orJ R oaz obz ocz)) (by unfold orJ; first | (rw [if_pos (by omega)]; decide +kernel) | (rw [if_neg (by omega)]; decide +kernel)) ?_
                exact J_65  H _ ls  hw (lv_sub hl [1, 2, 3, 4, 5, 6] rfl)
