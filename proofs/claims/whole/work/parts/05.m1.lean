theorem b0_c {P : Prop} [Decidable P] (h : (if P then (1 : Int32) else 0) = 0) : ¬ P := fun q => by rw [if_pos q] at h; exact absurd h (by decide)
theorem b1_c {P : Prop} [Decidable P] (h : ¬ (if P then (1 : Int32) else 0) = 0) : P := by
  by_cases q : P
  · exact q
  · rw [if_neg q] at h; exact absurd rfl h
theorem bt_c {P : Prop} [Decidable P] (h : (if P then (1 : Int32) else 0) = nI 1) : P := by
  by_cases q : P
  · exact q
  · rw [if_neg q] at h; exact absurd h (by decide)
theorem bf_c {P : Prop} [Decidable P] (h : ¬ (if P then (1 : Int32) else 0) = nI 1) : ¬ P := fun q => h (by rw [if_pos q]; rfl)
theorem b01 (P : Prop) [Decidable P] : (if P then (1 : Int32) else 0) = 0 ∨ (if P then (1 : Int32) else 0) = 1 := by by_cases q : P <;> simp [q]
theorem r1 {P : Prop} [Decidable P] (h : P) : nI 1 = (if P then (1 : Int32) else 0) := by rw [if_pos h]; rfl
theorem r0 {P : Prop} [Decidable P] (h : ¬ P) : nI 0 = (if P then (1 : Int32) else 0) := by rw [if_neg h]; rfl
theorem onI_nn {o : Nat} (ho : o ≤ 10) (h : 0 ≤ onI o) : o < 10 := by
  have : ∀ o, o ≤ 10 → 0 ≤ onI o → o < 10 := by decide +kernel
  exact this o ho h
theorem onI_ng {o : Nat} (ho : o ≤ 10) (h : ¬ 0 ≤ onI o) : o = 10 := by
  have : ∀ o, o ≤ 10 → ¬ 0 ≤ onI o → o = 10 := by decide +kernel
  exact this o ho h
theorem most_h : ∀ g, g ≤ 3 → (if (nI g - nI 1).toInt < 0 then nI 0 else nI g - nI 1) = nI (g - 1) := by decide +kernel
theorem hb_0 {b : Bool} (h : ¬ nI (if b then 1 else 0) = nI 1) : ¬ b = true := fun q => h (by rw [q]; rfl)
theorem hb_1 {b : Bool} (h : nI (if b then 1 else 0) = nI 1) : b = true := by
  cases b
  · exact absurd h (by decide)
  · rfl
set_option maxRecDepth 100000 in
set_option maxHeartbeats 4000000 in
theorem kX2_isIn (l : Launch) (G : GT) (v : Int32) (vz : Int) (a : Int32) (az : Int) (b : Int32) (bz : Int) (h_v : v.toInt = vz) (h_a : a.toInt = az) (h_b : b.toInt = bz) : Ct l yX2_isIn cX2_isIn 3 (some .boolean) 0 0 [.int v, .int a, .int b] G [] (QI G [] (fun (r : Int32) (u : Unit) => r = if az ≤ vz ∧ vz ≤ bz then 1 else 0) (fun u => [])) := by
  refine en (by decide +kernel) (Nat.le_of_ble_eq_true rfl) ?_
  intro p e s m below meth c ls H locs C hl hw
  have xx := C.1
  have xb := C.2.1
  have hw : Wd G (fA []) s [] H locs := hw
  have hl : lv_has ls 3 [(0, .int v), (1, .int a), (2, .int b)] := hl
  refine lv_iload_n xx xb dX2_isIn_0 rfl (lv_at hl 0 rfl) ?_
  refine lv_iload_n xx xb dX2_isIn_1 rfl (lv_at hl 1 rfl) ?_
  refine lv_icmp_lt (tgt := 14) xx xb dX2_isIn_2 (by decide) (fun c_2 => ?_) (fun c_2 => ?_)
  · skip
    have c_2 := lt_c h_v h_a c_2
    refine lv_iconst (v := nI 0) xx xb dX2_isIn_14 (by decide) ?_
    exact rt_z C hw () (Or.inl rfl) (by first | exact r1 (by omega) | exact r0 (by omega)) rfl dX2_isIn_15
  · skip
    have c_2 := nlt_c h_v h_a c_2
    refine lv_iload_n xx xb dX2_isIn_5 rfl (lv_at hl 0 rfl) ?_
    refine lv_iload_n xx xb dX2_isIn_6 rfl (lv_at hl 2 rfl) ?_
    refine lv_icmp_gt (tgt := 14) xx xb dX2_isIn_7 (by decide) (fun c_7 => ?_) (fun c_7 => ?_)
    · skip
      have c_7 := lt_c h_b h_v c_7
      refine lv_iconst (v := nI 0) xx xb dX2_isIn_14 (by decide) ?_
      exact rt_z C hw () (Or.inl rfl) (by first | exact r1 (by omega) | exact r0 (by omega)) rfl dX2_isIn_15
    · skip
      have c_7 := nlt_c h_b h_v c_7
      refine lv_iconst (v := nI 1) xx xb dX2_isIn_10 (by decide) ?_
      refine lv_goto (tgt := 15) xx xb dX2_isIn_11 (by decide) ?_
      exact rt_z C hw () (Or.inr rfl) (by first | exact r1 (by omega) | exact r0 (by omega)) rfl dX2_isIn_15
set_option maxRecDepth 100000 in
set_option maxHeartbeats 4000000 in
theorem kX2_most (l : Launch) (G : GT) (v : Int32) (vz : Int) (a : Int32) (az : Int) (h_v : v.toInt = vz) (h_a : a.toInt = az) : Ct l yX2_most cX2_most 2 (some .int) 0 0 [.int v, .int a] G [] (QI G [] (fun (r : Int32) (u : Unit) => r = if az < vz then v else a) (fun u => [])) := by
  refine en (by decide +kernel) (Nat.le_of_ble_eq_true rfl) ?_
  intro p e s m below meth c ls H locs C hl hw
  have xx := C.1
  have xb := C.2.1
  have hw : Wd G (fA []) s [] H locs := hw
  have hl : lv_has ls 2 [(0, .int v), (1, .int a)] := hl
  refine lv_iload_n xx xb dX2_most_0 rfl (lv_at hl 0 rfl) ?_
  refine lv_iload_n xx xb dX2_most_1 rfl (lv_at hl 1 rfl) ?_
  refine lv_icmp_le (tgt := 9) xx xb dX2_most_2 (by decide) (fun c_2 => ?_) (fun c_2 => ?_)
  · skip
    have c_2 := le_c h_v h_a c_2
    refine lv_iload_n xx xb dX2_most_9 rfl (lv_at hl 1 rfl) ?_
    exact rt_i C hw () (by first | rw [if_pos (by omega)] | rw [if_neg (by omega)]) rfl dX2_most_10
  · skip
    have c_2 := nle_c h_v h_a c_2
    refine lv_iload_n xx xb dX2_most_5 rfl (lv_at hl 0 rfl) ?_
    refine lv_goto (tgt := 10) xx xb dX2_most_6 (by decide) ?_
    exact rt_i C hw () (by first | rw [if_pos (by omega)] | rw [if_neg (by omega)]) rfl dX2_most_10
set_option maxRecDepth 100000 in
set_option maxHeartbeats 4000000 in
theorem kX2_of (l : Launch) (G : GT) (a : Nat) (k : Nat)  : Ct l yX2_of cX2_of 2 (some .int) 0 0 [.int (nI a), .int (nI k)] G [] (QI G [] (fun (r : Int32) (u : Unit) => r = nI (4 + 5 * a + k)) (fun u => [])) := by
  refine en (by decide +kernel) (Nat.le_of_ble_eq_true rfl) ?_
  intro p e s m below meth c ls H locs C hl hw
  have xx := C.1
  have xb := C.2.1
  have hw : Wd G (fA []) s [] H locs := hw
  have hl : lv_has ls 2 [(0, .int (nI a)), (1, .int (nI k))] := hl
  refine lv_iconst (v := nI 4) xx xb dX2_of_0 (by decide) ?_
  refine lv_iconst (v := nI 5) xx xb dX2_of_1 (by decide) ?_
  refine lv_iload_n xx xb dX2_of_2 rfl (lv_at hl 0 rfl) ?_
  refine lv_imul xx xb dX2_of_3 ?_
  refine re_i (nI (5 * a)) (pk_mul _ _) ?_
  refine lv_iadd xx xb dX2_of_4 ?_
  refine re_i (nI (4 + (5 * a))) (nI_add _ _) ?_
  refine lv_iload_n xx xb dX2_of_5 rfl (lv_at hl 1 rfl) ?_
  refine lv_iadd xx xb dX2_of_6 ?_
  refine re_i (nI ((4 + (5 * a)) + k)) (nI_add _ _) ?_
  exact rt_i C hw () rfl rfl dX2_of_7
set_option maxRecDepth 100000 in
set_option maxHeartbeats 4000000 in
theorem kX2_stands (l : Launch) (G : GT) (ar : Nat) (R : RT) (a : Nat) (hR : OK R) (ha : a < R 0 0) : Ct l yX2_stands cX2_stands 2 (some .boolean) 1 21 [.ref ar, .int (nI a)] G [(ar, aI G 54 (fl R))] (QI G [(ar, aI G 54 (fl R))] (fun (r : Int32) (u : Unit) => r = if R 4 a = 0 then 1 else 0) (fun u => [(ar, aI G 54 (fl R))])) := by
  refine en (by decide +kernel) (Nat.le_of_ble_eq_true rfl) ?_
  intro p e s m below meth c ls H locs C hl hw
  have xx := C.1
  have xb := C.2.1
  have hw : Wd G (fA [(ar, aI G 54 (fl R))]) s [(ar, aI G 54 (fl R))] H locs := hw
  have hl : lv_has ls 2 [(0, .ref ar), (1, .int (nI a))] := hl
  obtain ⟨hn, hf0, hpr, hA⟩ := id hR
  obtain ⟨q1, q2, q3, q4, q5⟩ := hA a ha
  refine lv_aload_n xx xb dX2_stands_0 rfl (lv_at hl 0 rfl) ?_
  refine lv_iload_n xx xb dX2_stands_1 rfl (lv_at hl 1 rfl) ?_
  refine lv_iconst (v := nI 3) xx xb dX2_stands_2 (by decide) ?_
  have hM := kX2_of l G a 3 
  refine cs_i C hw hM ysX2_of ml_X2_44 rfl [] rfl rfl (fun _ => (rfl : ([] : List Nat) = [])) (by decide) ⟨Nat.zero_le _, Nat.zero_le _⟩ hl.1 rfl (Nat.le_of_ble_eq_true rfl) dX2_stands_3 (fun r _ H locs hr hw => ?_)
  have hw : Wd G (fA [(ar, aI G 54 (fl R))]) s [(ar, aI G 54 (fl R))] H locs := hw
  subst hr
  refine m_ald C hw 0 rfl (4 + 5 * a + 3) rfl (by omega) (by decide) dX2_stands_6 ?_
  refine re_i (nI (R 4 a)) (fl_k R (by decide) (by decide)) ?_
  refine lv_if_ne (tgt := 14) xx xb dX2_stands_7 (by decide) (fun c_7 => ?_) (fun c_7 => ?_)
  · skip
    have c_7 := ne_c (tN (by omega)) Int32.toInt_zero c_7
    refine lv_iconst (v := nI 0) xx xb dX2_stands_14 (by decide) ?_
    exact rt_z C hw () (Or.inl rfl) (by first | exact r1 (by omega) | exact r0 (by omega)) rfl dX2_stands_15
  · skip
    have c_7 := eq_c (tN (by omega)) Int32.toInt_zero c_7
    refine lv_iconst (v := nI 1) xx xb dX2_stands_10 (by decide) ?_
    refine lv_goto (tgt := 15) xx xb dX2_stands_11 (by decide) ?_
    exact rt_z C hw () (Or.inr rfl) (by first | exact r1 (by omega) | exact r0 (by omega)) rfl dX2_stands_15
set_option maxRecDepth 100000 in
set_option maxHeartbeats 4000000 in
theorem kX2_has (l : Launch) (G : GT) (S : Nat) (k : Nat) (hS : S < 2147483648) (hk : k < 31) : Ct l yX2_has cX2_has 2 (some .boolean) 0 0 [.int (nI S), .int (nI k)] G [] (QI G [] (fun (r : Int32) (u : Unit) => r = if S.testBit k = true then 1 else 0) (fun u => [])) := by
  refine en (by decide +kernel) (Nat.le_of_ble_eq_true rfl) ?_
  intro p e s m below meth c ls H locs C hl hw
  have xx := C.1
  have xb := C.2.1
  have hw : Wd G (fA []) s [] H locs := hw
  have hl : lv_has ls 2 [(0, .int (nI S)), (1, .int (nI k))] := hl
  refine lv_iload_n xx xb dX2_has_0 rfl (lv_at hl 0 rfl) ?_
  refine lv_iload_n xx xb dX2_has_1 rfl (lv_at hl 1 rfl) ?_
  refine lv_ishr xx xb dX2_has_2 ?_
  refine lv_iconst (v := nI 1) xx xb dX2_has_3 (by decide) ?_
  refine lv_iand xx xb dX2_has_4 ?_
  refine re_i (nI (if S.testBit k then 1 else 0)) (bit_N hS (by omega)) ?_
  refine lv_iconst (v := nI 1) xx xb dX2_has_5 (by decide) ?_
  refine lv_icmp_ne (tgt := 13) xx xb dX2_has_6 (by decide) (fun c_6 => ?_) (fun c_6 => ?_)
  · skip
    have c_6 := hb_0 c_6
    refine lv_iconst (v := nI 0) xx xb dX2_has_13 (by decide) ?_
    exact rt_z C hw () (Or.inl rfl) (by first | exact r1 c_6 | exact r0 c_6) rfl dX2_has_14
  · skip
    have c_6 := hb_1 c_6
    refine lv_iconst (v := nI 1) xx xb dX2_has_9 (by decide) ?_
    refine lv_goto (tgt := 14) xx xb dX2_has_10 (by decide) ?_
    exact rt_z C hw () (Or.inr rfl) (by first | exact r1 c_6 | exact r0 c_6) rfl dX2_has_14
set_option maxRecDepth 100000 in
set_option maxHeartbeats 4000000 in
theorem kX2_bits (l : Launch) (G : GT) (S : Nat) (hS : S < 1024) : Ct l yX2_bits cX2_bits 3 (some .int) 0 0 [.int (nI S)] G [] (QI G [] (fun (r : Int32) (u : Unit) => r = nI (pc S)) (fun u => [])) := by
  refine en (by decide +kernel) (Nat.le_of_ble_eq_true rfl) ?_
  intro p e s m below meth c ls H locs C hl hw
  have xx := C.1
  have xb := C.2.1
  have hw : Wd G (fA []) s [] H locs := hw
  have hl : lv_has ls 3 [(0, .int (nI S))] := hl
  refine lv_iconst (v := nI 0) xx xb dX2_bits_0 (by decide) ?_
  refine lv_istore_n (lv' := [(1, .int (nI 0)), (0, .int (nI S))]) xx xb dX2_bits_1 rfl hl (by decide) rfl (fun ls hl => ?_)
  refine lv_iconst (v := nI 0) xx xb dX2_bits_2 (by decide) ?_
  refine lv_istore_n (lv' := [(2, .int (nI 0)), (1, .int (nI 0)), (0, .int (nI S))]) xx xb dX2_bits_3 rfl hl (by decide) rfl (fun ls hl => ?_)
  have L_4 : ∀ (fu : Nat) (i : Nat) (H : Heap) (locs : List Loc) (ls : Array Slot), 10 - i < fu → (i ≤ 10) → Wd G (fA []) s [] H locs → lv_has ls 3 [(0, .int (nI S)), (1, .int (nI (ct (fun k => S.testBit k) i))), (2, .int (nI i))] → W p l e ({ frames := 0, cells := 0, slots := 0, locals := 0 }) s m (([.int (nI S)] : List Value).toArray) below meth c H locs 0 0 (MQ below (QI G [] (fun (r : Int32) (u : Unit) => r = nI (pc S)) (fun u => [])) (([.int (nI S)] : List Value).toArray) s 0 0 (fA [])) (F0 m 4 ls []) := by
    intro fu
    induction fu with
    | zero => intro i H locs ls hfu; exact absurd hfu (Nat.not_lt_zero _)
    | succ fu ih_4 =>
      intro i H locs ls hfu hi hw hl
      refine lv_iload_n xx xb dX2_bits_4 rfl (lv_at hl 2 rfl) ?_
      refine lv_bipush (v := nI 10) xx xb dX2_bits_5 (by decide) ?_
      refine lv_icmp_ge (tgt := 24) xx xb dX2_bits_7 (by decide) (fun c_7 => ?_) (fun c_7 => ?_)
      · skip
        have c_7 := le_c (tN (by omega)) (tN (by omega)) c_7
        refine lv_iload_n xx xb dX2_bits_24 rfl (lv_at hl 1 rfl) ?_
        exact rt_i C hw () (by rw [show i = 10 by omega]; rfl) rfl dX2_bits_25
      · skip
        have c_7 := nle_c (tN (by omega)) (tN (by omega)) c_7
        refine lv_iload_n xx xb dX2_bits_10 rfl (lv_at hl 1 rfl) ?_
        refine lv_iload_n xx xb dX2_bits_11 rfl (lv_at hl 0 rfl) ?_
        refine lv_iload_n xx xb dX2_bits_12 rfl (lv_at hl 2 rfl) ?_
        refine lv_ishr xx xb dX2_bits_13 ?_
        refine lv_iconst (v := nI 1) xx xb dX2_bits_14 (by decide) ?_
        refine lv_iand xx xb dX2_bits_15 ?_
        refine re_i (nI (if S.testBit i then 1 else 0)) (bit_N (by omega) (by omega)) ?_
        refine lv_iadd xx xb dX2_bits_16 ?_
        refine re_i (nI ((ct (fun k => S.testBit k) i) + (if S.testBit i then 1 else 0))) (nI_add _ _) ?_
        refine lv_istore_n (lv' := [(1, .int (nI ((ct (fun k => S.testBit k) i) + (if S.testBit i then 1 else 0)))), (0, .int (nI S)), (2, .int (nI i))]) xx xb dX2_bits_17 rfl hl (by decide) rfl (fun ls hl => ?_)
        refine lv_iinc (v := nI (i + 1)) (lv' := [(2, .int (nI (i + 1))), (1, .int (nI ((ct (fun k => S.testBit k) i) + (if S.testBit i then 1 else 0)))), (0, .int (nI S))]) xx xb dX2_bits_18 hl (k := 2) rfl (nI_add _ 1) (by decide) rfl (fun ls hl => ?_)
        refine lv_goto (tgt := 4) xx xb dX2_bits_21 (by decide) ?_
        exact ih_4 (i + 1) H _ ls (by omega) (by omega) hw (lv_sub hl [2, 1, 0] rfl)
  exact L_4 (_ + 1) 0 H _ ls (Nat.lt_succ_self _) (by omega) hw (lv_sub hl [2, 1, 0] rfl)
set_option maxRecDepth 100000 in
set_option maxHeartbeats 4000000 in
theorem kX2_grip (l : Launch) (G : GT) (ar : Nat) (R : RT) (a : Nat) (hR : OK R) (ha : a < R 0 0) : Ct l yX2_grip cX2_grip 3 (some .int) 1 21 [.ref ar, .int (nI a)] G [(ar, aI G 54 (fl R))] (QI G [(ar, aI G 54 (fl R))] (fun (r : Int32) (u : Unit) => r = nI (gripF R a)) (fun u => [(ar, aI G 54 (fl R))])) := by
  refine en (by decide +kernel) (Nat.le_of_ble_eq_true rfl) ?_
  intro p e s m below meth c ls H locs C hl hw
  have xx := C.1
  have xb := C.2.1
  have hw : Wd G (fA [(ar, aI G 54 (fl R))]) s [(ar, aI G 54 (fl R))] H locs := hw
  have hl : lv_has ls 3 [(0, .ref ar), (1, .int (nI a))] := hl
  obtain ⟨hn, hf0, hpr, hA⟩ := id hR
  obtain ⟨q1, q2, q3, q4, q5⟩ := hA a ha
  refine lv_aload_n xx xb dX2_grip_0 rfl (lv_at hl 0 rfl) ?_
  refine lv_iload_n xx xb dX2_grip_1 rfl (lv_at hl 1 rfl) ?_
  refine lv_iconst (v := nI 1) xx xb dX2_grip_2 (by decide) ?_
  have hM := kX2_of l G a 1 
  refine cs_i C hw hM ysX2_of ml_X2_44 rfl [] rfl rfl (fun _ => (rfl : ([] : List Nat) = [])) (by decide) ⟨Nat.zero_le _, Nat.zero_le _⟩ hl.1 rfl (Nat.le_of_ble_eq_true rfl) dX2_grip_3 (fun r _ H locs hr hw => ?_)
  have hw : Wd G (fA [(ar, aI G 54 (fl R))]) s [(ar, aI G 54 (fl R))] H locs := hw
  subst hr
  refine m_ald C hw 0 rfl (4 + 5 * a + 1) rfl (by omega) (by decide) dX2_grip_6 ?_
  refine re_i (nI (R 2 a)) (fl_k R (by decide) (by decide)) ?_
  refine lv_istore_n (lv' := [(2, .int (nI (R 2 a))), (0, .ref ar), (1, .int (nI a))]) xx xb dX2_grip_7 rfl hl (by decide) rfl (fun ls hl => ?_)
  refine lv_aload_n xx xb dX2_grip_8 rfl (lv_at hl 1 rfl) ?_
  refine lv_iload_n xx xb dX2_grip_9 rfl (lv_at hl 2 rfl) ?_
  refine lv_iconst (v := nI 0) xx xb dX2_grip_10 (by decide) ?_
  have hM := kX2_of l G a 0 
  refine cs_i C hw hM ysX2_of ml_X2_44 rfl [] rfl rfl (fun _ => (rfl : ([] : List Nat) = [])) (by decide) ⟨Nat.zero_le _, Nat.zero_le _⟩ hl.1 rfl (Nat.le_of_ble_eq_true rfl) dX2_grip_11 (fun r _ H locs hr hw => ?_)
  have hw : Wd G (fA [(ar, aI G 54 (fl R))]) s [(ar, aI G 54 (fl R))] H locs := hw
  subst hr
  refine m_ald C hw 0 rfl (4 + 5 * a + 0) rfl (by omega) (by decide) dX2_grip_14 ?_
  refine re_i (nI (R 1 a)) (fl_k R (by decide) (by decide)) ?_
  by_cases k_15_1 : (R 1 a) = 1
  · skip
    refine re_i (nI 1) (by rw [k_15_1]) ?_
    refine lv_tableIn (off := 33) (tgt := 48) xx xb dX2_grip_15 (by decide +kernel) (by decide +kernel) (by decide +kernel) (by decide) ?_
    refine lv_bipush (v := nI 9) xx xb dX2_grip_48 (by decide) ?_
    refine lv_iload_n xx xb dX2_grip_50 rfl (lv_at hl 0 rfl) ?_
    refine lv_isub xx xb dX2_grip_51 ?_
    refine re_i (nI (9 - (R 2 a))) (pk_sub (by omega)) ?_
    exact rt_i C hw () (by simp only [gripF]; first | rw [if_pos (by assumption)] | (rw [if_neg (by assumption), if_pos (by assumption)]) | (rw [if_neg (by assumption), if_neg (by assumption), if_pos (by assumption)]) | (rw [if_neg (by assumption), if_neg (by assumption), if_neg (by assumption), if_pos (by assumption)]) | (rw [if_neg (by assumption), if_neg (by assumption), if_neg (by assumption), if_neg (by assumption), if_pos (by assumption)]) | (rw [if_neg (by assumption), if_neg (by assumption), if_neg (by assumption), if_neg (by assumption), if_neg (by assumption)])) rfl dX2_grip_52
  by_cases k_15_2 : (R 1 a) = 2
  · skip
    refine re_i (nI 2) (by rw [k_15_2]) ?_
    refine lv_tableIn (off := 38) (tgt := 53) xx xb dX2_grip_15 (by decide +kernel) (by decide +kernel) (by decide +kernel) (by decide) ?_
    refine lv_iload_n xx xb dX2_grip_53 rfl (lv_at hl 0 rfl) ?_
    refine lv_iconst (v := nI 2) xx xb dX2_grip_54 (by decide) ?_
    refine lv_idiv xx xb dX2_grip_55 (by decide +kernel) ?_
    refine re_i (nI ((R 2 a) / 2)) (pk_div (by omega) (by omega) (by omega)) ?_
    exact rt_i C hw () (by simp only [gripF]; first | rw [if_pos (by assumption)] | (rw [if_neg (by assumption), if_pos (by assumption)]) | (rw [if_neg (by assumption), if_neg (by assumption), if_pos (by assumption)]) | (rw [if_neg (by assumption), if_neg (by assumption), if_neg (by assumption), if_pos (by assumption)]) | (rw [if_neg (by assumption), if_neg (by assumption), if_neg (by assumption), if_neg (by assumption), if_pos (by assumption)]) | (rw [if_neg (by assumption), if_neg (by assumption), if_neg (by assumption), if_neg (by assumption), if_neg (by assumption)])) rfl dX2_grip_56
  by_cases k_15_3 : (R 1 a) = 3
  · skip
    refine re_i (nI 3) (by rw [k_15_3]) ?_
    refine lv_tableIn (off := 42) (tgt := 57) xx xb dX2_grip_15 (by decide +kernel) (by decide +kernel) (by decide +kernel) (by decide) ?_
    refine lv_iconst (v := nI 0) xx xb dX2_grip_57 (by decide) ?_
    exact rt_i C hw () (by simp only [gripF]; first | rw [if_pos (by assumption)] | (rw [if_neg (by assumption), if_pos (by assumption)]) | (rw [if_neg (by assumption), if_neg (by assumption), if_pos (by assumption)]) | (rw [if_neg (by assumption), if_neg (by assumption), if_neg (by assumption), if_pos (by assumption)]) | (rw [if_neg (by assumption), if_neg (by assumption), if_neg (by assumption), if_neg (by assumption), if_pos (by assumption)]) | (rw [if_neg (by assumption), if_neg (by assumption), if_neg (by assumption), if_neg (by assumption), if_neg (by assumption)])) rfl dX2_grip_58
  by_cases k_15_4 : (R 1 a) = 4
  · skip
    refine re_i (nI 4) (by rw [k_15_4]) ?_
    refine lv_tableIn (off := 38) (tgt := 53) xx xb dX2_grip_15 (by decide +kernel) (by decide +kernel) (by decide +kernel) (by decide) ?_
    refine lv_iload_n xx xb dX2_grip_53 rfl (lv_at hl 0 rfl) ?_
    refine lv_iconst (v := nI 2) xx xb dX2_grip_54 (by decide) ?_
    refine lv_idiv xx xb dX2_grip_55 (by decide +kernel) ?_
    refine re_i (nI ((R 2 a) / 2)) (pk_div (by omega) (by omega) (by omega)) ?_
    exact rt_i C hw () (by simp only [gripF]; first | rw [if_pos (by assumption)] | (rw [if_neg (by assumption), if_pos (by assumption)]) | (rw [if_neg (by assumption), if_neg (by assumption), if_pos (by assumption)]) | (rw [if_neg (by assumption), if_neg (by assumption), if_neg (by assumption), if_pos (by assumption)]) | (rw [if_neg (by assumption), if_neg (by assumption), if_neg (by assumption), if_neg (by assumption), if_pos (by assumption)]) | (rw [if_neg (by assumption), if_neg (by assumption), if_neg (by assumption), if_neg (by assumption), if_neg (by assumption)])) rfl dX2_grip_56
  by_cases k_15_5 : (R 1 a) = 5
  · skip
    refine re_i (nI 5) (by rw [k_15_5]) ?_
    refine lv_tableIn (off := 44) (tgt := 59) xx xb dX2_grip_15 (by decide +kernel) (by decide +kernel) (by decide +kernel) (by decide) ?_
    refine lv_bipush (v := nI 10) xx xb dX2_grip_59 (by decide) ?_
    refine lv_iload_n xx xb dX2_grip_61 rfl (lv_at hl 0 rfl) ?_
    refine lv_isub xx xb dX2_grip_62 ?_
    refine re_i (nI (10 - (R 2 a))) (pk_sub (by omega)) ?_
    exact rt_i C hw () (by simp only [gripF]; first | rw [if_pos (by assumption)] | (rw [if_neg (by assumption), if_pos (by assumption)]) | (rw [if_neg (by assumption), if_neg (by assumption), if_pos (by assumption)]) | (rw [if_neg (by assumption), if_neg (by assumption), if_neg (by assumption), if_pos (by assumption)]) | (rw [if_neg (by assumption), if_neg (by assumption), if_neg (by assumption), if_neg (by assumption), if_pos (by assumption)]) | (rw [if_neg (by assumption), if_neg (by assumption), if_neg (by assumption), if_neg (by assumption), if_neg (by assumption)])) rfl dX2_grip_63
  · skip
    refine lv_tableOut (tgt := 64) xx xb dX2_grip_15 (by rw [tN (by omega)]; omega) (by decide) ?_
    refine lv_iload_n xx xb dX2_grip_64 rfl (lv_at hl 0 rfl) ?_
    exact rt_i C hw () (by simp only [gripF]; first | rw [if_pos (by assumption)] | (rw [if_neg (by assumption), if_pos (by assumption)]) | (rw [if_neg (by assumption), if_neg (by assumption), if_pos (by assumption)]) | (rw [if_neg (by assumption), if_neg (by assumption), if_neg (by assumption), if_pos (by assumption)]) | (rw [if_neg (by assumption), if_neg (by assumption), if_neg (by assumption), if_neg (by assumption), if_pos (by assumption)]) | (rw [if_neg (by assumption), if_neg (by assumption), if_neg (by assumption), if_neg (by assumption), if_neg (by assumption)])) rfl dX2_grip_65
set_option maxRecDepth 100000 in
set_option maxHeartbeats 4000000 in
theorem kX2_setOf (l : Launch) (G : GT) (ar : Nat) (R : RT) (h : Nat) (hR : OK R) (hh : h ≤ 2) : Ct l yX2_setOf cX2_setOf 4 (some .int) 1 21 [.ref ar, .int (nI h)] G [(ar, aI G 54 (fl R))] (QI G [(ar, aI G 54 (fl R))] (fun (r : Int32) (u : Unit) => r = nI (setF R h)) (fun u => [(ar, aI G 54 (fl R))])) := by
  refine en (by decide +kernel) (Nat.le_of_ble_eq_true rfl) ?_
  intro p e s m below meth c ls H locs C hl hw
  have xx := C.1
  have xb := C.2.1
  have hw : Wd G (fA [(ar, aI G 54 (fl R))]) s [(ar, aI G 54 (fl R))] H locs := hw
  have hl : lv_has ls 4 [(0, .ref ar), (1, .int (nI h))] := hl
  obtain ⟨hn, hf0, hpr, hA⟩ := id hR
  refine lv_iconst (v := nI 0) xx xb dX2_setOf_0 (by decide) ?_
  refine lv_istore_n (lv' := [(2, .int (nI 0)), (0, .ref ar), (1, .int (nI h))]) xx xb dX2_setOf_1 rfl hl (by decide) rfl (fun ls hl => ?_)
  refine lv_iconst (v := nI 0) xx xb dX2_setOf_2 (by decide) ?_
  refine lv_istore_n (lv' := [(3, .int (nI 0)), (2, .int (nI 0)), (0, .ref ar), (1, .int (nI h))]) xx xb dX2_setOf_3 rfl hl (by decide) rfl (fun ls hl => ?_)
  have L_4 : ∀ (fu : Nat) (i : Nat) (H : Heap) (locs : List Loc) (ls : Array Slot), 10 - i < fu → (i ≤ R 0 0) → Wd G (fA [(ar, aI G 54 (fl R))]) s [(ar, aI G 54 (fl R))] H locs → lv_has ls 4 [(0, .ref ar), (1, .int (nI h)), (2, .int (nI (bs (isS R h) i))), (3, .int (nI i))] → W p l e ({ frames := 1, cells := 0, slots := 0, locals := 21 }) s m (([.ref ar, .int (nI h)] : List Value).toArray) below meth c H locs 0 0 (MQ below (QI G [(ar, aI G 54 (fl R))] (fun (r : Int32) (u : Unit) => r = nI (setF R h)) (fun u => [(ar, aI G 54 (fl R))])) (([.ref ar, .int (nI h)] : List Value).toArray) s 0 0 (fA [(ar, aI G 54 (fl R))])) (F0 m 4 ls []) := by
    intro fu
    induction fu with
    | zero => intro i H locs ls hfu; exact absurd hfu (Nat.not_lt_zero _)
    | succ fu ih_4 =>
      intro i H locs ls hfu hi hw hl
      refine lv_iload_n xx xb dX2_setOf_4 rfl (lv_at hl 3 rfl) ?_
      refine lv_aload_n xx xb dX2_setOf_5 rfl (lv_at hl 0 rfl) ?_
      refine lv_iconst (v := nI 0) xx xb dX2_setOf_6 (by decide) ?_
      refine m_ald C hw 0 rfl 0 rfl (by omega) (by decide) dX2_setOf_7 ?_
      refine re_i (nI (R 0 0)) (fl_h R (by decide)) ?_
      refine lv_icmp_ge (tgt := 38) xx xb dX2_setOf_8 (by decide) (fun c_8 => ?_) (fun c_8 => ?_)
      · skip
        have c_8 := le_c (tN (by omega)) (tN (by omega)) c_8
        refine lv_iload_n xx xb dX2_setOf_38 rfl (lv_at hl 2 rfl) ?_
        exact rt_i C hw () (by unfold setF; rw [show i = R 0 0 by omega]) rfl dX2_setOf_39
      · skip
        have c_8 := nle_c (tN (by omega)) (tN (by omega)) c_8
        obtain ⟨q1, q2, q3, q4, q5⟩ := hA i (by omega)
        refine lv_iload_n xx xb dX2_setOf_11 rfl (lv_at hl 2 rfl) ?_
        refine lv_aload_n xx xb dX2_setOf_12 rfl (lv_at hl 0 rfl) ?_
        refine lv_iload_n xx xb dX2_setOf_13 rfl (lv_at hl 3 rfl) ?_
        refine lv_iconst (v := nI 3) xx xb dX2_setOf_14 (by decide) ?_
        have hM := kX2_of l G i 3 
        refine cs_i C hw hM ysX2_of ml_X2_44 rfl [] rfl rfl (fun _ => (rfl : ([] : List Nat) = [])) (by decide) ⟨Nat.zero_le _, Nat.zero_le _⟩ hl.1 rfl (Nat.le_of_ble_eq_true rfl) dX2_setOf_15 (fun r _ H locs hr hw => ?_)
        have hw : Wd G (fA [(ar, aI G 54 (fl R))]) s [(ar, aI G 54 (fl R))] H locs := hw
        subst hr
        refine m_ald C hw 0 rfl (4 + 5 * i + 3) rfl (by omega) (by decide) dX2_setOf_18 ?_
        refine re_i (nI (R 4 i)) (fl_k R (by decide) (by decide)) ?_
        refine lv_iload_n xx xb dX2_setOf_19 rfl (lv_at hl 1 rfl) ?_
        refine lv_icmp_ne (tgt := 29) xx xb dX2_setOf_20 (by decide) (fun c_20 => ?_) (fun c_20 => ?_)
        · skip
          have c_20 := ne_c (tN (by omega)) (tN (by omega)) c_20
          refine lv_iconst (v := nI 0) xx xb dX2_setOf_29 (by decide) ?_
          refine lv_ior xx xb dX2_setOf_30 ?_
          refine re_i (nI ((bs (isS R h) i) ||| 0)) (or_N _ _) ?_
          refine re_i (nI (bs (isS R h) (i + 1))) (congrArg nI (by first | exact bs_orT (by first | assumption | (simp only [isS, decide_eq_true_eq]; omega)) | exact bs_orF (by first | assumption | (simp only [isS, decide_eq_false_iff_not]; omega)))) ?_
          refine lv_istore_n (lv' := [(2, .int (nI (bs (isS R h) (i + 1)))), (0, .ref ar), (1, .int (nI h)), (3, .int (nI i))]) xx xb dX2_setOf_31 rfl hl (by decide) rfl (fun ls hl => ?_)
          refine lv_iinc (v := nI (i + 1)) (lv' := [(3, .int (nI (i + 1))), (2, .int (nI (bs (isS R h) (i + 1)))), (0, .ref ar), (1, .int (nI h))]) xx xb dX2_setOf_32 hl (k := 3) rfl (nI_add _ 1) (by decide) rfl (fun ls hl => ?_)
          refine lv_goto (tgt := 4) xx xb dX2_setOf_35 (by decide) ?_
          exact ih_4 (i + 1) H _ ls (by omega) (by omega) hw (lv_sub hl [2, 3, 1, 0] rfl)
        · skip
          have c_20 := eq_c (tN (by omega)) (tN (by omega)) c_20
          refine lv_iconst (v := nI 1) xx xb dX2_setOf_23 (by decide) ?_
          refine lv_iload_n xx xb dX2_setOf_24 rfl (lv_at hl 3 rfl) ?_
          refine lv_ishl xx xb dX2_setOf_25 ?_
          refine re_i (nI (2 ^ i)) (shl1 (by omega)) ?_
          refine lv_goto (tgt := 30) xx xb dX2_setOf_26 (by decide) ?_
          refine lv_ior xx xb dX2_setOf_30 ?_
          refine re_i (nI ((bs (isS R h) i) ||| (2 ^ i))) (or_N _ _) ?_
          refine re_i (nI (bs (isS R h) (i + 1))) (congrArg nI (by first | exact bs_orT (by first | assumption | (simp only [isS, decide_eq_true_eq]; omega)) | exact bs_orF (by first | assumption | (simp only [isS, decide_eq_false_iff_not]; omega)))) ?_
          refine lv_istore_n (lv' := [(2, .int (nI (bs (isS R h) (i + 1)))), (0, .ref ar), (1, .int (nI h)), (3, .int (nI i))]) xx xb dX2_setOf_31 rfl hl (by decide) rfl (fun ls hl => ?_)
          refine lv_iinc (v := nI (i + 1)) (lv' := [(3, .int (nI (i + 1))), (2, .int (nI (bs (isS R h) (i + 1)))), (0, .ref ar), (1, .int (nI h))]) xx xb dX2_setOf_32 hl (k := 3) rfl (nI_add _ 1) (by decide) rfl (fun ls hl => ?_)
          refine lv_goto (tgt := 4) xx xb dX2_setOf_35 (by decide) ?_
          exact ih_4 (i + 1) H _ ls (by omega) (by omega) hw (lv_sub hl [2, 3, 1, 0] rfl)
  exact L_4 (_ + 1) 0 H _ ls (Nat.lt_succ_self _) (by omega) hw (lv_sub hl [2, 3, 1, 0] rfl)
set_option maxRecDepth 100000 in
set_option maxHeartbeats 4000000 in
theorem kX2_habit (l : Launch) (G : GT) (ar : Nat) (R : RT) (a : Nat) (sl : Bool) (hR : OK R) (ha : a < R 0 0) : Ct l yX2_habit cX2_habit 4 (some .int) 1 21 [.ref ar, .int (nI a), .int (if sl = true then 1 else 0)] G [(ar, aI G 54 (fl R))] (QI G [(ar, aI G 54 (fl R))] (fun (r : Int32) (u : Unit) => r = nI (habF R a sl)) (fun u => [(ar, aI G 54 (fl R))])) := by
  refine en (by decide +kernel) (Nat.le_of_ble_eq_true rfl) ?_
  intro p e s m below meth c ls H locs C hl hw
  have xx := C.1
  have xb := C.2.1
  have hw : Wd G (fA [(ar, aI G 54 (fl R))]) s [(ar, aI G 54 (fl R))] H locs := hw
  have hl : lv_has ls 4 [(0, .ref ar), (1, .int (nI a)), (2, .int (if sl = true then 1 else 0))] := hl
  obtain ⟨hn, hf0, hpr, hA⟩ := id hR
  obtain ⟨q1, q2, q3, q4, q5⟩ := hA a ha
  refine lv_aload_n xx xb dX2_habit_0 rfl (lv_at hl 0 rfl) ?_
  refine lv_iload_n xx xb dX2_habit_1 rfl (lv_at hl 1 rfl) ?_
  refine lv_iconst (v := nI 1) xx xb dX2_habit_2 (by decide) ?_
  have hM := kX2_of l G a 1 
  refine cs_i C hw hM ysX2_of ml_X2_44 rfl [] rfl rfl (fun _ => (rfl : ([] : List Nat) = [])) (by decide) ⟨Nat.zero_le _, Nat.zero_le _⟩ hl.1 rfl (Nat.le_of_ble_eq_true rfl) dX2_habit_3 (fun r _ H locs hr hw => ?_)
  have hw : Wd G (fA [(ar, aI G 54 (fl R))]) s [(ar, aI G 54 (fl R))] H locs := hw
  subst hr
  refine m_ald C hw 0 rfl (4 + 5 * a + 1) rfl (by omega) (by decide) dX2_habit_6 ?_
  refine re_i (nI (R 2 a)) (fl_k R (by decide) (by decide)) ?_
  refine lv_istore_n (lv' := [(3, .int (nI (R 2 a))), (0, .ref ar), (1, .int (nI a)), (2, .int (if sl = true then 1 else 0))]) xx xb dX2_habit_7 rfl hl (by decide) rfl (fun ls hl => ?_)
  refine lv_aload_n xx xb dX2_habit_8 rfl (lv_at hl 1 rfl) ?_
  refine lv_iload_n xx xb dX2_habit_9 rfl (lv_at hl 2 rfl) ?_
  refine lv_iconst (v := nI 0) xx xb dX2_habit_10 (by decide) ?_
  have hM := kX2_of l G a 0 
  refine cs_i C hw hM ysX2_of ml_X2_44 rfl [] rfl rfl (fun _ => (rfl : ([] : List Nat) = [])) (by decide) ⟨Nat.zero_le _, Nat.zero_le _⟩ hl.1 rfl (Nat.le_of_ble_eq_true rfl) dX2_habit_11 (fun r _ H locs hr hw => ?_)
  have hw : Wd G (fA [(ar, aI G 54 (fl R))]) s [(ar, aI G 54 (fl R))] H locs := hw
  subst hr
  refine m_ald C hw 0 rfl (4 + 5 * a + 0) rfl (by omega) (by decide) dX2_habit_14 ?_
  refine re_i (nI (R 1 a)) (fl_k R (by decide) (by decide)) ?_
  by_cases k_15_1 : (R 1 a) = 1
  · skip
    refine re_i (nI 1) (by rw [k_15_1]) ?_
    refine lv_tableIn (off := 33) (tgt := 48) xx xb dX2_habit_15 (by decide +kernel) (by decide +kernel) (by decide +kernel) (by decide) ?_
    refine lv_iconst (v := nI 0) xx xb dX2_habit_48 (by decide) ?_
    refine lv_iload_n xx xb dX2_habit_49 rfl (lv_at hl 0 rfl) ?_
    refine lv_iconst (v := nI 3) xx xb dX2_habit_50 (by decide) ?_
    refine lv_idiv xx xb dX2_habit_51 (by decide +kernel) ?_
    refine re_i (nI ((R 2 a) / 3)) (pk_div (by omega) (by omega) (by omega)) ?_
    refine lv_iconst (v := nI 1) xx xb dX2_habit_52 (by decide) ?_
    refine lv_isub xx xb dX2_habit_53 ?_
    have hM := kX2_most l G (nI 0) 0 ((nI ((R 2 a) / 3)) - (nI 1)) (((nI ((R 2 a) / 3)) - (nI 1)).toInt) (tN (by omega)) rfl
    refine cs_i C hw hM ysX2_most ml_X2_48 rfl [] rfl rfl (fun _ => (rfl : ([] : List Nat) = [])) (by decide) ⟨Nat.zero_le _, Nat.zero_le _⟩ hl.1 rfl (Nat.le_of_ble_eq_true rfl) dX2_habit_54 (fun r _ H locs hr hw => ?_)
    have hw : Wd G (fA [(ar, aI G 54 (fl R))]) s [(ar, aI G 54 (fl R))] H locs := hw
    subst hr
    refine re_i (nI (R 2 a / 3 - 1)) (most_h _ (by omega)) ?_
    exact rt_i C hw () (by unfold habF; simp [*]) rfl dX2_habit_57
  by_cases k_15_2 : (R 1 a) = 2
  · skip
    refine re_i (nI 2) (by rw [k_15_2]) ?_
    refine lv_tableIn (off := 43) (tgt := 58) xx xb dX2_habit_15 (by decide +kernel) (by decide +kernel) (by decide +kernel) (by decide) ?_
    refine lv_iload_n xx xb dX2_habit_58 rfl (lv_at hl 0 rfl) ?_
    refine lv_iconst (v := nI 3) xx xb dX2_habit_59 (by decide) ?_
    refine lv_idiv xx xb dX2_habit_60 (by decide +kernel) ?_
    refine re_i (nI ((R 2 a) / 3)) (pk_div (by omega) (by omega) (by omega)) ?_
    refine lv_iload_n xx xb dX2_habit_61 rfl (lv_at hl 0 rfl) ?_
    refine lv_iadd xx xb dX2_habit_62 ?_
    refine re_i (nI (((R 2 a) / 3) + (R 2 a))) (nI_add _ _) ?_
    exact rt_i C hw () (by unfold habF; simp [*]) rfl dX2_habit_63
  by_cases k_15_3 : (R 1 a) = 3
  · skip
    refine re_i (nI 3) (by rw [k_15_3]) ?_
    refine lv_tableIn (off := 49) (tgt := 64) xx xb dX2_habit_15 (by decide +kernel) (by decide +kernel) (by decide +kernel) (by decide) ?_
    refine lv_iload_n xx xb dX2_habit_64 rfl (lv_at hl 0 rfl) ?_
    refine lv_iconst (v := nI 3) xx xb dX2_habit_65 (by decide) ?_
    refine lv_idiv xx xb dX2_habit_66 (by decide +kernel) ?_
    refine re_i (nI ((R 2 a) / 3)) (pk_div (by omega) (by omega) (by omega)) ?_
    refine lv_iload_n xx xb dX2_habit_67 rfl (lv_at hl 0 rfl) ?_
    refine lv_iadd xx xb dX2_habit_68 ?_
    refine re_i (nI (((R 2 a) / 3) + (R 2 a))) (nI_add _ _) ?_
    refine lv_bipush (v := nI 20) xx xb dX2_habit_69 (by decide) ?_
    refine lv_iadd xx xb dX2_habit_71 ?_
    refine re_i (nI ((((R 2 a) / 3) + (R 2 a)) + 20)) (nI_add _ _) ?_
    exact rt_i C hw () (by unfold habF; simp [*]) rfl dX2_habit_72
  by_cases k_15_4 : (R 1 a) = 4
  · skip
    refine re_i (nI 4) (by rw [k_15_4]) ?_
    refine lv_tableIn (off := 58) (tgt := 73) xx xb dX2_habit_15 (by decide +kernel) (by decide +kernel) (by decide +kernel) (by decide) ?_
    refine lv_iload_n xx xb dX2_habit_73 rfl (lv_at hl 3 rfl) ?_
    refine lv_if_eq (tgt := 81) xx xb dX2_habit_74 (by decide) (fun c_74 => ?_) (fun c_74 => ?_)
    · skip
      have c_74 := b0_c c_74
      refine lv_iload_n xx xb dX2_habit_81 rfl (lv_at hl 0 rfl) ?_
      refine lv_iconst (v := nI 3) xx xb dX2_habit_82 (by decide) ?_
      refine lv_idiv xx xb dX2_habit_83 (by decide +kernel) ?_
      refine re_i (nI ((R 2 a) / 3)) (pk_div (by omega) (by omega) (by omega)) ?_
      refine lv_iload_n xx xb dX2_habit_84 rfl (lv_at hl 0 rfl) ?_
      refine lv_iadd xx xb dX2_habit_85 ?_
      refine re_i (nI (((R 2 a) / 3) + (R 2 a))) (nI_add _ _) ?_
      exact rt_i C hw () (by unfold habF; simp [*]) rfl dX2_habit_86
    · skip
      have c_74 := b1_c c_74
      refine lv_iconst (v := nI 0) xx xb dX2_habit_77 (by decide) ?_
      refine lv_goto (tgt := 86) xx xb dX2_habit_78 (by decide) ?_
      exact rt_i C hw () (by unfold habF; simp [*]) rfl dX2_habit_86
  by_cases k_15_5 : (R 1 a) = 5
  · skip
    refine re_i (nI 5) (by rw [k_15_5]) ?_
    refine lv_tableIn (off := 72) (tgt := 87) xx xb dX2_habit_15 (by decide +kernel) (by decide +kernel) (by decide +kernel) (by decide) ?_
    refine lv_iconst (v := nI 0) xx xb dX2_habit_87 (by decide) ?_
    refine lv_iload_n xx xb dX2_habit_88 rfl (lv_at hl 0 rfl) ?_
    refine lv_iconst (v := nI 3) xx xb dX2_habit_89 (by decide) ?_
    refine lv_idiv xx xb dX2_habit_90 (by decide +kernel) ?_
    refine re_i (nI ((R 2 a) / 3)) (pk_div (by omega) (by omega) (by omega)) ?_
    refine lv_iconst (v := nI 1) xx xb dX2_habit_91 (by decide) ?_
    refine lv_isub xx xb dX2_habit_92 ?_
    have hM := kX2_most l G (nI 0) 0 ((nI ((R 2 a) / 3)) - (nI 1)) (((nI ((R 2 a) / 3)) - (nI 1)).toInt) (tN (by omega)) rfl
    refine cs_i C hw hM ysX2_most ml_X2_48 rfl [] rfl rfl (fun _ => (rfl : ([] : List Nat) = [])) (by decide) ⟨Nat.zero_le _, Nat.zero_le _⟩ hl.1 rfl (Nat.le_of_ble_eq_true rfl) dX2_habit_93 (fun r _ H locs hr hw => ?_)
    have hw : Wd G (fA [(ar, aI G 54 (fl R))]) s [(ar, aI G 54 (fl R))] H locs := hw
    subst hr
    refine re_i (nI (R 2 a / 3 - 1)) (most_h _ (by omega)) ?_
    refine lv_iconst (v := nI 2) xx xb dX2_habit_96 (by decide) ?_
    refine lv_iadd xx xb dX2_habit_97 ?_
    refine re_i (nI ((R 2 a / 3 - 1) + 2)) (nI_add _ _) ?_
    exact rt_i C hw () (by unfold habF; simp [*]) rfl dX2_habit_98
  · skip
    refine lv_tableOut (tgt := 99) xx xb dX2_habit_15 (by rw [tN (by omega)]; omega) (by decide) ?_
    refine lv_iload_n xx xb dX2_habit_99 rfl (lv_at hl 0 rfl) ?_
    refine lv_iconst (v := nI 3) xx xb dX2_habit_100 (by decide) ?_
    refine lv_idiv xx xb dX2_habit_101 (by decide +kernel) ?_
    refine re_i (nI ((R 2 a) / 3)) (pk_div (by omega) (by omega) (by omega)) ?_
    exact rt_i C hw () (by unfold habF; simp [*]) rfl dX2_habit_102
set_option maxRecDepth 100000 in
set_option maxHeartbeats 4000000 in
theorem kX2_isHeld (l : Launch) (G : GT) (ar : Nat) (R : RT) (a : Nat) (hR : OK R) (ha : a < R 0 0) : Ct l yX2_isHeld cX2_isHeld 3 (some .boolean) 2 42 [.ref ar, .int (nI a)] G [(ar, aI G 54 (fl R))] (QI G [(ar, aI G 54 (fl R))] (fun (r : Int32) (u : Unit) => r = if heldF R a = true then 1 else 0) (fun u => [(ar, aI G 54 (fl R))])) := by
  refine en (by decide +kernel) (Nat.le_of_ble_eq_true rfl) ?_
  intro p e s m below meth c ls H locs C hl hw
  have xx := C.1
  have xb := C.2.1
  have hw : Wd G (fA [(ar, aI G 54 (fl R))]) s [(ar, aI G 54 (fl R))] H locs := hw
  have hl : lv_has ls 3 [(0, .ref ar), (1, .int (nI a))] := hl
  obtain ⟨hn, hf0, hpr, hA⟩ := id hR
  obtain ⟨q1, q2, q3, q4, q5⟩ := hA a ha
  refine lv_aload_n xx xb dX2_isHeld_0 rfl (lv_at hl 0 rfl) ?_
  refine lv_iload_n xx xb dX2_isHeld_1 rfl (lv_at hl 1 rfl) ?_
  refine lv_iconst (v := nI 2) xx xb dX2_isHeld_2 (by decide) ?_
  have hM := kX2_of l G a 2 
  refine cs_i C hw hM ysX2_of ml_X2_44 rfl [] rfl rfl (fun _ => (rfl : ([] : List Nat) = [])) (by decide) ⟨Nat.zero_le _, Nat.zero_le _⟩ hl.1 rfl (Nat.le_of_ble_eq_true rfl) dX2_isHeld_3 (fun r _ H locs hr hw => ?_)
  have hw : Wd G (fA [(ar, aI G 54 (fl R))]) s [(ar, aI G 54 (fl R))] H locs := hw
  subst hr
  refine m_ald C hw 0 rfl (4 + 5 * a + 2) rfl (by omega) (by decide) dX2_isHeld_6 ?_
  refine re_i (onI (R 3 a)) (fl_on R _) ?_
  refine lv_istore_n (lv' := [(2, .int (onI (R 3 a))), (0, .ref ar), (1, .int (nI a))]) xx xb dX2_isHeld_7 rfl hl (by decide) rfl (fun ls hl => ?_)
  refine lv_aload_n xx xb dX2_isHeld_8 rfl (lv_at hl 1 rfl) ?_
  refine lv_iconst (v := nI 3) xx xb dX2_isHeld_9 (by decide) ?_
  refine m_ald C hw 0 rfl 3 rfl (by omega) (by decide) dX2_isHeld_10 ?_
  refine re_i (nI (R 0 3)) (fl_h R (by decide)) ?_
  refine lv_iload_n xx xb dX2_isHeld_11 rfl (lv_at hl 2 rfl) ?_
  have hM := kX2_has l G (R 0 3) a (by omega) (by first | assumption | omega)
  refine cs_i C hw hM ysX2_has ml_X2_51 rfl [] rfl rfl (fun _ => (rfl : ([] : List Nat) = [])) (by decide) ⟨Nat.zero_le _, Nat.zero_le _⟩ hl.1 rfl (Nat.le_of_ble_eq_true rfl) dX2_isHeld_12 (fun r _ H locs hr hw => ?_)
  have hw : Wd G (fA [(ar, aI G 54 (fl R))]) s [(ar, aI G 54 (fl R))] H locs := hw
  subst hr
  refine lv_if_ne (tgt := 40) xx xb dX2_isHeld_15 (by decide) (fun c_15 => ?_) (fun c_15 => ?_)
  · skip
    have c_15 := b1_c c_15
    refine lv_iconst (v := nI 1) xx xb dX2_isHeld_40 (by decide) ?_
    refine lv_goto (tgt := 45) xx xb dX2_isHeld_41 (by decide) ?_
    exact rt_z C hw () (Or.inr rfl) (by first | exact r1 (heldF_iff.mpr (Or.inl c_15)) | exact r1 (heldF_iff.mpr (Or.inr (by omega))) | exact r0 (fun q => (heldF_iff.mp q).elim c_15 (fun q => by omega))) rfl dX2_isHeld_45
  · skip
    have c_15 := b0_c c_15
    refine lv_iload_n xx xb dX2_isHeld_18 rfl (lv_at hl 0 rfl) ?_
    refine lv_if_ge (tgt := 32) xx xb dX2_isHeld_19 (by decide) (fun c_19 => ?_) (fun c_19 => ?_)
    · skip
      have c_19 := onI_nn (by omega) c_19
      refine lv_aload_n xx xb dX2_isHeld_32 rfl (lv_at hl 1 rfl) ?_
      refine lv_iload_n xx xb dX2_isHeld_33 rfl (lv_at hl 0 rfl) ?_
      refine re_i (nI (R 3 a)) (onI_lt (by omega)) ?_
      have hM := kX2_stands l G ar R (R 3 a) (by first | assumption | omega) (by first | assumption | omega)
      refine cs_i C hw hM ysX2_stands ml_X2_55 rfl [0] rfl rfl (fun _ => (rfl : ([ar] : List Nat) = [ar])) (by decide) ⟨Nat.zero_le _, Nat.zero_le _⟩ hl.1 rfl (Nat.le_of_ble_eq_true rfl) dX2_isHeld_34 (fun r _ H locs hr hw => ?_)
      have hw : Wd G (fA [(ar, aI G 54 (fl R))]) s [(ar, aI G 54 (fl R))] H locs := hw
      subst hr
      refine lv_if_eq (tgt := 44) xx xb dX2_isHeld_37 (by decide) (fun c_37 => ?_) (fun c_37 => ?_)
      · skip
        have c_37 := b0_c c_37
        refine lv_iconst (v := nI 0) xx xb dX2_isHeld_44 (by decide) ?_
        exact rt_z C hw () (Or.inl rfl) (by first | exact r1 (heldF_iff.mpr (Or.inl c_15)) | exact r1 (heldF_iff.mpr (Or.inr (by omega))) | exact r0 (fun q => (heldF_iff.mp q).elim c_15 (fun q => by omega))) rfl dX2_isHeld_45
      · skip
        have c_37 := b1_c c_37
        refine lv_iconst (v := nI 1) xx xb dX2_isHeld_40 (by decide) ?_
        refine lv_goto (tgt := 45) xx xb dX2_isHeld_41 (by decide) ?_
        exact rt_z C hw () (Or.inr rfl) (by first | exact r1 (heldF_iff.mpr (Or.inl c_15)) | exact r1 (heldF_iff.mpr (Or.inr (by omega))) | exact r0 (fun q => (heldF_iff.mp q).elim c_15 (fun q => by omega))) rfl dX2_isHeld_45
    · skip
      have c_19 := onI_ng (by omega) c_19
      refine lv_aload_n xx xb dX2_isHeld_22 rfl (lv_at hl 1 rfl) ?_
      refine lv_iconst (v := nI 2) xx xb dX2_isHeld_23 (by decide) ?_
      refine m_ald C hw 0 rfl 2 rfl (by omega) (by decide) dX2_isHeld_24 ?_
      refine re_i (nI (R 0 2)) (fl_h R (by decide)) ?_
      refine lv_iconst (v := nI 1) xx xb dX2_isHeld_25 (by decide) ?_
      refine lv_icmp_ne (tgt := 44) xx xb dX2_isHeld_26 (by decide) (fun c_26 => ?_) (fun c_26 => ?_)
      · skip
        have c_26 := ne_c (tN (by omega)) (tN (by omega)) c_26
        refine lv_iconst (v := nI 0) xx xb dX2_isHeld_44 (by decide) ?_
        exact rt_z C hw () (Or.inl rfl) (by first | exact r1 (heldF_iff.mpr (Or.inl c_15)) | exact r1 (heldF_iff.mpr (Or.inr (by omega))) | exact r0 (fun q => (heldF_iff.mp q).elim c_15 (fun q => by omega))) rfl dX2_isHeld_45
      · skip
        have c_26 := eq_c (tN (by omega)) (tN (by omega)) c_26
        refine lv_goto (tgt := 40) xx xb dX2_isHeld_29 (by decide) ?_
        refine lv_iconst (v := nI 1) xx xb dX2_isHeld_40 (by decide) ?_
        refine lv_goto (tgt := 45) xx xb dX2_isHeld_41 (by decide) ?_
        exact rt_z C hw () (Or.inr rfl) (by first | exact r1 (heldF_iff.mpr (Or.inl c_15)) | exact r1 (heldF_iff.mpr (Or.inr (by omega))) | exact r0 (fun q => (heldF_iff.mp q).elim c_15 (fun q => by omega))) rfl dX2_isHeld_45
set_option maxRecDepth 100000 in
set_option maxHeartbeats 4000000 in
theorem kX2_shaken (l : Launch) (G : GT) (ar : Nat) (R : RT) (f : Nat) (v : Nat) (hR : OK R) (hf : f ≤ 10) (hv : v ≤ 9) : Ct l yX2_shaken cX2_shaken 5 (some .int) 2 43 [.ref ar, .int (onI f), .int (nI v)] G [(ar, aI G 54 (fl R))] (QI G [(ar, aI G 54 (fl R))] (fun (r : Int32) (u : Unit) => r = nI (bs (shkF R f v) (R 0 0))) (fun u => [(ar, aI G 54 (fl R))])) := by
  refine en (by decide +kernel) (Nat.le_of_ble_eq_true rfl) ?_
  intro p e s m below meth c ls H locs C hl hw
  have xx := C.1
  have xb := C.2.1
  have hw : Wd G (fA [(ar, aI G 54 (fl R))]) s [(ar, aI G 54 (fl R))] H locs := hw
  have hl : lv_has ls 5 [(0, .ref ar), (1, .int (onI f)), (2, .int (nI v))] := hl
  obtain ⟨hn, hf0, hpr, hA⟩ := id hR
  refine lv_iconst (v := nI 0) xx xb dX2_shaken_0 (by decide) ?_
  refine lv_istore_n (lv' := [(3, .int (nI 0)), (0, .ref ar), (1, .int (onI f)), (2, .int (nI v))]) xx xb dX2_shaken_1 rfl hl (by decide) rfl (fun ls hl => ?_)
  refine lv_iconst (v := nI 0) xx xb dX2_shaken_2 (by decide) ?_
  refine lv_istore (lv' := [(4, .int (nI 0)), (3, .int (nI 0)), (0, .ref ar), (1, .int (onI f)), (2, .int (nI v))]) xx xb dX2_shaken_3 hl (by decide) rfl (fun ls hl => ?_)
  have L_5 : ∀ (fu : Nat) (i : Nat) (H : Heap) (locs : List Loc) (ls : Array Slot), 10 - i < fu → (i ≤ R 0 0) → Wd G (fA [(ar, aI G 54 (fl R))]) s [(ar, aI G 54 (fl R))] H locs → lv_has ls 5 [(0, .ref ar), (1, .int (onI f)), (2, .int (nI v)), (3, .int (nI (bs (shkF R f v) i))), (4, .int (nI i))] → W p l e ({ frames := 2, cells := 0, slots := 0, locals := 43 }) s m (([.ref ar, .int (onI f), .int (nI v)] : List Value).toArray) below meth c H locs 0 0 (MQ below (QI G [(ar, aI G 54 (fl R))] (fun (r : Int32) (u : Unit) => r = nI (bs (shkF R f v) (R 0 0))) (fun u => [(ar, aI G 54 (fl R))])) (([.ref ar, .int (onI f), .int (nI v)] : List Value).toArray) s 0 0 (fA [(ar, aI G 54 (fl R))])) (F0 m 5 ls []) := by
    intro fu
    induction fu with
    | zero => intro i H locs ls hfu; exact absurd hfu (Nat.not_lt_zero _)
    | succ fu ih_5 =>
      intro i H locs ls hfu hi hw hl
      refine lv_iload xx xb dX2_shaken_5 (lv_at hl 4 rfl) ?_
      refine lv_aload_n xx xb dX2_shaken_7 rfl (lv_at hl 0 rfl) ?_
      refine lv_iconst (v := nI 0) xx xb dX2_shaken_8 (by decide) ?_
      refine m_ald C hw 0 rfl 0 rfl (by omega) (by decide) dX2_shaken_9 ?_
      refine re_i (nI (R 0 0)) (fl_h R (by decide)) ?_
      refine lv_icmp_ge (tgt := 61) xx xb dX2_shaken_10 (by decide) (fun c_10 => ?_) (fun c_10 => ?_)
      · skip
        have c_10 := le_c (tN (by omega)) (tN (by omega)) c_10
        refine lv_iload_n xx xb dX2_shaken_61 rfl (lv_at hl 3 rfl) ?_
        exact rt_i C hw () (by rw [show i = R 0 0 by omega]) rfl dX2_shaken_62
      · skip
        have c_10 := nle_c (tN (by omega)) (tN (by omega)) c_10
        obtain ⟨q1, q2, q3, q4, q5⟩ := hA i (by omega)
        have hg := gripF_le (R := R) (a := i) (by omega)
        refine lv_iload_n xx xb dX2_shaken_13 rfl (lv_at hl 3 rfl) ?_
        refine lv_aload_n xx xb dX2_shaken_14 rfl (lv_at hl 0 rfl) ?_
        refine lv_iload xx xb dX2_shaken_15 (lv_at hl 4 rfl) ?_
        have hM := kX2_stands l G ar R i (by first | assumption | omega) (by first | assumption | omega)
        refine cs_i C hw hM ysX2_stands ml_X2_55 rfl [0] rfl rfl (fun _ => (rfl : ([ar] : List Nat) = [ar])) (by decide) ⟨Nat.zero_le _, Nat.zero_le _⟩ hl.1 rfl (Nat.le_of_ble_eq_true rfl) dX2_shaken_17 (fun r _ H locs hr hw => ?_)
        have hw : Wd G (fA [(ar, aI G 54 (fl R))]) s [(ar, aI G 54 (fl R))] H locs := hw
        subst hr
        refine lv_if_eq (tgt := 52) xx xb dX2_shaken_20 (by decide) (fun c_20 => ?_) (fun c_20 => ?_)
        · skip
          have c_20 := b0_c c_20
          refine lv_iconst (v := nI 0) xx xb dX2_shaken_52 (by decide) ?_
          refine lv_ior xx xb dX2_shaken_53 ?_
          refine re_i (nI ((bs (shkF R f v) i) ||| 0)) (or_N _ _) ?_
          refine re_i (nI (bs (shkF R f v) (i + 1))) (congrArg nI (by first | exact bs_orT (shkF_iff.mpr (by omega)) | exact bs_orF (shkF_n (by omega)))) ?_
          refine lv_istore_n (lv' := [(3, .int (nI (bs (shkF R f v) (i + 1)))), (0, .ref ar), (1, .int (onI f)), (2, .int (nI v)), (4, .int (nI i))]) xx xb dX2_shaken_54 rfl hl (by decide) rfl (fun ls hl => ?_)
          refine lv_iinc (v := nI (i + 1)) (lv' := [(4, .int (nI (i + 1))), (3, .int (nI (bs (shkF R f v) (i + 1)))), (0, .ref ar), (1, .int (onI f)), (2, .int (nI v))]) xx xb dX2_shaken_55 hl (k := 4) rfl (nI_add _ 1) (by decide) rfl (fun ls hl => ?_)
          refine lv_goto (tgt := 5) xx xb dX2_shaken_58 (by decide) ?_
          exact ih_5 (i + 1) H _ ls (by omega) (by omega) hw (lv_sub hl [2, 3, 4, 1, 0] rfl)
        · skip
          have c_20 := b1_c c_20
          refine lv_aload_n xx xb dX2_shaken_23 rfl (lv_at hl 0 rfl) ?_
          refine lv_iload xx xb dX2_shaken_24 (lv_at hl 4 rfl) ?_
          refine lv_iconst (v := nI 2) xx xb dX2_shaken_26 (by decide) ?_
          have hM := kX2_of l G i 2 
          refine cs_i C hw hM ysX2_of ml_X2_44 rfl [] rfl rfl (fun _ => (rfl : ([] : List Nat) = [])) (by decide) ⟨Nat.zero_le _, Nat.zero_le _⟩ hl.1 rfl (Nat.le_of_ble_eq_true rfl) dX2_shaken_27 (fun r _ H locs hr hw => ?_)
          have hw : Wd G (fA [(ar, aI G 54 (fl R))]) s [(ar, aI G 54 (fl R))] H locs := hw
          subst hr
          refine m_ald C hw 0 rfl (4 + 5 * i + 2) rfl (by omega) (by decide) dX2_shaken_30 ?_
          refine re_i (onI (R 3 i)) (fl_on R _) ?_
          refine lv_iload_n xx xb dX2_shaken_31 rfl (lv_at hl 1 rfl) ?_
          refine lv_icmp_ne (tgt := 52) xx xb dX2_shaken_32 (by decide) (fun c_32 => ?_) (fun c_32 => ?_)
          · skip
            have c_32 := (mt (onI_inj (by omega) (by omega)).mpr c_32)
            refine lv_iconst (v := nI 0) xx xb dX2_shaken_52 (by decide) ?_
            refine lv_ior xx xb dX2_shaken_53 ?_
            refine re_i (nI ((bs (shkF R f v) i) ||| 0)) (or_N _ _) ?_
            refine re_i (nI (bs (shkF R f v) (i + 1))) (congrArg nI (by first | exact bs_orT (shkF_iff.mpr (by omega)) | exact bs_orF (shkF_n (by omega)))) ?_
            refine lv_istore_n (lv' := [(3, .int (nI (bs (shkF R f v) (i + 1)))), (0, .ref ar), (1, .int (onI f)), (2, .int (nI v)), (4, .int (nI i))]) xx xb dX2_shaken_54 rfl hl (by decide) rfl (fun ls hl => ?_)
            refine lv_iinc (v := nI (i + 1)) (lv' := [(4, .int (nI (i + 1))), (3, .int (nI (bs (shkF R f v) (i + 1)))), (0, .ref ar), (1, .int (onI f)), (2, .int (nI v))]) xx xb dX2_shaken_55 hl (k := 4) rfl (nI_add _ 1) (by decide) rfl (fun ls hl => ?_)
            refine lv_goto (tgt := 5) xx xb dX2_shaken_58 (by decide) ?_
            exact ih_5 (i + 1) H _ ls (by omega) (by omega) hw (lv_sub hl [2, 3, 4, 1, 0] rfl)
          · skip
            have c_32 := (onI_inj (by omega) (by omega)).mp c_32
            refine lv_aload_n xx xb dX2_shaken_35 rfl (lv_at hl 0 rfl) ?_
            refine lv_iload xx xb dX2_shaken_36 (lv_at hl 4 rfl) ?_
            have hM := kX2_grip l G ar R i (by first | assumption | omega) (by first | assumption | omega)
            refine cs_i C hw hM ysX2_grip ml_X2_59 rfl [0] rfl rfl (fun _ => (rfl : ([ar] : List Nat) = [ar])) (by decide) ⟨Nat.zero_le _, Nat.zero_le _⟩ hl.1 rfl (Nat.le_of_ble_eq_true rfl) dX2_shaken_38 (fun r _ H locs hr hw => ?_)
            have hw : Wd G (fA [(ar, aI G 54 (fl R))]) s [(ar, aI G 54 (fl R))] H locs := hw
            subst hr
            refine lv_iload_n xx xb dX2_shaken_41 rfl (lv_at hl 2 rfl) ?_
            refine lv_icmp_le (tgt := 52) xx xb dX2_shaken_42 (by decide) (fun c_42 => ?_) (fun c_42 => ?_)
            · skip
              have c_42 := le_c (tN (by omega)) (tN (by omega)) c_42
              refine lv_iconst (v := nI 0) xx xb dX2_shaken_52 (by decide) ?_
              refine lv_ior xx xb dX2_shaken_53 ?_
              refine re_i (nI ((bs (shkF R f v) i) ||| 0)) (or_N _ _) ?_
              refine re_i (nI (bs (shkF R f v) (i + 1))) (congrArg nI (by first | exact bs_orT (shkF_iff.mpr (by omega)) | exact bs_orF (shkF_n (by omega)))) ?_
              refine lv_istore_n (lv' := [(3, .int (nI (bs (shkF R f v) (i + 1)))), (0, .ref ar), (1, .int (onI f)), (2, .int (nI v)), (4, .int (nI i))]) xx xb dX2_shaken_54 rfl hl (by decide) rfl (fun ls hl => ?_)
              refine lv_iinc (v := nI (i + 1)) (lv' := [(4, .int (nI (i + 1))), (3, .int (nI (bs (shkF R f v) (i + 1)))), (0, .ref ar), (1, .int (onI f)), (2, .int (nI v))]) xx xb dX2_shaken_55 hl (k := 4) rfl (nI_add _ 1) (by decide) rfl (fun ls hl => ?_)
              refine lv_goto (tgt := 5) xx xb dX2_shaken_58 (by decide) ?_
              exact ih_5 (i + 1) H _ ls (by omega) (by omega) hw (lv_sub hl [2, 3, 4, 1, 0] rfl)
            · skip
              have c_42 := nle_c (tN (by omega)) (tN (by omega)) c_42
              refine lv_iconst (v := nI 1) xx xb dX2_shaken_45 (by decide) ?_
              refine lv_iload xx xb dX2_shaken_46 (lv_at hl 4 rfl) ?_
              refine lv_ishl xx xb dX2_shaken_48 ?_
              refine re_i (nI (2 ^ i)) (shl1 (by omega)) ?_
              refine lv_goto (tgt := 53) xx xb dX2_shaken_49 (by decide) ?_
              refine lv_ior xx xb dX2_shaken_53 ?_
              refine re_i (nI ((bs (shkF R f v) i) ||| (2 ^ i))) (or_N _ _) ?_
              refine re_i (nI (bs (shkF R f v) (i + 1))) (congrArg nI (by first | exact bs_orT (shkF_iff.mpr (by omega)) | exact bs_orF (shkF_n (by omega)))) ?_
              refine lv_istore_n (lv' := [(3, .int (nI (bs (shkF R f v) (i + 1)))), (0, .ref ar), (1, .int (onI f)), (2, .int (nI v)), (4, .int (nI i))]) xx xb dX2_shaken_54 rfl hl (by decide) rfl (fun ls hl => ?_)
              refine lv_iinc (v := nI (i + 1)) (lv' := [(4, .int (nI (i + 1))), (3, .int (nI (bs (shkF R f v) (i + 1)))), (0, .ref ar), (1, .int (onI f)), (2, .int (nI v))]) xx xb dX2_shaken_55 hl (k := 4) rfl (nI_add _ 1) (by decide) rfl (fun ls hl => ?_)
              refine lv_goto (tgt := 5) xx xb dX2_shaken_58 (by decide) ?_
              exact ih_5 (i + 1) H _ ls (by omega) (by omega) hw (lv_sub hl [2, 3, 4, 1, 0] rfl)
  exact L_5 (_ + 1) 0 H _ ls (Nat.lt_succ_self _) (by omega) hw (lv_sub hl [2, 3, 4, 1, 0] rfl)
set_option maxRecDepth 100000 in
set_option maxHeartbeats 4000000 in
theorem kX2_pullsIn (l : Launch) (G : GT) (ar : Nat) (R : RT) (f : Nat) (v : Nat) (hR : OK R) (hf : f = 10 ∨ f < R 0 0) (hv : v ≤ 9) : Ct l yX2_pullsIn cX2_pullsIn 5 (some .int) 3 67 [.ref ar, .int (onI f), .int (nI v)] G [(ar, aI G 54 (fl R))] (QI G [(ar, aI G 54 (fl R))] (fun (r : Int32) (u : Unit) => r = nI (ct (shkF R f v) (R 0 0))) (fun u => [(ar, aI G 54 (fl (pulF R f v)))])) := by
  refine en (by decide +kernel) (Nat.le_of_ble_eq_true rfl) ?_
  intro p e s m below meth c ls H locs C hl hw
  have xx := C.1
  have xb := C.2.1
  have hw : Wd G (fA [(ar, aI G 54 (fl R))]) s [(ar, aI G 54 (fl R))] H locs := hw
  have hl : lv_has ls 5 [(0, .ref ar), (1, .int (onI f)), (2, .int (nI v))] := hl
  obtain ⟨hn, hf0, hpr, hA⟩ := id hR
  have hb10 := bs_lt (shkF R f v) (R 0 0)
  have h210 : 2 ^ R 0 0 ≤ 2 ^ 10 := Nat.pow_le_pow_right (by decide) hn
  refine lv_aload_n xx xb dX2_pullsIn_0 rfl (lv_at hl 0 rfl) ?_
  refine lv_iload_n xx xb dX2_pullsIn_1 rfl (lv_at hl 1 rfl) ?_
  refine lv_iload_n xx xb dX2_pullsIn_2 rfl (lv_at hl 2 rfl) ?_
  have hM := kX2_shaken l G ar R f v (by first | assumption | omega) (by first | assumption | omega) (by first | assumption | omega)
  refine cs_i C hw hM ysX2_shaken ml_X2_63 rfl [0] rfl rfl (fun _ => (rfl : ([ar] : List Nat) = [ar])) (by decide) ⟨Nat.zero_le _, Nat.zero_le _⟩ hl.1 rfl (Nat.le_of_ble_eq_true rfl) dX2_pullsIn_3 (fun r _ H locs hr hw => ?_)
  have hw : Wd G (fA [(ar, aI G 54 (fl R))]) s [(ar, aI G 54 (fl R))] H locs := hw
  subst hr
  refine lv_istore_n (lv' := [(3, .int (nI (bs (shkF R f v) (R 0 0)))), (0, .ref ar), (1, .int (onI f)), (2, .int (nI v))]) xx xb dX2_pullsIn_6 rfl hl (by decide) rfl (fun ls hl => ?_)
  refine lv_iload_n xx xb dX2_pullsIn_7 rfl (lv_at hl 2 rfl) ?_
  refine lv_if_ge (tgt := 18) xx xb dX2_pullsIn_8 (by decide) (fun c_8 => ?_) (fun c_8 => ?_)
  · skip
    have c_8 := onI_nn (by omega) c_8
    refine lv_aload_n xx xb dX2_pullsIn_18 rfl (lv_at hl 1 rfl) ?_
    refine lv_iload_n xx xb dX2_pullsIn_19 rfl (lv_at hl 2 rfl) ?_
    refine re_i (nI f) (onI_lt c_8) ?_
    refine lv_iconst (v := nI 3) xx xb dX2_pullsIn_20 (by decide) ?_
    have hM := kX2_of l G f 3 
    refine cs_i C hw hM ysX2_of ml_X2_44 rfl [] rfl rfl (fun _ => (rfl : ([] : List Nat) = [])) (by decide) ⟨Nat.zero_le _, Nat.zero_le _⟩ hl.1 rfl (Nat.le_of_ble_eq_true rfl) dX2_pullsIn_21 (fun r _ H locs hr hw => ?_)
    have hw : Wd G (fA [(ar, aI G 54 (fl R))]) s [(ar, aI G 54 (fl R))] H locs := hw
    subst hr
    refine lv_iconst (v := nI 2) xx xb dX2_pullsIn_24 (by decide) ?_
    refine m_ast C hw 0 rfl (4 + 5 * f + 3) rfl (by omega) (by decide) (fl (upR R 4 f 2)) (fl_uk _ (by decide) (by decide)) dX2_pullsIn_25 (fun H locs hw => ?_)
    have hw : Wd G (fA [(ar, aI G 54 (fl R))]) s [(ar, aI G 54 (fl (upR R 4 f 2)))] H locs := hw
    have hw : Wd G (fA [(ar, aI G 54 (fl R))]) s [(ar, aI G 54 (fl (pul2 R f v 0)))] H locs := by first | (rw [← pul2_0a c_8]; exact hw) | (rw [c_8, ← pul2_0b]; exact hw)
    refine lv_iconst (v := nI 0) xx xb dX2_pullsIn_26 (by decide) ?_
    refine lv_istore (lv' := [(4, .int (nI 0)), (3, .int (nI (bs (shkF R f v) (R 0 0)))), (0, .ref ar), (1, .int (onI f)), (2, .int (nI v))]) xx xb dX2_pullsIn_27 hl (by decide) rfl (fun ls hl => ?_)
    have L_29 : ∀ (fu : Nat) (i : Nat) (H : Heap) (locs : List Loc) (ls : Array Slot), 10 - i < fu → (i ≤ R 0 0) → Wd G (fA [(ar, aI G 54 (fl R))]) s [(ar, aI G 54 (fl (pul2 R f v i)))] H locs → lv_has ls 5 [(0, .ref ar), (3, .int (nI (bs (shkF R f v) (R 0 0)))), (4, .int (nI i))] → W p l e ({ frames := 3, cells := 0, slots := 0, locals := 67 }) s m (([.ref ar, .int (onI f), .int (nI v)] : List Value).toArray) below meth c H locs 0 0 (MQ below (QI G [(ar, aI G 54 (fl R))] (fun (r : Int32) (u : Unit) => r = nI (ct (shkF R f v) (R 0 0))) (fun u => [(ar, aI G 54 (fl (pulF R f v)))])) (([.ref ar, .int (onI f), .int (nI v)] : List Value).toArray) s 0 0 (fA [(ar, aI G 54 (fl R))])) (F0 m 29 ls []) := by
      intro fu
      induction fu with
      | zero => intro i H locs ls hfu; exact absurd hfu (Nat.not_lt_zero _)
      | succ fu ih_29 =>
        intro i H locs ls hfu hi hw hl
        refine lv_iload xx xb dX2_pullsIn_29 (lv_at hl 2 rfl) ?_
        refine lv_aload_n xx xb dX2_pullsIn_31 rfl (lv_at hl 0 rfl) ?_
        refine lv_iconst (v := nI 0) xx xb dX2_pullsIn_32 (by decide) ?_
        refine m_ald C hw 0 rfl 0 rfl (by omega) (by decide) dX2_pullsIn_33 ?_
        refine re_i (nI ((pul2 R f v i) 0 0)) (fl_h (pul2 R f v i) (by decide)) ?_
        refine re_i (nI (R 0 0)) rfl ?_
        refine lv_icmp_ge (tgt := 72) xx xb dX2_pullsIn_34 (by decide) (fun c_34 => ?_) (fun c_34 => ?_)
        · skip
          have c_34 := le_c (tN (by omega)) (tN (by omega)) c_34
          have hi3 : i = R 0 0 := by omega
          have hw : Wd G (fA [(ar, aI G 54 (fl R))]) s [(ar, aI G 54 (fl (pulF R f v)))] H locs := by rw [← pul2_n hn hf, ← show i = R 0 0 by omega]; exact hw
          refine lv_iload_n xx xb dX2_pullsIn_72 rfl (lv_at hl 1 rfl) ?_
          have hM := kX2_bits l G (bs (shkF R f v) (R 0 0)) (by first | assumption | omega)
          refine cs_i C hw hM ysX2_bits ml_X2_67 rfl [] rfl rfl (fun _ => (rfl : ([] : List Nat) = [])) (by decide) ⟨Nat.zero_le _, Nat.zero_le _⟩ hl.1 rfl (Nat.le_of_ble_eq_true rfl) dX2_pullsIn_73 (fun r _ H locs hr hw => ?_)
          have hw : Wd G (fA [(ar, aI G 54 (fl R))]) s [(ar, aI G 54 (fl (pulF R f v)))] H locs := hw
          subst hr
          refine re_i (nI (ct (shkF R f v) (R 0 0))) (congrArg nI (pc_bs _ hn)) ?_
          exact rt_i C hw () rfl rfl dX2_pullsIn_76
        · skip
          have c_34 := nle_c (tN (by omega)) (tN (by omega)) c_34
          have hi2 : i < R 0 0 := by omega
          obtain ⟨q1, q2, q3, q4, q5⟩ := hA i (by omega)
          refine lv_aload_n xx xb dX2_pullsIn_37 rfl (lv_at hl 0 rfl) ?_
          refine lv_iload xx xb dX2_pullsIn_38 (lv_at hl 2 rfl) ?_
          refine lv_iconst (v := nI 3) xx xb dX2_pullsIn_40 (by decide) ?_
          have hM := kX2_of l G i 3 
          refine cs_i C hw hM ysX2_of ml_X2_44 rfl [] rfl rfl (fun _ => (rfl : ([] : List Nat) = [])) (by decide) ⟨Nat.zero_le _, Nat.zero_le _⟩ hl.1 rfl (Nat.le_of_ble_eq_true rfl) dX2_pullsIn_41 (fun r _ H locs hr hw => ?_)
          have hw : Wd G (fA [(ar, aI G 54 (fl R))]) s [(ar, aI G 54 (fl (pul2 R f v i)))] H locs := hw
          subst hr
          refine lv_iload_n xx xb dX2_pullsIn_44 rfl (lv_at hl 1 rfl) ?_
          refine lv_iload xx xb dX2_pullsIn_45 (lv_at hl 2 rfl) ?_
          have hM := kX2_has l G (bs (shkF R f v) (R 0 0)) i (by first | assumption | omega) (by first | assumption | omega)
          refine cs_i C hw hM ysX2_has ml_X2_51 rfl [] rfl rfl (fun _ => (rfl : ([] : List Nat) = [])) (by decide) ⟨Nat.zero_le _, Nat.zero_le _⟩ hl.1 rfl (Nat.le_of_ble_eq_true rfl) dX2_pullsIn_47 (fun r _ H locs hr hw => ?_)
          have hw : Wd G (fA [(ar, aI G 54 (fl R))]) s [(ar, aI G 54 (fl (pul2 R f v i)))] H locs := hw
          subst hr
          refine lv_if_eq (tgt := 57) xx xb dX2_pullsIn_50 (by decide) (fun c_50 => ?_) (fun c_50 => ?_)
          · skip
            have c_50 := b0_c c_50
            have hs : ¬ shkF R f v i = true := by rw [bs_bit] at c_50; simpa [hi2] using c_50
            refine lv_aload_n xx xb dX2_pullsIn_57 rfl (lv_at hl 0 rfl) ?_
            refine lv_iload xx xb dX2_pullsIn_58 (lv_at hl 2 rfl) ?_
            refine lv_iconst (v := nI 3) xx xb dX2_pullsIn_60 (by decide) ?_
            have hM := kX2_of l G i 3 
            refine cs_i C hw hM ysX2_of ml_X2_44 rfl [] rfl rfl (fun _ => (rfl : ([] : List Nat) = [])) (by decide) ⟨Nat.zero_le _, Nat.zero_le _⟩ hl.1 rfl (Nat.le_of_ble_eq_true rfl) dX2_pullsIn_61 (fun r _ H locs hr hw => ?_)
            have hw : Wd G (fA [(ar, aI G 54 (fl R))]) s [(ar, aI G 54 (fl (pul2 R f v i)))] H locs := hw
            subst hr
            refine m_ald C hw 0 rfl (4 + 5 * i + 3) rfl (by omega) (by decide) dX2_pullsIn_64 ?_
            refine re_i (nI ((pul2 R f v i) 4 i)) (fl_k (pul2 R f v i) (by decide) (by decide)) ?_
            refine m_ast C hw 0 rfl (4 + 5 * i + 3) rfl (by omega) (by decide) (fl (pul2 R f v (i + 1))) ((fl_uk _ (by decide) (by decide)).trans (congrArg fl (pul2_s (by first | rw [if_pos hs] | (rw [if_neg hs]; exact pul2_at (by omega)))))) dX2_pullsIn_65 (fun H locs hw => ?_)
            have hw : Wd G (fA [(ar, aI G 54 (fl R))]) s [(ar, aI G 54 (fl (pul2 R f v (i + 1))))] H locs := hw
            refine lv_iinc (v := nI (i + 1)) (lv' := [(4, .int (nI (i + 1))), (0, .ref ar), (3, .int (nI (bs (shkF R f v) (R 0 0))))]) xx xb dX2_pullsIn_66 hl (k := 2) rfl (nI_add _ 1) (by decide) rfl (fun ls hl => ?_)
            refine lv_goto (tgt := 29) xx xb dX2_pullsIn_69 (by decide) ?_
            exact ih_29 (i + 1) H _ ls (by omega) (by omega) hw (lv_sub hl [1, 2, 0] rfl)
          · skip
            have c_50 := b1_c c_50
            have hs : shkF R f v i = true := by rw [bs_bit] at c_50; simpa [hi2] using c_50
            refine lv_iconst (v := nI 1) xx xb dX2_pullsIn_53 (by decide) ?_
            refine lv_goto (tgt := 65) xx xb dX2_pullsIn_54 (by decide) ?_
            refine m_ast C hw 0 rfl (4 + 5 * i + 3) rfl (by omega) (by decide) (fl (pul2 R f v (i + 1))) ((fl_uk _ (by decide) (by decide)).trans (congrArg fl (pul2_s (by first | rw [if_pos hs] | (rw [if_neg hs]; exact pul2_at (by omega)))))) dX2_pullsIn_65 (fun H locs hw => ?_)
            have hw : Wd G (fA [(ar, aI G 54 (fl R))]) s [(ar, aI G 54 (fl (pul2 R f v (i + 1))))] H locs := hw
            refine lv_iinc (v := nI (i + 1)) (lv' := [(4, .int (nI (i + 1))), (0, .ref ar), (3, .int (nI (bs (shkF R f v) (R 0 0))))]) xx xb dX2_pullsIn_66 hl (k := 2) rfl (nI_add _ 1) (by decide) rfl (fun ls hl => ?_)
            refine lv_goto (tgt := 29) xx xb dX2_pullsIn_69 (by decide) ?_
            exact ih_29 (i + 1) H _ ls (by omega) (by omega) hw (lv_sub hl [1, 2, 0] rfl)
    exact L_29 (_ + 1) 0 H _ ls (Nat.lt_succ_self _) (by omega) hw (lv_sub hl [2, 1, 0] rfl)
  · skip
    have c_8 := onI_ng (by omega) c_8
    refine lv_aload_n xx xb dX2_pullsIn_11 rfl (lv_at hl 1 rfl) ?_
    refine lv_iconst (v := nI 2) xx xb dX2_pullsIn_12 (by decide) ?_
    refine lv_iconst (v := nI 0) xx xb dX2_pullsIn_13 (by decide) ?_
    refine m_ast C hw 0 rfl 2 rfl (by omega) (by decide) (fl (upR R 0 2 0)) (fl_uh _ (by decide)) dX2_pullsIn_14 (fun H locs hw => ?_)
    have hw : Wd G (fA [(ar, aI G 54 (fl R))]) s [(ar, aI G 54 (fl (upR R 0 2 0)))] H locs := hw
    refine lv_goto (tgt := 26) xx xb dX2_pullsIn_15 (by decide) ?_
    have hw : Wd G (fA [(ar, aI G 54 (fl R))]) s [(ar, aI G 54 (fl (pul2 R f v 0)))] H locs := by first | (rw [← pul2_0a c_8]; exact hw) | (rw [c_8, ← pul2_0b]; exact hw)
    refine lv_iconst (v := nI 0) xx xb dX2_pullsIn_26 (by decide) ?_
    refine lv_istore (lv' := [(4, .int (nI 0)), (3, .int (nI (bs (shkF R f v) (R 0 0)))), (0, .ref ar), (1, .int (onI f)), (2, .int (nI v))]) xx xb dX2_pullsIn_27 hl (by decide) rfl (fun ls hl => ?_)
    have L_29 : ∀ (fu : Nat) (i : Nat) (H : Heap) (locs : List Loc) (ls : Array Slot), 10 - i < fu → (i ≤ R 0 0) → Wd G (fA [(ar, aI G 54 (fl R))]) s [(ar, aI G 54 (fl (pul2 R f v i)))] H locs → lv_has ls 5 [(0, .ref ar), (3, .int (nI (bs (shkF R f v) (R 0 0)))), (4, .int (nI i))] → W p l e ({ frames := 3, cells := 0, slots := 0, locals := 67 }) s m (([.ref ar, .int (onI f), .int (nI v)] : List Value).toArray) below meth c H locs 0 0 (MQ below (QI G [(ar, aI G 54 (fl R))] (fun (r : Int32) (u : Unit) => r = nI (ct (shkF R f v) (R 0 0))) (fun u => [(ar, aI G 54 (fl (pulF R f v)))])) (([.ref ar, .int (onI f), .int (nI v)] : List Value).toArray) s 0 0 (fA [(ar, aI G 54 (fl R))])) (F0 m 29 ls []) := by
      intro fu
      induction fu with
      | zero => intro i H locs ls hfu; exact absurd hfu (Nat.not_lt_zero _)
      | succ fu ih_29 =>
        intro i H locs ls hfu hi hw hl
        refine lv_iload xx xb dX2_pullsIn_29 (lv_at hl 2 rfl) ?_
        refine lv_aload_n xx xb dX2_pullsIn_31 rfl (lv_at hl 0 rfl) ?_
        refine lv_iconst (v := nI 0) xx xb dX2_pullsIn_32 (by decide) ?_
        refine m_ald C hw 0 rfl 0 rfl (by omega) (by decide) dX2_pullsIn_33 ?_
        refine re_i (nI ((pul2 R f v i) 0 0)) (fl_h (pul2 R f v i) (by decide)) ?_
        refine re_i (nI (R 0 0)) rfl ?_
        refine lv_icmp_ge (tgt := 72) xx xb dX2_pullsIn_34 (by decide) (fun c_34 => ?_) (fun c_34 => ?_)
        · skip
          have c_34 := le_c (tN (by omega)) (tN (by omega)) c_34
          have hi3 : i = R 0 0 := by omega
          have hw : Wd G (fA [(ar, aI G 54 (fl R))]) s [(ar, aI G 54 (fl (pulF R f v)))] H locs := by rw [← pul2_n hn hf, ← show i = R 0 0 by omega]; exact hw
          refine lv_iload_n xx xb dX2_pullsIn_72 rfl (lv_at hl 1 rfl) ?_
          have hM := kX2_bits l G (bs (shkF R f v) (R 0 0)) (by first | assumption | omega)
          refine cs_i C hw hM ysX2_bits ml_X2_67 rfl [] rfl rfl (fun _ => (rfl : ([] : List Nat) = [])) (by decide) ⟨Nat.zero_le _, Nat.zero_le _⟩ hl.1 rfl (Nat.le_of_ble_eq_true rfl) dX2_pullsIn_73 (fun r _ H locs hr hw => ?_)
          have hw : Wd G (fA [(ar, aI G 54 (fl R))]) s [(ar, aI G 54 (fl (pulF R f v)))] H locs := hw
          subst hr
          refine re_i (nI (ct (shkF R f v) (R 0 0))) (congrArg nI (pc_bs _ hn)) ?_
          exact rt_i C hw () rfl rfl dX2_pullsIn_76
        · skip
          have c_34 := nle_c (tN (by omega)) (tN (by omega)) c_34
          have hi2 : i < R 0 0 := by omega
          obtain ⟨q1, q2, q3, q4, q5⟩ := hA i (by omega)
          refine lv_aload_n xx xb dX2_pullsIn_37 rfl (lv_at hl 0 rfl) ?_
          refine lv_iload xx xb dX2_pullsIn_38 (lv_at hl 2 rfl) ?_
          refine lv_iconst (v := nI 3) xx xb dX2_pullsIn_40 (by decide) ?_
          have hM := kX2_of l G i 3 
          refine cs_i C hw hM ysX2_of ml_X2_44 rfl [] rfl rfl (fun _ => (rfl : ([] : List Nat) = [])) (by decide) ⟨Nat.zero_le _, Nat.zero_le _⟩ hl.1 rfl (Nat.le_of_ble_eq_true rfl) dX2_pullsIn_41 (fun r _ H locs hr hw => ?_)
          have hw : Wd G (fA [(ar, aI G 54 (fl R))]) s [(ar, aI G 54 (fl (pul2 R f v i)))] H locs := hw
          subst hr
          refine lv_iload_n xx xb dX2_pullsIn_44 rfl (lv_at hl 1 rfl) ?_
          refine lv_iload xx xb dX2_pullsIn_45 (lv_at hl 2 rfl) ?_
          have hM := kX2_has l G (bs (shkF R f v) (R 0 0)) i (by first | assumption | omega) (by first | assumption | omega)
          refine cs_i C hw hM ysX2_has ml_X2_51 rfl [] rfl rfl (fun _ => (rfl : ([] : List Nat) = [])) (by decide) ⟨Nat.zero_le _, Nat.zero_le _⟩ hl.1 rfl (Nat.le_of_ble_eq_true rfl) dX2_pullsIn_47 (fun r _ H locs hr hw => ?_)
          have hw : Wd G (fA [(ar, aI G 54 (fl R))]) s [(ar, aI G 54 (fl (pul2 R f v i)))] H locs := hw
          subst hr
          refine lv_if_eq (tgt := 57) xx xb dX2_pullsIn_50 (by decide) (fun c_50 => ?_) (fun c_50 => ?_)
          · skip
            have c_50 := b0_c c_50
            have hs : ¬ shkF R f v i = true := by rw [bs_bit] at c_50; simpa [hi2] using c_50
            refine lv_aload_n xx xb dX2_pullsIn_57 rfl (lv_at hl 0 rfl) ?_
            refine lv_iload xx xb dX2_pullsIn_58 (lv_at hl 2 rfl) ?_
            refine lv_iconst (v := nI 3) xx xb dX2_pullsIn_60 (by decide) ?_
            have hM := kX2_of l G i 3 
            refine cs_i C hw hM ysX2_of ml_X2_44 rfl [] rfl rfl (fun _ => (rfl : ([] : List Nat) = [])) (by decide) ⟨Nat.zero_le _, Nat.zero_le _⟩ hl.1 rfl (Nat.le_of_ble_eq_true rfl) dX2_pullsIn_61 (fun r _ H locs hr hw => ?_)
            have hw : Wd G (fA [(ar, aI G 54 (fl R))]) s [(ar, aI G 54 (fl (pul2 R f v i)))] H locs := hw
            subst hr
            refine m_ald C hw 0 rfl (4 + 5 * i + 3) rfl (by omega) (by decide) dX2_pullsIn_64 ?_
            refine re_i (nI ((pul2 R f v i) 4 i)) (fl_k (pul2 R f v i) (by decide) (by decide)) ?_
            refine m_ast C hw 0 rfl (4 + 5 * i + 3) rfl (by omega) (by decide) (fl (pul2 R f v (i + 1))) ((fl_uk _ (by decide) (by decide)).trans (congrArg fl (pul2_s (by first | rw [if_pos hs] | (rw [if_neg hs]; exact pul2_at (by omega)))))) dX2_pullsIn_65 (fun H locs hw => ?_)
            have hw : Wd G (fA [(ar, aI G 54 (fl R))]) s [(ar, aI G 54 (fl (pul2 R f v (i + 1))))] H locs := hw
            refine lv_iinc (v := nI (i + 1)) (lv' := [(4, .int (nI (i + 1))), (0, .ref ar), (3, .int (nI (bs (shkF R f v) (R 0 0))))]) xx xb dX2_pullsIn_66 hl (k := 2) rfl (nI_add _ 1) (by decide) rfl (fun ls hl => ?_)
            refine lv_goto (tgt := 29) xx xb dX2_pullsIn_69 (by decide) ?_
            exact ih_29 (i + 1) H _ ls (by omega) (by omega) hw (lv_sub hl [1, 2, 0] rfl)
          · skip
            have c_50 := b1_c c_50
            have hs : shkF R f v i = true := by rw [bs_bit] at c_50; simpa [hi2] using c_50
            refine lv_iconst (v := nI 1) xx xb dX2_pullsIn_53 (by decide) ?_
            refine lv_goto (tgt := 65) xx xb dX2_pullsIn_54 (by decide) ?_
            refine m_ast C hw 0 rfl (4 + 5 * i + 3) rfl (by omega) (by decide) (fl (pul2 R f v (i + 1))) ((fl_uk _ (by decide) (by decide)).trans (congrArg fl (pul2_s (by first | rw [if_pos hs] | (rw [if_neg hs]; exact pul2_at (by omega)))))) dX2_pullsIn_65 (fun H locs hw => ?_)
            have hw : Wd G (fA [(ar, aI G 54 (fl R))]) s [(ar, aI G 54 (fl (pul2 R f v (i + 1))))] H locs := hw
            refine lv_iinc (v := nI (i + 1)) (lv' := [(4, .int (nI (i + 1))), (0, .ref ar), (3, .int (nI (bs (shkF R f v) (R 0 0))))]) xx xb dX2_pullsIn_66 hl (k := 2) rfl (nI_add _ 1) (by decide) rfl (fun ls hl => ?_)
            refine lv_goto (tgt := 29) xx xb dX2_pullsIn_69 (by decide) ?_
            exact ih_29 (i + 1) H _ ls (by omega) (by omega) hw (lv_sub hl [1, 2, 0] rfl)
    exact L_29 (_ + 1) 0 H _ ls (Nat.lt_succ_self _) (by omega) hw (lv_sub hl [2, 1, 0] rfl)
