theorem b0_c {P : Prop} [Decidable P] (h : (if P then (1 : Int32) else 0) = 0) : ¬ P := fun q => by rw [if_pos q] at h; exact absurd h (by decide)
theorem b1_c {P : Prop} [Decidable P] (h : ¬ (if P then (1 : Int32) else 0) = 0) : P := by
  by_cases q : P
  · exact q
  · rw [if_neg q] at h; exact absurd rfl h
theorem bt_c {P : Prop} [Decidable P] (h : (if P then (1 : Int32) else 0) = nI 1) : P := by
  by_cases q : P
  · exact q
  · rw [if_neg q] at h; exact absurd h (by decide)
theorem bf_c {P : Prop} [Decidable P] (h : ¬ (if P then (1 : Int32) else 0) = nI 1) : ¬ P := fun q => h (by rw [if_pos q]; rfl)
theorem b01 (P : Prop) [Decidable P] : (if P then (1 : Int32) else 0) = 0 ∨ (if P then (1 : Int32) else 0) = 1 := by by_cases q : P <;> simp [q]
theorem r1 {P : Prop} [Decidable P] (h : P) : nI 1 = (if P then (1 : Int32) else 0) := by rw [if_pos h]; rfl
theorem r0 {P : Prop} [Decidable P] (h : ¬ P) : nI 0 = (if P then (1 : Int32) else 0) := by rw [if_neg h]; rfl
theorem onI_nn {o : Nat} (ho : o ≤ 10) (h : 0 ≤ onI o) : o < 10 := by
  have : ∀ o, o ≤ 10 → 0 ≤ onI o → o < 10 := by decide +kernel
  exact this o ho h
theorem onI_ng {o : Nat} (ho : o ≤ 10) (h : ¬ 0 ≤ onI o) : o = 10 := by
  have : ∀ o, o ≤ 10 → ¬ 0 ≤ onI o → o = 10 := by decide +kernel
  exact this o ho h
theorem hb_0 {b : Bool} (h : ¬ nI (if b then 1 else 0) = nI 1) : ¬ b = true := fun q => h (by rw [q]; rfl)
theorem hb_1 {b : Bool} (h : nI (if b then 1 else 0) = nI 1) : b = true := by
  cases b
  · exact absurd h (by decide)
  · rfl
set_option maxRecDepth 100000 in
set_option maxHeartbeats 4000000 in
theorem kX2_isIn (l : Launch) (G : GT) (v : Int32) (vz : Int) (a : Int32) (az : Int) (b : Int32) (bz : Int) (hv : v.toInt = vz) (ha : a.toInt = az) (hb : b.toInt = bz) : Ct l yX2_isIn cX2_isIn 3 (some .boolean) 0 0 [.int v, .int a, .int b] G [] (QI G [] (fun (r : Int32) (u : Unit) => r = if az ≤ vz ∧ vz ≤ bz then 1 else 0) (fun u => [])) := by
  refine en (by decide +kernel) (Nat.le_of_ble_eq_true rfl) ?_
  intro p e s m below meth c ls H C hl hw
  have xx := C.1
  have xb := C.2.1
  have hw : Wd G (fA []) s [] H [] := hw
  have hl : lv_has ls 3 [(0, .int v), (1, .int a), (2, .int b)] := hl
  refine lv_iload_n xx xb dX2_isIn_0 rfl (lv_at hl 0 rfl) ?_
  refine lv_iload_n xx xb dX2_isIn_1 rfl (lv_at hl 1 rfl) ?_
  refine lv_icmp_lt (tgt := 14) xx xb dX2_isIn_2 (by decide) (fun c_2 => ?_) (fun c_2 => ?_)
  · skip
    have c_2 := lt_c hv ha c_2
    refine lv_iconst (v := nI 0) xx xb dX2_isIn_14 (by decide) ?_
    exact rt_z C hw () (Or.inl rfl) (by first | exact r1 (by omega) | exact r0 (by omega)) rfl dX2_isIn_15
  · skip
    have c_2 := nlt_c hv ha c_2
    refine lv_iload_n xx xb dX2_isIn_5 rfl (lv_at hl 0 rfl) ?_
    refine lv_iload_n xx xb dX2_isIn_6 rfl (lv_at hl 2 rfl) ?_
    refine lv_icmp_gt (tgt := 14) xx xb dX2_isIn_7 (by decide) (fun c_7 => ?_) (fun c_7 => ?_)
    · skip
      have c_7 := lt_c hb hv c_7
      refine lv_iconst (v := nI 0) xx xb dX2_isIn_14 (by decide) ?_
      exact rt_z C hw () (Or.inl rfl) (by first | exact r1 (by omega) | exact r0 (by omega)) rfl dX2_isIn_15
    · skip
      have c_7 := nlt_c hb hv c_7
      refine lv_iconst (v := nI 1) xx xb dX2_isIn_10 (by decide) ?_
      refine lv_goto (tgt := 15) xx xb dX2_isIn_11 (by decide) ?_
      exact rt_z C hw () (Or.inr rfl) (by first | exact r1 (by omega) | exact r0 (by omega)) rfl dX2_isIn_15
set_option maxRecDepth 100000 in
set_option maxHeartbeats 4000000 in
theorem kX2_most (l : Launch) (G : GT) (v : Int32) (vz : Int) (a : Int32) (az : Int) (hv : v.toInt = vz) (ha : a.toInt = az) : Ct l yX2_most cX2_most 2 (some .int) 0 0 [.int v, .int a] G [] (QI G [] (fun (r : Int32) (u : Unit) => r = if az < vz then v else a) (fun u => [])) := by
  refine en (by decide +kernel) (Nat.le_of_ble_eq_true rfl) ?_
  intro p e s m below meth c ls H C hl hw
  have xx := C.1
  have xb := C.2.1
  have hw : Wd G (fA []) s [] H [] := hw
  have hl : lv_has ls 2 [(0, .int v), (1, .int a)] := hl
  refine lv_iload_n xx xb dX2_most_0 rfl (lv_at hl 0 rfl) ?_
  refine lv_iload_n xx xb dX2_most_1 rfl (lv_at hl 1 rfl) ?_
  refine lv_icmp_le (tgt := 9) xx xb dX2_most_2 (by decide) (fun c_2 => ?_) (fun c_2 => ?_)
  · skip
    have c_2 := le_c hv ha c_2
    refine lv_iload_n xx xb dX2_most_9 rfl (lv_at hl 1 rfl) ?_
    exact rt_i C hw () (by first | rw [if_pos (by omega)] | rw [if_neg (by omega)]) rfl dX2_most_10
  · skip
    have c_2 := nle_c hv ha c_2
    refine lv_iload_n xx xb dX2_most_5 rfl (lv_at hl 0 rfl) ?_
    refine lv_goto (tgt := 10) xx xb dX2_most_6 (by decide) ?_
    exact rt_i C hw () (by first | rw [if_pos (by omega)] | rw [if_neg (by omega)]) rfl dX2_most_10
set_option maxRecDepth 100000 in
set_option maxHeartbeats 4000000 in
theorem kX2_of (l : Launch) (G : GT) (a : Nat) (k : Nat)  : Ct l yX2_of cX2_of 2 (some .int) 0 0 [.int (nI a), .int (nI k)] G [] (QI G [] (fun (r : Int32) (u : Unit) => r = nI (4 + 5 * a + k)) (fun u => [])) := by
  refine en (by decide +kernel) (Nat.le_of_ble_eq_true rfl) ?_
  intro p e s m below meth c ls H C hl hw
  have xx := C.1
  have xb := C.2.1
  have hw : Wd G (fA []) s [] H [] := hw
  have hl : lv_has ls 2 [(0, .int (nI a)), (1, .int (nI k))] := hl
  refine lv_iconst (v := nI 4) xx xb dX2_of_0 (by decide) ?_
  refine lv_iconst (v := nI 5) xx xb dX2_of_1 (by decide) ?_
  refine lv_iload_n xx xb dX2_of_2 rfl (lv_at hl 0 rfl) ?_
  refine lv_imul xx xb dX2_of_3 ?_
  refine re_i (nI (5 * a)) (pk_mul _ _) ?_
  refine lv_iadd xx xb dX2_of_4 ?_
  refine re_i (nI (4 + (5 * a))) (nI_add _ _) ?_
  refine lv_iload_n xx xb dX2_of_5 rfl (lv_at hl 1 rfl) ?_
  refine lv_iadd xx xb dX2_of_6 ?_
  refine re_i (nI ((4 + (5 * a)) + k)) (nI_add _ _) ?_
  exact rt_i C hw () rfl rfl dX2_of_7
set_option maxRecDepth 100000 in
set_option maxHeartbeats 4000000 in
theorem kX2_stands (l : Launch) (G : GT) (ar : Nat) (R : RT) (a : Nat) (hR : OK R) (ha : a < R 0 0) : Ct l yX2_stands cX2_stands 2 (some .boolean) 1 21 [.ref ar, .int (nI a)] G [(ar, aI G 54 (fl R))] (QI G [(ar, aI G 54 (fl R))] (fun (r : Int32) (u : Unit) => r = if R 4 a = 0 then 1 else 0) (fun u => [(ar, aI G 54 (fl R))])) := by
  refine en (by decide +kernel) (Nat.le_of_ble_eq_true rfl) ?_
  intro p e s m below meth c ls H C hl hw
  have xx := C.1
  have xb := C.2.1
  have hw : Wd G (fA [(ar, aI G 54 (fl R))]) s [(ar, aI G 54 (fl R))] H [] := hw
  have hl : lv_has ls 2 [(0, .ref ar), (1, .int (nI a))] := hl
  obtain ⟨hn, hf0, hpr, hA⟩ := id hR
  obtain ⟨q1, q2, q3, q4, q5, q6, q7⟩ := hA a ha
  refine lv_aload_n xx xb dX2_stands_0 rfl (lv_at hl 0 rfl) ?_
  refine lv_iload_n xx xb dX2_stands_1 rfl (lv_at hl 1 rfl) ?_
  refine lv_iconst (v := nI 3) xx xb dX2_stands_2 (by decide) ?_
  refine go_i hw [] rfl (fun _ => rfl) (run_s C hw (kX2_of l G a 3 ) ysX2_of ml_X2_44 rfl [] rfl rfl (by decide) ⟨Nat.zero_le _, Nat.zero_le _⟩ hl.1 rfl (Nat.le_of_ble_eq_true rfl) dX2_stands_3) (fun r _ H locs hr hw => ?_)
  subst hr
  refine m_ald C hw 0 rfl (4 + 5 * a + 3) rfl (by omega) (by decide) dX2_stands_6 ?_
  refine re_i (nI (R 4 a)) (fl_k R (by decide) (by decide)) ?_
  refine lv_if_ne (tgt := 14) xx xb dX2_stands_7 (by decide) (fun c_7 => ?_) (fun c_7 => ?_)
  · skip
    have c_7 := ne_c (tN (by omega)) Int32.toInt_zero c_7
    refine lv_iconst (v := nI 0) xx xb dX2_stands_14 (by decide) ?_
    exact rt_z C hw () (Or.inl rfl) (by first | exact r1 (by omega) | exact r0 (by omega)) rfl dX2_stands_15
  · skip
    have c_7 := eq_c (tN (by omega)) Int32.toInt_zero c_7
    refine lv_iconst (v := nI 1) xx xb dX2_stands_10 (by decide) ?_
    refine lv_goto (tgt := 15) xx xb dX2_stands_11 (by decide) ?_
    exact rt_z C hw () (Or.inr rfl) (by first | exact r1 (by omega) | exact r0 (by omega)) rfl dX2_stands_15
set_option maxRecDepth 100000 in
set_option maxHeartbeats 4000000 in
theorem kX2_has (l : Launch) (G : GT) (S : Nat) (k : Nat) (hS : S < 2147483648) (hk : k < 31) : Ct l yX2_has cX2_has 2 (some .boolean) 0 0 [.int (nI S), .int (nI k)] G [] (QI G [] (fun (r : Int32) (u : Unit) => r = if S.testBit k = true then 1 else 0) (fun u => [])) := by
  refine en (by decide +kernel) (Nat.le_of_ble_eq_true rfl) ?_
  intro p e s m below meth c ls H C hl hw
  have xx := C.1
  have xb := C.2.1
  have hw : Wd G (fA []) s [] H [] := hw
  have hl : lv_has ls 2 [(0, .int (nI S)), (1, .int (nI k))] := hl
  refine lv_iload_n xx xb dX2_has_0 rfl (lv_at hl 0 rfl) ?_
  refine lv_iload_n xx xb dX2_has_1 rfl (lv_at hl 1 rfl) ?_
  refine lv_ishr xx xb dX2_has_2 ?_
  refine lv_iconst (v := nI 1) xx xb dX2_has_3 (by decide) ?_
  refine lv_iand xx xb dX2_has_4 ?_
  refine re_i (nI (if S.testBit k then 1 else 0)) (bit_N hS (by omega)) ?_
  refine lv_iconst (v := nI 1) xx xb dX2_has_5 (by decide) ?_
  refine lv_icmp_ne (tgt := 13) xx xb dX2_has_6 (by decide) (fun c_6 => ?_) (fun c_6 => ?_)
  · skip
    have c_6 := hb_0 c_6
    refine lv_iconst (v := nI 0) xx xb dX2_has_13 (by decide) ?_
    exact rt_z C hw () (Or.inl rfl) (by first | exact r1 c_6 | exact r0 c_6) rfl dX2_has_14
  · skip
    have c_6 := hb_1 c_6
    refine lv_iconst (v := nI 1) xx xb dX2_has_9 (by decide) ?_
    refine lv_goto (tgt := 14) xx xb dX2_has_10 (by decide) ?_
    exact rt_z C hw () (Or.inr rfl) (by first | exact r1 c_6 | exact r0 c_6) rfl dX2_has_14
set_option maxRecDepth 100000 in
set_option maxHeartbeats 4000000 in
theorem kX2_bits (l : Launch) (G : GT) (S : Nat) (hS : S < 1024) : Ct l yX2_bits cX2_bits 3 (some .int) 0 0 [.int (nI S)] G [] (QI G [] (fun (r : Int32) (u : Unit) => r = nI (pc S)) (fun u => [])) := by
  refine en (by decide +kernel) (Nat.le_of_ble_eq_true rfl) ?_
  intro p e s m below meth c ls H C hl hw
  have xx := C.1
  have xb := C.2.1
  have hw : Wd G (fA []) s [] H [] := hw
  have hl : lv_has ls 3 [(0, .int (nI S))] := hl
  refine lv_iconst (v := nI 0) xx xb dX2_bits_0 (by decide) ?_
  refine lv_istore_n (lv' := [(1, .int (nI 0)), (0, .int (nI S))]) xx xb dX2_bits_1 rfl hl (by decide) rfl (fun ls hl => ?_)
  refine lv_iconst (v := nI 0) xx xb dX2_bits_2 (by decide) ?_
  refine lv_istore_n (lv' := [(2, .int (nI 0)), (1, .int (nI 0)), (0, .int (nI S))]) xx xb dX2_bits_3 rfl hl (by decide) rfl (fun ls hl => ?_)
  have L_4 : ∀ (n : Nat) (i : Nat) (H : Heap) (locs : List Loc) (ls : Array Slot), 10 - i < n → (i ≤ 10) → Wd G (fA []) s [] H locs → lv_has ls 3 [(0, .int (nI S)), (1, .int (nI (ct (fun k => S.testBit k) i))), (2, .int (nI i))] → W p l e ({ frames := 0, cells := 0, slots := 0, locals := 0 }) s m (([.int (nI S)] : List Value).toArray) below meth c H locs 0 0 (MQ below (QI G [] (fun (r : Int32) (u : Unit) => r = nI (pc S)) (fun u => [])) (([.int (nI S)] : List Value).toArray) s 0 0 (fA [])) (F0 m 4 ls []) := by
    intro n
    induction n with
    | zero => intro i H locs ls hn; exact absurd hn (Nat.not_lt_zero _)
    | succ n ih =>
      intro i H locs ls hn hi hw hl
      refine lv_iload_n xx xb dX2_bits_4 rfl (lv_at hl 2 rfl) ?_
      refine lv_bipush (v := nI 10) xx xb dX2_bits_5 (by decide) ?_
      refine lv_icmp_ge (tgt := 24) xx xb dX2_bits_7 (by decide) (fun c_7 => ?_) (fun c_7 => ?_)
      · skip
        have c_7 := le_c (tN (by omega)) (tN (by omega)) c_7
        refine lv_iload_n xx xb dX2_bits_24 rfl (lv_at hl 1 rfl) ?_
        exact rt_i C hw () (by rw [show i = 10 by omega]; rfl) rfl dX2_bits_25
      · skip
        have c_7 := nle_c (tN (by omega)) (tN (by omega)) c_7
        refine lv_iload_n xx xb dX2_bits_10 rfl (lv_at hl 1 rfl) ?_
        refine lv_iload_n xx xb dX2_bits_11 rfl (lv_at hl 0 rfl) ?_
        refine lv_iload_n xx xb dX2_bits_12 rfl (lv_at hl 2 rfl) ?_
        refine lv_ishr xx xb dX2_bits_13 ?_
        refine lv_iconst (v := nI 1) xx xb dX2_bits_14 (by decide) ?_
        refine lv_iand xx xb dX2_bits_15 ?_
        refine re_i (nI (if S.testBit i then 1 else 0)) (bit_N (by omega) (by omega)) ?_
        refine lv_iadd xx xb dX2_bits_16 ?_
        refine re_i (nI ((ct (fun k => S.testBit k) i) + (if S.testBit i then 1 else 0))) (nI_add _ _) ?_
        refine lv_istore_n (lv' := [(1, .int (nI ((ct (fun k => S.testBit k) i) + (if S.testBit i then 1 else 0)))), (0, .int (nI S)), (2, .int (nI i))]) xx xb dX2_bits_17 rfl hl (by decide) rfl (fun ls hl => ?_)
        refine lv_iinc (v := nI (i + 1)) (lv' := [(2, .int (nI (i + 1))), (1, .int (nI ((ct (fun k => S.testBit k) i) + (if S.testBit i then 1 else 0)))), (0, .int (nI S))]) xx xb dX2_bits_18 hl (k := 2) rfl (nI_add _ 1) (by decide) rfl (fun ls hl => ?_)
        refine lv_goto (tgt := 4) xx xb dX2_bits_21 (by decide) ?_
        exact ih (i + 1) H _ ls (by omega) (by omega) hw (lv_sub hl [2, 1, 0] rfl)
  exact L_4 (_ + 1) 0 H _ ls (Nat.lt_succ_self _) (by omega) hw (lv_sub hl [2, 1, 0] rfl)
set_option maxRecDepth 100000 in
set_option maxHeartbeats 4000000 in
theorem kX2_grip (l : Launch) (G : GT) (ar : Nat) (R : RT) (a : Nat) (hR : OK R) (ha : a < R 0 0) : Ct l yX2_grip cX2_grip 3 (some .int) 1 21 [.ref ar, .int (nI a)] G [(ar, aI G 54 (fl R))] (QI G [(ar, aI G 54 (fl R))] (fun (r : Int32) (u : Unit) => r = nI (gripF R a)) (fun u => [(ar, aI G 54 (fl R))])) := by
  refine en (by decide +kernel) (Nat.le_of_ble_eq_true rfl) ?_
  intro p e s m below meth c ls H C hl hw
  have xx := C.1
  have xb := C.2.1
  have hw : Wd G (fA [(ar, aI G 54 (fl R))]) s [(ar, aI G 54 (fl R))] H [] := hw
  have hl : lv_has ls 3 [(0, .ref ar), (1, .int (nI a))] := hl
  obtain ⟨hn, hf0, hpr, hA⟩ := id hR
  obtain ⟨q1, q2, q3, q4, q5, q6, q7⟩ := hA a ha
  refine lv_aload_n xx xb dX2_grip_0 rfl (lv_at hl 0 rfl) ?_
  refine lv_iload_n xx xb dX2_grip_1 rfl (lv_at hl 1 rfl) ?_
  refine lv_iconst (v := nI 1) xx xb dX2_grip_2 (by decide) ?_
  refine go_i hw [] rfl (fun _ => rfl) (run_s C hw (kX2_of l G a 1 ) ysX2_of ml_X2_44 rfl [] rfl rfl (by decide) ⟨Nat.zero_le _, Nat.zero_le _⟩ hl.1 rfl (Nat.le_of_ble_eq_true rfl) dX2_grip_3) (fun r _ H locs hr hw => ?_)
  subst hr
  refine m_ald C hw 0 rfl (4 + 5 * a + 1) rfl (by omega) (by decide) dX2_grip_6 ?_
  refine re_i (nI (R 2 a)) (fl_k R (by decide) (by decide)) ?_
  refine lv_istore_n (lv' := [(2, .int (nI (R 2 a))), (0, .ref ar), (1, .int (nI a))]) xx xb dX2_grip_7 rfl hl (by decide) rfl (fun ls hl => ?_)
  refine lv_aload_n xx xb dX2_grip_8 rfl (lv_at hl 1 rfl) ?_
  refine lv_iload_n xx xb dX2_grip_9 rfl (lv_at hl 2 rfl) ?_
  refine lv_iconst (v := nI 0) xx xb dX2_grip_10 (by decide) ?_
  refine go_i hw [] rfl (fun _ => rfl) (run_s C hw (kX2_of l G a 0 ) ysX2_of ml_X2_44 rfl [] rfl rfl (by decide) ⟨Nat.zero_le _, Nat.zero_le _⟩ hl.1 rfl (Nat.le_of_ble_eq_true rfl) dX2_grip_11) (fun r _ H locs hr hw => ?_)
  subst hr
  refine m_ald C hw 0 rfl (4 + 5 * a + 0) rfl (by omega) (by decide) dX2_grip_14 ?_
  refine re_i (nI (R 1 a)) (fl_k R (by decide) (by decide)) ?_
  by_cases k_15_1 : (R 1 a) = 1
  · skip
    refine re_i (nI 1) (by rw [k_15_1]) ?_
    refine lv_tableIn (off := 33) (tgt := 48) xx xb dX2_grip_15 (by decide +kernel) (by decide +kernel) (by decide +kernel) (by decide) ?_
    refine lv_bipush (v := nI 9) xx xb dX2_grip_48 (by decide) ?_
    refine lv_iload_n xx xb dX2_grip_50 rfl (lv_at hl 0 rfl) ?_
    refine lv_isub xx xb dX2_grip_51 ?_
    refine re_i (nI (9 - (R 2 a))) (pk_sub (by omega)) ?_
    exact rt_i C hw () (by simp only [gripF]; first | rw [if_pos (by assumption)] | (rw [if_neg (by assumption), if_pos (by assumption)]) | (rw [if_neg (by assumption), if_neg (by assumption), if_pos (by assumption)]) | (rw [if_neg (by assumption), if_neg (by assumption), if_neg (by assumption), if_pos (by assumption)]) | (rw [if_neg (by assumption), if_neg (by assumption), if_neg (by assumption), if_neg (by assumption), if_pos (by assumption)]) | (rw [if_neg (by assumption), if_neg (by assumption), if_neg (by assumption), if_neg (by assumption), if_neg (by assumption)])) rfl dX2_grip_52
  by_cases k_15_2 : (R 1 a) = 2
  · skip
    refine re_i (nI 2) (by rw [k_15_2]) ?_
    refine lv_tableIn (off := 38) (tgt := 53) xx xb dX2_grip_15 (by decide +kernel) (by decide +kernel) (by decide +kernel) (by decide) ?_
    refine lv_iload_n xx xb dX2_grip_53 rfl (lv_at hl 0 rfl) ?_
    refine lv_iconst (v := nI 2) xx xb dX2_grip_54 (by decide) ?_
    refine lv_idiv xx xb dX2_grip_55 (by decide +kernel) ?_
    refine re_i (nI ((R 2 a) / 2)) (pk_div (by omega) (by omega) (by omega)) ?_
    exact rt_i C hw () (by simp only [gripF]; first | rw [if_pos (by assumption)] | (rw [if_neg (by assumption), if_pos (by assumption)]) | (rw [if_neg (by assumption), if_neg (by assumption), if_pos (by assumption)]) | (rw [if_neg (by assumption), if_neg (by assumption), if_neg (by assumption), if_pos (by assumption)]) | (rw [if_neg (by assumption), if_neg (by assumption), if_neg (by assumption), if_neg (by assumption), if_pos (by assumption)]) | (rw [if_neg (by assumption), if_neg (by assumption), if_neg (by assumption), if_neg (by assumption), if_neg (by assumption)])) rfl dX2_grip_56
  by_cases k_15_3 : (R 1 a) = 3
  · skip
    refine re_i (nI 3) (by rw [k_15_3]) ?_
    refine lv_tableIn (off := 42) (tgt := 57) xx xb dX2_grip_15 (by decide +kernel) (by decide +kernel) (by decide +kernel) (by decide) ?_
    refine lv_iconst (v := nI 0) xx xb dX2_grip_57 (by decide) ?_
    exact rt_i C hw () (by simp only [gripF]; first | rw [if_pos (by assumption)] | (rw [if_neg (by assumption), if_pos (by assumption)]) | (rw [if_neg (by assumption), if_neg (by assumption), if_pos (by assumption)]) | (rw [if_neg (by assumption), if_neg (by assumption), if_neg (by assumption), if_pos (by assumption)]) | (rw [if_neg (by assumption), if_neg (by assumption), if_neg (by assumption), if_neg (by assumption), if_pos (by assumption)]) | (rw [if_neg (by assumption), if_neg (by assumption), if_neg (by assumption), if_neg (by assumption), if_neg (by assumption)])) rfl dX2_grip_58
  by_cases k_15_4 : (R 1 a) = 4
  · skip
    refine re_i (nI 4) (by rw [k_15_4]) ?_
    refine lv_tableIn (off := 38) (tgt := 53) xx xb dX2_grip_15 (by decide +kernel) (by decide +kernel) (by decide +kernel) (by decide) ?_
    refine lv_iload_n xx xb dX2_grip_53 rfl (lv_at hl 0 rfl) ?_
    refine lv_iconst (v := nI 2) xx xb dX2_grip_54 (by decide) ?_
    refine lv_idiv xx xb dX2_grip_55 (by decide +kernel) ?_
    refine re_i (nI ((R 2 a) / 2)) (pk_div (by omega) (by omega) (by omega)) ?_
    exact rt_i C hw () (by simp only [gripF]; first | rw [if_pos (by assumption)] | (rw [if_neg (by assumption), if_pos (by assumption)]) | (rw [if_neg (by assumption), if_neg (by assumption), if_pos (by assumption)]) | (rw [if_neg (by assumption), if_neg (by assumption), if_neg (by assumption), if_pos (by assumption)]) | (rw [if_neg (by assumption), if_neg (by assumption), if_neg (by assumption), if_neg (by assumption), if_pos (by assumption)]) | (rw [if_neg (by assumption), if_neg (by assumption), if_neg (by assumption), if_neg (by assumption), if_neg (by assumption)])) rfl dX2_grip_56
  by_cases k_15_5 : (R 1 a) = 5
  · skip
    refine re_i (nI 5) (by rw [k_15_5]) ?_
    refine lv_tableIn (off := 44) (tgt := 59) xx xb dX2_grip_15 (by decide +kernel) (by decide +kernel) (by decide +kernel) (by decide) ?_
    refine lv_bipush (v := nI 10) xx xb dX2_grip_59 (by decide) ?_
    refine lv_iload_n xx xb dX2_grip_61 rfl (lv_at hl 0 rfl) ?_
    refine lv_isub xx xb dX2_grip_62 ?_
    refine re_i (nI (10 - (R 2 a))) (pk_sub (by omega)) ?_
    exact rt_i C hw () (by simp only [gripF]; first | rw [if_pos (by assumption)] | (rw [if_neg (by assumption), if_pos (by assumption)]) | (rw [if_neg (by assumption), if_neg (by assumption), if_pos (by assumption)]) | (rw [if_neg (by assumption), if_neg (by assumption), if_neg (by assumption), if_pos (by assumption)]) | (rw [if_neg (by assumption), if_neg (by assumption), if_neg (by assumption), if_neg (by assumption), if_pos (by assumption)]) | (rw [if_neg (by assumption), if_neg (by assumption), if_neg (by assumption), if_neg (by assumption), if_neg (by assumption)])) rfl dX2_grip_63
  · skip
    refine lv_tableOut (tgt := 64) xx xb dX2_grip_15 (by rw [tN (by omega)]; omega) (by decide) ?_
    refine lv_iload_n xx xb dX2_grip_64 rfl (lv_at hl 0 rfl) ?_
    exact rt_i C hw () (by simp only [gripF]; first | rw [if_pos (by assumption)] | (rw [if_neg (by assumption), if_pos (by assumption)]) | (rw [if_neg (by assumption), if_neg (by assumption), if_pos (by assumption)]) | (rw [if_neg (by assumption), if_neg (by assumption), if_neg (by assumption), if_pos (by assumption)]) | (rw [if_neg (by assumption), if_neg (by assumption), if_neg (by assumption), if_neg (by assumption), if_pos (by assumption)]) | (rw [if_neg (by assumption), if_neg (by assumption), if_neg (by assumption), if_neg (by assumption), if_neg (by assumption)])) rfl dX2_grip_65
