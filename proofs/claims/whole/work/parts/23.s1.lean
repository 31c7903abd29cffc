-- ===== the class's Scene: what its cells hold of a room =====
abbrev sN (R : RT) : Nat := R 0 0
abbrev sF (R : RT) : Nat := R 0 2
abbrev sS (R : RT) : Nat := setF R 0
abbrev sL (R : RT) : Nat := setF R 1
abbrev sK (R : RT) : Nat → Int32 := cN (R 1)
abbrev sG (R : RT) : Nat → Int32 := cN (R 2)
abbrev sO (R : RT) : Nat → Int32 := cO (R 3)
abbrev sA (R : RT) : Nat → Int32 := cN (R 5)
theorem setF_bit (R : RT) (h k : Nat) : (setF R h).testBit k = (decide (k < R 0 0) && decide (R 4 k = h)) := bs_bit _ _ _
theorem and_pow {S k : Nat} : S &&& 2 ^ k = 0 ↔ S.testBit k = false := by
  constructor
  · intro h
    have := congrArg (fun x => Nat.testBit x k) h
    simpa [Nat.testBit_and, Nat.testBit_two_pow] using this
  · intro h
    apply Nat.eq_of_testBit_eq
    intro j
    rw [Nat.testBit_and, Nat.testBit_two_pow, Nat.zero_testBit]
    by_cases q : k = j
    · subst q; simp [h]
    · simp [q]
theorem and_lt {a b n : Nat} (h : a < n) : a &&& b < n := Nat.lt_of_le_of_lt Nat.and_le_left h
theorem sb_0 {R : RT} (hR : OK R) {h k : Nat} (hk : k < R 0 0) (q : nI (setF R h &&& 2 ^ k) = 0) : R 4 k ≠ h := by
  have hl := setF_lt hR h
  have hl2 := and_lt (b := 2 ^ k) hl
  have z : setF R h &&& 2 ^ k = 0 := by
    have := eq_c (tN (by omega)) Int32.toInt_zero q
    omega
  rw [and_pow, setF_bit] at z
  intro e
  simp [hk, e] at z
theorem sb_1 {R : RT} {h k : Nat} (hk : k < R 0 0) (q : ¬ nI (setF R h &&& 2 ^ k) = 0) : R 4 k = h := by
  apply Classical.byContradiction
  intro e
  apply q
  have z : setF R h &&& 2 ^ k = 0 := by rw [and_pow, setF_bit]; simp [e]
  rw [z]; rfl
def bc1 (x : Int32) : Int32 := x - ((x.toUInt32 >>> ((nI 1).toUInt32 &&& Int32.toUInt32 31)).toInt32 &&& 1431655765)
def bc2 (x : Int32) : Int32 := (x &&& 858993459) + ((x.toUInt32 >>> ((nI 2).toUInt32 &&& Int32.toUInt32 31)).toInt32 &&& 858993459)
def bc3 (x : Int32) : Int32 := (x + (x.toUInt32 >>> ((nI 4).toUInt32 &&& Int32.toUInt32 31)).toInt32) &&& 252645135
def bc4 (x : Int32) : Int32 := x + (x.toUInt32 >>> ((nI 8).toUInt32 &&& Int32.toUInt32 31)).toInt32
def bc5 (x : Int32) : Int32 := x + (x.toUInt32 >>> ((nI 16).toUInt32 &&& Int32.toUInt32 31)).toInt32
theorem bc_pc : ∀ S, S < 1024 → bc5 (bc4 (bc3 (bc2 (bc1 (nI S))))) &&& nI 63 = nI (pc S) := by decide +kernel
theorem grd_fl {R : RT} {a : Nat} (h : R 3 a = 10) (h2 : R 0 2 ≤ 1) : nI (R 0 2) = if grdF R a = true then 1 else 0 := by
  have g : grdF R a = decide (R 0 2 = 1) := by unfold grdF; exact if_neg (by omega)
  have e : R 0 2 = 0 ∨ R 0 2 = 1 := by omega
  rw [g]
  rcases e with e | e <;> rw [e] <;> rfl
theorem goneE {R : RT} (hR : OK R) : anN (anN (2 ^ R 0 0 - 1) (setF R 0)) (setF R 1) = setF R 2 := by
  apply Nat.eq_of_testBit_eq
  intro k
  rw [anN_bit, anN_bit, setF_bit, setF_bit, setF_bit, Nat.testBit_two_pow_sub_one]
  by_cases hk : k < R 0 0
  · have := (hR.2.2.2 k hk).2.2.2.2
    have e : R 4 k = 0 ∨ R 4 k = 1 ∨ R 4 k = 2 := by omega
    rcases e with e | e | e <;> simp [hk, e]
  · simp [hk]
set_option maxRecDepth 100000 in
set_option maxHeartbeats 4000000 in
theorem kJ6_bitCount_0f7a4 (l : Launch) (G : GT) (S : Nat) (hS : S < 1024) : Ct l yJ6_bitCount_0f7a4 cJ6_bitCount_0f7a4 1 (some .int) 0 0 [.int (nI S)] G [] (QI G [] (fun (r : Int32) (u : Unit) => r = nI (pc S)) (fun u => [])) := by
  refine en (by decide +kernel) (Nat.le_of_ble_eq_true rfl) ?_
  intro p e s m below meth c ls H locs C hl hw
  have xx := C.1
  have xb := C.2.1
  have hw : Wd G (fA []) s [] H locs := hw
  have hl : lv_has ls 1 [(0, .int (nI S))] := hl
  refine lv_iload_n xx xb dJ6_bitCount_0f7a4_0 rfl (lv_at hl 0 rfl) ?_
  refine lv_iload_n xx xb dJ6_bitCount_0f7a4_1 rfl (lv_at hl 0 rfl) ?_
  refine lv_iconst (v := nI 1) xx xb dJ6_bitCount_0f7a4_2 (by decide) ?_
  refine lv_iushr (v := ((nI S).toUInt32 >>> ((nI 1).toUInt32 &&& Int32.toUInt32 31)).toInt32) xx xb dJ6_bitCount_0f7a4_3 rfl ?_
  refine m_ldcw C kc_J6_265 dJ6_bitCount_0f7a4_4 ?_
  refine lv_iand xx xb dJ6_bitCount_0f7a4_7 ?_
  refine lv_isub xx xb dJ6_bitCount_0f7a4_8 ?_
  refine re_i (bc1 (nI S)) rfl ?_
  refine lv_istore_n (lv' := [(0, .int (bc1 (nI S)))]) xx xb dJ6_bitCount_0f7a4_9 rfl hl (by decide) rfl (fun ls hl => ?_)
  refine lv_iload_n xx xb dJ6_bitCount_0f7a4_10 rfl (lv_at hl 0 rfl) ?_
  refine m_ldcw C kc_J6_266 dJ6_bitCount_0f7a4_11 ?_
  refine lv_iand xx xb dJ6_bitCount_0f7a4_14 ?_
  refine lv_iload_n xx xb dJ6_bitCount_0f7a4_15 rfl (lv_at hl 0 rfl) ?_
  refine lv_iconst (v := nI 2) xx xb dJ6_bitCount_0f7a4_16 (by decide) ?_
  refine lv_iushr (v := ((bc1 (nI S)).toUInt32 >>> ((nI 2).toUInt32 &&& Int32.toUInt32 31)).toInt32) xx xb dJ6_bitCount_0f7a4_17 rfl ?_
  refine m_ldcw C kc_J6_266 dJ6_bitCount_0f7a4_18 ?_
  refine lv_iand xx xb dJ6_bitCount_0f7a4_21 ?_
  refine lv_iadd xx xb dJ6_bitCount_0f7a4_22 ?_
  refine re_i (bc2 (bc1 (nI S))) rfl ?_
  refine lv_istore_n (lv' := [(0, .int (bc2 (bc1 (nI S))))]) xx xb dJ6_bitCount_0f7a4_23 rfl hl (by decide) rfl (fun ls hl => ?_)
  refine lv_iload_n xx xb dJ6_bitCount_0f7a4_24 rfl (lv_at hl 0 rfl) ?_
  refine lv_iload_n xx xb dJ6_bitCount_0f7a4_25 rfl (lv_at hl 0 rfl) ?_
  refine lv_iconst (v := nI 4) xx xb dJ6_bitCount_0f7a4_26 (by decide) ?_
  refine lv_iushr (v := ((bc2 (bc1 (nI S))).toUInt32 >>> ((nI 4).toUInt32 &&& Int32.toUInt32 31)).toInt32) xx xb dJ6_bitCount_0f7a4_27 rfl ?_
  refine lv_iadd xx xb dJ6_bitCount_0f7a4_28 ?_
  refine m_ldcw C kc_J6_267 dJ6_bitCount_0f7a4_29 ?_
  refine lv_iand xx xb dJ6_bitCount_0f7a4_32 ?_
  refine re_i (bc3 (bc2 (bc1 (nI S)))) rfl ?_
  refine lv_istore_n (lv' := [(0, .int (bc3 (bc2 (bc1 (nI S)))))]) xx xb dJ6_bitCount_0f7a4_33 rfl hl (by decide) rfl (fun ls hl => ?_)
  refine lv_iload_n xx xb dJ6_bitCount_0f7a4_34 rfl (lv_at hl 0 rfl) ?_
  refine lv_iload_n xx xb dJ6_bitCount_0f7a4_35 rfl (lv_at hl 0 rfl) ?_
  refine lv_bipush (v := nI 8) xx xb dJ6_bitCount_0f7a4_36 (by decide) ?_
  refine lv_iushr (v := ((bc3 (bc2 (bc1 (nI S)))).toUInt32 >>> ((nI 8).toUInt32 &&& Int32.toUInt32 31)).toInt32) xx xb dJ6_bitCount_0f7a4_38 rfl ?_
  refine lv_iadd xx xb dJ6_bitCount_0f7a4_39 ?_
  refine re_i (bc4 (bc3 (bc2 (bc1 (nI S))))) rfl ?_
  refine lv_istore_n (lv' := [(0, .int (bc4 (bc3 (bc2 (bc1 (nI S))))))]) xx xb dJ6_bitCount_0f7a4_40 rfl hl (by decide) rfl (fun ls hl => ?_)
  refine lv_iload_n xx xb dJ6_bitCount_0f7a4_41 rfl (lv_at hl 0 rfl) ?_
  refine lv_iload_n xx xb dJ6_bitCount_0f7a4_42 rfl (lv_at hl 0 rfl) ?_
  refine lv_bipush (v := nI 16) xx xb dJ6_bitCount_0f7a4_43 (by decide) ?_
  refine lv_iushr (v := ((bc4 (bc3 (bc2 (bc1 (nI S))))).toUInt32 >>> ((nI 16).toUInt32 &&& Int32.toUInt32 31)).toInt32) xx xb dJ6_bitCount_0f7a4_45 rfl ?_
  refine lv_iadd xx xb dJ6_bitCount_0f7a4_46 ?_
  refine re_i (bc5 (bc4 (bc3 (bc2 (bc1 (nI S)))))) rfl ?_
  refine lv_istore_n (lv' := [(0, .int (bc5 (bc4 (bc3 (bc2 (bc1 (nI S)))))))]) xx xb dJ6_bitCount_0f7a4_47 rfl hl (by decide) rfl (fun ls hl => ?_)
  refine lv_iload_n xx xb dJ6_bitCount_0f7a4_48 rfl (lv_at hl 0 rfl) ?_
  refine lv_bipush (v := nI 63) xx xb dJ6_bitCount_0f7a4_49 (by decide) ?_
  refine lv_iand xx xb dJ6_bitCount_0f7a4_51 ?_
  exact rt_i C hw () (bc_pc S hS) rfl dJ6_bitCount_0f7a4_52
set_option maxRecDepth 100000 in
set_option maxHeartbeats 4000000 in
theorem kX0_isThing (l : Launch) (G : GT) (so : Nat) (ak : Nat) (af : Nat) (ab : Nat) (aa : Nat) (mi : Nat) (R : RT) (x : Int32) (xz : Int) (h_x : x.toInt = xz) (hn : R 0 0 ≤ 10) : Ct l yX0_isThing cX0_isThing 2 (some .boolean) 0 0 [.ref so, .int x] G [(so, .inr (0, [.int (nI (sN R)), .int (nI mi), .int (nI (sF R)), .int (nI (sS R)), .int (nI (sL R)), .ref ak, .ref af, .ref ab, .ref aa])), (ak, aI G 10 (sK R)), (af, aI G 10 (sG R)), (ab, aI G 10 (sO R)), (aa, aI G 10 (sA R))] (QI G [(so, .inr (0, [.int (nI (sN R)), .int (nI mi), .int (nI (sF R)), .int (nI (sS R)), .int (nI (sL R)), .ref ak, .ref af, .ref ab, .ref aa])), (ak, aI G 10 (sK R)), (af, aI G 10 (sG R)), (ab, aI G 10 (sO R)), (aa, aI G 10 (sA R))] (fun (r : Int32) (u : Unit) => r = if 0 ≤ xz ∧ xz < ((R 0 0 : Nat) : Int) then 1 else 0) (fun u => [(so, .inr (0, [.int (nI (sN R)), .int (nI mi), .int (nI (sF R)), .int (nI (sS R)), .int (nI (sL R)), .ref ak, .ref af, .ref ab, .ref aa])), (ak, aI G 10 (sK R)), (af, aI G 10 (sG R)), (ab, aI G 10 (sO R)), (aa, aI G 10 (sA R))])) := by
  refine en (by decide +kernel) (Nat.le_of_ble_eq_true rfl) ?_
  intro p e s m below meth c ls H locs C hl hw
  have xx := C.1
  have xb := C.2.1
  have hw : Wd G (fA [(so, .inr (0, [.int (nI (sN R)), .int (nI mi), .int (nI (sF R)), .int (nI (sS R)), .int (nI (sL R)), .ref ak, .ref af, .ref ab, .ref aa])), (ak, aI G 10 (sK R)), (af, aI G 10 (sG R)), (ab, aI G 10 (sO R)), (aa, aI G 10 (sA R))]) s [(so, .inr (0, [.int (nI (sN R)), .int (nI mi), .int (nI (sF R)), .int (nI (sS R)), .int (nI (sL R)), .ref ak, .ref af, .ref ab, .ref aa])), (ak, aI G 10 (sK R)), (af, aI G 10 (sG R)), (ab, aI G 10 (sO R)), (aa, aI G 10 (sA R))] H locs := hw
  have hl : lv_has ls 2 [(0, .ref so), (1, .int x)] := hl
  refine lv_iload_n xx xb dX0_isThing_0 rfl (lv_at hl 1 rfl) ?_
  refine lv_if_lt (tgt := 16) xx xb dX0_isThing_1 (by decide) (fun c_1 => ?_) (fun c_1 => ?_)
  · skip
    have c_1 := lt_c h_x Int32.toInt_zero c_1
    refine lv_iconst (v := nI 0) xx xb dX0_isThing_16 (by decide) ?_
    exact rt_z C hw () (Or.inl rfl) (by first | exact r1 (by omega) | exact r0 (by omega)) rfl dX0_isThing_17
  · skip
    have c_1 := nlt_c h_x Int32.toInt_zero c_1
    refine lv_iload_n xx xb dX0_isThing_4 rfl (lv_at hl 1 rfl) ?_
    refine lv_aload_n xx xb dX0_isThing_5 rfl (lv_at hl 0 rfl) ?_
    refine m_get C hw 0 rfl fk_X0_28 rfl dX0_isThing_6 ?_
    refine re_i (nI (R 0 0)) rfl ?_
    refine lv_icmp_ge (tgt := 16) xx xb dX0_isThing_9 (by decide) (fun c_9 => ?_) (fun c_9 => ?_)
    · skip
      have c_9 := le_c (tN (by omega)) h_x c_9
      refine lv_iconst (v := nI 0) xx xb dX0_isThing_16 (by decide) ?_
      exact rt_z C hw () (Or.inl rfl) (by first | exact r1 (by omega) | exact r0 (by omega)) rfl dX0_isThing_17
    · skip
      have c_9 := nle_c (tN (by omega)) h_x c_9
      refine lv_iconst (v := nI 1) xx xb dX0_isThing_12 (by decide) ?_
      refine lv_goto (tgt := 17) xx xb dX0_isThing_13 (by decide) ?_
      exact rt_z C hw () (Or.inr rfl) (by first | exact r1 (by omega) | exact r0 (by omega)) rfl dX0_isThing_17
set_option maxRecDepth 100000 in
set_option maxHeartbeats 4000000 in
theorem kX0_stands (l : Launch) (G : GT) (so : Nat) (ak : Nat) (af : Nat) (ab : Nat) (aa : Nat) (mi : Nat) (R : RT) (x : Int32) (xz : Int) (h_x : x.toInt = xz) (hR : OK R) : Ct l yX0_stands cX0_stands 2 (some .boolean) 0 0 [.ref so, .int x] G [(so, .inr (0, [.int (nI (sN R)), .int (nI mi), .int (nI (sF R)), .int (nI (sS R)), .int (nI (sL R)), .ref ak, .ref af, .ref ab, .ref aa])), (ak, aI G 10 (sK R)), (af, aI G 10 (sG R)), (ab, aI G 10 (sO R)), (aa, aI G 10 (sA R))] (QI G [(so, .inr (0, [.int (nI (sN R)), .int (nI mi), .int (nI (sF R)), .int (nI (sS R)), .int (nI (sL R)), .ref ak, .ref af, .ref ab, .ref aa])), (ak, aI G 10 (sK R)), (af, aI G 10 (sG R)), (ab, aI G 10 (sO R)), (aa, aI G 10 (sA R))] (fun (r : Int32) (u : Unit) => r = if (0 ≤ xz ∧ xz < ((R 0 0 : Nat) : Int)) ∧ R 4 xz.toNat = 0 then 1 else 0) (fun u => [(so, .inr (0, [.int (nI (sN R)), .int (nI mi), .int (nI (sF R)), .int (nI (sS R)), .int (nI (sL R)), .ref ak, .ref af, .ref ab, .ref aa])), (ak, aI G 10 (sK R)), (af, aI G 10 (sG R)), (ab, aI G 10 (sO R)), (aa, aI G 10 (sA R))])) := by
  refine en (by decide +kernel) (Nat.le_of_ble_eq_true rfl) ?_
  intro p e s m below meth c ls H locs C hl hw
  have xx := C.1
  have xb := C.2.1
  have hw : Wd G (fA [(so, .inr (0, [.int (nI (sN R)), .int (nI mi), .int (nI (sF R)), .int (nI (sS R)), .int (nI (sL R)), .ref ak, .ref af, .ref ab, .ref aa])), (ak, aI G 10 (sK R)), (af, aI G 10 (sG R)), (ab, aI G 10 (sO R)), (aa, aI G 10 (sA R))]) s [(so, .inr (0, [.int (nI (sN R)), .int (nI mi), .int (nI (sF R)), .int (nI (sS R)), .int (nI (sL R)), .ref ak, .ref af, .ref ab, .ref aa])), (ak, aI G 10 (sK R)), (af, aI G 10 (sG R)), (ab, aI G 10 (sO R)), (aa, aI G 10 (sA R))] H locs := hw
  have hl : lv_has ls 2 [(0, .ref so), (1, .int x)] := hl
  obtain ⟨hn, hf0, hpr, hA⟩ := id hR
  refine lv_iload_n xx xb dX0_stands_0 rfl (lv_at hl 1 rfl) ?_
  refine lv_if_lt (tgt := 27) xx xb dX0_stands_1 (by decide) (fun c_1 => ?_) (fun c_1 => ?_)
  · skip
    have c_1 := lt_c h_x Int32.toInt_zero c_1
    refine lv_iconst (v := nI 0) xx xb dX0_stands_27 (by decide) ?_
    exact rt_z C hw () (Or.inl rfl) (by first | exact r1 (by omega) | exact r0 (by omega)) rfl dX0_stands_28
  · skip
    have c_1 := nlt_c h_x Int32.toInt_zero c_1
    refine lv_iload_n xx xb dX0_stands_4 rfl (lv_at hl 1 rfl) ?_
    refine lv_aload_n xx xb dX0_stands_5 rfl (lv_at hl 0 rfl) ?_
    refine m_get C hw 0 rfl fk_X0_28 rfl dX0_stands_6 ?_
    refine re_i (nI (R 0 0)) rfl ?_
    refine lv_icmp_ge (tgt := 27) xx xb dX0_stands_9 (by decide) (fun c_9 => ?_) (fun c_9 => ?_)
    · skip
      have c_9 := le_c (tN (by omega)) h_x c_9
      refine lv_iconst (v := nI 0) xx xb dX0_stands_27 (by decide) ?_
      exact rt_z C hw () (Or.inl rfl) (by first | exact r1 (by omega) | exact r0 (by omega)) rfl dX0_stands_28
    · skip
      have c_9 := nle_c (tN (by omega)) h_x c_9
      refine lv_aload_n xx xb dX0_stands_12 rfl (lv_at hl 0 rfl) ?_
      refine m_get C hw 0 rfl fk_X0_35 rfl dX0_stands_13 ?_
      refine re_i (nI (setF R 0)) rfl ?_
      refine lv_iconst (v := nI 1) xx xb dX0_stands_16 (by decide) ?_
      refine lv_iload_n xx xb dX0_stands_17 rfl (lv_at hl 1 rfl) ?_
      refine re_i (nI xz.toNat) (ofT h_x (by omega) (by omega)) ?_
      refine lv_ishl xx xb dX0_stands_18 ?_
      refine re_i (nI (2 ^ xz.toNat)) (shl1 (by omega)) ?_
      refine lv_iand xx xb dX0_stands_19 ?_
      refine re_i (nI ((setF R 0) &&& (2 ^ xz.toNat))) (and_N _ _) ?_
      refine lv_if_eq (tgt := 27) xx xb dX0_stands_20 (by decide) (fun c_20 => ?_) (fun c_20 => ?_)
      · skip
        have c_20 := sb_0 hR (by omega) c_20
        refine lv_iconst (v := nI 0) xx xb dX0_stands_27 (by decide) ?_
        exact rt_z C hw () (Or.inl rfl) (by first | exact r1 (by omega) | exact r0 (by omega)) rfl dX0_stands_28
      · skip
        have c_20 := sb_1 (by omega) c_20
        refine lv_iconst (v := nI 1) xx xb dX0_stands_23 (by decide) ?_
        refine lv_goto (tgt := 28) xx xb dX0_stands_24 (by decide) ?_
        exact rt_z C hw () (Or.inr rfl) (by first | exact r1 (by omega) | exact r0 (by omega)) rfl dX0_stands_28
set_option maxRecDepth 100000 in
set_option maxHeartbeats 4000000 in
theorem kX0_lies (l : Launch) (G : GT) (so : Nat) (ak : Nat) (af : Nat) (ab : Nat) (aa : Nat) (mi : Nat) (R : RT) (x : Int32) (xz : Int) (h_x : x.toInt = xz) (hR : OK R) : Ct l yX0_lies cX0_lies 2 (some .boolean) 0 0 [.ref so, .int x] G [(so, .inr (0, [.int (nI (sN R)), .int (nI mi), .int (nI (sF R)), .int (nI (sS R)), .int (nI (sL R)), .ref ak, .ref af, .ref ab, .ref aa])), (ak, aI G 10 (sK R)), (af, aI G 10 (sG R)), (ab, aI G 10 (sO R)), (aa, aI G 10 (sA R))] (QI G [(so, .inr (0, [.int (nI (sN R)), .int (nI mi), .int (nI (sF R)), .int (nI (sS R)), .int (nI (sL R)), .ref ak, .ref af, .ref ab, .ref aa])), (ak, aI G 10 (sK R)), (af, aI G 10 (sG R)), (ab, aI G 10 (sO R)), (aa, aI G 10 (sA R))] (fun (r : Int32) (u : Unit) => r = if (0 ≤ xz ∧ xz < ((R 0 0 : Nat) : Int)) ∧ R 4 xz.toNat = 1 then 1 else 0) (fun u => [(so, .inr (0, [.int (nI (sN R)), .int (nI mi), .int (nI (sF R)), .int (nI (sS R)), .int (nI (sL R)), .ref ak, .ref af, .ref ab, .ref aa])), (ak, aI G 10 (sK R)), (af, aI G 10 (sG R)), (ab, aI G 10 (sO R)), (aa, aI G 10 (sA R))])) := by
  refine en (by decide +kernel) (Nat.le_of_ble_eq_true rfl) ?_
  intro p e s m below meth c ls H locs C hl hw
  have xx := C.1
  have xb := C.2.1
  have hw : Wd G (fA [(so, .inr (0, [.int (nI (sN R)), .int (nI mi), .int (nI (sF R)), .int (nI (sS R)), .int (nI (sL R)), .ref ak, .ref af, .ref ab, .ref aa])), (ak, aI G 10 (sK R)), (af, aI G 10 (sG R)), (ab, aI G 10 (sO R)), (aa, aI G 10 (sA R))]) s [(so, .inr (0, [.int (nI (sN R)), .int (nI mi), .int (nI (sF R)), .int (nI (sS R)), .int (nI (sL R)), .ref ak, .ref af, .ref ab, .ref aa])), (ak, aI G 10 (sK R)), (af, aI G 10 (sG R)), (ab, aI G 10 (sO R)), (aa, aI G 10 (sA R))] H locs := hw
  have hl : lv_has ls 2 [(0, .ref so), (1, .int x)] := hl
  obtain ⟨hn, hf0, hpr, hA⟩ := id hR
  refine lv_iload_n xx xb dX0_lies_0 rfl (lv_at hl 1 rfl) ?_
  refine lv_if_lt (tgt := 27) xx xb dX0_lies_1 (by decide) (fun c_1 => ?_) (fun c_1 => ?_)
  · skip
    have c_1 := lt_c h_x Int32.toInt_zero c_1
    refine lv_iconst (v := nI 0) xx xb dX0_lies_27 (by decide) ?_
    exact rt_z C hw () (Or.inl rfl) (by first | exact r1 (by omega) | exact r0 (by omega)) rfl dX0_lies_28
  · skip
    have c_1 := nlt_c h_x Int32.toInt_zero c_1
    refine lv_iload_n xx xb dX0_lies_4 rfl (lv_at hl 1 rfl) ?_
    refine lv_aload_n xx xb dX0_lies_5 rfl (lv_at hl 0 rfl) ?_
    refine m_get C hw 0 rfl fk_X0_28 rfl dX0_lies_6 ?_
    refine re_i (nI (R 0 0)) rfl ?_
    refine lv_icmp_ge (tgt := 27) xx xb dX0_lies_9 (by decide) (fun c_9 => ?_) (fun c_9 => ?_)
    · skip
      have c_9 := le_c (tN (by omega)) h_x c_9
      refine lv_iconst (v := nI 0) xx xb dX0_lies_27 (by decide) ?_
      exact rt_z C hw () (Or.inl rfl) (by first | exact r1 (by omega) | exact r0 (by omega)) rfl dX0_lies_28
    · skip
      have c_9 := nle_c (tN (by omega)) h_x c_9
      refine lv_aload_n xx xb dX0_lies_12 rfl (lv_at hl 0 rfl) ?_
      refine m_get C hw 0 rfl fk_X0_38 rfl dX0_lies_13 ?_
      refine re_i (nI (setF R 1)) rfl ?_
      refine lv_iconst (v := nI 1) xx xb dX0_lies_16 (by decide) ?_
      refine lv_iload_n xx xb dX0_lies_17 rfl (lv_at hl 1 rfl) ?_
      refine re_i (nI xz.toNat) (ofT h_x (by omega) (by omega)) ?_
      refine lv_ishl xx xb dX0_lies_18 ?_
      refine re_i (nI (2 ^ xz.toNat)) (shl1 (by omega)) ?_
      refine lv_iand xx xb dX0_lies_19 ?_
      refine re_i (nI ((setF R 1) &&& (2 ^ xz.toNat))) (and_N _ _) ?_
      refine lv_if_eq (tgt := 27) xx xb dX0_lies_20 (by decide) (fun c_20 => ?_) (fun c_20 => ?_)
      · skip
        have c_20 := sb_0 hR (by omega) c_20
        refine lv_iconst (v := nI 0) xx xb dX0_lies_27 (by decide) ?_
        exact rt_z C hw () (Or.inl rfl) (by first | exact r1 (by omega) | exact r0 (by omega)) rfl dX0_lies_28
      · skip
        have c_20 := sb_1 (by omega) c_20
        refine lv_iconst (v := nI 1) xx xb dX0_lies_23 (by decide) ?_
        refine lv_goto (tgt := 28) xx xb dX0_lies_24 (by decide) ?_
        exact rt_z C hw () (Or.inr rfl) (by first | exact r1 (by omega) | exact r0 (by omega)) rfl dX0_lies_28
set_option maxRecDepth 100000 in
set_option maxHeartbeats 4000000 in
theorem kX0_stateOf (l : Launch) (G : GT) (so : Nat) (ak : Nat) (af : Nat) (ab : Nat) (aa : Nat) (mi : Nat) (R : RT) (x : Int32) (xz : Int) (h_x : x.toInt = xz) (hR : OK R) (hx2 : 0 ≤ xz ∧ xz < ((R 0 0 : Nat) : Int)) : Ct l yX0_stateOf cX0_stateOf 2 (some .int) 1 21 [.ref so, .int x] G [(so, .inr (0, [.int (nI (sN R)), .int (nI mi), .int (nI (sF R)), .int (nI (sS R)), .int (nI (sL R)), .ref ak, .ref af, .ref ab, .ref aa])), (ak, aI G 10 (sK R)), (af, aI G 10 (sG R)), (ab, aI G 10 (sO R)), (aa, aI G 10 (sA R))] (QI G [(so, .inr (0, [.int (nI (sN R)), .int (nI mi), .int (nI (sF R)), .int (nI (sS R)), .int (nI (sL R)), .ref ak, .ref af, .ref ab, .ref aa])), (ak, aI G 10 (sK R)), (af, aI G 10 (sG R)), (ab, aI G 10 (sO R)), (aa, aI G 10 (sA R))] (fun (r : Int32) (u : Unit) => r = nI (R 4 xz.toNat)) (fun u => [(so, .inr (0, [.int (nI (sN R)), .int (nI mi), .int (nI (sF R)), .int (nI (sS R)), .int (nI (sL R)), .ref ak, .ref af, .ref ab, .ref aa])), (ak, aI G 10 (sK R)), (af, aI G 10 (sG R)), (ab, aI G 10 (sO R)), (aa, aI G 10 (sA R))])) := by
  refine en (by decide +kernel) (Nat.le_of_ble_eq_true rfl) ?_
  intro p e s m below meth c ls H locs C hl hw
  have xx := C.1
  have xb := C.2.1
  have hw : Wd G (fA [(so, .inr (0, [.int (nI (sN R)), .int (nI mi), .int (nI (sF R)), .int (nI (sS R)), .int (nI (sL R)), .ref ak, .ref af, .ref ab, .ref aa])), (ak, aI G 10 (sK R)), (af, aI G 10 (sG R)), (ab, aI G 10 (sO R)), (aa, aI G 10 (sA R))]) s [(so, .inr (0, [.int (nI (sN R)), .int (nI mi), .int (nI (sF R)), .int (nI (sS R)), .int (nI (sL R)), .ref ak, .ref af, .ref ab, .ref aa])), (ak, aI G 10 (sK R)), (af, aI G 10 (sG R)), (ab, aI G 10 (sO R)), (aa, aI G 10 (sA R))] H locs := hw
  have hl : lv_has ls 2 [(0, .ref so), (1, .int x)] := hl
  obtain ⟨hn, hf0, hpr, hA⟩ := id hR
  have h42 := (hA xz.toNat (by omega)).2.2.2.2
  refine lv_aload_n xx xb dX0_stateOf_0 rfl (lv_at hl 0 rfl) ?_
  refine lv_iload_n xx xb dX0_stateOf_1 rfl (lv_at hl 1 rfl) ?_
  have hM := kX0_stands l G so ak af ab aa mi R x xz h_x (by first | assumption | omega)
  refine cv_i C hw hM yvX0_stands ml_X0_47 0 rfl rfl rfl [0, 1, 2, 3, 4] rfl rfl (fun _ => (rfl : ([so, ak, af, ab, aa] : List Nat) = [so, ak, af, ab, aa])) (by decide) ⟨Nat.zero_le _, Nat.zero_le _⟩ hl.1 rfl (Nat.le_of_ble_eq_true rfl) dX0_stateOf_2 (fun r _ H locs hr hw => ?_)
  have hw : Wd G (fA [(so, .inr (0, [.int (nI (sN R)), .int (nI mi), .int (nI (sF R)), .int (nI (sS R)), .int (nI (sL R)), .ref ak, .ref af, .ref ab, .ref aa])), (ak, aI G 10 (sK R)), (af, aI G 10 (sG R)), (ab, aI G 10 (sO R)), (aa, aI G 10 (sA R))]) s [(so, .inr (0, [.int (nI (sN R)), .int (nI mi), .int (nI (sF R)), .int (nI (sS R)), .int (nI (sL R)), .ref ak, .ref af, .ref ab, .ref aa])), (ak, aI G 10 (sK R)), (af, aI G 10 (sG R)), (ab, aI G 10 (sO R)), (aa, aI G 10 (sA R))] H locs := hw
  subst hr
  refine lv_if_eq (tgt := 10) xx xb dX0_stateOf_5 (by decide) (fun c_5 => ?_) (fun c_5 => ?_)
  · skip
    have c_5 := b0_c c_5
    refine lv_aload_n xx xb dX0_stateOf_10 rfl (lv_at hl 0 rfl) ?_
    refine lv_iload_n xx xb dX0_stateOf_11 rfl (lv_at hl 1 rfl) ?_
    have hM := kX0_lies l G so ak af ab aa mi R x xz h_x (by first | assumption | omega)
    refine cv_i C hw hM yvX0_lies ml_X0_51 0 rfl rfl rfl [0, 1, 2, 3, 4] rfl rfl (fun _ => (rfl : ([so, ak, af, ab, aa] : List Nat) = [so, ak, af, ab, aa])) (by decide) ⟨Nat.zero_le _, Nat.zero_le _⟩ hl.1 rfl (Nat.le_of_ble_eq_true rfl) dX0_stateOf_12 (fun r _ H locs hr hw => ?_)
    have hw : Wd G (fA [(so, .inr (0, [.int (nI (sN R)), .int (nI mi), .int (nI (sF R)), .int (nI (sS R)), .int (nI (sL R)), .ref ak, .ref af, .ref ab, .ref aa])), (ak, aI G 10 (sK R)), (af, aI G 10 (sG R)), (ab, aI G 10 (sO R)), (aa, aI G 10 (sA R))]) s [(so, .inr (0, [.int (nI (sN R)), .int (nI mi), .int (nI (sF R)), .int (nI (sS R)), .int (nI (sL R)), .ref ak, .ref af, .ref ab, .ref aa])), (ak, aI G 10 (sK R)), (af, aI G 10 (sG R)), (ab, aI G 10 (sO R)), (aa, aI G 10 (sA R))] H locs := hw
    subst hr
    refine lv_if_eq (tgt := 22) xx xb dX0_stateOf_15 (by decide) (fun c_15 => ?_) (fun c_15 => ?_)
    · skip
      have c_15 := b0_c c_15
      refine lv_iconst (v := nI 2) xx xb dX0_stateOf_22 (by decide) ?_
      exact rt_i C hw () (congrArg nI (by omega)) rfl dX0_stateOf_23
    · skip
      have c_15 := b1_c c_15
      refine lv_iconst (v := nI 1) xx xb dX0_stateOf_18 (by decide) ?_
      refine lv_goto (tgt := 23) xx xb dX0_stateOf_19 (by decide) ?_
      exact rt_i C hw () (congrArg nI (by omega)) rfl dX0_stateOf_23
  · skip
    have c_5 := b1_c c_5
    refine lv_iconst (v := nI 0) xx xb dX0_stateOf_8 (by decide) ?_
    exact rt_i C hw () (congrArg nI (by omega)) rfl dX0_stateOf_9
set_option maxRecDepth 100000 in
set_option maxHeartbeats 4000000 in
theorem kX0_hasGround (l : Launch) (G : GT) (so : Nat) (ak : Nat) (af : Nat) (ab : Nat) (aa : Nat) (mi : Nat) (R : RT) (a : Nat) (hR : OK R) (ha : a < R 0 0) : Ct l yX0_hasGround cX0_hasGround 3 (some .boolean) 0 0 [.ref so, .int (nI a)] G [(so, .inr (0, [.int (nI (sN R)), .int (nI mi), .int (nI (sF R)), .int (nI (sS R)), .int (nI (sL R)), .ref ak, .ref af, .ref ab, .ref aa])), (ak, aI G 10 (sK R)), (af, aI G 10 (sG R)), (ab, aI G 10 (sO R)), (aa, aI G 10 (sA R))] (QI G [(so, .inr (0, [.int (nI (sN R)), .int (nI mi), .int (nI (sF R)), .int (nI (sS R)), .int (nI (sL R)), .ref ak, .ref af, .ref ab, .ref aa])), (ak, aI G 10 (sK R)), (af, aI G 10 (sG R)), (ab, aI G 10 (sO R)), (aa, aI G 10 (sA R))] (fun (r : Int32) (u : Unit) => r = if grdF R a = true then 1 else 0) (fun u => [(so, .inr (0, [.int (nI (sN R)), .int (nI mi), .int (nI (sF R)), .int (nI (sS R)), .int (nI (sL R)), .ref ak, .ref af, .ref ab, .ref aa])), (ak, aI G 10 (sK R)), (af, aI G 10 (sG R)), (ab, aI G 10 (sO R)), (aa, aI G 10 (sA R))])) := by
  refine en (by decide +kernel) (Nat.le_of_ble_eq_true rfl) ?_
  intro p e s m below meth c ls H locs C hl hw
  have xx := C.1
  have xb := C.2.1
  have hw : Wd G (fA [(so, .inr (0, [.int (nI (sN R)), .int (nI mi), .int (nI (sF R)), .int (nI (sS R)), .int (nI (sL R)), .ref ak, .ref af, .ref ab, .ref aa])), (ak, aI G 10 (sK R)), (af, aI G 10 (sG R)), (ab, aI G 10 (sO R)), (aa, aI G 10 (sA R))]) s [(so, .inr (0, [.int (nI (sN R)), .int (nI mi), .int (nI (sF R)), .int (nI (sS R)), .int (nI (sL R)), .ref ak, .ref af, .ref ab, .ref aa])), (ak, aI G 10 (sK R)), (af, aI G 10 (sG R)), (ab, aI G 10 (sO R)), (aa, aI G 10 (sA R))] H locs := hw
  have hl : lv_has ls 3 [(0, .ref so), (1, .int (nI a))] := hl
  obtain ⟨hn, hf0, hpr, hA⟩ := id hR
  obtain ⟨q1, q2, q3, q4, q5⟩ := hA a ha
  refine lv_aload_n xx xb dX0_hasGround_0 rfl (lv_at hl 0 rfl) ?_
  refine m_get C hw 0 rfl fk_X0_22 rfl dX0_hasGround_1 ?_
  refine lv_iload_n xx xb dX0_hasGround_4 rfl (lv_at hl 1 rfl) ?_
  refine m_ald C hw 3 rfl a rfl (by omega) (by decide) dX0_hasGround_5 ?_
  refine re_i (onI (R 3 a)) rfl ?_
  refine lv_istore_n (lv' := [(2, .int (onI (R 3 a))), (0, .ref so), (1, .int (nI a))]) xx xb dX0_hasGround_6 rfl hl (by decide) rfl (fun ls hl => ?_)
  refine lv_iload_n xx xb dX0_hasGround_7 rfl (lv_at hl 0 rfl) ?_
  refine lv_bipush (v := (-9)) xx xb dX0_hasGround_8 (by decide) ?_
  refine lv_icmp_ne (tgt := 20) xx xb dX0_hasGround_10 (by decide) (fun c_10 => ?_) (fun c_10 => ?_)
  · skip
    have c_10 := (mt (onI_inj (f := 10) (by omega) (by omega)).mpr c_10)
    refine lv_aload_n xx xb dX0_hasGround_20 rfl (lv_at hl 1 rfl) ?_
    refine m_get C hw 0 rfl fk_X0_35 rfl dX0_hasGround_21 ?_
    refine re_i (nI (setF R 0)) rfl ?_
    refine lv_iconst (v := nI 1) xx xb dX0_hasGround_24 (by decide) ?_
    refine lv_iload_n xx xb dX0_hasGround_25 rfl (lv_at hl 0 rfl) ?_
    refine re_i (nI (R 3 a)) (onI_lt (by omega)) ?_
    refine lv_ishl xx xb dX0_hasGround_26 ?_
    refine re_i (nI (2 ^ (R 3 a))) (shl1 (by omega)) ?_
    refine lv_iand xx xb dX0_hasGround_27 ?_
    refine re_i (nI ((setF R 0) &&& (2 ^ (R 3 a)))) (and_N _ _) ?_
    refine lv_if_eq (tgt := 35) xx xb dX0_hasGround_28 (by decide) (fun c_28 => ?_) (fun c_28 => ?_)
    · skip
      have c_28 := sb_0 hR (by omega) c_28
      refine lv_iconst (v := nI 0) xx xb dX0_hasGround_35 (by decide) ?_
      exact rt_z C hw () (Or.inl rfl) (by first | exact r1 (by unfold grdF; first | (rw [if_pos (by omega)]; exact decide_eq_true (by omega)) | (rw [if_neg (by omega)]; exact decide_eq_true (by omega))) | exact r0 (by unfold grdF; first | (rw [if_pos (by omega), decide_eq_true_eq]; omega) | (rw [if_neg (by omega), decide_eq_true_eq]; omega))) rfl dX0_hasGround_36
    · skip
      have c_28 := sb_1 (by omega) c_28
      refine lv_iconst (v := nI 1) xx xb dX0_hasGround_31 (by decide) ?_
      refine lv_goto (tgt := 36) xx xb dX0_hasGround_32 (by decide) ?_
      exact rt_z C hw () (Or.inr rfl) (by first | exact r1 (by unfold grdF; first | (rw [if_pos (by omega)]; exact decide_eq_true (by omega)) | (rw [if_neg (by omega)]; exact decide_eq_true (by omega))) | exact r0 (by unfold grdF; first | (rw [if_pos (by omega), decide_eq_true_eq]; omega) | (rw [if_neg (by omega), decide_eq_true_eq]; omega))) rfl dX0_hasGround_36
  · skip
    have c_10 := (onI_inj (f := 10) (by omega) (by omega)).mp c_10
    refine lv_aload_n xx xb dX0_hasGround_13 rfl (lv_at hl 1 rfl) ?_
    refine m_get C hw 0 rfl fk_X0_9 rfl dX0_hasGround_14 ?_
    refine re_i (nI (R 0 2)) rfl ?_
    refine lv_goto (tgt := 36) xx xb dX0_hasGround_17 (by decide) ?_
    refine re_i (if grdF R a = true then 1 else 0) (grd_fl c_10 hf0) ?_
    exact rt_z C hw () (b01 _) rfl rfl dX0_hasGround_36
set_option maxRecDepth 100000 in
set_option maxHeartbeats 4000000 in
theorem kX0_isHeld (l : Launch) (G : GT) (so : Nat) (ak : Nat) (af : Nat) (ab : Nat) (aa : Nat) (mi : Nat) (R : RT) (x : Int32) (xz : Int) (h_x : x.toInt = xz) (hR : OK R) : Ct l yX0_isHeld cX0_isHeld 2 (some .boolean) 1 22 [.ref so, .int x] G [(so, .inr (0, [.int (nI (sN R)), .int (nI mi), .int (nI (sF R)), .int (nI (sS R)), .int (nI (sL R)), .ref ak, .ref af, .ref ab, .ref aa])), (ak, aI G 10 (sK R)), (af, aI G 10 (sG R)), (ab, aI G 10 (sO R)), (aa, aI G 10 (sA R))] (QI G [(so, .inr (0, [.int (nI (sN R)), .int (nI mi), .int (nI (sF R)), .int (nI (sS R)), .int (nI (sL R)), .ref ak, .ref af, .ref ab, .ref aa])), (ak, aI G 10 (sK R)), (af, aI G 10 (sG R)), (ab, aI G 10 (sO R)), (aa, aI G 10 (sA R))] (fun (r : Int32) (u : Unit) => r = if ((0 ≤ xz ∧ xz < ((R 0 0 : Nat) : Int)) ∧ R 4 xz.toNat = 0) ∧ grdF R xz.toNat = true then 1 else 0) (fun u => [(so, .inr (0, [.int (nI (sN R)), .int (nI mi), .int (nI (sF R)), .int (nI (sS R)), .int (nI (sL R)), .ref ak, .ref af, .ref ab, .ref aa])), (ak, aI G 10 (sK R)), (af, aI G 10 (sG R)), (ab, aI G 10 (sO R)), (aa, aI G 10 (sA R))])) := by
  refine en (by decide +kernel) (Nat.le_of_ble_eq_true rfl) ?_
  intro p e s m below meth c ls H locs C hl hw
  have xx := C.1
  have xb := C.2.1
  have hw : Wd G (fA [(so, .inr (0, [.int (nI (sN R)), .int (nI mi), .int (nI (sF R)), .int (nI (sS R)), .int (nI (sL R)), .ref ak, .ref af, .ref ab, .ref aa])), (ak, aI G 10 (sK R)), (af, aI G 10 (sG R)), (ab, aI G 10 (sO R)), (aa, aI G 10 (sA R))]) s [(so, .inr (0, [.int (nI (sN R)), .int (nI mi), .int (nI (sF R)), .int (nI (sS R)), .int (nI (sL R)), .ref ak, .ref af, .ref ab, .ref aa])), (ak, aI G 10 (sK R)), (af, aI G 10 (sG R)), (ab, aI G 10 (sO R)), (aa, aI G 10 (sA R))] H locs := hw
  have hl : lv_has ls 2 [(0, .ref so), (1, .int x)] := hl
  obtain ⟨hn, hf0, hpr, hA⟩ := id hR
  refine lv_aload_n xx xb dX0_isHeld_0 rfl (lv_at hl 0 rfl) ?_
  refine lv_iload_n xx xb dX0_isHeld_1 rfl (lv_at hl 1 rfl) ?_
  have hM := kX0_stands l G so ak af ab aa mi R x xz h_x (by first | assumption | omega)
  refine cv_i C hw hM yvX0_stands ml_X0_47 0 rfl rfl rfl [0, 1, 2, 3, 4] rfl rfl (fun _ => (rfl : ([so, ak, af, ab, aa] : List Nat) = [so, ak, af, ab, aa])) (by decide) ⟨Nat.zero_le _, Nat.zero_le _⟩ hl.1 rfl (Nat.le_of_ble_eq_true rfl) dX0_isHeld_2 (fun r _ H locs hr hw => ?_)
  have hw : Wd G (fA [(so, .inr (0, [.int (nI (sN R)), .int (nI mi), .int (nI (sF R)), .int (nI (sS R)), .int (nI (sL R)), .ref ak, .ref af, .ref ab, .ref aa])), (ak, aI G 10 (sK R)), (af, aI G 10 (sG R)), (ab, aI G 10 (sO R)), (aa, aI G 10 (sA R))]) s [(so, .inr (0, [.int (nI (sN R)), .int (nI mi), .int (nI (sF R)), .int (nI (sS R)), .int (nI (sL R)), .ref ak, .ref af, .ref ab, .ref aa])), (ak, aI G 10 (sK R)), (af, aI G 10 (sG R)), (ab, aI G 10 (sO R)), (aa, aI G 10 (sA R))] H locs := hw
  subst hr
  refine lv_if_eq (tgt := 20) xx xb dX0_isHeld_5 (by decide) (fun c_5 => ?_) (fun c_5 => ?_)
  · skip
    have c_5 := b0_c c_5
    refine lv_iconst (v := nI 0) xx xb dX0_isHeld_20 (by decide) ?_
    exact rt_z C hw () (Or.inl rfl) (by first | exact r1 ⟨c_5, c_13⟩ | exact r0 (fun q => c_13 q.2) | exact r0 (fun q => c_5 q.1)) rfl dX0_isHeld_21
  · skip
    have c_5 := b1_c c_5
    refine lv_aload_n xx xb dX0_isHeld_8 rfl (lv_at hl 0 rfl) ?_
    refine lv_iload_n xx xb dX0_isHeld_9 rfl (lv_at hl 1 rfl) ?_
    refine re_i (nI xz.toNat) (ofT h_x (by omega) (by omega)) ?_
    have hM := kX0_hasGround l G so ak af ab aa mi R xz.toNat (by first | assumption | omega) (by first | assumption | omega)
    refine cv_i C hw hM yvX0_hasGround ml_X0_60 0 rfl rfl rfl [0, 1, 2, 3, 4] rfl rfl (fun _ => (rfl : ([so, ak, af, ab, aa] : List Nat) = [so, ak, af, ab, aa])) (by decide) ⟨Nat.zero_le _, Nat.zero_le _⟩ hl.1 rfl (Nat.le_of_ble_eq_true rfl) dX0_isHeld_10 (fun r _ H locs hr hw => ?_)
    have hw : Wd G (fA [(so, .inr (0, [.int (nI (sN R)), .int (nI mi), .int (nI (sF R)), .int (nI (sS R)), .int (nI (sL R)), .ref ak, .ref af, .ref ab, .ref aa])), (ak, aI G 10 (sK R)), (af, aI G 10 (sG R)), (ab, aI G 10 (sO R)), (aa, aI G 10 (sA R))]) s [(so, .inr (0, [.int (nI (sN R)), .int (nI mi), .int (nI (sF R)), .int (nI (sS R)), .int (nI (sL R)), .ref ak, .ref af, .ref ab, .ref aa])), (ak, aI G 10 (sK R)), (af, aI G 10 (sG R)), (ab, aI G 10 (sO R)), (aa, aI G 10 (sA R))] H locs := hw
    subst hr
    refine lv_if_eq (tgt := 20) xx xb dX0_isHeld_13 (by decide) (fun c_13 => ?_) (fun c_13 => ?_)
    · skip
      have c_13 := b0_c c_13
      refine lv_iconst (v := nI 0) xx xb dX0_isHeld_20 (by decide) ?_
      exact rt_z C hw () (Or.inl rfl) (by first | exact r1 ⟨c_5, c_13⟩ | exact r0 (fun q => c_13 q.2) | exact r0 (fun q => c_5 q.1)) rfl dX0_isHeld_21
    · skip
      have c_13 := b1_c c_13
      refine lv_iconst (v := nI 1) xx xb dX0_isHeld_16 (by decide) ?_
      refine lv_goto (tgt := 21) xx xb dX0_isHeld_17 (by decide) ?_
      exact rt_z C hw () (Or.inr rfl) (by first | exact r1 ⟨c_5, c_13⟩ | exact r0 (fun q => c_13 q.2) | exact r0 (fun q => c_5 q.1)) rfl dX0_isHeld_21
set_option maxRecDepth 100000 in
set_option maxHeartbeats 4000000 in
theorem kX0_countStanding (l : Launch) (G : GT) (so : Nat) (ak : Nat) (af : Nat) (ab : Nat) (aa : Nat) (mi : Nat) (R : RT) (hR : OK R) : Ct l yX0_countStanding cX0_countStanding 1 (some .int) 1 20 [.ref so] G [(so, .inr (0, [.int (nI (sN R)), .int (nI mi), .int (nI (sF R)), .int (nI (sS R)), .int (nI (sL R)), .ref ak, .ref af, .ref ab, .ref aa])), (ak, aI G 10 (sK R)), (af, aI G 10 (sG R)), (ab, aI G 10 (sO R)), (aa, aI G 10 (sA R))] (QI G [(so, .inr (0, [.int (nI (sN R)), .int (nI mi), .int (nI (sF R)), .int (nI (sS R)), .int (nI (sL R)), .ref ak, .ref af, .ref ab, .ref aa])), (ak, aI G 10 (sK R)), (af, aI G 10 (sG R)), (ab, aI G 10 (sO R)), (aa, aI G 10 (sA R))] (fun (r : Int32) (u : Unit) => r = nI (stN R)) (fun u => [(so, .inr (0, [.int (nI (sN R)), .int (nI mi), .int (nI (sF R)), .int (nI (sS R)), .int (nI (sL R)), .ref ak, .ref af, .ref ab, .ref aa])), (ak, aI G 10 (sK R)), (af, aI G 10 (sG R)), (ab, aI G 10 (sO R)), (aa, aI G 10 (sA R))])) := by
  refine en (by decide +kernel) (Nat.le_of_ble_eq_true rfl) ?_
  intro p e s m below meth c ls H locs C hl hw
  have xx := C.1
  have xb := C.2.1
  have hw : Wd G (fA [(so, .inr (0, [.int (nI (sN R)), .int (nI mi), .int (nI (sF R)), .int (nI (sS R)), .int (nI (sL R)), .ref ak, .ref af, .ref ab, .ref aa])), (ak, aI G 10 (sK R)), (af, aI G 10 (sG R)), (ab, aI G 10 (sO R)), (aa, aI G 10 (sA R))]) s [(so, .inr (0, [.int (nI (sN R)), .int (nI mi), .int (nI (sF R)), .int (nI (sS R)), .int (nI (sL R)), .ref ak, .ref af, .ref ab, .ref aa])), (ak, aI G 10 (sK R)), (af, aI G 10 (sG R)), (ab, aI G 10 (sO R)), (aa, aI G 10 (sA R))] H locs := hw
  have hl : lv_has ls 1 [(0, .ref so)] := hl
  obtain ⟨hn, hf0, hpr, hA⟩ := id hR
  have hs0 := setF_lt hR 0
  refine lv_aload_n xx xb dX0_countStanding_0 rfl (lv_at hl 0 rfl) ?_
  refine m_get C hw 0 rfl fk_X0_35 rfl dX0_countStanding_1 ?_
  refine re_i (nI (setF R 0)) rfl ?_
  have hM := kJ6_bitCount_0f7a4 l G (setF R 0) (by first | assumption | omega)
  refine cs_i C hw hM ysJ6_bitCount_0f7a4 ml_X0_54 rfl [] rfl rfl (fun _ => (rfl : ([] : List Nat) = [])) (by decide) ⟨Nat.zero_le _, Nat.zero_le _⟩ hl.1 rfl (Nat.le_of_ble_eq_true rfl) dX0_countStanding_4 (fun r _ H locs hr hw => ?_)
  have hw : Wd G (fA [(so, .inr (0, [.int (nI (sN R)), .int (nI mi), .int (nI (sF R)), .int (nI (sS R)), .int (nI (sL R)), .ref ak, .ref af, .ref ab, .ref aa])), (ak, aI G 10 (sK R)), (af, aI G 10 (sG R)), (ab, aI G 10 (sO R)), (aa, aI G 10 (sA R))]) s [(so, .inr (0, [.int (nI (sN R)), .int (nI mi), .int (nI (sF R)), .int (nI (sS R)), .int (nI (sL R)), .ref ak, .ref af, .ref ab, .ref aa])), (ak, aI G 10 (sK R)), (af, aI G 10 (sG R)), (ab, aI G 10 (sO R)), (aa, aI G 10 (sA R))] H locs := hw
  subst hr
  refine re_i (nI (stN R)) (congrArg nI (pc_bs _ hn)) ?_
  exact rt_i C hw () rfl rfl dX0_countStanding_7
set_option maxRecDepth 100000 in
set_option maxHeartbeats 4000000 in
theorem kX0_allGone (l : Launch) (G : GT) (so : Nat) (ak : Nat) (af : Nat) (ab : Nat) (aa : Nat) (mi : Nat) (R : RT) (hR : OK R) : Ct l yX0_allGone cX0_allGone 1 (some .int) 0 0 [.ref so] G [(so, .inr (0, [.int (nI (sN R)), .int (nI mi), .int (nI (sF R)), .int (nI (sS R)), .int (nI (sL R)), .ref ak, .ref af, .ref ab, .ref aa])), (ak, aI G 10 (sK R)), (af, aI G 10 (sG R)), (ab, aI G 10 (sO R)), (aa, aI G 10 (sA R))] (QI G [(so, .inr (0, [.int (nI (sN R)), .int (nI mi), .int (nI (sF R)), .int (nI (sS R)), .int (nI (sL R)), .ref ak, .ref af, .ref ab, .ref aa])), (ak, aI G 10 (sK R)), (af, aI G 10 (sG R)), (ab, aI G 10 (sO R)), (aa, aI G 10 (sA R))] (fun (r : Int32) (u : Unit) => r = nI (setF R 2)) (fun u => [(so, .inr (0, [.int (nI (sN R)), .int (nI mi), .int (nI (sF R)), .int (nI (sS R)), .int (nI (sL R)), .ref ak, .ref af, .ref ab, .ref aa])), (ak, aI G 10 (sK R)), (af, aI G 10 (sG R)), (ab, aI G 10 (sO R)), (aa, aI G 10 (sA R))])) := by
  refine en (by decide +kernel) (Nat.le_of_ble_eq_true rfl) ?_
  intro p e s m below meth c ls H locs C hl hw
  have xx := C.1
  have xb := C.2.1
  have hw : Wd G (fA [(so, .inr (0, [.int (nI (sN R)), .int (nI mi), .int (nI (sF R)), .int (nI (sS R)), .int (nI (sL R)), .ref ak, .ref af, .ref ab, .ref aa])), (ak, aI G 10 (sK R)), (af, aI G 10 (sG R)), (ab, aI G 10 (sO R)), (aa, aI G 10 (sA R))]) s [(so, .inr (0, [.int (nI (sN R)), .int (nI mi), .int (nI (sF R)), .int (nI (sS R)), .int (nI (sL R)), .ref ak, .ref af, .ref ab, .ref aa])), (ak, aI G 10 (sK R)), (af, aI G 10 (sG R)), (ab, aI G 10 (sO R)), (aa, aI G 10 (sA R))] H locs := hw
  have hl : lv_has ls 1 [(0, .ref so)] := hl
  obtain ⟨hn, hf0, hpr, hA⟩ := id hR
  have h21 : 1 ≤ 2 ^ R 0 0 := Nat.one_le_two_pow
  refine lv_iconst (v := nI 1) xx xb dX0_allGone_0 (by decide) ?_
  refine lv_aload_n xx xb dX0_allGone_1 rfl (lv_at hl 0 rfl) ?_
  refine m_get C hw 0 rfl fk_X0_28 rfl dX0_allGone_2 ?_
  refine re_i (nI (R 0 0)) rfl ?_
  refine lv_ishl xx xb dX0_allGone_5 ?_
  refine re_i (nI (2 ^ (R 0 0))) (shl1 (by omega)) ?_
  refine lv_iconst (v := nI 1) xx xb dX0_allGone_6 (by decide) ?_
  refine lv_isub xx xb dX0_allGone_7 ?_
  refine re_i (nI ((2 ^ (R 0 0)) - 1)) (pk_sub (by omega)) ?_
  refine lv_aload_n xx xb dX0_allGone_8 rfl (lv_at hl 0 rfl) ?_
  refine m_get C hw 0 rfl fk_X0_35 rfl dX0_allGone_9 ?_
  refine re_i (nI (setF R 0)) rfl ?_
  refine lv_iconst (v := (-1)) xx xb dX0_allGone_12 (by decide) ?_
  refine lv_ixor xx xb dX0_allGone_13 ?_
  refine lv_iand xx xb dX0_allGone_14 ?_
  refine re_i (nI (anN (2 ^ R 0 0 - 1) (setF R 0))) (an_N _ _) ?_
  refine lv_aload_n xx xb dX0_allGone_15 rfl (lv_at hl 0 rfl) ?_
  refine m_get C hw 0 rfl fk_X0_38 rfl dX0_allGone_16 ?_
  refine re_i (nI (setF R 1)) rfl ?_
  refine lv_iconst (v := (-1)) xx xb dX0_allGone_19 (by decide) ?_
  refine lv_ixor xx xb dX0_allGone_20 ?_
  refine lv_iand xx xb dX0_allGone_21 ?_
  refine re_i (nI (anN (anN (2 ^ R 0 0 - 1) (setF R 0)) (setF R 1))) (an_N _ _) ?_
  refine re_i (nI (setF R 2)) (congrArg nI (goneE hR)) ?_
  exact rt_i C hw () rfl rfl dX0_allGone_22
