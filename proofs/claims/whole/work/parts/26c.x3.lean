theorem cSets_0 {R : RT} {x : Int} (h : cSets R x = 0) : (0 ≤ x ∧ x < ((R 0 0 : Nat) : Int)) ∧ R 4 x.toNat = 1 := by
  unfold cSets at h
  by_cases h1 : 0 ≤ x ∧ x < ((R 0 0 : Nat) : Int)
  · rw [if_pos h1] at h
    by_cases h2 : R 4 x.toNat = 1
    · exact ⟨h1, h2⟩
    · rw [if_neg h2] at h; omega
  · rw [if_neg h1] at h; omega
theorem if_tt {P Q : Prop} [Decidable P] [Decidable Q] (h : P ↔ Q) : (if P then (1 : Int32) else 0) = if Q then 1 else 0 := by
  by_cases z : P
  · rw [if_pos z, if_pos (h.mp z)]
  · rw [if_neg z, if_neg (fun q => z (h.mpr q))]
theorem cSets_le (R : RT) (x : Int) : cSets R x ≤ 6 := by unfold cSets; (repeat' split) <;> omega
theorem cTow_le (R : RT) (x w : Int) : cTow R x w ≤ 6 := by unfold cTow; (repeat' split) <;> omega
theorem cTow_0 {R : RT} {x w : Int} (h : cTow R x w = 0) : (0 ≤ x ∧ x < ((R 0 0 : Nat) : Int)) ∧ (0 ≤ w ∧ w ≤ 2) := by
  unfold cTow at h
  by_cases h1 : 0 ≤ x ∧ x < ((R 0 0 : Nat) : Int)
  · rw [if_pos h1] at h
    by_cases h2 : 0 ≤ w ∧ w ≤ 2
    · exact ⟨h1, h2⟩
    · rw [if_neg h2] at h; omega
  · rw [if_neg h1] at h; omega
set_option maxRecDepth 100000 in
set_option maxHeartbeats 4000000 in
theorem kX1_setsUp (l : Launch) (G : GT) (h0 : Nat) (so : Nat) (to : Nat) (uo : Nat) (x5 : Nat) (x6 : Nat) (x7 : Nat) (x8 : Nat) (im : Nat) (lm : Nat) (rm : Nat) (sd : Int32) (rf : Nat → Nat) (ak : Nat) (af : Nat) (ab : Nat) (aa : Nat) (R : RT) (x : Int32) (xz : Int) (h_x : x.toInt = xz) (hR : OK R) (hp : R 0 3 = 0) : Ct l yX1_setsUp cX1_setsUp 3 (some .int) 2 43 [.ref h0, .int x] G [(h0, .inr (1, [.ref so, .ref to, .ref uo, .int (nI im), .ref x5, .int (nI lm), .ref x6, .int (nI rm), .ref x7, .ref x8, .int sd])), (so, .inr (0, [.int (nI (sN R)), .int (nI (R 0 1)), .int (nI (sF R)), .int (nI (sS R)), .int (nI (sL R)), .ref ak, .ref af, .ref ab, .ref aa])), (ak, aI G 10 (sK R)), (af, aI G 10 (sG R)), (ab, aI G 10 (sO R)), (aa, aI G 10 (sA R)), (x7, aI G 7 (cN rf))] (QI G [(h0, .inr (1, [.ref so, .ref to, .ref uo, .int (nI im), .ref x5, .int (nI lm), .ref x6, .int (nI rm), .ref x7, .ref x8, .int sd])), (so, .inr (0, [.int (nI (sN R)), .int (nI (R 0 1)), .int (nI (sF R)), .int (nI (sS R)), .int (nI (sL R)), .ref ak, .ref af, .ref ab, .ref aa])), (ak, aI G 10 (sK R)), (af, aI G 10 (sG R)), (ab, aI G 10 (sO R)), (aa, aI G 10 (sA R)), (x7, aI G 7 (cN rf))] (fun (r : Int32) (u : Unit) => r = anI (cSets R xz) (if heldF (setU R xz.toNat) xz.toNat = true then 1 else 0)) (fun u => [(h0, .inr (1, [.ref so, .ref to, .ref uo, .int (nI im), .ref x5, .int (nI lm), .ref x6, .int (nI rm), .ref x7, .ref x8, .int sd])), (so, .inr (0, [.int (nI (sN (selR (cSets R xz) (setU R xz.toNat) R))), .int (nI (R 0 1)), .int (nI (sF (selR (cSets R xz) (setU R xz.toNat) R))), .int (nI (sS (selR (cSets R xz) (setU R xz.toNat) R))), .int (nI (sL (selR (cSets R xz) (setU R xz.toNat) R))), .ref ak, .ref af, .ref ab, .ref aa])), (ak, aI G 10 (sK (selR (cSets R xz) (setU R xz.toNat) R))), (af, aI G 10 (sG (selR (cSets R xz) (setU R xz.toNat) R))), (ab, aI G 10 (sO (selR (cSets R xz) (setU R xz.toNat) R))), (aa, aI G 10 (sA (selR (cSets R xz) (setU R xz.toNat) R))), (x7, aI G 7 (cN (rfU rf (cSets R xz))))])) := by
  refine en (by decide +kernel) (Nat.le_of_ble_eq_true rfl) ?_
  intro p e s m below meth c ls H locs C hl hw
  have xx := C.1
  have xb := C.2.1
  have hw : Wd G (fA [(h0, .inr (1, [.ref so, .ref to, .ref uo, .int (nI im), .ref x5, .int (nI lm), .ref x6, .int (nI rm), .ref x7, .ref x8, .int sd])), (so, .inr (0, [.int (nI (sN R)), .int (nI (R 0 1)), .int (nI (sF R)), .int (nI (sS R)), .int (nI (sL R)), .ref ak, .ref af, .ref ab, .ref aa])), (ak, aI G 10 (sK R)), (af, aI G 10 (sG R)), (ab, aI G 10 (sO R)), (aa, aI G 10 (sA R)), (x7, aI G 7 (cN rf))]) s [(h0, .inr (1, [.ref so, .ref to, .ref uo, .int (nI im), .ref x5, .int (nI lm), .ref x6, .int (nI rm), .ref x7, .ref x8, .int sd])), (so, .inr (0, [.int (nI (sN R)), .int (nI (R 0 1)), .int (nI (sF R)), .int (nI (sS R)), .int (nI (sL R)), .ref ak, .ref af, .ref ab, .ref aa])), (ak, aI G 10 (sK R)), (af, aI G 10 (sG R)), (ab, aI G 10 (sO R)), (aa, aI G 10 (sA R)), (x7, aI G 7 (cN rf))] H locs := hw
  have hl : lv_has ls 3 [(0, .ref h0), (1, .int x)] := hl
  obtain ⟨hn, hf0, hpr, hA⟩ := id hR
  have hc6 := cSets_le R xz
  refine lv_aload_n xx xb dX1_setsUp_0 rfl (lv_at hl 0 rfl) ?_
  refine lv_iload_n xx xb dX1_setsUp_1 rfl (lv_at hl 1 rfl) ?_
  refine lv_aload_n xx xb dX1_setsUp_2 rfl (lv_at hl 0 rfl) ?_
  refine m_get C hw 0 rfl fk_X1_10 rfl dX1_setsUp_3 ?_
  refine lv_iload_n xx xb dX1_setsUp_6 rfl (lv_at hl 1 rfl) ?_
  have hM := kX0_lies l G so ak af ab aa (R 0 1) R x xz h_x (by first | assumption | omega)
  refine cv_i C hw hM yvX0_lies ml_X1_108 1 rfl rfl rfl [1, 2, 3, 4, 5] rfl rfl (fun _ => (rfl : ([so, ak, af, ab, aa] : List Nat) = [so, ak, af, ab, aa])) (by decide) ⟨Nat.zero_le _, Nat.zero_le _⟩ hl.1 rfl (Nat.le_of_ble_eq_true rfl) dX1_setsUp_7 (fun r _ H locs hr hw => ?_)
  have hw : Wd G (fA [(h0, .inr (1, [.ref so, .ref to, .ref uo, .int (nI im), .ref x5, .int (nI lm), .ref x6, .int (nI rm), .ref x7, .ref x8, .int sd])), (so, .inr (0, [.int (nI (sN R)), .int (nI (R 0 1)), .int (nI (sF R)), .int (nI (sS R)), .int (nI (sL R)), .ref ak, .ref af, .ref ab, .ref aa])), (ak, aI G 10 (sK R)), (af, aI G 10 (sG R)), (ab, aI G 10 (sO R)), (aa, aI G 10 (sA R)), (x7, aI G 7 (cN rf))]) s [(h0, .inr (1, [.ref so, .ref to, .ref uo, .int (nI im), .ref x5, .int (nI lm), .ref x6, .int (nI rm), .ref x7, .ref x8, .int sd])), (so, .inr (0, [.int (nI (sN R)), .int (nI (R 0 1)), .int (nI (sF R)), .int (nI (sS R)), .int (nI (sL R)), .ref ak, .ref af, .ref ab, .ref aa])), (ak, aI G 10 (sK R)), (af, aI G 10 (sG R)), (ab, aI G 10 (sO R)), (aa, aI G 10 (sA R)), (x7, aI G 7 (cN rf))] H locs := hw
  subst hr
  refine lv_if_eq (tgt := 17) xx xb dX1_setsUp_10 (by decide) (fun c_10 => ?_) (fun c_10 => ?_)
  · skip
    have c_10 := b0_c c_10
    refine lv_bipush (v := (-3)) xx xb dX1_setsUp_17 (by decide) ?_
    refine re_i (nG (if (0 ≤ xz ∧ xz < ((R 0 0 : Nat) : Int)) ∧ R 4 xz.toNat = 1 then 0 else 3)) (by rw [if_neg c_10]; decide +kernel) ?_
    have hM := kX1_refusalOfThing l G h0 so to uo x5 x6 x7 x8 im lm rm sd ak af ab aa (R 0 1) R (if (0 ≤ xz ∧ xz < ((R 0 0 : Nat) : Int)) ∧ R 4 xz.toNat = 1 then 0 else 3) x xz h_x (by first | assumption | omega)
    refine cv_i C hw hM yvX1_refusalOfThing ml_X1_55 0 rfl rfl rfl [0, 1, 2, 3, 4, 5] rfl rfl (fun _ => (rfl : ([h0, so, ak, af, ab, aa] : List Nat) = [h0, so, ak, af, ab, aa])) (by decide) ⟨Nat.zero_le _, Nat.zero_le _⟩ hl.1 rfl (Nat.le_of_ble_eq_true rfl) dX1_setsUp_19 (fun r _ H locs hr hw => ?_)
    have hw : Wd G (fA [(h0, .inr (1, [.ref so, .ref to, .ref uo, .int (nI im), .ref x5, .int (nI lm), .ref x6, .int (nI rm), .ref x7, .ref x8, .int sd])), (so, .inr (0, [.int (nI (sN R)), .int (nI (R 0 1)), .int (nI (sF R)), .int (nI (sS R)), .int (nI (sL R)), .ref ak, .ref af, .ref ab, .ref aa])), (ak, aI G 10 (sK R)), (af, aI G 10 (sG R)), (ab, aI G 10 (sO R)), (aa, aI G 10 (sA R)), (x7, aI G 7 (cN rf))]) s [(h0, .inr (1, [.ref so, .ref to, .ref uo, .int (nI im), .ref x5, .int (nI lm), .ref x6, .int (nI rm), .ref x7, .ref x8, .int sd])), (so, .inr (0, [.int (nI (sN R)), .int (nI (R 0 1)), .int (nI (sF R)), .int (nI (sS R)), .int (nI (sL R)), .ref ak, .ref af, .ref ab, .ref aa])), (ak, aI G 10 (sK R)), (af, aI G 10 (sG R)), (ab, aI G 10 (sO R)), (aa, aI G 10 (sA R)), (x7, aI G 7 (cN rf))] H locs := hw
    subst hr
    refine re_i (nG (cSets R xz)) (congrArg nG cs_eq) ?_
    refine lv_istore_n (lv' := [(2, .int (nG (cSets R xz))), (0, .ref h0), (1, .int x)]) xx xb dX1_setsUp_22 rfl hl (by decide) rfl (fun ls hl => ?_)
    refine lv_iload_n xx xb dX1_setsUp_23 rfl (lv_at hl 0 rfl) ?_
    refine lv_if_eq (tgt := 33) xx xb dX1_setsUp_24 (by decide) (fun c_24 => ?_) (fun c_24 => ?_)
    · skip
      have c_24 := g0_c (by omega) c_24
      obtain ⟨g1, g2⟩ := cSets_0 c_24
      refine lv_aload_n xx xb dX1_setsUp_33 rfl (lv_at hl 1 rfl) ?_
      refine m_get C hw 0 rfl fk_X1_10 rfl dX1_setsUp_34 ?_
      refine lv_iload_n xx xb dX1_setsUp_37 rfl (lv_at hl 2 rfl) ?_
      refine re_i (nI xz.toNat) (ofT h_x (by omega) (by omega)) ?_
      have hM := kX0_setUp l G so ak af ab aa (R 0 1) R xz.toNat (by first | assumption | omega) (by first | assumption | omega)
      refine cv_v C hw hM yvX0_setUp ml_X1_111 1 rfl rfl rfl [1, 2, 3, 4, 5] rfl rfl (fun _ => (rfl : ([so, ak, af, ab, aa] : List Nat) = [so, ak, af, ab, aa])) (by decide) ⟨Nat.zero_le _, Nat.zero_le _⟩ hl.1 rfl (Nat.le_of_ble_eq_true rfl) dX1_setsUp_38 (fun _ H locs hr hw => ?_)
      have hw : Wd G (fA [(h0, .inr (1, [.ref so, .ref to, .ref uo, .int (nI im), .ref x5, .int (nI lm), .ref x6, .int (nI rm), .ref x7, .ref x8, .int sd])), (so, .inr (0, [.int (nI (sN R)), .int (nI (R 0 1)), .int (nI (sF R)), .int (nI (sS R)), .int (nI (sL R)), .ref ak, .ref af, .ref ab, .ref aa])), (ak, aI G 10 (sK R)), (af, aI G 10 (sG R)), (ab, aI G 10 (sO R)), (aa, aI G 10 (sA R)), (x7, aI G 7 (cN rf))]) s [(h0, .inr (1, [.ref so, .ref to, .ref uo, .int (nI im), .ref x5, .int (nI lm), .ref x6, .int (nI rm), .ref x7, .ref x8, .int sd])), (so, .inr (0, [.int (nI (sN (setU R xz.toNat))), .int (nI (R 0 1)), .int (nI (sF (setU R xz.toNat))), .int (nI (sS (setU R xz.toNat))), .int (nI (sL (setU R xz.toNat))), .ref ak, .ref af, .ref ab, .ref aa])), (ak, aI G 10 (sK (setU R xz.toNat))), (af, aI G 10 (sG (setU R xz.toNat))), (ab, aI G 10 (sO (setU R xz.toNat))), (aa, aI G 10 (sA (setU R xz.toNat))), (x7, aI G 7 (cN rf))] H locs := hw
      refine lv_aload_n xx xb dX1_setsUp_41 rfl (lv_at hl 1 rfl) ?_
      refine m_get C hw 0 rfl fk_X1_10 rfl dX1_setsUp_42 ?_
      refine lv_iload_n xx xb dX1_setsUp_45 rfl (lv_at hl 2 rfl) ?_
      have hM := kX0_isHeld l G so ak af ab aa (R 0 1) (setU R xz.toNat) x xz h_x (OK_setU _ hR)
      refine cv_i C hw hM yvX0_isHeld ml_X1_79 1 rfl rfl rfl [1, 2, 3, 4, 5] rfl rfl (fun _ => (rfl : ([so, ak, af, ab, aa] : List Nat) = [so, ak, af, ab, aa])) (by decide) ⟨Nat.zero_le _, Nat.zero_le _⟩ hl.1 rfl (Nat.le_of_ble_eq_true rfl) dX1_setsUp_46 (fun r _ H locs hr hw => ?_)
      have hw : Wd G (fA [(h0, .inr (1, [.ref so, .ref to, .ref uo, .int (nI im), .ref x5, .int (nI lm), .ref x6, .int (nI rm), .ref x7, .ref x8, .int sd])), (so, .inr (0, [.int (nI (sN R)), .int (nI (R 0 1)), .int (nI (sF R)), .int (nI (sS R)), .int (nI (sL R)), .ref ak, .ref af, .ref ab, .ref aa])), (ak, aI G 10 (sK R)), (af, aI G 10 (sG R)), (ab, aI G 10 (sO R)), (aa, aI G 10 (sA R)), (x7, aI G 7 (cN rf))]) s [(h0, .inr (1, [.ref so, .ref to, .ref uo, .int (nI im), .ref x5, .int (nI lm), .ref x6, .int (nI rm), .ref x7, .ref x8, .int sd])), (so, .inr (0, [.int (nI (sN (setU R xz.toNat))), .int (nI (R 0 1)), .int (nI (sF (setU R xz.toNat))), .int (nI (sS (setU R xz.toNat))), .int (nI (sL (setU R xz.toNat))), .ref ak, .ref af, .ref ab, .ref aa])), (ak, aI G 10 (sK (setU R xz.toNat))), (af, aI G 10 (sG (setU R xz.toNat))), (ab, aI G 10 (sO (setU R xz.toNat))), (aa, aI G 10 (sA (setU R xz.toNat))), (x7, aI G 7 (cN rf))] H locs := hw
      subst hr
      have hM := kX1_bit l G (if ((0 ≤ xz ∧ xz < (((setU R xz.toNat) 0 0 : Nat) : Int)) ∧ (setU R xz.toNat) 4 xz.toNat = 0) ∧ grdF (setU R xz.toNat) xz.toNat = true then 1 else 0) (b01 _)
      refine cs_i C hw hM ysX1_bit ml_X1_83 rfl [] rfl rfl (fun _ => (rfl : ([] : List Nat) = [])) (by decide) ⟨Nat.zero_le _, Nat.zero_le _⟩ hl.1 rfl (Nat.le_of_ble_eq_true rfl) dX1_setsUp_49 (fun r _ H locs hr hw => ?_)
      have hw : Wd G (fA [(h0, .inr (1, [.ref so, .ref to, .ref uo, .int (nI im), .ref x5, .int (nI lm), .ref x6, .int (nI rm), .ref x7, .ref x8, .int sd])), (so, .inr (0, [.int (nI (sN R)), .int (nI (R 0 1)), .int (nI (sF R)), .int (nI (sS R)), .int (nI (sL R)), .ref ak, .ref af, .ref ab, .ref aa])), (ak, aI G 10 (sK R)), (af, aI G 10 (sG R)), (ab, aI G 10 (sO R)), (aa, aI G 10 (sA R)), (x7, aI G 7 (cN rf))]) s [(h0, .inr (1, [.ref so, .ref to, .ref uo, .int (nI im), .ref x5, .int (nI lm), .ref x6, .int (nI rm), .ref x7, .ref x8, .int sd])), (so, .inr (0, [.int (nI (sN (setU R xz.toNat))), .int (nI (R 0 1)), .int (nI (sF (setU R xz.toNat))), .int (nI (sS (setU R xz.toNat))), .int (nI (sL (setU R xz.toNat))), .ref ak, .ref af, .ref ab, .ref aa])), (ak, aI G 10 (sK (setU R xz.toNat))), (af, aI G 10 (sG (setU R xz.toNat))), (ab, aI G 10 (sO (setU R xz.toNat))), (aa, aI G 10 (sA (setU R xz.toNat))), (x7, aI G 7 (cN rf))] H locs := hw
      subst hr
      refine re_i (if heldF (setU R xz.toNat) xz.toNat = true then 1 else 0) (by rw [held_0 (R := setU R xz.toNat) hp]; exact if_tt ⟨fun h => h.2, fun h => ⟨⟨g1, setU_s⟩, h⟩⟩) ?_
      have hc : cSets R xz = 0 := by first | assumption | rfl
      exact rt_i C hw () (by exact (anI_0 hc _).symm) (by rw [rfU_0 hc, selR_0 hc]) dX1_setsUp_52
    · skip
      have c_24 := g0_n c_24
      refine lv_aload_n xx xb dX1_setsUp_27 rfl (lv_at hl 1 rfl) ?_
      refine lv_iload_n xx xb dX1_setsUp_28 rfl (lv_at hl 0 rfl) ?_
      have hM := kX1_refuse l G h0 so to uo x5 x6 x7 x8 im lm rm sd rf (cSets R xz) (by first | assumption | omega)
      refine cv_i C hw hM yvX1_refuse ml_X1_43 0 rfl rfl rfl [0, 6] rfl rfl (fun _ => (rfl : ([h0, x7] : List Nat) = [h0, x7])) (by decide) ⟨Nat.zero_le _, Nat.zero_le _⟩ hl.1 rfl (Nat.le_of_ble_eq_true rfl) dX1_setsUp_29 (fun r _ H locs hr hw => ?_)
      have hw : Wd G (fA [(h0, .inr (1, [.ref so, .ref to, .ref uo, .int (nI im), .ref x5, .int (nI lm), .ref x6, .int (nI rm), .ref x7, .ref x8, .int sd])), (so, .inr (0, [.int (nI (sN R)), .int (nI (R 0 1)), .int (nI (sF R)), .int (nI (sS R)), .int (nI (sL R)), .ref ak, .ref af, .ref ab, .ref aa])), (ak, aI G 10 (sK R)), (af, aI G 10 (sG R)), (ab, aI G 10 (sO R)), (aa, aI G 10 (sA R)), (x7, aI G 7 (cN rf))]) s [(h0, .inr (1, [.ref so, .ref to, .ref uo, .int (nI im), .ref x5, .int (nI lm), .ref x6, .int (nI rm), .ref x7, .ref x8, .int sd])), (so, .inr (0, [.int (nI (sN R)), .int (nI (R 0 1)), .int (nI (sF R)), .int (nI (sS R)), .int (nI (sL R)), .ref ak, .ref af, .ref ab, .ref aa])), (ak, aI G 10 (sK R)), (af, aI G 10 (sG R)), (ab, aI G 10 (sO R)), (aa, aI G 10 (sA R)), (x7, aI G 7 (cN (upN rf (cSets R xz) (rf (cSets R xz) + 1))))] H locs := hw
      subst hr
      have hc : cSets R xz = (cSets R xz) := by first | assumption | rfl
      have hj : (cSets R xz) ≠ 0 := by omega
      exact rt_i C hw () (by exact (anI_r hc hj _).symm) (by rw [rfU_r hc hj, selR_r hc hj]) dX1_setsUp_32
  · skip
    have c_10 := b1_c c_10
    refine lv_iconst (v := nI 0) xx xb dX1_setsUp_13 (by decide) ?_
    refine lv_goto (tgt := 19) xx xb dX1_setsUp_14 (by decide) ?_
    refine re_i (nG (if (0 ≤ xz ∧ xz < ((R 0 0 : Nat) : Int)) ∧ R 4 xz.toNat = 1 then 0 else 3)) (by rw [if_pos c_10]; decide +kernel) ?_
    have hM := kX1_refusalOfThing l G h0 so to uo x5 x6 x7 x8 im lm rm sd ak af ab aa (R 0 1) R (if (0 ≤ xz ∧ xz < ((R 0 0 : Nat) : Int)) ∧ R 4 xz.toNat = 1 then 0 else 3) x xz h_x (by first | assumption | omega)
    refine cv_i C hw hM yvX1_refusalOfThing ml_X1_55 0 rfl rfl rfl [0, 1, 2, 3, 4, 5] rfl rfl (fun _ => (rfl : ([h0, so, ak, af, ab, aa] : List Nat) = [h0, so, ak, af, ab, aa])) (by decide) ⟨Nat.zero_le _, Nat.zero_le _⟩ hl.1 rfl (Nat.le_of_ble_eq_true rfl) dX1_setsUp_19 (fun r _ H locs hr hw => ?_)
    have hw : Wd G (fA [(h0, .inr (1, [.ref so, .ref to, .ref uo, .int (nI im), .ref x5, .int (nI lm), .ref x6, .int (nI rm), .ref x7, .ref x8, .int sd])), (so, .inr (0, [.int (nI (sN R)), .int (nI (R 0 1)), .int (nI (sF R)), .int (nI (sS R)), .int (nI (sL R)), .ref ak, .ref af, .ref ab, .ref aa])), (ak, aI G 10 (sK R)), (af, aI G 10 (sG R)), (ab, aI G 10 (sO R)), (aa, aI G 10 (sA R)), (x7, aI G 7 (cN rf))]) s [(h0, .inr (1, [.ref so, .ref to, .ref uo, .int (nI im), .ref x5, .int (nI lm), .ref x6, .int (nI rm), .ref x7, .ref x8, .int sd])), (so, .inr (0, [.int (nI (sN R)), .int (nI (R 0 1)), .int (nI (sF R)), .int (nI (sS R)), .int (nI (sL R)), .ref ak, .ref af, .ref ab, .ref aa])), (ak, aI G 10 (sK R)), (af, aI G 10 (sG R)), (ab, aI G 10 (sO R)), (aa, aI G 10 (sA R)), (x7, aI G 7 (cN rf))] H locs := hw
    subst hr
    refine re_i (nG (cSets R xz)) (congrArg nG cs_eq) ?_
    refine lv_istore_n (lv' := [(2, .int (nG (cSets R xz))), (0, .ref h0), (1, .int x)]) xx xb dX1_setsUp_22 rfl hl (by decide) rfl (fun ls hl => ?_)
    refine lv_iload_n xx xb dX1_setsUp_23 rfl (lv_at hl 0 rfl) ?_
    refine lv_if_eq (tgt := 33) xx xb dX1_setsUp_24 (by decide) (fun c_24 => ?_) (fun c_24 => ?_)
    · skip
      have c_24 := g0_c (by omega) c_24
      obtain ⟨g1, g2⟩ := cSets_0 c_24
      refine lv_aload_n xx xb dX1_setsUp_33 rfl (lv_at hl 1 rfl) ?_
      refine m_get C hw 0 rfl fk_X1_10 rfl dX1_setsUp_34 ?_
      refine lv_iload_n xx xb dX1_setsUp_37 rfl (lv_at hl 2 rfl) ?_
      refine re_i (nI xz.toNat) (ofT h_x (by omega) (by omega)) ?_
      have hM := kX0_setUp l G so ak af ab aa (R 0 1) R xz.toNat (by first | assumption | omega) (by first | assumption | omega)
      refine cv_v C hw hM yvX0_setUp ml_X1_111 1 rfl rfl rfl [1, 2, 3, 4, 5] rfl rfl (fun _ => (rfl : ([so, ak, af, ab, aa] : List Nat) = [so, ak, af, ab, aa])) (by decide) ⟨Nat.zero_le _, Nat.zero_le _⟩ hl.1 rfl (Nat.le_of_ble_eq_true rfl) dX1_setsUp_38 (fun _ H locs hr hw => ?_)
      have hw : Wd G (fA [(h0, .inr (1, [.ref so, .ref to, .ref uo, .int (nI im), .ref x5, .int (nI lm), .ref x6, .int (nI rm), .ref x7, .ref x8, .int sd])), (so, .inr (0, [.int (nI (sN R)), .int (nI (R 0 1)), .int (nI (sF R)), .int (nI (sS R)), .int (nI (sL R)), .ref ak, .ref af, .ref ab, .ref aa])), (ak, aI G 10 (sK R)), (af, aI G 10 (sG R)), (ab, aI G 10 (sO R)), (aa, aI G 10 (sA R)), (x7, aI G 7 (cN rf))]) s [(h0, .inr (1, [.ref so, .ref to, .ref uo, .int (nI im), .ref x5, .int (nI lm), .ref x6, .int (nI rm), .ref x7, .ref x8, .int sd])), (so, .inr (0, [.int (nI (sN (setU R xz.toNat))), .int (nI (R 0 1)), .int (nI (sF (setU R xz.toNat))), .int (nI (sS (setU R xz.toNat))), .int (nI (sL (setU R xz.toNat))), .ref ak, .ref af, .ref ab, .ref aa])), (ak, aI G 10 (sK (setU R xz.toNat))), (af, aI G 10 (sG (setU R xz.toNat))), (ab, aI G 10 (sO (setU R xz.toNat))), (aa, aI G 10 (sA (setU R xz.toNat))), (x7, aI G 7 (cN rf))] H locs := hw
      refine lv_aload_n xx xb dX1_setsUp_41 rfl (lv_at hl 1 rfl) ?_
      refine m_get C hw 0 rfl fk_X1_10 rfl dX1_setsUp_42 ?_
      refine lv_iload_n xx xb dX1_setsUp_45 rfl (lv_at hl 2 rfl) ?_
      have hM := kX0_isHeld l G so ak af ab aa (R 0 1) (setU R xz.toNat) x xz h_x (OK_setU _ hR)
      refine cv_i C hw hM yvX0_isHeld ml_X1_79 1 rfl rfl rfl [1, 2, 3, 4, 5] rfl rfl (fun _ => (rfl : ([so, ak, af, ab, aa] : List Nat) = [so, ak, af, ab, aa])) (by decide) ⟨Nat.zero_le _, Nat.zero_le _⟩ hl.1 rfl (Nat.le_of_ble_eq_true rfl) dX1_setsUp_46 (fun r _ H locs hr hw => ?_)
      have hw : Wd G (fA [(h0, .inr (1, [.ref so, .ref to, .ref uo, .int (nI im), .ref x5, .int (nI lm), .ref x6, .int (nI rm), .ref x7, .ref x8, .int sd])), (so, .inr (0, [.int (nI (sN R)), .int (nI (R 0 1)), .int (nI (sF R)), .int (nI (sS R)), .int (nI (sL R)), .ref ak, .ref af, .ref ab, .ref aa])), (ak, aI G 10 (sK R)), (af, aI G 10 (sG R)), (ab, aI G 10 (sO R)), (aa, aI G 10 (sA R)), (x7, aI G 7 (cN rf))]) s [(h0, .inr (1, [.ref so, .ref to, .ref uo, .int (nI im), .ref x5, .int (nI lm), .ref x6, .int (nI rm), .ref x7, .ref x8, .int sd])), (so, .inr (0, [.int (nI (sN (setU R xz.toNat))), .int (nI (R 0 1)), .int (nI (sF (setU R xz.toNat))), .int (nI (sS (setU R xz.toNat))), .int (nI (sL (setU R xz.toNat))), .ref ak, .ref af, .ref ab, .ref aa])), (ak, aI G 10 (sK (setU R xz.toNat))), (af, aI G 10 (sG (setU R xz.toNat))), (ab, aI G 10 (sO (setU R xz.toNat))), (aa, aI G 10 (sA (setU R xz.toNat))), (x7, aI G 7 (cN rf))] H locs := hw
      subst hr
      have hM := kX1_bit l G (if ((0 ≤ xz ∧ xz < (((setU R xz.toNat) 0 0 : Nat) : Int)) ∧ (setU R xz.toNat) 4 xz.toNat = 0) ∧ grdF (setU R xz.toNat) xz.toNat = true then 1 else 0) (b01 _)
      refine cs_i C hw hM ysX1_bit ml_X1_83 rfl [] rfl rfl (fun _ => (rfl : ([] : List Nat) = [])) (by decide) ⟨Nat.zero_le _, Nat.zero_le _⟩ hl.1 rfl (Nat.le_of_ble_eq_true rfl) dX1_setsUp_49 (fun r _ H locs hr hw => ?_)
      have hw : Wd G (fA [(h0, .inr (1, [.ref so, .ref to, .ref uo, .int (nI im), .ref x5, .int (nI lm), .ref x6, .int (nI rm), .ref x7, .ref x8, .int sd])), (so, .inr (0, [.int (nI (sN R)), .int (nI (R 0 1)), .int (nI (sF R)), .int (nI (sS R)), .int (nI (sL R)), .ref ak, .ref af, .ref ab, .ref aa])), (ak, aI G 10 (sK R)), (af, aI G 10 (sG R)), (ab, aI G 10 (sO R)), (aa, aI G 10 (sA R)), (x7, aI G 7 (cN rf))]) s [(h0, .inr (1, [.ref so, .ref to, .ref uo, .int (nI im), .ref x5, .int (nI lm), .ref x6, .int (nI rm), .ref x7, .ref x8, .int sd])), (so, .inr (0, [.int (nI (sN (setU R xz.toNat))), .int (nI (R 0 1)), .int (nI (sF (setU R xz.toNat))), .int (nI (sS (setU R xz.toNat))), .int (nI (sL (setU R xz.toNat))), .ref ak, .ref af, .ref ab, .ref aa])), (ak, aI G 10 (sK (setU R xz.toNat))), (af, aI G 10 (sG (setU R xz.toNat))), (ab, aI G 10 (sO (setU R xz.toNat))), (aa, aI G 10 (sA (setU R xz.toNat))), (x7, aI G 7 (cN rf))] H locs := hw
      subst hr
      refine re_i (if heldF (setU R xz.toNat) xz.toNat = true then 1 else 0) (by rw [held_0 (R := setU R xz.toNat) hp]; exact if_tt ⟨fun h => h.2, fun h => ⟨⟨g1, setU_s⟩, h⟩⟩) ?_
      have hc : cSets R xz = 0 := by first | assumption | rfl
      exact rt_i C hw () (by exact (anI_0 hc _).symm) (by rw [rfU_0 hc, selR_0 hc]) dX1_setsUp_52
    · skip
      have c_24 := g0_n c_24
      refine lv_aload_n xx xb dX1_setsUp_27 rfl (lv_at hl 1 rfl) ?_
      refine lv_iload_n xx xb dX1_setsUp_28 rfl (lv_at hl 0 rfl) ?_
      have hM := kX1_refuse l G h0 so to uo x5 x6 x7 x8 im lm rm sd rf (cSets R xz) (by first | assumption | omega)
      refine cv_i C hw hM yvX1_refuse ml_X1_43 0 rfl rfl rfl [0, 6] rfl rfl (fun _ => (rfl : ([h0, x7] : List Nat) = [h0, x7])) (by decide) ⟨Nat.zero_le _, Nat.zero_le _⟩ hl.1 rfl (Nat.le_of_ble_eq_true rfl) dX1_setsUp_29 (fun r _ H locs hr hw => ?_)
      have hw : Wd G (fA [(h0, .inr (1, [.ref so, .ref to, .ref uo, .int (nI im), .ref x5, .int (nI lm), .ref x6, .int (nI rm), .ref x7, .ref x8, .int sd])), (so, .inr (0, [.int (nI (sN R)), .int (nI (R 0 1)), .int (nI (sF R)), .int (nI (sS R)), .int (nI (sL R)), .ref ak, .ref af, .ref ab, .ref aa])), (ak, aI G 10 (sK R)), (af, aI G 10 (sG R)), (ab, aI G 10 (sO R)), (aa, aI G 10 (sA R)), (x7, aI G 7 (cN rf))]) s [(h0, .inr (1, [.ref so, .ref to, .ref uo, .int (nI im), .ref x5, .int (nI lm), .ref x6, .int (nI rm), .ref x7, .ref x8, .int sd])), (so, .inr (0, [.int (nI (sN R)), .int (nI (R 0 1)), .int (nI (sF R)), .int (nI (sS R)), .int (nI (sL R)), .ref ak, .ref af, .ref ab, .ref aa])), (ak, aI G 10 (sK R)), (af, aI G 10 (sG R)), (ab, aI G 10 (sO R)), (aa, aI G 10 (sA R)), (x7, aI G 7 (cN (upN rf (cSets R xz) (rf (cSets R xz) + 1))))] H locs := hw
      subst hr
      have hc : cSets R xz = (cSets R xz) := by first | assumption | rfl
      have hj : (cSets R xz) ≠ 0 := by omega
      exact rt_i C hw () (by exact (anI_r hc hj _).symm) (by rw [rfU_r hc hj, selR_r hc hj]) dX1_setsUp_32
set_option maxRecDepth 100000 in
set_option maxHeartbeats 4000000 in
theorem kX1_minutes (l : Launch) (G : GT) (h0 : Nat) (so : Nat) (to : Nat) (uo : Nat) (x5 : Nat) (x6 : Nat) (x7 : Nat) (x8 : Nat) (im : Nat) (lm : Nat) (rm : Nat) (sd : Int32) (rf : Nat → Nat) (ak : Nat) (af : Nat) (ab : Nat) (aa : Nat) (R : RT) (n : Int32) (nz : Int) (h_n : n.toInt = nz) (hR : OK R) (hK : AK R) (hp : R 0 3 = 0) (hm : R 0 1 ≤ 999) : Ct l yX1_minutes cX1_minutes 3 (some .int) 4 100 [.ref h0, .int n] G [(h0, .inr (1, [.ref so, .ref to, .ref uo, .int (nI im), .ref x5, .int (nI lm), .ref x6, .int (nI rm), .ref x7, .ref x8, .int sd])), (so, .inr (0, [.int (nI (sN R)), .int (nI (R 0 1)), .int (nI (sF R)), .int (nI (sS R)), .int (nI (sL R)), .ref ak, .ref af, .ref ab, .ref aa])), (ak, aI G 10 (sK R)), (af, aI G 10 (sG R)), (ab, aI G 10 (sO R)), (aa, aI G 10 (sA R)), (x7, aI G 7 (cN rf))] (QI G [(h0, .inr (1, [.ref so, .ref to, .ref uo, .int (nI im), .ref x5, .int (nI lm), .ref x6, .int (nI rm), .ref x7, .ref x8, .int sd])), (so, .inr (0, [.int (nI (sN R)), .int (nI (R 0 1)), .int (nI (sF R)), .int (nI (sS R)), .int (nI (sL R)), .ref ak, .ref af, .ref ab, .ref aa])), (ak, aI G 10 (sK R)), (af, aI G 10 (sG R)), (ab, aI G 10 (sO R)), (aa, aI G 10 (sA R)), (x7, aI G 7 (cN rf))] (fun (r : Int32) (u : Unit) => r = anI (cMins R nz) (nI (stN (itF R nz.toNat)))) (fun u => [(h0, .inr (1, [.ref so, .ref to, .ref uo, .int (nI im), .ref x5, .int (nI lm), .ref x6, .int (nI rm), .ref x7, .ref x8, .int sd])), (so, .inr (0, [.int (nI (sN (selR (cMins R nz) (itF R nz.toNat) R))), .int (nI (selN (cMins R nz) (R 0 1 + nz.toNat) (R 0 1))), .int (nI (sF (selR (cMins R nz) (itF R nz.toNat) R))), .int (nI (sS (selR (cMins R nz) (itF R nz.toNat) R))), .int (nI (sL (selR (cMins R nz) (itF R nz.toNat) R))), .ref ak, .ref af, .ref ab, .ref aa])), (ak, aI G 10 (sK (selR (cMins R nz) (itF R nz.toNat) R))), (af, aI G 10 (sG (selR (cMins R nz) (itF R nz.toNat) R))), (ab, aI G 10 (sO (selR (cMins R nz) (itF R nz.toNat) R))), (aa, aI G 10 (sA (selR (cMins R nz) (itF R nz.toNat) R))), (x7, aI G 7 (cN (rfU rf (cMins R nz))))])) := by
  refine en (by decide +kernel) (Nat.le_of_ble_eq_true rfl) ?_
  intro p e s m below meth c ls H locs C hl hw
  have xx := C.1
  have xb := C.2.1
  have hw : Wd G (fA [(h0, .inr (1, [.ref so, .ref to, .ref uo, .int (nI im), .ref x5, .int (nI lm), .ref x6, .int (nI rm), .ref x7, .ref x8, .int sd])), (so, .inr (0, [.int (nI (sN R)), .int (nI (R 0 1)), .int (nI (sF R)), .int (nI (sS R)), .int (nI (sL R)), .ref ak, .ref af, .ref ab, .ref aa])), (ak, aI G 10 (sK R)), (af, aI G 10 (sG R)), (ab, aI G 10 (sO R)), (aa, aI G 10 (sA R)), (x7, aI G 7 (cN rf))]) s [(h0, .inr (1, [.ref so, .ref to, .ref uo, .int (nI im), .ref x5, .int (nI lm), .ref x6, .int (nI rm), .ref x7, .ref x8, .int sd])), (so, .inr (0, [.int (nI (sN R)), .int (nI (R 0 1)), .int (nI (sF R)), .int (nI (sS R)), .int (nI (sL R)), .ref ak, .ref af, .ref ab, .ref aa])), (ak, aI G 10 (sK R)), (af, aI G 10 (sG R)), (ab, aI G 10 (sO R)), (aa, aI G 10 (sA R)), (x7, aI G 7 (cN rf))] H locs := hw
  have hl : lv_has ls 3 [(0, .ref h0), (1, .int n)] := hl
  obtain ⟨hn, hf0, hpr, hA⟩ := id hR
  have hwl := wlN_or nz 1 60
  have hw6 := wlN_le nz 1 60
  refine lv_iload_n xx xb dX1_minutes_0 rfl (lv_at hl 1 rfl) ?_
  refine lv_iconst (v := nI 1) xx xb dX1_minutes_1 (by decide) ?_
  refine lv_bipush (v := nI 60) xx xb dX1_minutes_2 (by decide) ?_
  have hM := kX1_outside l G n nz (nI 1) 1 (nI 60) 60 h_n (tN (by omega)) (tN (by omega))
  refine cs_i C hw hM ysX1_outside ml_X1_35 rfl [] rfl rfl (fun _ => (rfl : ([] : List Nat) = [])) (by decide) ⟨Nat.zero_le _, Nat.zero_le _⟩ hl.1 rfl (Nat.le_of_ble_eq_true rfl) dX1_minutes_4 (fun r _ H locs hr hw => ?_)
  have hw : Wd G (fA [(h0, .inr (1, [.ref so, .ref to, .ref uo, .int (nI im), .ref x5, .int (nI lm), .ref x6, .int (nI rm), .ref x7, .ref x8, .int sd])), (so, .inr (0, [.int (nI (sN R)), .int (nI (R 0 1)), .int (nI (sF R)), .int (nI (sS R)), .int (nI (sL R)), .ref ak, .ref af, .ref ab, .ref aa])), (ak, aI G 10 (sK R)), (af, aI G 10 (sG R)), (ab, aI G 10 (sO R)), (aa, aI G 10 (sA R)), (x7, aI G 7 (cN rf))]) s [(h0, .inr (1, [.ref so, .ref to, .ref uo, .int (nI im), .ref x5, .int (nI lm), .ref x6, .int (nI rm), .ref x7, .ref x8, .int sd])), (so, .inr (0, [.int (nI (sN R)), .int (nI (R 0 1)), .int (nI (sF R)), .int (nI (sS R)), .int (nI (sL R)), .ref ak, .ref af, .ref ab, .ref aa])), (ak, aI G 10 (sK R)), (af, aI G 10 (sG R)), (ab, aI G 10 (sO R)), (aa, aI G 10 (sA R)), (x7, aI G 7 (cN rf))] H locs := hw
  subst hr
  refine lv_istore_n (lv' := [(2, .int (nG (wlN nz 1 60))), (0, .ref h0), (1, .int n)]) xx xb dX1_minutes_7 rfl hl (by decide) rfl (fun ls hl => ?_)
  refine lv_iload_n xx xb dX1_minutes_8 rfl (lv_at hl 0 rfl) ?_
  refine lv_if_ne (tgt := 26) xx xb dX1_minutes_9 (by decide) (fun c_9 => ?_) (fun c_9 => ?_)
  · skip
    have c_9 := g0_n c_9
    refine lv_iload_n xx xb dX1_minutes_26 rfl (lv_at hl 0 rfl) ?_
    refine lv_if_eq (tgt := 36) xx xb dX1_minutes_27 (by decide) (fun c_27 => ?_) (fun c_27 => ?_)
    · skip
      have c_27 := g0_c (by omega) c_27
      refine lv_aload_n xx xb dX1_minutes_36 rfl (lv_at hl 1 rfl) ?_
      refine m_get C hw 0 rfl fk_X1_10 rfl dX1_minutes_37 ?_
      refine lv_iload_n xx xb dX1_minutes_40 rfl (lv_at hl 2 rfl) ?_
      refine re_i (nI nz.toNat) (ofT h_n (by omega) (by omega)) ?_
      have hM := kX0_passMinutes l G so ak af ab aa (R 0 1) R nz.toNat (by first | assumption | omega) (by first | assumption | omega) (by first | assumption | omega) (by first | assumption | omega)
      refine cv_v C hw hM yvX0_passMinutes ml_X1_125 1 rfl rfl rfl [1, 2, 3, 4, 5] rfl rfl (fun _ => (rfl : ([so, ak, af, ab, aa] : List Nat) = [so, ak, af, ab, aa])) (by decide) ⟨Nat.zero_le _, Nat.zero_le _⟩ hl.1 rfl (Nat.le_of_ble_eq_true rfl) dX1_minutes_41 (fun _ H locs hr hw => ?_)
      have hw : Wd G (fA [(h0, .inr (1, [.ref so, .ref to, .ref uo, .int (nI im), .ref x5, .int (nI lm), .ref x6, .int (nI rm), .ref x7, .ref x8, .int sd])), (so, .inr (0, [.int (nI (sN R)), .int (nI (R 0 1)), .int (nI (sF R)), .int (nI (sS R)), .int (nI (sL R)), .ref ak, .ref af, .ref ab, .ref aa])), (ak, aI G 10 (sK R)), (af, aI G 10 (sG R)), (ab, aI G 10 (sO R)), (aa, aI G 10 (sA R)), (x7, aI G 7 (cN rf))]) s [(h0, .inr (1, [.ref so, .ref to, .ref uo, .int (nI im), .ref x5, .int (nI lm), .ref x6, .int (nI rm), .ref x7, .ref x8, .int sd])), (so, .inr (0, [.int (nI (sN (itF R nz.toNat))), .int (nI ((R 0 1) + nz.toNat)), .int (nI (sF (itF R nz.toNat))), .int (nI (sS (itF R nz.toNat))), .int (nI (sL (itF R nz.toNat))), .ref ak, .ref af, .ref ab, .ref aa])), (ak, aI G 10 (sK (itF R nz.toNat))), (af, aI G 10 (sG (itF R nz.toNat))), (ab, aI G 10 (sO (itF R nz.toNat))), (aa, aI G 10 (sA (itF R nz.toNat))), (x7, aI G 7 (cN rf))] H locs := hw
      refine lv_aload_n xx xb dX1_minutes_44 rfl (lv_at hl 1 rfl) ?_
      refine m_get C hw 0 rfl fk_X1_10 rfl dX1_minutes_45 ?_
      have hM := kX0_countStanding l G so ak af ab aa ((R 0 1) + nz.toNat) (itF R nz.toNat) (OK_itF hR nz.toNat)
      refine cv_i C hw hM yvX0_countStanding ml_X1_128 1 rfl rfl rfl [1, 2, 3, 4, 5] rfl rfl (fun _ => (rfl : ([so, ak, af, ab, aa] : List Nat) = [so, ak, af, ab, aa])) (by decide) ⟨Nat.zero_le _, Nat.zero_le _⟩ hl.1 rfl (Nat.le_of_ble_eq_true rfl) dX1_minutes_48 (fun r _ H locs hr hw => ?_)
      have hw : Wd G (fA [(h0, .inr (1, [.ref so, .ref to, .ref uo, .int (nI im), .ref x5, .int (nI lm), .ref x6, .int (nI rm), .ref x7, .ref x8, .int sd])), (so, .inr (0, [.int (nI (sN R)), .int (nI (R 0 1)), .int (nI (sF R)), .int (nI (sS R)), .int (nI (sL R)), .ref ak, .ref af, .ref ab, .ref aa])), (ak, aI G 10 (sK R)), (af, aI G 10 (sG R)), (ab, aI G 10 (sO R)), (aa, aI G 10 (sA R)), (x7, aI G 7 (cN rf))]) s [(h0, .inr (1, [.ref so, .ref to, .ref uo, .int (nI im), .ref x5, .int (nI lm), .ref x6, .int (nI rm), .ref x7, .ref x8, .int sd])), (so, .inr (0, [.int (nI (sN (itF R nz.toNat))), .int (nI ((R 0 1) + nz.toNat)), .int (nI (sF (itF R nz.toNat))), .int (nI (sS (itF R nz.toNat))), .int (nI (sL (itF R nz.toNat))), .ref ak, .ref af, .ref ab, .ref aa])), (ak, aI G 10 (sK (itF R nz.toNat))), (af, aI G 10 (sG (itF R nz.toNat))), (ab, aI G 10 (sO (itF R nz.toNat))), (aa, aI G 10 (sA (itF R nz.toNat))), (x7, aI G 7 (cN rf))] H locs := hw
      subst hr
      have hc : cMins R nz = 0 := by unfold cMins; (repeat' split) <;> omega
      exact rt_i C hw () (by exact (anI_0 hc _).symm) (by rw [rfU_0 hc, selR_0 hc, selN_0 hc]) dX1_minutes_51
    · skip
      have c_27 := g0_n c_27
      refine lv_aload_n xx xb dX1_minutes_30 rfl (lv_at hl 1 rfl) ?_
      refine lv_iload_n xx xb dX1_minutes_31 rfl (lv_at hl 0 rfl) ?_
      have hM := kX1_refuse l G h0 so to uo x5 x6 x7 x8 im lm rm sd rf (wlN nz 1 60) (by first | assumption | omega)
      refine cv_i C hw hM yvX1_refuse ml_X1_43 0 rfl rfl rfl [0, 6] rfl rfl (fun _ => (rfl : ([h0, x7] : List Nat) = [h0, x7])) (by decide) ⟨Nat.zero_le _, Nat.zero_le _⟩ hl.1 rfl (Nat.le_of_ble_eq_true rfl) dX1_minutes_32 (fun r _ H locs hr hw => ?_)
      have hw : Wd G (fA [(h0, .inr (1, [.ref so, .ref to, .ref uo, .int (nI im), .ref x5, .int (nI lm), .ref x6, .int (nI rm), .ref x7, .ref x8, .int sd])), (so, .inr (0, [.int (nI (sN R)), .int (nI (R 0 1)), .int (nI (sF R)), .int (nI (sS R)), .int (nI (sL R)), .ref ak, .ref af, .ref ab, .ref aa])), (ak, aI G 10 (sK R)), (af, aI G 10 (sG R)), (ab, aI G 10 (sO R)), (aa, aI G 10 (sA R)), (x7, aI G 7 (cN rf))]) s [(h0, .inr (1, [.ref so, .ref to, .ref uo, .int (nI im), .ref x5, .int (nI lm), .ref x6, .int (nI rm), .ref x7, .ref x8, .int sd])), (so, .inr (0, [.int (nI (sN R)), .int (nI (R 0 1)), .int (nI (sF R)), .int (nI (sS R)), .int (nI (sL R)), .ref ak, .ref af, .ref ab, .ref aa])), (ak, aI G 10 (sK R)), (af, aI G 10 (sG R)), (ab, aI G 10 (sO R)), (aa, aI G 10 (sA R)), (x7, aI G 7 (cN (upN rf (wlN nz 1 60) (rf (wlN nz 1 60) + 1))))] H locs := hw
      subst hr
      have hc : cMins R nz = (wlN nz 1 60) := by unfold cMins; (repeat' split) <;> omega
      have hj : (wlN nz 1 60) ≠ 0 := by omega
      exact rt_i C hw () (by exact (anI_r hc hj _).symm) (by rw [rfU_r hc hj, selR_r hc hj, selN_r hc hj]) dX1_minutes_35
  · skip
    have c_9 := g0_c (by omega) c_9
    refine lv_aload_n xx xb dX1_minutes_12 rfl (lv_at hl 1 rfl) ?_
    refine m_get C hw 0 rfl fk_X1_10 rfl dX1_minutes_13 ?_
    refine lv_iload_n xx xb dX1_minutes_16 rfl (lv_at hl 2 rfl) ?_
    have hM := kX0_hasTimeFor l G so ak af ab aa (R 0 1) R n nz h_n (by first | assumption | omega) (by first | assumption | omega)
    refine cv_i C hw hM yvX0_hasTimeFor ml_X1_122 1 rfl rfl rfl [1, 2, 3, 4, 5] rfl rfl (fun _ => (rfl : ([so, ak, af, ab, aa] : List Nat) = [so, ak, af, ab, aa])) (by decide) ⟨Nat.zero_le _, Nat.zero_le _⟩ hl.1 rfl (Nat.le_of_ble_eq_true rfl) dX1_minutes_17 (fun r _ H locs hr hw => ?_)
    have hw : Wd G (fA [(h0, .inr (1, [.ref so, .ref to, .ref uo, .int (nI im), .ref x5, .int (nI lm), .ref x6, .int (nI rm), .ref x7, .ref x8, .int sd])), (so, .inr (0, [.int (nI (sN R)), .int (nI (R 0 1)), .int (nI (sF R)), .int (nI (sS R)), .int (nI (sL R)), .ref ak, .ref af, .ref ab, .ref aa])), (ak, aI G 10 (sK R)), (af, aI G 10 (sG R)), (ab, aI G 10 (sO R)), (aa, aI G 10 (sA R)), (x7, aI G 7 (cN rf))]) s [(h0, .inr (1, [.ref so, .ref to, .ref uo, .int (nI im), .ref x5, .int (nI lm), .ref x6, .int (nI rm), .ref x7, .ref x8, .int sd])), (so, .inr (0, [.int (nI (sN R)), .int (nI (R 0 1)), .int (nI (sF R)), .int (nI (sS R)), .int (nI (sL R)), .ref ak, .ref af, .ref ab, .ref aa])), (ak, aI G 10 (sK R)), (af, aI G 10 (sG R)), (ab, aI G 10 (sO R)), (aa, aI G 10 (sA R)), (x7, aI G 7 (cN rf))] H locs := hw
    subst hr
    refine lv_if_ne (tgt := 26) xx xb dX1_minutes_20 (by decide) (fun c_20 => ?_) (fun c_20 => ?_)
    · skip
      have c_20 := b1_c c_20
      refine lv_iload_n xx xb dX1_minutes_26 rfl (lv_at hl 0 rfl) ?_
      refine lv_if_eq (tgt := 36) xx xb dX1_minutes_27 (by decide) (fun c_27 => ?_) (fun c_27 => ?_)
      · skip
        have c_27 := g0_c (by omega) c_27
        refine lv_aload_n xx xb dX1_minutes_36 rfl (lv_at hl 1 rfl) ?_
        refine m_get C hw 0 rfl fk_X1_10 rfl dX1_minutes_37 ?_
        refine lv_iload_n xx xb dX1_minutes_40 rfl (lv_at hl 2 rfl) ?_
        refine re_i (nI nz.toNat) (ofT h_n (by omega) (by omega)) ?_
        have hM := kX0_passMinutes l G so ak af ab aa (R 0 1) R nz.toNat (by first | assumption | omega) (by first | assumption | omega) (by first | assumption | omega) (by first | assumption | omega)
        refine cv_v C hw hM yvX0_passMinutes ml_X1_125 1 rfl rfl rfl [1, 2, 3, 4, 5] rfl rfl (fun _ => (rfl : ([so, ak, af, ab, aa] : List Nat) = [so, ak, af, ab, aa])) (by decide) ⟨Nat.zero_le _, Nat.zero_le _⟩ hl.1 rfl (Nat.le_of_ble_eq_true rfl) dX1_minutes_41 (fun _ H locs hr hw => ?_)
        have hw : Wd G (fA [(h0, .inr (1, [.ref so, .ref to, .ref uo, .int (nI im), .ref x5, .int (nI lm), .ref x6, .int (nI rm), .ref x7, .ref x8, .int sd])), (so, .inr (0, [.int (nI (sN R)), .int (nI (R 0 1)), .int (nI (sF R)), .int (nI (sS R)), .int (nI (sL R)), .ref ak, .ref af, .ref ab, .ref aa])), (ak, aI G 10 (sK R)), (af, aI G 10 (sG R)), (ab, aI G 10 (sO R)), (aa, aI G 10 (sA R)), (x7, aI G 7 (cN rf))]) s [(h0, .inr (1, [.ref so, .ref to, .ref uo, .int (nI im), .ref x5, .int (nI lm), .ref x6, .int (nI rm), .ref x7, .ref x8, .int sd])), (so, .inr (0, [.int (nI (sN (itF R nz.toNat))), .int (nI ((R 0 1) + nz.toNat)), .int (nI (sF (itF R nz.toNat))), .int (nI (sS (itF R nz.toNat))), .int (nI (sL (itF R nz.toNat))), .ref ak, .ref af, .ref ab, .ref aa])), (ak, aI G 10 (sK (itF R nz.toNat))), (af, aI G 10 (sG (itF R nz.toNat))), (ab, aI G 10 (sO (itF R nz.toNat))), (aa, aI G 10 (sA (itF R nz.toNat))), (x7, aI G 7 (cN rf))] H locs := hw
        refine lv_aload_n xx xb dX1_minutes_44 rfl (lv_at hl 1 rfl) ?_
        refine m_get C hw 0 rfl fk_X1_10 rfl dX1_minutes_45 ?_
        have hM := kX0_countStanding l G so ak af ab aa ((R 0 1) + nz.toNat) (itF R nz.toNat) (OK_itF hR nz.toNat)
        refine cv_i C hw hM yvX0_countStanding ml_X1_128 1 rfl rfl rfl [1, 2, 3, 4, 5] rfl rfl (fun _ => (rfl : ([so, ak, af, ab, aa] : List Nat) = [so, ak, af, ab, aa])) (by decide) ⟨Nat.zero_le _, Nat.zero_le _⟩ hl.1 rfl (Nat.le_of_ble_eq_true rfl) dX1_minutes_48 (fun r _ H locs hr hw => ?_)
        have hw : Wd G (fA [(h0, .inr (1, [.ref so, .ref to, .ref uo, .int (nI im), .ref x5, .int (nI lm), .ref x6, .int (nI rm), .ref x7, .ref x8, .int sd])), (so, .inr (0, [.int (nI (sN R)), .int (nI (R 0 1)), .int (nI (sF R)), .int (nI (sS R)), .int (nI (sL R)), .ref ak, .ref af, .ref ab, .ref aa])), (ak, aI G 10 (sK R)), (af, aI G 10 (sG R)), (ab, aI G 10 (sO R)), (aa, aI G 10 (sA R)), (x7, aI G 7 (cN rf))]) s [(h0, .inr (1, [.ref so, .ref to, .ref uo, .int (nI im), .ref x5, .int (nI lm), .ref x6, .int (nI rm), .ref x7, .ref x8, .int sd])), (so, .inr (0, [.int (nI (sN (itF R nz.toNat))), .int (nI ((R 0 1) + nz.toNat)), .int (nI (sF (itF R nz.toNat))), .int (nI (sS (itF R nz.toNat))), .int (nI (sL (itF R nz.toNat))), .ref ak, .ref af, .ref ab, .ref aa])), (ak, aI G 10 (sK (itF R nz.toNat))), (af, aI G 10 (sG (itF R nz.toNat))), (ab, aI G 10 (sO (itF R nz.toNat))), (aa, aI G 10 (sA (itF R nz.toNat))), (x7, aI G 7 (cN rf))] H locs := hw
        subst hr
        have hc : cMins R nz = 0 := by unfold cMins; (repeat' split) <;> omega
        exact rt_i C hw () (by exact (anI_0 hc _).symm) (by rw [rfU_0 hc, selR_0 hc, selN_0 hc]) dX1_minutes_51
      · skip
        have c_27 := g0_n c_27
        refine lv_aload_n xx xb dX1_minutes_30 rfl (lv_at hl 1 rfl) ?_
        refine lv_iload_n xx xb dX1_minutes_31 rfl (lv_at hl 0 rfl) ?_
        have hM := kX1_refuse l G h0 so to uo x5 x6 x7 x8 im lm rm sd rf (wlN nz 1 60) (by first | assumption | omega)
        refine cv_i C hw hM yvX1_refuse ml_X1_43 0 rfl rfl rfl [0, 6] rfl rfl (fun _ => (rfl : ([h0, x7] : List Nat) = [h0, x7])) (by decide) ⟨Nat.zero_le _, Nat.zero_le _⟩ hl.1 rfl (Nat.le_of_ble_eq_true rfl) dX1_minutes_32 (fun r _ H locs hr hw => ?_)
        have hw : Wd G (fA [(h0, .inr (1, [.ref so, .ref to, .ref uo, .int (nI im), .ref x5, .int (nI lm), .ref x6, .int (nI rm), .ref x7, .ref x8, .int sd])), (so, .inr (0, [.int (nI (sN R)), .int (nI (R 0 1)), .int (nI (sF R)), .int (nI (sS R)), .int (nI (sL R)), .ref ak, .ref af, .ref ab, .ref aa])), (ak, aI G 10 (sK R)), (af, aI G 10 (sG R)), (ab, aI G 10 (sO R)), (aa, aI G 10 (sA R)), (x7, aI G 7 (cN rf))]) s [(h0, .inr (1, [.ref so, .ref to, .ref uo, .int (nI im), .ref x5, .int (nI lm), .ref x6, .int (nI rm), .ref x7, .ref x8, .int sd])), (so, .inr (0, [.int (nI (sN R)), .int (nI (R 0 1)), .int (nI (sF R)), .int (nI (sS R)), .int (nI (sL R)), .ref ak, .ref af, .ref ab, .ref aa])), (ak, aI G 10 (sK R)), (af, aI G 10 (sG R)), (ab, aI G 10 (sO R)), (aa, aI G 10 (sA R)), (x7, aI G 7 (cN (upN rf (wlN nz 1 60) (rf (wlN nz 1 60) + 1))))] H locs := hw
        subst hr
        have hc : cMins R nz = (wlN nz 1 60) := by unfold cMins; (repeat' split) <;> omega
        have hj : (wlN nz 1 60) ≠ 0 := by omega
        exact rt_i C hw () (by exact (anI_r hc hj _).symm) (by rw [rfU_r hc hj, selR_r hc hj, selN_r hc hj]) dX1_minutes_35
    · skip
      have c_20 := b0_c c_20
      refine lv_bipush (v := (-6)) xx xb dX1_minutes_23 (by decide) ?_
      refine lv_istore_n (lv' := [(2, .int (-6)), (0, .ref h0), (1, .int n)]) xx xb dX1_minutes_25 rfl hl (by decide) rfl (fun ls hl => ?_)
      refine lv_iload_n xx xb dX1_minutes_26 rfl (lv_at hl 0 rfl) ?_
      refine lv_if_eq (tgt := 36) xx xb dX1_minutes_27 (by decide) (fun c_27 => ?_) (fun c_27 => ?_)
      · skip
        exact absurd c_27 (by decide)
      · skip
        refine lv_aload_n xx xb dX1_minutes_30 rfl (lv_at hl 1 rfl) ?_
        refine lv_iload_n xx xb dX1_minutes_31 rfl (lv_at hl 0 rfl) ?_
        have hM := kX1_refuse l G h0 so to uo x5 x6 x7 x8 im lm rm sd rf 6 (by first | assumption | omega)
        refine cv_i C hw hM yvX1_refuse ml_X1_43 0 rfl rfl rfl [0, 6] rfl rfl (fun _ => (rfl : ([h0, x7] : List Nat) = [h0, x7])) (by decide) ⟨Nat.zero_le _, Nat.zero_le _⟩ hl.1 rfl (Nat.le_of_ble_eq_true rfl) dX1_minutes_32 (fun r _ H locs hr hw => ?_)
        have hw : Wd G (fA [(h0, .inr (1, [.ref so, .ref to, .ref uo, .int (nI im), .ref x5, .int (nI lm), .ref x6, .int (nI rm), .ref x7, .ref x8, .int sd])), (so, .inr (0, [.int (nI (sN R)), .int (nI (R 0 1)), .int (nI (sF R)), .int (nI (sS R)), .int (nI (sL R)), .ref ak, .ref af, .ref ab, .ref aa])), (ak, aI G 10 (sK R)), (af, aI G 10 (sG R)), (ab, aI G 10 (sO R)), (aa, aI G 10 (sA R)), (x7, aI G 7 (cN rf))]) s [(h0, .inr (1, [.ref so, .ref to, .ref uo, .int (nI im), .ref x5, .int (nI lm), .ref x6, .int (nI rm), .ref x7, .ref x8, .int sd])), (so, .inr (0, [.int (nI (sN R)), .int (nI (R 0 1)), .int (nI (sF R)), .int (nI (sS R)), .int (nI (sL R)), .ref ak, .ref af, .ref ab, .ref aa])), (ak, aI G 10 (sK R)), (af, aI G 10 (sG R)), (ab, aI G 10 (sO R)), (aa, aI G 10 (sA R)), (x7, aI G 7 (cN (upN rf 6 (rf 6 + 1))))] H locs := hw
        subst hr
        have hc : cMins R nz = 6 := by unfold cMins; (repeat' split) <;> omega
        have hj : 6 ≠ 0 := by omega
        exact rt_i C hw () (by exact (anI_r hc hj _).symm) (by rw [rfU_r hc hj, selR_r hc hj, selN_r hc hj]) dX1_minutes_35
set_option maxRecDepth 100000 in
set_option maxHeartbeats 4000000 in
theorem kX1_atOnce (l : Launch) (G : GT) (h0 : Nat) (so : Nat) (to : Nat) (uo : Nat) (x5 : Nat) (x6 : Nat) (x7 : Nat) (x8 : Nat) (im : Nat) (lm : Nat) (rm : Nat) (sd : Int32) (rf : Nat → Nat) (ak : Nat) (af : Nat) (ab : Nat) (aa : Nat) (R : RT) (x : Int32) (xz : Int) (v : Int32) (vz : Int) (h_x : x.toInt = xz) (h_v : v.toInt = vz) (hR : OK R) : Ct l yX1_atOnce cX1_atOnce 4 (some .int) 3 65 [.ref h0, .int x, .int v] G [(h0, .inr (1, [.ref so, .ref to, .ref uo, .int (nI im), .ref x5, .int (nI lm), .ref x6, .int (nI rm), .ref x7, .ref x8, .int sd])), (so, .inr (0, [.int (nI (sN R)), .int (nI (R 0 1)), .int (nI (sF R)), .int (nI (sS R)), .int (nI (sL R)), .ref ak, .ref af, .ref ab, .ref aa])), (ak, aI G 10 (sK R)), (af, aI G 10 (sG R)), (ab, aI G 10 (sO R)), (aa, aI G 10 (sA R)), (x7, aI G 7 (cN rf))] (QI G [(h0, .inr (1, [.ref so, .ref to, .ref uo, .int (nI im), .ref x5, .int (nI lm), .ref x6, .int (nI rm), .ref x7, .ref x8, .int sd])), (so, .inr (0, [.int (nI (sN R)), .int (nI (R 0 1)), .int (nI (sF R)), .int (nI (sS R)), .int (nI (sL R)), .ref ak, .ref af, .ref ab, .ref aa])), (ak, aI G 10 (sK R)), (af, aI G 10 (sG R)), (ab, aI G 10 (sO R)), (aa, aI G 10 (sA R)), (x7, aI G 7 (cN rf))] (fun (r : Int32) (u : Unit) => r = anI (wpN R xz vz) (nI (bs (shkF R xz.toNat vz.toNat) (R 0 0)))) (fun u => [(h0, .inr (1, [.ref so, .ref to, .ref uo, .int (nI im), .ref x5, .int (nI lm), .ref x6, .int (nI rm), .ref x7, .ref x8, .int sd])), (so, .inr (0, [.int (nI (sN R)), .int (nI (R 0 1)), .int (nI (sF R)), .int (nI (sS R)), .int (nI (sL R)), .ref ak, .ref af, .ref ab, .ref aa])), (ak, aI G 10 (sK R)), (af, aI G 10 (sG R)), (ab, aI G 10 (sO R)), (aa, aI G 10 (sA R)), (x7, aI G 7 (cN (rfU rf (wpN R xz vz))))])) := by
  refine en (by decide +kernel) (Nat.le_of_ble_eq_true rfl) ?_
  intro p e s m below meth c ls H locs C hl hw
  have xx := C.1
  have xb := C.2.1
  have hw : Wd G (fA [(h0, .inr (1, [.ref so, .ref to, .ref uo, .int (nI im), .ref x5, .int (nI lm), .ref x6, .int (nI rm), .ref x7, .ref x8, .int sd])), (so, .inr (0, [.int (nI (sN R)), .int (nI (R 0 1)), .int (nI (sF R)), .int (nI (sS R)), .int (nI (sL R)), .ref ak, .ref af, .ref ab, .ref aa])), (ak, aI G 10 (sK R)), (af, aI G 10 (sG R)), (ab, aI G 10 (sO R)), (aa, aI G 10 (sA R)), (x7, aI G 7 (cN rf))]) s [(h0, .inr (1, [.ref so, .ref to, .ref uo, .int (nI im), .ref x5, .int (nI lm), .ref x6, .int (nI rm), .ref x7, .ref x8, .int sd])), (so, .inr (0, [.int (nI (sN R)), .int (nI (R 0 1)), .int (nI (sF R)), .int (nI (sS R)), .int (nI (sL R)), .ref ak, .ref af, .ref ab, .ref aa])), (ak, aI G 10 (sK R)), (af, aI G 10 (sG R)), (ab, aI G 10 (sO R)), (aa, aI G 10 (sA R)), (x7, aI G 7 (cN rf))] H locs := hw
  have hl : lv_has ls 4 [(0, .ref h0), (1, .int x), (2, .int v)] := hl
  obtain ⟨hn, hf0, hpr, hA⟩ := id hR
  have hb6 := wpN_le R xz vz
  have hw6 := wlN_le vz 0 9
  refine lv_aload_n xx xb dX1_atOnce_0 rfl (lv_at hl 0 rfl) ?_
  refine lv_iload_n xx xb dX1_atOnce_1 rfl (lv_at hl 1 rfl) ?_
  refine lv_iload_n xx xb dX1_atOnce_2 rfl (lv_at hl 2 rfl) ?_
  refine lv_iconst (v := nI 0) xx xb dX1_atOnce_3 (by decide) ?_
  refine lv_bipush (v := nI 9) xx xb dX1_atOnce_4 (by decide) ?_
  have hM := kX1_outside l G v vz (nI 0) 0 (nI 9) 9 h_v (tN (by omega)) (tN (by omega))
  refine cs_i C hw hM ysX1_outside ml_X1_35 rfl [] rfl rfl (fun _ => (rfl : ([] : List Nat) = [])) (by decide) ⟨Nat.zero_le _, Nat.zero_le _⟩ hl.1 rfl (Nat.le_of_ble_eq_true rfl) dX1_atOnce_6 (fun r _ H locs hr hw => ?_)
  have hw : Wd G (fA [(h0, .inr (1, [.ref so, .ref to, .ref uo, .int (nI im), .ref x5, .int (nI lm), .ref x6, .int (nI rm), .ref x7, .ref x8, .int sd])), (so, .inr (0, [.int (nI (sN R)), .int (nI (R 0 1)), .int (nI (sF R)), .int (nI (sS R)), .int (nI (sL R)), .ref ak, .ref af, .ref ab, .ref aa])), (ak, aI G 10 (sK R)), (af, aI G 10 (sG R)), (ab, aI G 10 (sO R)), (aa, aI G 10 (sA R)), (x7, aI G 7 (cN rf))]) s [(h0, .inr (1, [.ref so, .ref to, .ref uo, .int (nI im), .ref x5, .int (nI lm), .ref x6, .int (nI rm), .ref x7, .ref x8, .int sd])), (so, .inr (0, [.int (nI (sN R)), .int (nI (R 0 1)), .int (nI (sF R)), .int (nI (sS R)), .int (nI (sL R)), .ref ak, .ref af, .ref ab, .ref aa])), (ak, aI G 10 (sK R)), (af, aI G 10 (sG R)), (ab, aI G 10 (sO R)), (aa, aI G 10 (sA R)), (x7, aI G 7 (cN rf))] H locs := hw
  subst hr
  have hM := kX1_refusalOfPull l G h0 so to uo x5 x6 x7 x8 im lm rm sd ak af ab aa (R 0 1) R (wlN vz 0 9) x xz h_x (by first | assumption | omega) (by first | assumption | omega)
  refine cv_i C hw hM yvX1_refusalOfPull ml_X1_87 0 rfl rfl rfl [0, 1, 2, 3, 4, 5] rfl rfl (fun _ => (rfl : ([h0, so, ak, af, ab, aa] : List Nat) = [h0, so, ak, af, ab, aa])) (by decide) ⟨Nat.zero_le _, Nat.zero_le _⟩ hl.1 rfl (Nat.le_of_ble_eq_true rfl) dX1_atOnce_9 (fun r _ H locs hr hw => ?_)
  have hw : Wd G (fA [(h0, .inr (1, [.ref so, .ref to, .ref uo, .int (nI im), .ref x5, .int (nI lm), .ref x6, .int (nI rm), .ref x7, .ref x8, .int sd])), (so, .inr (0, [.int (nI (sN R)), .int (nI (R 0 1)), .int (nI (sF R)), .int (nI (sS R)), .int (nI (sL R)), .ref ak, .ref af, .ref ab, .ref aa])), (ak, aI G 10 (sK R)), (af, aI G 10 (sG R)), (ab, aI G 10 (sO R)), (aa, aI G 10 (sA R)), (x7, aI G 7 (cN rf))]) s [(h0, .inr (1, [.ref so, .ref to, .ref uo, .int (nI im), .ref x5, .int (nI lm), .ref x6, .int (nI rm), .ref x7, .ref x8, .int sd])), (so, .inr (0, [.int (nI (sN R)), .int (nI (R 0 1)), .int (nI (sF R)), .int (nI (sS R)), .int (nI (sL R)), .ref ak, .ref af, .ref ab, .ref aa])), (ak, aI G 10 (sK R)), (af, aI G 10 (sG R)), (ab, aI G 10 (sO R)), (aa, aI G 10 (sA R)), (x7, aI G 7 (cN rf))] H locs := hw
  subst hr
  refine re_i (nG (wpN R xz vz)) (congrArg nG wp_eq) ?_
  refine lv_istore_n (lv' := [(3, .int (nG (wpN R xz vz))), (0, .ref h0), (1, .int x), (2, .int v)]) xx xb dX1_atOnce_12 rfl hl (by decide) rfl (fun ls hl => ?_)
  refine lv_iload_n xx xb dX1_atOnce_13 rfl (lv_at hl 0 rfl) ?_
  refine lv_if_eq (tgt := 25) xx xb dX1_atOnce_14 (by decide) (fun c_14 => ?_) (fun c_14 => ?_)
  · skip
    have c_14 := g0_c (by omega) c_14
    obtain ⟨g1, g2, g3⟩ := wpN_0 c_14
    refine lv_aload_n xx xb dX1_atOnce_25 rfl (lv_at hl 1 rfl) ?_
    refine m_get C hw 0 rfl fk_X1_10 rfl dX1_atOnce_26 ?_
    refine lv_iload_n xx xb dX1_atOnce_29 rfl (lv_at hl 2 rfl) ?_
    refine re_i (onI xz.toNat) ((ofT h_x (by omega) (by omega)).trans (onI_lt (by omega)).symm) ?_
    refine lv_iload_n xx xb dX1_atOnce_30 rfl (lv_at hl 3 rfl) ?_
    refine re_i (nI vz.toNat) (ofT h_v (by omega) (by omega)) ?_
    have hM := kX0_caughtOn l G so ak af ab aa (R 0 1) R xz.toNat vz.toNat (by first | assumption | omega) (by first | assumption | omega) (by first | assumption | omega)
    refine cv_i C hw hM yvX0_caughtOn ml_X1_150 1 rfl rfl rfl [1, 2, 3, 4, 5] rfl rfl (fun _ => (rfl : ([so, ak, af, ab, aa] : List Nat) = [so, ak, af, ab, aa])) (by decide) ⟨Nat.zero_le _, Nat.zero_le _⟩ hl.1 rfl (Nat.le_of_ble_eq_true rfl) dX1_atOnce_31 (fun r _ H locs hr hw => ?_)
    have hw : Wd G (fA [(h0, .inr (1, [.ref so, .ref to, .ref uo, .int (nI im), .ref x5, .int (nI lm), .ref x6, .int (nI rm), .ref x7, .ref x8, .int sd])), (so, .inr (0, [.int (nI (sN R)), .int (nI (R 0 1)), .int (nI (sF R)), .int (nI (sS R)), .int (nI (sL R)), .ref ak, .ref af, .ref ab, .ref aa])), (ak, aI G 10 (sK R)), (af, aI G 10 (sG R)), (ab, aI G 10 (sO R)), (aa, aI G 10 (sA R)), (x7, aI G 7 (cN rf))]) s [(h0, .inr (1, [.ref so, .ref to, .ref uo, .int (nI im), .ref x5, .int (nI lm), .ref x6, .int (nI rm), .ref x7, .ref x8, .int sd])), (so, .inr (0, [.int (nI (sN R)), .int (nI (R 0 1)), .int (nI (sF R)), .int (nI (sS R)), .int (nI (sL R)), .ref ak, .ref af, .ref ab, .ref aa])), (ak, aI G 10 (sK R)), (af, aI G 10 (sG R)), (ab, aI G 10 (sO R)), (aa, aI G 10 (sA R)), (x7, aI G 7 (cN rf))] H locs := hw
    subst hr
    have hc : wpN R xz vz = 0 := by first | assumption | rfl
    exact rt_i C hw () (by exact (anI_0 hc _).symm) (by rw [rfU_0 hc]) dX1_atOnce_34
  · skip
    have c_14 := g0_n c_14
    refine lv_aload_n xx xb dX1_atOnce_17 rfl (lv_at hl 1 rfl) ?_
    refine lv_iload_n xx xb dX1_atOnce_18 rfl (lv_at hl 0 rfl) ?_
    have hM := kX1_refuse l G h0 so to uo x5 x6 x7 x8 im lm rm sd rf (wpN R xz vz) (by first | assumption | omega)
    refine cv_i C hw hM yvX1_refuse ml_X1_43 0 rfl rfl rfl [0, 6] rfl rfl (fun _ => (rfl : ([h0, x7] : List Nat) = [h0, x7])) (by decide) ⟨Nat.zero_le _, Nat.zero_le _⟩ hl.1 rfl (Nat.le_of_ble_eq_true rfl) dX1_atOnce_19 (fun r _ H locs hr hw => ?_)
    have hw : Wd G (fA [(h0, .inr (1, [.ref so, .ref to, .ref uo, .int (nI im), .ref x5, .int (nI lm), .ref x6, .int (nI rm), .ref x7, .ref x8, .int sd])), (so, .inr (0, [.int (nI (sN R)), .int (nI (R 0 1)), .int (nI (sF R)), .int (nI (sS R)), .int (nI (sL R)), .ref ak, .ref af, .ref ab, .ref aa])), (ak, aI G 10 (sK R)), (af, aI G 10 (sG R)), (ab, aI G 10 (sO R)), (aa, aI G 10 (sA R)), (x7, aI G 7 (cN rf))]) s [(h0, .inr (1, [.ref so, .ref to, .ref uo, .int (nI im), .ref x5, .int (nI lm), .ref x6, .int (nI rm), .ref x7, .ref x8, .int sd])), (so, .inr (0, [.int (nI (sN R)), .int (nI (R 0 1)), .int (nI (sF R)), .int (nI (sS R)), .int (nI (sL R)), .ref ak, .ref af, .ref ab, .ref aa])), (ak, aI G 10 (sK R)), (af, aI G 10 (sG R)), (ab, aI G 10 (sO R)), (aa, aI G 10 (sA R)), (x7, aI G 7 (cN (upN rf (wpN R xz vz) (rf (wpN R xz vz) + 1))))] H locs := hw
    subst hr
    refine lv_goto (tgt := 34) xx xb dX1_atOnce_22 (by decide) ?_
    have hc : wpN R xz vz = (wpN R xz vz) := by first | assumption | rfl
    have hj : (wpN R xz vz) ≠ 0 := by omega
    exact rt_i C hw () (by exact (anI_r hc hj _).symm) (by rw [rfU_r hc hj]) dX1_atOnce_34
