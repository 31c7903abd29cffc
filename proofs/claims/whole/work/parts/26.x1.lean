def wlN (z a b : Int) : Nat := if z < a then 4 else if b < z then 6 else 0
def otN (z a : Int) : Nat := if 0 ≤ z ∧ z ≤ a then 0 else 2
def foN (a b : Nat) : Nat := if a ≠ 0 then a else b
def rtT (R : RT) (z : Int) (j : Nat) : Nat := if 0 ≤ z ∧ z < ((R 0 0 : Nat) : Int) then j else 1
theorem wlN_le (z a b : Int) : wlN z a b ≤ 6 := by unfold wlN; repeat' split
                                                   all_goals omega
theorem wlN_or (z a b : Int) : (z < a ∧ wlN z a b = 4) ∨ (a ≤ z ∧ b < z ∧ wlN z a b = 6) ∨ (a ≤ z ∧ z ≤ b ∧ wlN z a b = 0) := by unfold wlN; (repeat' split) <;> omega
theorem otN_le (z a : Int) : otN z a ≤ 2 := by unfold otN; split <;> omega
theorem foN_le {a b m : Nat} (ha : a ≤ m) (hb : b ≤ m) : foN a b ≤ m := by unfold foN; split <;> assumption
theorem rtT_le {R : RT} {z : Int} {j m : Nat} (h : 1 ≤ m) (hj : j ≤ m) : rtT R z j ≤ m := by unfold rtT; split <;> assumption
set_option maxRecDepth 100000 in
set_option maxHeartbeats 4000000 in
theorem kX1_outside (l : Launch) (G : GT) (v : Int32) (vz : Int) (lo : Int32) (loz : Int) (up : Int32) (upz : Int) (h_v : v.toInt = vz) (h_lo : lo.toInt = loz) (h_up : up.toInt = upz) : Ct l yX1_outside cX1_outside 3 (some .int) 0 0 [.int v, .int lo, .int up] G [] (QI G [] (fun (r : Int32) (u : Unit) => r = nG (wlN vz loz upz)) (fun u => [])) := by
  refine en (by decide +kernel) (Nat.le_of_ble_eq_true rfl) ?_
  intro p e s m below meth c ls H locs C hl hw
  have xx := C.1
  have xb := C.2.1
  have hw : Wd G (fA []) s [] H locs := hw
  have hl : lv_has ls 3 [(0, .int v), (1, .int lo), (2, .int up)] := hl
  refine lv_iload_n xx xb dX1_outside_0 rfl (lv_at hl 0 rfl) ?_
  refine lv_iload_n xx xb dX1_outside_1 rfl (lv_at hl 1 rfl) ?_
  refine lv_icmp_ge (tgt := 8) xx xb dX1_outside_2 (by decide) (fun c_2 => ?_) (fun c_2 => ?_)
  · skip
    have c_2 := le_c h_lo h_v c_2
    refine lv_iload_n xx xb dX1_outside_8 rfl (lv_at hl 0 rfl) ?_
    refine lv_iload_n xx xb dX1_outside_9 rfl (lv_at hl 2 rfl) ?_
    refine lv_icmp_le (tgt := 18) xx xb dX1_outside_10 (by decide) (fun c_10 => ?_) (fun c_10 => ?_)
    · skip
      have c_10 := le_c h_v h_up c_10
      refine lv_iconst (v := nI 0) xx xb dX1_outside_18 (by decide) ?_
      exact rt_i C hw () (by unfold wlN; first | (rw [if_pos (by omega)] <;> rfl) | (rw [if_neg (by omega)] <;> rfl) | (rw [if_neg (by omega), if_pos (by omega)] <;> rfl) | (rw [if_neg (by omega), if_neg (by omega)] <;> rfl)) rfl dX1_outside_19
    · skip
      have c_10 := nle_c h_v h_up c_10
      refine lv_bipush (v := (-6)) xx xb dX1_outside_13 (by decide) ?_
      refine lv_goto (tgt := 19) xx xb dX1_outside_15 (by decide) ?_
      exact rt_i C hw () (by unfold wlN; first | (rw [if_pos (by omega)] <;> rfl) | (rw [if_neg (by omega)] <;> rfl) | (rw [if_neg (by omega), if_pos (by omega)] <;> rfl) | (rw [if_neg (by omega), if_neg (by omega)] <;> rfl)) rfl dX1_outside_19
  · skip
    have c_2 := nle_c h_lo h_v c_2
    refine lv_bipush (v := (-4)) xx xb dX1_outside_5 (by decide) ?_
    exact rt_i C hw () (by unfold wlN; first | (rw [if_pos (by omega)] <;> rfl) | (rw [if_neg (by omega)] <;> rfl) | (rw [if_neg (by omega), if_pos (by omega)] <;> rfl) | (rw [if_neg (by omega), if_neg (by omega)] <;> rfl)) rfl dX1_outside_7
set_option maxRecDepth 100000 in
set_option maxHeartbeats 4000000 in
theorem kX1_otherThan (l : Launch) (G : GT) (v : Int32) (vz : Int) (up : Int32) (upz : Int) (h_v : v.toInt = vz) (h_up : up.toInt = upz) : Ct l yX1_otherThan cX1_otherThan 2 (some .int) 0 0 [.int v, .int up] G [] (QI G [] (fun (r : Int32) (u : Unit) => r = nG (otN vz upz)) (fun u => [])) := by
  refine en (by decide +kernel) (Nat.le_of_ble_eq_true rfl) ?_
  intro p e s m below meth c ls H locs C hl hw
  have xx := C.1
  have xb := C.2.1
  have hw : Wd G (fA []) s [] H locs := hw
  have hl : lv_has ls 2 [(0, .int v), (1, .int up)] := hl
  refine lv_iload_n xx xb dX1_otherThan_0 rfl (lv_at hl 0 rfl) ?_
  refine lv_if_lt (tgt := 13) xx xb dX1_otherThan_1 (by decide) (fun c_1 => ?_) (fun c_1 => ?_)
  · skip
    have c_1 := lt_c h_v Int32.toInt_zero c_1
    refine lv_bipush (v := (-2)) xx xb dX1_otherThan_13 (by decide) ?_
    exact rt_i C hw () (by unfold otN; first | (rw [if_pos (by omega)] <;> rfl) | (rw [if_neg (by omega)] <;> rfl) | (rw [if_neg (by omega), if_pos (by omega)] <;> rfl) | (rw [if_neg (by omega), if_neg (by omega)] <;> rfl)) rfl dX1_otherThan_15
  · skip
    have c_1 := nlt_c h_v Int32.toInt_zero c_1
    refine lv_iload_n xx xb dX1_otherThan_4 rfl (lv_at hl 0 rfl) ?_
    refine lv_iload_n xx xb dX1_otherThan_5 rfl (lv_at hl 1 rfl) ?_
    refine lv_icmp_gt (tgt := 13) xx xb dX1_otherThan_6 (by decide) (fun c_6 => ?_) (fun c_6 => ?_)
    · skip
      have c_6 := lt_c h_up h_v c_6
      refine lv_bipush (v := (-2)) xx xb dX1_otherThan_13 (by decide) ?_
      exact rt_i C hw () (by unfold otN; first | (rw [if_pos (by omega)] <;> rfl) | (rw [if_neg (by omega)] <;> rfl) | (rw [if_neg (by omega), if_pos (by omega)] <;> rfl) | (rw [if_neg (by omega), if_neg (by omega)] <;> rfl)) rfl dX1_otherThan_15
    · skip
      have c_6 := nlt_c h_up h_v c_6
      refine lv_iconst (v := nI 0) xx xb dX1_otherThan_9 (by decide) ?_
      refine lv_goto (tgt := 15) xx xb dX1_otherThan_10 (by decide) ?_
      exact rt_i C hw () (by unfold otN; first | (rw [if_pos (by omega)] <;> rfl) | (rw [if_neg (by omega)] <;> rfl) | (rw [if_neg (by omega), if_pos (by omega)] <;> rfl) | (rw [if_neg (by omega), if_neg (by omega)] <;> rfl)) rfl dX1_otherThan_15
set_option maxRecDepth 100000 in
set_option maxHeartbeats 4000000 in
theorem kX1_firstOf (l : Launch) (G : GT) (a : Nat) (b : Nat) (ha : a ≤ 6) : Ct l yX1_firstOf cX1_firstOf 2 (some .int) 0 0 [.int (nG a), .int (nG b)] G [] (QI G [] (fun (r : Int32) (u : Unit) => r = nG (foN a b)) (fun u => [])) := by
  refine en (by decide +kernel) (Nat.le_of_ble_eq_true rfl) ?_
  intro p e s m below meth c ls H locs C hl hw
  have xx := C.1
  have xb := C.2.1
  have hw : Wd G (fA []) s [] H locs := hw
  have hl : lv_has ls 2 [(0, .int (nG a)), (1, .int (nG b))] := hl
  refine lv_iload_n xx xb dX1_firstOf_0 rfl (lv_at hl 0 rfl) ?_
  refine lv_if_eq (tgt := 8) xx xb dX1_firstOf_1 (by decide) (fun c_1 => ?_) (fun c_1 => ?_)
  · skip
    have c_1 := g0_c (by omega) c_1
    refine lv_iload_n xx xb dX1_firstOf_8 rfl (lv_at hl 1 rfl) ?_
    exact rt_i C hw () (by unfold foN; first | (rw [if_pos (by omega)] <;> rfl) | (rw [if_neg (by omega)] <;> rfl) | (rw [if_neg (by omega), if_pos (by omega)] <;> rfl) | (rw [if_neg (by omega), if_neg (by omega)] <;> rfl)) rfl dX1_firstOf_9
  · skip
    have c_1 := g0_n c_1
    refine lv_iload_n xx xb dX1_firstOf_4 rfl (lv_at hl 0 rfl) ?_
    refine lv_goto (tgt := 9) xx xb dX1_firstOf_5 (by decide) ?_
    exact rt_i C hw () (by unfold foN; first | (rw [if_pos (by omega)] <;> rfl) | (rw [if_neg (by omega)] <;> rfl) | (rw [if_neg (by omega), if_pos (by omega)] <;> rfl) | (rw [if_neg (by omega), if_neg (by omega)] <;> rfl)) rfl dX1_firstOf_9
set_option maxRecDepth 100000 in
set_option maxHeartbeats 4000000 in
theorem kX1_bit (l : Launch) (G : GT) (x : Int32) (hx : x = 0 ∨ x = 1) : Ct l yX1_bit cX1_bit 1 (some .int) 0 0 [.int x] G [] (QI G [] (fun (r : Int32) (u : Unit) => r = x) (fun u => [])) := by
  refine en (by decide +kernel) (Nat.le_of_ble_eq_true rfl) ?_
  intro p e s m below meth c ls H locs C hl hw
  have xx := C.1
  have xb := C.2.1
  have hw : Wd G (fA []) s [] H locs := hw
  have hl : lv_has ls 1 [(0, .int x)] := hl
  refine lv_iload_n xx xb dX1_bit_0 rfl (lv_at hl 0 rfl) ?_
  refine lv_if_eq (tgt := 8) xx xb dX1_bit_1 (by decide) (fun c_1 => ?_) (fun c_1 => ?_)
  · skip
    have c_1 := eq_c rfl Int32.toInt_zero c_1
    refine lv_iconst (v := nI 0) xx xb dX1_bit_8 (by decide) ?_
    exact rt_i C hw () (by first | exact (hx.resolve_left (by first | exact c_1 | assumption)).symm | exact (by assumption : x = 0).symm) rfl dX1_bit_9
  · skip
    have c_1 := ne_c rfl Int32.toInt_zero c_1
    refine lv_iconst (v := nI 1) xx xb dX1_bit_4 (by decide) ?_
    refine lv_goto (tgt := 9) xx xb dX1_bit_5 (by decide) ?_
    exact rt_i C hw () (by first | exact (hx.resolve_left (by first | exact c_1 | assumption)).symm | exact (by assumption : x = 0).symm) rfl dX1_bit_9
set_option maxRecDepth 100000 in
set_option maxHeartbeats 4000000 in
theorem kX1_refuse (l : Launch) (G : GT) (h0 : Nat) (so : Nat) (to : Nat) (uo : Nat) (x5 : Nat) (x6 : Nat) (x7 : Nat) (x8 : Nat) (im : Nat) (lm : Nat) (rm : Nat) (sd : Int32) (rf : Nat → Nat) (j : Nat) (hj : 1 ≤ j ∧ j ≤ 6) : Ct l yX1_refuse cX1_refuse 2 (some .int) 0 0 [.ref h0, .int (nG j)] G [(h0, .inr (1, [.ref so, .ref to, .ref uo, .int (nI im), .ref x5, .int (nI lm), .ref x6, .int (nI rm), .ref x7, .ref x8, .int sd])), (x7, aI G 7 (cN rf))] (QI G [(h0, .inr (1, [.ref so, .ref to, .ref uo, .int (nI im), .ref x5, .int (nI lm), .ref x6, .int (nI rm), .ref x7, .ref x8, .int sd])), (x7, aI G 7 (cN rf))] (fun (r : Int32) (u : Unit) => r = nG j) (fun u => [(h0, .inr (1, [.ref so, .ref to, .ref uo, .int (nI im), .ref x5, .int (nI lm), .ref x6, .int (nI rm), .ref x7, .ref x8, .int sd])), (x7, aI G 7 (cN (upN rf j (rf j + 1))))])) := by
  refine en (by decide +kernel) (Nat.le_of_ble_eq_true rfl) ?_
  intro p e s m below meth c ls H locs C hl hw
  have xx := C.1
  have xb := C.2.1
  have hw : Wd G (fA [(h0, .inr (1, [.ref so, .ref to, .ref uo, .int (nI im), .ref x5, .int (nI lm), .ref x6, .int (nI rm), .ref x7, .ref x8, .int sd])), (x7, aI G 7 (cN rf))]) s [(h0, .inr (1, [.ref so, .ref to, .ref uo, .int (nI im), .ref x5, .int (nI lm), .ref x6, .int (nI rm), .ref x7, .ref x8, .int sd])), (x7, aI G 7 (cN rf))] H locs := hw
  have hl : lv_has ls 2 [(0, .ref h0), (1, .int (nG j))] := hl
  refine lv_iload_n xx xb dX1_refuse_0 rfl (lv_at hl 1 rfl) ?_
  refine lv_iconst (v := (-1)) xx xb dX1_refuse_1 (by decide) ?_
  refine lv_icmp_gt (tgt := 22) xx xb dX1_refuse_2 (by decide) (fun c_2 => ?_) (fun c_2 => ?_)
  · skip
    have c_2 := lt_c (show ((-1) : Int32).toInt = -1 by decide +kernel) (nG_t (by omega)) c_2
    exact (show False by omega).elim
  · skip
    have c_2 := nlt_c (show ((-1) : Int32).toInt = -1 by decide +kernel) (nG_t (by omega)) c_2
    refine lv_iload_n xx xb dX1_refuse_5 rfl (lv_at hl 1 rfl) ?_
    refine lv_bipush (v := (-6)) xx xb dX1_refuse_6 (by decide) ?_
    refine lv_icmp_lt (tgt := 22) xx xb dX1_refuse_8 (by decide) (fun c_8 => ?_) (fun c_8 => ?_)
    · skip
      have c_8 := lt_c (nG_t (by omega)) (show ((-6) : Int32).toInt = -6 by decide +kernel) c_8
      exact (show False by omega).elim
    · skip
      have c_8 := nlt_c (nG_t (by omega)) (show ((-6) : Int32).toInt = -6 by decide +kernel) c_8
      refine lv_aload_n xx xb dX1_refuse_11 rfl (lv_at hl 0 rfl) ?_
      refine m_get C hw 0 rfl fk_X1_29 rfl dX1_refuse_12 ?_
      refine lv_iload_n xx xb dX1_refuse_15 rfl (lv_at hl 1 rfl) ?_
      refine lv_ineg xx xb dX1_refuse_16 ?_
      refine re_i (nI j) (nG_neg _) ?_
      refine lv_dup2_11 xx xb dX1_refuse_17 rfl rfl ?_
      refine m_ald C hw 1 rfl j rfl (by omega) (by decide) dX1_refuse_18 ?_
      refine re_i (nI (rf j)) rfl ?_
      refine lv_iconst (v := nI 1) xx xb dX1_refuse_19 (by decide) ?_
      refine lv_iadd xx xb dX1_refuse_20 ?_
      refine re_i (nI ((rf j) + 1)) (nI_add _ _) ?_
      refine m_ast C hw 1 rfl j rfl (by omega) (by decide) (cN (upN rf j ((rf j) + 1))) (cN_u _ _ _) dX1_refuse_21 (fun H locs hw => ?_)
      have hw : Wd G (fA [(h0, .inr (1, [.ref so, .ref to, .ref uo, .int (nI im), .ref x5, .int (nI lm), .ref x6, .int (nI rm), .ref x7, .ref x8, .int sd])), (x7, aI G 7 (cN rf))]) s [(h0, .inr (1, [.ref so, .ref to, .ref uo, .int (nI im), .ref x5, .int (nI lm), .ref x6, .int (nI rm), .ref x7, .ref x8, .int sd])), (x7, aI G 7 (cN (upN rf j ((rf j) + 1))))] H locs := hw
      refine lv_iload_n xx xb dX1_refuse_22 rfl (lv_at hl 1 rfl) ?_
      exact rt_i C hw () rfl rfl dX1_refuse_23
set_option maxRecDepth 100000 in
set_option maxHeartbeats 4000000 in
theorem kX1_refusalOfThing (l : Launch) (G : GT) (h0 : Nat) (so : Nat) (to : Nat) (uo : Nat) (x5 : Nat) (x6 : Nat) (x7 : Nat) (x8 : Nat) (im : Nat) (lm : Nat) (rm : Nat) (sd : Int32) (ak : Nat) (af : Nat) (ab : Nat) (aa : Nat) (mi : Nat) (R : RT) (j : Nat) (x : Int32) (xz : Int) (h_x : x.toInt = xz) (hn : R 0 0 ≤ 10) : Ct l yX1_refusalOfThing cX1_refusalOfThing 3 (some .int) 1 21 [.ref h0, .int x, .int (nG j)] G [(h0, .inr (1, [.ref so, .ref to, .ref uo, .int (nI im), .ref x5, .int (nI lm), .ref x6, .int (nI rm), .ref x7, .ref x8, .int sd])), (so, .inr (0, [.int (nI (sN R)), .int (nI mi), .int (nI (sF R)), .int (nI (sS R)), .int (nI (sL R)), .ref ak, .ref af, .ref ab, .ref aa])), (ak, aI G 10 (sK R)), (af, aI G 10 (sG R)), (ab, aI G 10 (sO R)), (aa, aI G 10 (sA R))] (QI G [(h0, .inr (1, [.ref so, .ref to, .ref uo, .int (nI im), .ref x5, .int (nI lm), .ref x6, .int (nI rm), .ref x7, .ref x8, .int sd])), (so, .inr (0, [.int (nI (sN R)), .int (nI mi), .int (nI (sF R)), .int (nI (sS R)), .int (nI (sL R)), .ref ak, .ref af, .ref ab, .ref aa])), (ak, aI G 10 (sK R)), (af, aI G 10 (sG R)), (ab, aI G 10 (sO R)), (aa, aI G 10 (sA R))] (fun (r : Int32) (u : Unit) => r = nG (rtT R xz j)) (fun u => [(h0, .inr (1, [.ref so, .ref to, .ref uo, .int (nI im), .ref x5, .int (nI lm), .ref x6, .int (nI rm), .ref x7, .ref x8, .int sd])), (so, .inr (0, [.int (nI (sN R)), .int (nI mi), .int (nI (sF R)), .int (nI (sS R)), .int (nI (sL R)), .ref ak, .ref af, .ref ab, .ref aa])), (ak, aI G 10 (sK R)), (af, aI G 10 (sG R)), (ab, aI G 10 (sO R)), (aa, aI G 10 (sA R))])) := by
  refine en (by decide +kernel) (Nat.le_of_ble_eq_true rfl) ?_
  intro p e s m below meth c ls H locs C hl hw
  have xx := C.1
  have xb := C.2.1
  have hw : Wd G (fA [(h0, .inr (1, [.ref so, .ref to, .ref uo, .int (nI im), .ref x5, .int (nI lm), .ref x6, .int (nI rm), .ref x7, .ref x8, .int sd])), (so, .inr (0, [.int (nI (sN R)), .int (nI mi), .int (nI (sF R)), .int (nI (sS R)), .int (nI (sL R)), .ref ak, .ref af, .ref ab, .ref aa])), (ak, aI G 10 (sK R)), (af, aI G 10 (sG R)), (ab, aI G 10 (sO R)), (aa, aI G 10 (sA R))]) s [(h0, .inr (1, [.ref so, .ref to, .ref uo, .int (nI im), .ref x5, .int (nI lm), .ref x6, .int (nI rm), .ref x7, .ref x8, .int sd])), (so, .inr (0, [.int (nI (sN R)), .int (nI mi), .int (nI (sF R)), .int (nI (sS R)), .int (nI (sL R)), .ref ak, .ref af, .ref ab, .ref aa])), (ak, aI G 10 (sK R)), (af, aI G 10 (sG R)), (ab, aI G 10 (sO R)), (aa, aI G 10 (sA R))] H locs := hw
  have hl : lv_has ls 3 [(0, .ref h0), (1, .int x), (2, .int (nG j))] := hl
  refine lv_aload_n xx xb dX1_refusalOfThing_0 rfl (lv_at hl 0 rfl) ?_
  refine m_get C hw 0 rfl fk_X1_10 rfl dX1_refusalOfThing_1 ?_
  refine lv_iload_n xx xb dX1_refusalOfThing_4 rfl (lv_at hl 1 rfl) ?_
  have hM := kX0_isThing l G so ak af ab aa mi R x xz h_x (by first | assumption | omega)
  refine cv_i C hw hM yvX0_isThing ml_X1_169 1 rfl rfl rfl [1, 2, 3, 4, 5] rfl rfl (fun _ => (rfl : ([so, ak, af, ab, aa] : List Nat) = [so, ak, af, ab, aa])) (by decide) ⟨Nat.zero_le _, Nat.zero_le _⟩ hl.1 rfl (Nat.le_of_ble_eq_true rfl) dX1_refusalOfThing_5 (fun r _ H locs hr hw => ?_)
  have hw : Wd G (fA [(h0, .inr (1, [.ref so, .ref to, .ref uo, .int (nI im), .ref x5, .int (nI lm), .ref x6, .int (nI rm), .ref x7, .ref x8, .int sd])), (so, .inr (0, [.int (nI (sN R)), .int (nI mi), .int (nI (sF R)), .int (nI (sS R)), .int (nI (sL R)), .ref ak, .ref af, .ref ab, .ref aa])), (ak, aI G 10 (sK R)), (af, aI G 10 (sG R)), (ab, aI G 10 (sO R)), (aa, aI G 10 (sA R))]) s [(h0, .inr (1, [.ref so, .ref to, .ref uo, .int (nI im), .ref x5, .int (nI lm), .ref x6, .int (nI rm), .ref x7, .ref x8, .int sd])), (so, .inr (0, [.int (nI (sN R)), .int (nI mi), .int (nI (sF R)), .int (nI (sS R)), .int (nI (sL R)), .ref ak, .ref af, .ref ab, .ref aa])), (ak, aI G 10 (sK R)), (af, aI G 10 (sG R)), (ab, aI G 10 (sO R)), (aa, aI G 10 (sA R))] H locs := hw
  subst hr
  refine lv_if_eq (tgt := 15) xx xb dX1_refusalOfThing_8 (by decide) (fun c_8 => ?_) (fun c_8 => ?_)
  · skip
    have c_8 := b0_c c_8
    refine lv_iconst (v := (-1)) xx xb dX1_refusalOfThing_15 (by decide) ?_
    exact rt_i C hw () (by unfold rtT; first | (rw [if_pos (by omega)] <;> rfl) | (rw [if_neg (by omega)] <;> rfl) | (rw [if_neg (by omega), if_pos (by omega)] <;> rfl) | (rw [if_neg (by omega), if_neg (by omega)] <;> rfl)) rfl dX1_refusalOfThing_16
  · skip
    have c_8 := b1_c c_8
    refine lv_iload_n xx xb dX1_refusalOfThing_11 rfl (lv_at hl 2 rfl) ?_
    refine lv_goto (tgt := 16) xx xb dX1_refusalOfThing_12 (by decide) ?_
    exact rt_i C hw () (by unfold rtT; first | (rw [if_pos (by omega)] <;> rfl) | (rw [if_neg (by omega)] <;> rfl) | (rw [if_neg (by omega), if_pos (by omega)] <;> rfl) | (rw [if_neg (by omega), if_neg (by omega)] <;> rfl)) rfl dX1_refusalOfThing_16
set_option maxRecDepth 100000 in
set_option maxHeartbeats 4000000 in
theorem kX1_refusalOfPull (l : Launch) (G : GT) (h0 : Nat) (so : Nat) (to : Nat) (uo : Nat) (x5 : Nat) (x6 : Nat) (x7 : Nat) (x8 : Nat) (im : Nat) (lm : Nat) (rm : Nat) (sd : Int32) (ak : Nat) (af : Nat) (ab : Nat) (aa : Nat) (mi : Nat) (R : RT) (j : Nat) (x : Int32) (xz : Int) (h_x : x.toInt = xz) (hR : OK R) (hj : j ≤ 6) : Ct l yX1_refusalOfPull cX1_refusalOfPull 3 (some .int) 2 43 [.ref h0, .int x, .int (nG j)] G [(h0, .inr (1, [.ref so, .ref to, .ref uo, .int (nI im), .ref x5, .int (nI lm), .ref x6, .int (nI rm), .ref x7, .ref x8, .int sd])), (so, .inr (0, [.int (nI (sN R)), .int (nI mi), .int (nI (sF R)), .int (nI (sS R)), .int (nI (sL R)), .ref ak, .ref af, .ref ab, .ref aa])), (ak, aI G 10 (sK R)), (af, aI G 10 (sG R)), (ab, aI G 10 (sO R)), (aa, aI G 10 (sA R))] (QI G [(h0, .inr (1, [.ref so, .ref to, .ref uo, .int (nI im), .ref x5, .int (nI lm), .ref x6, .int (nI rm), .ref x7, .ref x8, .int sd])), (so, .inr (0, [.int (nI (sN R)), .int (nI mi), .int (nI (sF R)), .int (nI (sS R)), .int (nI (sL R)), .ref ak, .ref af, .ref ab, .ref aa])), (ak, aI G 10 (sK R)), (af, aI G 10 (sG R)), (ab, aI G 10 (sO R)), (aa, aI G 10 (sA R))] (fun (r : Int32) (u : Unit) => r = nG (rtT R xz (foN j (if (0 ≤ xz ∧ xz < ((R 0 0 : Nat) : Int)) ∧ R 4 xz.toNat = 0 then 0 else 3)))) (fun u => [(h0, .inr (1, [.ref so, .ref to, .ref uo, .int (nI im), .ref x5, .int (nI lm), .ref x6, .int (nI rm), .ref x7, .ref x8, .int sd])), (so, .inr (0, [.int (nI (sN R)), .int (nI mi), .int (nI (sF R)), .int (nI (sS R)), .int (nI (sL R)), .ref ak, .ref af, .ref ab, .ref aa])), (ak, aI G 10 (sK R)), (af, aI G 10 (sG R)), (ab, aI G 10 (sO R)), (aa, aI G 10 (sA R))])) := by
  refine en (by decide +kernel) (Nat.le_of_ble_eq_true rfl) ?_
  intro p e s m below meth c ls H locs C hl hw
  have xx := C.1
  have xb := C.2.1
  have hw : Wd G (fA [(h0, .inr (1, [.ref so, .ref to, .ref uo, .int (nI im), .ref x5, .int (nI lm), .ref x6, .int (nI rm), .ref x7, .ref x8, .int sd])), (so, .inr (0, [.int (nI (sN R)), .int (nI mi), .int (nI (sF R)), .int (nI (sS R)), .int (nI (sL R)), .ref ak, .ref af, .ref ab, .ref aa])), (ak, aI G 10 (sK R)), (af, aI G 10 (sG R)), (ab, aI G 10 (sO R)), (aa, aI G 10 (sA R))]) s [(h0, .inr (1, [.ref so, .ref to, .ref uo, .int (nI im), .ref x5, .int (nI lm), .ref x6, .int (nI rm), .ref x7, .ref x8, .int sd])), (so, .inr (0, [.int (nI (sN R)), .int (nI mi), .int (nI (sF R)), .int (nI (sS R)), .int (nI (sL R)), .ref ak, .ref af, .ref ab, .ref aa])), (ak, aI G 10 (sK R)), (af, aI G 10 (sG R)), (ab, aI G 10 (sO R)), (aa, aI G 10 (sA R))] H locs := hw
  have hl : lv_has ls 3 [(0, .ref h0), (1, .int x), (2, .int (nG j))] := hl
  obtain ⟨hn, hf0, hpr, hA⟩ := id hR
  refine lv_aload_n xx xb dX1_refusalOfPull_0 rfl (lv_at hl 0 rfl) ?_
  refine lv_iload_n xx xb dX1_refusalOfPull_1 rfl (lv_at hl 1 rfl) ?_
  refine lv_iload_n xx xb dX1_refusalOfPull_2 rfl (lv_at hl 2 rfl) ?_
  refine lv_aload_n xx xb dX1_refusalOfPull_3 rfl (lv_at hl 0 rfl) ?_
  refine m_get C hw 0 rfl fk_X1_10 rfl dX1_refusalOfPull_4 ?_
  refine lv_iload_n xx xb dX1_refusalOfPull_7 rfl (lv_at hl 1 rfl) ?_
  have hM := kX0_stands l G so ak af ab aa mi R x xz h_x (by first | assumption | omega)
  refine cv_i C hw hM yvX0_stands ml_X1_166 1 rfl rfl rfl [1, 2, 3, 4, 5] rfl rfl (fun _ => (rfl : ([so, ak, af, ab, aa] : List Nat) = [so, ak, af, ab, aa])) (by decide) ⟨Nat.zero_le _, Nat.zero_le _⟩ hl.1 rfl (Nat.le_of_ble_eq_true rfl) dX1_refusalOfPull_8 (fun r _ H locs hr hw => ?_)
  have hw : Wd G (fA [(h0, .inr (1, [.ref so, .ref to, .ref uo, .int (nI im), .ref x5, .int (nI lm), .ref x6, .int (nI rm), .ref x7, .ref x8, .int sd])), (so, .inr (0, [.int (nI (sN R)), .int (nI mi), .int (nI (sF R)), .int (nI (sS R)), .int (nI (sL R)), .ref ak, .ref af, .ref ab, .ref aa])), (ak, aI G 10 (sK R)), (af, aI G 10 (sG R)), (ab, aI G 10 (sO R)), (aa, aI G 10 (sA R))]) s [(h0, .inr (1, [.ref so, .ref to, .ref uo, .int (nI im), .ref x5, .int (nI lm), .ref x6, .int (nI rm), .ref x7, .ref x8, .int sd])), (so, .inr (0, [.int (nI (sN R)), .int (nI mi), .int (nI (sF R)), .int (nI (sS R)), .int (nI (sL R)), .ref ak, .ref af, .ref ab, .ref aa])), (ak, aI G 10 (sK R)), (af, aI G 10 (sG R)), (ab, aI G 10 (sO R)), (aa, aI G 10 (sA R))] H locs := hw
  subst hr
  refine lv_if_eq (tgt := 18) xx xb dX1_refusalOfPull_11 (by decide) (fun c_11 => ?_) (fun c_11 => ?_)
  · skip
    have c_11 := b0_c c_11
    refine lv_bipush (v := (-3)) xx xb dX1_refusalOfPull_18 (by decide) ?_
    refine re_i (nG (if (0 ≤ xz ∧ xz < ((R 0 0 : Nat) : Int)) ∧ R 4 xz.toNat = 0 then 0 else 3)) (by rw [if_neg c_11]; decide +kernel) ?_
    have hM := kX1_firstOf l G j (if (0 ≤ xz ∧ xz < ((R 0 0 : Nat) : Int)) ∧ R 4 xz.toNat = 0 then 0 else 3) (by first | assumption | omega)
    refine cs_i C hw hM ysX1_firstOf ml_X1_115 rfl [] rfl rfl (fun _ => (rfl : ([] : List Nat) = [])) (by decide) ⟨Nat.zero_le _, Nat.zero_le _⟩ hl.1 rfl (Nat.le_of_ble_eq_true rfl) dX1_refusalOfPull_20 (fun r _ H locs hr hw => ?_)
    have hw : Wd G (fA [(h0, .inr (1, [.ref so, .ref to, .ref uo, .int (nI im), .ref x5, .int (nI lm), .ref x6, .int (nI rm), .ref x7, .ref x8, .int sd])), (so, .inr (0, [.int (nI (sN R)), .int (nI mi), .int (nI (sF R)), .int (nI (sS R)), .int (nI (sL R)), .ref ak, .ref af, .ref ab, .ref aa])), (ak, aI G 10 (sK R)), (af, aI G 10 (sG R)), (ab, aI G 10 (sO R)), (aa, aI G 10 (sA R))]) s [(h0, .inr (1, [.ref so, .ref to, .ref uo, .int (nI im), .ref x5, .int (nI lm), .ref x6, .int (nI rm), .ref x7, .ref x8, .int sd])), (so, .inr (0, [.int (nI (sN R)), .int (nI mi), .int (nI (sF R)), .int (nI (sS R)), .int (nI (sL R)), .ref ak, .ref af, .ref ab, .ref aa])), (ak, aI G 10 (sK R)), (af, aI G 10 (sG R)), (ab, aI G 10 (sO R)), (aa, aI G 10 (sA R))] H locs := hw
    subst hr
    have hM := kX1_refusalOfThing l G h0 so to uo x5 x6 x7 x8 im lm rm sd ak af ab aa mi R (foN j (if (0 ≤ xz ∧ xz < ((R 0 0 : Nat) : Int)) ∧ R 4 xz.toNat = 0 then 0 else 3)) x xz h_x (by first | assumption | omega)
    refine cv_i C hw hM yvX1_refusalOfThing ml_X1_55 0 rfl rfl rfl [0, 1, 2, 3, 4, 5] rfl rfl (fun _ => (rfl : ([h0, so, ak, af, ab, aa] : List Nat) = [h0, so, ak, af, ab, aa])) (by decide) ⟨Nat.zero_le _, Nat.zero_le _⟩ hl.1 rfl (Nat.le_of_ble_eq_true rfl) dX1_refusalOfPull_23 (fun r _ H locs hr hw => ?_)
    have hw : Wd G (fA [(h0, .inr (1, [.ref so, .ref to, .ref uo, .int (nI im), .ref x5, .int (nI lm), .ref x6, .int (nI rm), .ref x7, .ref x8, .int sd])), (so, .inr (0, [.int (nI (sN R)), .int (nI mi), .int (nI (sF R)), .int (nI (sS R)), .int (nI (sL R)), .ref ak, .ref af, .ref ab, .ref aa])), (ak, aI G 10 (sK R)), (af, aI G 10 (sG R)), (ab, aI G 10 (sO R)), (aa, aI G 10 (sA R))]) s [(h0, .inr (1, [.ref so, .ref to, .ref uo, .int (nI im), .ref x5, .int (nI lm), .ref x6, .int (nI rm), .ref x7, .ref x8, .int sd])), (so, .inr (0, [.int (nI (sN R)), .int (nI mi), .int (nI (sF R)), .int (nI (sS R)), .int (nI (sL R)), .ref ak, .ref af, .ref ab, .ref aa])), (ak, aI G 10 (sK R)), (af, aI G 10 (sG R)), (ab, aI G 10 (sO R)), (aa, aI G 10 (sA R))] H locs := hw
    subst hr
    exact rt_i C hw () rfl rfl dX1_refusalOfPull_26
  · skip
    have c_11 := b1_c c_11
    refine lv_iconst (v := nI 0) xx xb dX1_refusalOfPull_14 (by decide) ?_
    refine lv_goto (tgt := 20) xx xb dX1_refusalOfPull_15 (by decide) ?_
    refine re_i (nG (if (0 ≤ xz ∧ xz < ((R 0 0 : Nat) : Int)) ∧ R 4 xz.toNat = 0 then 0 else 3)) (by rw [if_pos c_11]; decide +kernel) ?_
    have hM := kX1_firstOf l G j (if (0 ≤ xz ∧ xz < ((R 0 0 : Nat) : Int)) ∧ R 4 xz.toNat = 0 then 0 else 3) (by first | assumption | omega)
    refine cs_i C hw hM ysX1_firstOf ml_X1_115 rfl [] rfl rfl (fun _ => (rfl : ([] : List Nat) = [])) (by decide) ⟨Nat.zero_le _, Nat.zero_le _⟩ hl.1 rfl (Nat.le_of_ble_eq_true rfl) dX1_refusalOfPull_20 (fun r _ H locs hr hw => ?_)
    have hw : Wd G (fA [(h0, .inr (1, [.ref so, .ref to, .ref uo, .int (nI im), .ref x5, .int (nI lm), .ref x6, .int (nI rm), .ref x7, .ref x8, .int sd])), (so, .inr (0, [.int (nI (sN R)), .int (nI mi), .int (nI (sF R)), .int (nI (sS R)), .int (nI (sL R)), .ref ak, .ref af, .ref ab, .ref aa])), (ak, aI G 10 (sK R)), (af, aI G 10 (sG R)), (ab, aI G 10 (sO R)), (aa, aI G 10 (sA R))]) s [(h0, .inr (1, [.ref so, .ref to, .ref uo, .int (nI im), .ref x5, .int (nI lm), .ref x6, .int (nI rm), .ref x7, .ref x8, .int sd])), (so, .inr (0, [.int (nI (sN R)), .int (nI mi), .int (nI (sF R)), .int (nI (sS R)), .int (nI (sL R)), .ref ak, .ref af, .ref ab, .ref aa])), (ak, aI G 10 (sK R)), (af, aI G 10 (sG R)), (ab, aI G 10 (sO R)), (aa, aI G 10 (sA R))] H locs := hw
    subst hr
    have hM := kX1_refusalOfThing l G h0 so to uo x5 x6 x7 x8 im lm rm sd ak af ab aa mi R (foN j (if (0 ≤ xz ∧ xz < ((R 0 0 : Nat) : Int)) ∧ R 4 xz.toNat = 0 then 0 else 3)) x xz h_x (by first | assumption | omega)
    refine cv_i C hw hM yvX1_refusalOfThing ml_X1_55 0 rfl rfl rfl [0, 1, 2, 3, 4, 5] rfl rfl (fun _ => (rfl : ([h0, so, ak, af, ab, aa] : List Nat) = [h0, so, ak, af, ab, aa])) (by decide) ⟨Nat.zero_le _, Nat.zero_le _⟩ hl.1 rfl (Nat.le_of_ble_eq_true rfl) dX1_refusalOfPull_23 (fun r _ H locs hr hw => ?_)
    have hw : Wd G (fA [(h0, .inr (1, [.ref so, .ref to, .ref uo, .int (nI im), .ref x5, .int (nI lm), .ref x6, .int (nI rm), .ref x7, .ref x8, .int sd])), (so, .inr (0, [.int (nI (sN R)), .int (nI mi), .int (nI (sF R)), .int (nI (sS R)), .int (nI (sL R)), .ref ak, .ref af, .ref ab, .ref aa])), (ak, aI G 10 (sK R)), (af, aI G 10 (sG R)), (ab, aI G 10 (sO R)), (aa, aI G 10 (sA R))]) s [(h0, .inr (1, [.ref so, .ref to, .ref uo, .int (nI im), .ref x5, .int (nI lm), .ref x6, .int (nI rm), .ref x7, .ref x8, .int sd])), (so, .inr (0, [.int (nI (sN R)), .int (nI mi), .int (nI (sF R)), .int (nI (sS R)), .int (nI (sL R)), .ref ak, .ref af, .ref ab, .ref aa])), (ak, aI G 10 (sK R)), (af, aI G 10 (sG R)), (ab, aI G 10 (sO R)), (aa, aI G 10 (sA R))] H locs := hw
    subst hr
    exact rt_i C hw () rfl rfl dX1_refusalOfPull_26
set_option maxRecDepth 100000 in
set_option maxHeartbeats 4000000 in
theorem kX1_letter (l : Launch) (G : GT) (h0 : Nat) (so : Nat) (to : Nat) (uo : Nat) (x5 : Nat) (x6 : Nat) (x7 : Nat) (x8 : Nat) (im : Nat) (lm : Nat) (rm : Nat) (sd : Int32) (rf : Nat → Nat) (lf2 : Nat → Nat) (ch : Int32) (chz : Int) (h_ch : ch.toInt = chz) (hlm : lm ≤ 96) : Ct l yX1_letter cX1_letter 3 (some .int) 1 22 [.ref h0, .int ch] G [(h0, .inr (1, [.ref so, .ref to, .ref uo, .int (nI im), .ref x5, .int (nI lm), .ref x6, .int (nI rm), .ref x7, .ref x8, .int sd])), (x5, aI G 96 (cN lf2)), (x7, aI G 7 (cN rf))] (QI G [(h0, .inr (1, [.ref so, .ref to, .ref uo, .int (nI im), .ref x5, .int (nI lm), .ref x6, .int (nI rm), .ref x7, .ref x8, .int sd])), (x5, aI G 96 (cN lf2)), (x7, aI G 7 (cN rf))] (fun (r : Int32) (u : Unit) => r = anI (cLetter chz lm) (nI (lm + 1))) (fun u => [(h0, .inr (1, [.ref so, .ref to, .ref uo, .int (nI im), .ref x5, .int (nI (selN (cLetter chz lm) (lm + 1) lm)), .ref x6, .int (nI rm), .ref x7, .ref x8, .int sd])), (x5, aI G 96 (cN (selF (cLetter chz lm) (upN lf2 lm chz.toNat) lf2))), (x7, aI G 7 (cN (rfU rf (cLetter chz lm))))])) := by
  refine en (by decide +kernel) (Nat.le_of_ble_eq_true rfl) ?_
  intro p e s m below meth c ls H locs C hl hw
  have xx := C.1
  have xb := C.2.1
  have hw : Wd G (fA [(h0, .inr (1, [.ref so, .ref to, .ref uo, .int (nI im), .ref x5, .int (nI lm), .ref x6, .int (nI rm), .ref x7, .ref x8, .int sd])), (x5, aI G 96 (cN lf2)), (x7, aI G 7 (cN rf))]) s [(h0, .inr (1, [.ref so, .ref to, .ref uo, .int (nI im), .ref x5, .int (nI lm), .ref x6, .int (nI rm), .ref x7, .ref x8, .int sd])), (x5, aI G 96 (cN lf2)), (x7, aI G 7 (cN rf))] H locs := hw
  have hl : lv_has ls 3 [(0, .ref h0), (1, .int ch)] := hl
  have hwl := wlN_or chz 0 255
  have hw6 := wlN_le chz 0 255
  refine lv_iload_n xx xb dX1_letter_0 rfl (lv_at hl 1 rfl) ?_
  refine lv_iconst (v := nI 0) xx xb dX1_letter_1 (by decide) ?_
  refine lv_sipush (v := nI 255) xx xb dX1_letter_2 (by decide) ?_
  have hM := kX1_outside l G ch chz (nI 0) 0 (nI 255) 255 h_ch (tN (by omega)) (tN (by omega))
  refine cs_i C hw hM ysX1_outside ml_X1_35 rfl [] rfl rfl (fun _ => (rfl : ([] : List Nat) = [])) (by decide) ⟨Nat.zero_le _, Nat.zero_le _⟩ hl.1 rfl (Nat.le_of_ble_eq_true rfl) dX1_letter_5 (fun r _ H locs hr hw => ?_)
  have hw : Wd G (fA [(h0, .inr (1, [.ref so, .ref to, .ref uo, .int (nI im), .ref x5, .int (nI lm), .ref x6, .int (nI rm), .ref x7, .ref x8, .int sd])), (x5, aI G 96 (cN lf2)), (x7, aI G 7 (cN rf))]) s [(h0, .inr (1, [.ref so, .ref to, .ref uo, .int (nI im), .ref x5, .int (nI lm), .ref x6, .int (nI rm), .ref x7, .ref x8, .int sd])), (x5, aI G 96 (cN lf2)), (x7, aI G 7 (cN rf))] H locs := hw
  subst hr
  refine lv_istore_n (lv' := [(2, .int (nG (wlN chz 0 255))), (0, .ref h0), (1, .int ch)]) xx xb dX1_letter_8 rfl hl (by decide) rfl (fun ls hl => ?_)
  refine lv_iload_n xx xb dX1_letter_9 rfl (lv_at hl 0 rfl) ?_
  refine lv_if_ne (tgt := 25) xx xb dX1_letter_10 (by decide) (fun c_10 => ?_) (fun c_10 => ?_)
  · skip
    have c_10 := g0_n c_10
    refine lv_iload_n xx xb dX1_letter_25 rfl (lv_at hl 0 rfl) ?_
    refine lv_if_eq (tgt := 35) xx xb dX1_letter_26 (by decide) (fun c_26 => ?_) (fun c_26 => ?_)
    · skip
      have c_26 := g0_c (by omega) c_26
      refine lv_aload_n xx xb dX1_letter_35 rfl (lv_at hl 1 rfl) ?_
      refine m_get C hw 0 rfl fk_X1_22 rfl dX1_letter_36 ?_
      refine lv_aload_n xx xb dX1_letter_39 rfl (lv_at hl 1 rfl) ?_
      refine m_get C hw 0 rfl fk_X1_39 rfl dX1_letter_40 ?_
      refine lv_iload_n xx xb dX1_letter_43 rfl (lv_at hl 2 rfl) ?_
      refine re_i (nI chz.toNat) (ofT h_ch (by omega) (by omega)) ?_
      refine m_ast C hw 1 rfl lm rfl (by omega) (by decide) (cN (upN lf2 lm chz.toNat)) (cN_u _ _ _) dX1_letter_44 (fun H locs hw => ?_)
      have hw : Wd G (fA [(h0, .inr (1, [.ref so, .ref to, .ref uo, .int (nI im), .ref x5, .int (nI lm), .ref x6, .int (nI rm), .ref x7, .ref x8, .int sd])), (x5, aI G 96 (cN lf2)), (x7, aI G 7 (cN rf))]) s [(h0, .inr (1, [.ref so, .ref to, .ref uo, .int (nI im), .ref x5, .int (nI lm), .ref x6, .int (nI rm), .ref x7, .ref x8, .int sd])), (x5, aI G 96 (cN (upN lf2 lm chz.toNat))), (x7, aI G 7 (cN rf))] H locs := hw
      refine lv_aload_n xx xb dX1_letter_45 rfl (lv_at hl 1 rfl) ?_
      refine lv_dup xx xb dX1_letter_46 rfl ?_
      refine m_get C hw 0 rfl fk_X1_39 rfl dX1_letter_47 ?_
      refine lv_iconst (v := nI 1) xx xb dX1_letter_50 (by decide) ?_
      refine lv_iadd xx xb dX1_letter_51 ?_
      refine re_i (nI (lm + 1)) (nI_add _ _) ?_
      refine m_put C hw 0 rfl rfl tyX1 tyX1_ok nmX1 fk_X1_39 rfl rfl rfl rfl (Nat.le_of_ble_eq_true rfl) dX1_letter_52 (fun H locs hw => ?_)
      have hw : Wd G (fA [(h0, .inr (1, [.ref so, .ref to, .ref uo, .int (nI im), .ref x5, .int (nI lm), .ref x6, .int (nI rm), .ref x7, .ref x8, .int sd])), (x5, aI G 96 (cN lf2)), (x7, aI G 7 (cN rf))]) s [(h0, .inr (1, [.ref so, .ref to, .ref uo, .int (nI im), .ref x5, .int (nI (lm + 1)), .ref x6, .int (nI rm), .ref x7, .ref x8, .int sd])), (x5, aI G 96 (cN (upN lf2 lm chz.toNat))), (x7, aI G 7 (cN rf))] H locs := hw
      refine lv_aload_n xx xb dX1_letter_55 rfl (lv_at hl 1 rfl) ?_
      refine m_get C hw 0 rfl fk_X1_39 rfl dX1_letter_56 ?_
      have hc : cLetter chz lm = 0 := by unfold cLetter; (repeat' split) <;> omega
      exact rt_i C hw () (by exact (anI_0 hc _).symm) (by rw [rfU_0 hc, selN_0 hc, selF_0 hc]) dX1_letter_59
    · skip
      have c_26 := g0_n c_26
      refine lv_aload_n xx xb dX1_letter_29 rfl (lv_at hl 1 rfl) ?_
      refine lv_iload_n xx xb dX1_letter_30 rfl (lv_at hl 0 rfl) ?_
      have hM := kX1_refuse l G h0 so to uo x5 x6 x7 x8 im lm rm sd rf (wlN chz 0 255) (by first | assumption | omega)
      refine cv_i C hw hM yvX1_refuse ml_X1_43 0 rfl rfl rfl [0, 2] rfl rfl (fun _ => (rfl : ([h0, x7] : List Nat) = [h0, x7])) (by decide) ⟨Nat.zero_le _, Nat.zero_le _⟩ hl.1 rfl (Nat.le_of_ble_eq_true rfl) dX1_letter_31 (fun r _ H locs hr hw => ?_)
      have hw : Wd G (fA [(h0, .inr (1, [.ref so, .ref to, .ref uo, .int (nI im), .ref x5, .int (nI lm), .ref x6, .int (nI rm), .ref x7, .ref x8, .int sd])), (x5, aI G 96 (cN lf2)), (x7, aI G 7 (cN rf))]) s [(h0, .inr (1, [.ref so, .ref to, .ref uo, .int (nI im), .ref x5, .int (nI lm), .ref x6, .int (nI rm), .ref x7, .ref x8, .int sd])), (x5, aI G 96 (cN lf2)), (x7, aI G 7 (cN (upN rf (wlN chz 0 255) (rf (wlN chz 0 255) + 1))))] H locs := hw
      subst hr
      have hc : cLetter chz lm = (wlN chz 0 255) := by unfold cLetter; (repeat' split) <;> omega
      have hj : (wlN chz 0 255) ≠ 0 := by omega
      exact rt_i C hw () (by exact (anI_r hc hj _).symm) (by rw [rfU_r hc hj, selN_r hc hj, selF_r hc hj]) dX1_letter_34
  · skip
    have c_10 := g0_c (by omega) c_10
    refine lv_aload_n xx xb dX1_letter_13 rfl (lv_at hl 1 rfl) ?_
    refine m_get C hw 0 rfl fk_X1_39 rfl dX1_letter_14 ?_
    refine lv_bipush (v := nI 96) xx xb dX1_letter_17 (by decide) ?_
    refine lv_icmp_lt (tgt := 25) xx xb dX1_letter_19 (by decide) (fun c_19 => ?_) (fun c_19 => ?_)
    · skip
      have c_19 := lt_c (tN (by omega)) (tN (by omega)) c_19
      refine lv_iload_n xx xb dX1_letter_25 rfl (lv_at hl 0 rfl) ?_
      refine lv_if_eq (tgt := 35) xx xb dX1_letter_26 (by decide) (fun c_26 => ?_) (fun c_26 => ?_)
      · skip
        have c_26 := g0_c (by omega) c_26
        refine lv_aload_n xx xb dX1_letter_35 rfl (lv_at hl 1 rfl) ?_
        refine m_get C hw 0 rfl fk_X1_22 rfl dX1_letter_36 ?_
        refine lv_aload_n xx xb dX1_letter_39 rfl (lv_at hl 1 rfl) ?_
        refine m_get C hw 0 rfl fk_X1_39 rfl dX1_letter_40 ?_
        refine lv_iload_n xx xb dX1_letter_43 rfl (lv_at hl 2 rfl) ?_
        refine re_i (nI chz.toNat) (ofT h_ch (by omega) (by omega)) ?_
        refine m_ast C hw 1 rfl lm rfl (by omega) (by decide) (cN (upN lf2 lm chz.toNat)) (cN_u _ _ _) dX1_letter_44 (fun H locs hw => ?_)
        have hw : Wd G (fA [(h0, .inr (1, [.ref so, .ref to, .ref uo, .int (nI im), .ref x5, .int (nI lm), .ref x6, .int (nI rm), .ref x7, .ref x8, .int sd])), (x5, aI G 96 (cN lf2)), (x7, aI G 7 (cN rf))]) s [(h0, .inr (1, [.ref so, .ref to, .ref uo, .int (nI im), .ref x5, .int (nI lm), .ref x6, .int (nI rm), .ref x7, .ref x8, .int sd])), (x5, aI G 96 (cN (upN lf2 lm chz.toNat))), (x7, aI G 7 (cN rf))] H locs := hw
        refine lv_aload_n xx xb dX1_letter_45 rfl (lv_at hl 1 rfl) ?_
        refine lv_dup xx xb dX1_letter_46 rfl ?_
        refine m_get C hw 0 rfl fk_X1_39 rfl dX1_letter_47 ?_
        refine lv_iconst (v := nI 1) xx xb dX1_letter_50 (by decide) ?_
        refine lv_iadd xx xb dX1_letter_51 ?_
        refine re_i (nI (lm + 1)) (nI_add _ _) ?_
        refine m_put C hw 0 rfl rfl tyX1 tyX1_ok nmX1 fk_X1_39 rfl rfl rfl rfl (Nat.le_of_ble_eq_true rfl) dX1_letter_52 (fun H locs hw => ?_)
        have hw : Wd G (fA [(h0, .inr (1, [.ref so, .ref to, .ref uo, .int (nI im), .ref x5, .int (nI lm), .ref x6, .int (nI rm), .ref x7, .ref x8, .int sd])), (x5, aI G 96 (cN lf2)), (x7, aI G 7 (cN rf))]) s [(h0, .inr (1, [.ref so, .ref to, .ref uo, .int (nI im), .ref x5, .int (nI (lm + 1)), .ref x6, .int (nI rm), .ref x7, .ref x8, .int sd])), (x5, aI G 96 (cN (upN lf2 lm chz.toNat))), (x7, aI G 7 (cN rf))] H locs := hw
        refine lv_aload_n xx xb dX1_letter_55 rfl (lv_at hl 1 rfl) ?_
        refine m_get C hw 0 rfl fk_X1_39 rfl dX1_letter_56 ?_
        have hc : cLetter chz lm = 0 := by unfold cLetter; (repeat' split) <;> omega
        exact rt_i C hw () (by exact (anI_0 hc _).symm) (by rw [rfU_0 hc, selN_0 hc, selF_0 hc]) dX1_letter_59
      · skip
        have c_26 := g0_n c_26
        refine lv_aload_n xx xb dX1_letter_29 rfl (lv_at hl 1 rfl) ?_
        refine lv_iload_n xx xb dX1_letter_30 rfl (lv_at hl 0 rfl) ?_
        have hM := kX1_refuse l G h0 so to uo x5 x6 x7 x8 im lm rm sd rf (wlN chz 0 255) (by first | assumption | omega)
        refine cv_i C hw hM yvX1_refuse ml_X1_43 0 rfl rfl rfl [0, 2] rfl rfl (fun _ => (rfl : ([h0, x7] : List Nat) = [h0, x7])) (by decide) ⟨Nat.zero_le _, Nat.zero_le _⟩ hl.1 rfl (Nat.le_of_ble_eq_true rfl) dX1_letter_31 (fun r _ H locs hr hw => ?_)
        have hw : Wd G (fA [(h0, .inr (1, [.ref so, .ref to, .ref uo, .int (nI im), .ref x5, .int (nI lm), .ref x6, .int (nI rm), .ref x7, .ref x8, .int sd])), (x5, aI G 96 (cN lf2)), (x7, aI G 7 (cN rf))]) s [(h0, .inr (1, [.ref so, .ref to, .ref uo, .int (nI im), .ref x5, .int (nI lm), .ref x6, .int (nI rm), .ref x7, .ref x8, .int sd])), (x5, aI G 96 (cN lf2)), (x7, aI G 7 (cN (upN rf (wlN chz 0 255) (rf (wlN chz 0 255) + 1))))] H locs := hw
        subst hr
        have hc : cLetter chz lm = (wlN chz 0 255) := by unfold cLetter; (repeat' split) <;> omega
        have hj : (wlN chz 0 255) ≠ 0 := by omega
        exact rt_i C hw () (by exact (anI_r hc hj _).symm) (by rw [rfU_r hc hj, selN_r hc hj, selF_r hc hj]) dX1_letter_34
    · skip
      have c_19 := nlt_c (tN (by omega)) (tN (by omega)) c_19
      refine lv_bipush (v := (-6)) xx xb dX1_letter_22 (by decide) ?_
      refine lv_istore_n (lv' := [(2, .int (-6)), (0, .ref h0), (1, .int ch)]) xx xb dX1_letter_24 rfl hl (by decide) rfl (fun ls hl => ?_)
      refine lv_iload_n xx xb dX1_letter_25 rfl (lv_at hl 0 rfl) ?_
      refine lv_if_eq (tgt := 35) xx xb dX1_letter_26 (by decide) (fun c_26 => ?_) (fun c_26 => ?_)
      · skip
        exact absurd c_26 (by decide)
      · skip
        refine lv_aload_n xx xb dX1_letter_29 rfl (lv_at hl 1 rfl) ?_
        refine lv_iload_n xx xb dX1_letter_30 rfl (lv_at hl 0 rfl) ?_
        have hM := kX1_refuse l G h0 so to uo x5 x6 x7 x8 im lm rm sd rf 6 (by first | assumption | omega)
        refine cv_i C hw hM yvX1_refuse ml_X1_43 0 rfl rfl rfl [0, 2] rfl rfl (fun _ => (rfl : ([h0, x7] : List Nat) = [h0, x7])) (by decide) ⟨Nat.zero_le _, Nat.zero_le _⟩ hl.1 rfl (Nat.le_of_ble_eq_true rfl) dX1_letter_31 (fun r _ H locs hr hw => ?_)
        have hw : Wd G (fA [(h0, .inr (1, [.ref so, .ref to, .ref uo, .int (nI im), .ref x5, .int (nI lm), .ref x6, .int (nI rm), .ref x7, .ref x8, .int sd])), (x5, aI G 96 (cN lf2)), (x7, aI G 7 (cN rf))]) s [(h0, .inr (1, [.ref so, .ref to, .ref uo, .int (nI im), .ref x5, .int (nI lm), .ref x6, .int (nI rm), .ref x7, .ref x8, .int sd])), (x5, aI G 96 (cN lf2)), (x7, aI G 7 (cN (upN rf 6 (rf 6 + 1))))] H locs := hw
        subst hr
        have hc : cLetter chz lm = 6 := by unfold cLetter; (repeat' split) <;> omega
        have hj : 6 ≠ 0 := by omega
        exact rt_i C hw () (by exact (anI_r hc hj _).symm) (by rw [rfU_r hc hj, selN_r hc hj, selF_r hc hj]) dX1_letter_34
