set_option maxRecDepth 100000 in
set_option maxHeartbeats 4000000 in
theorem kX2_thing (l : Launch) (G : GT) (h0 : Nat) (a1 : Nat) (a2 : Nat) (a3 : Nat) (a4 : Nat) (a5 : Nat) (a6 : Nat) (a7 : Nat) (a8 : Nat) (im : Nat) (lm : Nat) (rm : Nat) (pl : Nat) (sd : Int32) (R : RT) (rf : Nat → Nat) (x : Int32) (xz : Int) (ww : Int32) (wwz : Int) (h_x : x.toInt = xz) (h_ww : ww.toInt = wwz) (hR : OK R) : Ct l yX2_thing cX2_thing 3 (some .int) 3 64 [.ref h0, .int x, .int ww] G [(h0, .inr (2, [.ref a1, .ref a2, .ref a3, .ref a4, .int (nI im), .ref a5, .ref a6, .ref a7, .int (nI lm), .int (nI rm), .int (nI pl), .ref a8, .int sd])), (a1, aI G 54 (fl R)), (a7, aI G 7 (cN rf))] (QI G [(h0, .inr (2, [.ref a1, .ref a2, .ref a3, .ref a4, .int (nI im), .ref a5, .ref a6, .ref a7, .int (nI lm), .int (nI rm), .int (nI pl), .ref a8, .int sd])), (a1, aI G 54 (fl R)), (a7, aI G 7 (cN rf))] (fun (r : Int32) (u : Unit) => r = anI (cThing R xz wwz) (vThing R xz.toNat wwz)) (fun u => [(h0, .inr (2, [.ref a1, .ref a2, .ref a3, .ref a4, .int (nI im), .ref a5, .ref a6, .ref a7, .int (nI lm), .int (nI rm), .int (nI pl), .ref a8, .int sd])), (a1, aI G 54 (fl R)), (a7, aI G 7 (cN (rfU rf (cThing R xz wwz))))])) := by
  refine en (by decide +kernel) (Nat.le_of_ble_eq_true rfl) ?_
  intro p e s m below meth c ls H locs C hl hw
  have xx := C.1
  have xb := C.2.1
  have hw : Wd G (fA [(h0, .inr (2, [.ref a1, .ref a2, .ref a3, .ref a4, .int (nI im), .ref a5, .ref a6, .ref a7, .int (nI lm), .int (nI rm), .int (nI pl), .ref a8, .int sd])), (a1, aI G 54 (fl R)), (a7, aI G 7 (cN rf))]) s [(h0, .inr (2, [.ref a1, .ref a2, .ref a3, .ref a4, .int (nI im), .ref a5, .ref a6, .ref a7, .int (nI lm), .int (nI rm), .int (nI pl), .ref a8, .int sd])), (a1, aI G 54 (fl R)), (a7, aI G 7 (cN rf))] H locs := hw
  have hl : lv_has ls 3 [(0, .ref h0), (1, .int x), (2, .int ww)] := hl
  obtain ⟨hn, hf0, hpr, hA⟩ := id hR
  refine lv_aload_n xx xb dX2_thing_0 rfl (lv_at hl 0 rfl) ?_
  refine lv_iload_n xx xb dX2_thing_1 rfl (lv_at hl 1 rfl) ?_
  have hM := kX2_isThing l G h0 a1 a2 a3 a4 a5 a6 a7 a8 im lm rm pl sd R x xz h_x (by first | assumption | omega)
  refine cv_i C hw hM yvX2_isThing ml_X2_105 0 rfl rfl rfl [0, 1] rfl rfl (fun _ => (rfl : ([h0, a1] : List Nat) = [h0, a1])) (by decide) ⟨Nat.zero_le _, Nat.zero_le _⟩ hl.1 rfl (Nat.le_of_ble_eq_true rfl) dX2_thing_2 (fun r _ H locs hr hw => ?_)
  have hw : Wd G (fA [(h0, .inr (2, [.ref a1, .ref a2, .ref a3, .ref a4, .int (nI im), .ref a5, .ref a6, .ref a7, .int (nI lm), .int (nI rm), .int (nI pl), .ref a8, .int sd])), (a1, aI G 54 (fl R)), (a7, aI G 7 (cN rf))]) s [(h0, .inr (2, [.ref a1, .ref a2, .ref a3, .ref a4, .int (nI im), .ref a5, .ref a6, .ref a7, .int (nI lm), .int (nI rm), .int (nI pl), .ref a8, .int sd])), (a1, aI G 54 (fl R)), (a7, aI G 7 (cN rf))] H locs := hw
  subst hr
  refine lv_if_ne (tgt := 14) xx xb dX2_thing_5 (by decide) (fun c_5 => ?_) (fun c_5 => ?_)
  · skip
    have c_5 := b1_c c_5
    obtain ⟨q1, q2, q3, q4, q5⟩ := hA xz.toNat (by omega)
    refine lv_iload_n xx xb dX2_thing_14 rfl (lv_at hl 2 rfl) ?_
    refine lv_iconst (v := nI 0) xx xb dX2_thing_15 (by decide) ?_
    refine lv_iconst (v := nI 4) xx xb dX2_thing_16 (by decide) ?_
    have hM := kX2_isIn l G ww wwz (nI 0) 0 (nI 4) 4 h_ww (tN (by omega)) (tN (by omega))
    refine cs_i C hw hM ysX2_isIn ml_X2_40 rfl [] rfl rfl (fun _ => (rfl : ([] : List Nat) = [])) (by decide) ⟨Nat.zero_le _, Nat.zero_le _⟩ hl.1 rfl (Nat.le_of_ble_eq_true rfl) dX2_thing_17 (fun r _ H locs hr hw => ?_)
    have hw : Wd G (fA [(h0, .inr (2, [.ref a1, .ref a2, .ref a3, .ref a4, .int (nI im), .ref a5, .ref a6, .ref a7, .int (nI lm), .int (nI rm), .int (nI pl), .ref a8, .int sd])), (a1, aI G 54 (fl R)), (a7, aI G 7 (cN rf))]) s [(h0, .inr (2, [.ref a1, .ref a2, .ref a3, .ref a4, .int (nI im), .ref a5, .ref a6, .ref a7, .int (nI lm), .int (nI rm), .int (nI pl), .ref a8, .int sd])), (a1, aI G 54 (fl R)), (a7, aI G 7 (cN rf))] H locs := hw
    subst hr
    refine lv_if_eq (tgt := 34) xx xb dX2_thing_20 (by decide) (fun c_20 => ?_) (fun c_20 => ?_)
    · skip
      have c_20 := b0_c c_20
      refine lv_iload_n xx xb dX2_thing_34 rfl (lv_at hl 2 rfl) ?_
      by_cases k_35_5 : ww = nI 5
      · skip
        refine re_i (nI 5) k_35_5 ?_
        refine lv_tableIn (off := 25) (tgt := 60) xx xb dX2_thing_35 (by decide +kernel) (by decide +kernel) (by decide +kernel) (by decide) ?_
        have w5 : wwz = 5 := eq_c h_ww (tN (by decide)) k_35_5
        have hs1 := setF_lt hR 1
        have han := anN_le (setF R 1) (2 ^ xz.toNat)
        refine lv_aload_n xx xb dX2_thing_60 rfl (lv_at hl 0 rfl) ?_
        refine m_get C hw 0 rfl fk_X2_9 rfl dX2_thing_61 ?_
        refine lv_iload_n xx xb dX2_thing_64 rfl (lv_at hl 1 rfl) ?_
        refine re_i (nI xz.toNat) (ofT h_x (by omega) (by omega)) ?_
        refine lv_aload_n xx xb dX2_thing_65 rfl (lv_at hl 0 rfl) ?_
        refine m_get C hw 0 rfl fk_X2_9 rfl dX2_thing_66 ?_
        refine lv_iconst (v := nI 1) xx xb dX2_thing_69 (by decide) ?_
        have hM := kX2_setOf l G a1 R 1 (by first | assumption | omega) (by first | assumption | omega)
        refine cs_i C hw hM ysX2_setOf ml_X2_73 rfl [1] rfl rfl (fun _ => (rfl : ([a1] : List Nat) = [a1])) (by decide) ⟨Nat.zero_le _, Nat.zero_le _⟩ hl.1 rfl (Nat.le_of_ble_eq_true rfl) dX2_thing_70 (fun r _ H locs hr hw => ?_)
        have hw : Wd G (fA [(h0, .inr (2, [.ref a1, .ref a2, .ref a3, .ref a4, .int (nI im), .ref a5, .ref a6, .ref a7, .int (nI lm), .int (nI rm), .int (nI pl), .ref a8, .int sd])), (a1, aI G 54 (fl R)), (a7, aI G 7 (cN rf))]) s [(h0, .inr (2, [.ref a1, .ref a2, .ref a3, .ref a4, .int (nI im), .ref a5, .ref a6, .ref a7, .int (nI lm), .int (nI rm), .int (nI pl), .ref a8, .int sd])), (a1, aI G 54 (fl R)), (a7, aI G 7 (cN rf))] H locs := hw
        subst hr
        refine lv_iconst (v := nI 1) xx xb dX2_thing_73 (by decide) ?_
        refine lv_iload_n xx xb dX2_thing_74 rfl (lv_at hl 1 rfl) ?_
        refine re_i (nI xz.toNat) (ofT h_x (by omega) (by omega)) ?_
        refine lv_ishl xx xb dX2_thing_75 ?_
        refine re_i (nI (2 ^ xz.toNat)) (shl1 (by omega)) ?_
        refine lv_iconst (v := (-1)) xx xb dX2_thing_76 (by decide) ?_
        refine lv_ixor xx xb dX2_thing_77 ?_
        refine lv_iand xx xb dX2_thing_78 ?_
        refine re_i (nI (anN (setF R 1) (2 ^ xz.toNat))) (an_N _ _) ?_
        refine lv_if_eq (tgt := 86) xx xb dX2_thing_79 (by decide) (fun c_79 => ?_) (fun c_79 => ?_)
        · skip
          have c_79 := eq_c (tN (by omega)) Int32.toInt_zero c_79
          refine lv_iconst (v := nI 0) xx xb dX2_thing_86 (by decide) ?_
          refine re_i (if slX R xz.toNat = true then 1 else 0) (r0 (by unfold slX; rw [decide_eq_true_eq]; omega)) ?_
          have hM := kX2_habit l G a1 R xz.toNat (slX R xz.toNat) (by first | assumption | omega) (by first | assumption | omega)
          refine cs_i C hw hM ysX2_habit ml_X2_76 rfl [1] rfl rfl (fun _ => (rfl : ([a1] : List Nat) = [a1])) (by decide) ⟨Nat.zero_le _, Nat.zero_le _⟩ hl.1 rfl (Nat.le_of_ble_eq_true rfl) dX2_thing_87 (fun r _ H locs hr hw => ?_)
          have hw : Wd G (fA [(h0, .inr (2, [.ref a1, .ref a2, .ref a3, .ref a4, .int (nI im), .ref a5, .ref a6, .ref a7, .int (nI lm), .int (nI rm), .int (nI pl), .ref a8, .int sd])), (a1, aI G 54 (fl R)), (a7, aI G 7 (cN rf))]) s [(h0, .inr (2, [.ref a1, .ref a2, .ref a3, .ref a4, .int (nI im), .ref a5, .ref a6, .ref a7, .int (nI lm), .int (nI rm), .int (nI pl), .ref a8, .int sd])), (a1, aI G 54 (fl R)), (a7, aI G 7 (cN rf))] H locs := hw
          subst hr
          refine re_i (vThing R xz.toNat wwz) (by unfold vThing; rw [if_neg (by omega), if_neg (by omega), if_neg (by omega), if_neg (by omega), if_neg (by omega), if_pos (by omega)]) ?_
          have hc : cThing R xz wwz = 0 := by unfold cThing; (repeat' split) <;> omega
          exact rt_i C hw () (by exact (anI_0 hc _).symm) (by rw [rfU_0 hc]) dX2_thing_90
        · skip
          have c_79 := ne_c (tN (by omega)) Int32.toInt_zero c_79
          refine lv_iconst (v := nI 1) xx xb dX2_thing_82 (by decide) ?_
          refine lv_goto (tgt := 87) xx xb dX2_thing_83 (by decide) ?_
          refine re_i (if slX R xz.toNat = true then 1 else 0) (r1 (by unfold slX; rw [decide_eq_true_eq]; omega)) ?_
          have hM := kX2_habit l G a1 R xz.toNat (slX R xz.toNat) (by first | assumption | omega) (by first | assumption | omega)
          refine cs_i C hw hM ysX2_habit ml_X2_76 rfl [1] rfl rfl (fun _ => (rfl : ([a1] : List Nat) = [a1])) (by decide) ⟨Nat.zero_le _, Nat.zero_le _⟩ hl.1 rfl (Nat.le_of_ble_eq_true rfl) dX2_thing_87 (fun r _ H locs hr hw => ?_)
          have hw : Wd G (fA [(h0, .inr (2, [.ref a1, .ref a2, .ref a3, .ref a4, .int (nI im), .ref a5, .ref a6, .ref a7, .int (nI lm), .int (nI rm), .int (nI pl), .ref a8, .int sd])), (a1, aI G 54 (fl R)), (a7, aI G 7 (cN rf))]) s [(h0, .inr (2, [.ref a1, .ref a2, .ref a3, .ref a4, .int (nI im), .ref a5, .ref a6, .ref a7, .int (nI lm), .int (nI rm), .int (nI pl), .ref a8, .int sd])), (a1, aI G 54 (fl R)), (a7, aI G 7 (cN rf))] H locs := hw
          subst hr
          refine re_i (vThing R xz.toNat wwz) (by unfold vThing; rw [if_neg (by omega), if_neg (by omega), if_neg (by omega), if_neg (by omega), if_neg (by omega), if_pos (by omega)]) ?_
          have hc : cThing R xz wwz = 0 := by unfold cThing; (repeat' split) <;> omega
          exact rt_i C hw () (by exact (anI_0 hc _).symm) (by rw [rfU_0 hc]) dX2_thing_90
      have zk_35_5 := ne_c h_ww (tN (by decide)) k_35_5
      by_cases k_35_6 : ww = nI 6
      · skip
        refine re_i (nI 6) k_35_6 ?_
        refine lv_tableIn (off := 56) (tgt := 91) xx xb dX2_thing_35 (by decide +kernel) (by decide +kernel) (by decide +kernel) (by decide) ?_
        have w6 : wwz = 6 := eq_c h_ww (tN (by decide)) k_35_6
        refine lv_aload_n xx xb dX2_thing_91 rfl (lv_at hl 0 rfl) ?_
        refine m_get C hw 0 rfl fk_X2_9 rfl dX2_thing_92 ?_
        refine lv_iload_n xx xb dX2_thing_95 rfl (lv_at hl 1 rfl) ?_
        refine re_i (nI xz.toNat) (ofT h_x (by omega) (by omega)) ?_
        have hM := kX2_grip l G a1 R xz.toNat (by first | assumption | omega) (by first | assumption | omega)
        refine cs_i C hw hM ysX2_grip ml_X2_59 rfl [1] rfl rfl (fun _ => (rfl : ([a1] : List Nat) = [a1])) (by decide) ⟨Nat.zero_le _, Nat.zero_le _⟩ hl.1 rfl (Nat.le_of_ble_eq_true rfl) dX2_thing_96 (fun r _ H locs hr hw => ?_)
        have hw : Wd G (fA [(h0, .inr (2, [.ref a1, .ref a2, .ref a3, .ref a4, .int (nI im), .ref a5, .ref a6, .ref a7, .int (nI lm), .int (nI rm), .int (nI pl), .ref a8, .int sd])), (a1, aI G 54 (fl R)), (a7, aI G 7 (cN rf))]) s [(h0, .inr (2, [.ref a1, .ref a2, .ref a3, .ref a4, .int (nI im), .ref a5, .ref a6, .ref a7, .int (nI lm), .int (nI rm), .int (nI pl), .ref a8, .int sd])), (a1, aI G 54 (fl R)), (a7, aI G 7 (cN rf))] H locs := hw
        subst hr
        refine re_i (vThing R xz.toNat wwz) (by unfold vThing; rw [if_neg (by omega), if_neg (by omega), if_neg (by omega), if_neg (by omega), if_neg (by omega), if_neg (by omega), if_pos (by omega)]) ?_
        have hc : cThing R xz wwz = 0 := by unfold cThing; (repeat' split) <;> omega
        exact rt_i C hw () (by exact (anI_0 hc _).symm) (by rw [rfU_0 hc]) dX2_thing_99
      have zk_35_6 := ne_c h_ww (tN (by decide)) k_35_6
      by_cases k_35_7 : ww = nI 7
      · skip
        refine re_i (nI 7) k_35_7 ?_
        refine lv_tableIn (off := 65) (tgt := 100) xx xb dX2_thing_35 (by decide +kernel) (by decide +kernel) (by decide +kernel) (by decide) ?_
        have w7 : wwz = 7 := eq_c h_ww (tN (by decide)) k_35_7
        refine lv_aload_n xx xb dX2_thing_100 rfl (lv_at hl 0 rfl) ?_
        refine m_get C hw 0 rfl fk_X2_9 rfl dX2_thing_101 ?_
        refine lv_iload_n xx xb dX2_thing_104 rfl (lv_at hl 1 rfl) ?_
        refine re_i (nI xz.toNat) (ofT h_x (by omega) (by omega)) ?_
        have hM := kX2_stands l G a1 R xz.toNat (by first | assumption | omega) (by first | assumption | omega)
        refine cs_i C hw hM ysX2_stands ml_X2_55 rfl [1] rfl rfl (fun _ => (rfl : ([a1] : List Nat) = [a1])) (by decide) ⟨Nat.zero_le _, Nat.zero_le _⟩ hl.1 rfl (Nat.le_of_ble_eq_true rfl) dX2_thing_105 (fun r _ H locs hr hw => ?_)
        have hw : Wd G (fA [(h0, .inr (2, [.ref a1, .ref a2, .ref a3, .ref a4, .int (nI im), .ref a5, .ref a6, .ref a7, .int (nI lm), .int (nI rm), .int (nI pl), .ref a8, .int sd])), (a1, aI G 54 (fl R)), (a7, aI G 7 (cN rf))]) s [(h0, .inr (2, [.ref a1, .ref a2, .ref a3, .ref a4, .int (nI im), .ref a5, .ref a6, .ref a7, .int (nI lm), .int (nI rm), .int (nI pl), .ref a8, .int sd])), (a1, aI G 54 (fl R)), (a7, aI G 7 (cN rf))] H locs := hw
        subst hr
        refine lv_if_eq (tgt := 126) xx xb dX2_thing_108 (by decide) (fun c_108 => ?_) (fun c_108 => ?_)
        · skip
          have c_108 := b0_c c_108
          refine lv_iconst (v := nI 0) xx xb dX2_thing_126 (by decide) ?_
          refine re_i (vThing R xz.toNat wwz) (by rw [vThing_7 (by omega)]; first | exact r1 ⟨c_108, c_119⟩ | exact r0 (fun q => c_108 q.1) | exact r0 (fun q => c_119 q.2)) ?_
          have hc : cThing R xz wwz = 0 := by unfold cThing; (repeat' split) <;> omega
          exact rt_i C hw () (by exact (anI_0 hc _).symm) (by rw [rfU_0 hc]) dX2_thing_127
        · skip
          have c_108 := b1_c c_108
          refine lv_aload_n xx xb dX2_thing_111 rfl (lv_at hl 0 rfl) ?_
          refine m_get C hw 0 rfl fk_X2_9 rfl dX2_thing_112 ?_
          refine lv_iload_n xx xb dX2_thing_115 rfl (lv_at hl 1 rfl) ?_
          refine re_i (nI xz.toNat) (ofT h_x (by omega) (by omega)) ?_
          have hM := kX2_isHeld l G a1 R xz.toNat (by first | assumption | omega) (by first | assumption | omega)
          refine cs_i C hw hM ysX2_isHeld ml_X2_70 rfl [1] rfl rfl (fun _ => (rfl : ([a1] : List Nat) = [a1])) (by decide) ⟨Nat.zero_le _, Nat.zero_le _⟩ hl.1 rfl (Nat.le_of_ble_eq_true rfl) dX2_thing_116 (fun r _ H locs hr hw => ?_)
          have hw : Wd G (fA [(h0, .inr (2, [.ref a1, .ref a2, .ref a3, .ref a4, .int (nI im), .ref a5, .ref a6, .ref a7, .int (nI lm), .int (nI rm), .int (nI pl), .ref a8, .int sd])), (a1, aI G 54 (fl R)), (a7, aI G 7 (cN rf))]) s [(h0, .inr (2, [.ref a1, .ref a2, .ref a3, .ref a4, .int (nI im), .ref a5, .ref a6, .ref a7, .int (nI lm), .int (nI rm), .int (nI pl), .ref a8, .int sd])), (a1, aI G 54 (fl R)), (a7, aI G 7 (cN rf))] H locs := hw
          subst hr
          refine lv_if_eq (tgt := 126) xx xb dX2_thing_119 (by decide) (fun c_119 => ?_) (fun c_119 => ?_)
          · skip
            have c_119 := b0_c c_119
            refine lv_iconst (v := nI 0) xx xb dX2_thing_126 (by decide) ?_
            refine re_i (vThing R xz.toNat wwz) (by rw [vThing_7 (by omega)]; first | exact r1 ⟨c_108, c_119⟩ | exact r0 (fun q => c_108 q.1) | exact r0 (fun q => c_119 q.2)) ?_
            have hc : cThing R xz wwz = 0 := by unfold cThing; (repeat' split) <;> omega
            exact rt_i C hw () (by exact (anI_0 hc _).symm) (by rw [rfU_0 hc]) dX2_thing_127
          · skip
            have c_119 := b1_c c_119
            refine lv_iconst (v := nI 1) xx xb dX2_thing_122 (by decide) ?_
            refine lv_goto (tgt := 127) xx xb dX2_thing_123 (by decide) ?_
            refine re_i (vThing R xz.toNat wwz) (by rw [vThing_7 (by omega)]; first | exact r1 ⟨c_108, c_119⟩ | exact r0 (fun q => c_108 q.1) | exact r0 (fun q => c_119 q.2)) ?_
            have hc : cThing R xz wwz = 0 := by unfold cThing; (repeat' split) <;> omega
            exact rt_i C hw () (by exact (anI_0 hc _).symm) (by rw [rfU_0 hc]) dX2_thing_127
      have zk_35_7 := ne_c h_ww (tN (by decide)) k_35_7
      · skip
        refine lv_tableOut (tgt := 128) xx xb dX2_thing_35 (by rw [show _ = _ from h_ww]; omega) (by decide) ?_
        refine lv_aload_n xx xb dX2_thing_128 rfl (lv_at hl 0 rfl) ?_
        refine lv_bipush (v := (-2)) xx xb dX2_thing_129 (by decide) ?_
        have hM := kX2_no l G h0 a1 a2 a3 a4 a5 a6 a7 a8 im lm rm pl sd rf 2 (by first | assumption | omega)
        refine cv_i C hw hM yvX2_no ml_X2_36 0 rfl rfl rfl [0, 2] rfl rfl (fun _ => (rfl : ([h0, a7] : List Nat) = [h0, a7])) (by decide) ⟨Nat.zero_le _, Nat.zero_le _⟩ hl.1 rfl (Nat.le_of_ble_eq_true rfl) dX2_thing_131 (fun r _ H locs hr hw => ?_)
        have hw : Wd G (fA [(h0, .inr (2, [.ref a1, .ref a2, .ref a3, .ref a4, .int (nI im), .ref a5, .ref a6, .ref a7, .int (nI lm), .int (nI rm), .int (nI pl), .ref a8, .int sd])), (a1, aI G 54 (fl R)), (a7, aI G 7 (cN rf))]) s [(h0, .inr (2, [.ref a1, .ref a2, .ref a3, .ref a4, .int (nI im), .ref a5, .ref a6, .ref a7, .int (nI lm), .int (nI rm), .int (nI pl), .ref a8, .int sd])), (a1, aI G 54 (fl R)), (a7, aI G 7 (cN (upN rf 2 (rf 2 + 1))))] H locs := hw
        subst hr
        have hc : cThing R xz wwz = 2 := by unfold cThing; (repeat' split) <;> omega
        have hj : 2 ≠ 0 := by omega
        exact rt_i C hw () (by exact (anI_r hc hj _).symm) (by rw [rfU_r hc hj]) dX2_thing_134
    · skip
      have c_20 := b1_c c_20
      refine lv_aload_n xx xb dX2_thing_23 rfl (lv_at hl 0 rfl) ?_
      refine m_get C hw 0 rfl fk_X2_9 rfl dX2_thing_24 ?_
      refine lv_iload_n xx xb dX2_thing_27 rfl (lv_at hl 1 rfl) ?_
      refine re_i (nI xz.toNat) (ofT h_x (by omega) (by omega)) ?_
      refine lv_iload_n xx xb dX2_thing_28 rfl (lv_at hl 2 rfl) ?_
      refine re_i (nI wwz.toNat) (ofT h_ww (by omega) (by omega)) ?_
      have hM := kX2_of l G xz.toNat wwz.toNat 
      refine cs_i C hw hM ysX2_of ml_X2_44 rfl [] rfl rfl (fun _ => (rfl : ([] : List Nat) = [])) (by decide) ⟨Nat.zero_le _, Nat.zero_le _⟩ hl.1 rfl (Nat.le_of_ble_eq_true rfl) dX2_thing_29 (fun r _ H locs hr hw => ?_)
      have hw : Wd G (fA [(h0, .inr (2, [.ref a1, .ref a2, .ref a3, .ref a4, .int (nI im), .ref a5, .ref a6, .ref a7, .int (nI lm), .int (nI rm), .int (nI pl), .ref a8, .int sd])), (a1, aI G 54 (fl R)), (a7, aI G 7 (cN rf))]) s [(h0, .inr (2, [.ref a1, .ref a2, .ref a3, .ref a4, .int (nI im), .ref a5, .ref a6, .ref a7, .int (nI lm), .int (nI rm), .int (nI pl), .ref a8, .int sd])), (a1, aI G 54 (fl R)), (a7, aI G 7 (cN rf))] H locs := hw
      subst hr
      refine m_ald C hw 1 rfl (4 + 5 * xz.toNat + wwz.toNat) rfl (by omega) (by decide) dX2_thing_32 ?_
      refine re_i (vThing R xz.toNat wwz) (thing_fl (by omega)) ?_
      have hc : cThing R xz wwz = 0 := by unfold cThing; (repeat' split) <;> omega
      exact rt_i C hw () (by exact (anI_0 hc _).symm) (by rw [rfU_0 hc]) dX2_thing_33
  · skip
    have c_5 := b0_c c_5
    refine lv_aload_n xx xb dX2_thing_8 rfl (lv_at hl 0 rfl) ?_
    refine lv_iconst (v := (-1)) xx xb dX2_thing_9 (by decide) ?_
    have hM := kX2_no l G h0 a1 a2 a3 a4 a5 a6 a7 a8 im lm rm pl sd rf 1 (by first | assumption | omega)
    refine cv_i C hw hM yvX2_no ml_X2_36 0 rfl rfl rfl [0, 2] rfl rfl (fun _ => (rfl : ([h0, a7] : List Nat) = [h0, a7])) (by decide) ⟨Nat.zero_le _, Nat.zero_le _⟩ hl.1 rfl (Nat.le_of_ble_eq_true rfl) dX2_thing_10 (fun r _ H locs hr hw => ?_)
    have hw : Wd G (fA [(h0, .inr (2, [.ref a1, .ref a2, .ref a3, .ref a4, .int (nI im), .ref a5, .ref a6, .ref a7, .int (nI lm), .int (nI rm), .int (nI pl), .ref a8, .int sd])), (a1, aI G 54 (fl R)), (a7, aI G 7 (cN rf))]) s [(h0, .inr (2, [.ref a1, .ref a2, .ref a3, .ref a4, .int (nI im), .ref a5, .ref a6, .ref a7, .int (nI lm), .int (nI rm), .int (nI pl), .ref a8, .int sd])), (a1, aI G 54 (fl R)), (a7, aI G 7 (cN (upN rf 1 (rf 1 + 1))))] H locs := hw
    subst hr
    have hc : cThing R xz wwz = 1 := by unfold cThing; (repeat' split) <;> omega
    have hj : 1 ≠ 0 := by omega
    exact rt_i C hw () (by exact (anI_r hc hj _).symm) (by rw [rfU_r hc hj]) dX2_thing_13
