set_option maxRecDepth 100000 in
set_option maxHeartbeats 4000000 in
theorem kX1_tower (l : Launch) (G : GT) (h0 : Nat) (so : Nat) (to : Nat) (uo : Nat) (x5 : Nat) (x6 : Nat) (x7 : Nat) (x8 : Nat) (im : Nat) (lm : Nat) (rm : Nat) (sd : Int32) (rf : Nat → Nat) (ak : Nat) (af : Nat) (ab : Nat) (aa : Nat) (R : RT) (x : Int32) (xz : Int) (ww : Int32) (wwz : Int) (h_x : x.toInt = xz) (h_ww : ww.toInt = wwz) (hR : OK R) : Ct l yX1_tower cX1_tower 4 (some .int) 2 46 [.ref h0, .int x, .int ww] G [(h0, .inr (1, [.ref so, .ref to, .ref uo, .int (nI im), .ref x5, .int (nI lm), .ref x6, .int (nI rm), .ref x7, .ref x8, .int sd])), (so, .inr (0, [.int (nI (sN R)), .int (nI (R 0 1)), .int (nI (sF R)), .int (nI (sS R)), .int (nI (sL R)), .ref ak, .ref af, .ref ab, .ref aa])), (ak, aI G 10 (sK R)), (af, aI G 10 (sG R)), (ab, aI G 10 (sO R)), (aa, aI G 10 (sA R)), (x7, aI G 7 (cN rf))] (QI G [(h0, .inr (1, [.ref so, .ref to, .ref uo, .int (nI im), .ref x5, .int (nI lm), .ref x6, .int (nI rm), .ref x7, .ref x8, .int sd])), (so, .inr (0, [.int (nI (sN R)), .int (nI (R 0 1)), .int (nI (sF R)), .int (nI (sS R)), .int (nI (sL R)), .ref ak, .ref af, .ref ab, .ref aa])), (ak, aI G 10 (sK R)), (af, aI G 10 (sG R)), (ab, aI G 10 (sO R)), (aa, aI G 10 (sA R)), (x7, aI G 7 (cN rf))] (fun (r : Int32) (u : Unit) => r = anI (cTow R xz wwz) (vTow R xz.toNat wwz)) (fun u => [(h0, .inr (1, [.ref so, .ref to, .ref uo, .int (nI im), .ref x5, .int (nI lm), .ref x6, .int (nI rm), .ref x7, .ref x8, .int sd])), (so, .inr (0, [.int (nI (sN R)), .int (nI (R 0 1)), .int (nI (sF R)), .int (nI (sS R)), .int (nI (sL R)), .ref ak, .ref af, .ref ab, .ref aa])), (ak, aI G 10 (sK R)), (af, aI G 10 (sG R)), (ab, aI G 10 (sO R)), (aa, aI G 10 (sA R)), (x7, aI G 7 (cN (rfU rf (cTow R xz wwz))))])) := by
  refine en (by decide +kernel) (Nat.le_of_ble_eq_true rfl) ?_
  intro p e s m below meth c ls H locs C hl hw
  have xx := C.1
  have xb := C.2.1
  have hw : Wd G (fA [(h0, .inr (1, [.ref so, .ref to, .ref uo, .int (nI im), .ref x5, .int (nI lm), .ref x6, .int (nI rm), .ref x7, .ref x8, .int sd])), (so, .inr (0, [.int (nI (sN R)), .int (nI (R 0 1)), .int (nI (sF R)), .int (nI (sS R)), .int (nI (sL R)), .ref ak, .ref af, .ref ab, .ref aa])), (ak, aI G 10 (sK R)), (af, aI G 10 (sG R)), (ab, aI G 10 (sO R)), (aa, aI G 10 (sA R)), (x7, aI G 7 (cN rf))]) s [(h0, .inr (1, [.ref so, .ref to, .ref uo, .int (nI im), .ref x5, .int (nI lm), .ref x6, .int (nI rm), .ref x7, .ref x8, .int sd])), (so, .inr (0, [.int (nI (sN R)), .int (nI (R 0 1)), .int (nI (sF R)), .int (nI (sS R)), .int (nI (sL R)), .ref ak, .ref af, .ref ab, .ref aa])), (ak, aI G 10 (sK R)), (af, aI G 10 (sG R)), (ab, aI G 10 (sO R)), (aa, aI G 10 (sA R)), (x7, aI G 7 (cN rf))] H locs := hw
  have hl : lv_has ls 4 [(0, .ref h0), (1, .int x), (2, .int ww)] := hl
  obtain ⟨hn, hf0, hpr, hA⟩ := id hR
  have hc6 := cTow_le R xz wwz
  refine lv_aload_n xx xb dX1_tower_0 rfl (lv_at hl 0 rfl) ?_
  refine lv_iload_n xx xb dX1_tower_1 rfl (lv_at hl 1 rfl) ?_
  refine lv_iload_n xx xb dX1_tower_2 rfl (lv_at hl 2 rfl) ?_
  refine lv_iconst (v := nI 2) xx xb dX1_tower_3 (by decide) ?_
  have hM := kX1_otherThan l G ww wwz (nI 2) 2 h_ww (tN (by omega))
  refine cs_i C hw hM ysX1_otherThan ml_X1_51 rfl [] rfl rfl (fun _ => (rfl : ([] : List Nat) = [])) (by decide) ⟨Nat.zero_le _, Nat.zero_le _⟩ hl.1 rfl (Nat.le_of_ble_eq_true rfl) dX1_tower_4 (fun r _ H locs hr hw => ?_)
  have hw : Wd G (fA [(h0, .inr (1, [.ref so, .ref to, .ref uo, .int (nI im), .ref x5, .int (nI lm), .ref x6, .int (nI rm), .ref x7, .ref x8, .int sd])), (so, .inr (0, [.int (nI (sN R)), .int (nI (R 0 1)), .int (nI (sF R)), .int (nI (sS R)), .int (nI (sL R)), .ref ak, .ref af, .ref ab, .ref aa])), (ak, aI G 10 (sK R)), (af, aI G 10 (sG R)), (ab, aI G 10 (sO R)), (aa, aI G 10 (sA R)), (x7, aI G 7 (cN rf))]) s [(h0, .inr (1, [.ref so, .ref to, .ref uo, .int (nI im), .ref x5, .int (nI lm), .ref x6, .int (nI rm), .ref x7, .ref x8, .int sd])), (so, .inr (0, [.int (nI (sN R)), .int (nI (R 0 1)), .int (nI (sF R)), .int (nI (sS R)), .int (nI (sL R)), .ref ak, .ref af, .ref ab, .ref aa])), (ak, aI G 10 (sK R)), (af, aI G 10 (sG R)), (ab, aI G 10 (sO R)), (aa, aI G 10 (sA R)), (x7, aI G 7 (cN rf))] H locs := hw
  subst hr
  have hM := kX1_refusalOfThing l G h0 so to uo x5 x6 x7 x8 im lm rm sd ak af ab aa (R 0 1) R (otN wwz 2) x xz h_x (by first | assumption | omega)
  refine cv_i C hw hM yvX1_refusalOfThing ml_X1_55 0 rfl rfl rfl [0, 1, 2, 3, 4, 5] rfl rfl (fun _ => (rfl : ([h0, so, ak, af, ab, aa] : List Nat) = [h0, so, ak, af, ab, aa])) (by decide) ⟨Nat.zero_le _, Nat.zero_le _⟩ hl.1 rfl (Nat.le_of_ble_eq_true rfl) dX1_tower_7 (fun r _ H locs hr hw => ?_)
  have hw : Wd G (fA [(h0, .inr (1, [.ref so, .ref to, .ref uo, .int (nI im), .ref x5, .int (nI lm), .ref x6, .int (nI rm), .ref x7, .ref x8, .int sd])), (so, .inr (0, [.int (nI (sN R)), .int (nI (R 0 1)), .int (nI (sF R)), .int (nI (sS R)), .int (nI (sL R)), .ref ak, .ref af, .ref ab, .ref aa])), (ak, aI G 10 (sK R)), (af, aI G 10 (sG R)), (ab, aI G 10 (sO R)), (aa, aI G 10 (sA R)), (x7, aI G 7 (cN rf))]) s [(h0, .inr (1, [.ref so, .ref to, .ref uo, .int (nI im), .ref x5, .int (nI lm), .ref x6, .int (nI rm), .ref x7, .ref x8, .int sd])), (so, .inr (0, [.int (nI (sN R)), .int (nI (R 0 1)), .int (nI (sF R)), .int (nI (sS R)), .int (nI (sL R)), .ref ak, .ref af, .ref ab, .ref aa])), (ak, aI G 10 (sK R)), (af, aI G 10 (sG R)), (ab, aI G 10 (sO R)), (aa, aI G 10 (sA R)), (x7, aI G 7 (cN rf))] H locs := hw
  subst hr
  refine re_i (nG (cTow R xz wwz)) (congrArg nG rfl) ?_
  refine lv_istore_n (lv' := [(3, .int (nG (cTow R xz wwz))), (0, .ref h0), (1, .int x), (2, .int ww)]) xx xb dX1_tower_10 rfl hl (by decide) rfl (fun ls hl => ?_)
  refine lv_iload_n xx xb dX1_tower_11 rfl (lv_at hl 0 rfl) ?_
  refine lv_if_eq (tgt := 21) xx xb dX1_tower_12 (by decide) (fun c_12 => ?_) (fun c_12 => ?_)
  · skip
    have c_12 := g0_c (by omega) c_12
    obtain ⟨g1, g2⟩ := cTow_0 c_12
    refine lv_iload_n xx xb dX1_tower_21 rfl (lv_at hl 3 rfl) ?_
    by_cases k_22_0 : ww = nI 0
    · skip
      refine re_i (nI 0) k_22_0 ?_
      refine lv_lookup (off := 26) (tgt := 48) xx xb dX1_tower_22 (by decide +kernel) (by decide +kernel) (by decide) ?_
      have w0 : wwz = 0 := by rw [← h_ww, k_22_0]; rfl
      refine lv_aload_n xx xb dX1_tower_48 rfl (lv_at hl 1 rfl) ?_
      refine m_get C hw 0 rfl fk_X1_10 rfl dX1_tower_49 ?_
      refine lv_iload_n xx xb dX1_tower_52 rfl (lv_at hl 2 rfl) ?_
      refine re_i (nI xz.toNat) (ofT h_x (by omega) (by omega)) ?_
      have hM := kX0_heightOf l G so ak af ab aa (R 0 1) R xz.toNat (by first | assumption | omega) (by first | assumption | omega)
      refine cv_i C hw hM yvX0_heightOf ml_X1_141 1 rfl rfl rfl [1, 2, 3, 4, 5] rfl rfl (fun _ => (rfl : ([so, ak, af, ab, aa] : List Nat) = [so, ak, af, ab, aa])) (by decide) ⟨Nat.zero_le _, Nat.zero_le _⟩ hl.1 rfl (Nat.le_of_ble_eq_true rfl) dX1_tower_53 (fun r _ H locs hr hw => ?_)
      have hw : Wd G (fA [(h0, .inr (1, [.ref so, .ref to, .ref uo, .int (nI im), .ref x5, .int (nI lm), .ref x6, .int (nI rm), .ref x7, .ref x8, .int sd])), (so, .inr (0, [.int (nI (sN R)), .int (nI (R 0 1)), .int (nI (sF R)), .int (nI (sS R)), .int (nI (sL R)), .ref ak, .ref af, .ref ab, .ref aa])), (ak, aI G 10 (sK R)), (af, aI G 10 (sG R)), (ab, aI G 10 (sO R)), (aa, aI G 10 (sA R)), (x7, aI G 7 (cN rf))]) s [(h0, .inr (1, [.ref so, .ref to, .ref uo, .int (nI im), .ref x5, .int (nI lm), .ref x6, .int (nI rm), .ref x7, .ref x8, .int sd])), (so, .inr (0, [.int (nI (sN R)), .int (nI (R 0 1)), .int (nI (sF R)), .int (nI (sS R)), .int (nI (sL R)), .ref ak, .ref af, .ref ab, .ref aa])), (ak, aI G 10 (sK R)), (af, aI G 10 (sG R)), (ab, aI G 10 (sO R)), (aa, aI G 10 (sA R)), (x7, aI G 7 (cN rf))] H locs := hw
      subst hr
      refine re_i (vTow R xz.toNat wwz) (by unfold vTow; rw [if_pos w0]) ?_
      have hc : cTow R xz wwz = 0 := by first | assumption | rfl
      exact rt_i C hw () (by exact (anI_0 hc _).symm) (by rw [rfU_0 hc]) dX1_tower_56
    have zk_22_0 := ne_c h_ww (tN (by decide)) k_22_0
    by_cases k_22_1 : ww = nI 1
    · skip
      refine re_i (nI 1) k_22_1 ?_
      refine lv_lookup (off := 35) (tgt := 57) xx xb dX1_tower_22 (by decide +kernel) (by decide +kernel) (by decide) ?_
      have w1 : wwz = 1 := by rw [← h_ww, k_22_1]; rfl
      refine lv_aload_n xx xb dX1_tower_57 rfl (lv_at hl 1 rfl) ?_
      refine m_get C hw 0 rfl fk_X1_10 rfl dX1_tower_58 ?_
      refine lv_iload_n xx xb dX1_tower_61 rfl (lv_at hl 2 rfl) ?_
      refine re_i (nI xz.toNat) (ofT h_x (by omega) (by omega)) ?_
      have hM := kX0_allAbove l G so ak af ab aa (R 0 1) R xz.toNat (by first | assumption | omega) (by first | assumption | omega)
      refine cv_i C hw hM yvX0_allAbove ml_X1_144 1 rfl rfl rfl [1, 2, 3, 4, 5] rfl rfl (fun _ => (rfl : ([so, ak, af, ab, aa] : List Nat) = [so, ak, af, ab, aa])) (by decide) ⟨Nat.zero_le _, Nat.zero_le _⟩ hl.1 rfl (Nat.le_of_ble_eq_true rfl) dX1_tower_62 (fun r _ H locs hr hw => ?_)
      have hw : Wd G (fA [(h0, .inr (1, [.ref so, .ref to, .ref uo, .int (nI im), .ref x5, .int (nI lm), .ref x6, .int (nI rm), .ref x7, .ref x8, .int sd])), (so, .inr (0, [.int (nI (sN R)), .int (nI (R 0 1)), .int (nI (sF R)), .int (nI (sS R)), .int (nI (sL R)), .ref ak, .ref af, .ref ab, .ref aa])), (ak, aI G 10 (sK R)), (af, aI G 10 (sG R)), (ab, aI G 10 (sO R)), (aa, aI G 10 (sA R)), (x7, aI G 7 (cN rf))]) s [(h0, .inr (1, [.ref so, .ref to, .ref uo, .int (nI im), .ref x5, .int (nI lm), .ref x6, .int (nI rm), .ref x7, .ref x8, .int sd])), (so, .inr (0, [.int (nI (sN R)), .int (nI (R 0 1)), .int (nI (sF R)), .int (nI (sS R)), .int (nI (sL R)), .ref ak, .ref af, .ref ab, .ref aa])), (ak, aI G 10 (sK R)), (af, aI G 10 (sG R)), (ab, aI G 10 (sO R)), (aa, aI G 10 (sA R)), (x7, aI G 7 (cN rf))] H locs := hw
      subst hr
      refine re_i (vTow R xz.toNat wwz) (by unfold vTow; rw [if_neg (by omega), if_pos w1]) ?_
      have hc : cTow R xz wwz = 0 := by first | assumption | rfl
      exact rt_i C hw () (by exact (anI_0 hc _).symm) (by rw [rfU_0 hc]) dX1_tower_65
    have zk_22_1 := ne_c h_ww (tN (by decide)) k_22_1
    · skip
      refine lv_lookup (off := 44) (tgt := 66) xx xb dX1_tower_22 (by decide +kernel) (by show Op.lookupswitch.offset [(0, 26), (1, 35)] 44 (ww).toInt = 44; rw [lv_osw (k := nI 0) k_22_0 (by decide +kernel), lv_osw (k := nI 1) k_22_1 (by decide +kernel)]; rfl) (by decide) ?_
      refine lv_aload_n xx xb dX1_tower_66 rfl (lv_at hl 1 rfl) ?_
      refine m_get C hw 0 rfl fk_X1_10 rfl dX1_tower_67 ?_
      refine lv_iload_n xx xb dX1_tower_70 rfl (lv_at hl 2 rfl) ?_
      refine re_i (nI xz.toNat) (ofT h_x (by omega) (by omega)) ?_
      have hM := kX0_bottomOf l G so ak af ab aa (R 0 1) R xz.toNat (by first | assumption | omega) (by first | assumption | omega)
      refine cv_i C hw hM yvX0_bottomOf ml_X1_147 1 rfl rfl rfl [1, 2, 3, 4, 5] rfl rfl (fun _ => (rfl : ([so, ak, af, ab, aa] : List Nat) = [so, ak, af, ab, aa])) (by decide) ⟨Nat.zero_le _, Nat.zero_le _⟩ hl.1 rfl (Nat.le_of_ble_eq_true rfl) dX1_tower_71 (fun r _ H locs hr hw => ?_)
      have hw : Wd G (fA [(h0, .inr (1, [.ref so, .ref to, .ref uo, .int (nI im), .ref x5, .int (nI lm), .ref x6, .int (nI rm), .ref x7, .ref x8, .int sd])), (so, .inr (0, [.int (nI (sN R)), .int (nI (R 0 1)), .int (nI (sF R)), .int (nI (sS R)), .int (nI (sL R)), .ref ak, .ref af, .ref ab, .ref aa])), (ak, aI G 10 (sK R)), (af, aI G 10 (sG R)), (ab, aI G 10 (sO R)), (aa, aI G 10 (sA R)), (x7, aI G 7 (cN rf))]) s [(h0, .inr (1, [.ref so, .ref to, .ref uo, .int (nI im), .ref x5, .int (nI lm), .ref x6, .int (nI rm), .ref x7, .ref x8, .int sd])), (so, .inr (0, [.int (nI (sN R)), .int (nI (R 0 1)), .int (nI (sF R)), .int (nI (sS R)), .int (nI (sL R)), .ref ak, .ref af, .ref ab, .ref aa])), (ak, aI G 10 (sK R)), (af, aI G 10 (sG R)), (ab, aI G 10 (sO R)), (aa, aI G 10 (sA R)), (x7, aI G 7 (cN rf))] H locs := hw
      subst hr
      refine re_i (vTow R xz.toNat wwz) (by unfold vTow; rw [if_neg (by omega), if_neg (by omega)]) ?_
      have hc : cTow R xz wwz = 0 := by first | assumption | rfl
      exact rt_i C hw () (by exact (anI_0 hc _).symm) (by rw [rfU_0 hc]) dX1_tower_74
  · skip
    have c_12 := g0_n c_12
    refine lv_aload_n xx xb dX1_tower_15 rfl (lv_at hl 1 rfl) ?_
    refine lv_iload_n xx xb dX1_tower_16 rfl (lv_at hl 0 rfl) ?_
    have hM := kX1_refuse l G h0 so to uo x5 x6 x7 x8 im lm rm sd rf (cTow R xz wwz) (by first | assumption | omega)
    refine cv_i C hw hM yvX1_refuse ml_X1_43 0 rfl rfl rfl [0, 6] rfl rfl (fun _ => (rfl : ([h0, x7] : List Nat) = [h0, x7])) (by decide) ⟨Nat.zero_le _, Nat.zero_le _⟩ hl.1 rfl (Nat.le_of_ble_eq_true rfl) dX1_tower_17 (fun r _ H locs hr hw => ?_)
    have hw : Wd G (fA [(h0, .inr (1, [.ref so, .ref to, .ref uo, .int (nI im), .ref x5, .int (nI lm), .ref x6, .int (nI rm), .ref x7, .ref x8, .int sd])), (so, .inr (0, [.int (nI (sN R)), .int (nI (R 0 1)), .int (nI (sF R)), .int (nI (sS R)), .int (nI (sL R)), .ref ak, .ref af, .ref ab, .ref aa])), (ak, aI G 10 (sK R)), (af, aI G 10 (sG R)), (ab, aI G 10 (sO R)), (aa, aI G 10 (sA R)), (x7, aI G 7 (cN rf))]) s [(h0, .inr (1, [.ref so, .ref to, .ref uo, .int (nI im), .ref x5, .int (nI lm), .ref x6, .int (nI rm), .ref x7, .ref x8, .int sd])), (so, .inr (0, [.int (nI (sN R)), .int (nI (R 0 1)), .int (nI (sF R)), .int (nI (sS R)), .int (nI (sL R)), .ref ak, .ref af, .ref ab, .ref aa])), (ak, aI G 10 (sK R)), (af, aI G 10 (sG R)), (ab, aI G 10 (sO R)), (aa, aI G 10 (sA R)), (x7, aI G 7 (cN (upN rf (cTow R xz wwz) (rf (cTow R xz wwz) + 1))))] H locs := hw
    subst hr
    have hc : cTow R xz wwz = (cTow R xz wwz) := by first | assumption | rfl
    have hj : (cTow R xz wwz) ≠ 0 := by omega
    exact rt_i C hw () (by exact (anI_r hc hj _).symm) (by rw [rfU_r hc hj]) dX1_tower_20
set_option maxRecDepth 100000 in
set_option maxHeartbeats 4000000 in
theorem kX1_leastSpeed (l : Launch) (G : GT) (h0 : Nat) (so : Nat) (to : Nat) (uo : Nat) (x5 : Nat) (x6 : Nat) (x7 : Nat) (x8 : Nat) (im : Nat) (lm : Nat) (rm : Nat) (sd : Int32) (rf : Nat → Nat) (ak : Nat) (af : Nat) (ab : Nat) (aa : Nat) (R : RT) (x : Int32) (xz : Int) (h_x : x.toInt = xz) (hR : OK R) : Ct l yX1_leastSpeed cX1_leastSpeed 4 (some .int) 3 65 [.ref h0, .int x] G [(h0, .inr (1, [.ref so, .ref to, .ref uo, .int (nI im), .ref x5, .int (nI lm), .ref x6, .int (nI rm), .ref x7, .ref x8, .int sd])), (so, .inr (0, [.int (nI (sN R)), .int (nI (R 0 1)), .int (nI (sF R)), .int (nI (sS R)), .int (nI (sL R)), .ref ak, .ref af, .ref ab, .ref aa])), (ak, aI G 10 (sK R)), (af, aI G 10 (sG R)), (ab, aI G 10 (sO R)), (aa, aI G 10 (sA R)), (x7, aI G 7 (cN rf))] (QI G [(h0, .inr (1, [.ref so, .ref to, .ref uo, .int (nI im), .ref x5, .int (nI lm), .ref x6, .int (nI rm), .ref x7, .ref x8, .int sd])), (so, .inr (0, [.int (nI (sN R)), .int (nI (R 0 1)), .int (nI (sF R)), .int (nI (sS R)), .int (nI (sL R)), .ref ak, .ref af, .ref ab, .ref aa])), (ak, aI G 10 (sK R)), (af, aI G 10 (sG R)), (ab, aI G 10 (sO R)), (aa, aI G 10 (sA R)), (x7, aI G 7 (cN rf))] (fun (r : Int32) (u : Unit) => r = anI (wpN R xz 0) (onI (lsN R xz.toNat))) (fun u => [(h0, .inr (1, [.ref so, .ref to, .ref uo, .int (nI im), .ref x5, .int (nI lm), .ref x6, .int (nI rm), .ref x7, .ref x8, .int sd])), (so, .inr (0, [.int (nI (sN R)), .int (nI (R 0 1)), .int (nI (sF R)), .int (nI (sS R)), .int (nI (sL R)), .ref ak, .ref af, .ref ab, .ref aa])), (ak, aI G 10 (sK R)), (af, aI G 10 (sG R)), (ab, aI G 10 (sO R)), (aa, aI G 10 (sA R)), (x7, aI G 7 (cN (rfU rf (wpN R xz 0))))])) := by
  refine en (by decide +kernel) (Nat.le_of_ble_eq_true rfl) ?_
  intro p e s m below meth c ls H locs C hl hw
  have xx := C.1
  have xb := C.2.1
  have hw : Wd G (fA [(h0, .inr (1, [.ref so, .ref to, .ref uo, .int (nI im), .ref x5, .int (nI lm), .ref x6, .int (nI rm), .ref x7, .ref x8, .int sd])), (so, .inr (0, [.int (nI (sN R)), .int (nI (R 0 1)), .int (nI (sF R)), .int (nI (sS R)), .int (nI (sL R)), .ref ak, .ref af, .ref ab, .ref aa])), (ak, aI G 10 (sK R)), (af, aI G 10 (sG R)), (ab, aI G 10 (sO R)), (aa, aI G 10 (sA R)), (x7, aI G 7 (cN rf))]) s [(h0, .inr (1, [.ref so, .ref to, .ref uo, .int (nI im), .ref x5, .int (nI lm), .ref x6, .int (nI rm), .ref x7, .ref x8, .int sd])), (so, .inr (0, [.int (nI (sN R)), .int (nI (R 0 1)), .int (nI (sF R)), .int (nI (sS R)), .int (nI (sL R)), .ref ak, .ref af, .ref ab, .ref aa])), (ak, aI G 10 (sK R)), (af, aI G 10 (sG R)), (ab, aI G 10 (sO R)), (aa, aI G 10 (sA R)), (x7, aI G 7 (cN rf))] H locs := hw
  have hl : lv_has ls 4 [(0, .ref h0), (1, .int x)] := hl
  obtain ⟨hn, hf0, hpr, hA⟩ := id hR
  have hb6 := wpN_le R xz 0
  refine lv_aload_n xx xb dX1_leastSpeed_0 rfl (lv_at hl 0 rfl) ?_
  refine lv_iload_n xx xb dX1_leastSpeed_1 rfl (lv_at hl 1 rfl) ?_
  refine lv_iconst (v := nI 0) xx xb dX1_leastSpeed_2 (by decide) ?_
  refine re_i (nG 0) (by decide +kernel) ?_
  have hM := kX1_refusalOfPull l G h0 so to uo x5 x6 x7 x8 im lm rm sd ak af ab aa (R 0 1) R 0 x xz h_x (by first | assumption | omega) (by first | assumption | omega)
  refine cv_i C hw hM yvX1_refusalOfPull ml_X1_87 0 rfl rfl rfl [0, 1, 2, 3, 4, 5] rfl rfl (fun _ => (rfl : ([h0, so, ak, af, ab, aa] : List Nat) = [h0, so, ak, af, ab, aa])) (by decide) ⟨Nat.zero_le _, Nat.zero_le _⟩ hl.1 rfl (Nat.le_of_ble_eq_true rfl) dX1_leastSpeed_3 (fun r _ H locs hr hw => ?_)
  have hw : Wd G (fA [(h0, .inr (1, [.ref so, .ref to, .ref uo, .int (nI im), .ref x5, .int (nI lm), .ref x6, .int (nI rm), .ref x7, .ref x8, .int sd])), (so, .inr (0, [.int (nI (sN R)), .int (nI (R 0 1)), .int (nI (sF R)), .int (nI (sS R)), .int (nI (sL R)), .ref ak, .ref af, .ref ab, .ref aa])), (ak, aI G 10 (sK R)), (af, aI G 10 (sG R)), (ab, aI G 10 (sO R)), (aa, aI G 10 (sA R)), (x7, aI G 7 (cN rf))]) s [(h0, .inr (1, [.ref so, .ref to, .ref uo, .int (nI im), .ref x5, .int (nI lm), .ref x6, .int (nI rm), .ref x7, .ref x8, .int sd])), (so, .inr (0, [.int (nI (sN R)), .int (nI (R 0 1)), .int (nI (sF R)), .int (nI (sS R)), .int (nI (sL R)), .ref ak, .ref af, .ref ab, .ref aa])), (ak, aI G 10 (sK R)), (af, aI G 10 (sG R)), (ab, aI G 10 (sO R)), (aa, aI G 10 (sA R)), (x7, aI G 7 (cN rf))] H locs := hw
  subst hr
  refine re_i (nG (wpN R xz 0)) (congrArg nG (wp_eq (R := R) (x := xz) (v := 0))) ?_
  refine lv_istore_n (lv' := [(2, .int (nG (wpN R xz 0))), (0, .ref h0), (1, .int x)]) xx xb dX1_leastSpeed_6 rfl hl (by decide) rfl (fun ls hl => ?_)
  refine lv_iload_n xx xb dX1_leastSpeed_7 rfl (lv_at hl 0 rfl) ?_
  refine lv_if_eq (tgt := 17) xx xb dX1_leastSpeed_8 (by decide) (fun c_8 => ?_) (fun c_8 => ?_)
  · skip
    have c_8 := g0_c (by omega) c_8
    obtain ⟨g1, g2, g3⟩ := wpN_0 c_8
    have hb10 := fun v => bs_lt (shkF R xz.toNat v) (R 0 0)
    have h210 : 2 ^ R 0 0 ≤ 2 ^ 10 := Nat.pow_le_pow_right (by decide) hn
    refine lv_iconst (v := nI 0) xx xb dX1_leastSpeed_17 (by decide) ?_
    refine lv_istore_n (lv' := [(3, .int (nI 0)), (2, .int (nG (wpN R xz 0))), (0, .ref h0), (1, .int x)]) xx xb dX1_leastSpeed_18 rfl hl (by decide) rfl (fun ls hl => ?_)
    have L_19 : ∀ (fu : Nat) (i : Nat) (H : Heap) (locs : List Loc) (ls : Array Slot), 10 - i < fu → (i ≤ 10) → (∀ j, j < i → decide (bs (shkF R xz.toNat j) (R 0 0) = 0) = false) → Wd G (fA [(h0, .inr (1, [.ref so, .ref to, .ref uo, .int (nI im), .ref x5, .int (nI lm), .ref x6, .int (nI rm), .ref x7, .ref x8, .int sd])), (so, .inr (0, [.int (nI (sN R)), .int (nI (R 0 1)), .int (nI (sF R)), .int (nI (sS R)), .int (nI (sL R)), .ref ak, .ref af, .ref ab, .ref aa])), (ak, aI G 10 (sK R)), (af, aI G 10 (sG R)), (ab, aI G 10 (sO R)), (aa, aI G 10 (sA R)), (x7, aI G 7 (cN rf))]) s [(h0, .inr (1, [.ref so, .ref to, .ref uo, .int (nI im), .ref x5, .int (nI lm), .ref x6, .int (nI rm), .ref x7, .ref x8, .int sd])), (so, .inr (0, [.int (nI (sN R)), .int (nI (R 0 1)), .int (nI (sF R)), .int (nI (sS R)), .int (nI (sL R)), .ref ak, .ref af, .ref ab, .ref aa])), (ak, aI G 10 (sK R)), (af, aI G 10 (sG R)), (ab, aI G 10 (sO R)), (aa, aI G 10 (sA R)), (x7, aI G 7 (cN rf))] H locs → lv_has ls 4 [(0, .ref h0), (1, .int x), (3, .int (nI i))] → W p l e ({ frames := 3, cells := 0, slots := 0, locals := 65 }) s m (([.ref h0, .int x] : List Value).toArray) below meth c H locs 0 0 (MQ below (QI G [(h0, .inr (1, [.ref so, .ref to, .ref uo, .int (nI im), .ref x5, .int (nI lm), .ref x6, .int (nI rm), .ref x7, .ref x8, .int sd])), (so, .inr (0, [.int (nI (sN R)), .int (nI (R 0 1)), .int (nI (sF R)), .int (nI (sS R)), .int (nI (sL R)), .ref ak, .ref af, .ref ab, .ref aa])), (ak, aI G 10 (sK R)), (af, aI G 10 (sG R)), (ab, aI G 10 (sO R)), (aa, aI G 10 (sA R)), (x7, aI G 7 (cN rf))] (fun (r : Int32) (u : Unit) => r = anI (wpN R xz 0) (onI (lsN R xz.toNat))) (fun u => [(h0, .inr (1, [.ref so, .ref to, .ref uo, .int (nI im), .ref x5, .int (nI lm), .ref x6, .int (nI rm), .ref x7, .ref x8, .int sd])), (so, .inr (0, [.int (nI (sN R)), .int (nI (R 0 1)), .int (nI (sF R)), .int (nI (sS R)), .int (nI (sL R)), .ref ak, .ref af, .ref ab, .ref aa])), (ak, aI G 10 (sK R)), (af, aI G 10 (sG R)), (ab, aI G 10 (sO R)), (aa, aI G 10 (sA R)), (x7, aI G 7 (cN (rfU rf (wpN R xz 0))))])) (([.ref h0, .int x] : List Value).toArray) s 0 0 (fA [(h0, .inr (1, [.ref so, .ref to, .ref uo, .int (nI im), .ref x5, .int (nI lm), .ref x6, .int (nI rm), .ref x7, .ref x8, .int sd])), (so, .inr (0, [.int (nI (sN R)), .int (nI (R 0 1)), .int (nI (sF R)), .int (nI (sS R)), .int (nI (sL R)), .ref ak, .ref af, .ref ab, .ref aa])), (ak, aI G 10 (sK R)), (af, aI G 10 (sG R)), (ab, aI G 10 (sO R)), (aa, aI G 10 (sA R)), (x7, aI G 7 (cN rf))])) (F0 m 19 ls []) := by
      intro fu
      induction fu with
      | zero => intro i H locs ls hfu; exact absurd hfu (Nat.not_lt_zero _)
      | succ fu ih_19 =>
        intro i H locs ls hfu hi hP hw hl
        refine lv_iload_n xx xb dX1_leastSpeed_19 rfl (lv_at hl 2 rfl) ?_
        refine lv_bipush (v := nI 9) xx xb dX1_leastSpeed_20 (by decide) ?_
        refine lv_icmp_gt (tgt := 45) xx xb dX1_leastSpeed_22 (by decide) (fun c_22 => ?_) (fun c_22 => ?_)
        · skip
          have c_22 := lt_c (tN (by omega)) (tN (by omega)) c_22
          refine lv_bipush (v := (-9)) xx xb dX1_leastSpeed_45 (by decide) ?_
          refine re_i (onI (lsN R xz.toNat)) (by rw [show lsN R xz.toNat = 10 from lf_eq _ _ _ (Nat.le_refl _) (fun j hj => hP j (by omega)) (fun q => absurd q (by omega))]; rfl) ?_
          have hc : wpN R xz 0 = 0 := by first | assumption | rfl
          exact rt_i C hw () (by exact (anI_0 hc _).symm) (by rw [rfU_0 hc]) dX1_leastSpeed_47
        · skip
          have c_22 := nlt_c (tN (by omega)) (tN (by omega)) c_22
          have hbi := hb10 i
          refine lv_aload_n xx xb dX1_leastSpeed_25 rfl (lv_at hl 0 rfl) ?_
          refine m_get C hw 0 rfl fk_X1_10 rfl dX1_leastSpeed_26 ?_
          refine lv_iload_n xx xb dX1_leastSpeed_29 rfl (lv_at hl 1 rfl) ?_
          refine re_i (onI xz.toNat) ((ofT h_x (by omega) (by omega)).trans (onI_lt (by omega)).symm) ?_
          refine lv_iload_n xx xb dX1_leastSpeed_30 rfl (lv_at hl 2 rfl) ?_
          have hM := kX0_caughtOn l G so ak af ab aa (R 0 1) R xz.toNat i (by first | assumption | omega) (by first | assumption | omega) (by first | assumption | omega)
          refine cv_i C hw hM yvX0_caughtOn ml_X1_150 1 rfl rfl rfl [1, 2, 3, 4, 5] rfl rfl (fun _ => (rfl : ([so, ak, af, ab, aa] : List Nat) = [so, ak, af, ab, aa])) (by decide) ⟨Nat.zero_le _, Nat.zero_le _⟩ hl.1 rfl (Nat.le_of_ble_eq_true rfl) dX1_leastSpeed_31 (fun r _ H locs hr hw => ?_)
          have hw : Wd G (fA [(h0, .inr (1, [.ref so, .ref to, .ref uo, .int (nI im), .ref x5, .int (nI lm), .ref x6, .int (nI rm), .ref x7, .ref x8, .int sd])), (so, .inr (0, [.int (nI (sN R)), .int (nI (R 0 1)), .int (nI (sF R)), .int (nI (sS R)), .int (nI (sL R)), .ref ak, .ref af, .ref ab, .ref aa])), (ak, aI G 10 (sK R)), (af, aI G 10 (sG R)), (ab, aI G 10 (sO R)), (aa, aI G 10 (sA R)), (x7, aI G 7 (cN rf))]) s [(h0, .inr (1, [.ref so, .ref to, .ref uo, .int (nI im), .ref x5, .int (nI lm), .ref x6, .int (nI rm), .ref x7, .ref x8, .int sd])), (so, .inr (0, [.int (nI (sN R)), .int (nI (R 0 1)), .int (nI (sF R)), .int (nI (sS R)), .int (nI (sL R)), .ref ak, .ref af, .ref ab, .ref aa])), (ak, aI G 10 (sK R)), (af, aI G 10 (sG R)), (ab, aI G 10 (sO R)), (aa, aI G 10 (sA R)), (x7, aI G 7 (cN rf))] H locs := hw
          subst hr
          refine lv_if_ne (tgt := 39) xx xb dX1_leastSpeed_34 (by decide) (fun c_34 => ?_) (fun c_34 => ?_)
          · skip
            have c_34 := ne_c (tN (by omega)) Int32.toInt_zero c_34
            have hP2 : ∀ j, j < i + 1 → decide (bs (shkF R xz.toNat j) (R 0 0) = 0) = false := fun j hj => by
              by_cases hj2 : j < i
              · exact hP j hj2
              · have e : j = i := (by omega)
                rw [e, decide_eq_false_iff_not]; omega
            refine lv_iinc (v := nI (i + 1)) (lv' := [(3, .int (nI (i + 1))), (0, .ref h0), (1, .int x)]) xx xb dX1_leastSpeed_39 hl (k := 2) rfl (nI_add _ 1) (by decide) rfl (fun ls hl => ?_)
            refine lv_goto (tgt := 19) xx xb dX1_leastSpeed_42 (by decide) ?_
            exact ih_19 (i + 1) H _ ls (by omega) (by omega) hP2 hw (lv_sub hl [1, 2, 0] rfl)
          · skip
            have c_34 := eq_c (tN (by omega)) Int32.toInt_zero c_34
            have hls : lsN R xz.toNat = i := lf_eq _ _ _ (by omega) hP (fun _ => by rw [decide_eq_true_eq]; omega)
            refine lv_iload_n xx xb dX1_leastSpeed_37 rfl (lv_at hl 2 rfl) ?_
            refine re_i (onI (lsN R xz.toNat)) (by rw [hls]; exact (onI_lt (by omega)).symm) ?_
            have hc : wpN R xz 0 = 0 := by first | assumption | rfl
            exact rt_i C hw () (by exact (anI_0 hc _).symm) (by rw [rfU_0 hc]) dX1_leastSpeed_38
    exact L_19 (_ + 1) 0 H _ ls (Nat.lt_succ_self _) (by omega) (fun j hj => absurd hj (Nat.not_lt_zero _)) hw (lv_sub hl [2, 3, 0] rfl)
  · skip
    have c_8 := g0_n c_8
    refine lv_aload_n xx xb dX1_leastSpeed_11 rfl (lv_at hl 1 rfl) ?_
    refine lv_iload_n xx xb dX1_leastSpeed_12 rfl (lv_at hl 0 rfl) ?_
    have hM := kX1_refuse l G h0 so to uo x5 x6 x7 x8 im lm rm sd rf (wpN R xz 0) (by first | assumption | omega)
    refine cv_i C hw hM yvX1_refuse ml_X1_43 0 rfl rfl rfl [0, 6] rfl rfl (fun _ => (rfl : ([h0, x7] : List Nat) = [h0, x7])) (by decide) ⟨Nat.zero_le _, Nat.zero_le _⟩ hl.1 rfl (Nat.le_of_ble_eq_true rfl) dX1_leastSpeed_13 (fun r _ H locs hr hw => ?_)
    have hw : Wd G (fA [(h0, .inr (1, [.ref so, .ref to, .ref uo, .int (nI im), .ref x5, .int (nI lm), .ref x6, .int (nI rm), .ref x7, .ref x8, .int sd])), (so, .inr (0, [.int (nI (sN R)), .int (nI (R 0 1)), .int (nI (sF R)), .int (nI (sS R)), .int (nI (sL R)), .ref ak, .ref af, .ref ab, .ref aa])), (ak, aI G 10 (sK R)), (af, aI G 10 (sG R)), (ab, aI G 10 (sO R)), (aa, aI G 10 (sA R)), (x7, aI G 7 (cN rf))]) s [(h0, .inr (1, [.ref so, .ref to, .ref uo, .int (nI im), .ref x5, .int (nI lm), .ref x6, .int (nI rm), .ref x7, .ref x8, .int sd])), (so, .inr (0, [.int (nI (sN R)), .int (nI (R 0 1)), .int (nI (sF R)), .int (nI (sS R)), .int (nI (sL R)), .ref ak, .ref af, .ref ab, .ref aa])), (ak, aI G 10 (sK R)), (af, aI G 10 (sG R)), (ab, aI G 10 (sO R)), (aa, aI G 10 (sA R)), (x7, aI G 7 (cN (upN rf (wpN R xz 0) (rf (wpN R xz 0) + 1))))] H locs := hw
    subst hr
    have hc : wpN R xz 0 = (wpN R xz 0) := by first | assumption | rfl
    have hj : (wpN R xz 0) ≠ 0 := by omega
    exact rt_i C hw () (by exact (anI_r hc hj _).symm) (by rw [rfU_r hc hj]) dX1_leastSpeed_16
