theorem vThing_7 {R : RT} {k : Nat} {w : Int} (h : 7 ≤ w) : vThing R k w = if R 4 k = 0 ∧ heldF R k = true then 1 else 0 := by
  unfold vThing
  rw [if_neg (by omega), if_neg (by omega), if_neg (by omega), if_neg (by omega), if_neg (by omega), if_neg (by omega), if_neg (by omega)]
theorem cThing_le (R : RT) (x w : Int) : cThing R x w ≤ 6 := by unfold cThing; (repeat' split) <;> omega
theorem cThing_0 {R : RT} {x w : Int} (h : cThing R x w = 0) : (0 ≤ x ∧ x < ((R 0 0 : Nat) : Int)) ∧ (0 ≤ w ∧ w ≤ 7) := by
  unfold cThing at h
  by_cases h1 : 0 ≤ x ∧ x < ((R 0 0 : Nat) : Int)
  · rw [if_pos h1] at h
    by_cases h2 : 0 ≤ w ∧ w ≤ 7
    · exact ⟨h1, h2⟩
    · rw [if_neg h2] at h; omega
  · rw [if_neg h1] at h; omega
theorem cBeh_le (R : RT) (x n w : Int) : cBeh R x n w ≤ 6 := by
  unfold cBeh
  have := wbN_le n 99
  (repeat' split) <;> omega
theorem cBeh_0 {R : RT} {x n w : Int} (h : cBeh R x n w = 0) : (0 ≤ x ∧ x < ((R 0 0 : Nat) : Int)) ∧ (0 ≤ n ∧ n ≤ 99) ∧ (0 ≤ w ∧ w ≤ 2) := by
  unfold cBeh at h
  by_cases h1 : 0 ≤ x ∧ x < ((R 0 0 : Nat) : Int)
  · rw [if_pos h1] at h
    by_cases h2 : wbN n 99 ≠ 0
    · rw [if_pos h2] at h; omega
    · rw [if_neg h2] at h
      by_cases h3 : 0 ≤ w ∧ w ≤ 2
      · exact ⟨h1, wbN_0 (by omega), h3⟩
      · rw [if_neg h3] at h; omega
  · rw [if_neg h1] at h; omega
theorem be_eq {R : RT} {x n w : Int} : rtT R x (foN (wlN n 0 99) (otN w 2)) = cBeh R x n w := rfl
set_option maxRecDepth 100000 in
set_option maxHeartbeats 4000000 in
theorem kX1_thing (l : Launch) (G : GT) (h0 : Nat) (so : Nat) (to : Nat) (uo : Nat) (x5 : Nat) (x6 : Nat) (x7 : Nat) (x8 : Nat) (im : Nat) (lm : Nat) (rm : Nat) (sd : Int32) (rf : Nat → Nat) (ak : Nat) (af : Nat) (ab : Nat) (aa : Nat) (R : RT) (x : Int32) (xz : Int) (ww : Int32) (wwz : Int) (h_x : x.toInt = xz) (h_ww : ww.toInt = wwz) (hR : OK R) (hp : R 0 3 = 0) : Ct l yX1_thing cX1_thing 4 (some .int) 2 54 [.ref h0, .int x, .int ww] G [(h0, .inr (1, [.ref so, .ref to, .ref uo, .int (nI im), .ref x5, .int (nI lm), .ref x6, .int (nI rm), .ref x7, .ref x8, .int sd])), (so, .inr (0, [.int (nI (sN R)), .int (nI (R 0 1)), .int (nI (sF R)), .int (nI (sS R)), .int (nI (sL R)), .ref ak, .ref af, .ref ab, .ref aa])), (ak, aI G 10 (sK R)), (af, aI G 10 (sG R)), (ab, aI G 10 (sO R)), (aa, aI G 10 (sA R)), (x7, aI G 7 (cN rf))] (QI G [(h0, .inr (1, [.ref so, .ref to, .ref uo, .int (nI im), .ref x5, .int (nI lm), .ref x6, .int (nI rm), .ref x7, .ref x8, .int sd])), (so, .inr (0, [.int (nI (sN R)), .int (nI (R 0 1)), .int (nI (sF R)), .int (nI (sS R)), .int (nI (sL R)), .ref ak, .ref af, .ref ab, .ref aa])), (ak, aI G 10 (sK R)), (af, aI G 10 (sG R)), (ab, aI G 10 (sO R)), (aa, aI G 10 (sA R)), (x7, aI G 7 (cN rf))] (fun (r : Int32) (u : Unit) => r = anI (cThing R xz wwz) (vThing R xz.toNat wwz)) (fun u => [(h0, .inr (1, [.ref so, .ref to, .ref uo, .int (nI im), .ref x5, .int (nI lm), .ref x6, .int (nI rm), .ref x7, .ref x8, .int sd])), (so, .inr (0, [.int (nI (sN R)), .int (nI (R 0 1)), .int (nI (sF R)), .int (nI (sS R)), .int (nI (sL R)), .ref ak, .ref af, .ref ab, .ref aa])), (ak, aI G 10 (sK R)), (af, aI G 10 (sG R)), (ab, aI G 10 (sO R)), (aa, aI G 10 (sA R)), (x7, aI G 7 (cN (rfU rf (cThing R xz wwz))))])) := by
  refine en (by decide +kernel) (Nat.le_of_ble_eq_true rfl) ?_
  intro p e s m below meth c ls H locs C hl hw
  have xx := C.1
  have xb := C.2.1
  have hw : Wd G (fA [(h0, .inr (1, [.ref so, .ref to, .ref uo, .int (nI im), .ref x5, .int (nI lm), .ref x6, .int (nI rm), .ref x7, .ref x8, .int sd])), (so, .inr (0, [.int (nI (sN R)), .int (nI (R 0 1)), .int (nI (sF R)), .int (nI (sS R)), .int (nI (sL R)), .ref ak, .ref af, .ref ab, .ref aa])), (ak, aI G 10 (sK R)), (af, aI G 10 (sG R)), (ab, aI G 10 (sO R)), (aa, aI G 10 (sA R)), (x7, aI G 7 (cN rf))]) s [(h0, .inr (1, [.ref so, .ref to, .ref uo, .int (nI im), .ref x5, .int (nI lm), .ref x6, .int (nI rm), .ref x7, .ref x8, .int sd])), (so, .inr (0, [.int (nI (sN R)), .int (nI (R 0 1)), .int (nI (sF R)), .int (nI (sS R)), .int (nI (sL R)), .ref ak, .ref af, .ref ab, .ref aa])), (ak, aI G 10 (sK R)), (af, aI G 10 (sG R)), (ab, aI G 10 (sO R)), (aa, aI G 10 (sA R)), (x7, aI G 7 (cN rf))] H locs := hw
  have hl : lv_has ls 4 [(0, .ref h0), (1, .int x), (2, .int ww)] := hl
  obtain ⟨hn, hf0, hpr, hA⟩ := id hR
  have hc6 := cThing_le R xz wwz
  refine lv_aload_n xx xb dX1_thing_0 rfl (lv_at hl 0 rfl) ?_
  refine lv_iload_n xx xb dX1_thing_1 rfl (lv_at hl 1 rfl) ?_
  refine lv_iload_n xx xb dX1_thing_2 rfl (lv_at hl 2 rfl) ?_
  refine lv_bipush (v := nI 7) xx xb dX1_thing_3 (by decide) ?_
  have hM := kX1_otherThan l G ww wwz (nI 7) 7 h_ww (tN (by omega))
  refine cs_i C hw hM ysX1_otherThan ml_X1_51 rfl [] rfl rfl (fun _ => (rfl : ([] : List Nat) = [])) (by decide) ⟨Nat.zero_le _, Nat.zero_le _⟩ hl.1 rfl (Nat.le_of_ble_eq_true rfl) dX1_thing_5 (fun r _ H locs hr hw => ?_)
  have hw : Wd G (fA [(h0, .inr (1, [.ref so, .ref to, .ref uo, .int (nI im), .ref x5, .int (nI lm), .ref x6, .int (nI rm), .ref x7, .ref x8, .int sd])), (so, .inr (0, [.int (nI (sN R)), .int (nI (R 0 1)), .int (nI (sF R)), .int (nI (sS R)), .int (nI (sL R)), .ref ak, .ref af, .ref ab, .ref aa])), (ak, aI G 10 (sK R)), (af, aI G 10 (sG R)), (ab, aI G 10 (sO R)), (aa, aI G 10 (sA R)), (x7, aI G 7 (cN rf))]) s [(h0, .inr (1, [.ref so, .ref to, .ref uo, .int (nI im), .ref x5, .int (nI lm), .ref x6, .int (nI rm), .ref x7, .ref x8, .int sd])), (so, .inr (0, [.int (nI (sN R)), .int (nI (R 0 1)), .int (nI (sF R)), .int (nI (sS R)), .int (nI (sL R)), .ref ak, .ref af, .ref ab, .ref aa])), (ak, aI G 10 (sK R)), (af, aI G 10 (sG R)), (ab, aI G 10 (sO R)), (aa, aI G 10 (sA R)), (x7, aI G 7 (cN rf))] H locs := hw
  subst hr
  have hM := kX1_refusalOfThing l G h0 so to uo x5 x6 x7 x8 im lm rm sd ak af ab aa (R 0 1) R (otN wwz 7) x xz h_x (by first | assumption | omega)
  refine cv_i C hw hM yvX1_refusalOfThing ml_X1_55 0 rfl rfl rfl [0, 1, 2, 3, 4, 5] rfl rfl (fun _ => (rfl : ([h0, so, ak, af, ab, aa] : List Nat) = [h0, so, ak, af, ab, aa])) (by decide) ⟨Nat.zero_le _, Nat.zero_le _⟩ hl.1 rfl (Nat.le_of_ble_eq_true rfl) dX1_thing_8 (fun r _ H locs hr hw => ?_)
  have hw : Wd G (fA [(h0, .inr (1, [.ref so, .ref to, .ref uo, .int (nI im), .ref x5, .int (nI lm), .ref x6, .int (nI rm), .ref x7, .ref x8, .int sd])), (so, .inr (0, [.int (nI (sN R)), .int (nI (R 0 1)), .int (nI (sF R)), .int (nI (sS R)), .int (nI (sL R)), .ref ak, .ref af, .ref ab, .ref aa])), (ak, aI G 10 (sK R)), (af, aI G 10 (sG R)), (ab, aI G 10 (sO R)), (aa, aI G 10 (sA R)), (x7, aI G 7 (cN rf))]) s [(h0, .inr (1, [.ref so, .ref to, .ref uo, .int (nI im), .ref x5, .int (nI lm), .ref x6, .int (nI rm), .ref x7, .ref x8, .int sd])), (so, .inr (0, [.int (nI (sN R)), .int (nI (R 0 1)), .int (nI (sF R)), .int (nI (sS R)), .int (nI (sL R)), .ref ak, .ref af, .ref ab, .ref aa])), (ak, aI G 10 (sK R)), (af, aI G 10 (sG R)), (ab, aI G 10 (sO R)), (aa, aI G 10 (sA R)), (x7, aI G 7 (cN rf))] H locs := hw
  subst hr
  refine re_i (nG (cThing R xz wwz)) (congrArg nG rfl) ?_
  refine lv_istore_n (lv' := [(3, .int (nG (cThing R xz wwz))), (0, .ref h0), (1, .int x), (2, .int ww)]) xx xb dX1_thing_11 rfl hl (by decide) rfl (fun ls hl => ?_)
  refine lv_iload_n xx xb dX1_thing_12 rfl (lv_at hl 0 rfl) ?_
  refine lv_if_eq (tgt := 22) xx xb dX1_thing_13 (by decide) (fun c_13 => ?_) (fun c_13 => ?_)
  · skip
    have c_13 := g0_c (by omega) c_13
    obtain ⟨g1, g2⟩ := cThing_0 c_13
    have g3 := hA xz.toNat (by omega)
    refine lv_iload_n xx xb dX1_thing_22 rfl (lv_at hl 3 rfl) ?_
    by_cases k_23_0 : ww = nI 0
    · skip
      refine re_i (nI 0) k_23_0 ?_
      refine lv_tableIn (off := 41) (tgt := 64) xx xb dX1_thing_23 (by decide +kernel) (by decide +kernel) (by decide +kernel) (by decide) ?_
      have w0 : wwz = 0 := by rw [← h_ww, k_23_0]; rfl
      refine lv_aload_n xx xb dX1_thing_64 rfl (lv_at hl 1 rfl) ?_
      refine m_get C hw 0 rfl fk_X1_10 rfl dX1_thing_65 ?_
      refine m_get C hw 1 rfl fk_X1_58 rfl dX1_thing_68 ?_
      refine lv_iload_n xx xb dX1_thing_71 rfl (lv_at hl 2 rfl) ?_
      refine re_i (nI xz.toNat) (ofT h_x (by omega) (by omega)) ?_
      refine m_ald C hw 2 rfl xz.toNat rfl (by omega) (by decide) dX1_thing_72 ?_
      refine re_i (nI (R 1 xz.toNat)) rfl ?_
      refine re_i (vThing R xz.toNat wwz) (by unfold vThing; rw [if_pos w0]) ?_
      have hc : cThing R xz wwz = 0 := by first | assumption | rfl
      exact rt_i C hw () (by exact (anI_0 hc _).symm) (by rw [rfU_0 hc]) dX1_thing_73
    have zk_23_0 := ne_c h_ww (tN (by decide)) k_23_0
    by_cases k_23_1 : ww = nI 1
    · skip
      refine re_i (nI 1) k_23_1 ?_
      refine lv_tableIn (off := 51) (tgt := 74) xx xb dX1_thing_23 (by decide +kernel) (by decide +kernel) (by decide +kernel) (by decide) ?_
      have w1 : wwz = 1 := by rw [← h_ww, k_23_1]; rfl
      refine lv_aload_n xx xb dX1_thing_74 rfl (lv_at hl 1 rfl) ?_
      refine m_get C hw 0 rfl fk_X1_10 rfl dX1_thing_75 ?_
      refine m_get C hw 1 rfl fk_X1_61 rfl dX1_thing_78 ?_
      refine lv_iload_n xx xb dX1_thing_81 rfl (lv_at hl 2 rfl) ?_
      refine re_i (nI xz.toNat) (ofT h_x (by omega) (by omega)) ?_
      refine m_ald C hw 3 rfl xz.toNat rfl (by omega) (by decide) dX1_thing_82 ?_
      refine re_i (nI (R 2 xz.toNat)) rfl ?_
      refine re_i (vThing R xz.toNat wwz) (by unfold vThing; rw [if_neg (by omega), if_pos w1]) ?_
      have hc : cThing R xz wwz = 0 := by first | assumption | rfl
      exact rt_i C hw () (by exact (anI_0 hc _).symm) (by rw [rfU_0 hc]) dX1_thing_83
    have zk_23_1 := ne_c h_ww (tN (by decide)) k_23_1
    by_cases k_23_2 : ww = nI 2
    · skip
      refine re_i (nI 2) k_23_2 ?_
      refine lv_tableIn (off := 61) (tgt := 84) xx xb dX1_thing_23 (by decide +kernel) (by decide +kernel) (by decide +kernel) (by decide) ?_
      have w2 : wwz = 2 := by rw [← h_ww, k_23_2]; rfl
      refine lv_aload_n xx xb dX1_thing_84 rfl (lv_at hl 1 rfl) ?_
      refine m_get C hw 0 rfl fk_X1_10 rfl dX1_thing_85 ?_
      refine m_get C hw 1 rfl fk_X1_64 rfl dX1_thing_88 ?_
      refine lv_iload_n xx xb dX1_thing_91 rfl (lv_at hl 2 rfl) ?_
      refine re_i (nI xz.toNat) (ofT h_x (by omega) (by omega)) ?_
      refine m_ald C hw 4 rfl xz.toNat rfl (by omega) (by decide) dX1_thing_92 ?_
      refine re_i (onI (R 3 xz.toNat)) rfl ?_
      refine re_i (vThing R xz.toNat wwz) (by unfold vThing; rw [if_neg (by omega), if_neg (by omega), if_pos w2]) ?_
      have hc : cThing R xz wwz = 0 := by first | assumption | rfl
      exact rt_i C hw () (by exact (anI_0 hc _).symm) (by rw [rfU_0 hc]) dX1_thing_93
    have zk_23_2 := ne_c h_ww (tN (by decide)) k_23_2
    by_cases k_23_3 : ww = nI 3
    · skip
      refine re_i (nI 3) k_23_3 ?_
      refine lv_tableIn (off := 71) (tgt := 94) xx xb dX1_thing_23 (by decide +kernel) (by decide +kernel) (by decide +kernel) (by decide) ?_
      have w3 : wwz = 3 := by rw [← h_ww, k_23_3]; rfl
      refine lv_aload_n xx xb dX1_thing_94 rfl (lv_at hl 1 rfl) ?_
      refine m_get C hw 0 rfl fk_X1_10 rfl dX1_thing_95 ?_
      refine lv_iload_n xx xb dX1_thing_98 rfl (lv_at hl 2 rfl) ?_
      have hM := kX0_stateOf l G so ak af ab aa (R 0 1) R x xz h_x (by first | assumption | omega) (by first | assumption | omega)
      refine cv_i C hw hM yvX0_stateOf ml_X1_67 1 rfl rfl rfl [1, 2, 3, 4, 5] rfl rfl (fun _ => (rfl : ([so, ak, af, ab, aa] : List Nat) = [so, ak, af, ab, aa])) (by decide) ⟨Nat.zero_le _, Nat.zero_le _⟩ hl.1 rfl (Nat.le_of_ble_eq_true rfl) dX1_thing_99 (fun r _ H locs hr hw => ?_)
      have hw : Wd G (fA [(h0, .inr (1, [.ref so, .ref to, .ref uo, .int (nI im), .ref x5, .int (nI lm), .ref x6, .int (nI rm), .ref x7, .ref x8, .int sd])), (so, .inr (0, [.int (nI (sN R)), .int (nI (R 0 1)), .int (nI (sF R)), .int (nI (sS R)), .int (nI (sL R)), .ref ak, .ref af, .ref ab, .ref aa])), (ak, aI G 10 (sK R)), (af, aI G 10 (sG R)), (ab, aI G 10 (sO R)), (aa, aI G 10 (sA R)), (x7, aI G 7 (cN rf))]) s [(h0, .inr (1, [.ref so, .ref to, .ref uo, .int (nI im), .ref x5, .int (nI lm), .ref x6, .int (nI rm), .ref x7, .ref x8, .int sd])), (so, .inr (0, [.int (nI (sN R)), .int (nI (R 0 1)), .int (nI (sF R)), .int (nI (sS R)), .int (nI (sL R)), .ref ak, .ref af, .ref ab, .ref aa])), (ak, aI G 10 (sK R)), (af, aI G 10 (sG R)), (ab, aI G 10 (sO R)), (aa, aI G 10 (sA R)), (x7, aI G 7 (cN rf))] H locs := hw
      subst hr
      refine re_i (vThing R xz.toNat wwz) (by unfold vThing; rw [if_neg (by omega), if_neg (by omega), if_neg (by omega), if_pos w3]) ?_
      have hc : cThing R xz wwz = 0 := by first | assumption | rfl
      exact rt_i C hw () (by exact (anI_0 hc _).symm) (by rw [rfU_0 hc]) dX1_thing_102
    have zk_23_3 := ne_c h_ww (tN (by decide)) k_23_3
    by_cases k_23_4 : ww = nI 4
    · skip
      refine re_i (nI 4) k_23_4 ?_
      refine lv_tableIn (off := 80) (tgt := 103) xx xb dX1_thing_23 (by decide +kernel) (by decide +kernel) (by decide +kernel) (by decide) ?_
      have w4 : wwz = 4 := by rw [← h_ww, k_23_4]; rfl
      refine lv_aload_n xx xb dX1_thing_103 rfl (lv_at hl 1 rfl) ?_
      refine m_get C hw 0 rfl fk_X1_10 rfl dX1_thing_104 ?_
      refine m_get C hw 1 rfl fk_X1_70 rfl dX1_thing_107 ?_
      refine lv_iload_n xx xb dX1_thing_110 rfl (lv_at hl 2 rfl) ?_
      refine re_i (nI xz.toNat) (ofT h_x (by omega) (by omega)) ?_
      refine m_ald C hw 5 rfl xz.toNat rfl (by omega) (by decide) dX1_thing_111 ?_
      refine re_i (nI (R 5 xz.toNat)) rfl ?_
      refine re_i (vThing R xz.toNat wwz) (by unfold vThing; rw [if_neg (by omega), if_neg (by omega), if_neg (by omega), if_neg (by omega), if_pos w4]) ?_
      have hc : cThing R xz wwz = 0 := by first | assumption | rfl
      exact rt_i C hw () (by exact (anI_0 hc _).symm) (by rw [rfU_0 hc]) dX1_thing_112
    have zk_23_4 := ne_c h_ww (tN (by decide)) k_23_4
    by_cases k_23_5 : ww = nI 5
    · skip
      refine re_i (nI 5) k_23_5 ?_
      refine lv_tableIn (off := 90) (tgt := 113) xx xb dX1_thing_23 (by decide +kernel) (by decide +kernel) (by decide +kernel) (by decide) ?_
      have w5 : wwz = 5 := by rw [← h_ww, k_23_5]; rfl
      refine lv_aload_n xx xb dX1_thing_113 rfl (lv_at hl 1 rfl) ?_
      refine m_get C hw 0 rfl fk_X1_10 rfl dX1_thing_114 ?_
      refine lv_iload_n xx xb dX1_thing_117 rfl (lv_at hl 2 rfl) ?_
      refine re_i (nI xz.toNat) (ofT h_x (by omega) (by omega)) ?_
      have hM := kX0_habitOf l G so ak af ab aa (R 0 1) R xz.toNat (by first | assumption | omega) (by first | assumption | omega)
      refine cv_i C hw hM yvX0_habitOf ml_X1_73 1 rfl rfl rfl [1, 2, 3, 4, 5] rfl rfl (fun _ => (rfl : ([so, ak, af, ab, aa] : List Nat) = [so, ak, af, ab, aa])) (by decide) ⟨Nat.zero_le _, Nat.zero_le _⟩ hl.1 rfl (Nat.le_of_ble_eq_true rfl) dX1_thing_118 (fun r _ H locs hr hw => ?_)
      have hw : Wd G (fA [(h0, .inr (1, [.ref so, .ref to, .ref uo, .int (nI im), .ref x5, .int (nI lm), .ref x6, .int (nI rm), .ref x7, .ref x8, .int sd])), (so, .inr (0, [.int (nI (sN R)), .int (nI (R 0 1)), .int (nI (sF R)), .int (nI (sS R)), .int (nI (sL R)), .ref ak, .ref af, .ref ab, .ref aa])), (ak, aI G 10 (sK R)), (af, aI G 10 (sG R)), (ab, aI G 10 (sO R)), (aa, aI G 10 (sA R)), (x7, aI G 7 (cN rf))]) s [(h0, .inr (1, [.ref so, .ref to, .ref uo, .int (nI im), .ref x5, .int (nI lm), .ref x6, .int (nI rm), .ref x7, .ref x8, .int sd])), (so, .inr (0, [.int (nI (sN R)), .int (nI (R 0 1)), .int (nI (sF R)), .int (nI (sS R)), .int (nI (sL R)), .ref ak, .ref af, .ref ab, .ref aa])), (ak, aI G 10 (sK R)), (af, aI G 10 (sG R)), (ab, aI G 10 (sO R)), (aa, aI G 10 (sA R)), (x7, aI G 7 (cN rf))] H locs := hw
      subst hr
      refine re_i (vThing R xz.toNat wwz) (by unfold vThing; rw [if_neg (by omega), if_neg (by omega), if_neg (by omega), if_neg (by omega), if_neg (by omega), if_pos w5]) ?_
      have hc : cThing R xz wwz = 0 := by first | assumption | rfl
      exact rt_i C hw () (by exact (anI_0 hc _).symm) (by rw [rfU_0 hc]) dX1_thing_121
    have zk_23_5 := ne_c h_ww (tN (by decide)) k_23_5
    by_cases k_23_6 : ww = nI 6
    · skip
      refine re_i (nI 6) k_23_6 ?_
      refine lv_tableIn (off := 99) (tgt := 122) xx xb dX1_thing_23 (by decide +kernel) (by decide +kernel) (by decide +kernel) (by decide) ?_
      have w6 : wwz = 6 := by rw [← h_ww, k_23_6]; rfl
      refine lv_aload_n xx xb dX1_thing_122 rfl (lv_at hl 1 rfl) ?_
      refine m_get C hw 0 rfl fk_X1_10 rfl dX1_thing_123 ?_
      refine lv_iload_n xx xb dX1_thing_126 rfl (lv_at hl 2 rfl) ?_
      refine re_i (nI xz.toNat) (ofT h_x (by omega) (by omega)) ?_
      have hM := kX0_gripOf l G so ak af ab aa (R 0 1) R xz.toNat (by first | assumption | omega) (by first | assumption | omega)
      refine cv_i C hw hM yvX0_gripOf ml_X1_76 1 rfl rfl rfl [1, 2, 3, 4, 5] rfl rfl (fun _ => (rfl : ([so, ak, af, ab, aa] : List Nat) = [so, ak, af, ab, aa])) (by decide) ⟨Nat.zero_le _, Nat.zero_le _⟩ hl.1 rfl (Nat.le_of_ble_eq_true rfl) dX1_thing_127 (fun r _ H locs hr hw => ?_)
      have hw : Wd G (fA [(h0, .inr (1, [.ref so, .ref to, .ref uo, .int (nI im), .ref x5, .int (nI lm), .ref x6, .int (nI rm), .ref x7, .ref x8, .int sd])), (so, .inr (0, [.int (nI (sN R)), .int (nI (R 0 1)), .int (nI (sF R)), .int (nI (sS R)), .int (nI (sL R)), .ref ak, .ref af, .ref ab, .ref aa])), (ak, aI G 10 (sK R)), (af, aI G 10 (sG R)), (ab, aI G 10 (sO R)), (aa, aI G 10 (sA R)), (x7, aI G 7 (cN rf))]) s [(h0, .inr (1, [.ref so, .ref to, .ref uo, .int (nI im), .ref x5, .int (nI lm), .ref x6, .int (nI rm), .ref x7, .ref x8, .int sd])), (so, .inr (0, [.int (nI (sN R)), .int (nI (R 0 1)), .int (nI (sF R)), .int (nI (sS R)), .int (nI (sL R)), .ref ak, .ref af, .ref ab, .ref aa])), (ak, aI G 10 (sK R)), (af, aI G 10 (sG R)), (ab, aI G 10 (sO R)), (aa, aI G 10 (sA R)), (x7, aI G 7 (cN rf))] H locs := hw
      subst hr
      refine re_i (vThing R xz.toNat wwz) (by unfold vThing; rw [if_neg (by omega), if_neg (by omega), if_neg (by omega), if_neg (by omega), if_neg (by omega), if_neg (by omega), if_pos w6]) ?_
      have hc : cThing R xz wwz = 0 := by first | assumption | rfl
      exact rt_i C hw () (by exact (anI_0 hc _).symm) (by rw [rfU_0 hc]) dX1_thing_130
    have zk_23_6 := ne_c h_ww (tN (by decide)) k_23_6
    · skip
      refine lv_tableOut (tgt := 131) xx xb dX1_thing_23 (by rw [show _ = _ from h_ww]; omega) (by decide) ?_
      refine lv_aload_n xx xb dX1_thing_131 rfl (lv_at hl 1 rfl) ?_
      refine m_get C hw 0 rfl fk_X1_10 rfl dX1_thing_132 ?_
      refine lv_iload_n xx xb dX1_thing_135 rfl (lv_at hl 2 rfl) ?_
      have hM := kX0_isHeld l G so ak af ab aa (R 0 1) R x xz h_x (by first | assumption | omega)
      refine cv_i C hw hM yvX0_isHeld ml_X1_79 1 rfl rfl rfl [1, 2, 3, 4, 5] rfl rfl (fun _ => (rfl : ([so, ak, af, ab, aa] : List Nat) = [so, ak, af, ab, aa])) (by decide) ⟨Nat.zero_le _, Nat.zero_le _⟩ hl.1 rfl (Nat.le_of_ble_eq_true rfl) dX1_thing_136 (fun r _ H locs hr hw => ?_)
      have hw : Wd G (fA [(h0, .inr (1, [.ref so, .ref to, .ref uo, .int (nI im), .ref x5, .int (nI lm), .ref x6, .int (nI rm), .ref x7, .ref x8, .int sd])), (so, .inr (0, [.int (nI (sN R)), .int (nI (R 0 1)), .int (nI (sF R)), .int (nI (sS R)), .int (nI (sL R)), .ref ak, .ref af, .ref ab, .ref aa])), (ak, aI G 10 (sK R)), (af, aI G 10 (sG R)), (ab, aI G 10 (sO R)), (aa, aI G 10 (sA R)), (x7, aI G 7 (cN rf))]) s [(h0, .inr (1, [.ref so, .ref to, .ref uo, .int (nI im), .ref x5, .int (nI lm), .ref x6, .int (nI rm), .ref x7, .ref x8, .int sd])), (so, .inr (0, [.int (nI (sN R)), .int (nI (R 0 1)), .int (nI (sF R)), .int (nI (sS R)), .int (nI (sL R)), .ref ak, .ref af, .ref ab, .ref aa])), (ak, aI G 10 (sK R)), (af, aI G 10 (sG R)), (ab, aI G 10 (sO R)), (aa, aI G 10 (sA R)), (x7, aI G 7 (cN rf))] H locs := hw
      subst hr
      have hM := kX1_bit l G (if ((0 ≤ xz ∧ xz < ((R 0 0 : Nat) : Int)) ∧ R 4 xz.toNat = 0) ∧ grdF R xz.toNat = true then 1 else 0) (b01 _)
      refine cs_i C hw hM ysX1_bit ml_X1_83 rfl [] rfl rfl (fun _ => (rfl : ([] : List Nat) = [])) (by decide) ⟨Nat.zero_le _, Nat.zero_le _⟩ hl.1 rfl (Nat.le_of_ble_eq_true rfl) dX1_thing_139 (fun r _ H locs hr hw => ?_)
      have hw : Wd G (fA [(h0, .inr (1, [.ref so, .ref to, .ref uo, .int (nI im), .ref x5, .int (nI lm), .ref x6, .int (nI rm), .ref x7, .ref x8, .int sd])), (so, .inr (0, [.int (nI (sN R)), .int (nI (R 0 1)), .int (nI (sF R)), .int (nI (sS R)), .int (nI (sL R)), .ref ak, .ref af, .ref ab, .ref aa])), (ak, aI G 10 (sK R)), (af, aI G 10 (sG R)), (ab, aI G 10 (sO R)), (aa, aI G 10 (sA R)), (x7, aI G 7 (cN rf))]) s [(h0, .inr (1, [.ref so, .ref to, .ref uo, .int (nI im), .ref x5, .int (nI lm), .ref x6, .int (nI rm), .ref x7, .ref x8, .int sd])), (so, .inr (0, [.int (nI (sN R)), .int (nI (R 0 1)), .int (nI (sF R)), .int (nI (sS R)), .int (nI (sL R)), .ref ak, .ref af, .ref ab, .ref aa])), (ak, aI G 10 (sK R)), (af, aI G 10 (sG R)), (ab, aI G 10 (sO R)), (aa, aI G 10 (sA R)), (x7, aI G 7 (cN rf))] H locs := hw
      subst hr
      refine re_i (vThing R xz.toNat wwz) (by rw [vThing_7 (R := R) (k := xz.toNat) (w := wwz) (by omega), held_0 hp]; exact if_tt ⟨fun h => ⟨h.1.2, h.2⟩, fun h => ⟨⟨g1, h.1⟩, h.2⟩⟩) ?_
      have hc : cThing R xz wwz = 0 := by first | assumption | rfl
      exact rt_i C hw () (by exact (anI_0 hc _).symm) (by rw [rfU_0 hc]) dX1_thing_142
  · skip
    have c_13 := g0_n c_13
    refine lv_aload_n xx xb dX1_thing_16 rfl (lv_at hl 1 rfl) ?_
    refine lv_iload_n xx xb dX1_thing_17 rfl (lv_at hl 0 rfl) ?_
    have hM := kX1_refuse l G h0 so to uo x5 x6 x7 x8 im lm rm sd rf (cThing R xz wwz) (by first | assumption | omega)
    refine cv_i C hw hM yvX1_refuse ml_X1_43 0 rfl rfl rfl [0, 6] rfl rfl (fun _ => (rfl : ([h0, x7] : List Nat) = [h0, x7])) (by decide) ⟨Nat.zero_le _, Nat.zero_le _⟩ hl.1 rfl (Nat.le_of_ble_eq_true rfl) dX1_thing_18 (fun r _ H locs hr hw => ?_)
    have hw : Wd G (fA [(h0, .inr (1, [.ref so, .ref to, .ref uo, .int (nI im), .ref x5, .int (nI lm), .ref x6, .int (nI rm), .ref x7, .ref x8, .int sd])), (so, .inr (0, [.int (nI (sN R)), .int (nI (R 0 1)), .int (nI (sF R)), .int (nI (sS R)), .int (nI (sL R)), .ref ak, .ref af, .ref ab, .ref aa])), (ak, aI G 10 (sK R)), (af, aI G 10 (sG R)), (ab, aI G 10 (sO R)), (aa, aI G 10 (sA R)), (x7, aI G 7 (cN rf))]) s [(h0, .inr (1, [.ref so, .ref to, .ref uo, .int (nI im), .ref x5, .int (nI lm), .ref x6, .int (nI rm), .ref x7, .ref x8, .int sd])), (so, .inr (0, [.int (nI (sN R)), .int (nI (R 0 1)), .int (nI (sF R)), .int (nI (sS R)), .int (nI (sL R)), .ref ak, .ref af, .ref ab, .ref aa])), (ak, aI G 10 (sK R)), (af, aI G 10 (sG R)), (ab, aI G 10 (sO R)), (aa, aI G 10 (sA R)), (x7, aI G 7 (cN (upN rf (cThing R xz wwz) (rf (cThing R xz wwz) + 1))))] H locs := hw
    subst hr
    have hc : cThing R xz wwz = (cThing R xz wwz) := by first | assumption | rfl
    have hj : (cThing R xz wwz) ≠ 0 := by omega
    exact rt_i C hw () (by exact (anI_r hc hj _).symm) (by rw [rfU_r hc hj]) dX1_thing_21
set_option maxRecDepth 100000 in
set_option maxHeartbeats 4000000 in
theorem kX1_behind (l : Launch) (G : GT) (h0 : Nat) (so : Nat) (to : Nat) (uo : Nat) (x5 : Nat) (x6 : Nat) (x7 : Nat) (x8 : Nat) (im : Nat) (lm : Nat) (rm : Nat) (sd : Int32) (rf : Nat → Nat) (ak : Nat) (af : Nat) (ab : Nat) (aa : Nat) (R : RT) (tk : Nat) (tf : Nat) (tb : Nat) (ta : Nat) (m0 : Nat) (S : RT) (x : Int32) (xz : Int) (n : Int32) (nz : Int) (ww : Int32) (wwz : Int) (h_x : x.toInt = xz) (h_n : n.toInt = nz) (h_ww : ww.toInt = wwz) (hR : OK R) (hK : AK R) (hp : R 0 3 = 0) : Ct l yX1_behind cX1_behind 6 (some .int) 4 100 [.ref h0, .int x, .int n, .int ww] G [(h0, .inr (1, [.ref so, .ref to, .ref uo, .int (nI im), .ref x5, .int (nI lm), .ref x6, .int (nI rm), .ref x7, .ref x8, .int sd])), (so, .inr (0, [.int (nI (sN R)), .int (nI (R 0 1)), .int (nI (sF R)), .int (nI (sS R)), .int (nI (sL R)), .ref ak, .ref af, .ref ab, .ref aa])), (ak, aI G 10 (sK R)), (af, aI G 10 (sG R)), (ab, aI G 10 (sO R)), (aa, aI G 10 (sA R)), (to, .inr (0, [.int (nI (sN S)), .int (nI m0), .int (nI (sF S)), .int (nI (sS S)), .int (nI (sL S)), .ref tk, .ref tf, .ref tb, .ref ta])), (tk, aI G 10 (sK S)), (tf, aI G 10 (sG S)), (tb, aI G 10 (sO S)), (ta, aI G 10 (sA S)), (x7, aI G 7 (cN rf))] (QI G [(h0, .inr (1, [.ref so, .ref to, .ref uo, .int (nI im), .ref x5, .int (nI lm), .ref x6, .int (nI rm), .ref x7, .ref x8, .int sd])), (so, .inr (0, [.int (nI (sN R)), .int (nI (R 0 1)), .int (nI (sF R)), .int (nI (sS R)), .int (nI (sL R)), .ref ak, .ref af, .ref ab, .ref aa])), (ak, aI G 10 (sK R)), (af, aI G 10 (sG R)), (ab, aI G 10 (sO R)), (aa, aI G 10 (sA R)), (to, .inr (0, [.int (nI (sN S)), .int (nI m0), .int (nI (sF S)), .int (nI (sS S)), .int (nI (sL S)), .ref tk, .ref tf, .ref tb, .ref ta])), (tk, aI G 10 (sK S)), (tf, aI G 10 (sG S)), (tb, aI G 10 (sO S)), (ta, aI G 10 (sA S)), (x7, aI G 7 (cN rf))] (fun (r : Int32) (u : Unit) => r = anI (cBeh R xz nz wwz) (vBeh R xz.toNat nz.toNat wwz)) (fun u => [(h0, .inr (1, [.ref so, .ref to, .ref uo, .int (nI im), .ref x5, .int (nI lm), .ref x6, .int (nI rm), .ref x7, .ref x8, .int sd])), (so, .inr (0, [.int (nI (sN R)), .int (nI (R 0 1)), .int (nI (sF R)), .int (nI (sS R)), .int (nI (sL R)), .ref ak, .ref af, .ref ab, .ref aa])), (ak, aI G 10 (sK R)), (af, aI G 10 (sG R)), (ab, aI G 10 (sO R)), (aa, aI G 10 (sA R)), (to, .inr (0, [.int (nI (sN (selR (cBeh R xz nz wwz) (itF R nz.toNat) S))), .int (nI (selN (cBeh R xz nz wwz) (R 0 1 + nz.toNat) m0)), .int (nI (sF (selR (cBeh R xz nz wwz) (itF R nz.toNat) S))), .int (nI (sS (selR (cBeh R xz nz wwz) (itF R nz.toNat) S))), .int (nI (sL (selR (cBeh R xz nz wwz) (itF R nz.toNat) S))), .ref tk, .ref tf, .ref tb, .ref ta])), (tk, aI G 10 (sK (selR (cBeh R xz nz wwz) (itF R nz.toNat) S))), (tf, aI G 10 (sG (selR (cBeh R xz nz wwz) (itF R nz.toNat) S))), (tb, aI G 10 (sO (selR (cBeh R xz nz wwz) (itF R nz.toNat) S))), (ta, aI G 10 (sA (selR (cBeh R xz nz wwz) (itF R nz.toNat) S))), (x7, aI G 7 (cN (rfU rf (cBeh R xz nz wwz))))])) := by
  refine en (by decide +kernel) (Nat.le_of_ble_eq_true rfl) ?_
  intro p e s m below meth c ls H locs C hl hw
  have xx := C.1
  have xb := C.2.1
  have hw : Wd G (fA [(h0, .inr (1, [.ref so, .ref to, .ref uo, .int (nI im), .ref x5, .int (nI lm), .ref x6, .int (nI rm), .ref x7, .ref x8, .int sd])), (so, .inr (0, [.int (nI (sN R)), .int (nI (R 0 1)), .int (nI (sF R)), .int (nI (sS R)), .int (nI (sL R)), .ref ak, .ref af, .ref ab, .ref aa])), (ak, aI G 10 (sK R)), (af, aI G 10 (sG R)), (ab, aI G 10 (sO R)), (aa, aI G 10 (sA R)), (to, .inr (0, [.int (nI (sN S)), .int (nI m0), .int (nI (sF S)), .int (nI (sS S)), .int (nI (sL S)), .ref tk, .ref tf, .ref tb, .ref ta])), (tk, aI G 10 (sK S)), (tf, aI G 10 (sG S)), (tb, aI G 10 (sO S)), (ta, aI G 10 (sA S)), (x7, aI G 7 (cN rf))]) s [(h0, .inr (1, [.ref so, .ref to, .ref uo, .int (nI im), .ref x5, .int (nI lm), .ref x6, .int (nI rm), .ref x7, .ref x8, .int sd])), (so, .inr (0, [.int (nI (sN R)), .int (nI (R 0 1)), .int (nI (sF R)), .int (nI (sS R)), .int (nI (sL R)), .ref ak, .ref af, .ref ab, .ref aa])), (ak, aI G 10 (sK R)), (af, aI G 10 (sG R)), (ab, aI G 10 (sO R)), (aa, aI G 10 (sA R)), (to, .inr (0, [.int (nI (sN S)), .int (nI m0), .int (nI (sF S)), .int (nI (sS S)), .int (nI (sL S)), .ref tk, .ref tf, .ref tb, .ref ta])), (tk, aI G 10 (sK S)), (tf, aI G 10 (sG S)), (tb, aI G 10 (sO S)), (ta, aI G 10 (sA S)), (x7, aI G 7 (cN rf))] H locs := hw
  have hl : lv_has ls 6 [(0, .ref h0), (1, .int x), (2, .int n), (3, .int ww)] := hl
  obtain ⟨hn, hf0, hpr, hA⟩ := id hR
  have hc6 := cBeh_le R xz nz wwz
  have hw6 := wlN_le nz 0 99
  have ho2 := otN_le wwz 2
  refine lv_iload_n xx xb dX1_behind_0 rfl (lv_at hl 2 rfl) ?_
  refine lv_iconst (v := nI 0) xx xb dX1_behind_1 (by decide) ?_
  refine lv_bipush (v := nI 99) xx xb dX1_behind_2 (by decide) ?_
  have hM := kX1_outside l G n nz (nI 0) 0 (nI 99) 99 h_n (tN (by omega)) (tN (by omega))
  refine cs_i C hw hM ysX1_outside ml_X1_35 rfl [] rfl rfl (fun _ => (rfl : ([] : List Nat) = [])) (by decide) ⟨Nat.zero_le _, Nat.zero_le _⟩ hl.1 rfl (Nat.le_of_ble_eq_true rfl) dX1_behind_4 (fun r _ H locs hr hw => ?_)
  have hw : Wd G (fA [(h0, .inr (1, [.ref so, .ref to, .ref uo, .int (nI im), .ref x5, .int (nI lm), .ref x6, .int (nI rm), .ref x7, .ref x8, .int sd])), (so, .inr (0, [.int (nI (sN R)), .int (nI (R 0 1)), .int (nI (sF R)), .int (nI (sS R)), .int (nI (sL R)), .ref ak, .ref af, .ref ab, .ref aa])), (ak, aI G 10 (sK R)), (af, aI G 10 (sG R)), (ab, aI G 10 (sO R)), (aa, aI G 10 (sA R)), (to, .inr (0, [.int (nI (sN S)), .int (nI m0), .int (nI (sF S)), .int (nI (sS S)), .int (nI (sL S)), .ref tk, .ref tf, .ref tb, .ref ta])), (tk, aI G 10 (sK S)), (tf, aI G 10 (sG S)), (tb, aI G 10 (sO S)), (ta, aI G 10 (sA S)), (x7, aI G 7 (cN rf))]) s [(h0, .inr (1, [.ref so, .ref to, .ref uo, .int (nI im), .ref x5, .int (nI lm), .ref x6, .int (nI rm), .ref x7, .ref x8, .int sd])), (so, .inr (0, [.int (nI (sN R)), .int (nI (R 0 1)), .int (nI (sF R)), .int (nI (sS R)), .int (nI (sL R)), .ref ak, .ref af, .ref ab, .ref aa])), (ak, aI G 10 (sK R)), (af, aI G 10 (sG R)), (ab, aI G 10 (sO R)), (aa, aI G 10 (sA R)), (to, .inr (0, [.int (nI (sN S)), .int (nI m0), .int (nI (sF S)), .int (nI (sS S)), .int (nI (sL S)), .ref tk, .ref tf, .ref tb, .ref ta])), (tk, aI G 10 (sK S)), (tf, aI G 10 (sG S)), (tb, aI G 10 (sO S)), (ta, aI G 10 (sA S)), (x7, aI G 7 (cN rf))] H locs := hw
  subst hr
  refine lv_iload_n xx xb dX1_behind_7 rfl (lv_at hl 3 rfl) ?_
  refine lv_iconst (v := nI 2) xx xb dX1_behind_8 (by decide) ?_
  have hM := kX1_otherThan l G ww wwz (nI 2) 2 h_ww (tN (by omega))
  refine cs_i C hw hM ysX1_otherThan ml_X1_51 rfl [] rfl rfl (fun _ => (rfl : ([] : List Nat) = [])) (by decide) ⟨Nat.zero_le _, Nat.zero_le _⟩ hl.1 rfl (Nat.le_of_ble_eq_true rfl) dX1_behind_9 (fun r _ H locs hr hw => ?_)
  have hw : Wd G (fA [(h0, .inr (1, [.ref so, .ref to, .ref uo, .int (nI im), .ref x5, .int (nI lm), .ref x6, .int (nI rm), .ref x7, .ref x8, .int sd])), (so, .inr (0, [.int (nI (sN R)), .int (nI (R 0 1)), .int (nI (sF R)), .int (nI (sS R)), .int (nI (sL R)), .ref ak, .ref af, .ref ab, .ref aa])), (ak, aI G 10 (sK R)), (af, aI G 10 (sG R)), (ab, aI G 10 (sO R)), (aa, aI G 10 (sA R)), (to, .inr (0, [.int (nI (sN S)), .int (nI m0), .int (nI (sF S)), .int (nI (sS S)), .int (nI (sL S)), .ref tk, .ref tf, .ref tb, .ref ta])), (tk, aI G 10 (sK S)), (tf, aI G 10 (sG S)), (tb, aI G 10 (sO S)), (ta, aI G 10 (sA S)), (x7, aI G 7 (cN rf))]) s [(h0, .inr (1, [.ref so, .ref to, .ref uo, .int (nI im), .ref x5, .int (nI lm), .ref x6, .int (nI rm), .ref x7, .ref x8, .int sd])), (so, .inr (0, [.int (nI (sN R)), .int (nI (R 0 1)), .int (nI (sF R)), .int (nI (sS R)), .int (nI (sL R)), .ref ak, .ref af, .ref ab, .ref aa])), (ak, aI G 10 (sK R)), (af, aI G 10 (sG R)), (ab, aI G 10 (sO R)), (aa, aI G 10 (sA R)), (to, .inr (0, [.int (nI (sN S)), .int (nI m0), .int (nI (sF S)), .int (nI (sS S)), .int (nI (sL S)), .ref tk, .ref tf, .ref tb, .ref ta])), (tk, aI G 10 (sK S)), (tf, aI G 10 (sG S)), (tb, aI G 10 (sO S)), (ta, aI G 10 (sA S)), (x7, aI G 7 (cN rf))] H locs := hw
  subst hr
  have hM := kX1_firstOf l G (wlN nz 0 99) (otN wwz 2) (by omega)
  refine cs_i C hw hM ysX1_firstOf ml_X1_115 rfl [] rfl rfl (fun _ => (rfl : ([] : List Nat) = [])) (by decide) ⟨Nat.zero_le _, Nat.zero_le _⟩ hl.1 rfl (Nat.le_of_ble_eq_true rfl) dX1_behind_12 (fun r _ H locs hr hw => ?_)
  have hw : Wd G (fA [(h0, .inr (1, [.ref so, .ref to, .ref uo, .int (nI im), .ref x5, .int (nI lm), .ref x6, .int (nI rm), .ref x7, .ref x8, .int sd])), (so, .inr (0, [.int (nI (sN R)), .int (nI (R 0 1)), .int (nI (sF R)), .int (nI (sS R)), .int (nI (sL R)), .ref ak, .ref af, .ref ab, .ref aa])), (ak, aI G 10 (sK R)), (af, aI G 10 (sG R)), (ab, aI G 10 (sO R)), (aa, aI G 10 (sA R)), (to, .inr (0, [.int (nI (sN S)), .int (nI m0), .int (nI (sF S)), .int (nI (sS S)), .int (nI (sL S)), .ref tk, .ref tf, .ref tb, .ref ta])), (tk, aI G 10 (sK S)), (tf, aI G 10 (sG S)), (tb, aI G 10 (sO S)), (ta, aI G 10 (sA S)), (x7, aI G 7 (cN rf))]) s [(h0, .inr (1, [.ref so, .ref to, .ref uo, .int (nI im), .ref x5, .int (nI lm), .ref x6, .int (nI rm), .ref x7, .ref x8, .int sd])), (so, .inr (0, [.int (nI (sN R)), .int (nI (R 0 1)), .int (nI (sF R)), .int (nI (sS R)), .int (nI (sL R)), .ref ak, .ref af, .ref ab, .ref aa])), (ak, aI G 10 (sK R)), (af, aI G 10 (sG R)), (ab, aI G 10 (sO R)), (aa, aI G 10 (sA R)), (to, .inr (0, [.int (nI (sN S)), .int (nI m0), .int (nI (sF S)), .int (nI (sS S)), .int (nI (sL S)), .ref tk, .ref tf, .ref tb, .ref ta])), (tk, aI G 10 (sK S)), (tf, aI G 10 (sG S)), (tb, aI G 10 (sO S)), (ta, aI G 10 (sA S)), (x7, aI G 7 (cN rf))] H locs := hw
  subst hr
  refine lv_istore (lv' := [(4, .int (nG (foN (wlN nz 0 99) (otN wwz 2)))), (0, .ref h0), (1, .int x), (2, .int n), (3, .int ww)]) xx xb dX1_behind_15 hl (by decide) rfl (fun ls hl => ?_)
  refine lv_aload_n xx xb dX1_behind_17 rfl (lv_at hl 1 rfl) ?_
  refine lv_iload_n xx xb dX1_behind_18 rfl (lv_at hl 2 rfl) ?_
  refine lv_iload xx xb dX1_behind_19 (lv_at hl 0 rfl) ?_
  have hM := kX1_refusalOfThing l G h0 so to uo x5 x6 x7 x8 im lm rm sd ak af ab aa (R 0 1) R (foN (wlN nz 0 99) (otN wwz 2)) x xz h_x (by first | assumption | omega)
  refine cv_i C hw hM yvX1_refusalOfThing ml_X1_55 0 rfl rfl rfl [0, 1, 2, 3, 4, 5] rfl rfl (fun _ => (rfl : ([h0, so, ak, af, ab, aa] : List Nat) = [h0, so, ak, af, ab, aa])) (by decide) ⟨Nat.zero_le _, Nat.zero_le _⟩ hl.1 rfl (Nat.le_of_ble_eq_true rfl) dX1_behind_21 (fun r _ H locs hr hw => ?_)
  have hw : Wd G (fA [(h0, .inr (1, [.ref so, .ref to, .ref uo, .int (nI im), .ref x5, .int (nI lm), .ref x6, .int (nI rm), .ref x7, .ref x8, .int sd])), (so, .inr (0, [.int (nI (sN R)), .int (nI (R 0 1)), .int (nI (sF R)), .int (nI (sS R)), .int (nI (sL R)), .ref ak, .ref af, .ref ab, .ref aa])), (ak, aI G 10 (sK R)), (af, aI G 10 (sG R)), (ab, aI G 10 (sO R)), (aa, aI G 10 (sA R)), (to, .inr (0, [.int (nI (sN S)), .int (nI m0), .int (nI (sF S)), .int (nI (sS S)), .int (nI (sL S)), .ref tk, .ref tf, .ref tb, .ref ta])), (tk, aI G 10 (sK S)), (tf, aI G 10 (sG S)), (tb, aI G 10 (sO S)), (ta, aI G 10 (sA S)), (x7, aI G 7 (cN rf))]) s [(h0, .inr (1, [.ref so, .ref to, .ref uo, .int (nI im), .ref x5, .int (nI lm), .ref x6, .int (nI rm), .ref x7, .ref x8, .int sd])), (so, .inr (0, [.int (nI (sN R)), .int (nI (R 0 1)), .int (nI (sF R)), .int (nI (sS R)), .int (nI (sL R)), .ref ak, .ref af, .ref ab, .ref aa])), (ak, aI G 10 (sK R)), (af, aI G 10 (sG R)), (ab, aI G 10 (sO R)), (aa, aI G 10 (sA R)), (to, .inr (0, [.int (nI (sN S)), .int (nI m0), .int (nI (sF S)), .int (nI (sS S)), .int (nI (sL S)), .ref tk, .ref tf, .ref tb, .ref ta])), (tk, aI G 10 (sK S)), (tf, aI G 10 (sG S)), (tb, aI G 10 (sO S)), (ta, aI G 10 (sA S)), (x7, aI G 7 (cN rf))] H locs := hw
  subst hr
  refine re_i (nG (cBeh R xz nz wwz)) (congrArg nG be_eq) ?_
  refine lv_istore (lv' := [(5, .int (nG (cBeh R xz nz wwz))), (4, .int (nG (foN (wlN nz 0 99) (otN wwz 2)))), (0, .ref h0), (1, .int x), (2, .int n), (3, .int ww)]) xx xb dX1_behind_24 hl (by decide) rfl (fun ls hl => ?_)
  refine lv_iload xx xb dX1_behind_26 (lv_at hl 0 rfl) ?_
  refine lv_if_eq (tgt := 38) xx xb dX1_behind_28 (by decide) (fun c_28 => ?_) (fun c_28 => ?_)
  · skip
    have c_28 := g0_c (by omega) c_28
    obtain ⟨g1, g2, g3⟩ := cBeh_0 c_28
    refine lv_aload_n xx xb dX1_behind_38 rfl (lv_at hl 2 rfl) ?_
    refine m_get C hw 0 rfl fk_X1_16 rfl dX1_behind_39 ?_
    refine lv_aload_n xx xb dX1_behind_42 rfl (lv_at hl 2 rfl) ?_
    refine m_get C hw 0 rfl fk_X1_10 rfl dX1_behind_43 ?_
    have hM := kX0_copyFrom l G to tk tf tb ta m0 S so ak af ab aa (R 0 1) R (by first | assumption | omega)
    refine cv_v C hw hM yvX0_copyFrom ml_X1_131 6 rfl rfl rfl [6, 7, 8, 9, 10, 1, 2, 3, 4, 5] rfl rfl (fun _ => (rfl : ([to, tk, tf, tb, ta, so, ak, af, ab, aa] : List Nat) = [to, tk, tf, tb, ta, so, ak, af, ab, aa])) (by decide) ⟨Nat.zero_le _, Nat.zero_le _⟩ hl.1 rfl (Nat.le_of_ble_eq_true rfl) dX1_behind_46 (fun _ H locs hr hw => ?_)
    have hw : Wd G (fA [(h0, .inr (1, [.ref so, .ref to, .ref uo, .int (nI im), .ref x5, .int (nI lm), .ref x6, .int (nI rm), .ref x7, .ref x8, .int sd])), (so, .inr (0, [.int (nI (sN R)), .int (nI (R 0 1)), .int (nI (sF R)), .int (nI (sS R)), .int (nI (sL R)), .ref ak, .ref af, .ref ab, .ref aa])), (ak, aI G 10 (sK R)), (af, aI G 10 (sG R)), (ab, aI G 10 (sO R)), (aa, aI G 10 (sA R)), (to, .inr (0, [.int (nI (sN S)), .int (nI m0), .int (nI (sF S)), .int (nI (sS S)), .int (nI (sL S)), .ref tk, .ref tf, .ref tb, .ref ta])), (tk, aI G 10 (sK S)), (tf, aI G 10 (sG S)), (tb, aI G 10 (sO S)), (ta, aI G 10 (sA S)), (x7, aI G 7 (cN rf))]) s [(h0, .inr (1, [.ref so, .ref to, .ref uo, .int (nI im), .ref x5, .int (nI lm), .ref x6, .int (nI rm), .ref x7, .ref x8, .int sd])), (so, .inr (0, [.int (nI (sN R)), .int (nI (R 0 1)), .int (nI (sF R)), .int (nI (sS R)), .int (nI (sL R)), .ref ak, .ref af, .ref ab, .ref aa])), (ak, aI G 10 (sK R)), (af, aI G 10 (sG R)), (ab, aI G 10 (sO R)), (aa, aI G 10 (sA R)), (to, .inr (0, [.int (nI (sN R)), .int (nI (R 0 1)), .int (nI (sF R)), .int (nI (sS R)), .int (nI (sL R)), .ref tk, .ref tf, .ref tb, .ref ta])), (tk, aI G 10 (sK R)), (tf, aI G 10 (sG R)), (tb, aI G 10 (sO R)), (ta, aI G 10 (sA R)), (x7, aI G 7 (cN rf))] H locs := hw
    refine lv_aload_n xx xb dX1_behind_49 rfl (lv_at hl 2 rfl) ?_
    refine m_get C hw 0 rfl fk_X1_16 rfl dX1_behind_50 ?_
    refine lv_iload_n xx xb dX1_behind_53 rfl (lv_at hl 4 rfl) ?_
    refine re_i (nI nz.toNat) (ofT h_n (by omega) (by omega)) ?_
    have hM := kX0_passMinutes l G to tk tf tb ta (R 0 1) R nz.toNat (by first | assumption | omega) (by first | assumption | omega) (by first | assumption | omega) (by first | assumption | omega)
    refine cv_v C hw hM yvX0_passMinutes ml_X1_125 6 rfl rfl rfl [6, 7, 8, 9, 10] rfl rfl (fun _ => (rfl : ([to, tk, tf, tb, ta] : List Nat) = [to, tk, tf, tb, ta])) (by decide) ⟨Nat.zero_le _, Nat.zero_le _⟩ hl.1 rfl (Nat.le_of_ble_eq_true rfl) dX1_behind_54 (fun _ H locs hr hw => ?_)
    have hw : Wd G (fA [(h0, .inr (1, [.ref so, .ref to, .ref uo, .int (nI im), .ref x5, .int (nI lm), .ref x6, .int (nI rm), .ref x7, .ref x8, .int sd])), (so, .inr (0, [.int (nI (sN R)), .int (nI (R 0 1)), .int (nI (sF R)), .int (nI (sS R)), .int (nI (sL R)), .ref ak, .ref af, .ref ab, .ref aa])), (ak, aI G 10 (sK R)), (af, aI G 10 (sG R)), (ab, aI G 10 (sO R)), (aa, aI G 10 (sA R)), (to, .inr (0, [.int (nI (sN S)), .int (nI m0), .int (nI (sF S)), .int (nI (sS S)), .int (nI (sL S)), .ref tk, .ref tf, .ref tb, .ref ta])), (tk, aI G 10 (sK S)), (tf, aI G 10 (sG S)), (tb, aI G 10 (sO S)), (ta, aI G 10 (sA S)), (x7, aI G 7 (cN rf))]) s [(h0, .inr (1, [.ref so, .ref to, .ref uo, .int (nI im), .ref x5, .int (nI lm), .ref x6, .int (nI rm), .ref x7, .ref x8, .int sd])), (so, .inr (0, [.int (nI (sN R)), .int (nI (R 0 1)), .int (nI (sF R)), .int (nI (sS R)), .int (nI (sL R)), .ref ak, .ref af, .ref ab, .ref aa])), (ak, aI G 10 (sK R)), (af, aI G 10 (sG R)), (ab, aI G 10 (sO R)), (aa, aI G 10 (sA R)), (to, .inr (0, [.int (nI (sN (itF R nz.toNat))), .int (nI ((R 0 1) + nz.toNat)), .int (nI (sF (itF R nz.toNat))), .int (nI (sS (itF R nz.toNat))), .int (nI (sL (itF R nz.toNat))), .ref tk, .ref tf, .ref tb, .ref ta])), (tk, aI G 10 (sK (itF R nz.toNat))), (tf, aI G 10 (sG (itF R nz.toNat))), (tb, aI G 10 (sO (itF R nz.toNat))), (ta, aI G 10 (sA (itF R nz.toNat))), (x7, aI G 7 (cN rf))] H locs := hw
    have hS := OK_itF hR nz.toNat
    refine lv_iload_n xx xb dX1_behind_57 rfl (lv_at hl 5 rfl) ?_
    by_cases k_58_0 : ww = nI 0
    · skip
      refine re_i (nI 0) k_58_0 ?_
      refine lv_lookup (off := 26) (tgt := 84) xx xb dX1_behind_58 (by decide +kernel) (by decide +kernel) (by decide) ?_
      have w0 : wwz = 0 := by rw [← h_ww, k_58_0]; rfl
      refine lv_aload_n xx xb dX1_behind_84 rfl (lv_at hl 2 rfl) ?_
      refine m_get C hw 0 rfl fk_X1_16 rfl dX1_behind_85 ?_
      refine lv_iload_n xx xb dX1_behind_88 rfl (lv_at hl 3 rfl) ?_
      have hM := kX0_stateOf l G to tk tf tb ta ((R 0 1) + nz.toNat) (itF R nz.toNat) x xz h_x hS (⟨g1.1, by rw [itF_00]; exact g1.2⟩)
      refine cv_i C hw hM yvX0_stateOf ml_X1_67 6 rfl rfl rfl [6, 7, 8, 9, 10] rfl rfl (fun _ => (rfl : ([to, tk, tf, tb, ta] : List Nat) = [to, tk, tf, tb, ta])) (by decide) ⟨Nat.zero_le _, Nat.zero_le _⟩ hl.1 rfl (Nat.le_of_ble_eq_true rfl) dX1_behind_89 (fun r _ H locs hr hw => ?_)
      have hw : Wd G (fA [(h0, .inr (1, [.ref so, .ref to, .ref uo, .int (nI im), .ref x5, .int (nI lm), .ref x6, .int (nI rm), .ref x7, .ref x8, .int sd])), (so, .inr (0, [.int (nI (sN R)), .int (nI (R 0 1)), .int (nI (sF R)), .int (nI (sS R)), .int (nI (sL R)), .ref ak, .ref af, .ref ab, .ref aa])), (ak, aI G 10 (sK R)), (af, aI G 10 (sG R)), (ab, aI G 10 (sO R)), (aa, aI G 10 (sA R)), (to, .inr (0, [.int (nI (sN S)), .int (nI m0), .int (nI (sF S)), .int (nI (sS S)), .int (nI (sL S)), .ref tk, .ref tf, .ref tb, .ref ta])), (tk, aI G 10 (sK S)), (tf, aI G 10 (sG S)), (tb, aI G 10 (sO S)), (ta, aI G 10 (sA S)), (x7, aI G 7 (cN rf))]) s [(h0, .inr (1, [.ref so, .ref to, .ref uo, .int (nI im), .ref x5, .int (nI lm), .ref x6, .int (nI rm), .ref x7, .ref x8, .int sd])), (so, .inr (0, [.int (nI (sN R)), .int (nI (R 0 1)), .int (nI (sF R)), .int (nI (sS R)), .int (nI (sL R)), .ref ak, .ref af, .ref ab, .ref aa])), (ak, aI G 10 (sK R)), (af, aI G 10 (sG R)), (ab, aI G 10 (sO R)), (aa, aI G 10 (sA R)), (to, .inr (0, [.int (nI (sN (itF R nz.toNat))), .int (nI ((R 0 1) + nz.toNat)), .int (nI (sF (itF R nz.toNat))), .int (nI (sS (itF R nz.toNat))), .int (nI (sL (itF R nz.toNat))), .ref tk, .ref tf, .ref tb, .ref ta])), (tk, aI G 10 (sK (itF R nz.toNat))), (tf, aI G 10 (sG (itF R nz.toNat))), (tb, aI G 10 (sO (itF R nz.toNat))), (ta, aI G 10 (sA (itF R nz.toNat))), (x7, aI G 7 (cN rf))] H locs := hw
      subst hr
      refine re_i (vBeh R xz.toNat nz.toNat wwz) (by unfold vBeh; rw [if_pos w0]) ?_
      have hc : cBeh R xz nz wwz = 0 := by first | assumption | rfl
      exact rt_i C hw () (by exact (anI_0 hc _).symm) (by rw [rfU_0 hc, selR_0 hc, selN_0 hc]) dX1_behind_92
    have zk_58_0 := ne_c h_ww (tN (by decide)) k_58_0
    by_cases k_58_1 : ww = nI 1
    · skip
      refine re_i (nI 1) k_58_1 ?_
      refine lv_lookup (off := 35) (tgt := 93) xx xb dX1_behind_58 (by decide +kernel) (by decide +kernel) (by decide) ?_
      have w1 : wwz = 1 := by rw [← h_ww, k_58_1]; rfl
      refine lv_aload_n xx xb dX1_behind_93 rfl (lv_at hl 2 rfl) ?_
      refine m_get C hw 0 rfl fk_X1_16 rfl dX1_behind_94 ?_
      refine m_get C hw 6 rfl fk_X1_70 rfl dX1_behind_97 ?_
      refine lv_iload_n xx xb dX1_behind_100 rfl (lv_at hl 3 rfl) ?_
      refine re_i (nI xz.toNat) (ofT h_x (by omega) (by omega)) ?_
      refine m_ald C hw 10 rfl xz.toNat rfl (by omega) (by decide) dX1_behind_101 ?_
      refine re_i (nI ((itF R nz.toNat) 5 xz.toNat)) rfl ?_
      refine re_i (vBeh R xz.toNat nz.toNat wwz) (by unfold vBeh; rw [if_neg (by omega), if_pos w1]) ?_
      have hc : cBeh R xz nz wwz = 0 := by first | assumption | rfl
      exact rt_i C hw () (by exact (anI_0 hc _).symm) (by rw [rfU_0 hc, selR_0 hc, selN_0 hc]) dX1_behind_102
    have zk_58_1 := ne_c h_ww (tN (by decide)) k_58_1
    · skip
      refine lv_lookup (off := 45) (tgt := 103) xx xb dX1_behind_58 (by decide +kernel) (by show Op.lookupswitch.offset [(0, 26), (1, 35)] 45 (ww).toInt = 45; rw [lv_osw (k := nI 0) k_58_0 (by decide +kernel), lv_osw (k := nI 1) k_58_1 (by decide +kernel)]; rfl) (by decide) ?_
      refine lv_aload_n xx xb dX1_behind_103 rfl (lv_at hl 2 rfl) ?_
      refine m_get C hw 0 rfl fk_X1_16 rfl dX1_behind_104 ?_
      have hM := kX0_countStanding l G to tk tf tb ta ((R 0 1) + nz.toNat) (itF R nz.toNat) hS
      refine cv_i C hw hM yvX0_countStanding ml_X1_128 6 rfl rfl rfl [6, 7, 8, 9, 10] rfl rfl (fun _ => (rfl : ([to, tk, tf, tb, ta] : List Nat) = [to, tk, tf, tb, ta])) (by decide) ⟨Nat.zero_le _, Nat.zero_le _⟩ hl.1 rfl (Nat.le_of_ble_eq_true rfl) dX1_behind_107 (fun r _ H locs hr hw => ?_)
      have hw : Wd G (fA [(h0, .inr (1, [.ref so, .ref to, .ref uo, .int (nI im), .ref x5, .int (nI lm), .ref x6, .int (nI rm), .ref x7, .ref x8, .int sd])), (so, .inr (0, [.int (nI (sN R)), .int (nI (R 0 1)), .int (nI (sF R)), .int (nI (sS R)), .int (nI (sL R)), .ref ak, .ref af, .ref ab, .ref aa])), (ak, aI G 10 (sK R)), (af, aI G 10 (sG R)), (ab, aI G 10 (sO R)), (aa, aI G 10 (sA R)), (to, .inr (0, [.int (nI (sN S)), .int (nI m0), .int (nI (sF S)), .int (nI (sS S)), .int (nI (sL S)), .ref tk, .ref tf, .ref tb, .ref ta])), (tk, aI G 10 (sK S)), (tf, aI G 10 (sG S)), (tb, aI G 10 (sO S)), (ta, aI G 10 (sA S)), (x7, aI G 7 (cN rf))]) s [(h0, .inr (1, [.ref so, .ref to, .ref uo, .int (nI im), .ref x5, .int (nI lm), .ref x6, .int (nI rm), .ref x7, .ref x8, .int sd])), (so, .inr (0, [.int (nI (sN R)), .int (nI (R 0 1)), .int (nI (sF R)), .int (nI (sS R)), .int (nI (sL R)), .ref ak, .ref af, .ref ab, .ref aa])), (ak, aI G 10 (sK R)), (af, aI G 10 (sG R)), (ab, aI G 10 (sO R)), (aa, aI G 10 (sA R)), (to, .inr (0, [.int (nI (sN (itF R nz.toNat))), .int (nI ((R 0 1) + nz.toNat)), .int (nI (sF (itF R nz.toNat))), .int (nI (sS (itF R nz.toNat))), .int (nI (sL (itF R nz.toNat))), .ref tk, .ref tf, .ref tb, .ref ta])), (tk, aI G 10 (sK (itF R nz.toNat))), (tf, aI G 10 (sG (itF R nz.toNat))), (tb, aI G 10 (sO (itF R nz.toNat))), (ta, aI G 10 (sA (itF R nz.toNat))), (x7, aI G 7 (cN rf))] H locs := hw
      subst hr
      refine re_i (vBeh R xz.toNat nz.toNat wwz) (by unfold vBeh; rw [if_neg (by omega), if_neg (by omega)]) ?_
      have hc : cBeh R xz nz wwz = 0 := by first | assumption | rfl
      exact rt_i C hw () (by exact (anI_0 hc _).symm) (by rw [rfU_0 hc, selR_0 hc, selN_0 hc]) dX1_behind_110
  · skip
    have c_28 := g0_n c_28
    refine lv_aload_n xx xb dX1_behind_31 rfl (lv_at hl 2 rfl) ?_
    refine lv_iload xx xb dX1_behind_32 (lv_at hl 0 rfl) ?_
    have hM := kX1_refuse l G h0 so to uo x5 x6 x7 x8 im lm rm sd rf (cBeh R xz nz wwz) (by first | assumption | omega)
    refine cv_i C hw hM yvX1_refuse ml_X1_43 0 rfl rfl rfl [0, 11] rfl rfl (fun _ => (rfl : ([h0, x7] : List Nat) = [h0, x7])) (by decide) ⟨Nat.zero_le _, Nat.zero_le _⟩ hl.1 rfl (Nat.le_of_ble_eq_true rfl) dX1_behind_34 (fun r _ H locs hr hw => ?_)
    have hw : Wd G (fA [(h0, .inr (1, [.ref so, .ref to, .ref uo, .int (nI im), .ref x5, .int (nI lm), .ref x6, .int (nI rm), .ref x7, .ref x8, .int sd])), (so, .inr (0, [.int (nI (sN R)), .int (nI (R 0 1)), .int (nI (sF R)), .int (nI (sS R)), .int (nI (sL R)), .ref ak, .ref af, .ref ab, .ref aa])), (ak, aI G 10 (sK R)), (af, aI G 10 (sG R)), (ab, aI G 10 (sO R)), (aa, aI G 10 (sA R)), (to, .inr (0, [.int (nI (sN S)), .int (nI m0), .int (nI (sF S)), .int (nI (sS S)), .int (nI (sL S)), .ref tk, .ref tf, .ref tb, .ref ta])), (tk, aI G 10 (sK S)), (tf, aI G 10 (sG S)), (tb, aI G 10 (sO S)), (ta, aI G 10 (sA S)), (x7, aI G 7 (cN rf))]) s [(h0, .inr (1, [.ref so, .ref to, .ref uo, .int (nI im), .ref x5, .int (nI lm), .ref x6, .int (nI rm), .ref x7, .ref x8, .int sd])), (so, .inr (0, [.int (nI (sN R)), .int (nI (R 0 1)), .int (nI (sF R)), .int (nI (sS R)), .int (nI (sL R)), .ref ak, .ref af, .ref ab, .ref aa])), (ak, aI G 10 (sK R)), (af, aI G 10 (sG R)), (ab, aI G 10 (sO R)), (aa, aI G 10 (sA R)), (to, .inr (0, [.int (nI (sN S)), .int (nI m0), .int (nI (sF S)), .int (nI (sS S)), .int (nI (sL S)), .ref tk, .ref tf, .ref tb, .ref ta])), (tk, aI G 10 (sK S)), (tf, aI G 10 (sG S)), (tb, aI G 10 (sO S)), (ta, aI G 10 (sA S)), (x7, aI G 7 (cN (upN rf (cBeh R xz nz wwz) (rf (cBeh R xz nz wwz) + 1))))] H locs := hw
    subst hr
    have hc : cBeh R xz nz wwz = (cBeh R xz nz wwz) := by first | assumption | rfl
    have hj : (cBeh R xz nz wwz) ≠ 0 := by omega
    exact rt_i C hw () (by exact (anI_r hc hj _).symm) (by rw [rfU_r hc hj, selR_r hc hj, selN_r hc hj]) dX1_behind_37
