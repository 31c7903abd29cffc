theorem bs_k {P : Nat → Bool} {n : Nat} (h : n ≤ 10) : bs P n < 1024 := Nat.lt_of_lt_of_le (bs_lt P n) (Nat.pow_le_pow_right (by decide) h : 2 ^ n ≤ 2 ^ 10)
theorem wl_wb (z a : Int) : wlN z 0 a = wbN z a := rfl
theorem wp_eq {R : RT} {x v : Int} : rtT R x (foN (wlN v 0 9) (if (0 ≤ x ∧ x < ((R 0 0 : Nat) : Int)) ∧ R 4 x.toNat = 0 then 0 else 3)) = wpN R x v := by
  unfold rtT wpN
  by_cases h : 0 ≤ x ∧ x < ((R 0 0 : Nat) : Int)
  · rw [if_pos h, if_pos h]
    unfold foN
    rw [wl_wb]
    have e : (if (0 ≤ x ∧ x < ((R 0 0 : Nat) : Int)) ∧ R 4 x.toNat = 0 then 0 else 3) = if R 4 x.toNat = 0 then 0 else 3 := by
      by_cases h2 : R 4 x.toNat = 0
      · rw [if_pos (And.intro h h2), if_pos h2]
      · rw [if_neg h2, if_neg (fun q => h2 q.2)]
    rw [e]
  · rw [if_neg h, if_neg h]
theorem cs_eq {R : RT} {x : Int} : rtT R x (if (0 ≤ x ∧ x < ((R 0 0 : Nat) : Int)) ∧ R 4 x.toNat = 1 then 0 else 3) = cSets R x := by
  unfold rtT cSets
  by_cases h : 0 ≤ x ∧ x < ((R 0 0 : Nat) : Int)
  · rw [if_pos h, if_pos h]
    by_cases h2 : R 4 x.toNat = 1
    · rw [if_pos ⟨h, h2⟩, if_pos h2]
    · rw [if_neg (fun q => h2 q.2), if_neg h2]
  · rw [if_neg h, if_neg h]
theorem ct_eq {R : RT} {x k f : Int} : rtT R x (foN (otN k 5) (wlN f 0 9)) = cTurn R x k f := by
  unfold rtT cTurn
  by_cases h : 0 ≤ x ∧ x < ((R 0 0 : Nat) : Int)
  · rw [if_pos h, if_pos h]
    unfold foN otN
    rw [wl_wb]
    by_cases h2 : 0 ≤ k ∧ k ≤ 5
    · rw [if_pos h2, if_pos h2, if_neg (by decide)]
    · rw [if_neg h2, if_neg h2, if_pos (by decide)]
  · rw [if_neg h, if_neg h]
theorem cTurn_0 {R : RT} {x k f : Int} (h : cTurn R x k f = 0) : (0 ≤ x ∧ x < ((R 0 0 : Nat) : Int)) ∧ (0 ≤ k ∧ k ≤ 5) ∧ (0 ≤ f ∧ f ≤ 9) := by
  unfold cTurn at h
  by_cases h1 : 0 ≤ x ∧ x < ((R 0 0 : Nat) : Int)
  · rw [if_pos h1] at h
    by_cases h2 : 0 ≤ k ∧ k ≤ 5
    · rw [if_pos h2] at h; exact ⟨h1, h2, wbN_0 h⟩
    · rw [if_neg h2] at h; omega
  · rw [if_neg h1] at h; omega
set_option maxRecDepth 100000 in
set_option maxHeartbeats 4000000 in
theorem kX1_pulls (l : Launch) (G : GT) (h0 : Nat) (so : Nat) (to : Nat) (uo : Nat) (x5 : Nat) (x6 : Nat) (x7 : Nat) (x8 : Nat) (im : Nat) (lm : Nat) (rm : Nat) (sd : Int32) (rf : Nat → Nat) (ak : Nat) (af : Nat) (ab : Nat) (aa : Nat) (R : RT) (x : Int32) (xz : Int) (v : Int32) (vz : Int) (h_x : x.toInt = xz) (h_v : v.toInt = vz) (hR : OK R) : Ct l yX1_pulls cX1_pulls 4 (some .int) 3 69 [.ref h0, .int x, .int v] G [(h0, .inr (1, [.ref so, .ref to, .ref uo, .int (nI im), .ref x5, .int (nI lm), .ref x6, .int (nI rm), .ref x7, .ref x8, .int sd])), (so, .inr (0, [.int (nI (sN R)), .int (nI (R 0 1)), .int (nI (sF R)), .int (nI (sS R)), .int (nI (sL R)), .ref ak, .ref af, .ref ab, .ref aa])), (ak, aI G 10 (sK R)), (af, aI G 10 (sG R)), (ab, aI G 10 (sO R)), (aa, aI G 10 (sA R)), (x7, aI G 7 (cN rf))] (QI G [(h0, .inr (1, [.ref so, .ref to, .ref uo, .int (nI im), .ref x5, .int (nI lm), .ref x6, .int (nI rm), .ref x7, .ref x8, .int sd])), (so, .inr (0, [.int (nI (sN R)), .int (nI (R 0 1)), .int (nI (sF R)), .int (nI (sS R)), .int (nI (sL R)), .ref ak, .ref af, .ref ab, .ref aa])), (ak, aI G 10 (sK R)), (af, aI G 10 (sG R)), (ab, aI G 10 (sO R)), (aa, aI G 10 (sA R)), (x7, aI G 7 (cN rf))] (fun (r : Int32) (u : Unit) => r = anI (wpN R xz vz) (nI (ct (shkF R xz.toNat vz.toNat) (R 0 0)))) (fun u => [(h0, .inr (1, [.ref so, .ref to, .ref uo, .int (nI im), .ref x5, .int (nI lm), .ref x6, .int (nI rm), .ref x7, .ref x8, .int sd])), (so, .inr (0, [.int (nI (sN (selR (wpN R xz vz) (pulF R xz.toNat vz.toNat) R))), .int (nI (R 0 1)), .int (nI (sF (selR (wpN R xz vz) (pulF R xz.toNat vz.toNat) R))), .int (nI (sS (selR (wpN R xz vz) (pulF R xz.toNat vz.toNat) R))), .int (nI (sL (selR (wpN R xz vz) (pulF R xz.toNat vz.toNat) R))), .ref ak, .ref af, .ref ab, .ref aa])), (ak, aI G 10 (sK (selR (wpN R xz vz) (pulF R xz.toNat vz.toNat) R))), (af, aI G 10 (sG (selR (wpN R xz vz) (pulF R xz.toNat vz.toNat) R))), (ab, aI G 10 (sO (selR (wpN R xz vz) (pulF R xz.toNat vz.toNat) R))), (aa, aI G 10 (sA (selR (wpN R xz vz) (pulF R xz.toNat vz.toNat) R))), (x7, aI G 7 (cN (rfU rf (wpN R xz vz))))])) := by
  refine en (by decide +kernel) (Nat.le_of_ble_eq_true rfl) ?_
  intro p e s m below meth c ls H locs C hl hw
  have xx := C.1
  have xb := C.2.1
  have hw : Wd G (fA [(h0, .inr (1, [.ref so, .ref to, .ref uo, .int (nI im), .ref x5, .int (nI lm), .ref x6, .int (nI rm), .ref x7, .ref x8, .int sd])), (so, .inr (0, [.int (nI (sN R)), .int (nI (R 0 1)), .int (nI (sF R)), .int (nI (sS R)), .int (nI (sL R)), .ref ak, .ref af, .ref ab, .ref aa])), (ak, aI G 10 (sK R)), (af, aI G 10 (sG R)), (ab, aI G 10 (sO R)), (aa, aI G 10 (sA R)), (x7, aI G 7 (cN rf))]) s [(h0, .inr (1, [.ref so, .ref to, .ref uo, .int (nI im), .ref x5, .int (nI lm), .ref x6, .int (nI rm), .ref x7, .ref x8, .int sd])), (so, .inr (0, [.int (nI (sN R)), .int (nI (R 0 1)), .int (nI (sF R)), .int (nI (sS R)), .int (nI (sL R)), .ref ak, .ref af, .ref ab, .ref aa])), (ak, aI G 10 (sK R)), (af, aI G 10 (sG R)), (ab, aI G 10 (sO R)), (aa, aI G 10 (sA R)), (x7, aI G 7 (cN rf))] H locs := hw
  have hl : lv_has ls 4 [(0, .ref h0), (1, .int x), (2, .int v)] := hl
  obtain ⟨hn, hf0, hpr, hA⟩ := id hR
  have hb6 := wpN_le R xz vz
  have hw6 := wlN_le vz 0 9
  refine lv_aload_n xx xb dX1_pulls_0 rfl (lv_at hl 0 rfl) ?_
  refine lv_iload_n xx xb dX1_pulls_1 rfl (lv_at hl 1 rfl) ?_
  refine lv_iload_n xx xb dX1_pulls_2 rfl (lv_at hl 2 rfl) ?_
  refine lv_iconst (v := nI 0) xx xb dX1_pulls_3 (by decide) ?_
  refine lv_bipush (v := nI 9) xx xb dX1_pulls_4 (by decide) ?_
  have hM := kX1_outside l G v vz (nI 0) 0 (nI 9) 9 h_v (tN (by omega)) (tN (by omega))
  refine cs_i C hw hM ysX1_outside ml_X1_35 rfl [] rfl rfl (fun _ => (rfl : ([] : List Nat) = [])) (by decide) ⟨Nat.zero_le _, Nat.zero_le _⟩ hl.1 rfl (Nat.le_of_ble_eq_true rfl) dX1_pulls_6 (fun r _ H locs hr hw => ?_)
  have hw : Wd G (fA [(h0, .inr (1, [.ref so, .ref to, .ref uo, .int (nI im), .ref x5, .int (nI lm), .ref x6, .int (nI rm), .ref x7, .ref x8, .int sd])), (so, .inr (0, [.int (nI (sN R)), .int (nI (R 0 1)), .int (nI (sF R)), .int (nI (sS R)), .int (nI (sL R)), .ref ak, .ref af, .ref ab, .ref aa])), (ak, aI G 10 (sK R)), (af, aI G 10 (sG R)), (ab, aI G 10 (sO R)), (aa, aI G 10 (sA R)), (x7, aI G 7 (cN rf))]) s [(h0, .inr (1, [.ref so, .ref to, .ref uo, .int (nI im), .ref x5, .int (nI lm), .ref x6, .int (nI rm), .ref x7, .ref x8, .int sd])), (so, .inr (0, [.int (nI (sN R)), .int (nI (R 0 1)), .int (nI (sF R)), .int (nI (sS R)), .int (nI (sL R)), .ref ak, .ref af, .ref ab, .ref aa])), (ak, aI G 10 (sK R)), (af, aI G 10 (sG R)), (ab, aI G 10 (sO R)), (aa, aI G 10 (sA R)), (x7, aI G 7 (cN rf))] H locs := hw
  subst hr
  have hM := kX1_refusalOfPull l G h0 so to uo x5 x6 x7 x8 im lm rm sd ak af ab aa (R 0 1) R (wlN vz 0 9) x xz h_x (by first | assumption | omega) (by first | assumption | omega)
  refine cv_i C hw hM yvX1_refusalOfPull ml_X1_87 0 rfl rfl rfl [0, 1, 2, 3, 4, 5] rfl rfl (fun _ => (rfl : ([h0, so, ak, af, ab, aa] : List Nat) = [h0, so, ak, af, ab, aa])) (by decide) ⟨Nat.zero_le _, Nat.zero_le _⟩ hl.1 rfl (Nat.le_of_ble_eq_true rfl) dX1_pulls_9 (fun r _ H locs hr hw => ?_)
  have hw : Wd G (fA [(h0, .inr (1, [.ref so, .ref to, .ref uo, .int (nI im), .ref x5, .int (nI lm), .ref x6, .int (nI rm), .ref x7, .ref x8, .int sd])), (so, .inr (0, [.int (nI (sN R)), .int (nI (R 0 1)), .int (nI (sF R)), .int (nI (sS R)), .int (nI (sL R)), .ref ak, .ref af, .ref ab, .ref aa])), (ak, aI G 10 (sK R)), (af, aI G 10 (sG R)), (ab, aI G 10 (sO R)), (aa, aI G 10 (sA R)), (x7, aI G 7 (cN rf))]) s [(h0, .inr (1, [.ref so, .ref to, .ref uo, .int (nI im), .ref x5, .int (nI lm), .ref x6, .int (nI rm), .ref x7, .ref x8, .int sd])), (so, .inr (0, [.int (nI (sN R)), .int (nI (R 0 1)), .int (nI (sF R)), .int (nI (sS R)), .int (nI (sL R)), .ref ak, .ref af, .ref ab, .ref aa])), (ak, aI G 10 (sK R)), (af, aI G 10 (sG R)), (ab, aI G 10 (sO R)), (aa, aI G 10 (sA R)), (x7, aI G 7 (cN rf))] H locs := hw
  subst hr
  refine re_i (nG (wpN R xz vz)) (congrArg nG wp_eq) ?_
  refine lv_istore_n (lv' := [(3, .int (nG (wpN R xz vz))), (0, .ref h0), (1, .int x), (2, .int v)]) xx xb dX1_pulls_12 rfl hl (by decide) rfl (fun ls hl => ?_)
  refine lv_iload_n xx xb dX1_pulls_13 rfl (lv_at hl 0 rfl) ?_
  refine lv_if_eq (tgt := 23) xx xb dX1_pulls_14 (by decide) (fun c_14 => ?_) (fun c_14 => ?_)
  · skip
    have c_14 := g0_c (by omega) c_14
    obtain ⟨g1, g2, g3⟩ := wpN_0 c_14
    refine lv_aload_n xx xb dX1_pulls_23 rfl (lv_at hl 1 rfl) ?_
    refine m_get C hw 0 rfl fk_X1_10 rfl dX1_pulls_24 ?_
    refine lv_iload_n xx xb dX1_pulls_27 rfl (lv_at hl 2 rfl) ?_
    refine re_i (nI xz.toNat) (ofT h_x (by omega) (by omega)) ?_
    refine lv_iload_n xx xb dX1_pulls_28 rfl (lv_at hl 3 rfl) ?_
    refine re_i (nI vz.toNat) (ofT h_v (by omega) (by omega)) ?_
    have hM := kX0_pullThing l G so ak af ab aa (R 0 1) R xz.toNat vz.toNat (by first | assumption | omega) (by first | assumption | omega) (by first | assumption | omega) (by first | assumption | omega)
    refine cv_i C hw hM yvX0_pullThing ml_X1_90 1 rfl rfl rfl [1, 2, 3, 4, 5] rfl rfl (fun _ => (rfl : ([so, ak, af, ab, aa] : List Nat) = [so, ak, af, ab, aa])) (by decide) ⟨Nat.zero_le _, Nat.zero_le _⟩ hl.1 rfl (Nat.le_of_ble_eq_true rfl) dX1_pulls_29 (fun r _ H locs hr hw => ?_)
    have hw : Wd G (fA [(h0, .inr (1, [.ref so, .ref to, .ref uo, .int (nI im), .ref x5, .int (nI lm), .ref x6, .int (nI rm), .ref x7, .ref x8, .int sd])), (so, .inr (0, [.int (nI (sN R)), .int (nI (R 0 1)), .int (nI (sF R)), .int (nI (sS R)), .int (nI (sL R)), .ref ak, .ref af, .ref ab, .ref aa])), (ak, aI G 10 (sK R)), (af, aI G 10 (sG R)), (ab, aI G 10 (sO R)), (aa, aI G 10 (sA R)), (x7, aI G 7 (cN rf))]) s [(h0, .inr (1, [.ref so, .ref to, .ref uo, .int (nI im), .ref x5, .int (nI lm), .ref x6, .int (nI rm), .ref x7, .ref x8, .int sd])), (so, .inr (0, [.int (nI (sN (pulF R xz.toNat vz.toNat))), .int (nI (R 0 1)), .int (nI (sF (pulF R xz.toNat vz.toNat))), .int (nI (sS (pulF R xz.toNat vz.toNat))), .int (nI (sL (pulF R xz.toNat vz.toNat))), .ref ak, .ref af, .ref ab, .ref aa])), (ak, aI G 10 (sK (pulF R xz.toNat vz.toNat))), (af, aI G 10 (sG (pulF R xz.toNat vz.toNat))), (ab, aI G 10 (sO (pulF R xz.toNat vz.toNat))), (aa, aI G 10 (sA (pulF R xz.toNat vz.toNat))), (x7, aI G 7 (cN rf))] H locs := hw
    subst hr
    have hM := kJ6_bitCount_0f7a4 l G (bs (shkF R xz.toNat vz.toNat) (R 0 0)) (bs_k hn)
    refine cs_i C hw hM ysJ6_bitCount_0f7a4 ml_X1_93 rfl [] rfl rfl (fun _ => (rfl : ([] : List Nat) = [])) (by decide) ⟨Nat.zero_le _, Nat.zero_le _⟩ hl.1 rfl (Nat.le_of_ble_eq_true rfl) dX1_pulls_32 (fun r _ H locs hr hw => ?_)
    have hw : Wd G (fA [(h0, .inr (1, [.ref so, .ref to, .ref uo, .int (nI im), .ref x5, .int (nI lm), .ref x6, .int (nI rm), .ref x7, .ref x8, .int sd])), (so, .inr (0, [.int (nI (sN R)), .int (nI (R 0 1)), .int (nI (sF R)), .int (nI (sS R)), .int (nI (sL R)), .ref ak, .ref af, .ref ab, .ref aa])), (ak, aI G 10 (sK R)), (af, aI G 10 (sG R)), (ab, aI G 10 (sO R)), (aa, aI G 10 (sA R)), (x7, aI G 7 (cN rf))]) s [(h0, .inr (1, [.ref so, .ref to, .ref uo, .int (nI im), .ref x5, .int (nI lm), .ref x6, .int (nI rm), .ref x7, .ref x8, .int sd])), (so, .inr (0, [.int (nI (sN (pulF R xz.toNat vz.toNat))), .int (nI (R 0 1)), .int (nI (sF (pulF R xz.toNat vz.toNat))), .int (nI (sS (pulF R xz.toNat vz.toNat))), .int (nI (sL (pulF R xz.toNat vz.toNat))), .ref ak, .ref af, .ref ab, .ref aa])), (ak, aI G 10 (sK (pulF R xz.toNat vz.toNat))), (af, aI G 10 (sG (pulF R xz.toNat vz.toNat))), (ab, aI G 10 (sO (pulF R xz.toNat vz.toNat))), (aa, aI G 10 (sA (pulF R xz.toNat vz.toNat))), (x7, aI G 7 (cN rf))] H locs := hw
    subst hr
    refine re_i (nI (ct (shkF R xz.toNat vz.toNat) (R 0 0))) (congrArg nI (pc_bs _ hn)) ?_
    have hc : wpN R xz vz = 0 := by first | assumption | rfl
    exact rt_i C hw () (by exact (anI_0 hc _).symm) (by rw [rfU_0 hc, selR_0 hc]) dX1_pulls_35
  · skip
    have c_14 := g0_n c_14
    refine lv_aload_n xx xb dX1_pulls_17 rfl (lv_at hl 1 rfl) ?_
    refine lv_iload_n xx xb dX1_pulls_18 rfl (lv_at hl 0 rfl) ?_
    have hM := kX1_refuse l G h0 so to uo x5 x6 x7 x8 im lm rm sd rf (wpN R xz vz) (by first | assumption | omega)
    refine cv_i C hw hM yvX1_refuse ml_X1_43 0 rfl rfl rfl [0, 6] rfl rfl (fun _ => (rfl : ([h0, x7] : List Nat) = [h0, x7])) (by decide) ⟨Nat.zero_le _, Nat.zero_le _⟩ hl.1 rfl (Nat.le_of_ble_eq_true rfl) dX1_pulls_19 (fun r _ H locs hr hw => ?_)
    have hw : Wd G (fA [(h0, .inr (1, [.ref so, .ref to, .ref uo, .int (nI im), .ref x5, .int (nI lm), .ref x6, .int (nI rm), .ref x7, .ref x8, .int sd])), (so, .inr (0, [.int (nI (sN R)), .int (nI (R 0 1)), .int (nI (sF R)), .int (nI (sS R)), .int (nI (sL R)), .ref ak, .ref af, .ref ab, .ref aa])), (ak, aI G 10 (sK R)), (af, aI G 10 (sG R)), (ab, aI G 10 (sO R)), (aa, aI G 10 (sA R)), (x7, aI G 7 (cN rf))]) s [(h0, .inr (1, [.ref so, .ref to, .ref uo, .int (nI im), .ref x5, .int (nI lm), .ref x6, .int (nI rm), .ref x7, .ref x8, .int sd])), (so, .inr (0, [.int (nI (sN R)), .int (nI (R 0 1)), .int (nI (sF R)), .int (nI (sS R)), .int (nI (sL R)), .ref ak, .ref af, .ref ab, .ref aa])), (ak, aI G 10 (sK R)), (af, aI G 10 (sG R)), (ab, aI G 10 (sO R)), (aa, aI G 10 (sA R)), (x7, aI G 7 (cN (upN rf (wpN R xz vz) (rf (wpN R xz vz) + 1))))] H locs := hw
    subst hr
    have hc : wpN R xz vz = (wpN R xz vz) := by first | assumption | rfl
    have hj : (wpN R xz vz) ≠ 0 := by omega
    exact rt_i C hw () (by exact (anI_r hc hj _).symm) (by rw [rfU_r hc hj, selR_r hc hj]) dX1_pulls_22
set_option maxRecDepth 100000 in
set_option maxHeartbeats 4000000 in
theorem kX1_floor (l : Launch) (G : GT) (h0 : Nat) (so : Nat) (to : Nat) (uo : Nat) (x5 : Nat) (x6 : Nat) (x7 : Nat) (x8 : Nat) (im : Nat) (lm : Nat) (rm : Nat) (sd : Int32) (rf : Nat → Nat) (ak : Nat) (af : Nat) (ab : Nat) (aa : Nat) (R : RT) (v : Int32) (vz : Int) (h_v : v.toInt = vz) (hR : OK R) : Ct l yX1_floor cX1_floor 3 (some .int) 3 68 [.ref h0, .int v] G [(h0, .inr (1, [.ref so, .ref to, .ref uo, .int (nI im), .ref x5, .int (nI lm), .ref x6, .int (nI rm), .ref x7, .ref x8, .int sd])), (so, .inr (0, [.int (nI (sN R)), .int (nI (R 0 1)), .int (nI (sF R)), .int (nI (sS R)), .int (nI (sL R)), .ref ak, .ref af, .ref ab, .ref aa])), (ak, aI G 10 (sK R)), (af, aI G 10 (sG R)), (ab, aI G 10 (sO R)), (aa, aI G 10 (sA R)), (x7, aI G 7 (cN rf))] (QI G [(h0, .inr (1, [.ref so, .ref to, .ref uo, .int (nI im), .ref x5, .int (nI lm), .ref x6, .int (nI rm), .ref x7, .ref x8, .int sd])), (so, .inr (0, [.int (nI (sN R)), .int (nI (R 0 1)), .int (nI (sF R)), .int (nI (sS R)), .int (nI (sL R)), .ref ak, .ref af, .ref ab, .ref aa])), (ak, aI G 10 (sK R)), (af, aI G 10 (sG R)), (ab, aI G 10 (sO R)), (aa, aI G 10 (sA R)), (x7, aI G 7 (cN rf))] (fun (r : Int32) (u : Unit) => r = anI (cFloor R vz) (nI (ct (shkF R 10 vz.toNat) (R 0 0)))) (fun u => [(h0, .inr (1, [.ref so, .ref to, .ref uo, .int (nI im), .ref x5, .int (nI lm), .ref x6, .int (nI rm), .ref x7, .ref x8, .int sd])), (so, .inr (0, [.int (nI (sN (selR (cFloor R vz) (pulF R 10 vz.toNat) R))), .int (nI (R 0 1)), .int (nI (sF (selR (cFloor R vz) (pulF R 10 vz.toNat) R))), .int (nI (sS (selR (cFloor R vz) (pulF R 10 vz.toNat) R))), .int (nI (sL (selR (cFloor R vz) (pulF R 10 vz.toNat) R))), .ref ak, .ref af, .ref ab, .ref aa])), (ak, aI G 10 (sK (selR (cFloor R vz) (pulF R 10 vz.toNat) R))), (af, aI G 10 (sG (selR (cFloor R vz) (pulF R 10 vz.toNat) R))), (ab, aI G 10 (sO (selR (cFloor R vz) (pulF R 10 vz.toNat) R))), (aa, aI G 10 (sA (selR (cFloor R vz) (pulF R 10 vz.toNat) R))), (x7, aI G 7 (cN (rfU rf (cFloor R vz))))])) := by
  refine en (by decide +kernel) (Nat.le_of_ble_eq_true rfl) ?_
  intro p e s m below meth c ls H locs C hl hw
  have xx := C.1
  have xb := C.2.1
  have hw : Wd G (fA [(h0, .inr (1, [.ref so, .ref to, .ref uo, .int (nI im), .ref x5, .int (nI lm), .ref x6, .int (nI rm), .ref x7, .ref x8, .int sd])), (so, .inr (0, [.int (nI (sN R)), .int (nI (R 0 1)), .int (nI (sF R)), .int (nI (sS R)), .int (nI (sL R)), .ref ak, .ref af, .ref ab, .ref aa])), (ak, aI G 10 (sK R)), (af, aI G 10 (sG R)), (ab, aI G 10 (sO R)), (aa, aI G 10 (sA R)), (x7, aI G 7 (cN rf))]) s [(h0, .inr (1, [.ref so, .ref to, .ref uo, .int (nI im), .ref x5, .int (nI lm), .ref x6, .int (nI rm), .ref x7, .ref x8, .int sd])), (so, .inr (0, [.int (nI (sN R)), .int (nI (R 0 1)), .int (nI (sF R)), .int (nI (sS R)), .int (nI (sL R)), .ref ak, .ref af, .ref ab, .ref aa])), (ak, aI G 10 (sK R)), (af, aI G 10 (sG R)), (ab, aI G 10 (sO R)), (aa, aI G 10 (sA R)), (x7, aI G 7 (cN rf))] H locs := hw
  have hl : lv_has ls 3 [(0, .ref h0), (1, .int v)] := hl
  obtain ⟨hn, hf0, hpr, hA⟩ := id hR
  have hwl := wlN_or vz 0 9
  have hw6 := wlN_le vz 0 9
  have hwb := wl_wb vz 9
  refine lv_iload_n xx xb dX1_floor_0 rfl (lv_at hl 1 rfl) ?_
  refine lv_iconst (v := nI 0) xx xb dX1_floor_1 (by decide) ?_
  refine lv_bipush (v := nI 9) xx xb dX1_floor_2 (by decide) ?_
  have hM := kX1_outside l G v vz (nI 0) 0 (nI 9) 9 h_v (tN (by omega)) (tN (by omega))
  refine cs_i C hw hM ysX1_outside ml_X1_35 rfl [] rfl rfl (fun _ => (rfl : ([] : List Nat) = [])) (by decide) ⟨Nat.zero_le _, Nat.zero_le _⟩ hl.1 rfl (Nat.le_of_ble_eq_true rfl) dX1_floor_4 (fun r _ H locs hr hw => ?_)
  have hw : Wd G (fA [(h0, .inr (1, [.ref so, .ref to, .ref uo, .int (nI im), .ref x5, .int (nI lm), .ref x6, .int (nI rm), .ref x7, .ref x8, .int sd])), (so, .inr (0, [.int (nI (sN R)), .int (nI (R 0 1)), .int (nI (sF R)), .int (nI (sS R)), .int (nI (sL R)), .ref ak, .ref af, .ref ab, .ref aa])), (ak, aI G 10 (sK R)), (af, aI G 10 (sG R)), (ab, aI G 10 (sO R)), (aa, aI G 10 (sA R)), (x7, aI G 7 (cN rf))]) s [(h0, .inr (1, [.ref so, .ref to, .ref uo, .int (nI im), .ref x5, .int (nI lm), .ref x6, .int (nI rm), .ref x7, .ref x8, .int sd])), (so, .inr (0, [.int (nI (sN R)), .int (nI (R 0 1)), .int (nI (sF R)), .int (nI (sS R)), .int (nI (sL R)), .ref ak, .ref af, .ref ab, .ref aa])), (ak, aI G 10 (sK R)), (af, aI G 10 (sG R)), (ab, aI G 10 (sO R)), (aa, aI G 10 (sA R)), (x7, aI G 7 (cN rf))] H locs := hw
  subst hr
  refine lv_istore_n (lv' := [(2, .int (nG (wlN vz 0 9))), (0, .ref h0), (1, .int v)]) xx xb dX1_floor_7 rfl hl (by decide) rfl (fun ls hl => ?_)
  refine lv_iload_n xx xb dX1_floor_8 rfl (lv_at hl 0 rfl) ?_
  refine lv_if_ne (tgt := 25) xx xb dX1_floor_9 (by decide) (fun c_9 => ?_) (fun c_9 => ?_)
  · skip
    have c_9 := g0_n c_9
    refine lv_iload_n xx xb dX1_floor_25 rfl (lv_at hl 0 rfl) ?_
    refine lv_if_eq (tgt := 35) xx xb dX1_floor_26 (by decide) (fun c_26 => ?_) (fun c_26 => ?_)
    · skip
      have c_26 := g0_c (by omega) c_26
      refine lv_aload_n xx xb dX1_floor_35 rfl (lv_at hl 1 rfl) ?_
      refine m_get C hw 0 rfl fk_X1_10 rfl dX1_floor_36 ?_
      refine lv_iload_n xx xb dX1_floor_39 rfl (lv_at hl 2 rfl) ?_
      refine re_i (nI vz.toNat) (ofT h_v (by omega) (by omega)) ?_
      have hM := kX0_pullFloor l G so ak af ab aa (R 0 1) R vz.toNat (by first | assumption | omega) (by first | assumption | omega)
      refine cv_i C hw hM yvX0_pullFloor ml_X1_102 1 rfl rfl rfl [1, 2, 3, 4, 5] rfl rfl (fun _ => (rfl : ([so, ak, af, ab, aa] : List Nat) = [so, ak, af, ab, aa])) (by decide) ⟨Nat.zero_le _, Nat.zero_le _⟩ hl.1 rfl (Nat.le_of_ble_eq_true rfl) dX1_floor_40 (fun r _ H locs hr hw => ?_)
      have hw : Wd G (fA [(h0, .inr (1, [.ref so, .ref to, .ref uo, .int (nI im), .ref x5, .int (nI lm), .ref x6, .int (nI rm), .ref x7, .ref x8, .int sd])), (so, .inr (0, [.int (nI (sN R)), .int (nI (R 0 1)), .int (nI (sF R)), .int (nI (sS R)), .int (nI (sL R)), .ref ak, .ref af, .ref ab, .ref aa])), (ak, aI G 10 (sK R)), (af, aI G 10 (sG R)), (ab, aI G 10 (sO R)), (aa, aI G 10 (sA R)), (x7, aI G 7 (cN rf))]) s [(h0, .inr (1, [.ref so, .ref to, .ref uo, .int (nI im), .ref x5, .int (nI lm), .ref x6, .int (nI rm), .ref x7, .ref x8, .int sd])), (so, .inr (0, [.int (nI (sN (pulF R 10 vz.toNat))), .int (nI (R 0 1)), .int (nI (sF (pulF R 10 vz.toNat))), .int (nI (sS (pulF R 10 vz.toNat))), .int (nI (sL (pulF R 10 vz.toNat))), .ref ak, .ref af, .ref ab, .ref aa])), (ak, aI G 10 (sK (pulF R 10 vz.toNat))), (af, aI G 10 (sG (pulF R 10 vz.toNat))), (ab, aI G 10 (sO (pulF R 10 vz.toNat))), (aa, aI G 10 (sA (pulF R 10 vz.toNat))), (x7, aI G 7 (cN rf))] H locs := hw
      subst hr
      have hM := kJ6_bitCount_0f7a4 l G (bs (shkF R 10 vz.toNat) (R 0 0)) (bs_k hn)
      refine cs_i C hw hM ysJ6_bitCount_0f7a4 ml_X1_93 rfl [] rfl rfl (fun _ => (rfl : ([] : List Nat) = [])) (by decide) ⟨Nat.zero_le _, Nat.zero_le _⟩ hl.1 rfl (Nat.le_of_ble_eq_true rfl) dX1_floor_43 (fun r _ H locs hr hw => ?_)
      have hw : Wd G (fA [(h0, .inr (1, [.ref so, .ref to, .ref uo, .int (nI im), .ref x5, .int (nI lm), .ref x6, .int (nI rm), .ref x7, .ref x8, .int sd])), (so, .inr (0, [.int (nI (sN R)), .int (nI (R 0 1)), .int (nI (sF R)), .int (nI (sS R)), .int (nI (sL R)), .ref ak, .ref af, .ref ab, .ref aa])), (ak, aI G 10 (sK R)), (af, aI G 10 (sG R)), (ab, aI G 10 (sO R)), (aa, aI G 10 (sA R)), (x7, aI G 7 (cN rf))]) s [(h0, .inr (1, [.ref so, .ref to, .ref uo, .int (nI im), .ref x5, .int (nI lm), .ref x6, .int (nI rm), .ref x7, .ref x8, .int sd])), (so, .inr (0, [.int (nI (sN (pulF R 10 vz.toNat))), .int (nI (R 0 1)), .int (nI (sF (pulF R 10 vz.toNat))), .int (nI (sS (pulF R 10 vz.toNat))), .int (nI (sL (pulF R 10 vz.toNat))), .ref ak, .ref af, .ref ab, .ref aa])), (ak, aI G 10 (sK (pulF R 10 vz.toNat))), (af, aI G 10 (sG (pulF R 10 vz.toNat))), (ab, aI G 10 (sO (pulF R 10 vz.toNat))), (aa, aI G 10 (sA (pulF R 10 vz.toNat))), (x7, aI G 7 (cN rf))] H locs := hw
      subst hr
      refine re_i (nI (ct (shkF R 10 vz.toNat) (R 0 0))) (congrArg nI (pc_bs _ hn)) ?_
      have hc : cFloor R vz = 0 := by unfold cFloor; (repeat' split) <;> omega
      exact rt_i C hw () (by exact (anI_0 hc _).symm) (by rw [rfU_0 hc, selR_0 hc]) dX1_floor_46
    · skip
      have c_26 := g0_n c_26
      refine lv_aload_n xx xb dX1_floor_29 rfl (lv_at hl 1 rfl) ?_
      refine lv_iload_n xx xb dX1_floor_30 rfl (lv_at hl 0 rfl) ?_
      have hM := kX1_refuse l G h0 so to uo x5 x6 x7 x8 im lm rm sd rf (wlN vz 0 9) (by first | assumption | omega)
      refine cv_i C hw hM yvX1_refuse ml_X1_43 0 rfl rfl rfl [0, 6] rfl rfl (fun _ => (rfl : ([h0, x7] : List Nat) = [h0, x7])) (by decide) ⟨Nat.zero_le _, Nat.zero_le _⟩ hl.1 rfl (Nat.le_of_ble_eq_true rfl) dX1_floor_31 (fun r _ H locs hr hw => ?_)
      have hw : Wd G (fA [(h0, .inr (1, [.ref so, .ref to, .ref uo, .int (nI im), .ref x5, .int (nI lm), .ref x6, .int (nI rm), .ref x7, .ref x8, .int sd])), (so, .inr (0, [.int (nI (sN R)), .int (nI (R 0 1)), .int (nI (sF R)), .int (nI (sS R)), .int (nI (sL R)), .ref ak, .ref af, .ref ab, .ref aa])), (ak, aI G 10 (sK R)), (af, aI G 10 (sG R)), (ab, aI G 10 (sO R)), (aa, aI G 10 (sA R)), (x7, aI G 7 (cN rf))]) s [(h0, .inr (1, [.ref so, .ref to, .ref uo, .int (nI im), .ref x5, .int (nI lm), .ref x6, .int (nI rm), .ref x7, .ref x8, .int sd])), (so, .inr (0, [.int (nI (sN R)), .int (nI (R 0 1)), .int (nI (sF R)), .int (nI (sS R)), .int (nI (sL R)), .ref ak, .ref af, .ref ab, .ref aa])), (ak, aI G 10 (sK R)), (af, aI G 10 (sG R)), (ab, aI G 10 (sO R)), (aa, aI G 10 (sA R)), (x7, aI G 7 (cN (upN rf (wlN vz 0 9) (rf (wlN vz 0 9) + 1))))] H locs := hw
      subst hr
      have hc : cFloor R vz = (wlN vz 0 9) := by unfold cFloor; (repeat' split) <;> omega
      have hj : (wlN vz 0 9) ≠ 0 := by omega
      exact rt_i C hw () (by exact (anI_r hc hj _).symm) (by rw [rfU_r hc hj, selR_r hc hj]) dX1_floor_34
  · skip
    have c_9 := g0_c (by omega) c_9
    refine lv_aload_n xx xb dX1_floor_12 rfl (lv_at hl 1 rfl) ?_
    refine m_get C hw 0 rfl fk_X1_10 rfl dX1_floor_13 ?_
    refine m_get C hw 1 rfl fk_X1_98 rfl dX1_floor_16 ?_
    refine re_i (nI (R 0 2)) rfl ?_
    refine lv_if_ne (tgt := 25) xx xb dX1_floor_19 (by decide) (fun c_19 => ?_) (fun c_19 => ?_)
    · skip
      have c_19 := ne_c (tN (by omega)) Int32.toInt_zero c_19
      refine lv_iload_n xx xb dX1_floor_25 rfl (lv_at hl 0 rfl) ?_
      refine lv_if_eq (tgt := 35) xx xb dX1_floor_26 (by decide) (fun c_26 => ?_) (fun c_26 => ?_)
      · skip
        have c_26 := g0_c (by omega) c_26
        refine lv_aload_n xx xb dX1_floor_35 rfl (lv_at hl 1 rfl) ?_
        refine m_get C hw 0 rfl fk_X1_10 rfl dX1_floor_36 ?_
        refine lv_iload_n xx xb dX1_floor_39 rfl (lv_at hl 2 rfl) ?_
        refine re_i (nI vz.toNat) (ofT h_v (by omega) (by omega)) ?_
        have hM := kX0_pullFloor l G so ak af ab aa (R 0 1) R vz.toNat (by first | assumption | omega) (by first | assumption | omega)
        refine cv_i C hw hM yvX0_pullFloor ml_X1_102 1 rfl rfl rfl [1, 2, 3, 4, 5] rfl rfl (fun _ => (rfl : ([so, ak, af, ab, aa] : List Nat) = [so, ak, af, ab, aa])) (by decide) ⟨Nat.zero_le _, Nat.zero_le _⟩ hl.1 rfl (Nat.le_of_ble_eq_true rfl) dX1_floor_40 (fun r _ H locs hr hw => ?_)
        have hw : Wd G (fA [(h0, .inr (1, [.ref so, .ref to, .ref uo, .int (nI im), .ref x5, .int (nI lm), .ref x6, .int (nI rm), .ref x7, .ref x8, .int sd])), (so, .inr (0, [.int (nI (sN R)), .int (nI (R 0 1)), .int (nI (sF R)), .int (nI (sS R)), .int (nI (sL R)), .ref ak, .ref af, .ref ab, .ref aa])), (ak, aI G 10 (sK R)), (af, aI G 10 (sG R)), (ab, aI G 10 (sO R)), (aa, aI G 10 (sA R)), (x7, aI G 7 (cN rf))]) s [(h0, .inr (1, [.ref so, .ref to, .ref uo, .int (nI im), .ref x5, .int (nI lm), .ref x6, .int (nI rm), .ref x7, .ref x8, .int sd])), (so, .inr (0, [.int (nI (sN (pulF R 10 vz.toNat))), .int (nI (R 0 1)), .int (nI (sF (pulF R 10 vz.toNat))), .int (nI (sS (pulF R 10 vz.toNat))), .int (nI (sL (pulF R 10 vz.toNat))), .ref ak, .ref af, .ref ab, .ref aa])), (ak, aI G 10 (sK (pulF R 10 vz.toNat))), (af, aI G 10 (sG (pulF R 10 vz.toNat))), (ab, aI G 10 (sO (pulF R 10 vz.toNat))), (aa, aI G 10 (sA (pulF R 10 vz.toNat))), (x7, aI G 7 (cN rf))] H locs := hw
        subst hr
        have hM := kJ6_bitCount_0f7a4 l G (bs (shkF R 10 vz.toNat) (R 0 0)) (bs_k hn)
        refine cs_i C hw hM ysJ6_bitCount_0f7a4 ml_X1_93 rfl [] rfl rfl (fun _ => (rfl : ([] : List Nat) = [])) (by decide) ⟨Nat.zero_le _, Nat.zero_le _⟩ hl.1 rfl (Nat.le_of_ble_eq_true rfl) dX1_floor_43 (fun r _ H locs hr hw => ?_)
        have hw : Wd G (fA [(h0, .inr (1, [.ref so, .ref to, .ref uo, .int (nI im), .ref x5, .int (nI lm), .ref x6, .int (nI rm), .ref x7, .ref x8, .int sd])), (so, .inr (0, [.int (nI (sN R)), .int (nI (R 0 1)), .int (nI (sF R)), .int (nI (sS R)), .int (nI (sL R)), .ref ak, .ref af, .ref ab, .ref aa])), (ak, aI G 10 (sK R)), (af, aI G 10 (sG R)), (ab, aI G 10 (sO R)), (aa, aI G 10 (sA R)), (x7, aI G 7 (cN rf))]) s [(h0, .inr (1, [.ref so, .ref to, .ref uo, .int (nI im), .ref x5, .int (nI lm), .ref x6, .int (nI rm), .ref x7, .ref x8, .int sd])), (so, .inr (0, [.int (nI (sN (pulF R 10 vz.toNat))), .int (nI (R 0 1)), .int (nI (sF (pulF R 10 vz.toNat))), .int (nI (sS (pulF R 10 vz.toNat))), .int (nI (sL (pulF R 10 vz.toNat))), .ref ak, .ref af, .ref ab, .ref aa])), (ak, aI G 10 (sK (pulF R 10 vz.toNat))), (af, aI G 10 (sG (pulF R 10 vz.toNat))), (ab, aI G 10 (sO (pulF R 10 vz.toNat))), (aa, aI G 10 (sA (pulF R 10 vz.toNat))), (x7, aI G 7 (cN rf))] H locs := hw
        subst hr
        refine re_i (nI (ct (shkF R 10 vz.toNat) (R 0 0))) (congrArg nI (pc_bs _ hn)) ?_
        have hc : cFloor R vz = 0 := by unfold cFloor; (repeat' split) <;> omega
        exact rt_i C hw () (by exact (anI_0 hc _).symm) (by rw [rfU_0 hc, selR_0 hc]) dX1_floor_46
      · skip
        have c_26 := g0_n c_26
        refine lv_aload_n xx xb dX1_floor_29 rfl (lv_at hl 1 rfl) ?_
        refine lv_iload_n xx xb dX1_floor_30 rfl (lv_at hl 0 rfl) ?_
        have hM := kX1_refuse l G h0 so to uo x5 x6 x7 x8 im lm rm sd rf (wlN vz 0 9) (by first | assumption | omega)
        refine cv_i C hw hM yvX1_refuse ml_X1_43 0 rfl rfl rfl [0, 6] rfl rfl (fun _ => (rfl : ([h0, x7] : List Nat) = [h0, x7])) (by decide) ⟨Nat.zero_le _, Nat.zero_le _⟩ hl.1 rfl (Nat.le_of_ble_eq_true rfl) dX1_floor_31 (fun r _ H locs hr hw => ?_)
        have hw : Wd G (fA [(h0, .inr (1, [.ref so, .ref to, .ref uo, .int (nI im), .ref x5, .int (nI lm), .ref x6, .int (nI rm), .ref x7, .ref x8, .int sd])), (so, .inr (0, [.int (nI (sN R)), .int (nI (R 0 1)), .int (nI (sF R)), .int (nI (sS R)), .int (nI (sL R)), .ref ak, .ref af, .ref ab, .ref aa])), (ak, aI G 10 (sK R)), (af, aI G 10 (sG R)), (ab, aI G 10 (sO R)), (aa, aI G 10 (sA R)), (x7, aI G 7 (cN rf))]) s [(h0, .inr (1, [.ref so, .ref to, .ref uo, .int (nI im), .ref x5, .int (nI lm), .ref x6, .int (nI rm), .ref x7, .ref x8, .int sd])), (so, .inr (0, [.int (nI (sN R)), .int (nI (R 0 1)), .int (nI (sF R)), .int (nI (sS R)), .int (nI (sL R)), .ref ak, .ref af, .ref ab, .ref aa])), (ak, aI G 10 (sK R)), (af, aI G 10 (sG R)), (ab, aI G 10 (sO R)), (aa, aI G 10 (sA R)), (x7, aI G 7 (cN (upN rf (wlN vz 0 9) (rf (wlN vz 0 9) + 1))))] H locs := hw
        subst hr
        have hc : cFloor R vz = (wlN vz 0 9) := by unfold cFloor; (repeat' split) <;> omega
        have hj : (wlN vz 0 9) ≠ 0 := by omega
        exact rt_i C hw () (by exact (anI_r hc hj _).symm) (by rw [rfU_r hc hj, selR_r hc hj]) dX1_floor_34
    · skip
      have c_19 := eq_c (tN (by omega)) Int32.toInt_zero c_19
      refine lv_bipush (v := (-3)) xx xb dX1_floor_22 (by decide) ?_
      refine lv_istore_n (lv' := [(2, .int (-3)), (0, .ref h0), (1, .int v)]) xx xb dX1_floor_24 rfl hl (by decide) rfl (fun ls hl => ?_)
      refine lv_iload_n xx xb dX1_floor_25 rfl (lv_at hl 0 rfl) ?_
      refine lv_if_eq (tgt := 35) xx xb dX1_floor_26 (by decide) (fun c_26 => ?_) (fun c_26 => ?_)
      · skip
        exact absurd c_26 (by decide)
      · skip
        refine lv_aload_n xx xb dX1_floor_29 rfl (lv_at hl 1 rfl) ?_
        refine lv_iload_n xx xb dX1_floor_30 rfl (lv_at hl 0 rfl) ?_
        have hM := kX1_refuse l G h0 so to uo x5 x6 x7 x8 im lm rm sd rf 3 (by first | assumption | omega)
        refine cv_i C hw hM yvX1_refuse ml_X1_43 0 rfl rfl rfl [0, 6] rfl rfl (fun _ => (rfl : ([h0, x7] : List Nat) = [h0, x7])) (by decide) ⟨Nat.zero_le _, Nat.zero_le _⟩ hl.1 rfl (Nat.le_of_ble_eq_true rfl) dX1_floor_31 (fun r _ H locs hr hw => ?_)
        have hw : Wd G (fA [(h0, .inr (1, [.ref so, .ref to, .ref uo, .int (nI im), .ref x5, .int (nI lm), .ref x6, .int (nI rm), .ref x7, .ref x8, .int sd])), (so, .inr (0, [.int (nI (sN R)), .int (nI (R 0 1)), .int (nI (sF R)), .int (nI (sS R)), .int (nI (sL R)), .ref ak, .ref af, .ref ab, .ref aa])), (ak, aI G 10 (sK R)), (af, aI G 10 (sG R)), (ab, aI G 10 (sO R)), (aa, aI G 10 (sA R)), (x7, aI G 7 (cN rf))]) s [(h0, .inr (1, [.ref so, .ref to, .ref uo, .int (nI im), .ref x5, .int (nI lm), .ref x6, .int (nI rm), .ref x7, .ref x8, .int sd])), (so, .inr (0, [.int (nI (sN R)), .int (nI (R 0 1)), .int (nI (sF R)), .int (nI (sS R)), .int (nI (sL R)), .ref ak, .ref af, .ref ab, .ref aa])), (ak, aI G 10 (sK R)), (af, aI G 10 (sG R)), (ab, aI G 10 (sO R)), (aa, aI G 10 (sA R)), (x7, aI G 7 (cN (upN rf 3 (rf 3 + 1))))] H locs := hw
        subst hr
        have hc : cFloor R vz = 3 := by unfold cFloor; (repeat' split) <;> omega
        have hj : 3 ≠ 0 := by omega
        exact rt_i C hw () (by exact (anI_r hc hj _).symm) (by rw [rfU_r hc hj, selR_r hc hj]) dX1_floor_34
set_option maxRecDepth 100000 in
set_option maxHeartbeats 4000000 in
theorem kX1_lays (l : Launch) (G : GT) (h0 : Nat) (so : Nat) (to : Nat) (uo : Nat) (x5 : Nat) (x6 : Nat) (x7 : Nat) (x8 : Nat) (im : Nat) (lm : Nat) (rm : Nat) (sd : Int32) (rf : Nat → Nat) (ak : Nat) (af : Nat) (ab : Nat) (aa : Nat) (R : RT) (hR : OK R) : Ct l yX1_lays cX1_lays 1 (some .int) 2 43 [.ref h0] G [(h0, .inr (1, [.ref so, .ref to, .ref uo, .int (nI im), .ref x5, .int (nI lm), .ref x6, .int (nI rm), .ref x7, .ref x8, .int sd])), (so, .inr (0, [.int (nI (sN R)), .int (nI (R 0 1)), .int (nI (sF R)), .int (nI (sS R)), .int (nI (sL R)), .ref ak, .ref af, .ref ab, .ref aa])), (ak, aI G 10 (sK R)), (af, aI G 10 (sG R)), (ab, aI G 10 (sO R)), (aa, aI G 10 (sA R)), (x7, aI G 7 (cN rf))] (QI G [(h0, .inr (1, [.ref so, .ref to, .ref uo, .int (nI im), .ref x5, .int (nI lm), .ref x6, .int (nI rm), .ref x7, .ref x8, .int sd])), (so, .inr (0, [.int (nI (sN R)), .int (nI (R 0 1)), .int (nI (sF R)), .int (nI (sS R)), .int (nI (sL R)), .ref ak, .ref af, .ref ab, .ref aa])), (ak, aI G 10 (sK R)), (af, aI G 10 (sG R)), (ab, aI G 10 (sO R)), (aa, aI G 10 (sA R)), (x7, aI G 7 (cN rf))] (fun (r : Int32) (u : Unit) => r = anI (cLays R) (nI (ct (flP R) (R 0 0)))) (fun u => [(h0, .inr (1, [.ref so, .ref to, .ref uo, .int (nI im), .ref x5, .int (nI lm), .ref x6, .int (nI rm), .ref x7, .ref x8, .int sd])), (so, .inr (0, [.int (nI (sN (selR (cLays R) (upR R 0 2 1) R))), .int (nI (R 0 1)), .int (nI (sF (selR (cLays R) (upR R 0 2 1) R))), .int (nI (sS (selR (cLays R) (upR R 0 2 1) R))), .int (nI (sL (selR (cLays R) (upR R 0 2 1) R))), .ref ak, .ref af, .ref ab, .ref aa])), (ak, aI G 10 (sK (selR (cLays R) (upR R 0 2 1) R))), (af, aI G 10 (sG (selR (cLays R) (upR R 0 2 1) R))), (ab, aI G 10 (sO (selR (cLays R) (upR R 0 2 1) R))), (aa, aI G 10 (sA (selR (cLays R) (upR R 0 2 1) R))), (x7, aI G 7 (cN (rfU rf (cLays R))))])) := by
  refine en (by decide +kernel) (Nat.le_of_ble_eq_true rfl) ?_
  intro p e s m below meth c ls H locs C hl hw
  have xx := C.1
  have xb := C.2.1
  have hw : Wd G (fA [(h0, .inr (1, [.ref so, .ref to, .ref uo, .int (nI im), .ref x5, .int (nI lm), .ref x6, .int (nI rm), .ref x7, .ref x8, .int sd])), (so, .inr (0, [.int (nI (sN R)), .int (nI (R 0 1)), .int (nI (sF R)), .int (nI (sS R)), .int (nI (sL R)), .ref ak, .ref af, .ref ab, .ref aa])), (ak, aI G 10 (sK R)), (af, aI G 10 (sG R)), (ab, aI G 10 (sO R)), (aa, aI G 10 (sA R)), (x7, aI G 7 (cN rf))]) s [(h0, .inr (1, [.ref so, .ref to, .ref uo, .int (nI im), .ref x5, .int (nI lm), .ref x6, .int (nI rm), .ref x7, .ref x8, .int sd])), (so, .inr (0, [.int (nI (sN R)), .int (nI (R 0 1)), .int (nI (sF R)), .int (nI (sS R)), .int (nI (sL R)), .ref ak, .ref af, .ref ab, .ref aa])), (ak, aI G 10 (sK R)), (af, aI G 10 (sG R)), (ab, aI G 10 (sO R)), (aa, aI G 10 (sA R)), (x7, aI G 7 (cN rf))] H locs := hw
  have hl : lv_has ls 1 [(0, .ref h0)] := hl
  obtain ⟨hn, hf0, hpr, hA⟩ := id hR
  have hR1 : OK (upR R 0 2 1) := OK_how (R := R) (fun i hi j hj => upR_n (by omega)) (by rw [upR_s]; omega) (fun a ha => (hA a ha).2.2.2.2) hR
  refine lv_aload_n xx xb dX1_lays_0 rfl (lv_at hl 0 rfl) ?_
  refine m_get C hw 0 rfl fk_X1_10 rfl dX1_lays_1 ?_
  refine m_get C hw 1 rfl fk_X1_98 rfl dX1_lays_4 ?_
  refine re_i (nI (R 0 2)) rfl ?_
  refine lv_if_eq (tgt := 17) xx xb dX1_lays_7 (by decide) (fun c_7 => ?_) (fun c_7 => ?_)
  · skip
    have c_7 := eq_c (tN (by omega)) Int32.toInt_zero c_7
    refine lv_aload_n xx xb dX1_lays_17 rfl (lv_at hl 0 rfl) ?_
    refine m_get C hw 0 rfl fk_X1_10 rfl dX1_lays_18 ?_
    refine lv_iconst (v := nI 1) xx xb dX1_lays_21 (by decide) ?_
    refine m_put C hw 1 rfl rfl tyX0 tyX0_ok nmX0 fk_X1_98 rfl rfl rfl rfl (Nat.le_of_ble_eq_true rfl) dX1_lays_22 (fun H locs hw => ?_)
    have hw : Wd G (fA [(h0, .inr (1, [.ref so, .ref to, .ref uo, .int (nI im), .ref x5, .int (nI lm), .ref x6, .int (nI rm), .ref x7, .ref x8, .int sd])), (so, .inr (0, [.int (nI (sN R)), .int (nI (R 0 1)), .int (nI (sF R)), .int (nI (sS R)), .int (nI (sL R)), .ref ak, .ref af, .ref ab, .ref aa])), (ak, aI G 10 (sK R)), (af, aI G 10 (sG R)), (ab, aI G 10 (sO R)), (aa, aI G 10 (sA R)), (x7, aI G 7 (cN rf))]) s [(h0, .inr (1, [.ref so, .ref to, .ref uo, .int (nI im), .ref x5, .int (nI lm), .ref x6, .int (nI rm), .ref x7, .ref x8, .int sd])), (so, .inr (0, [.int (nI (sN R)), .int (nI (R 0 1)), .int (nI 1), .int (nI (sS R)), .int (nI (sL R)), .ref ak, .ref af, .ref ab, .ref aa])), (ak, aI G 10 (sK R)), (af, aI G 10 (sG R)), (ab, aI G 10 (sO R)), (aa, aI G 10 (sA R)), (x7, aI G 7 (cN rf))] H locs := hw
    have hw : Wd G (fA [(h0, .inr (1, [.ref so, .ref to, .ref uo, .int (nI im), .ref x5, .int (nI lm), .ref x6, .int (nI rm), .ref x7, .ref x8, .int sd])), (so, .inr (0, [.int (nI (sN R)), .int (nI (R 0 1)), .int (nI (sF R)), .int (nI (sS R)), .int (nI (sL R)), .ref ak, .ref af, .ref ab, .ref aa])), (ak, aI G 10 (sK R)), (af, aI G 10 (sG R)), (ab, aI G 10 (sO R)), (aa, aI G 10 (sA R)), (x7, aI G 7 (cN rf))]) s [(h0, .inr (1, [.ref so, .ref to, .ref uo, .int (nI im), .ref x5, .int (nI lm), .ref x6, .int (nI rm), .ref x7, .ref x8, .int sd])), (so, .inr (0, [.int (nI (sN (upR R 0 2 1))), .int (nI (R 0 1)), .int (nI (sF (upR R 0 2 1))), .int (nI (sS (upR R 0 2 1))), .int (nI (sL (upR R 0 2 1))), .ref ak, .ref af, .ref ab, .ref aa])), (ak, aI G 10 (sK (upR R 0 2 1))), (af, aI G 10 (sG (upR R 0 2 1))), (ab, aI G 10 (sO (upR R 0 2 1))), (aa, aI G 10 (sA (upR R 0 2 1))), (x7, aI G 7 (cN rf))] H locs := hw
    refine lv_aload_n xx xb dX1_lays_25 rfl (lv_at hl 0 rfl) ?_
    refine m_get C hw 0 rfl fk_X1_10 rfl dX1_lays_26 ?_
    have hM := kX0_countOnFloor l G so ak af ab aa (R 0 1) (upR R 0 2 1) hR1
    refine cv_i C hw hM yvX0_countOnFloor ml_X1_105 1 rfl rfl rfl [1, 2, 3, 4, 5] rfl rfl (fun _ => (rfl : ([so, ak, af, ab, aa] : List Nat) = [so, ak, af, ab, aa])) (by decide) ⟨Nat.zero_le _, Nat.zero_le _⟩ hl.1 rfl (Nat.le_of_ble_eq_true rfl) dX1_lays_29 (fun r _ H locs hr hw => ?_)
    have hw : Wd G (fA [(h0, .inr (1, [.ref so, .ref to, .ref uo, .int (nI im), .ref x5, .int (nI lm), .ref x6, .int (nI rm), .ref x7, .ref x8, .int sd])), (so, .inr (0, [.int (nI (sN R)), .int (nI (R 0 1)), .int (nI (sF R)), .int (nI (sS R)), .int (nI (sL R)), .ref ak, .ref af, .ref ab, .ref aa])), (ak, aI G 10 (sK R)), (af, aI G 10 (sG R)), (ab, aI G 10 (sO R)), (aa, aI G 10 (sA R)), (x7, aI G 7 (cN rf))]) s [(h0, .inr (1, [.ref so, .ref to, .ref uo, .int (nI im), .ref x5, .int (nI lm), .ref x6, .int (nI rm), .ref x7, .ref x8, .int sd])), (so, .inr (0, [.int (nI (sN (upR R 0 2 1))), .int (nI (R 0 1)), .int (nI (sF (upR R 0 2 1))), .int (nI (sS (upR R 0 2 1))), .int (nI (sL (upR R 0 2 1))), .ref ak, .ref af, .ref ab, .ref aa])), (ak, aI G 10 (sK (upR R 0 2 1))), (af, aI G 10 (sG (upR R 0 2 1))), (ab, aI G 10 (sO (upR R 0 2 1))), (aa, aI G 10 (sA (upR R 0 2 1))), (x7, aI G 7 (cN rf))] H locs := hw
    subst hr
    refine re_i (nI (ct (flP R) (R 0 0))) rfl ?_
    have hc : cLays R = 0 := by unfold cLays; (repeat' split) <;> omega
    exact rt_i C hw () (by exact (anI_0 hc _).symm) (by rw [rfU_0 hc, selR_0 hc]) dX1_lays_32
  · skip
    have c_7 := ne_c (tN (by omega)) Int32.toInt_zero c_7
    refine lv_aload_n xx xb dX1_lays_10 rfl (lv_at hl 0 rfl) ?_
    refine lv_bipush (v := (-3)) xx xb dX1_lays_11 (by decide) ?_
    have hM := kX1_refuse l G h0 so to uo x5 x6 x7 x8 im lm rm sd rf 3 (by first | assumption | omega)
    refine cv_i C hw hM yvX1_refuse ml_X1_43 0 rfl rfl rfl [0, 6] rfl rfl (fun _ => (rfl : ([h0, x7] : List Nat) = [h0, x7])) (by decide) ⟨Nat.zero_le _, Nat.zero_le _⟩ hl.1 rfl (Nat.le_of_ble_eq_true rfl) dX1_lays_13 (fun r _ H locs hr hw => ?_)
    have hw : Wd G (fA [(h0, .inr (1, [.ref so, .ref to, .ref uo, .int (nI im), .ref x5, .int (nI lm), .ref x6, .int (nI rm), .ref x7, .ref x8, .int sd])), (so, .inr (0, [.int (nI (sN R)), .int (nI (R 0 1)), .int (nI (sF R)), .int (nI (sS R)), .int (nI (sL R)), .ref ak, .ref af, .ref ab, .ref aa])), (ak, aI G 10 (sK R)), (af, aI G 10 (sG R)), (ab, aI G 10 (sO R)), (aa, aI G 10 (sA R)), (x7, aI G 7 (cN rf))]) s [(h0, .inr (1, [.ref so, .ref to, .ref uo, .int (nI im), .ref x5, .int (nI lm), .ref x6, .int (nI rm), .ref x7, .ref x8, .int sd])), (so, .inr (0, [.int (nI (sN R)), .int (nI (R 0 1)), .int (nI (sF R)), .int (nI (sS R)), .int (nI (sL R)), .ref ak, .ref af, .ref ab, .ref aa])), (ak, aI G 10 (sK R)), (af, aI G 10 (sG R)), (ab, aI G 10 (sO R)), (aa, aI G 10 (sA R)), (x7, aI G 7 (cN (upN rf 3 (rf 3 + 1))))] H locs := hw
    subst hr
    have hc : cLays R = 3 := by unfold cLays; (repeat' split) <;> omega
    have hj : 3 ≠ 0 := by omega
    exact rt_i C hw () (by exact (anI_r hc hj _).symm) (by rw [rfU_r hc hj, selR_r hc hj]) dX1_lays_16
set_option maxRecDepth 100000 in
set_option maxHeartbeats 4000000 in
theorem kX1_turn (l : Launch) (G : GT) (h0 : Nat) (so : Nat) (to : Nat) (uo : Nat) (x5 : Nat) (x6 : Nat) (x7 : Nat) (x8 : Nat) (im : Nat) (lm : Nat) (rm : Nat) (sd : Int32) (rf : Nat → Nat) (ak : Nat) (af : Nat) (ab : Nat) (aa : Nat) (R : RT) (x : Int32) (xz : Int) (k : Int32) (kz : Int) (f : Int32) (fz : Int) (h_x : x.toInt = xz) (h_k : k.toInt = kz) (h_f : f.toInt = fz) (hR : OK R) : Ct l yX1_turn cX1_turn 7 (some .int) 2 44 [.ref h0, .int x, .int k, .int f] G [(h0, .inr (1, [.ref so, .ref to, .ref uo, .int (nI im), .ref x5, .int (nI lm), .ref x6, .int (nI rm), .ref x7, .ref x8, .int sd])), (so, .inr (0, [.int (nI (sN R)), .int (nI (R 0 1)), .int (nI (sF R)), .int (nI (sS R)), .int (nI (sL R)), .ref ak, .ref af, .ref ab, .ref aa])), (ak, aI G 10 (sK R)), (af, aI G 10 (sG R)), (ab, aI G 10 (sO R)), (aa, aI G 10 (sA R)), (x7, aI G 7 (cN rf))] (QI G [(h0, .inr (1, [.ref so, .ref to, .ref uo, .int (nI im), .ref x5, .int (nI lm), .ref x6, .int (nI rm), .ref x7, .ref x8, .int sd])), (so, .inr (0, [.int (nI (sN R)), .int (nI (R 0 1)), .int (nI (sF R)), .int (nI (sS R)), .int (nI (sL R)), .ref ak, .ref af, .ref ab, .ref aa])), (ak, aI G 10 (sK R)), (af, aI G 10 (sG R)), (ab, aI G 10 (sO R)), (aa, aI G 10 (sA R)), (x7, aI G 7 (cN rf))] (fun (r : Int32) (u : Unit) => r = anI (cTurn R xz kz fz) (nI (10 * R 1 xz.toNat + R 2 xz.toNat))) (fun u => [(h0, .inr (1, [.ref so, .ref to, .ref uo, .int (nI im), .ref x5, .int (nI lm), .ref x6, .int (nI rm), .ref x7, .ref x8, .int sd])), (so, .inr (0, [.int (nI (sN (selR (cTurn R xz kz fz) (turF R xz.toNat kz.toNat fz.toNat) R))), .int (nI (R 0 1)), .int (nI (sF (selR (cTurn R xz kz fz) (turF R xz.toNat kz.toNat fz.toNat) R))), .int (nI (sS (selR (cTurn R xz kz fz) (turF R xz.toNat kz.toNat fz.toNat) R))), .int (nI (sL (selR (cTurn R xz kz fz) (turF R xz.toNat kz.toNat fz.toNat) R))), .ref ak, .ref af, .ref ab, .ref aa])), (ak, aI G 10 (sK (selR (cTurn R xz kz fz) (turF R xz.toNat kz.toNat fz.toNat) R))), (af, aI G 10 (sG (selR (cTurn R xz kz fz) (turF R xz.toNat kz.toNat fz.toNat) R))), (ab, aI G 10 (sO (selR (cTurn R xz kz fz) (turF R xz.toNat kz.toNat fz.toNat) R))), (aa, aI G 10 (sA (selR (cTurn R xz kz fz) (turF R xz.toNat kz.toNat fz.toNat) R))), (x7, aI G 7 (cN (rfU rf (cTurn R xz kz fz))))])) := by
  refine en (by decide +kernel) (Nat.le_of_ble_eq_true rfl) ?_
  intro p e s m below meth c ls H locs C hl hw
  have xx := C.1
  have xb := C.2.1
  have hw : Wd G (fA [(h0, .inr (1, [.ref so, .ref to, .ref uo, .int (nI im), .ref x5, .int (nI lm), .ref x6, .int (nI rm), .ref x7, .ref x8, .int sd])), (so, .inr (0, [.int (nI (sN R)), .int (nI (R 0 1)), .int (nI (sF R)), .int (nI (sS R)), .int (nI (sL R)), .ref ak, .ref af, .ref ab, .ref aa])), (ak, aI G 10 (sK R)), (af, aI G 10 (sG R)), (ab, aI G 10 (sO R)), (aa, aI G 10 (sA R)), (x7, aI G 7 (cN rf))]) s [(h0, .inr (1, [.ref so, .ref to, .ref uo, .int (nI im), .ref x5, .int (nI lm), .ref x6, .int (nI rm), .ref x7, .ref x8, .int sd])), (so, .inr (0, [.int (nI (sN R)), .int (nI (R 0 1)), .int (nI (sF R)), .int (nI (sS R)), .int (nI (sL R)), .ref ak, .ref af, .ref ab, .ref aa])), (ak, aI G 10 (sK R)), (af, aI G 10 (sG R)), (ab, aI G 10 (sO R)), (aa, aI G 10 (sA R)), (x7, aI G 7 (cN rf))] H locs := hw
  have hl : lv_has ls 7 [(0, .ref h0), (1, .int x), (2, .int k), (3, .int f)] := hl
  obtain ⟨hn, hf0, hpr, hA⟩ := id hR
  have hwl := wlN_or fz 0 9
  have hw6 := wlN_le fz 0 9
  have ho2 := otN_le kz 5
  have hct6 : cTurn R xz kz fz ≤ 6 := by rw [← ct_eq]; exact rtT_le (by decide) (foN_le (by omega) (by omega))
  refine lv_iload_n xx xb dX1_turn_0 rfl (lv_at hl 2 rfl) ?_
  refine lv_iconst (v := nI 5) xx xb dX1_turn_1 (by decide) ?_
  have hM := kX1_otherThan l G k kz (nI 5) 5 h_k (tN (by omega))
  refine cs_i C hw hM ysX1_otherThan ml_X1_51 rfl [] rfl rfl (fun _ => (rfl : ([] : List Nat) = [])) (by decide) ⟨Nat.zero_le _, Nat.zero_le _⟩ hl.1 rfl (Nat.le_of_ble_eq_true rfl) dX1_turn_2 (fun r _ H locs hr hw => ?_)
  have hw : Wd G (fA [(h0, .inr (1, [.ref so, .ref to, .ref uo, .int (nI im), .ref x5, .int (nI lm), .ref x6, .int (nI rm), .ref x7, .ref x8, .int sd])), (so, .inr (0, [.int (nI (sN R)), .int (nI (R 0 1)), .int (nI (sF R)), .int (nI (sS R)), .int (nI (sL R)), .ref ak, .ref af, .ref ab, .ref aa])), (ak, aI G 10 (sK R)), (af, aI G 10 (sG R)), (ab, aI G 10 (sO R)), (aa, aI G 10 (sA R)), (x7, aI G 7 (cN rf))]) s [(h0, .inr (1, [.ref so, .ref to, .ref uo, .int (nI im), .ref x5, .int (nI lm), .ref x6, .int (nI rm), .ref x7, .ref x8, .int sd])), (so, .inr (0, [.int (nI (sN R)), .int (nI (R 0 1)), .int (nI (sF R)), .int (nI (sS R)), .int (nI (sL R)), .ref ak, .ref af, .ref ab, .ref aa])), (ak, aI G 10 (sK R)), (af, aI G 10 (sG R)), (ab, aI G 10 (sO R)), (aa, aI G 10 (sA R)), (x7, aI G 7 (cN rf))] H locs := hw
  subst hr
  refine lv_iload_n xx xb dX1_turn_5 rfl (lv_at hl 3 rfl) ?_
  refine lv_iconst (v := nI 0) xx xb dX1_turn_6 (by decide) ?_
  refine lv_bipush (v := nI 9) xx xb dX1_turn_7 (by decide) ?_
  have hM := kX1_outside l G f fz (nI 0) 0 (nI 9) 9 h_f (tN (by omega)) (tN (by omega))
  refine cs_i C hw hM ysX1_outside ml_X1_35 rfl [] rfl rfl (fun _ => (rfl : ([] : List Nat) = [])) (by decide) ⟨Nat.zero_le _, Nat.zero_le _⟩ hl.1 rfl (Nat.le_of_ble_eq_true rfl) dX1_turn_9 (fun r _ H locs hr hw => ?_)
  have hw : Wd G (fA [(h0, .inr (1, [.ref so, .ref to, .ref uo, .int (nI im), .ref x5, .int (nI lm), .ref x6, .int (nI rm), .ref x7, .ref x8, .int sd])), (so, .inr (0, [.int (nI (sN R)), .int (nI (R 0 1)), .int (nI (sF R)), .int (nI (sS R)), .int (nI (sL R)), .ref ak, .ref af, .ref ab, .ref aa])), (ak, aI G 10 (sK R)), (af, aI G 10 (sG R)), (ab, aI G 10 (sO R)), (aa, aI G 10 (sA R)), (x7, aI G 7 (cN rf))]) s [(h0, .inr (1, [.ref so, .ref to, .ref uo, .int (nI im), .ref x5, .int (nI lm), .ref x6, .int (nI rm), .ref x7, .ref x8, .int sd])), (so, .inr (0, [.int (nI (sN R)), .int (nI (R 0 1)), .int (nI (sF R)), .int (nI (sS R)), .int (nI (sL R)), .ref ak, .ref af, .ref ab, .ref aa])), (ak, aI G 10 (sK R)), (af, aI G 10 (sG R)), (ab, aI G 10 (sO R)), (aa, aI G 10 (sA R)), (x7, aI G 7 (cN rf))] H locs := hw
  subst hr
  have hM := kX1_firstOf l G (otN kz 5) (wlN fz 0 9) (by omega)
  refine cs_i C hw hM ysX1_firstOf ml_X1_115 rfl [] rfl rfl (fun _ => (rfl : ([] : List Nat) = [])) (by decide) ⟨Nat.zero_le _, Nat.zero_le _⟩ hl.1 rfl (Nat.le_of_ble_eq_true rfl) dX1_turn_12 (fun r _ H locs hr hw => ?_)
  have hw : Wd G (fA [(h0, .inr (1, [.ref so, .ref to, .ref uo, .int (nI im), .ref x5, .int (nI lm), .ref x6, .int (nI rm), .ref x7, .ref x8, .int sd])), (so, .inr (0, [.int (nI (sN R)), .int (nI (R 0 1)), .int (nI (sF R)), .int (nI (sS R)), .int (nI (sL R)), .ref ak, .ref af, .ref ab, .ref aa])), (ak, aI G 10 (sK R)), (af, aI G 10 (sG R)), (ab, aI G 10 (sO R)), (aa, aI G 10 (sA R)), (x7, aI G 7 (cN rf))]) s [(h0, .inr (1, [.ref so, .ref to, .ref uo, .int (nI im), .ref x5, .int (nI lm), .ref x6, .int (nI rm), .ref x7, .ref x8, .int sd])), (so, .inr (0, [.int (nI (sN R)), .int (nI (R 0 1)), .int (nI (sF R)), .int (nI (sS R)), .int (nI (sL R)), .ref ak, .ref af, .ref ab, .ref aa])), (ak, aI G 10 (sK R)), (af, aI G 10 (sG R)), (ab, aI G 10 (sO R)), (aa, aI G 10 (sA R)), (x7, aI G 7 (cN rf))] H locs := hw
  subst hr
  refine lv_istore (lv' := [(4, .int (nG (foN (otN kz 5) (wlN fz 0 9)))), (0, .ref h0), (1, .int x), (2, .int k), (3, .int f)]) xx xb dX1_turn_15 hl (by decide) rfl (fun ls hl => ?_)
  refine lv_aload_n xx xb dX1_turn_17 rfl (lv_at hl 1 rfl) ?_
  refine lv_iload_n xx xb dX1_turn_18 rfl (lv_at hl 2 rfl) ?_
  refine lv_iload xx xb dX1_turn_19 (lv_at hl 0 rfl) ?_
  have hM := kX1_refusalOfThing l G h0 so to uo x5 x6 x7 x8 im lm rm sd ak af ab aa (R 0 1) R (foN (otN kz 5) (wlN fz 0 9)) x xz h_x (by first | assumption | omega)
  refine cv_i C hw hM yvX1_refusalOfThing ml_X1_55 0 rfl rfl rfl [0, 1, 2, 3, 4, 5] rfl rfl (fun _ => (rfl : ([h0, so, ak, af, ab, aa] : List Nat) = [h0, so, ak, af, ab, aa])) (by decide) ⟨Nat.zero_le _, Nat.zero_le _⟩ hl.1 rfl (Nat.le_of_ble_eq_true rfl) dX1_turn_21 (fun r _ H locs hr hw => ?_)
  have hw : Wd G (fA [(h0, .inr (1, [.ref so, .ref to, .ref uo, .int (nI im), .ref x5, .int (nI lm), .ref x6, .int (nI rm), .ref x7, .ref x8, .int sd])), (so, .inr (0, [.int (nI (sN R)), .int (nI (R 0 1)), .int (nI (sF R)), .int (nI (sS R)), .int (nI (sL R)), .ref ak, .ref af, .ref ab, .ref aa])), (ak, aI G 10 (sK R)), (af, aI G 10 (sG R)), (ab, aI G 10 (sO R)), (aa, aI G 10 (sA R)), (x7, aI G 7 (cN rf))]) s [(h0, .inr (1, [.ref so, .ref to, .ref uo, .int (nI im), .ref x5, .int (nI lm), .ref x6, .int (nI rm), .ref x7, .ref x8, .int sd])), (so, .inr (0, [.int (nI (sN R)), .int (nI (R 0 1)), .int (nI (sF R)), .int (nI (sS R)), .int (nI (sL R)), .ref ak, .ref af, .ref ab, .ref aa])), (ak, aI G 10 (sK R)), (af, aI G 10 (sG R)), (ab, aI G 10 (sO R)), (aa, aI G 10 (sA R)), (x7, aI G 7 (cN rf))] H locs := hw
  subst hr
  refine re_i (nG (cTurn R xz kz fz)) (congrArg nG ct_eq) ?_
  refine lv_istore (lv' := [(5, .int (nG (cTurn R xz kz fz))), (4, .int (nG (foN (otN kz 5) (wlN fz 0 9)))), (0, .ref h0), (1, .int x), (2, .int k), (3, .int f)]) xx xb dX1_turn_24 hl (by decide) rfl (fun ls hl => ?_)
  refine lv_iload xx xb dX1_turn_26 (lv_at hl 0 rfl) ?_
  refine lv_if_eq (tgt := 38) xx xb dX1_turn_28 (by decide) (fun c_28 => ?_) (fun c_28 => ?_)
  · skip
    have c_28 := g0_c (by omega) c_28
    have g1 : (0 ≤ xz ∧ xz < ((R 0 0 : Nat) : Int)) ∧ (0 ≤ kz ∧ kz ≤ 5) ∧ (0 ≤ fz ∧ fz ≤ 9) := cTurn_0 c_28
    refine lv_bipush (v := nI 10) xx xb dX1_turn_38 (by decide) ?_
    refine lv_aload_n xx xb dX1_turn_40 rfl (lv_at hl 2 rfl) ?_
    refine m_get C hw 0 rfl fk_X1_10 rfl dX1_turn_41 ?_
    refine m_get C hw 1 rfl fk_X1_58 rfl dX1_turn_44 ?_
    refine lv_iload_n xx xb dX1_turn_47 rfl (lv_at hl 3 rfl) ?_
    refine re_i (nI xz.toNat) (ofT h_x (by omega) (by omega)) ?_
    refine m_ald C hw 2 rfl xz.toNat rfl (by omega) (by decide) dX1_turn_48 ?_
    refine re_i (nI (R 1 xz.toNat)) rfl ?_
    refine lv_imul xx xb dX1_turn_49 ?_
    refine re_i (nI (10 * (R 1 xz.toNat))) (pk_mul _ _) ?_
    refine lv_aload_n xx xb dX1_turn_50 rfl (lv_at hl 2 rfl) ?_
    refine m_get C hw 0 rfl fk_X1_10 rfl dX1_turn_51 ?_
    refine m_get C hw 1 rfl fk_X1_61 rfl dX1_turn_54 ?_
    refine lv_iload_n xx xb dX1_turn_57 rfl (lv_at hl 3 rfl) ?_
    refine re_i (nI xz.toNat) (ofT h_x (by omega) (by omega)) ?_
    refine m_ald C hw 3 rfl xz.toNat rfl (by omega) (by decide) dX1_turn_58 ?_
    refine re_i (nI (R 2 xz.toNat)) rfl ?_
    refine lv_iadd xx xb dX1_turn_59 ?_
    refine re_i (nI ((10 * (R 1 xz.toNat)) + (R 2 xz.toNat))) (nI_add _ _) ?_
    refine lv_istore (lv' := [(6, .int (nI ((10 * (R 1 xz.toNat)) + (R 2 xz.toNat)))), (5, .int (nG (cTurn R xz kz fz))), (4, .int (nG (foN (otN kz 5) (wlN fz 0 9)))), (0, .ref h0), (1, .int x), (2, .int k), (3, .int f)]) xx xb dX1_turn_60 hl (by decide) rfl (fun ls hl => ?_)
    refine lv_aload_n xx xb dX1_turn_62 rfl (lv_at hl 3 rfl) ?_
    refine m_get C hw 0 rfl fk_X1_10 rfl dX1_turn_63 ?_
    refine lv_iload_n xx xb dX1_turn_66 rfl (lv_at hl 4 rfl) ?_
    refine re_i (nI xz.toNat) (ofT h_x (by omega) (by omega)) ?_
    refine lv_iload_n xx xb dX1_turn_67 rfl (lv_at hl 5 rfl) ?_
    refine re_i (nI kz.toNat) (ofT h_k (by omega) (by omega)) ?_
    refine lv_iload_n xx xb dX1_turn_68 rfl (lv_at hl 6 rfl) ?_
    refine re_i (nI fz.toNat) (ofT h_f (by omega) (by omega)) ?_
    have hM := kX0_become l G so ak af ab aa (R 0 1) R xz.toNat kz.toNat fz.toNat (by first | assumption | omega) (by first | assumption | omega)
    refine cv_v C hw hM yvX0_become ml_X1_118 1 rfl rfl rfl [1, 2, 3, 4, 5] rfl rfl (fun _ => (rfl : ([so, ak, af, ab, aa] : List Nat) = [so, ak, af, ab, aa])) (by decide) ⟨Nat.zero_le _, Nat.zero_le _⟩ hl.1 rfl (Nat.le_of_ble_eq_true rfl) dX1_turn_69 (fun _ H locs hr hw => ?_)
    have hw : Wd G (fA [(h0, .inr (1, [.ref so, .ref to, .ref uo, .int (nI im), .ref x5, .int (nI lm), .ref x6, .int (nI rm), .ref x7, .ref x8, .int sd])), (so, .inr (0, [.int (nI (sN R)), .int (nI (R 0 1)), .int (nI (sF R)), .int (nI (sS R)), .int (nI (sL R)), .ref ak, .ref af, .ref ab, .ref aa])), (ak, aI G 10 (sK R)), (af, aI G 10 (sG R)), (ab, aI G 10 (sO R)), (aa, aI G 10 (sA R)), (x7, aI G 7 (cN rf))]) s [(h0, .inr (1, [.ref so, .ref to, .ref uo, .int (nI im), .ref x5, .int (nI lm), .ref x6, .int (nI rm), .ref x7, .ref x8, .int sd])), (so, .inr (0, [.int (nI (sN (turF R xz.toNat kz.toNat fz.toNat))), .int (nI (R 0 1)), .int (nI (sF (turF R xz.toNat kz.toNat fz.toNat))), .int (nI (sS (turF R xz.toNat kz.toNat fz.toNat))), .int (nI (sL (turF R xz.toNat kz.toNat fz.toNat))), .ref ak, .ref af, .ref ab, .ref aa])), (ak, aI G 10 (sK (turF R xz.toNat kz.toNat fz.toNat))), (af, aI G 10 (sG (turF R xz.toNat kz.toNat fz.toNat))), (ab, aI G 10 (sO (turF R xz.toNat kz.toNat fz.toNat))), (aa, aI G 10 (sA (turF R xz.toNat kz.toNat fz.toNat))), (x7, aI G 7 (cN rf))] H locs := hw
    refine lv_iload xx xb dX1_turn_72 (lv_at hl 0 rfl) ?_
    have hc : cTurn R xz kz fz = 0 := by first | assumption | rfl
    exact rt_i C hw () (by exact (anI_0 hc _).symm) (by rw [rfU_0 hc, selR_0 hc]) dX1_turn_74
  · skip
    have c_28 := g0_n c_28
    refine lv_aload_n xx xb dX1_turn_31 rfl (lv_at hl 2 rfl) ?_
    refine lv_iload xx xb dX1_turn_32 (lv_at hl 0 rfl) ?_
    have hM := kX1_refuse l G h0 so to uo x5 x6 x7 x8 im lm rm sd rf (cTurn R xz kz fz) (by first | assumption | omega)
    refine cv_i C hw hM yvX1_refuse ml_X1_43 0 rfl rfl rfl [0, 6] rfl rfl (fun _ => (rfl : ([h0, x7] : List Nat) = [h0, x7])) (by decide) ⟨Nat.zero_le _, Nat.zero_le _⟩ hl.1 rfl (Nat.le_of_ble_eq_true rfl) dX1_turn_34 (fun r _ H locs hr hw => ?_)
    have hw : Wd G (fA [(h0, .inr (1, [.ref so, .ref to, .ref uo, .int (nI im), .ref x5, .int (nI lm), .ref x6, .int (nI rm), .ref x7, .ref x8, .int sd])), (so, .inr (0, [.int (nI (sN R)), .int (nI (R 0 1)), .int (nI (sF R)), .int (nI (sS R)), .int (nI (sL R)), .ref ak, .ref af, .ref ab, .ref aa])), (ak, aI G 10 (sK R)), (af, aI G 10 (sG R)), (ab, aI G 10 (sO R)), (aa, aI G 10 (sA R)), (x7, aI G 7 (cN rf))]) s [(h0, .inr (1, [.ref so, .ref to, .ref uo, .int (nI im), .ref x5, .int (nI lm), .ref x6, .int (nI rm), .ref x7, .ref x8, .int sd])), (so, .inr (0, [.int (nI (sN R)), .int (nI (R 0 1)), .int (nI (sF R)), .int (nI (sS R)), .int (nI (sL R)), .ref ak, .ref af, .ref ab, .ref aa])), (ak, aI G 10 (sK R)), (af, aI G 10 (sG R)), (ab, aI G 10 (sO R)), (aa, aI G 10 (sA R)), (x7, aI G 7 (cN (upN rf (cTurn R xz kz fz) (rf (cTurn R xz kz fz) + 1))))] H locs := hw
    subst hr
    have hc : cTurn R xz kz fz = (cTurn R xz kz fz) := by first | assumption | rfl
    have hj : (cTurn R xz kz fz) ≠ 0 := by omega
    exact rt_i C hw () (by exact (anI_r hc hj _).symm) (by rw [rfU_r hc hj, selR_r hc hj]) dX1_turn_37

