theorem tur_00 (R : RT) (a k f j : Nat) : turF R a k f 0 j = R 0 j := by unfold turF; rw [upR_n (by omega), upR_n (by omega)]
theorem tur_k {R : RT} {a q : Nat} : turF R a q (R 2 a) = wwS R a 0 q := by
  funext i j
  unfold turF wwS
  rw [show wwI 0 = 1 from rfl]
  by_cases z : i = 2 ∧ j = a
  · rw [z.1, z.2, upR_s, upR_n (by omega)]
  · rw [upR_n z]
theorem tur_f {R : RT} {a q : Nat} : turF R a (R 1 a) q = wwS R a 1 q := by
  unfold turF
  rw [upR_id]
  rfl
theorem OK_turF {R : RT} (hR : OK R) {a k f : Nat} (hk : k ≤ 5) (hf : f ≤ 9) : OK (turF R a k f) := by
  obtain ⟨h1, h2, h3, h4⟩ := hR
  refine ⟨by rw [tur_00]; exact h1, by rw [tur_00]; exact h2, by rw [tur_00]; exact h3, fun b hb => ?_⟩
  rw [tur_00] at hb
  obtain ⟨g1, g2, g3, g4, g5⟩ := h4 b hb
  have e3 : ∀ i, 3 ≤ i → turF R a k f i b = R i b := fun i hi => by unfold turF; rw [upR_n (by omega), upR_n (by omega)]
  rw [e3 3 (by omega), e3 4 (by omega)]
  refine ⟨?_, ?_, g3, g4, g5⟩
  · unfold turF upR; rw [if_neg (by omega)]; split <;> omega
  · unfold turF upR; split
    · exact hf
    · rw [if_neg (by omega)]; exact g2
theorem AK_turF {R : RT} (hK : AK R) (a k f : Nat) : AK (turF R a k f) := by
  intro b hb
  rw [tur_00] at hb
  have e3 : ∀ i, 3 ≤ i → turF R a k f i b = R i b := fun i hi => by unfold turF; rw [upR_n (by omega), upR_n (by omega)]
  rw [e3 4 (by omega), e3 5 (by omega)]
  exact hK b hb
theorem wwP_k {R : RT} {a q : Nat} {rv : Nat → Nat} : wwB (turF R a q (R 2 a)) rv (R 0 0) = wwP R a 0 rv q := by rw [tur_k]; rfl
theorem wwP_f {R : RT} {a q : Nat} {rv : Nat → Nat} : wwB (turF R a (R 1 a) q) rv (R 0 0) = wwP R a 1 rv q := by rw [tur_f]; rfl
theorem wwB_z {S : RT} {rv : Nat → Nat} {a n : Nat} (h2 : ¬ tld (ftN S a) = rv a) (h : a < n) : ¬ wwB S rv n = true := by
  have h1 : ¬ wwB S rv (a + 1) = true := by rw [wwB_n h2]; decide
  rw [show n = a + 1 + (n - (a + 1)) by omega, wwB_f h1]
  decide
def wrJ (rm n : Nat) : Nat := if rm = n then 0 else 3
theorem wrJ_le (rm n : Nat) : wrJ rm n ≤ 6 := by unfold wrJ; split <;> omega
theorem ww_eq {R : RT} {x w : Int} {rm : Nat} : rtT R x (foN (otN w 1) (wrJ rm (R 0 0))) = cWW R x w rm := by
  unfold rtT cWW
  by_cases h : 0 ≤ x ∧ x < ((R 0 0 : Nat) : Int)
  · rw [if_pos h, if_pos h]
    unfold foN otN wrJ
    by_cases h2 : 0 ≤ w ∧ w ≤ 1
    · rw [if_pos h2, if_pos h2, if_neg (by decide)]
    · rw [if_neg h2, if_neg h2, if_pos (by decide)]
  · rw [if_neg h, if_neg h]
theorem cWW_le (R : RT) (x w : Int) (rm : Nat) : cWW R x w rm ≤ 6 := by unfold cWW; (repeat' split) <;> omega
theorem cWW_0 {R : RT} {x w : Int} {rm : Nat} (h : cWW R x w rm = 0) : (0 ≤ x ∧ x < ((R 0 0 : Nat) : Int)) ∧ (0 ≤ w ∧ w ≤ 1) ∧ rm = R 0 0 := by
  unfold cWW at h
  by_cases h1 : 0 ≤ x ∧ x < ((R 0 0 : Nat) : Int)
  · rw [if_pos h1] at h
    by_cases h2 : 0 ≤ w ∧ w ≤ 1
    · rw [if_pos h2] at h
      by_cases h3 : rm = R 0 0
      · exact ⟨h1, h2, h3⟩
      · rw [if_neg h3] at h; omega
    · rw [if_neg h2] at h; omega
  · rw [if_neg h1] at h; omega
theorem vWW_0 {R : RT} {k : Nat} {w : Int} {rv : Nat → Nat} (h : w = 0) : bs (wwP R k 0 rv) 6 = vWW R k w rv := by subst h; rfl
theorem vWW_1 {R : RT} {k : Nat} {w : Int} {rv : Nat → Nat} (h : w = 1) : bs (wwP R k 1 rv) 10 = vWW R k w rv := by subst h; rfl
set_option maxRecDepth 100000 in
set_option maxHeartbeats 4000000 in
theorem kX1_rowIsSoWith (l : Launch) (G : GT) (h0 : Nat) (so : Nat) (to : Nat) (uo : Nat) (x5 : Nat) (x6 : Nat) (x7 : Nat) (x8 : Nat) (im : Nat) (lm : Nat) (rm : Nat) (sd : Int32) (ak : Nat) (af : Nat) (ab : Nat) (aa : Nat) (R : RT) (tk : Nat) (tf : Nat) (tb : Nat) (ta : Nat) (m0 : Nat) (S : RT) (ft : Nat → Int32) (rv : Nat → Nat) (a : Nat) (k2 : Nat) (f2 : Nat) (hR : OK R) (hK : AK R) (hp : R 0 3 = 0) (hrv : ∀ k, k < R 0 0 → rv k ≤ 99) (hrm : rm = R 0 0) (ha : a < R 0 0) (hk2 : k2 ≤ 5) (hf2 : f2 ≤ 9) : Ct l yX1_rowIsSoWith cX1_rowIsSoWith 6 (some .boolean) 4 100 [.ref h0, .int (nI a), .int (nI k2), .int (nI f2)] G [(h0, .inr (1, [.ref so, .ref to, .ref uo, .int (nI im), .ref x5, .int (nI lm), .ref x6, .int (nI rm), .ref x7, .ref x8, .int sd])), (so, .inr (0, [.int (nI (sN R)), .int (nI (R 0 1)), .int (nI (sF R)), .int (nI (sS R)), .int (nI (sL R)), .ref ak, .ref af, .ref ab, .ref aa])), (ak, aI G 10 (sK R)), (af, aI G 10 (sG R)), (ab, aI G 10 (sO R)), (aa, aI G 10 (sA R)), (to, .inr (0, [.int (nI (sN S)), .int (nI m0), .int (nI (sF S)), .int (nI (sS S)), .int (nI (sL S)), .ref tk, .ref tf, .ref tb, .ref ta])), (tk, aI G 10 (sK S)), (tf, aI G 10 (sG S)), (tb, aI G 10 (sO S)), (ta, aI G 10 (sA S)), (x6, aI G 16 (cN rv)), (x8, aI G 10 ft)] (QI G [(h0, .inr (1, [.ref so, .ref to, .ref uo, .int (nI im), .ref x5, .int (nI lm), .ref x6, .int (nI rm), .ref x7, .ref x8, .int sd])), (so, .inr (0, [.int (nI (sN R)), .int (nI (R 0 1)), .int (nI (sF R)), .int (nI (sS R)), .int (nI (sL R)), .ref ak, .ref af, .ref ab, .ref aa])), (ak, aI G 10 (sK R)), (af, aI G 10 (sG R)), (ab, aI G 10 (sO R)), (aa, aI G 10 (sA R)), (to, .inr (0, [.int (nI (sN S)), .int (nI m0), .int (nI (sF S)), .int (nI (sS S)), .int (nI (sL S)), .ref tk, .ref tf, .ref tb, .ref ta])), (tk, aI G 10 (sK S)), (tf, aI G 10 (sG S)), (tb, aI G 10 (sO S)), (ta, aI G 10 (sA S)), (x6, aI G 16 (cN rv)), (x8, aI G 10 ft)] (fun (r : Int32) (u : RT) => r = (if wwB (turF R a k2 f2) rv (R 0 0) = true then 1 else 0) ∧ True) (fun u => [(h0, .inr (1, [.ref so, .ref to, .ref uo, .int (nI im), .ref x5, .int (nI lm), .ref x6, .int (nI rm), .ref x7, .ref x8, .int sd])), (so, .inr (0, [.int (nI (sN R)), .int (nI (R 0 1)), .int (nI (sF R)), .int (nI (sS R)), .int (nI (sL R)), .ref ak, .ref af, .ref ab, .ref aa])), (ak, aI G 10 (sK R)), (af, aI G 10 (sG R)), (ab, aI G 10 (sO R)), (aa, aI G 10 (sA R)), (to, .inr (0, [.int (nI (sN u)), .int (nI (R 0 1)), .int (nI (sF u)), .int (nI (sS u)), .int (nI (sL u)), .ref tk, .ref tf, .ref tb, .ref ta])), (tk, aI G 10 (sK u)), (tf, aI G 10 (sG u)), (tb, aI G 10 (sO u)), (ta, aI G 10 (sA u)), (x6, aI G 16 (cN rv)), (x8, aI G 10 (cF (ftQ (turF R a k2 f2) 100)))])) := by
  refine en (by decide +kernel) (Nat.le_of_ble_eq_true rfl) ?_
  intro p e s m below meth c ls H locs C hl hw
  have xx := C.1
  have xb := C.2.1
  have hw : Wd G (fA [(h0, .inr (1, [.ref so, .ref to, .ref uo, .int (nI im), .ref x5, .int (nI lm), .ref x6, .int (nI rm), .ref x7, .ref x8, .int sd])), (so, .inr (0, [.int (nI (sN R)), .int (nI (R 0 1)), .int (nI (sF R)), .int (nI (sS R)), .int (nI (sL R)), .ref ak, .ref af, .ref ab, .ref aa])), (ak, aI G 10 (sK R)), (af, aI G 10 (sG R)), (ab, aI G 10 (sO R)), (aa, aI G 10 (sA R)), (to, .inr (0, [.int (nI (sN S)), .int (nI m0), .int (nI (sF S)), .int (nI (sS S)), .int (nI (sL S)), .ref tk, .ref tf, .ref tb, .ref ta])), (tk, aI G 10 (sK S)), (tf, aI G 10 (sG S)), (tb, aI G 10 (sO S)), (ta, aI G 10 (sA S)), (x6, aI G 16 (cN rv)), (x8, aI G 10 ft)]) s [(h0, .inr (1, [.ref so, .ref to, .ref uo, .int (nI im), .ref x5, .int (nI lm), .ref x6, .int (nI rm), .ref x7, .ref x8, .int sd])), (so, .inr (0, [.int (nI (sN R)), .int (nI (R 0 1)), .int (nI (sF R)), .int (nI (sS R)), .int (nI (sL R)), .ref ak, .ref af, .ref ab, .ref aa])), (ak, aI G 10 (sK R)), (af, aI G 10 (sG R)), (ab, aI G 10 (sO R)), (aa, aI G 10 (sA R)), (to, .inr (0, [.int (nI (sN S)), .int (nI m0), .int (nI (sF S)), .int (nI (sS S)), .int (nI (sL S)), .ref tk, .ref tf, .ref tb, .ref ta])), (tk, aI G 10 (sK S)), (tf, aI G 10 (sG S)), (tb, aI G 10 (sO S)), (ta, aI G 10 (sA S)), (x6, aI G 16 (cN rv)), (x8, aI G 10 ft)] H locs := hw
  have hl : lv_has ls 6 [(0, .ref h0), (1, .int (nI a)), (2, .int (nI k2)), (3, .int (nI f2))] := hl
  obtain ⟨hn, hf0, hpr, hA⟩ := id hR
  have hTO := OK_turF (a := a) hR hk2 hf2
  have hTK := AK_turF hK a k2 f2
  have hTp : (turF R a k2 f2) 0 3 = 0 := (tur_00 R a k2 f2 3).trans hp
  have hTn := tur_00 R a k2 f2 0
  refine lv_aload_n xx xb dX1_rowIsSoWith_0 rfl (lv_at hl 0 rfl) ?_
  refine m_get C hw 0 rfl fk_X1_16 rfl dX1_rowIsSoWith_1 ?_
  refine lv_aload_n xx xb dX1_rowIsSoWith_4 rfl (lv_at hl 0 rfl) ?_
  refine m_get C hw 0 rfl fk_X1_10 rfl dX1_rowIsSoWith_5 ?_
  have hM := kX0_copyFrom l G to tk tf tb ta m0 S so ak af ab aa (R 0 1) R (by first | assumption | omega)
  refine cv_v C hw hM yvX0_copyFrom ml_X1_131 6 rfl rfl rfl [6, 7, 8, 9, 10, 1, 2, 3, 4, 5] rfl rfl (fun _ => (rfl : ([to, tk, tf, tb, ta, so, ak, af, ab, aa] : List Nat) = [to, tk, tf, tb, ta, so, ak, af, ab, aa])) (by decide) ⟨Nat.zero_le _, Nat.zero_le _⟩ hl.1 rfl (Nat.le_of_ble_eq_true rfl) dX1_rowIsSoWith_8 (fun _ H locs hr hw => ?_)
  have hw : Wd G (fA [(h0, .inr (1, [.ref so, .ref to, .ref uo, .int (nI im), .ref x5, .int (nI lm), .ref x6, .int (nI rm), .ref x7, .ref x8, .int sd])), (so, .inr (0, [.int (nI (sN R)), .int (nI (R 0 1)), .int (nI (sF R)), .int (nI (sS R)), .int (nI (sL R)), .ref ak, .ref af, .ref ab, .ref aa])), (ak, aI G 10 (sK R)), (af, aI G 10 (sG R)), (ab, aI G 10 (sO R)), (aa, aI G 10 (sA R)), (to, .inr (0, [.int (nI (sN S)), .int (nI m0), .int (nI (sF S)), .int (nI (sS S)), .int (nI (sL S)), .ref tk, .ref tf, .ref tb, .ref ta])), (tk, aI G 10 (sK S)), (tf, aI G 10 (sG S)), (tb, aI G 10 (sO S)), (ta, aI G 10 (sA S)), (x6, aI G 16 (cN rv)), (x8, aI G 10 ft)]) s [(h0, .inr (1, [.ref so, .ref to, .ref uo, .int (nI im), .ref x5, .int (nI lm), .ref x6, .int (nI rm), .ref x7, .ref x8, .int sd])), (so, .inr (0, [.int (nI (sN R)), .int (nI (R 0 1)), .int (nI (sF R)), .int (nI (sS R)), .int (nI (sL R)), .ref ak, .ref af, .ref ab, .ref aa])), (ak, aI G 10 (sK R)), (af, aI G 10 (sG R)), (ab, aI G 10 (sO R)), (aa, aI G 10 (sA R)), (to, .inr (0, [.int (nI (sN R)), .int (nI (R 0 1)), .int (nI (sF R)), .int (nI (sS R)), .int (nI (sL R)), .ref tk, .ref tf, .ref tb, .ref ta])), (tk, aI G 10 (sK R)), (tf, aI G 10 (sG R)), (tb, aI G 10 (sO R)), (ta, aI G 10 (sA R)), (x6, aI G 16 (cN rv)), (x8, aI G 10 ft)] H locs := hw
  refine lv_aload_n xx xb dX1_rowIsSoWith_11 rfl (lv_at hl 0 rfl) ?_
  refine m_get C hw 0 rfl fk_X1_16 rfl dX1_rowIsSoWith_12 ?_
  refine lv_iload_n xx xb dX1_rowIsSoWith_15 rfl (lv_at hl 1 rfl) ?_
  refine lv_iload_n xx xb dX1_rowIsSoWith_16 rfl (lv_at hl 2 rfl) ?_
  refine lv_iload_n xx xb dX1_rowIsSoWith_17 rfl (lv_at hl 3 rfl) ?_
  have hM := kX0_become l G to tk tf tb ta (R 0 1) R a k2 f2 hn ha
  refine cv_v C hw hM yvX0_become ml_X1_118 6 rfl rfl rfl [6, 7, 8, 9, 10] rfl rfl (fun _ => (rfl : ([to, tk, tf, tb, ta] : List Nat) = [to, tk, tf, tb, ta])) (by decide) ⟨Nat.zero_le _, Nat.zero_le _⟩ hl.1 rfl (Nat.le_of_ble_eq_true rfl) dX1_rowIsSoWith_18 (fun _ H locs hr hw => ?_)
  have hw : Wd G (fA [(h0, .inr (1, [.ref so, .ref to, .ref uo, .int (nI im), .ref x5, .int (nI lm), .ref x6, .int (nI rm), .ref x7, .ref x8, .int sd])), (so, .inr (0, [.int (nI (sN R)), .int (nI (R 0 1)), .int (nI (sF R)), .int (nI (sS R)), .int (nI (sL R)), .ref ak, .ref af, .ref ab, .ref aa])), (ak, aI G 10 (sK R)), (af, aI G 10 (sG R)), (ab, aI G 10 (sO R)), (aa, aI G 10 (sA R)), (to, .inr (0, [.int (nI (sN S)), .int (nI m0), .int (nI (sF S)), .int (nI (sS S)), .int (nI (sL S)), .ref tk, .ref tf, .ref tb, .ref ta])), (tk, aI G 10 (sK S)), (tf, aI G 10 (sG S)), (tb, aI G 10 (sO S)), (ta, aI G 10 (sA S)), (x6, aI G 16 (cN rv)), (x8, aI G 10 ft)]) s [(h0, .inr (1, [.ref so, .ref to, .ref uo, .int (nI im), .ref x5, .int (nI lm), .ref x6, .int (nI rm), .ref x7, .ref x8, .int sd])), (so, .inr (0, [.int (nI (sN R)), .int (nI (R 0 1)), .int (nI (sF R)), .int (nI (sS R)), .int (nI (sL R)), .ref ak, .ref af, .ref ab, .ref aa])), (ak, aI G 10 (sK R)), (af, aI G 10 (sG R)), (ab, aI G 10 (sO R)), (aa, aI G 10 (sA R)), (to, .inr (0, [.int (nI (sN (turF R a k2 f2))), .int (nI (R 0 1)), .int (nI (sF (turF R a k2 f2))), .int (nI (sS (turF R a k2 f2))), .int (nI (sL (turF R a k2 f2))), .ref tk, .ref tf, .ref tb, .ref ta])), (tk, aI G 10 (sK (turF R a k2 f2))), (tf, aI G 10 (sG (turF R a k2 f2))), (tb, aI G 10 (sO (turF R a k2 f2))), (ta, aI G 10 (sA (turF R a k2 f2))), (x6, aI G 16 (cN rv)), (x8, aI G 10 ft)] H locs := hw
  refine lv_aload_n xx xb dX1_rowIsSoWith_21 rfl (lv_at hl 0 rfl) ?_
  have hM := kX1_findFallTimes l G h0 so to uo x5 x6 x7 x8 im lm rm sd tk tf tb ta (R 0 1) (turF R a k2 f2) ft hTO hTK hTp
  refine cv_v C hw hM yvX1_findFallTimes ml_X1_135 0 rfl rfl rfl [0, 6, 7, 8, 9, 10, 12] rfl rfl (fun _ => (rfl : ([h0, to, tk, tf, tb, ta, x8] : List Nat) = [h0, to, tk, tf, tb, ta, x8])) (by decide) ⟨Nat.zero_le _, Nat.zero_le _⟩ hl.1 rfl (Nat.le_of_ble_eq_true rfl) dX1_rowIsSoWith_22 (fun u H locs hr hw => ?_)
  obtain ⟨u1, hu1⟩ : ∃ z, z = u := ⟨_, rfl⟩
  subst hu1
  have hw : Wd G (fA [(h0, .inr (1, [.ref so, .ref to, .ref uo, .int (nI im), .ref x5, .int (nI lm), .ref x6, .int (nI rm), .ref x7, .ref x8, .int sd])), (so, .inr (0, [.int (nI (sN R)), .int (nI (R 0 1)), .int (nI (sF R)), .int (nI (sS R)), .int (nI (sL R)), .ref ak, .ref af, .ref ab, .ref aa])), (ak, aI G 10 (sK R)), (af, aI G 10 (sG R)), (ab, aI G 10 (sO R)), (aa, aI G 10 (sA R)), (to, .inr (0, [.int (nI (sN S)), .int (nI m0), .int (nI (sF S)), .int (nI (sS S)), .int (nI (sL S)), .ref tk, .ref tf, .ref tb, .ref ta])), (tk, aI G 10 (sK S)), (tf, aI G 10 (sG S)), (tb, aI G 10 (sO S)), (ta, aI G 10 (sA S)), (x6, aI G 16 (cN rv)), (x8, aI G 10 ft)]) s [(h0, .inr (1, [.ref so, .ref to, .ref uo, .int (nI im), .ref x5, .int (nI lm), .ref x6, .int (nI rm), .ref x7, .ref x8, .int sd])), (so, .inr (0, [.int (nI (sN R)), .int (nI (R 0 1)), .int (nI (sF R)), .int (nI (sS R)), .int (nI (sL R)), .ref ak, .ref af, .ref ab, .ref aa])), (ak, aI G 10 (sK R)), (af, aI G 10 (sG R)), (ab, aI G 10 (sO R)), (aa, aI G 10 (sA R)), (to, .inr (0, [.int (nI (sN u1)), .int (nI (R 0 1)), .int (nI (sF u1)), .int (nI (sS u1)), .int (nI (sL u1)), .ref tk, .ref tf, .ref tb, .ref ta])), (tk, aI G 10 (sK u1)), (tf, aI G 10 (sG u1)), (tb, aI G 10 (sO u1)), (ta, aI G 10 (sA u1)), (x6, aI G 16 (cN rv)), (x8, aI G 10 (cF (ftQ (turF R a k2 f2) 100)))] H locs := hw
  refine lv_iconst (v := nI 0) xx xb dX1_rowIsSoWith_25 (by decide) ?_
  refine lv_istore (lv' := [(4, .int (nI 0)), (0, .ref h0), (1, .int (nI a)), (2, .int (nI k2)), (3, .int (nI f2))]) xx xb dX1_rowIsSoWith_26 hl (by decide) rfl (fun ls hl => ?_)
  have L_28 : ∀ (fu : Nat) (i : Nat) (H : Heap) (locs : List Loc) (ls : Array Slot), 10 - i < fu → (i ≤ R 0 0) → (wwB (turF R a k2 f2) rv i = true) → Wd G (fA [(h0, .inr (1, [.ref so, .ref to, .ref uo, .int (nI im), .ref x5, .int (nI lm), .ref x6, .int (nI rm), .ref x7, .ref x8, .int sd])), (so, .inr (0, [.int (nI (sN R)), .int (nI (R 0 1)), .int (nI (sF R)), .int (nI (sS R)), .int (nI (sL R)), .ref ak, .ref af, .ref ab, .ref aa])), (ak, aI G 10 (sK R)), (af, aI G 10 (sG R)), (ab, aI G 10 (sO R)), (aa, aI G 10 (sA R)), (to, .inr (0, [.int (nI (sN S)), .int (nI m0), .int (nI (sF S)), .int (nI (sS S)), .int (nI (sL S)), .ref tk, .ref tf, .ref tb, .ref ta])), (tk, aI G 10 (sK S)), (tf, aI G 10 (sG S)), (tb, aI G 10 (sO S)), (ta, aI G 10 (sA S)), (x6, aI G 16 (cN rv)), (x8, aI G 10 ft)]) s [(h0, .inr (1, [.ref so, .ref to, .ref uo, .int (nI im), .ref x5, .int (nI lm), .ref x6, .int (nI rm), .ref x7, .ref x8, .int sd])), (so, .inr (0, [.int (nI (sN R)), .int (nI (R 0 1)), .int (nI (sF R)), .int (nI (sS R)), .int (nI (sL R)), .ref ak, .ref af, .ref ab, .ref aa])), (ak, aI G 10 (sK R)), (af, aI G 10 (sG R)), (ab, aI G 10 (sO R)), (aa, aI G 10 (sA R)), (to, .inr (0, [.int (nI (sN u1)), .int (nI (R 0 1)), .int (nI (sF u1)), .int (nI (sS u1)), .int (nI (sL u1)), .ref tk, .ref tf, .ref tb, .ref ta])), (tk, aI G 10 (sK u1)), (tf, aI G 10 (sG u1)), (tb, aI G 10 (sO u1)), (ta, aI G 10 (sA u1)), (x6, aI G 16 (cN rv)), (x8, aI G 10 (cF (ftQ (turF R a k2 f2) 100)))] H locs → lv_has ls 6 [(0, .ref h0), (1, .int (nI a)), (2, .int (nI k2)), (3, .int (nI f2)), (4, .int (nI i))] → W p l e ({ frames := 4, cells := 0, slots := 0, locals := 100 }) s m (([.ref h0, .int (nI a), .int (nI k2), .int (nI f2)] : List Value).toArray) below meth c H locs 0 0 (MQ below (QI G [(h0, .inr (1, [.ref so, .ref to, .ref uo, .int (nI im), .ref x5, .int (nI lm), .ref x6, .int (nI rm), .ref x7, .ref x8, .int sd])), (so, .inr (0, [.int (nI (sN R)), .int (nI (R 0 1)), .int (nI (sF R)), .int (nI (sS R)), .int (nI (sL R)), .ref ak, .ref af, .ref ab, .ref aa])), (ak, aI G 10 (sK R)), (af, aI G 10 (sG R)), (ab, aI G 10 (sO R)), (aa, aI G 10 (sA R)), (to, .inr (0, [.int (nI (sN S)), .int (nI m0), .int (nI (sF S)), .int (nI (sS S)), .int (nI (sL S)), .ref tk, .ref tf, .ref tb, .ref ta])), (tk, aI G 10 (sK S)), (tf, aI G 10 (sG S)), (tb, aI G 10 (sO S)), (ta, aI G 10 (sA S)), (x6, aI G 16 (cN rv)), (x8, aI G 10 ft)] (fun (r : Int32) (u : RT) => r = (if wwB (turF R a k2 f2) rv (R 0 0) = true then 1 else 0) ∧ True) (fun u => [(h0, .inr (1, [.ref so, .ref to, .ref uo, .int (nI im), .ref x5, .int (nI lm), .ref x6, .int (nI rm), .ref x7, .ref x8, .int sd])), (so, .inr (0, [.int (nI (sN R)), .int (nI (R 0 1)), .int (nI (sF R)), .int (nI (sS R)), .int (nI (sL R)), .ref ak, .ref af, .ref ab, .ref aa])), (ak, aI G 10 (sK R)), (af, aI G 10 (sG R)), (ab, aI G 10 (sO R)), (aa, aI G 10 (sA R)), (to, .inr (0, [.int (nI (sN u)), .int (nI (R 0 1)), .int (nI (sF u)), .int (nI (sS u)), .int (nI (sL u)), .ref tk, .ref tf, .ref tb, .ref ta])), (tk, aI G 10 (sK u)), (tf, aI G 10 (sG u)), (tb, aI G 10 (sO u)), (ta, aI G 10 (sA u)), (x6, aI G 16 (cN rv)), (x8, aI G 10 (cF (ftQ (turF R a k2 f2) 100)))])) (([.ref h0, .int (nI a), .int (nI k2), .int (nI f2)] : List Value).toArray) s 0 0 (fA [(h0, .inr (1, [.ref so, .ref to, .ref uo, .int (nI im), .ref x5, .int (nI lm), .ref x6, .int (nI rm), .ref x7, .ref x8, .int sd])), (so, .inr (0, [.int (nI (sN R)), .int (nI (R 0 1)), .int (nI (sF R)), .int (nI (sS R)), .int (nI (sL R)), .ref ak, .ref af, .ref ab, .ref aa])), (ak, aI G 10 (sK R)), (af, aI G 10 (sG R)), (ab, aI G 10 (sO R)), (aa, aI G 10 (sA R)), (to, .inr (0, [.int (nI (sN S)), .int (nI m0), .int (nI (sF S)), .int (nI (sS S)), .int (nI (sL S)), .ref tk, .ref tf, .ref tb, .ref ta])), (tk, aI G 10 (sK S)), (tf, aI G 10 (sG S)), (tb, aI G 10 (sO S)), (ta, aI G 10 (sA S)), (x6, aI G 16 (cN rv)), (x8, aI G 10 ft)])) (F0 m 28 ls []) := by
    intro fu
    induction fu with
    | zero => intro i H locs ls hfu; exact absurd hfu (Nat.not_lt_zero _)
    | succ fu ih_28 =>
      intro i H locs ls hfu hi hB hw hl
      refine lv_iload xx xb dX1_rowIsSoWith_28 (lv_at hl 4 rfl) ?_
      refine lv_aload_n xx xb dX1_rowIsSoWith_30 rfl (lv_at hl 0 rfl) ?_
      refine m_get C hw 0 rfl fk_X1_208 rfl dX1_rowIsSoWith_31 ?_
      refine lv_icmp_ge (tgt := 95) xx xb dX1_rowIsSoWith_34 (by decide) (fun c_34 => ?_) (fun c_34 => ?_)
      · skip
        have c_34 := le_c (tN (by omega)) (tN (by omega)) c_34
        refine lv_iconst (v := nI 1) xx xb dX1_rowIsSoWith_95 (by decide) ?_
        exact rt_z C hw u1 (Or.inr rfl) (⟨r1 (by rw [show R 0 0 = i by omega]; exact hB), trivial⟩) rfl dX1_rowIsSoWith_96
      · skip
        have c_34 := nle_c (tN (by omega)) (tN (by omega)) c_34
        refine lv_iload xx xb dX1_rowIsSoWith_37 (lv_at hl 4 rfl) ?_
        refine lv_aload_n xx xb dX1_rowIsSoWith_39 rfl (lv_at hl 0 rfl) ?_
        refine m_get C hw 0 rfl fk_X1_10 rfl dX1_rowIsSoWith_40 ?_
        refine m_get C hw 1 rfl fk_X1_163 rfl dX1_rowIsSoWith_43 ?_
        refine re_i (nI (R 0 0)) rfl ?_
        refine lv_icmp_ge (tgt := 95) xx xb dX1_rowIsSoWith_46 (by decide) (fun c_46 => ?_) (fun c_46 => ?_)
        · skip
          have c_46 := le_c (tN (by omega)) (tN (by omega)) c_46
          refine lv_iconst (v := nI 1) xx xb dX1_rowIsSoWith_95 (by decide) ?_
          exact rt_z C hw u1 (Or.inr rfl) (⟨r1 (by rw [show R 0 0 = i by omega]; exact hB), trivial⟩) rfl dX1_rowIsSoWith_96
        · skip
          have c_46 := nle_c (tN (by omega)) (tN (by omega)) c_46
          refine lv_aload_n xx xb dX1_rowIsSoWith_49 rfl (lv_at hl 0 rfl) ?_
          refine m_get C hw 0 rfl fk_X1_32 rfl dX1_rowIsSoWith_50 ?_
          refine lv_iload xx xb dX1_rowIsSoWith_53 (lv_at hl 4 rfl) ?_
          refine m_ald C hw 12 rfl i rfl (by omega) (by decide) dX1_rowIsSoWith_55 ?_
          refine re_i (ftI ((ftQ (turF R a k2 f2) 100) i)) rfl ?_
          refine re_i (ftI (ftN (turF R a k2 f2) i)) (congrArg ftI (ftQ_e (by omega))) ?_
          have hfl := ftN_le (turF R a k2 f2) i
          refine lv_bipush (v := (-9)) xx xb dX1_rowIsSoWith_56 (by decide) ?_
          refine lv_icmp_ne (tgt := 66) xx xb dX1_rowIsSoWith_58 (by decide) (fun c_58 => ?_) (fun c_58 => ?_)
          · skip
            have c_58 := ftI_n9 c_58
            refine lv_aload_n xx xb dX1_rowIsSoWith_66 rfl (lv_at hl 0 rfl) ?_
            refine m_get C hw 0 rfl fk_X1_32 rfl dX1_rowIsSoWith_67 ?_
            refine lv_iload xx xb dX1_rowIsSoWith_70 (lv_at hl 4 rfl) ?_
            refine m_ald C hw 12 rfl i rfl (by omega) (by decide) dX1_rowIsSoWith_72 ?_
            refine re_i (ftI ((ftQ (turF R a k2 f2) 100) i)) rfl ?_
            refine re_i (nI (tld (ftN (turF R a k2 f2) i))) ((congrArg ftI (ftQ_e (by omega))).trans (tld_y c_58)) ?_
            refine lv_istore (lv' := [(5, .int (nI (tld (ftN (turF R a k2 f2) i)))), (0, .ref h0), (1, .int (nI a)), (2, .int (nI k2)), (3, .int (nI f2)), (4, .int (nI i))]) xx xb dX1_rowIsSoWith_73 hl (by decide) rfl (fun ls hl => ?_)
            refine lv_aload_n xx xb dX1_rowIsSoWith_75 rfl (lv_at hl 1 rfl) ?_
            refine m_get C hw 0 rfl fk_X1_26 rfl dX1_rowIsSoWith_76 ?_
            refine lv_iload xx xb dX1_rowIsSoWith_79 (lv_at hl 5 rfl) ?_
            have ht9 := tld_le (ftN (turF R a k2 f2) i)
            have hr9 := hrv i (by omega)
            refine m_ald C hw 11 rfl i rfl (by omega) (by decide) dX1_rowIsSoWith_81 ?_
            refine re_i (nI (rv i)) rfl ?_
            refine lv_iload xx xb dX1_rowIsSoWith_82 (lv_at hl 0 rfl) ?_
            refine lv_icmp_eq (tgt := 89) xx xb dX1_rowIsSoWith_84 (by decide) (fun c_84 => ?_) (fun c_84 => ?_)
            · skip
              have c_84 := eq_c (tN (by omega)) (tN (by omega)) c_84
              have hB2 : wwB (turF R a k2 f2) rv (i + 1) = true := wwB_t hB (by omega)
              refine lv_iinc (v := nI (i + 1)) (lv' := [(4, .int (nI (i + 1))), (5, .int (nI (tld (ftN (turF R a k2 f2) i)))), (0, .ref h0), (1, .int (nI a)), (2, .int (nI k2)), (3, .int (nI f2))]) xx xb dX1_rowIsSoWith_89 hl (k := 5) rfl (nI_add _ 1) (by decide) rfl (fun ls hl => ?_)
              refine lv_goto (tgt := 28) xx xb dX1_rowIsSoWith_92 (by decide) ?_
              exact ih_28 (i + 1) H _ ls (by omega) (by omega) hB2 hw (lv_sub hl [2, 3, 4, 5, 0] rfl)
            · skip
              have c_84 := ne_c (tN (by omega)) (tN (by omega)) c_84
              refine lv_iconst (v := nI 0) xx xb dX1_rowIsSoWith_87 (by decide) ?_
              exact rt_z C hw u1 (Or.inl rfl) (⟨r0 (wwB_z (a := i) (by omega) (by omega)), trivial⟩) rfl dX1_rowIsSoWith_88
          · skip
            have c_58 := ftI_m9 (by omega) c_58
            refine lv_bipush (v := nI 99) xx xb dX1_rowIsSoWith_61 (by decide) ?_
            refine lv_goto (tgt := 73) xx xb dX1_rowIsSoWith_63 (by decide) ?_
            refine re_i (nI (tld (ftN (turF R a k2 f2) i))) (tld_n c_58) ?_
            refine lv_istore (lv' := [(5, .int (nI (tld (ftN (turF R a k2 f2) i)))), (0, .ref h0), (1, .int (nI a)), (2, .int (nI k2)), (3, .int (nI f2)), (4, .int (nI i))]) xx xb dX1_rowIsSoWith_73 hl (by decide) rfl (fun ls hl => ?_)
            refine lv_aload_n xx xb dX1_rowIsSoWith_75 rfl (lv_at hl 1 rfl) ?_
            refine m_get C hw 0 rfl fk_X1_26 rfl dX1_rowIsSoWith_76 ?_
            refine lv_iload xx xb dX1_rowIsSoWith_79 (lv_at hl 5 rfl) ?_
            have ht9 := tld_le (ftN (turF R a k2 f2) i)
            have hr9 := hrv i (by omega)
            refine m_ald C hw 11 rfl i rfl (by omega) (by decide) dX1_rowIsSoWith_81 ?_
            refine re_i (nI (rv i)) rfl ?_
            refine lv_iload xx xb dX1_rowIsSoWith_82 (lv_at hl 0 rfl) ?_
            refine lv_icmp_eq (tgt := 89) xx xb dX1_rowIsSoWith_84 (by decide) (fun c_84 => ?_) (fun c_84 => ?_)
            · skip
              have c_84 := eq_c (tN (by omega)) (tN (by omega)) c_84
              have hB2 : wwB (turF R a k2 f2) rv (i + 1) = true := wwB_t hB (by omega)
              refine lv_iinc (v := nI (i + 1)) (lv' := [(4, .int (nI (i + 1))), (5, .int (nI (tld (ftN (turF R a k2 f2) i)))), (0, .ref h0), (1, .int (nI a)), (2, .int (nI k2)), (3, .int (nI f2))]) xx xb dX1_rowIsSoWith_89 hl (k := 5) rfl (nI_add _ 1) (by decide) rfl (fun ls hl => ?_)
              refine lv_goto (tgt := 28) xx xb dX1_rowIsSoWith_92 (by decide) ?_
              exact ih_28 (i + 1) H _ ls (by omega) (by omega) hB2 hw (lv_sub hl [2, 3, 4, 5, 0] rfl)
            · skip
              have c_84 := ne_c (tN (by omega)) (tN (by omega)) c_84
              refine lv_iconst (v := nI 0) xx xb dX1_rowIsSoWith_87 (by decide) ?_
              exact rt_z C hw u1 (Or.inl rfl) (⟨r0 (wwB_z (a := i) (by omega) (by omega)), trivial⟩) rfl dX1_rowIsSoWith_88
  exact L_28 (_ + 1) 0 H _ ls (Nat.lt_succ_self _) (by omega) rfl hw (lv_sub hl [1, 2, 3, 4, 0] rfl)
set_option maxRecDepth 100000 in
set_option maxHeartbeats 4000000 in
theorem kX1_kindsByRow (l : Launch) (G : GT) (h0 : Nat) (so : Nat) (to : Nat) (uo : Nat) (x5 : Nat) (x6 : Nat) (x7 : Nat) (x8 : Nat) (im : Nat) (lm : Nat) (rm : Nat) (sd : Int32) (ak : Nat) (af : Nat) (ab : Nat) (aa : Nat) (R : RT) (tk : Nat) (tf : Nat) (tb : Nat) (ta : Nat) (m0 : Nat) (S : RT) (ft : Nat → Int32) (rv : Nat → Nat) (a : Nat) (hR : OK R) (hK : AK R) (hp : R 0 3 = 0) (hrv : ∀ k, k < R 0 0 → rv k ≤ 99) (hrm : rm = R 0 0) (ha : a < R 0 0) : Ct l yX1_kindsByRow cX1_kindsByRow 4 (some .int) 5 125 [.ref h0, .int (nI a)] G [(h0, .inr (1, [.ref so, .ref to, .ref uo, .int (nI im), .ref x5, .int (nI lm), .ref x6, .int (nI rm), .ref x7, .ref x8, .int sd])), (so, .inr (0, [.int (nI (sN R)), .int (nI (R 0 1)), .int (nI (sF R)), .int (nI (sS R)), .int (nI (sL R)), .ref ak, .ref af, .ref ab, .ref aa])), (ak, aI G 10 (sK R)), (af, aI G 10 (sG R)), (ab, aI G 10 (sO R)), (aa, aI G 10 (sA R)), (to, .inr (0, [.int (nI (sN S)), .int (nI m0), .int (nI (sF S)), .int (nI (sS S)), .int (nI (sL S)), .ref tk, .ref tf, .ref tb, .ref ta])), (tk, aI G 10 (sK S)), (tf, aI G 10 (sG S)), (tb, aI G 10 (sO S)), (ta, aI G 10 (sA S)), (x6, aI G 16 (cN rv)), (x8, aI G 10 ft)] (QI G [(h0, .inr (1, [.ref so, .ref to, .ref uo, .int (nI im), .ref x5, .int (nI lm), .ref x6, .int (nI rm), .ref x7, .ref x8, .int sd])), (so, .inr (0, [.int (nI (sN R)), .int (nI (R 0 1)), .int (nI (sF R)), .int (nI (sS R)), .int (nI (sL R)), .ref ak, .ref af, .ref ab, .ref aa])), (ak, aI G 10 (sK R)), (af, aI G 10 (sG R)), (ab, aI G 10 (sO R)), (aa, aI G 10 (sA R)), (to, .inr (0, [.int (nI (sN S)), .int (nI m0), .int (nI (sF S)), .int (nI (sS S)), .int (nI (sL S)), .ref tk, .ref tf, .ref tb, .ref ta])), (tk, aI G 10 (sK S)), (tf, aI G 10 (sG S)), (tb, aI G 10 (sO S)), (ta, aI G 10 (sA S)), (x6, aI G 16 (cN rv)), (x8, aI G 10 ft)] (fun (r : Int32) (u : Nat × RT × (Nat → Int32)) => r = nI (bs (wwP R a 0 rv) 6) ∧ True) (fun u => [(h0, .inr (1, [.ref so, .ref to, .ref uo, .int (nI im), .ref x5, .int (nI lm), .ref x6, .int (nI rm), .ref x7, .ref x8, .int sd])), (so, .inr (0, [.int (nI (sN R)), .int (nI (R 0 1)), .int (nI (sF R)), .int (nI (sS R)), .int (nI (sL R)), .ref ak, .ref af, .ref ab, .ref aa])), (ak, aI G 10 (sK R)), (af, aI G 10 (sG R)), (ab, aI G 10 (sO R)), (aa, aI G 10 (sA R)), (to, .inr (0, [.int (nI (sN u.2.1)), .int (nI u.1), .int (nI (sF u.2.1)), .int (nI (sS u.2.1)), .int (nI (sL u.2.1)), .ref tk, .ref tf, .ref tb, .ref ta])), (tk, aI G 10 (sK u.2.1)), (tf, aI G 10 (sG u.2.1)), (tb, aI G 10 (sO u.2.1)), (ta, aI G 10 (sA u.2.1)), (x6, aI G 16 (cN rv)), (x8, aI G 10 u.2.2)])) := by
  refine en (by decide +kernel) (Nat.le_of_ble_eq_true rfl) ?_
  intro p e s m below meth c ls H locs C hl hw
  have xx := C.1
  have xb := C.2.1
  have hw : Wd G (fA [(h0, .inr (1, [.ref so, .ref to, .ref uo, .int (nI im), .ref x5, .int (nI lm), .ref x6, .int (nI rm), .ref x7, .ref x8, .int sd])), (so, .inr (0, [.int (nI (sN R)), .int (nI (R 0 1)), .int (nI (sF R)), .int (nI (sS R)), .int (nI (sL R)), .ref ak, .ref af, .ref ab, .ref aa])), (ak, aI G 10 (sK R)), (af, aI G 10 (sG R)), (ab, aI G 10 (sO R)), (aa, aI G 10 (sA R)), (to, .inr (0, [.int (nI (sN S)), .int (nI m0), .int (nI (sF S)), .int (nI (sS S)), .int (nI (sL S)), .ref tk, .ref tf, .ref tb, .ref ta])), (tk, aI G 10 (sK S)), (tf, aI G 10 (sG S)), (tb, aI G 10 (sO S)), (ta, aI G 10 (sA S)), (x6, aI G 16 (cN rv)), (x8, aI G 10 ft)]) s [(h0, .inr (1, [.ref so, .ref to, .ref uo, .int (nI im), .ref x5, .int (nI lm), .ref x6, .int (nI rm), .ref x7, .ref x8, .int sd])), (so, .inr (0, [.int (nI (sN R)), .int (nI (R 0 1)), .int (nI (sF R)), .int (nI (sS R)), .int (nI (sL R)), .ref ak, .ref af, .ref ab, .ref aa])), (ak, aI G 10 (sK R)), (af, aI G 10 (sG R)), (ab, aI G 10 (sO R)), (aa, aI G 10 (sA R)), (to, .inr (0, [.int (nI (sN S)), .int (nI m0), .int (nI (sF S)), .int (nI (sS S)), .int (nI (sL S)), .ref tk, .ref tf, .ref tb, .ref ta])), (tk, aI G 10 (sK S)), (tf, aI G 10 (sG S)), (tb, aI G 10 (sO S)), (ta, aI G 10 (sA S)), (x6, aI G 16 (cN rv)), (x8, aI G 10 ft)] H locs := hw
  have hl : lv_has ls 4 [(0, .ref h0), (1, .int (nI a))] := hl
  obtain ⟨hn, hf0, hpr, hA⟩ := id hR
  obtain ⟨q1, q2, q3, q4, q5⟩ := hA a ha
  refine lv_iconst (v := nI 0) xx xb dX1_kindsByRow_0 (by decide) ?_
  refine lv_istore_n (lv' := [(2, .int (nI 0)), (0, .ref h0), (1, .int (nI a))]) xx xb dX1_kindsByRow_1 rfl hl (by decide) rfl (fun ls hl => ?_)
  refine lv_iconst (v := nI 0) xx xb dX1_kindsByRow_2 (by decide) ?_
  refine lv_istore_n (lv' := [(3, .int (nI 0)), (2, .int (nI 0)), (0, .ref h0), (1, .int (nI a))]) xx xb dX1_kindsByRow_3 rfl hl (by decide) rfl (fun ls hl => ?_)
  have hl : lv_has ls 4 [(3, .int (nI 0)), (2, .int (nI (bs (wwP R a 0 rv) 0))), (0, .ref h0), (1, .int (nI a))] := hl
  have L_4 : ∀ (fu : Nat) (i : Nat) (y0 : Nat) (Y : RT) (fy : Nat → Int32) (H : Heap) (locs : List Loc) (ls : Array Slot), 6 - i < fu → (i ≤ 6) → Wd G (fA [(h0, .inr (1, [.ref so, .ref to, .ref uo, .int (nI im), .ref x5, .int (nI lm), .ref x6, .int (nI rm), .ref x7, .ref x8, .int sd])), (so, .inr (0, [.int (nI (sN R)), .int (nI (R 0 1)), .int (nI (sF R)), .int (nI (sS R)), .int (nI (sL R)), .ref ak, .ref af, .ref ab, .ref aa])), (ak, aI G 10 (sK R)), (af, aI G 10 (sG R)), (ab, aI G 10 (sO R)), (aa, aI G 10 (sA R)), (to, .inr (0, [.int (nI (sN S)), .int (nI m0), .int (nI (sF S)), .int (nI (sS S)), .int (nI (sL S)), .ref tk, .ref tf, .ref tb, .ref ta])), (tk, aI G 10 (sK S)), (tf, aI G 10 (sG S)), (tb, aI G 10 (sO S)), (ta, aI G 10 (sA S)), (x6, aI G 16 (cN rv)), (x8, aI G 10 ft)]) s [(h0, .inr (1, [.ref so, .ref to, .ref uo, .int (nI im), .ref x5, .int (nI lm), .ref x6, .int (nI rm), .ref x7, .ref x8, .int sd])), (so, .inr (0, [.int (nI (sN R)), .int (nI (R 0 1)), .int (nI (sF R)), .int (nI (sS R)), .int (nI (sL R)), .ref ak, .ref af, .ref ab, .ref aa])), (ak, aI G 10 (sK R)), (af, aI G 10 (sG R)), (ab, aI G 10 (sO R)), (aa, aI G 10 (sA R)), (to, .inr (0, [.int (nI (sN Y)), .int (nI y0), .int (nI (sF Y)), .int (nI (sS Y)), .int (nI (sL Y)), .ref tk, .ref tf, .ref tb, .ref ta])), (tk, aI G 10 (sK Y)), (tf, aI G 10 (sG Y)), (tb, aI G 10 (sO Y)), (ta, aI G 10 (sA Y)), (x6, aI G 16 (cN rv)), (x8, aI G 10 fy)] H locs → lv_has ls 4 [(0, .ref h0), (1, .int (nI a)), (2, .int (nI (bs (wwP R a 0 rv) i))), (3, .int (nI i))] → W p l e ({ frames := 5, cells := 0, slots := 0, locals := 125 }) s m (([.ref h0, .int (nI a)] : List Value).toArray) below meth c H locs 0 0 (MQ below (QI G [(h0, .inr (1, [.ref so, .ref to, .ref uo, .int (nI im), .ref x5, .int (nI lm), .ref x6, .int (nI rm), .ref x7, .ref x8, .int sd])), (so, .inr (0, [.int (nI (sN R)), .int (nI (R 0 1)), .int (nI (sF R)), .int (nI (sS R)), .int (nI (sL R)), .ref ak, .ref af, .ref ab, .ref aa])), (ak, aI G 10 (sK R)), (af, aI G 10 (sG R)), (ab, aI G 10 (sO R)), (aa, aI G 10 (sA R)), (to, .inr (0, [.int (nI (sN S)), .int (nI m0), .int (nI (sF S)), .int (nI (sS S)), .int (nI (sL S)), .ref tk, .ref tf, .ref tb, .ref ta])), (tk, aI G 10 (sK S)), (tf, aI G 10 (sG S)), (tb, aI G 10 (sO S)), (ta, aI G 10 (sA S)), (x6, aI G 16 (cN rv)), (x8, aI G 10 ft)] (fun (r : Int32) (u : Nat × RT × (Nat → Int32)) => r = nI (bs (wwP R a 0 rv) 6) ∧ True) (fun u => [(h0, .inr (1, [.ref so, .ref to, .ref uo, .int (nI im), .ref x5, .int (nI lm), .ref x6, .int (nI rm), .ref x7, .ref x8, .int sd])), (so, .inr (0, [.int (nI (sN R)), .int (nI (R 0 1)), .int (nI (sF R)), .int (nI (sS R)), .int (nI (sL R)), .ref ak, .ref af, .ref ab, .ref aa])), (ak, aI G 10 (sK R)), (af, aI G 10 (sG R)), (ab, aI G 10 (sO R)), (aa, aI G 10 (sA R)), (to, .inr (0, [.int (nI (sN u.2.1)), .int (nI u.1), .int (nI (sF u.2.1)), .int (nI (sS u.2.1)), .int (nI (sL u.2.1)), .ref tk, .ref tf, .ref tb, .ref ta])), (tk, aI G 10 (sK u.2.1)), (tf, aI G 10 (sG u.2.1)), (tb, aI G 10 (sO u.2.1)), (ta, aI G 10 (sA u.2.1)), (x6, aI G 16 (cN rv)), (x8, aI G 10 u.2.2)])) (([.ref h0, .int (nI a)] : List Value).toArray) s 0 0 (fA [(h0, .inr (1, [.ref so, .ref to, .ref uo, .int (nI im), .ref x5, .int (nI lm), .ref x6, .int (nI rm), .ref x7, .ref x8, .int sd])), (so, .inr (0, [.int (nI (sN R)), .int (nI (R 0 1)), .int (nI (sF R)), .int (nI (sS R)), .int (nI (sL R)), .ref ak, .ref af, .ref ab, .ref aa])), (ak, aI G 10 (sK R)), (af, aI G 10 (sG R)), (ab, aI G 10 (sO R)), (aa, aI G 10 (sA R)), (to, .inr (0, [.int (nI (sN S)), .int (nI m0), .int (nI (sF S)), .int (nI (sS S)), .int (nI (sL S)), .ref tk, .ref tf, .ref tb, .ref ta])), (tk, aI G 10 (sK S)), (tf, aI G 10 (sG S)), (tb, aI G 10 (sO S)), (ta, aI G 10 (sA S)), (x6, aI G 16 (cN rv)), (x8, aI G 10 ft)])) (F0 m 4 ls []) := by
    intro fu
    induction fu with
    | zero => intro i y0 Y fy H locs ls hfu; exact absurd hfu (Nat.not_lt_zero _)
    | succ fu ih_4 =>
      intro i y0 Y fy H locs ls hfu hi hw hl
      refine lv_iload_n xx xb dX1_kindsByRow_4 rfl (lv_at hl 3 rfl) ?_
      refine lv_bipush (v := nI 6) xx xb dX1_kindsByRow_5 (by decide) ?_
      refine lv_icmp_ge (tgt := 40) xx xb dX1_kindsByRow_7 (by decide) (fun c_7 => ?_) (fun c_7 => ?_)
      · skip
        have c_7 := le_c (tN (by omega)) (tN (by omega)) c_7
        refine lv_iload_n xx xb dX1_kindsByRow_40 rfl (lv_at hl 2 rfl) ?_
        exact rt_i C hw (y0, Y, fy) (⟨by rw [show 6 = i by omega], trivial⟩) rfl dX1_kindsByRow_41
      · skip
        have c_7 := nle_c (tN (by omega)) (tN (by omega)) c_7
        refine lv_aload_n xx xb dX1_kindsByRow_10 rfl (lv_at hl 0 rfl) ?_
        refine lv_iload_n xx xb dX1_kindsByRow_11 rfl (lv_at hl 1 rfl) ?_
        refine lv_iload_n xx xb dX1_kindsByRow_12 rfl (lv_at hl 3 rfl) ?_
        refine lv_aload_n xx xb dX1_kindsByRow_13 rfl (lv_at hl 0 rfl) ?_
        refine m_get C hw 0 rfl fk_X1_10 rfl dX1_kindsByRow_14 ?_
        refine m_get C hw 1 rfl fk_X1_61 rfl dX1_kindsByRow_17 ?_
        refine lv_iload_n xx xb dX1_kindsByRow_20 rfl (lv_at hl 1 rfl) ?_
        refine m_ald C hw 3 rfl a rfl (by omega) (by decide) dX1_kindsByRow_21 ?_
        refine re_i (nI (R 2 a)) rfl ?_
        have hM := kX1_rowIsSoWith l G h0 so to uo x5 x6 x7 x8 im lm rm sd ak af ab aa R tk tf tb ta y0 Y fy rv a i (R 2 a) (by first | assumption | omega) (by first | assumption | omega) (by first | assumption | omega) hrv hrm ha (by first | assumption | omega) (by first | assumption | omega)
        refine cv_i C hw hM yvX1_rowIsSoWith ml_X1_299 0 rfl rfl rfl [0, 1, 2, 3, 4, 5, 6, 7, 8, 9, 10, 11, 12] rfl rfl (fun _ => (rfl : ([h0, so, ak, af, ab, aa, to, tk, tf, tb, ta, x6, x8] : List Nat) = [h0, so, ak, af, ab, aa, to, tk, tf, tb, ta, x6, x8])) (by decide) ⟨Nat.zero_le _, Nat.zero_le _⟩ hl.1 rfl (Nat.le_of_ble_eq_true rfl) dX1_kindsByRow_22 (fun r u H locs hr hw => ?_)
        obtain ⟨u1, hu1⟩ : ∃ z, z = u := ⟨_, rfl⟩
        subst hu1
        have hw : Wd G (fA [(h0, .inr (1, [.ref so, .ref to, .ref uo, .int (nI im), .ref x5, .int (nI lm), .ref x6, .int (nI rm), .ref x7, .ref x8, .int sd])), (so, .inr (0, [.int (nI (sN R)), .int (nI (R 0 1)), .int (nI (sF R)), .int (nI (sS R)), .int (nI (sL R)), .ref ak, .ref af, .ref ab, .ref aa])), (ak, aI G 10 (sK R)), (af, aI G 10 (sG R)), (ab, aI G 10 (sO R)), (aa, aI G 10 (sA R)), (to, .inr (0, [.int (nI (sN S)), .int (nI m0), .int (nI (sF S)), .int (nI (sS S)), .int (nI (sL S)), .ref tk, .ref tf, .ref tb, .ref ta])), (tk, aI G 10 (sK S)), (tf, aI G 10 (sG S)), (tb, aI G 10 (sO S)), (ta, aI G 10 (sA S)), (x6, aI G 16 (cN rv)), (x8, aI G 10 ft)]) s [(h0, .inr (1, [.ref so, .ref to, .ref uo, .int (nI im), .ref x5, .int (nI lm), .ref x6, .int (nI rm), .ref x7, .ref x8, .int sd])), (so, .inr (0, [.int (nI (sN R)), .int (nI (R 0 1)), .int (nI (sF R)), .int (nI (sS R)), .int (nI (sL R)), .ref ak, .ref af, .ref ab, .ref aa])), (ak, aI G 10 (sK R)), (af, aI G 10 (sG R)), (ab, aI G 10 (sO R)), (aa, aI G 10 (sA R)), (to, .inr (0, [.int (nI (sN u1)), .int (nI (R 0 1)), .int (nI (sF u1)), .int (nI (sS u1)), .int (nI (sL u1)), .ref tk, .ref tf, .ref tb, .ref ta])), (tk, aI G 10 (sK u1)), (tf, aI G 10 (sG u1)), (tb, aI G 10 (sO u1)), (ta, aI G 10 (sA u1)), (x6, aI G 16 (cN rv)), (x8, aI G 10 (cF (ftQ (turF R a i (R 2 a)) 100)))] H locs := hw
        obtain ⟨hr, hq1⟩ := hr
        subst hr
        refine re_i (if wwP R a 0 rv i = true then 1 else 0) (by rw [wwP_k]) ?_
        refine lv_if_eq (tgt := 34) xx xb dX1_kindsByRow_25 (by decide) (fun c_25 => ?_) (fun c_25 => ?_)
        · skip
          have c_25 := b0_c c_25
          have hl : lv_has ls 4 [(0, .ref h0), (1, .int (nI a)), (2, .int (nI (bs (wwP R a 0 rv) (i + 1)))), (3, .int (nI i))] := by rw [← bs_orF (Bool.eq_false_iff.mpr c_25), Nat.or_zero]; exact hl
          refine lv_iinc (v := nI (i + 1)) (lv' := [(3, .int (nI (i + 1))), (0, .ref h0), (1, .int (nI a)), (2, .int (nI (bs (wwP R a 0 rv) (i + 1))))]) xx xb dX1_kindsByRow_34 hl (k := 3) rfl (nI_add _ 1) (by decide) rfl (fun ls hl => ?_)
          refine lv_goto (tgt := 4) xx xb dX1_kindsByRow_37 (by decide) ?_
          exact ih_4 (i + 1) (R 0 1) u1 (cF (ftQ (turF R a i (R 2 a)) 100)) H _ ls (by omega) (by omega) hw (lv_sub hl [1, 2, 3, 0] rfl)
        · skip
          have c_25 := b1_c c_25
          refine lv_iload_n xx xb dX1_kindsByRow_28 rfl (lv_at hl 2 rfl) ?_
          refine lv_iconst (v := nI 1) xx xb dX1_kindsByRow_29 (by decide) ?_
          refine lv_iload_n xx xb dX1_kindsByRow_30 rfl (lv_at hl 3 rfl) ?_
          refine lv_ishl xx xb dX1_kindsByRow_31 ?_
          refine re_i (nI (2 ^ i)) (shl1 (by omega)) ?_
          refine lv_ior xx xb dX1_kindsByRow_32 ?_
          refine re_i (nI ((bs (wwP R a 0 rv) i) ||| (2 ^ i))) (or_N _ _) ?_
          refine re_i (nI (bs (wwP R a 0 rv) (i + 1))) (congrArg nI (bs_orT c_25)) ?_
          refine lv_istore_n (lv' := [(2, .int (nI (bs (wwP R a 0 rv) (i + 1)))), (0, .ref h0), (1, .int (nI a)), (3, .int (nI i))]) xx xb dX1_kindsByRow_33 rfl hl (by decide) rfl (fun ls hl => ?_)
          refine lv_iinc (v := nI (i + 1)) (lv' := [(3, .int (nI (i + 1))), (2, .int (nI (bs (wwP R a 0 rv) (i + 1)))), (0, .ref h0), (1, .int (nI a))]) xx xb dX1_kindsByRow_34 hl (k := 3) rfl (nI_add _ 1) (by decide) rfl (fun ls hl => ?_)
          refine lv_goto (tgt := 4) xx xb dX1_kindsByRow_37 (by decide) ?_
          exact ih_4 (i + 1) (R 0 1) u1 (cF (ftQ (turF R a i (R 2 a)) 100)) H _ ls (by omega) (by omega) hw (lv_sub hl [2, 3, 1, 0] rfl)
  exact L_4 (_ + 1) 0 m0 S ft H _ ls (Nat.lt_succ_self _) (by omega) hw (lv_sub hl [2, 3, 1, 0] rfl)
set_option maxRecDepth 100000 in
set_option maxHeartbeats 4000000 in
theorem kX1_figuresByRow (l : Launch) (G : GT) (h0 : Nat) (so : Nat) (to : Nat) (uo : Nat) (x5 : Nat) (x6 : Nat) (x7 : Nat) (x8 : Nat) (im : Nat) (lm : Nat) (rm : Nat) (sd : Int32) (ak : Nat) (af : Nat) (ab : Nat) (aa : Nat) (R : RT) (tk : Nat) (tf : Nat) (tb : Nat) (ta : Nat) (m0 : Nat) (S : RT) (ft : Nat → Int32) (rv : Nat → Nat) (a : Nat) (hR : OK R) (hK : AK R) (hp : R 0 3 = 0) (hrv : ∀ k, k < R 0 0 → rv k ≤ 99) (hrm : rm = R 0 0) (ha : a < R 0 0) : Ct l yX1_figuresByRow cX1_figuresByRow 4 (some .int) 5 125 [.ref h0, .int (nI a)] G [(h0, .inr (1, [.ref so, .ref to, .ref uo, .int (nI im), .ref x5, .int (nI lm), .ref x6, .int (nI rm), .ref x7, .ref x8, .int sd])), (so, .inr (0, [.int (nI (sN R)), .int (nI (R 0 1)), .int (nI (sF R)), .int (nI (sS R)), .int (nI (sL R)), .ref ak, .ref af, .ref ab, .ref aa])), (ak, aI G 10 (sK R)), (af, aI G 10 (sG R)), (ab, aI G 10 (sO R)), (aa, aI G 10 (sA R)), (to, .inr (0, [.int (nI (sN S)), .int (nI m0), .int (nI (sF S)), .int (nI (sS S)), .int (nI (sL S)), .ref tk, .ref tf, .ref tb, .ref ta])), (tk, aI G 10 (sK S)), (tf, aI G 10 (sG S)), (tb, aI G 10 (sO S)), (ta, aI G 10 (sA S)), (x6, aI G 16 (cN rv)), (x8, aI G 10 ft)] (QI G [(h0, .inr (1, [.ref so, .ref to, .ref uo, .int (nI im), .ref x5, .int (nI lm), .ref x6, .int (nI rm), .ref x7, .ref x8, .int sd])), (so, .inr (0, [.int (nI (sN R)), .int (nI (R 0 1)), .int (nI (sF R)), .int (nI (sS R)), .int (nI (sL R)), .ref ak, .ref af, .ref ab, .ref aa])), (ak, aI G 10 (sK R)), (af, aI G 10 (sG R)), (ab, aI G 10 (sO R)), (aa, aI G 10 (sA R)), (to, .inr (0, [.int (nI (sN S)), .int (nI m0), .int (nI (sF S)), .int (nI (sS S)), .int (nI (sL S)), .ref tk, .ref tf, .ref tb, .ref ta])), (tk, aI G 10 (sK S)), (tf, aI G 10 (sG S)), (tb, aI G 10 (sO S)), (ta, aI G 10 (sA S)), (x6, aI G 16 (cN rv)), (x8, aI G 10 ft)] (fun (r : Int32) (u : Nat × RT × (Nat → Int32)) => r = nI (bs (wwP R a 1 rv) 10) ∧ True) (fun u => [(h0, .inr (1, [.ref so, .ref to, .ref uo, .int (nI im), .ref x5, .int (nI lm), .ref x6, .int (nI rm), .ref x7, .ref x8, .int sd])), (so, .inr (0, [.int (nI (sN R)), .int (nI (R 0 1)), .int (nI (sF R)), .int (nI (sS R)), .int (nI (sL R)), .ref ak, .ref af, .ref ab, .ref aa])), (ak, aI G 10 (sK R)), (af, aI G 10 (sG R)), (ab, aI G 10 (sO R)), (aa, aI G 10 (sA R)), (to, .inr (0, [.int (nI (sN u.2.1)), .int (nI u.1), .int (nI (sF u.2.1)), .int (nI (sS u.2.1)), .int (nI (sL u.2.1)), .ref tk, .ref tf, .ref tb, .ref ta])), (tk, aI G 10 (sK u.2.1)), (tf, aI G 10 (sG u.2.1)), (tb, aI G 10 (sO u.2.1)), (ta, aI G 10 (sA u.2.1)), (x6, aI G 16 (cN rv)), (x8, aI G 10 u.2.2)])) := by
  refine en (by decide +kernel) (Nat.le_of_ble_eq_true rfl) ?_
  intro p e s m below meth c ls H locs C hl hw
  have xx := C.1
  have xb := C.2.1
  have hw : Wd G (fA [(h0, .inr (1, [.ref so, .ref to, .ref uo, .int (nI im), .ref x5, .int (nI lm), .ref x6, .int (nI rm), .ref x7, .ref x8, .int sd])), (so, .inr (0, [.int (nI (sN R)), .int (nI (R 0 1)), .int (nI (sF R)), .int (nI (sS R)), .int (nI (sL R)), .ref ak, .ref af, .ref ab, .ref aa])), (ak, aI G 10 (sK R)), (af, aI G 10 (sG R)), (ab, aI G 10 (sO R)), (aa, aI G 10 (sA R)), (to, .inr (0, [.int (nI (sN S)), .int (nI m0), .int (nI (sF S)), .int (nI (sS S)), .int (nI (sL S)), .ref tk, .ref tf, .ref tb, .ref ta])), (tk, aI G 10 (sK S)), (tf, aI G 10 (sG S)), (tb, aI G 10 (sO S)), (ta, aI G 10 (sA S)), (x6, aI G 16 (cN rv)), (x8, aI G 10 ft)]) s [(h0, .inr (1, [.ref so, .ref to, .ref uo, .int (nI im), .ref x5, .int (nI lm), .ref x6, .int (nI rm), .ref x7, .ref x8, .int sd])), (so, .inr (0, [.int (nI (sN R)), .int (nI (R 0 1)), .int (nI (sF R)), .int (nI (sS R)), .int (nI (sL R)), .ref ak, .ref af, .ref ab, .ref aa])), (ak, aI G 10 (sK R)), (af, aI G 10 (sG R)), (ab, aI G 10 (sO R)), (aa, aI G 10 (sA R)), (to, .inr (0, [.int (nI (sN S)), .int (nI m0), .int (nI (sF S)), .int (nI (sS S)), .int (nI (sL S)), .ref tk, .ref tf, .ref tb, .ref ta])), (tk, aI G 10 (sK S)), (tf, aI G 10 (sG S)), (tb, aI G 10 (sO S)), (ta, aI G 10 (sA S)), (x6, aI G 16 (cN rv)), (x8, aI G 10 ft)] H locs := hw
  have hl : lv_has ls 4 [(0, .ref h0), (1, .int (nI a))] := hl
  obtain ⟨hn, hf0, hpr, hA⟩ := id hR
  obtain ⟨q1, q2, q3, q4, q5⟩ := hA a ha
  refine lv_iconst (v := nI 0) xx xb dX1_figuresByRow_0 (by decide) ?_
  refine lv_istore_n (lv' := [(2, .int (nI 0)), (0, .ref h0), (1, .int (nI a))]) xx xb dX1_figuresByRow_1 rfl hl (by decide) rfl (fun ls hl => ?_)
  refine lv_iconst (v := nI 0) xx xb dX1_figuresByRow_2 (by decide) ?_
  refine lv_istore_n (lv' := [(3, .int (nI 0)), (2, .int (nI 0)), (0, .ref h0), (1, .int (nI a))]) xx xb dX1_figuresByRow_3 rfl hl (by decide) rfl (fun ls hl => ?_)
  have hl : lv_has ls 4 [(3, .int (nI 0)), (2, .int (nI (bs (wwP R a 1 rv) 0))), (0, .ref h0), (1, .int (nI a))] := hl
  have L_4 : ∀ (fu : Nat) (i : Nat) (y0 : Nat) (Y : RT) (fy : Nat → Int32) (H : Heap) (locs : List Loc) (ls : Array Slot), 10 - i < fu → (i ≤ 10) → Wd G (fA [(h0, .inr (1, [.ref so, .ref to, .ref uo, .int (nI im), .ref x5, .int (nI lm), .ref x6, .int (nI rm), .ref x7, .ref x8, .int sd])), (so, .inr (0, [.int (nI (sN R)), .int (nI (R 0 1)), .int (nI (sF R)), .int (nI (sS R)), .int (nI (sL R)), .ref ak, .ref af, .ref ab, .ref aa])), (ak, aI G 10 (sK R)), (af, aI G 10 (sG R)), (ab, aI G 10 (sO R)), (aa, aI G 10 (sA R)), (to, .inr (0, [.int (nI (sN S)), .int (nI m0), .int (nI (sF S)), .int (nI (sS S)), .int (nI (sL S)), .ref tk, .ref tf, .ref tb, .ref ta])), (tk, aI G 10 (sK S)), (tf, aI G 10 (sG S)), (tb, aI G 10 (sO S)), (ta, aI G 10 (sA S)), (x6, aI G 16 (cN rv)), (x8, aI G 10 ft)]) s [(h0, .inr (1, [.ref so, .ref to, .ref uo, .int (nI im), .ref x5, .int (nI lm), .ref x6, .int (nI rm), .ref x7, .ref x8, .int sd])), (so, .inr (0, [.int (nI (sN R)), .int (nI (R 0 1)), .int (nI (sF R)), .int (nI (sS R)), .int (nI (sL R)), .ref ak, .ref af, .ref ab, .ref aa])), (ak, aI G 10 (sK R)), (af, aI G 10 (sG R)), (ab, aI G 10 (sO R)), (aa, aI G 10 (sA R)), (to, .inr (0, [.int (nI (sN Y)), .int (nI y0), .int (nI (sF Y)), .int (nI (sS Y)), .int (nI (sL Y)), .ref tk, .ref tf, .ref tb, .ref ta])), (tk, aI G 10 (sK Y)), (tf, aI G 10 (sG Y)), (tb, aI G 10 (sO Y)), (ta, aI G 10 (sA Y)), (x6, aI G 16 (cN rv)), (x8, aI G 10 fy)] H locs → lv_has ls 4 [(0, .ref h0), (1, .int (nI a)), (2, .int (nI (bs (wwP R a 1 rv) i))), (3, .int (nI i))] → W p l e ({ frames := 5, cells := 0, slots := 0, locals := 125 }) s m (([.ref h0, .int (nI a)] : List Value).toArray) below meth c H locs 0 0 (MQ below (QI G [(h0, .inr (1, [.ref so, .ref to, .ref uo, .int (nI im), .ref x5, .int (nI lm), .ref x6, .int (nI rm), .ref x7, .ref x8, .int sd])), (so, .inr (0, [.int (nI (sN R)), .int (nI (R 0 1)), .int (nI (sF R)), .int (nI (sS R)), .int (nI (sL R)), .ref ak, .ref af, .ref ab, .ref aa])), (ak, aI G 10 (sK R)), (af, aI G 10 (sG R)), (ab, aI G 10 (sO R)), (aa, aI G 10 (sA R)), (to, .inr (0, [.int (nI (sN S)), .int (nI m0), .int (nI (sF S)), .int (nI (sS S)), .int (nI (sL S)), .ref tk, .ref tf, .ref tb, .ref ta])), (tk, aI G 10 (sK S)), (tf, aI G 10 (sG S)), (tb, aI G 10 (sO S)), (ta, aI G 10 (sA S)), (x6, aI G 16 (cN rv)), (x8, aI G 10 ft)] (fun (r : Int32) (u : Nat × RT × (Nat → Int32)) => r = nI (bs (wwP R a 1 rv) 10) ∧ True) (fun u => [(h0, .inr (1, [.ref so, .ref to, .ref uo, .int (nI im), .ref x5, .int (nI lm), .ref x6, .int (nI rm), .ref x7, .ref x8, .int sd])), (so, .inr (0, [.int (nI (sN R)), .int (nI (R 0 1)), .int (nI (sF R)), .int (nI (sS R)), .int (nI (sL R)), .ref ak, .ref af, .ref ab, .ref aa])), (ak, aI G 10 (sK R)), (af, aI G 10 (sG R)), (ab, aI G 10 (sO R)), (aa, aI G 10 (sA R)), (to, .inr (0, [.int (nI (sN u.2.1)), .int (nI u.1), .int (nI (sF u.2.1)), .int (nI (sS u.2.1)), .int (nI (sL u.2.1)), .ref tk, .ref tf, .ref tb, .ref ta])), (tk, aI G 10 (sK u.2.1)), (tf, aI G 10 (sG u.2.1)), (tb, aI G 10 (sO u.2.1)), (ta, aI G 10 (sA u.2.1)), (x6, aI G 16 (cN rv)), (x8, aI G 10 u.2.2)])) (([.ref h0, .int (nI a)] : List Value).toArray) s 0 0 (fA [(h0, .inr (1, [.ref so, .ref to, .ref uo, .int (nI im), .ref x5, .int (nI lm), .ref x6, .int (nI rm), .ref x7, .ref x8, .int sd])), (so, .inr (0, [.int (nI (sN R)), .int (nI (R 0 1)), .int (nI (sF R)), .int (nI (sS R)), .int (nI (sL R)), .ref ak, .ref af, .ref ab, .ref aa])), (ak, aI G 10 (sK R)), (af, aI G 10 (sG R)), (ab, aI G 10 (sO R)), (aa, aI G 10 (sA R)), (to, .inr (0, [.int (nI (sN S)), .int (nI m0), .int (nI (sF S)), .int (nI (sS S)), .int (nI (sL S)), .ref tk, .ref tf, .ref tb, .ref ta])), (tk, aI G 10 (sK S)), (tf, aI G 10 (sG S)), (tb, aI G 10 (sO S)), (ta, aI G 10 (sA S)), (x6, aI G 16 (cN rv)), (x8, aI G 10 ft)])) (F0 m 4 ls []) := by
    intro fu
    induction fu with
    | zero => intro i y0 Y fy H locs ls hfu; exact absurd hfu (Nat.not_lt_zero _)
    | succ fu ih_4 =>
      intro i y0 Y fy H locs ls hfu hi hw hl
      refine lv_iload_n xx xb dX1_figuresByRow_4 rfl (lv_at hl 3 rfl) ?_
      refine lv_bipush (v := nI 9) xx xb dX1_figuresByRow_5 (by decide) ?_
      refine lv_icmp_gt (tgt := 40) xx xb dX1_figuresByRow_7 (by decide) (fun c_7 => ?_) (fun c_7 => ?_)
      · skip
        have c_7 := lt_c (tN (by omega)) (tN (by omega)) c_7
        refine lv_iload_n xx xb dX1_figuresByRow_40 rfl (lv_at hl 2 rfl) ?_
        exact rt_i C hw (y0, Y, fy) (⟨by rw [show 10 = i by omega], trivial⟩) rfl dX1_figuresByRow_41
      · skip
        have c_7 := nlt_c (tN (by omega)) (tN (by omega)) c_7
        refine lv_aload_n xx xb dX1_figuresByRow_10 rfl (lv_at hl 0 rfl) ?_
        refine lv_iload_n xx xb dX1_figuresByRow_11 rfl (lv_at hl 1 rfl) ?_
        refine lv_aload_n xx xb dX1_figuresByRow_12 rfl (lv_at hl 0 rfl) ?_
        refine m_get C hw 0 rfl fk_X1_10 rfl dX1_figuresByRow_13 ?_
        refine m_get C hw 1 rfl fk_X1_58 rfl dX1_figuresByRow_16 ?_
        refine lv_iload_n xx xb dX1_figuresByRow_19 rfl (lv_at hl 1 rfl) ?_
        refine m_ald C hw 2 rfl a rfl (by omega) (by decide) dX1_figuresByRow_20 ?_
        refine re_i (nI (R 1 a)) rfl ?_
        refine lv_iload_n xx xb dX1_figuresByRow_21 rfl (lv_at hl 3 rfl) ?_
        have hM := kX1_rowIsSoWith l G h0 so to uo x5 x6 x7 x8 im lm rm sd ak af ab aa R tk tf tb ta y0 Y fy rv a (R 1 a) i (by first | assumption | omega) (by first | assumption | omega) (by first | assumption | omega) hrv hrm ha (by first | assumption | omega) (by first | assumption | omega)
        refine cv_i C hw hM yvX1_rowIsSoWith ml_X1_299 0 rfl rfl rfl [0, 1, 2, 3, 4, 5, 6, 7, 8, 9, 10, 11, 12] rfl rfl (fun _ => (rfl : ([h0, so, ak, af, ab, aa, to, tk, tf, tb, ta, x6, x8] : List Nat) = [h0, so, ak, af, ab, aa, to, tk, tf, tb, ta, x6, x8])) (by decide) ⟨Nat.zero_le _, Nat.zero_le _⟩ hl.1 rfl (Nat.le_of_ble_eq_true rfl) dX1_figuresByRow_22 (fun r u H locs hr hw => ?_)
        obtain ⟨u1, hu1⟩ : ∃ z, z = u := ⟨_, rfl⟩
        subst hu1
        have hw : Wd G (fA [(h0, .inr (1, [.ref so, .ref to, .ref uo, .int (nI im), .ref x5, .int (nI lm), .ref x6, .int (nI rm), .ref x7, .ref x8, .int sd])), (so, .inr (0, [.int (nI (sN R)), .int (nI (R 0 1)), .int (nI (sF R)), .int (nI (sS R)), .int (nI (sL R)), .ref ak, .ref af, .ref ab, .ref aa])), (ak, aI G 10 (sK R)), (af, aI G 10 (sG R)), (ab, aI G 10 (sO R)), (aa, aI G 10 (sA R)), (to, .inr (0, [.int (nI (sN S)), .int (nI m0), .int (nI (sF S)), .int (nI (sS S)), .int (nI (sL S)), .ref tk, .ref tf, .ref tb, .ref ta])), (tk, aI G 10 (sK S)), (tf, aI G 10 (sG S)), (tb, aI G 10 (sO S)), (ta, aI G 10 (sA S)), (x6, aI G 16 (cN rv)), (x8, aI G 10 ft)]) s [(h0, .inr (1, [.ref so, .ref to, .ref uo, .int (nI im), .ref x5, .int (nI lm), .ref x6, .int (nI rm), .ref x7, .ref x8, .int sd])), (so, .inr (0, [.int (nI (sN R)), .int (nI (R 0 1)), .int (nI (sF R)), .int (nI (sS R)), .int (nI (sL R)), .ref ak, .ref af, .ref ab, .ref aa])), (ak, aI G 10 (sK R)), (af, aI G 10 (sG R)), (ab, aI G 10 (sO R)), (aa, aI G 10 (sA R)), (to, .inr (0, [.int (nI (sN u1)), .int (nI (R 0 1)), .int (nI (sF u1)), .int (nI (sS u1)), .int (nI (sL u1)), .ref tk, .ref tf, .ref tb, .ref ta])), (tk, aI G 10 (sK u1)), (tf, aI G 10 (sG u1)), (tb, aI G 10 (sO u1)), (ta, aI G 10 (sA u1)), (x6, aI G 16 (cN rv)), (x8, aI G 10 (cF (ftQ (turF R a (R 1 a) i) 100)))] H locs := hw
        obtain ⟨hr, hq1⟩ := hr
        subst hr
        refine re_i (if wwP R a 1 rv i = true then 1 else 0) (by rw [wwP_f]) ?_
        refine lv_if_eq (tgt := 34) xx xb dX1_figuresByRow_25 (by decide) (fun c_25 => ?_) (fun c_25 => ?_)
        · skip
          have c_25 := b0_c c_25
          have hl : lv_has ls 4 [(0, .ref h0), (1, .int (nI a)), (2, .int (nI (bs (wwP R a 1 rv) (i + 1)))), (3, .int (nI i))] := by rw [← bs_orF (Bool.eq_false_iff.mpr c_25), Nat.or_zero]; exact hl
          refine lv_iinc (v := nI (i + 1)) (lv' := [(3, .int (nI (i + 1))), (0, .ref h0), (1, .int (nI a)), (2, .int (nI (bs (wwP R a 1 rv) (i + 1))))]) xx xb dX1_figuresByRow_34 hl (k := 3) rfl (nI_add _ 1) (by decide) rfl (fun ls hl => ?_)
          refine lv_goto (tgt := 4) xx xb dX1_figuresByRow_37 (by decide) ?_
          exact ih_4 (i + 1) (R 0 1) u1 (cF (ftQ (turF R a (R 1 a) i) 100)) H _ ls (by omega) (by omega) hw (lv_sub hl [1, 2, 3, 0] rfl)
        · skip
          have c_25 := b1_c c_25
          refine lv_iload_n xx xb dX1_figuresByRow_28 rfl (lv_at hl 2 rfl) ?_
          refine lv_iconst (v := nI 1) xx xb dX1_figuresByRow_29 (by decide) ?_
          refine lv_iload_n xx xb dX1_figuresByRow_30 rfl (lv_at hl 3 rfl) ?_
          refine lv_ishl xx xb dX1_figuresByRow_31 ?_
          refine re_i (nI (2 ^ i)) (shl1 (by omega)) ?_
          refine lv_ior xx xb dX1_figuresByRow_32 ?_
          refine re_i (nI ((bs (wwP R a 1 rv) i) ||| (2 ^ i))) (or_N _ _) ?_
          refine re_i (nI (bs (wwP R a 1 rv) (i + 1))) (congrArg nI (bs_orT c_25)) ?_
          refine lv_istore_n (lv' := [(2, .int (nI (bs (wwP R a 1 rv) (i + 1)))), (0, .ref h0), (1, .int (nI a)), (3, .int (nI i))]) xx xb dX1_figuresByRow_33 rfl hl (by decide) rfl (fun ls hl => ?_)
          refine lv_iinc (v := nI (i + 1)) (lv' := [(3, .int (nI (i + 1))), (2, .int (nI (bs (wwP R a 1 rv) (i + 1)))), (0, .ref h0), (1, .int (nI a))]) xx xb dX1_figuresByRow_34 hl (k := 3) rfl (nI_add _ 1) (by decide) rfl (fun ls hl => ?_)
          refine lv_goto (tgt := 4) xx xb dX1_figuresByRow_37 (by decide) ?_
          exact ih_4 (i + 1) (R 0 1) u1 (cF (ftQ (turF R a (R 1 a) i) 100)) H _ ls (by omega) (by omega) hw (lv_sub hl [2, 3, 1, 0] rfl)
  exact L_4 (_ + 1) 0 m0 S ft H _ ls (Nat.lt_succ_self _) (by omega) hw (lv_sub hl [2, 3, 1, 0] rfl)
set_option maxRecDepth 100000 in
set_option maxHeartbeats 4000000 in
theorem kX1_whatWas (l : Launch) (G : GT) (h0 : Nat) (so : Nat) (to : Nat) (uo : Nat) (x5 : Nat) (x6 : Nat) (x7 : Nat) (x8 : Nat) (im : Nat) (lm : Nat) (rm : Nat) (sd : Int32) (rf : Nat → Nat) (ak : Nat) (af : Nat) (ab : Nat) (aa : Nat) (R : RT) (tk : Nat) (tf : Nat) (tb : Nat) (ta : Nat) (m0 : Nat) (S : RT) (ft : Nat → Int32) (rv : Nat → Nat) (x : Int32) (xz : Int) (ww : Int32) (wwz : Int) (h_x : x.toInt = xz) (h_ww : ww.toInt = wwz) (hR : OK R) (hK : AK R) (hp : R 0 3 = 0) (hrv : ∀ k, k < rm → rv k ≤ 99) (hrm : rm ≤ 16) : Ct l yX1_whatWas cX1_whatWas 5 (some .int) 6 148 [.ref h0, .int x, .int ww] G [(h0, .inr (1, [.ref so, .ref to, .ref uo, .int (nI im), .ref x5, .int (nI lm), .ref x6, .int (nI rm), .ref x7, .ref x8, .int sd])), (so, .inr (0, [.int (nI (sN R)), .int (nI (R 0 1)), .int (nI (sF R)), .int (nI (sS R)), .int (nI (sL R)), .ref ak, .ref af, .ref ab, .ref aa])), (ak, aI G 10 (sK R)), (af, aI G 10 (sG R)), (ab, aI G 10 (sO R)), (aa, aI G 10 (sA R)), (to, .inr (0, [.int (nI (sN S)), .int (nI m0), .int (nI (sF S)), .int (nI (sS S)), .int (nI (sL S)), .ref tk, .ref tf, .ref tb, .ref ta])), (tk, aI G 10 (sK S)), (tf, aI G 10 (sG S)), (tb, aI G 10 (sO S)), (ta, aI G 10 (sA S)), (x6, aI G 16 (cN rv)), (x8, aI G 10 ft), (x7, aI G 7 (cN rf))] (QI G [(h0, .inr (1, [.ref so, .ref to, .ref uo, .int (nI im), .ref x5, .int (nI lm), .ref x6, .int (nI rm), .ref x7, .ref x8, .int sd])), (so, .inr (0, [.int (nI (sN R)), .int (nI (R 0 1)), .int (nI (sF R)), .int (nI (sS R)), .int (nI (sL R)), .ref ak, .ref af, .ref ab, .ref aa])), (ak, aI G 10 (sK R)), (af, aI G 10 (sG R)), (ab, aI G 10 (sO R)), (aa, aI G 10 (sA R)), (to, .inr (0, [.int (nI (sN S)), .int (nI m0), .int (nI (sF S)), .int (nI (sS S)), .int (nI (sL S)), .ref tk, .ref tf, .ref tb, .ref ta])), (tk, aI G 10 (sK S)), (tf, aI G 10 (sG S)), (tb, aI G 10 (sO S)), (ta, aI G 10 (sA S)), (x6, aI G 16 (cN rv)), (x8, aI G 10 ft), (x7, aI G 7 (cN rf))] (fun (r : Int32) (u : Nat × RT × (Nat → Int32)) => r = anI (cWW R xz wwz rm) (nI (vWW R xz.toNat wwz rv))) (fun u => [(h0, .inr (1, [.ref so, .ref to, .ref uo, .int (nI im), .ref x5, .int (nI lm), .ref x6, .int (nI rm), .ref x7, .ref x8, .int sd])), (so, .inr (0, [.int (nI (sN R)), .int (nI (R 0 1)), .int (nI (sF R)), .int (nI (sS R)), .int (nI (sL R)), .ref ak, .ref af, .ref ab, .ref aa])), (ak, aI G 10 (sK R)), (af, aI G 10 (sG R)), (ab, aI G 10 (sO R)), (aa, aI G 10 (sA R)), (to, .inr (0, [.int (nI (sN u.2.1)), .int (nI u.1), .int (nI (sF u.2.1)), .int (nI (sS u.2.1)), .int (nI (sL u.2.1)), .ref tk, .ref tf, .ref tb, .ref ta])), (tk, aI G 10 (sK u.2.1)), (tf, aI G 10 (sG u.2.1)), (tb, aI G 10 (sO u.2.1)), (ta, aI G 10 (sA u.2.1)), (x6, aI G 16 (cN rv)), (x8, aI G 10 u.2.2), (x7, aI G 7 (cN (rfU rf (cWW R xz wwz rm))))])) := by
  refine en (by decide +kernel) (Nat.le_of_ble_eq_true rfl) ?_
  intro p e s m below meth c ls H locs C hl hw
  have xx := C.1
  have xb := C.2.1
  have hw : Wd G (fA [(h0, .inr (1, [.ref so, .ref to, .ref uo, .int (nI im), .ref x5, .int (nI lm), .ref x6, .int (nI rm), .ref x7, .ref x8, .int sd])), (so, .inr (0, [.int (nI (sN R)), .int (nI (R 0 1)), .int (nI (sF R)), .int (nI (sS R)), .int (nI (sL R)), .ref ak, .ref af, .ref ab, .ref aa])), (ak, aI G 10 (sK R)), (af, aI G 10 (sG R)), (ab, aI G 10 (sO R)), (aa, aI G 10 (sA R)), (to, .inr (0, [.int (nI (sN S)), .int (nI m0), .int (nI (sF S)), .int (nI (sS S)), .int (nI (sL S)), .ref tk, .ref tf, .ref tb, .ref ta])), (tk, aI G 10 (sK S)), (tf, aI G 10 (sG S)), (tb, aI G 10 (sO S)), (ta, aI G 10 (sA S)), (x6, aI G 16 (cN rv)), (x8, aI G 10 ft), (x7, aI G 7 (cN rf))]) s [(h0, .inr (1, [.ref so, .ref to, .ref uo, .int (nI im), .ref x5, .int (nI lm), .ref x6, .int (nI rm), .ref x7, .ref x8, .int sd])), (so, .inr (0, [.int (nI (sN R)), .int (nI (R 0 1)), .int (nI (sF R)), .int (nI (sS R)), .int (nI (sL R)), .ref ak, .ref af, .ref ab, .ref aa])), (ak, aI G 10 (sK R)), (af, aI G 10 (sG R)), (ab, aI G 10 (sO R)), (aa, aI G 10 (sA R)), (to, .inr (0, [.int (nI (sN S)), .int (nI m0), .int (nI (sF S)), .int (nI (sS S)), .int (nI (sL S)), .ref tk, .ref tf, .ref tb, .ref ta])), (tk, aI G 10 (sK S)), (tf, aI G 10 (sG S)), (tb, aI G 10 (sO S)), (ta, aI G 10 (sA S)), (x6, aI G 16 (cN rv)), (x8, aI G 10 ft), (x7, aI G 7 (cN rf))] H locs := hw
  have hl : lv_has ls 5 [(0, .ref h0), (1, .int x), (2, .int ww)] := hl
  obtain ⟨hn, hf0, hpr, hA⟩ := id hR
  have hc6 := cWW_le R xz wwz rm
  have ho2 := otN_le wwz 1
  have hj6 := wrJ_le rm (R 0 0)
  have J_25 : ∀  (H : Heap) (locs : List Loc) (ls : Array Slot), Wd G (fA [(h0, .inr (1, [.ref so, .ref to, .ref uo, .int (nI im), .ref x5, .int (nI lm), .ref x6, .int (nI rm), .ref x7, .ref x8, .int sd])), (so, .inr (0, [.int (nI (sN R)), .int (nI (R 0 1)), .int (nI (sF R)), .int (nI (sS R)), .int (nI (sL R)), .ref ak, .ref af, .ref ab, .ref aa])), (ak, aI G 10 (sK R)), (af, aI G 10 (sG R)), (ab, aI G 10 (sO R)), (aa, aI G 10 (sA R)), (to, .inr (0, [.int (nI (sN S)), .int (nI m0), .int (nI (sF S)), .int (nI (sS S)), .int (nI (sL S)), .ref tk, .ref tf, .ref tb, .ref ta])), (tk, aI G 10 (sK S)), (tf, aI G 10 (sG S)), (tb, aI G 10 (sO S)), (ta, aI G 10 (sA S)), (x6, aI G 16 (cN rv)), (x8, aI G 10 ft), (x7, aI G 7 (cN rf))]) s [(h0, .inr (1, [.ref so, .ref to, .ref uo, .int (nI im), .ref x5, .int (nI lm), .ref x6, .int (nI rm), .ref x7, .ref x8, .int sd])), (so, .inr (0, [.int (nI (sN R)), .int (nI (R 0 1)), .int (nI (sF R)), .int (nI (sS R)), .int (nI (sL R)), .ref ak, .ref af, .ref ab, .ref aa])), (ak, aI G 10 (sK R)), (af, aI G 10 (sG R)), (ab, aI G 10 (sO R)), (aa, aI G 10 (sA R)), (to, .inr (0, [.int (nI (sN S)), .int (nI m0), .int (nI (sF S)), .int (nI (sS S)), .int (nI (sL S)), .ref tk, .ref tf, .ref tb, .ref ta])), (tk, aI G 10 (sK S)), (tf, aI G 10 (sG S)), (tb, aI G 10 (sO S)), (ta, aI G 10 (sA S)), (x6, aI G 16 (cN rv)), (x8, aI G 10 ft), (x7, aI G 7 (cN rf))] H locs → lv_has ls 5 [(0, .ref h0), (1, .int x), (2, .int ww)] → W p l e ({ frames := 6, cells := 0, slots := 0, locals := 148 }) s m (([.ref h0, .int x, .int ww] : List Value).toArray) below meth c H locs 0 0 (MQ below (QI G [(h0, .inr (1, [.ref so, .ref to, .ref uo, .int (nI im), .ref x5, .int (nI lm), .ref x6, .int (nI rm), .ref x7, .ref x8, .int sd])), (so, .inr (0, [.int (nI (sN R)), .int (nI (R 0 1)), .int (nI (sF R)), .int (nI (sS R)), .int (nI (sL R)), .ref ak, .ref af, .ref ab, .ref aa])), (ak, aI G 10 (sK R)), (af, aI G 10 (sG R)), (ab, aI G 10 (sO R)), (aa, aI G 10 (sA R)), (to, .inr (0, [.int (nI (sN S)), .int (nI m0), .int (nI (sF S)), .int (nI (sS S)), .int (nI (sL S)), .ref tk, .ref tf, .ref tb, .ref ta])), (tk, aI G 10 (sK S)), (tf, aI G 10 (sG S)), (tb, aI G 10 (sO S)), (ta, aI G 10 (sA S)), (x6, aI G 16 (cN rv)), (x8, aI G 10 ft), (x7, aI G 7 (cN rf))] (fun (r : Int32) (u : Nat × RT × (Nat → Int32)) => r = anI (cWW R xz wwz rm) (nI (vWW R xz.toNat wwz rv))) (fun u => [(h0, .inr (1, [.ref so, .ref to, .ref uo, .int (nI im), .ref x5, .int (nI lm), .ref x6, .int (nI rm), .ref x7, .ref x8, .int sd])), (so, .inr (0, [.int (nI (sN R)), .int (nI (R 0 1)), .int (nI (sF R)), .int (nI (sS R)), .int (nI (sL R)), .ref ak, .ref af, .ref ab, .ref aa])), (ak, aI G 10 (sK R)), (af, aI G 10 (sG R)), (ab, aI G 10 (sO R)), (aa, aI G 10 (sA R)), (to, .inr (0, [.int (nI (sN u.2.1)), .int (nI u.1), .int (nI (sF u.2.1)), .int (nI (sS u.2.1)), .int (nI (sL u.2.1)), .ref tk, .ref tf, .ref tb, .ref ta])), (tk, aI G 10 (sK u.2.1)), (tf, aI G 10 (sG u.2.1)), (tb, aI G 10 (sO u.2.1)), (ta, aI G 10 (sA u.2.1)), (x6, aI G 16 (cN rv)), (x8, aI G 10 u.2.2), (x7, aI G 7 (cN (rfU rf (cWW R xz wwz rm))))])) (([.ref h0, .int x, .int ww] : List Value).toArray) s 0 0 (fA [(h0, .inr (1, [.ref so, .ref to, .ref uo, .int (nI im), .ref x5, .int (nI lm), .ref x6, .int (nI rm), .ref x7, .ref x8, .int sd])), (so, .inr (0, [.int (nI (sN R)), .int (nI (R 0 1)), .int (nI (sF R)), .int (nI (sS R)), .int (nI (sL R)), .ref ak, .ref af, .ref ab, .ref aa])), (ak, aI G 10 (sK R)), (af, aI G 10 (sG R)), (ab, aI G 10 (sO R)), (aa, aI G 10 (sA R)), (to, .inr (0, [.int (nI (sN S)), .int (nI m0), .int (nI (sF S)), .int (nI (sS S)), .int (nI (sL S)), .ref tk, .ref tf, .ref tb, .ref ta])), (tk, aI G 10 (sK S)), (tf, aI G 10 (sG S)), (tb, aI G 10 (sO S)), (ta, aI G 10 (sA S)), (x6, aI G 16 (cN rv)), (x8, aI G 10 ft), (x7, aI G 7 (cN rf))])) (F0 m 25 ls [.int (nG (wrJ rm (R 0 0))), .int (nG (otN wwz 1))]) := by
    intro  H locs ls  hw hl
    have hM := kX1_firstOf l G (otN wwz 1) (wrJ rm (R 0 0)) (by first | assumption | omega)
    refine cs_i C hw hM ysX1_firstOf ml_X1_115 rfl [] rfl rfl (fun _ => (rfl : ([] : List Nat) = [])) (by decide) ⟨Nat.zero_le _, Nat.zero_le _⟩ hl.1 rfl (Nat.le_of_ble_eq_true rfl) dX1_whatWas_25 (fun r _ H locs hr hw => ?_)
    have hw : Wd G (fA [(h0, .inr (1, [.ref so, .ref to, .ref uo, .int (nI im), .ref x5, .int (nI lm), .ref x6, .int (nI rm), .ref x7, .ref x8, .int sd])), (so, .inr (0, [.int (nI (sN R)), .int (nI (R 0 1)), .int (nI (sF R)), .int (nI (sS R)), .int (nI (sL R)), .ref ak, .ref af, .ref ab, .ref aa])), (ak, aI G 10 (sK R)), (af, aI G 10 (sG R)), (ab, aI G 10 (sO R)), (aa, aI G 10 (sA R)), (to, .inr (0, [.int (nI (sN S)), .int (nI m0), .int (nI (sF S)), .int (nI (sS S)), .int (nI (sL S)), .ref tk, .ref tf, .ref tb, .ref ta])), (tk, aI G 10 (sK S)), (tf, aI G 10 (sG S)), (tb, aI G 10 (sO S)), (ta, aI G 10 (sA S)), (x6, aI G 16 (cN rv)), (x8, aI G 10 ft), (x7, aI G 7 (cN rf))]) s [(h0, .inr (1, [.ref so, .ref to, .ref uo, .int (nI im), .ref x5, .int (nI lm), .ref x6, .int (nI rm), .ref x7, .ref x8, .int sd])), (so, .inr (0, [.int (nI (sN R)), .int (nI (R 0 1)), .int (nI (sF R)), .int (nI (sS R)), .int (nI (sL R)), .ref ak, .ref af, .ref ab, .ref aa])), (ak, aI G 10 (sK R)), (af, aI G 10 (sG R)), (ab, aI G 10 (sO R)), (aa, aI G 10 (sA R)), (to, .inr (0, [.int (nI (sN S)), .int (nI m0), .int (nI (sF S)), .int (nI (sS S)), .int (nI (sL S)), .ref tk, .ref tf, .ref tb, .ref ta])), (tk, aI G 10 (sK S)), (tf, aI G 10 (sG S)), (tb, aI G 10 (sO S)), (ta, aI G 10 (sA S)), (x6, aI G 16 (cN rv)), (x8, aI G 10 ft), (x7, aI G 7 (cN rf))] H locs := hw
    subst hr
    refine lv_istore_n (lv' := [(3, .int (nG (foN (otN wwz 1) (wrJ rm (R 0 0))))), (0, .ref h0), (1, .int x), (2, .int ww)]) xx xb dX1_whatWas_28 rfl hl (by decide) rfl (fun ls hl => ?_)
    refine lv_aload_n xx xb dX1_whatWas_29 rfl (lv_at hl 1 rfl) ?_
    refine lv_iload_n xx xb dX1_whatWas_30 rfl (lv_at hl 2 rfl) ?_
    refine lv_iload_n xx xb dX1_whatWas_31 rfl (lv_at hl 0 rfl) ?_
    have hM := kX1_refusalOfThing l G h0 so to uo x5 x6 x7 x8 im lm rm sd ak af ab aa (R 0 1) R (foN (otN wwz 1) (wrJ rm (R 0 0))) x xz h_x (by first | assumption | omega)
    refine cv_i C hw hM yvX1_refusalOfThing ml_X1_55 0 rfl rfl rfl [0, 1, 2, 3, 4, 5] rfl rfl (fun _ => (rfl : ([h0, so, ak, af, ab, aa] : List Nat) = [h0, so, ak, af, ab, aa])) (by decide) ⟨Nat.zero_le _, Nat.zero_le _⟩ hl.1 rfl (Nat.le_of_ble_eq_true rfl) dX1_whatWas_32 (fun r _ H locs hr hw => ?_)
    have hw : Wd G (fA [(h0, .inr (1, [.ref so, .ref to, .ref uo, .int (nI im), .ref x5, .int (nI lm), .ref x6, .int (nI rm), .ref x7, .ref x8, .int sd])), (so, .inr (0, [.int (nI (sN R)), .int (nI (R 0 1)), .int (nI (sF R)), .int (nI (sS R)), .int (nI (sL R)), .ref ak, .ref af, .ref ab, .ref aa])), (ak, aI G 10 (sK R)), (af, aI G 10 (sG R)), (ab, aI G 10 (sO R)), (aa, aI G 10 (sA R)), (to, .inr (0, [.int (nI (sN S)), .int (nI m0), .int (nI (sF S)), .int (nI (sS S)), .int (nI (sL S)), .ref tk, .ref tf, .ref tb, .ref ta])), (tk, aI G 10 (sK S)), (tf, aI G 10 (sG S)), (tb, aI G 10 (sO S)), (ta, aI G 10 (sA S)), (x6, aI G 16 (cN rv)), (x8, aI G 10 ft), (x7, aI G 7 (cN rf))]) s [(h0, .inr (1, [.ref so, .ref to, .ref uo, .int (nI im), .ref x5, .int (nI lm), .ref x6, .int (nI rm), .ref x7, .ref x8, .int sd])), (so, .inr (0, [.int (nI (sN R)), .int (nI (R 0 1)), .int (nI (sF R)), .int (nI (sS R)), .int (nI (sL R)), .ref ak, .ref af, .ref ab, .ref aa])), (ak, aI G 10 (sK R)), (af, aI G 10 (sG R)), (ab, aI G 10 (sO R)), (aa, aI G 10 (sA R)), (to, .inr (0, [.int (nI (sN S)), .int (nI m0), .int (nI (sF S)), .int (nI (sS S)), .int (nI (sL S)), .ref tk, .ref tf, .ref tb, .ref ta])), (tk, aI G 10 (sK S)), (tf, aI G 10 (sG S)), (tb, aI G 10 (sO S)), (ta, aI G 10 (sA S)), (x6, aI G 16 (cN rv)), (x8, aI G 10 ft), (x7, aI G 7 (cN rf))] H locs := hw
    subst hr
    refine re_i (nG (cWW R xz wwz rm)) (congrArg nG ww_eq) ?_
    refine lv_istore (lv' := [(4, .int (nG (cWW R xz wwz rm))), (3, .int (nG (foN (otN wwz 1) (wrJ rm (R 0 0))))), (0, .ref h0), (1, .int x), (2, .int ww)]) xx xb dX1_whatWas_35 hl (by decide) rfl (fun ls hl => ?_)
    refine lv_iload xx xb dX1_whatWas_37 (lv_at hl 0 rfl) ?_
    refine lv_if_eq (tgt := 49) xx xb dX1_whatWas_39 (by decide) (fun c_39 => ?_) (fun c_39 => ?_)
    · skip
      have c_39 := g0_c (by omega) c_39
      obtain ⟨g1, g2, g3⟩ := cWW_0 c_39
      refine lv_iload_n xx xb dX1_whatWas_49 rfl (lv_at hl 4 rfl) ?_
      refine lv_if_ne (tgt := 61) xx xb dX1_whatWas_50 (by decide) (fun c_50 => ?_) (fun c_50 => ?_)
      · skip
        have c_50 := ne_c h_ww Int32.toInt_zero c_50
        refine lv_aload_n xx xb dX1_whatWas_61 rfl (lv_at hl 2 rfl) ?_
        refine lv_iload_n xx xb dX1_whatWas_62 rfl (lv_at hl 3 rfl) ?_
        refine re_i (nI xz.toNat) (ofT h_x (by omega) (by omega)) ?_
        have hM := kX1_figuresByRow l G h0 so to uo x5 x6 x7 x8 im lm rm sd ak af ab aa R tk tf tb ta m0 S ft rv xz.toNat (by first | assumption | omega) (by first | assumption | omega) (by first | assumption | omega) (fun k hk => hrv k (by omega)) g3 (by omega)
        refine cv_i C hw hM yvX1_figuresByRow ml_X1_214 0 rfl rfl rfl [0, 1, 2, 3, 4, 5, 6, 7, 8, 9, 10, 11, 12] rfl rfl (fun _ => (rfl : ([h0, so, ak, af, ab, aa, to, tk, tf, tb, ta, x6, x8] : List Nat) = [h0, so, ak, af, ab, aa, to, tk, tf, tb, ta, x6, x8])) (by decide) ⟨Nat.zero_le _, Nat.zero_le _⟩ hl.1 rfl (Nat.le_of_ble_eq_true rfl) dX1_whatWas_63 (fun r u H locs hr hw => ?_)
        obtain ⟨u1, hu1⟩ : ∃ z, z = u := ⟨_, rfl⟩
        subst hu1
        have hw : Wd G (fA [(h0, .inr (1, [.ref so, .ref to, .ref uo, .int (nI im), .ref x5, .int (nI lm), .ref x6, .int (nI rm), .ref x7, .ref x8, .int sd])), (so, .inr (0, [.int (nI (sN R)), .int (nI (R 0 1)), .int (nI (sF R)), .int (nI (sS R)), .int (nI (sL R)), .ref ak, .ref af, .ref ab, .ref aa])), (ak, aI G 10 (sK R)), (af, aI G 10 (sG R)), (ab, aI G 10 (sO R)), (aa, aI G 10 (sA R)), (to, .inr (0, [.int (nI (sN S)), .int (nI m0), .int (nI (sF S)), .int (nI (sS S)), .int (nI (sL S)), .ref tk, .ref tf, .ref tb, .ref ta])), (tk, aI G 10 (sK S)), (tf, aI G 10 (sG S)), (tb, aI G 10 (sO S)), (ta, aI G 10 (sA S)), (x6, aI G 16 (cN rv)), (x8, aI G 10 ft), (x7, aI G 7 (cN rf))]) s [(h0, .inr (1, [.ref so, .ref to, .ref uo, .int (nI im), .ref x5, .int (nI lm), .ref x6, .int (nI rm), .ref x7, .ref x8, .int sd])), (so, .inr (0, [.int (nI (sN R)), .int (nI (R 0 1)), .int (nI (sF R)), .int (nI (sS R)), .int (nI (sL R)), .ref ak, .ref af, .ref ab, .ref aa])), (ak, aI G 10 (sK R)), (af, aI G 10 (sG R)), (ab, aI G 10 (sO R)), (aa, aI G 10 (sA R)), (to, .inr (0, [.int (nI (sN u1.2.1)), .int (nI u1.1), .int (nI (sF u1.2.1)), .int (nI (sS u1.2.1)), .int (nI (sL u1.2.1)), .ref tk, .ref tf, .ref tb, .ref ta])), (tk, aI G 10 (sK u1.2.1)), (tf, aI G 10 (sG u1.2.1)), (tb, aI G 10 (sO u1.2.1)), (ta, aI G 10 (sA u1.2.1)), (x6, aI G 16 (cN rv)), (x8, aI G 10 u1.2.2), (x7, aI G 7 (cN rf))] H locs := hw
        obtain ⟨hr, hq1⟩ := hr
        subst hr
        refine re_i (nI (vWW R xz.toNat wwz rv)) (congrArg nI (vWW_1 (by omega))) ?_
        have hc : cWW R xz wwz rm = 0 := by first | assumption | rfl
        exact rt_i C hw (u1.1, u1.2.1, u1.2.2) (by exact (anI_0 hc _).symm) (by rw [rfU_0 hc]) dX1_whatWas_66
      · skip
        have c_50 := eq_c h_ww Int32.toInt_zero c_50
        refine lv_aload_n xx xb dX1_whatWas_53 rfl (lv_at hl 2 rfl) ?_
        refine lv_iload_n xx xb dX1_whatWas_54 rfl (lv_at hl 3 rfl) ?_
        refine re_i (nI xz.toNat) (ofT h_x (by omega) (by omega)) ?_
        have hM := kX1_kindsByRow l G h0 so to uo x5 x6 x7 x8 im lm rm sd ak af ab aa R tk tf tb ta m0 S ft rv xz.toNat (by first | assumption | omega) (by first | assumption | omega) (by first | assumption | omega) (fun k hk => hrv k (by omega)) g3 (by omega)
        refine cv_i C hw hM yvX1_kindsByRow ml_X1_211 0 rfl rfl rfl [0, 1, 2, 3, 4, 5, 6, 7, 8, 9, 10, 11, 12] rfl rfl (fun _ => (rfl : ([h0, so, ak, af, ab, aa, to, tk, tf, tb, ta, x6, x8] : List Nat) = [h0, so, ak, af, ab, aa, to, tk, tf, tb, ta, x6, x8])) (by decide) ⟨Nat.zero_le _, Nat.zero_le _⟩ hl.1 rfl (Nat.le_of_ble_eq_true rfl) dX1_whatWas_55 (fun r u H locs hr hw => ?_)
        obtain ⟨u2, hu2⟩ : ∃ z, z = u := ⟨_, rfl⟩
        subst hu2
        have hw : Wd G (fA [(h0, .inr (1, [.ref so, .ref to, .ref uo, .int (nI im), .ref x5, .int (nI lm), .ref x6, .int (nI rm), .ref x7, .ref x8, .int sd])), (so, .inr (0, [.int (nI (sN R)), .int (nI (R 0 1)), .int (nI (sF R)), .int (nI (sS R)), .int (nI (sL R)), .ref ak, .ref af, .ref ab, .ref aa])), (ak, aI G 10 (sK R)), (af, aI G 10 (sG R)), (ab, aI G 10 (sO R)), (aa, aI G 10 (sA R)), (to, .inr (0, [.int (nI (sN S)), .int (nI m0), .int (nI (sF S)), .int (nI (sS S)), .int (nI (sL S)), .ref tk, .ref tf, .ref tb, .ref ta])), (tk, aI G 10 (sK S)), (tf, aI G 10 (sG S)), (tb, aI G 10 (sO S)), (ta, aI G 10 (sA S)), (x6, aI G 16 (cN rv)), (x8, aI G 10 ft), (x7, aI G 7 (cN rf))]) s [(h0, .inr (1, [.ref so, .ref to, .ref uo, .int (nI im), .ref x5, .int (nI lm), .ref x6, .int (nI rm), .ref x7, .ref x8, .int sd])), (so, .inr (0, [.int (nI (sN R)), .int (nI (R 0 1)), .int (nI (sF R)), .int (nI (sS R)), .int (nI (sL R)), .ref ak, .ref af, .ref ab, .ref aa])), (ak, aI G 10 (sK R)), (af, aI G 10 (sG R)), (ab, aI G 10 (sO R)), (aa, aI G 10 (sA R)), (to, .inr (0, [.int (nI (sN u2.2.1)), .int (nI u2.1), .int (nI (sF u2.2.1)), .int (nI (sS u2.2.1)), .int (nI (sL u2.2.1)), .ref tk, .ref tf, .ref tb, .ref ta])), (tk, aI G 10 (sK u2.2.1)), (tf, aI G 10 (sG u2.2.1)), (tb, aI G 10 (sO u2.2.1)), (ta, aI G 10 (sA u2.2.1)), (x6, aI G 16 (cN rv)), (x8, aI G 10 u2.2.2), (x7, aI G 7 (cN rf))] H locs := hw
        obtain ⟨hr, hq2⟩ := hr
        subst hr
        refine lv_goto (tgt := 66) xx xb dX1_whatWas_58 (by decide) ?_
        refine re_i (nI (vWW R xz.toNat wwz rv)) (congrArg nI (vWW_0 (by omega))) ?_
        have hc : cWW R xz wwz rm = 0 := by first | assumption | rfl
        exact rt_i C hw (u2.1, u2.2.1, u2.2.2) (by exact (anI_0 hc _).symm) (by rw [rfU_0 hc]) dX1_whatWas_66
    · skip
      have c_39 := g0_n c_39
      refine lv_aload_n xx xb dX1_whatWas_42 rfl (lv_at hl 2 rfl) ?_
      refine lv_iload xx xb dX1_whatWas_43 (lv_at hl 0 rfl) ?_
      have hM := kX1_refuse l G h0 so to uo x5 x6 x7 x8 im lm rm sd rf (cWW R xz wwz rm) (by first | assumption | omega)
      refine cv_i C hw hM yvX1_refuse ml_X1_43 0 rfl rfl rfl [0, 13] rfl rfl (fun _ => (rfl : ([h0, x7] : List Nat) = [h0, x7])) (by decide) ⟨Nat.zero_le _, Nat.zero_le _⟩ hl.1 rfl (Nat.le_of_ble_eq_true rfl) dX1_whatWas_45 (fun r _ H locs hr hw => ?_)
      have hw : Wd G (fA [(h0, .inr (1, [.ref so, .ref to, .ref uo, .int (nI im), .ref x5, .int (nI lm), .ref x6, .int (nI rm), .ref x7, .ref x8, .int sd])), (so, .inr (0, [.int (nI (sN R)), .int (nI (R 0 1)), .int (nI (sF R)), .int (nI (sS R)), .int (nI (sL R)), .ref ak, .ref af, .ref ab, .ref aa])), (ak, aI G 10 (sK R)), (af, aI G 10 (sG R)), (ab, aI G 10 (sO R)), (aa, aI G 10 (sA R)), (to, .inr (0, [.int (nI (sN S)), .int (nI m0), .int (nI (sF S)), .int (nI (sS S)), .int (nI (sL S)), .ref tk, .ref tf, .ref tb, .ref ta])), (tk, aI G 10 (sK S)), (tf, aI G 10 (sG S)), (tb, aI G 10 (sO S)), (ta, aI G 10 (sA S)), (x6, aI G 16 (cN rv)), (x8, aI G 10 ft), (x7, aI G 7 (cN rf))]) s [(h0, .inr (1, [.ref so, .ref to, .ref uo, .int (nI im), .ref x5, .int (nI lm), .ref x6, .int (nI rm), .ref x7, .ref x8, .int sd])), (so, .inr (0, [.int (nI (sN R)), .int (nI (R 0 1)), .int (nI (sF R)), .int (nI (sS R)), .int (nI (sL R)), .ref ak, .ref af, .ref ab, .ref aa])), (ak, aI G 10 (sK R)), (af, aI G 10 (sG R)), (ab, aI G 10 (sO R)), (aa, aI G 10 (sA R)), (to, .inr (0, [.int (nI (sN S)), .int (nI m0), .int (nI (sF S)), .int (nI (sS S)), .int (nI (sL S)), .ref tk, .ref tf, .ref tb, .ref ta])), (tk, aI G 10 (sK S)), (tf, aI G 10 (sG S)), (tb, aI G 10 (sO S)), (ta, aI G 10 (sA S)), (x6, aI G 16 (cN rv)), (x8, aI G 10 ft), (x7, aI G 7 (cN (upN rf (cWW R xz wwz rm) (rf (cWW R xz wwz rm) + 1))))] H locs := hw
      subst hr
      have hc : cWW R xz wwz rm = (cWW R xz wwz rm) := by first | assumption | rfl
      have hj : (cWW R xz wwz rm) ≠ 0 := by omega
      exact rt_i C hw (m0, S, ft) (by exact (anI_r hc hj _).symm) (by rw [rfU_r hc hj]) dX1_whatWas_48
  refine lv_iload_n xx xb dX1_whatWas_0 rfl (lv_at hl 2 rfl) ?_
  refine lv_iconst (v := nI 1) xx xb dX1_whatWas_1 (by decide) ?_
  have hM := kX1_otherThan l G ww wwz (nI 1) 1 h_ww (tN (by omega))
  refine cs_i C hw hM ysX1_otherThan ml_X1_51 rfl [] rfl rfl (fun _ => (rfl : ([] : List Nat) = [])) (by decide) ⟨Nat.zero_le _, Nat.zero_le _⟩ hl.1 rfl (Nat.le_of_ble_eq_true rfl) dX1_whatWas_2 (fun r _ H locs hr hw => ?_)
  have hw : Wd G (fA [(h0, .inr (1, [.ref so, .ref to, .ref uo, .int (nI im), .ref x5, .int (nI lm), .ref x6, .int (nI rm), .ref x7, .ref x8, .int sd])), (so, .inr (0, [.int (nI (sN R)), .int (nI (R 0 1)), .int (nI (sF R)), .int (nI (sS R)), .int (nI (sL R)), .ref ak, .ref af, .ref ab, .ref aa])), (ak, aI G 10 (sK R)), (af, aI G 10 (sG R)), (ab, aI G 10 (sO R)), (aa, aI G 10 (sA R)), (to, .inr (0, [.int (nI (sN S)), .int (nI m0), .int (nI (sF S)), .int (nI (sS S)), .int (nI (sL S)), .ref tk, .ref tf, .ref tb, .ref ta])), (tk, aI G 10 (sK S)), (tf, aI G 10 (sG S)), (tb, aI G 10 (sO S)), (ta, aI G 10 (sA S)), (x6, aI G 16 (cN rv)), (x8, aI G 10 ft), (x7, aI G 7 (cN rf))]) s [(h0, .inr (1, [.ref so, .ref to, .ref uo, .int (nI im), .ref x5, .int (nI lm), .ref x6, .int (nI rm), .ref x7, .ref x8, .int sd])), (so, .inr (0, [.int (nI (sN R)), .int (nI (R 0 1)), .int (nI (sF R)), .int (nI (sS R)), .int (nI (sL R)), .ref ak, .ref af, .ref ab, .ref aa])), (ak, aI G 10 (sK R)), (af, aI G 10 (sG R)), (ab, aI G 10 (sO R)), (aa, aI G 10 (sA R)), (to, .inr (0, [.int (nI (sN S)), .int (nI m0), .int (nI (sF S)), .int (nI (sS S)), .int (nI (sL S)), .ref tk, .ref tf, .ref tb, .ref ta])), (tk, aI G 10 (sK S)), (tf, aI G 10 (sG S)), (tb, aI G 10 (sO S)), (ta, aI G 10 (sA S)), (x6, aI G 16 (cN rv)), (x8, aI G 10 ft), (x7, aI G 7 (cN rf))] H locs := hw
  subst hr
  refine lv_aload_n xx xb dX1_whatWas_5 rfl (lv_at hl 0 rfl) ?_
  refine m_get C hw 0 rfl fk_X1_208 rfl dX1_whatWas_6 ?_
  refine lv_aload_n xx xb dX1_whatWas_9 rfl (lv_at hl 0 rfl) ?_
  refine m_get C hw 0 rfl fk_X1_10 rfl dX1_whatWas_10 ?_
  refine m_get C hw 1 rfl fk_X1_163 rfl dX1_whatWas_13 ?_
  refine re_i (nI (R 0 0)) rfl ?_
  refine lv_icmp_ne (tgt := 23) xx xb dX1_whatWas_16 (by decide) (fun c_16 => ?_) (fun c_16 => ?_)
  · skip
    have c_16 := ne_c (tN (by omega)) (tN (by omega)) c_16
    refine lv_bipush (v := (-3)) xx xb dX1_whatWas_23 (by decide) ?_
    refine re_i (nG (wrJ rm (R 0 0))) (by unfold wrJ; first | (rw [if_pos (by omega)]; decide +kernel) | (rw [if_neg (by omega)]; decide +kernel)) ?_
    exact J_25  H _ ls  hw (lv_sub hl [0, 1, 2] rfl)
  · skip
    have c_16 := eq_c (tN (by omega)) (tN (by omega)) c_16
    refine lv_iconst (v := nI 0) xx xb dX1_whatWas_19 (by decide) ?_
    refine lv_goto (tgt := 25) xx xb dX1_whatWas_20 (by decide) ?_
    refine re_i (nG (wrJ rm (R 0 0))) (by unfold wrJ; first | (rw [if_pos (by omega)]; decide +kernel) | (rw [if_neg (by omega)]; decide +kernel)) ?_
    exact J_25  H _ ls  hw (lv_sub hl [0, 1, 2] rfl)
set_option maxRecDepth 100000 in
set_option maxHeartbeats 4000000 in
theorem kX1_row (l : Launch) (G : GT) (h0 : Nat) (so : Nat) (to : Nat) (uo : Nat) (x5 : Nat) (x6 : Nat) (x7 : Nat) (x8 : Nat) (im : Nat) (lm : Nat) (rm : Nat) (sd : Int32) (rf : Nat → Nat) (rv : Nat → Nat) (v : Int32) (vz : Int) (h_v : v.toInt = vz) (hrm : rm ≤ 16) : Ct l yX1_row cX1_row 3 (some .int) 1 22 [.ref h0, .int v] G [(h0, .inr (1, [.ref so, .ref to, .ref uo, .int (nI im), .ref x5, .int (nI lm), .ref x6, .int (nI rm), .ref x7, .ref x8, .int sd])), (x6, aI G 16 (cN rv)), (x7, aI G 7 (cN rf))] (QI G [(h0, .inr (1, [.ref so, .ref to, .ref uo, .int (nI im), .ref x5, .int (nI lm), .ref x6, .int (nI rm), .ref x7, .ref x8, .int sd])), (x6, aI G 16 (cN rv)), (x7, aI G 7 (cN rf))] (fun (r : Int32) (u : Unit) => r = anI (cRow vz rm) (nI (rm + 1))) (fun u => [(h0, .inr (1, [.ref so, .ref to, .ref uo, .int (nI im), .ref x5, .int (nI lm), .ref x6, .int (nI (selN (cRow vz rm) (rm + 1) rm)), .ref x7, .ref x8, .int sd])), (x6, aI G 16 (cN (selF (cRow vz rm) (upN rv rm vz.toNat) rv))), (x7, aI G 7 (cN (rfU rf (cRow vz rm))))])) := by
  refine en (by decide +kernel) (Nat.le_of_ble_eq_true rfl) ?_
  intro p e s m below meth c ls H locs C hl hw
  have xx := C.1
  have xb := C.2.1
  have hw : Wd G (fA [(h0, .inr (1, [.ref so, .ref to, .ref uo, .int (nI im), .ref x5, .int (nI lm), .ref x6, .int (nI rm), .ref x7, .ref x8, .int sd])), (x6, aI G 16 (cN rv)), (x7, aI G 7 (cN rf))]) s [(h0, .inr (1, [.ref so, .ref to, .ref uo, .int (nI im), .ref x5, .int (nI lm), .ref x6, .int (nI rm), .ref x7, .ref x8, .int sd])), (x6, aI G 16 (cN rv)), (x7, aI G 7 (cN rf))] H locs := hw
  have hl : lv_has ls 3 [(0, .ref h0), (1, .int v)] := hl
  have hwl := wlN_or vz 0 99
  have hw6 := wlN_le vz 0 99
  have hwb := wl_wb vz 99
  refine lv_iload_n xx xb dX1_row_0 rfl (lv_at hl 1 rfl) ?_
  refine lv_iconst (v := nI 0) xx xb dX1_row_1 (by decide) ?_
  refine lv_bipush (v := nI 99) xx xb dX1_row_2 (by decide) ?_
  have hM := kX1_outside l G v vz (nI 0) 0 (nI 99) 99 h_v (tN (by omega)) (tN (by omega))
  refine cs_i C hw hM ysX1_outside ml_X1_35 rfl [] rfl rfl (fun _ => (rfl : ([] : List Nat) = [])) (by decide) ⟨Nat.zero_le _, Nat.zero_le _⟩ hl.1 rfl (Nat.le_of_ble_eq_true rfl) dX1_row_4 (fun r _ H locs hr hw => ?_)
  have hw : Wd G (fA [(h0, .inr (1, [.ref so, .ref to, .ref uo, .int (nI im), .ref x5, .int (nI lm), .ref x6, .int (nI rm), .ref x7, .ref x8, .int sd])), (x6, aI G 16 (cN rv)), (x7, aI G 7 (cN rf))]) s [(h0, .inr (1, [.ref so, .ref to, .ref uo, .int (nI im), .ref x5, .int (nI lm), .ref x6, .int (nI rm), .ref x7, .ref x8, .int sd])), (x6, aI G 16 (cN rv)), (x7, aI G 7 (cN rf))] H locs := hw
  subst hr
  refine lv_istore_n (lv' := [(2, .int (nG (wlN vz 0 99))), (0, .ref h0), (1, .int v)]) xx xb dX1_row_7 rfl hl (by decide) rfl (fun ls hl => ?_)
  refine lv_iload_n xx xb dX1_row_8 rfl (lv_at hl 0 rfl) ?_
  refine lv_if_ne (tgt := 24) xx xb dX1_row_9 (by decide) (fun c_9 => ?_) (fun c_9 => ?_)
  · skip
    have c_9 := g0_n c_9
    refine lv_iload_n xx xb dX1_row_24 rfl (lv_at hl 0 rfl) ?_
    refine lv_if_eq (tgt := 34) xx xb dX1_row_25 (by decide) (fun c_25 => ?_) (fun c_25 => ?_)
    · skip
      have c_25 := g0_c (by omega) c_25
      refine lv_aload_n xx xb dX1_row_34 rfl (lv_at hl 1 rfl) ?_
      refine m_get C hw 0 rfl fk_X1_26 rfl dX1_row_35 ?_
      refine lv_aload_n xx xb dX1_row_38 rfl (lv_at hl 1 rfl) ?_
      refine m_get C hw 0 rfl fk_X1_208 rfl dX1_row_39 ?_
      refine lv_iload_n xx xb dX1_row_42 rfl (lv_at hl 2 rfl) ?_
      refine re_i (nI vz.toNat) (ofT h_v (by omega) (by omega)) ?_
      refine m_ast C hw 1 rfl rm rfl (by omega) (by decide) (cN (upN rv rm vz.toNat)) (cN_u _ _ _) dX1_row_43 (fun H locs hw => ?_)
      have hw : Wd G (fA [(h0, .inr (1, [.ref so, .ref to, .ref uo, .int (nI im), .ref x5, .int (nI lm), .ref x6, .int (nI rm), .ref x7, .ref x8, .int sd])), (x6, aI G 16 (cN rv)), (x7, aI G 7 (cN rf))]) s [(h0, .inr (1, [.ref so, .ref to, .ref uo, .int (nI im), .ref x5, .int (nI lm), .ref x6, .int (nI rm), .ref x7, .ref x8, .int sd])), (x6, aI G 16 (cN (upN rv rm vz.toNat))), (x7, aI G 7 (cN rf))] H locs := hw
      refine lv_aload_n xx xb dX1_row_44 rfl (lv_at hl 1 rfl) ?_
      refine lv_dup xx xb dX1_row_45 rfl ?_
      refine m_get C hw 0 rfl fk_X1_208 rfl dX1_row_46 ?_
      refine lv_iconst (v := nI 1) xx xb dX1_row_49 (by decide) ?_
      refine lv_iadd xx xb dX1_row_50 ?_
      refine re_i (nI (rm + 1)) (nI_add _ _) ?_
      refine m_put C hw 0 rfl rfl tyX1 tyX1_ok nmX1 fk_X1_208 rfl rfl rfl rfl (Nat.le_of_ble_eq_true rfl) dX1_row_51 (fun H locs hw => ?_)
      have hw : Wd G (fA [(h0, .inr (1, [.ref so, .ref to, .ref uo, .int (nI im), .ref x5, .int (nI lm), .ref x6, .int (nI rm), .ref x7, .ref x8, .int sd])), (x6, aI G 16 (cN rv)), (x7, aI G 7 (cN rf))]) s [(h0, .inr (1, [.ref so, .ref to, .ref uo, .int (nI im), .ref x5, .int (nI lm), .ref x6, .int (nI (rm + 1)), .ref x7, .ref x8, .int sd])), (x6, aI G 16 (cN (upN rv rm vz.toNat))), (x7, aI G 7 (cN rf))] H locs := hw
      refine lv_aload_n xx xb dX1_row_54 rfl (lv_at hl 1 rfl) ?_
      refine m_get C hw 0 rfl fk_X1_208 rfl dX1_row_55 ?_
      have hc : cRow vz rm = 0 := by unfold cRow; (repeat' split) <;> omega
      exact rt_i C hw () (by exact (anI_0 hc _).symm) (by rw [rfU_0 hc, selN_0 hc, selF_0 hc]) dX1_row_58
    · skip
      have c_25 := g0_n c_25
      refine lv_aload_n xx xb dX1_row_28 rfl (lv_at hl 1 rfl) ?_
      refine lv_iload_n xx xb dX1_row_29 rfl (lv_at hl 0 rfl) ?_
      have hM := kX1_refuse l G h0 so to uo x5 x6 x7 x8 im lm rm sd rf (wlN vz 0 99) (by first | assumption | omega)
      refine cv_i C hw hM yvX1_refuse ml_X1_43 0 rfl rfl rfl [0, 2] rfl rfl (fun _ => (rfl : ([h0, x7] : List Nat) = [h0, x7])) (by decide) ⟨Nat.zero_le _, Nat.zero_le _⟩ hl.1 rfl (Nat.le_of_ble_eq_true rfl) dX1_row_30 (fun r _ H locs hr hw => ?_)
      have hw : Wd G (fA [(h0, .inr (1, [.ref so, .ref to, .ref uo, .int (nI im), .ref x5, .int (nI lm), .ref x6, .int (nI rm), .ref x7, .ref x8, .int sd])), (x6, aI G 16 (cN rv)), (x7, aI G 7 (cN rf))]) s [(h0, .inr (1, [.ref so, .ref to, .ref uo, .int (nI im), .ref x5, .int (nI lm), .ref x6, .int (nI rm), .ref x7, .ref x8, .int sd])), (x6, aI G 16 (cN rv)), (x7, aI G 7 (cN (upN rf (wlN vz 0 99) (rf (wlN vz 0 99) + 1))))] H locs := hw
      subst hr
      have hc : cRow vz rm = (wlN vz 0 99) := by unfold cRow; (repeat' split) <;> omega
      have hj : (wlN vz 0 99) ≠ 0 := by omega
      exact rt_i C hw () (by exact (anI_r hc hj _).symm) (by rw [rfU_r hc hj, selN_r hc hj, selF_r hc hj]) dX1_row_33
  · skip
    have c_9 := g0_c (by omega) c_9
    refine lv_aload_n xx xb dX1_row_12 rfl (lv_at hl 1 rfl) ?_
    refine m_get C hw 0 rfl fk_X1_208 rfl dX1_row_13 ?_
    refine lv_bipush (v := nI 16) xx xb dX1_row_16 (by decide) ?_
    refine lv_icmp_lt (tgt := 24) xx xb dX1_row_18 (by decide) (fun c_18 => ?_) (fun c_18 => ?_)
    · skip
      have c_18 := lt_c (tN (by omega)) (tN (by omega)) c_18
      refine lv_iload_n xx xb dX1_row_24 rfl (lv_at hl 0 rfl) ?_
      refine lv_if_eq (tgt := 34) xx xb dX1_row_25 (by decide) (fun c_25 => ?_) (fun c_25 => ?_)
      · skip
        have c_25 := g0_c (by omega) c_25
        refine lv_aload_n xx xb dX1_row_34 rfl (lv_at hl 1 rfl) ?_
        refine m_get C hw 0 rfl fk_X1_26 rfl dX1_row_35 ?_
        refine lv_aload_n xx xb dX1_row_38 rfl (lv_at hl 1 rfl) ?_
        refine m_get C hw 0 rfl fk_X1_208 rfl dX1_row_39 ?_
        refine lv_iload_n xx xb dX1_row_42 rfl (lv_at hl 2 rfl) ?_
        refine re_i (nI vz.toNat) (ofT h_v (by omega) (by omega)) ?_
        refine m_ast C hw 1 rfl rm rfl (by omega) (by decide) (cN (upN rv rm vz.toNat)) (cN_u _ _ _) dX1_row_43 (fun H locs hw => ?_)
        have hw : Wd G (fA [(h0, .inr (1, [.ref so, .ref to, .ref uo, .int (nI im), .ref x5, .int (nI lm), .ref x6, .int (nI rm), .ref x7, .ref x8, .int sd])), (x6, aI G 16 (cN rv)), (x7, aI G 7 (cN rf))]) s [(h0, .inr (1, [.ref so, .ref to, .ref uo, .int (nI im), .ref x5, .int (nI lm), .ref x6, .int (nI rm), .ref x7, .ref x8, .int sd])), (x6, aI G 16 (cN (upN rv rm vz.toNat))), (x7, aI G 7 (cN rf))] H locs := hw
        refine lv_aload_n xx xb dX1_row_44 rfl (lv_at hl 1 rfl) ?_
        refine lv_dup xx xb dX1_row_45 rfl ?_
        refine m_get C hw 0 rfl fk_X1_208 rfl dX1_row_46 ?_
        refine lv_iconst (v := nI 1) xx xb dX1_row_49 (by decide) ?_
        refine lv_iadd xx xb dX1_row_50 ?_
        refine re_i (nI (rm + 1)) (nI_add _ _) ?_
        refine m_put C hw 0 rfl rfl tyX1 tyX1_ok nmX1 fk_X1_208 rfl rfl rfl rfl (Nat.le_of_ble_eq_true rfl) dX1_row_51 (fun H locs hw => ?_)
        have hw : Wd G (fA [(h0, .inr (1, [.ref so, .ref to, .ref uo, .int (nI im), .ref x5, .int (nI lm), .ref x6, .int (nI rm), .ref x7, .ref x8, .int sd])), (x6, aI G 16 (cN rv)), (x7, aI G 7 (cN rf))]) s [(h0, .inr (1, [.ref so, .ref to, .ref uo, .int (nI im), .ref x5, .int (nI lm), .ref x6, .int (nI (rm + 1)), .ref x7, .ref x8, .int sd])), (x6, aI G 16 (cN (upN rv rm vz.toNat))), (x7, aI G 7 (cN rf))] H locs := hw
        refine lv_aload_n xx xb dX1_row_54 rfl (lv_at hl 1 rfl) ?_
        refine m_get C hw 0 rfl fk_X1_208 rfl dX1_row_55 ?_
        have hc : cRow vz rm = 0 := by unfold cRow; (repeat' split) <;> omega
        exact rt_i C hw () (by exact (anI_0 hc _).symm) (by rw [rfU_0 hc, selN_0 hc, selF_0 hc]) dX1_row_58
      · skip
        have c_25 := g0_n c_25
        refine lv_aload_n xx xb dX1_row_28 rfl (lv_at hl 1 rfl) ?_
        refine lv_iload_n xx xb dX1_row_29 rfl (lv_at hl 0 rfl) ?_
        have hM := kX1_refuse l G h0 so to uo x5 x6 x7 x8 im lm rm sd rf (wlN vz 0 99) (by first | assumption | omega)
        refine cv_i C hw hM yvX1_refuse ml_X1_43 0 rfl rfl rfl [0, 2] rfl rfl (fun _ => (rfl : ([h0, x7] : List Nat) = [h0, x7])) (by decide) ⟨Nat.zero_le _, Nat.zero_le _⟩ hl.1 rfl (Nat.le_of_ble_eq_true rfl) dX1_row_30 (fun r _ H locs hr hw => ?_)
        have hw : Wd G (fA [(h0, .inr (1, [.ref so, .ref to, .ref uo, .int (nI im), .ref x5, .int (nI lm), .ref x6, .int (nI rm), .ref x7, .ref x8, .int sd])), (x6, aI G 16 (cN rv)), (x7, aI G 7 (cN rf))]) s [(h0, .inr (1, [.ref so, .ref to, .ref uo, .int (nI im), .ref x5, .int (nI lm), .ref x6, .int (nI rm), .ref x7, .ref x8, .int sd])), (x6, aI G 16 (cN rv)), (x7, aI G 7 (cN (upN rf (wlN vz 0 99) (rf (wlN vz 0 99) + 1))))] H locs := hw
        subst hr
        have hc : cRow vz rm = (wlN vz 0 99) := by unfold cRow; (repeat' split) <;> omega
        have hj : (wlN vz 0 99) ≠ 0 := by omega
        exact rt_i C hw () (by exact (anI_r hc hj _).symm) (by rw [rfU_r hc hj, selN_r hc hj, selF_r hc hj]) dX1_row_33
    · skip
      have c_18 := nlt_c (tN (by omega)) (tN (by omega)) c_18
      refine lv_bipush (v := (-6)) xx xb dX1_row_21 (by decide) ?_
      refine lv_istore_n (lv' := [(2, .int (-6)), (0, .ref h0), (1, .int v)]) xx xb dX1_row_23 rfl hl (by decide) rfl (fun ls hl => ?_)
      refine lv_iload_n xx xb dX1_row_24 rfl (lv_at hl 0 rfl) ?_
      refine lv_if_eq (tgt := 34) xx xb dX1_row_25 (by decide) (fun c_25 => ?_) (fun c_25 => ?_)
      · skip
        exact absurd c_25 (by decide)
      · skip
        refine lv_aload_n xx xb dX1_row_28 rfl (lv_at hl 1 rfl) ?_
        refine lv_iload_n xx xb dX1_row_29 rfl (lv_at hl 0 rfl) ?_
        have hM := kX1_refuse l G h0 so to uo x5 x6 x7 x8 im lm rm sd rf 6 (by first | assumption | omega)
        refine cv_i C hw hM yvX1_refuse ml_X1_43 0 rfl rfl rfl [0, 2] rfl rfl (fun _ => (rfl : ([h0, x7] : List Nat) = [h0, x7])) (by decide) ⟨Nat.zero_le _, Nat.zero_le _⟩ hl.1 rfl (Nat.le_of_ble_eq_true rfl) dX1_row_30 (fun r _ H locs hr hw => ?_)
        have hw : Wd G (fA [(h0, .inr (1, [.ref so, .ref to, .ref uo, .int (nI im), .ref x5, .int (nI lm), .ref x6, .int (nI rm), .ref x7, .ref x8, .int sd])), (x6, aI G 16 (cN rv)), (x7, aI G 7 (cN rf))]) s [(h0, .inr (1, [.ref so, .ref to, .ref uo, .int (nI im), .ref x5, .int (nI lm), .ref x6, .int (nI rm), .ref x7, .ref x8, .int sd])), (x6, aI G 16 (cN rv)), (x7, aI G 7 (cN (upN rf 6 (rf 6 + 1))))] H locs := hw
        subst hr
        have hc : cRow vz rm = 6 := by unfold cRow; (repeat' split) <;> omega
        have hj : 6 ≠ 0 := by omega
        exact rt_i C hw () (by exact (anI_r hc hj _).symm) (by rw [rfU_r hc hj, selN_r hc hj, selF_r hc hj]) dX1_row_33
set_option maxRecDepth 100000 in
set_option maxHeartbeats 4000000 in
theorem kX1_firstNotSo (l : Launch) (G : GT) (h0 : Nat) (so : Nat) (to : Nat) (uo : Nat) (x5 : Nat) (x6 : Nat) (x7 : Nat) (x8 : Nat) (im : Nat) (lm : Nat) (rm : Nat) (sd : Int32) (ak : Nat) (af : Nat) (ab : Nat) (aa : Nat) (R : RT) (tk : Nat) (tf : Nat) (tb : Nat) (ta : Nat) (m0 : Nat) (S : RT) (rv : Nat → Nat) (hR : OK R) (hK : AK R) (hp : R 0 3 = 0) (hrm : rm ≤ 16) (hrv : ∀ k, k < rm → rv k ≤ 99) : Ct l yX1_firstNotSo cX1_firstNotSo 2 (some .int) 3 78 [.ref h0] G [(h0, .inr (1, [.ref so, .ref to, .ref uo, .int (nI im), .ref x5, .int (nI lm), .ref x6, .int (nI rm), .ref x7, .ref x8, .int sd])), (so, .inr (0, [.int (nI (sN R)), .int (nI (R 0 1)), .int (nI (sF R)), .int (nI (sS R)), .int (nI (sL R)), .ref ak, .ref af, .ref ab, .ref aa])), (ak, aI G 10 (sK R)), (af, aI G 10 (sG R)), (ab, aI G 10 (sO R)), (aa, aI G 10 (sA R)), (to, .inr (0, [.int (nI (sN S)), .int (nI m0), .int (nI (sF S)), .int (nI (sS S)), .int (nI (sL S)), .ref tk, .ref tf, .ref tb, .ref ta])), (tk, aI G 10 (sK S)), (tf, aI G 10 (sG S)), (tb, aI G 10 (sO S)), (ta, aI G 10 (sA S)), (x6, aI G 16 (cN rv))] (QI G [(h0, .inr (1, [.ref so, .ref to, .ref uo, .int (nI im), .ref x5, .int (nI lm), .ref x6, .int (nI rm), .ref x7, .ref x8, .int sd])), (so, .inr (0, [.int (nI (sN R)), .int (nI (R 0 1)), .int (nI (sF R)), .int (nI (sS R)), .int (nI (sL R)), .ref ak, .ref af, .ref ab, .ref aa])), (ak, aI G 10 (sK R)), (af, aI G 10 (sG R)), (ab, aI G 10 (sO R)), (aa, aI G 10 (sA R)), (to, .inr (0, [.int (nI (sN S)), .int (nI m0), .int (nI (sF S)), .int (nI (sS S)), .int (nI (sL S)), .ref tk, .ref tf, .ref tb, .ref ta])), (tk, aI G 10 (sK S)), (tf, aI G 10 (sG S)), (tb, aI G 10 (sO S)), (ta, aI G 10 (sA S)), (x6, aI G 16 (cN rv))] (fun (r : Int32) (u : RT) => r = jdI R rv rm ∧ True) (fun u => [(h0, .inr (1, [.ref so, .ref to, .ref uo, .int (nI im), .ref x5, .int (nI lm), .ref x6, .int (nI rm), .ref x7, .ref x8, .int sd])), (so, .inr (0, [.int (nI (sN R)), .int (nI (R 0 1)), .int (nI (sF R)), .int (nI (sS R)), .int (nI (sL R)), .ref ak, .ref af, .ref ab, .ref aa])), (ak, aI G 10 (sK R)), (af, aI G 10 (sG R)), (ab, aI G 10 (sO R)), (aa, aI G 10 (sA R)), (to, .inr (0, [.int (nI (sN u)), .int (nI (R 0 1)), .int (nI (sF u)), .int (nI (sS u)), .int (nI (sL u)), .ref tk, .ref tf, .ref tb, .ref ta])), (tk, aI G 10 (sK u)), (tf, aI G 10 (sG u)), (tb, aI G 10 (sO u)), (ta, aI G 10 (sA u)), (x6, aI G 16 (cN rv))])) := by
  refine en (by decide +kernel) (Nat.le_of_ble_eq_true rfl) ?_
  intro p e s m below meth c ls H locs C hl hw
  have xx := C.1
  have xb := C.2.1
  have hw : Wd G (fA [(h0, .inr (1, [.ref so, .ref to, .ref uo, .int (nI im), .ref x5, .int (nI lm), .ref x6, .int (nI rm), .ref x7, .ref x8, .int sd])), (so, .inr (0, [.int (nI (sN R)), .int (nI (R 0 1)), .int (nI (sF R)), .int (nI (sS R)), .int (nI (sL R)), .ref ak, .ref af, .ref ab, .ref aa])), (ak, aI G 10 (sK R)), (af, aI G 10 (sG R)), (ab, aI G 10 (sO R)), (aa, aI G 10 (sA R)), (to, .inr (0, [.int (nI (sN S)), .int (nI m0), .int (nI (sF S)), .int (nI (sS S)), .int (nI (sL S)), .ref tk, .ref tf, .ref tb, .ref ta])), (tk, aI G 10 (sK S)), (tf, aI G 10 (sG S)), (tb, aI G 10 (sO S)), (ta, aI G 10 (sA S)), (x6, aI G 16 (cN rv))]) s [(h0, .inr (1, [.ref so, .ref to, .ref uo, .int (nI im), .ref x5, .int (nI lm), .ref x6, .int (nI rm), .ref x7, .ref x8, .int sd])), (so, .inr (0, [.int (nI (sN R)), .int (nI (R 0 1)), .int (nI (sF R)), .int (nI (sS R)), .int (nI (sL R)), .ref ak, .ref af, .ref ab, .ref aa])), (ak, aI G 10 (sK R)), (af, aI G 10 (sG R)), (ab, aI G 10 (sO R)), (aa, aI G 10 (sA R)), (to, .inr (0, [.int (nI (sN S)), .int (nI m0), .int (nI (sF S)), .int (nI (sS S)), .int (nI (sL S)), .ref tk, .ref tf, .ref tb, .ref ta])), (tk, aI G 10 (sK S)), (tf, aI G 10 (sG S)), (tb, aI G 10 (sO S)), (ta, aI G 10 (sA S)), (x6, aI G 16 (cN rv))] H locs := hw
  have hl : lv_has ls 2 [(0, .ref h0)] := hl
  obtain ⟨hn, hf0, hpr, hA⟩ := id hR
  refine lv_aload_n xx xb dX1_firstNotSo_0 rfl (lv_at hl 0 rfl) ?_
  refine m_get C hw 0 rfl fk_X1_16 rfl dX1_firstNotSo_1 ?_
  refine lv_aload_n xx xb dX1_firstNotSo_4 rfl (lv_at hl 0 rfl) ?_
  refine m_get C hw 0 rfl fk_X1_10 rfl dX1_firstNotSo_5 ?_
  have hM := kX0_copyFrom l G to tk tf tb ta m0 S so ak af ab aa (R 0 1) R (by first | assumption | omega)
  refine cv_v C hw hM yvX0_copyFrom ml_X1_131 6 rfl rfl rfl [6, 7, 8, 9, 10, 1, 2, 3, 4, 5] rfl rfl (fun _ => (rfl : ([to, tk, tf, tb, ta, so, ak, af, ab, aa] : List Nat) = [to, tk, tf, tb, ta, so, ak, af, ab, aa])) (by decide) ⟨Nat.zero_le _, Nat.zero_le _⟩ hl.1 rfl (Nat.le_of_ble_eq_true rfl) dX1_firstNotSo_8 (fun _ H locs hr hw => ?_)
  have hw : Wd G (fA [(h0, .inr (1, [.ref so, .ref to, .ref uo, .int (nI im), .ref x5, .int (nI lm), .ref x6, .int (nI rm), .ref x7, .ref x8, .int sd])), (so, .inr (0, [.int (nI (sN R)), .int (nI (R 0 1)), .int (nI (sF R)), .int (nI (sS R)), .int (nI (sL R)), .ref ak, .ref af, .ref ab, .ref aa])), (ak, aI G 10 (sK R)), (af, aI G 10 (sG R)), (ab, aI G 10 (sO R)), (aa, aI G 10 (sA R)), (to, .inr (0, [.int (nI (sN S)), .int (nI m0), .int (nI (sF S)), .int (nI (sS S)), .int (nI (sL S)), .ref tk, .ref tf, .ref tb, .ref ta])), (tk, aI G 10 (sK S)), (tf, aI G 10 (sG S)), (tb, aI G 10 (sO S)), (ta, aI G 10 (sA S)), (x6, aI G 16 (cN rv))]) s [(h0, .inr (1, [.ref so, .ref to, .ref uo, .int (nI im), .ref x5, .int (nI lm), .ref x6, .int (nI rm), .ref x7, .ref x8, .int sd])), (so, .inr (0, [.int (nI (sN R)), .int (nI (R 0 1)), .int (nI (sF R)), .int (nI (sS R)), .int (nI (sL R)), .ref ak, .ref af, .ref ab, .ref aa])), (ak, aI G 10 (sK R)), (af, aI G 10 (sG R)), (ab, aI G 10 (sO R)), (aa, aI G 10 (sA R)), (to, .inr (0, [.int (nI (sN R)), .int (nI (R 0 1)), .int (nI (sF R)), .int (nI (sS R)), .int (nI (sL R)), .ref tk, .ref tf, .ref tb, .ref ta])), (tk, aI G 10 (sK R)), (tf, aI G 10 (sG R)), (tb, aI G 10 (sO R)), (ta, aI G 10 (sA R)), (x6, aI G 16 (cN rv))] H locs := hw
  refine lv_iconst (v := nI 0) xx xb dX1_firstNotSo_11 (by decide) ?_
  refine lv_istore_n (lv' := [(1, .int (nI 0)), (0, .ref h0)]) xx xb dX1_firstNotSo_12 rfl hl (by decide) rfl (fun ls hl => ?_)
  have hw : Wd G (fA [(h0, .inr (1, [.ref so, .ref to, .ref uo, .int (nI im), .ref x5, .int (nI lm), .ref x6, .int (nI rm), .ref x7, .ref x8, .int sd])), (so, .inr (0, [.int (nI (sN R)), .int (nI (R 0 1)), .int (nI (sF R)), .int (nI (sS R)), .int (nI (sL R)), .ref ak, .ref af, .ref ab, .ref aa])), (ak, aI G 10 (sK R)), (af, aI G 10 (sG R)), (ab, aI G 10 (sO R)), (aa, aI G 10 (sA R)), (to, .inr (0, [.int (nI (sN S)), .int (nI m0), .int (nI (sF S)), .int (nI (sS S)), .int (nI (sL S)), .ref tk, .ref tf, .ref tb, .ref ta])), (tk, aI G 10 (sK S)), (tf, aI G 10 (sG S)), (tb, aI G 10 (sO S)), (ta, aI G 10 (sA S)), (x6, aI G 16 (cN rv))]) s [(h0, .inr (1, [.ref so, .ref to, .ref uo, .int (nI im), .ref x5, .int (nI lm), .ref x6, .int (nI rm), .ref x7, .ref x8, .int sd])), (so, .inr (0, [.int (nI (sN R)), .int (nI (R 0 1)), .int (nI (sF R)), .int (nI (sS R)), .int (nI (sL R)), .ref ak, .ref af, .ref ab, .ref aa])), (ak, aI G 10 (sK R)), (af, aI G 10 (sG R)), (ab, aI G 10 (sO R)), (aa, aI G 10 (sA R)), (to, .inr (0, [.int (nI (sN (itF R 0))), .int (nI (R 0 1)), .int (nI (sF (itF R 0))), .int (nI (sS (itF R 0))), .int (nI (sL (itF R 0))), .ref tk, .ref tf, .ref tb, .ref ta])), (tk, aI G 10 (sK (itF R 0))), (tf, aI G 10 (sG (itF R 0))), (tb, aI G 10 (sO (itF R 0))), (ta, aI G 10 (sA (itF R 0))), (x6, aI G 16 (cN rv))] H locs := hw
  have L_13 : ∀ (fu : Nat) (i : Nat) (H : Heap) (locs : List Loc) (ls : Array Slot), rm - i < fu → (i ≤ rm) → (∀ j, j < i → decide (stN (itF R j) ≠ rv j) = false) → Wd G (fA [(h0, .inr (1, [.ref so, .ref to, .ref uo, .int (nI im), .ref x5, .int (nI lm), .ref x6, .int (nI rm), .ref x7, .ref x8, .int sd])), (so, .inr (0, [.int (nI (sN R)), .int (nI (R 0 1)), .int (nI (sF R)), .int (nI (sS R)), .int (nI (sL R)), .ref ak, .ref af, .ref ab, .ref aa])), (ak, aI G 10 (sK R)), (af, aI G 10 (sG R)), (ab, aI G 10 (sO R)), (aa, aI G 10 (sA R)), (to, .inr (0, [.int (nI (sN S)), .int (nI m0), .int (nI (sF S)), .int (nI (sS S)), .int (nI (sL S)), .ref tk, .ref tf, .ref tb, .ref ta])), (tk, aI G 10 (sK S)), (tf, aI G 10 (sG S)), (tb, aI G 10 (sO S)), (ta, aI G 10 (sA S)), (x6, aI G 16 (cN rv))]) s [(h0, .inr (1, [.ref so, .ref to, .ref uo, .int (nI im), .ref x5, .int (nI lm), .ref x6, .int (nI rm), .ref x7, .ref x8, .int sd])), (so, .inr (0, [.int (nI (sN R)), .int (nI (R 0 1)), .int (nI (sF R)), .int (nI (sS R)), .int (nI (sL R)), .ref ak, .ref af, .ref ab, .ref aa])), (ak, aI G 10 (sK R)), (af, aI G 10 (sG R)), (ab, aI G 10 (sO R)), (aa, aI G 10 (sA R)), (to, .inr (0, [.int (nI (sN (itF R i))), .int (nI (R 0 1)), .int (nI (sF (itF R i))), .int (nI (sS (itF R i))), .int (nI (sL (itF R i))), .ref tk, .ref tf, .ref tb, .ref ta])), (tk, aI G 10 (sK (itF R i))), (tf, aI G 10 (sG (itF R i))), (tb, aI G 10 (sO (itF R i))), (ta, aI G 10 (sA (itF R i))), (x6, aI G 16 (cN rv))] H locs → lv_has ls 2 [(0, .ref h0), (1, .int (nI i))] → W p l e ({ frames := 3, cells := 0, slots := 0, locals := 78 }) s m (([.ref h0] : List Value).toArray) below meth c H locs 0 0 (MQ below (QI G [(h0, .inr (1, [.ref so, .ref to, .ref uo, .int (nI im), .ref x5, .int (nI lm), .ref x6, .int (nI rm), .ref x7, .ref x8, .int sd])), (so, .inr (0, [.int (nI (sN R)), .int (nI (R 0 1)), .int (nI (sF R)), .int (nI (sS R)), .int (nI (sL R)), .ref ak, .ref af, .ref ab, .ref aa])), (ak, aI G 10 (sK R)), (af, aI G 10 (sG R)), (ab, aI G 10 (sO R)), (aa, aI G 10 (sA R)), (to, .inr (0, [.int (nI (sN S)), .int (nI m0), .int (nI (sF S)), .int (nI (sS S)), .int (nI (sL S)), .ref tk, .ref tf, .ref tb, .ref ta])), (tk, aI G 10 (sK S)), (tf, aI G 10 (sG S)), (tb, aI G 10 (sO S)), (ta, aI G 10 (sA S)), (x6, aI G 16 (cN rv))] (fun (r : Int32) (u : RT) => r = jdI R rv rm ∧ True) (fun u => [(h0, .inr (1, [.ref so, .ref to, .ref uo, .int (nI im), .ref x5, .int (nI lm), .ref x6, .int (nI rm), .ref x7, .ref x8, .int sd])), (so, .inr (0, [.int (nI (sN R)), .int (nI (R 0 1)), .int (nI (sF R)), .int (nI (sS R)), .int (nI (sL R)), .ref ak, .ref af, .ref ab, .ref aa])), (ak, aI G 10 (sK R)), (af, aI G 10 (sG R)), (ab, aI G 10 (sO R)), (aa, aI G 10 (sA R)), (to, .inr (0, [.int (nI (sN u)), .int (nI (R 0 1)), .int (nI (sF u)), .int (nI (sS u)), .int (nI (sL u)), .ref tk, .ref tf, .ref tb, .ref ta])), (tk, aI G 10 (sK u)), (tf, aI G 10 (sG u)), (tb, aI G 10 (sO u)), (ta, aI G 10 (sA u)), (x6, aI G 16 (cN rv))])) (([.ref h0] : List Value).toArray) s 0 0 (fA [(h0, .inr (1, [.ref so, .ref to, .ref uo, .int (nI im), .ref x5, .int (nI lm), .ref x6, .int (nI rm), .ref x7, .ref x8, .int sd])), (so, .inr (0, [.int (nI (sN R)), .int (nI (R 0 1)), .int (nI (sF R)), .int (nI (sS R)), .int (nI (sL R)), .ref ak, .ref af, .ref ab, .ref aa])), (ak, aI G 10 (sK R)), (af, aI G 10 (sG R)), (ab, aI G 10 (sO R)), (aa, aI G 10 (sA R)), (to, .inr (0, [.int (nI (sN S)), .int (nI m0), .int (nI (sF S)), .int (nI (sS S)), .int (nI (sL S)), .ref tk, .ref tf, .ref tb, .ref ta])), (tk, aI G 10 (sK S)), (tf, aI G 10 (sG S)), (tb, aI G 10 (sO S)), (ta, aI G 10 (sA S)), (x6, aI G 16 (cN rv))])) (F0 m 13 ls []) := by
    intro fu
    induction fu with
    | zero => intro i H locs ls hfu; exact absurd hfu (Nat.not_lt_zero _)
    | succ fu ih_13 =>
      intro i H locs ls hfu hi hP hw hl
      refine lv_iload_n xx xb dX1_firstNotSo_13 rfl (lv_at hl 1 rfl) ?_
      refine lv_aload_n xx xb dX1_firstNotSo_14 rfl (lv_at hl 0 rfl) ?_
      refine m_get C hw 0 rfl fk_X1_208 rfl dX1_firstNotSo_15 ?_
      refine lv_icmp_ge (tgt := 54) xx xb dX1_firstNotSo_18 (by decide) (fun c_18 => ?_) (fun c_18 => ?_)
      · skip
        have c_18 := le_c (tN (by omega)) (tN (by omega)) c_18
        have hj : jdN R rv rm = i := lf_eq _ _ _ (by omega) hP (fun q => absurd q (by omega))
        refine lv_bipush (v := (-9)) xx xb dX1_firstNotSo_54 (by decide) ?_
        exact rt_i C hw (itF R i) (⟨by unfold jdI; rw [hj]; first | (rw [if_pos (by omega)]; done) | (rw [if_neg (by omega)]; done), trivial⟩) rfl dX1_firstNotSo_56
      · skip
        have c_18 := nle_c (tN (by omega)) (tN (by omega)) c_18
        refine lv_aload_n xx xb dX1_firstNotSo_21 rfl (lv_at hl 0 rfl) ?_
        refine m_get C hw 0 rfl fk_X1_26 rfl dX1_firstNotSo_22 ?_
        refine lv_iload_n xx xb dX1_firstNotSo_25 rfl (lv_at hl 1 rfl) ?_
        refine m_ald C hw 11 rfl i rfl (by omega) (by decide) dX1_firstNotSo_26 ?_
        refine re_i (nI (rv i)) rfl ?_
        refine lv_aload_n xx xb dX1_firstNotSo_27 rfl (lv_at hl 0 rfl) ?_
        refine m_get C hw 0 rfl fk_X1_16 rfl dX1_firstNotSo_28 ?_
        have hM := kX0_countStanding l G to tk tf tb ta (R 0 1) (itF R i) (OK_itF hR i)
        refine cv_i C hw hM yvX0_countStanding ml_X1_128 6 rfl rfl rfl [6, 7, 8, 9, 10] rfl rfl (fun _ => (rfl : ([to, tk, tf, tb, ta] : List Nat) = [to, tk, tf, tb, ta])) (by decide) ⟨Nat.zero_le _, Nat.zero_le _⟩ hl.1 rfl (Nat.le_of_ble_eq_true rfl) dX1_firstNotSo_31 (fun r _ H locs hr hw => ?_)
        have hw : Wd G (fA [(h0, .inr (1, [.ref so, .ref to, .ref uo, .int (nI im), .ref x5, .int (nI lm), .ref x6, .int (nI rm), .ref x7, .ref x8, .int sd])), (so, .inr (0, [.int (nI (sN R)), .int (nI (R 0 1)), .int (nI (sF R)), .int (nI (sS R)), .int (nI (sL R)), .ref ak, .ref af, .ref ab, .ref aa])), (ak, aI G 10 (sK R)), (af, aI G 10 (sG R)), (ab, aI G 10 (sO R)), (aa, aI G 10 (sA R)), (to, .inr (0, [.int (nI (sN S)), .int (nI m0), .int (nI (sF S)), .int (nI (sS S)), .int (nI (sL S)), .ref tk, .ref tf, .ref tb, .ref ta])), (tk, aI G 10 (sK S)), (tf, aI G 10 (sG S)), (tb, aI G 10 (sO S)), (ta, aI G 10 (sA S)), (x6, aI G 16 (cN rv))]) s [(h0, .inr (1, [.ref so, .ref to, .ref uo, .int (nI im), .ref x5, .int (nI lm), .ref x6, .int (nI rm), .ref x7, .ref x8, .int sd])), (so, .inr (0, [.int (nI (sN R)), .int (nI (R 0 1)), .int (nI (sF R)), .int (nI (sS R)), .int (nI (sL R)), .ref ak, .ref af, .ref ab, .ref aa])), (ak, aI G 10 (sK R)), (af, aI G 10 (sG R)), (ab, aI G 10 (sO R)), (aa, aI G 10 (sA R)), (to, .inr (0, [.int (nI (sN (itF R i))), .int (nI (R 0 1)), .int (nI (sF (itF R i))), .int (nI (sS (itF R i))), .int (nI (sL (itF R i))), .ref tk, .ref tf, .ref tb, .ref ta])), (tk, aI G 10 (sK (itF R i))), (tf, aI G 10 (sG (itF R i))), (tb, aI G 10 (sO (itF R i))), (ta, aI G 10 (sA (itF R i))), (x6, aI G 16 (cN rv))] H locs := hw
        subst hr
        have hr9 := hrv i (by omega)
        have hs9 := stN_le (itF R i) (by rw [itF_00]; exact hn)
        refine lv_icmp_eq (tgt := 39) xx xb dX1_firstNotSo_34 (by decide) (fun c_34 => ?_) (fun c_34 => ?_)
        · skip
          have c_34 := eq_c (tN (by omega)) (tN (by omega)) c_34
          have hP2 : ∀ j, j < i + 1 → decide (stN (itF R j) ≠ rv j) = false := fun j hj => by
            by_cases hj2 : j < i
            · exact hP j hj2
            · have e : j = i := (by omega)
              rw [e, decide_eq_false_iff_not]; omega
          refine lv_aload_n xx xb dX1_firstNotSo_39 rfl (lv_at hl 0 rfl) ?_
          refine m_get C hw 0 rfl fk_X1_16 rfl dX1_firstNotSo_40 ?_
          refine lv_iconst (v := nI 0) xx xb dX1_firstNotSo_43 (by decide) ?_
          have hM := kX0_passMinute l G to tk tf tb ta (R 0 1) (itF R i) 0 (OK_itF hR i) (AK_itF hR hK i) (it03 hp i) (by first | assumption | omega)
          refine cv_i C hw hM yvX0_passMinute ml_X1_296 6 rfl rfl rfl [6, 7, 8, 9, 10] rfl rfl (fun _ => (rfl : ([to, tk, tf, tb, ta] : List Nat) = [to, tk, tf, tb, ta])) (by decide) ⟨Nat.zero_le _, Nat.zero_le _⟩ hl.1 rfl (Nat.le_of_ble_eq_true rfl) dX1_firstNotSo_44 (fun r _ H locs hr hw => ?_)
          have hw : Wd G (fA [(h0, .inr (1, [.ref so, .ref to, .ref uo, .int (nI im), .ref x5, .int (nI lm), .ref x6, .int (nI rm), .ref x7, .ref x8, .int sd])), (so, .inr (0, [.int (nI (sN R)), .int (nI (R 0 1)), .int (nI (sF R)), .int (nI (sS R)), .int (nI (sL R)), .ref ak, .ref af, .ref ab, .ref aa])), (ak, aI G 10 (sK R)), (af, aI G 10 (sG R)), (ab, aI G 10 (sO R)), (aa, aI G 10 (sA R)), (to, .inr (0, [.int (nI (sN S)), .int (nI m0), .int (nI (sF S)), .int (nI (sS S)), .int (nI (sL S)), .ref tk, .ref tf, .ref tb, .ref ta])), (tk, aI G 10 (sK S)), (tf, aI G 10 (sG S)), (tb, aI G 10 (sO S)), (ta, aI G 10 (sA S)), (x6, aI G 16 (cN rv))]) s [(h0, .inr (1, [.ref so, .ref to, .ref uo, .int (nI im), .ref x5, .int (nI lm), .ref x6, .int (nI rm), .ref x7, .ref x8, .int sd])), (so, .inr (0, [.int (nI (sN R)), .int (nI (R 0 1)), .int (nI (sF R)), .int (nI (sS R)), .int (nI (sL R)), .ref ak, .ref af, .ref ab, .ref aa])), (ak, aI G 10 (sK R)), (af, aI G 10 (sG R)), (ab, aI G 10 (sO R)), (aa, aI G 10 (sA R)), (to, .inr (0, [.int (nI (sN (miF (itF R i) 0))), .int (nI (R 0 1)), .int (nI (sF (miF (itF R i) 0))), .int (nI (sS (miF (itF R i) 0))), .int (nI (sL (miF (itF R i) 0))), .ref tk, .ref tf, .ref tb, .ref ta])), (tk, aI G 10 (sK (miF (itF R i) 0))), (tf, aI G 10 (sG (miF (itF R i) 0))), (tb, aI G 10 (sO (miF (itF R i) 0))), (ta, aI G 10 (sA (miF (itF R i) 0))), (x6, aI G 16 (cN rv))] H locs := hw
          subst hr
          refine lv_pop xx xb dX1_firstNotSo_47 rfl ?_
          have hw : Wd G (fA [(h0, .inr (1, [.ref so, .ref to, .ref uo, .int (nI im), .ref x5, .int (nI lm), .ref x6, .int (nI rm), .ref x7, .ref x8, .int sd])), (so, .inr (0, [.int (nI (sN R)), .int (nI (R 0 1)), .int (nI (sF R)), .int (nI (sS R)), .int (nI (sL R)), .ref ak, .ref af, .ref ab, .ref aa])), (ak, aI G 10 (sK R)), (af, aI G 10 (sG R)), (ab, aI G 10 (sO R)), (aa, aI G 10 (sA R)), (to, .inr (0, [.int (nI (sN S)), .int (nI m0), .int (nI (sF S)), .int (nI (sS S)), .int (nI (sL S)), .ref tk, .ref tf, .ref tb, .ref ta])), (tk, aI G 10 (sK S)), (tf, aI G 10 (sG S)), (tb, aI G 10 (sO S)), (ta, aI G 10 (sA S)), (x6, aI G 16 (cN rv))]) s [(h0, .inr (1, [.ref so, .ref to, .ref uo, .int (nI im), .ref x5, .int (nI lm), .ref x6, .int (nI rm), .ref x7, .ref x8, .int sd])), (so, .inr (0, [.int (nI (sN R)), .int (nI (R 0 1)), .int (nI (sF R)), .int (nI (sS R)), .int (nI (sL R)), .ref ak, .ref af, .ref ab, .ref aa])), (ak, aI G 10 (sK R)), (af, aI G 10 (sG R)), (ab, aI G 10 (sO R)), (aa, aI G 10 (sA R)), (to, .inr (0, [.int (nI (sN (itF R (i + 1)))), .int (nI (R 0 1)), .int (nI (sF (itF R (i + 1)))), .int (nI (sS (itF R (i + 1)))), .int (nI (sL (itF R (i + 1)))), .ref tk, .ref tf, .ref tb, .ref ta])), (tk, aI G 10 (sK (itF R (i + 1)))), (tf, aI G 10 (sG (itF R (i + 1)))), (tb, aI G 10 (sO (itF R (i + 1)))), (ta, aI G 10 (sA (itF R (i + 1)))), (x6, aI G 16 (cN rv))] H locs := hw
          refine lv_iinc (v := nI (i + 1)) (lv' := [(1, .int (nI (i + 1))), (0, .ref h0)]) xx xb dX1_firstNotSo_48 hl (k := 1) rfl (nI_add _ 1) (by decide) rfl (fun ls hl => ?_)
          refine lv_goto (tgt := 13) xx xb dX1_firstNotSo_51 (by decide) ?_
          exact ih_13 (i + 1) H _ ls (by omega) (by omega) hP2 hw (lv_sub hl [1, 0] rfl)
        · skip
          have c_34 := ne_c (tN (by omega)) (tN (by omega)) c_34
          refine lv_iload_n xx xb dX1_firstNotSo_37 rfl (lv_at hl 1 rfl) ?_
          have hj : jdN R rv rm = i := lf_eq _ _ _ (by omega) hP (fun _ => by rw [decide_eq_true_eq]; omega)
          exact rt_i C hw (itF R i) (⟨by unfold jdI; rw [hj]; first | (rw [if_pos (by omega)]; done) | (rw [if_neg (by omega)]; done), trivial⟩) rfl dX1_firstNotSo_38
  exact L_13 (_ + 1) 0 H _ ls (Nat.lt_succ_self _) (by omega) (fun j hj => absurd hj (Nat.not_lt_zero _)) hw (lv_sub hl [1, 0] rfl)
set_option maxRecDepth 100000 in
set_option maxHeartbeats 4000000 in
theorem kX1_judge (l : Launch) (G : GT) (h0 : Nat) (so : Nat) (to : Nat) (uo : Nat) (x5 : Nat) (x6 : Nat) (x7 : Nat) (x8 : Nat) (im : Nat) (lm : Nat) (rm : Nat) (sd : Int32) (ak : Nat) (af : Nat) (ab : Nat) (aa : Nat) (R : RT) (tk : Nat) (tf : Nat) (tb : Nat) (ta : Nat) (m0 : Nat) (S : RT) (rv : Nat → Nat) (hR : OK R) (hK : AK R) (hp : R 0 3 = 0) (hrm : rm ≤ 16) (hrv : ∀ k, k < rm → rv k ≤ 99) : Ct l yX1_judge cX1_judge 2 (some .int) 4 99 [.ref h0] G [(h0, .inr (1, [.ref so, .ref to, .ref uo, .int (nI im), .ref x5, .int (nI lm), .ref x6, .int (nI rm), .ref x7, .ref x8, .int sd])), (so, .inr (0, [.int (nI (sN R)), .int (nI (R 0 1)), .int (nI (sF R)), .int (nI (sS R)), .int (nI (sL R)), .ref ak, .ref af, .ref ab, .ref aa])), (ak, aI G 10 (sK R)), (af, aI G 10 (sG R)), (ab, aI G 10 (sO R)), (aa, aI G 10 (sA R)), (to, .inr (0, [.int (nI (sN S)), .int (nI m0), .int (nI (sF S)), .int (nI (sS S)), .int (nI (sL S)), .ref tk, .ref tf, .ref tb, .ref ta])), (tk, aI G 10 (sK S)), (tf, aI G 10 (sG S)), (tb, aI G 10 (sO S)), (ta, aI G 10 (sA S)), (x6, aI G 16 (cN rv))] (QI G [(h0, .inr (1, [.ref so, .ref to, .ref uo, .int (nI im), .ref x5, .int (nI lm), .ref x6, .int (nI rm), .ref x7, .ref x8, .int sd])), (so, .inr (0, [.int (nI (sN R)), .int (nI (R 0 1)), .int (nI (sF R)), .int (nI (sS R)), .int (nI (sL R)), .ref ak, .ref af, .ref ab, .ref aa])), (ak, aI G 10 (sK R)), (af, aI G 10 (sG R)), (ab, aI G 10 (sO R)), (aa, aI G 10 (sA R)), (to, .inr (0, [.int (nI (sN S)), .int (nI m0), .int (nI (sF S)), .int (nI (sS S)), .int (nI (sL S)), .ref tk, .ref tf, .ref tb, .ref ta])), (tk, aI G 10 (sK S)), (tf, aI G 10 (sG S)), (tb, aI G 10 (sO S)), (ta, aI G 10 (sA S)), (x6, aI G 16 (cN rv))] (fun (r : Int32) (u : RT) => r = jdI R rv rm) (fun u => [(h0, .inr (1, [.ref so, .ref to, .ref uo, .int (nI im), .ref x5, .int (nI lm), .ref x6, .int (nI 0), .ref x7, .ref x8, .int sd])), (so, .inr (0, [.int (nI (sN R)), .int (nI (R 0 1)), .int (nI (sF R)), .int (nI (sS R)), .int (nI (sL R)), .ref ak, .ref af, .ref ab, .ref aa])), (ak, aI G 10 (sK R)), (af, aI G 10 (sG R)), (ab, aI G 10 (sO R)), (aa, aI G 10 (sA R)), (to, .inr (0, [.int (nI (sN u)), .int (nI (R 0 1)), .int (nI (sF u)), .int (nI (sS u)), .int (nI (sL u)), .ref tk, .ref tf, .ref tb, .ref ta])), (tk, aI G 10 (sK u)), (tf, aI G 10 (sG u)), (tb, aI G 10 (sO u)), (ta, aI G 10 (sA u)), (x6, aI G 16 (cN rv))])) := by
  refine en (by decide +kernel) (Nat.le_of_ble_eq_true rfl) ?_
  intro p e s m below meth c ls H locs C hl hw
  have xx := C.1
  have xb := C.2.1
  have hw : Wd G (fA [(h0, .inr (1, [.ref so, .ref to, .ref uo, .int (nI im), .ref x5, .int (nI lm), .ref x6, .int (nI rm), .ref x7, .ref x8, .int sd])), (so, .inr (0, [.int (nI (sN R)), .int (nI (R 0 1)), .int (nI (sF R)), .int (nI (sS R)), .int (nI (sL R)), .ref ak, .ref af, .ref ab, .ref aa])), (ak, aI G 10 (sK R)), (af, aI G 10 (sG R)), (ab, aI G 10 (sO R)), (aa, aI G 10 (sA R)), (to, .inr (0, [.int (nI (sN S)), .int (nI m0), .int (nI (sF S)), .int (nI (sS S)), .int (nI (sL S)), .ref tk, .ref tf, .ref tb, .ref ta])), (tk, aI G 10 (sK S)), (tf, aI G 10 (sG S)), (tb, aI G 10 (sO S)), (ta, aI G 10 (sA S)), (x6, aI G 16 (cN rv))]) s [(h0, .inr (1, [.ref so, .ref to, .ref uo, .int (nI im), .ref x5, .int (nI lm), .ref x6, .int (nI rm), .ref x7, .ref x8, .int sd])), (so, .inr (0, [.int (nI (sN R)), .int (nI (R 0 1)), .int (nI (sF R)), .int (nI (sS R)), .int (nI (sL R)), .ref ak, .ref af, .ref ab, .ref aa])), (ak, aI G 10 (sK R)), (af, aI G 10 (sG R)), (ab, aI G 10 (sO R)), (aa, aI G 10 (sA R)), (to, .inr (0, [.int (nI (sN S)), .int (nI m0), .int (nI (sF S)), .int (nI (sS S)), .int (nI (sL S)), .ref tk, .ref tf, .ref tb, .ref ta])), (tk, aI G 10 (sK S)), (tf, aI G 10 (sG S)), (tb, aI G 10 (sO S)), (ta, aI G 10 (sA S)), (x6, aI G 16 (cN rv))] H locs := hw
  have hl : lv_has ls 2 [(0, .ref h0)] := hl
  obtain ⟨hn, hf0, hpr, hA⟩ := id hR
  refine lv_aload_n xx xb dX1_judge_0 rfl (lv_at hl 0 rfl) ?_
  have hM := kX1_firstNotSo l G h0 so to uo x5 x6 x7 x8 im lm rm sd ak af ab aa R tk tf tb ta m0 S rv (by first | assumption | omega) (by first | assumption | omega) (by first | assumption | omega) (by first | assumption | omega) (by first | assumption | omega)
  refine cv_i C hw hM yvX1_firstNotSo ml_X1_217 0 rfl rfl rfl [0, 1, 2, 3, 4, 5, 6, 7, 8, 9, 10, 11] rfl rfl (fun _ => (rfl : ([h0, so, ak, af, ab, aa, to, tk, tf, tb, ta, x6] : List Nat) = [h0, so, ak, af, ab, aa, to, tk, tf, tb, ta, x6])) (by decide) ⟨Nat.zero_le _, Nat.zero_le _⟩ hl.1 rfl (Nat.le_of_ble_eq_true rfl) dX1_judge_1 (fun r u H locs hr hw => ?_)
  obtain ⟨u1, hu1⟩ : ∃ z, z = u := ⟨_, rfl⟩
  subst hu1
  have hw : Wd G (fA [(h0, .inr (1, [.ref so, .ref to, .ref uo, .int (nI im), .ref x5, .int (nI lm), .ref x6, .int (nI rm), .ref x7, .ref x8, .int sd])), (so, .inr (0, [.int (nI (sN R)), .int (nI (R 0 1)), .int (nI (sF R)), .int (nI (sS R)), .int (nI (sL R)), .ref ak, .ref af, .ref ab, .ref aa])), (ak, aI G 10 (sK R)), (af, aI G 10 (sG R)), (ab, aI G 10 (sO R)), (aa, aI G 10 (sA R)), (to, .inr (0, [.int (nI (sN S)), .int (nI m0), .int (nI (sF S)), .int (nI (sS S)), .int (nI (sL S)), .ref tk, .ref tf, .ref tb, .ref ta])), (tk, aI G 10 (sK S)), (tf, aI G 10 (sG S)), (tb, aI G 10 (sO S)), (ta, aI G 10 (sA S)), (x6, aI G 16 (cN rv))]) s [(h0, .inr (1, [.ref so, .ref to, .ref uo, .int (nI im), .ref x5, .int (nI lm), .ref x6, .int (nI rm), .ref x7, .ref x8, .int sd])), (so, .inr (0, [.int (nI (sN R)), .int (nI (R 0 1)), .int (nI (sF R)), .int (nI (sS R)), .int (nI (sL R)), .ref ak, .ref af, .ref ab, .ref aa])), (ak, aI G 10 (sK R)), (af, aI G 10 (sG R)), (ab, aI G 10 (sO R)), (aa, aI G 10 (sA R)), (to, .inr (0, [.int (nI (sN u1)), .int (nI (R 0 1)), .int (nI (sF u1)), .int (nI (sS u1)), .int (nI (sL u1)), .ref tk, .ref tf, .ref tb, .ref ta])), (tk, aI G 10 (sK u1)), (tf, aI G 10 (sG u1)), (tb, aI G 10 (sO u1)), (ta, aI G 10 (sA u1)), (x6, aI G 16 (cN rv))] H locs := hw
  obtain ⟨hr, hq1⟩ := hr
  subst hr
  refine lv_istore_n (lv' := [(1, .int (jdI R rv rm)), (0, .ref h0)]) xx xb dX1_judge_4 rfl hl (by decide) rfl (fun ls hl => ?_)
  refine lv_aload_n xx xb dX1_judge_5 rfl (lv_at hl 1 rfl) ?_
  refine lv_iconst (v := nI 0) xx xb dX1_judge_6 (by decide) ?_
  refine m_put C hw 0 rfl rfl tyX1 tyX1_ok nmX1 fk_X1_208 rfl rfl rfl rfl (Nat.le_of_ble_eq_true rfl) dX1_judge_7 (fun H locs hw => ?_)
  have hw : Wd G (fA [(h0, .inr (1, [.ref so, .ref to, .ref uo, .int (nI im), .ref x5, .int (nI lm), .ref x6, .int (nI rm), .ref x7, .ref x8, .int sd])), (so, .inr (0, [.int (nI (sN R)), .int (nI (R 0 1)), .int (nI (sF R)), .int (nI (sS R)), .int (nI (sL R)), .ref ak, .ref af, .ref ab, .ref aa])), (ak, aI G 10 (sK R)), (af, aI G 10 (sG R)), (ab, aI G 10 (sO R)), (aa, aI G 10 (sA R)), (to, .inr (0, [.int (nI (sN S)), .int (nI m0), .int (nI (sF S)), .int (nI (sS S)), .int (nI (sL S)), .ref tk, .ref tf, .ref tb, .ref ta])), (tk, aI G 10 (sK S)), (tf, aI G 10 (sG S)), (tb, aI G 10 (sO S)), (ta, aI G 10 (sA S)), (x6, aI G 16 (cN rv))]) s [(h0, .inr (1, [.ref so, .ref to, .ref uo, .int (nI im), .ref x5, .int (nI lm), .ref x6, .int (nI 0), .ref x7, .ref x8, .int sd])), (so, .inr (0, [.int (nI (sN R)), .int (nI (R 0 1)), .int (nI (sF R)), .int (nI (sS R)), .int (nI (sL R)), .ref ak, .ref af, .ref ab, .ref aa])), (ak, aI G 10 (sK R)), (af, aI G 10 (sG R)), (ab, aI G 10 (sO R)), (aa, aI G 10 (sA R)), (to, .inr (0, [.int (nI (sN u1)), .int (nI (R 0 1)), .int (nI (sF u1)), .int (nI (sS u1)), .int (nI (sL u1)), .ref tk, .ref tf, .ref tb, .ref ta])), (tk, aI G 10 (sK u1)), (tf, aI G 10 (sG u1)), (tb, aI G 10 (sO u1)), (ta, aI G 10 (sA u1)), (x6, aI G 16 (cN rv))] H locs := hw
  refine lv_iload_n xx xb dX1_judge_10 rfl (lv_at hl 0 rfl) ?_
  exact rt_i C hw u1 rfl rfl dX1_judge_11
set_option maxRecDepth 100000 in
set_option maxHeartbeats 4000000 in
theorem kX1_clear (l : Launch) (G : GT) (h0 : Nat) (so : Nat) (to : Nat) (uo : Nat) (x5 : Nat) (x6 : Nat) (x7 : Nat) (x8 : Nat) (im : Nat) (lm : Nat) (rm : Nat) (sd : Int32)  : Ct l yX1_clear cX1_clear 2 (some .int) 0 0 [.ref h0] G [(h0, .inr (1, [.ref so, .ref to, .ref uo, .int (nI im), .ref x5, .int (nI lm), .ref x6, .int (nI rm), .ref x7, .ref x8, .int sd]))] (QI G [(h0, .inr (1, [.ref so, .ref to, .ref uo, .int (nI im), .ref x5, .int (nI lm), .ref x6, .int (nI rm), .ref x7, .ref x8, .int sd]))] (fun (r : Int32) (u : Unit) => r = nI rm) (fun u => [(h0, .inr (1, [.ref so, .ref to, .ref uo, .int (nI im), .ref x5, .int (nI lm), .ref x6, .int (nI 0), .ref x7, .ref x8, .int sd]))])) := by
  refine en (by decide +kernel) (Nat.le_of_ble_eq_true rfl) ?_
  intro p e s m below meth c ls H locs C hl hw
  have xx := C.1
  have xb := C.2.1
  have hw : Wd G (fA [(h0, .inr (1, [.ref so, .ref to, .ref uo, .int (nI im), .ref x5, .int (nI lm), .ref x6, .int (nI rm), .ref x7, .ref x8, .int sd]))]) s [(h0, .inr (1, [.ref so, .ref to, .ref uo, .int (nI im), .ref x5, .int (nI lm), .ref x6, .int (nI rm), .ref x7, .ref x8, .int sd]))] H locs := hw
  have hl : lv_has ls 2 [(0, .ref h0)] := hl
  refine lv_aload_n xx xb dX1_clear_0 rfl (lv_at hl 0 rfl) ?_
  refine m_get C hw 0 rfl fk_X1_208 rfl dX1_clear_1 ?_
  refine lv_istore_n (lv' := [(1, .int (nI rm)), (0, .ref h0)]) xx xb dX1_clear_4 rfl hl (by decide) rfl (fun ls hl => ?_)
  refine lv_aload_n xx xb dX1_clear_5 rfl (lv_at hl 1 rfl) ?_
  refine lv_iconst (v := nI 0) xx xb dX1_clear_6 (by decide) ?_
  refine m_put C hw 0 rfl rfl tyX1 tyX1_ok nmX1 fk_X1_208 rfl rfl rfl rfl (Nat.le_of_ble_eq_true rfl) dX1_clear_7 (fun H locs hw => ?_)
  have hw : Wd G (fA [(h0, .inr (1, [.ref so, .ref to, .ref uo, .int (nI im), .ref x5, .int (nI lm), .ref x6, .int (nI rm), .ref x7, .ref x8, .int sd]))]) s [(h0, .inr (1, [.ref so, .ref to, .ref uo, .int (nI im), .ref x5, .int (nI lm), .ref x6, .int (nI 0), .ref x7, .ref x8, .int sd]))] H locs := hw
  refine lv_iload_n xx xb dX1_clear_10 rfl (lv_at hl 0 rfl) ?_
  exact rt_i C hw () rfl rfl dX1_clear_11
