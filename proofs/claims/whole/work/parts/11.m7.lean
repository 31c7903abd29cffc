-- ===== the answers, as numbers =====
def anI (j : Nat) (v : Int32) : Int32 := if j = 0 then v else nG j
def rfU (rf : Nat → Nat) (j : Nat) : Nat → Nat := if j = 0 then rf else upN rf j (rf j + 1)
def selR (j : Nat) (R1 R : RT) : RT := if j = 0 then R1 else R
def selN (j : Nat) (a b : Nat) : Nat := if j = 0 then a else b
def selF (j : Nat) (f g : Nat → Nat) : Nat → Nat := if j = 0 then f else g
theorem anI_0 {c : Nat} (h : c = 0) (v : Int32) : anI c v = v := if_pos h
theorem anI_r {c j : Nat} (h : c = j) (hj : j ≠ 0) (v : Int32) : anI c v = nG j := by subst h; exact if_neg hj
theorem rfU_0 {c : Nat} (h : c = 0) {rf : Nat → Nat} : rfU rf c = rf := if_pos h
theorem rfU_r {c j : Nat} (h : c = j) (hj : j ≠ 0) {rf : Nat → Nat} : rfU rf c = upN rf j (rf j + 1) := by subst h; exact if_neg hj
theorem selR_0 {c : Nat} (h : c = 0) {a b : RT} : selR c a b = a := if_pos h
theorem selR_r {c j : Nat} (h : c = j) (hj : j ≠ 0) {a b : RT} : selR c a b = b := by subst h; exact if_neg hj
theorem selN_0 {c : Nat} (h : c = 0) {a b : Nat} : selN c a b = a := if_pos h
theorem selN_r {c j : Nat} (h : c = j) (hj : j ≠ 0) {a b : Nat} : selN c a b = b := by subst h; exact if_neg hj
theorem selF_0 {c : Nat} (h : c = 0) {a b : Nat → Nat} : selF c a b = a := if_pos h
theorem selF_r {c j : Nat} (h : c = j) (hj : j ≠ 0) {a b : Nat → Nat} : selF c a b = b := by subst h; exact if_neg hj
theorem wpN_le (R : RT) (x v : Int) : wpN R x v ≤ 6 := by
  unfold wpN
  have := wbN_le v 9
  repeat' split
  all_goals omega
theorem wpN_0 {R : RT} {x v : Int} (h : wpN R x v = 0) : (0 ≤ x ∧ x < ((R 0 0 : Nat) : Int)) ∧ (0 ≤ v ∧ v ≤ 9) ∧ R 4 x.toNat = 0 := by
  unfold wpN at h
  by_cases h1 : 0 ≤ x ∧ x < ((R 0 0 : Nat) : Int)
  · rw [if_pos h1] at h
    by_cases h2 : wbN v 9 ≠ 0
    · rw [if_pos h2] at h; exact absurd h h2
    · rw [if_neg h2] at h
      refine ⟨h1, wbN_0 (by omega), ?_⟩
      by_cases h3 : R 4 x.toNat = 0
      · exact h3
      · rw [if_neg h3] at h; omega
  · rw [if_neg h1] at h; omega
def cLetter (c : Int) (lm : Nat) : Nat := if c < 0 then 4 else if 255 < c ∨ lm = 96 then 6 else 0
def cFloor (R : RT) (v : Int) : Nat := if wbN v 9 ≠ 0 then wbN v 9 else if R 0 2 = 0 then 3 else 0
def cLays (R : RT) : Nat := if R 0 2 = 1 then 3 else 0
def flP (R : RT) : Nat → Bool := fun a => decide (R 4 a = 0) && decide (R 3 a = 10)
theorem flP_t {R : RT} {a : Nat} (h : R 4 a = 0) (h2 : R 3 a = 10) : flP R a = true := by simp [flP, h, h2]
theorem flP_f {R : RT} {a : Nat} (h : ¬ (R 4 a = 0 ∧ R 3 a = 10)) : flP R a = false := by
  cases hb : flP R a with
  | false => rfl
  | true =>
    simp only [flP, Bool.and_eq_true, decide_eq_true_eq] at hb
    exact absurd hb h
def cSets (R : RT) (x : Int) : Nat := if 0 ≤ x ∧ x < ((R 0 0 : Nat) : Int) then (if R 4 x.toNat = 1 then 0 else 3) else 1
/-- set up again -/
def setU (R : RT) (k : Nat) : RT := upR (upR R 4 k 0) 5 k 0
theorem setU_s {R : RT} {k : Nat} : setU R k 4 k = 0 := by unfold setU; rw [upR_n (by omega), upR_s]
theorem OK_setU {R : RT} (k : Nat) (h : OK R) : OK (setU R k) := by
  refine OK_how (R := R) (fun i hi j _ => by unfold setU; rw [upR_n (by omega), upR_n (by omega)]) h.2.1 (fun a ha => ?_) h
  have h4 := (h.2.2.2 a ha).2.2.2.2
  unfold setU
  rw [upR_n (by omega)]
  unfold upR
  split
  · omega
  · exact h4
def cTurn (R : RT) (x k f : Int) : Nat := if 0 ≤ x ∧ x < ((R 0 0 : Nat) : Int) then (if 0 ≤ k ∧ k ≤ 5 then wbN f 9 else 2) else 1
def turF (R : RT) (a k f : Nat) : RT := upR (upR R 1 a k) 2 a f
def cMins (R : RT) (n : Int) : Nat := if n < 1 then 4 else if 60 < n ∨ 999 < ((R 0 1 : Nat) : Int) + n then 6 else 0
def cBeh (R : RT) (x n w : Int) : Nat := if 0 ≤ x ∧ x < ((R 0 0 : Nat) : Int) then (if wbN n 99 ≠ 0 then wbN n 99 else if 0 ≤ w ∧ w ≤ 2 then 0 else 2) else 1
def vBeh (R : RT) (k n : Nat) (w : Int) : Int32 := if w = 0 then nI (itF R n 4 k) else if w = 1 then nI (itF R n 5 k) else nI (stN (itF R n))
def cThg (R : RT) (x : Int) : Nat := if 0 ≤ x ∧ x < ((R 0 0 : Nat) : Int) then 0 else 1
def cThing (R : RT) (x w : Int) : Nat := if 0 ≤ x ∧ x < ((R 0 0 : Nat) : Int) then (if 0 ≤ w ∧ w ≤ 7 then 0 else 2) else 1
/-- whether somebody else LIES -/
def slX (R : RT) (k : Nat) : Bool := decide (anN (setF R 1) (2 ^ k) ≠ 0)
def vThing (R : RT) (k : Nat) (w : Int) : Int32 := if w = 0 then nI (R 1 k) else if w = 1 then nI (R 2 k) else if w = 2 then onI (R 3 k) else if w = 3 then nI (R 4 k) else if w = 4 then nI (R 5 k) else if w = 5 then nI (habF R k (slX R k)) else if w = 6 then nI (gripF R k) else (if R 4 k = 0 ∧ heldF R k = true then 1 else 0)
theorem ct_t {P : Nat → Bool} {n : Nat} (h : P n = true) : ct P n + 1 = ct P (n + 1) := by show ct P n + 1 = ct P n + (if P n = true then 1 else 0); rw [if_pos h]
theorem ct_f {P : Nat → Bool} {n : Nat} (h : P n = false) : ct P n + 0 = ct P (n + 1) := by show ct P n + 0 = ct P n + (if P n = true then 1 else 0); rw [h]; rfl
theorem thing_fl {R : RT} {k : Nat} {w : Int} (h : 0 ≤ w ∧ w ≤ 4) : fl R (4 + 5 * k + w.toNat) = vThing R k w := by
  have e : w = 0 ∨ w = 1 ∨ w = 2 ∨ w = 3 ∨ w = 4 := by omega
  rcases e with e | e | e | e | e <;> subst e
  · exact fl_k R (by decide) (by decide)
  · exact fl_k R (by decide) (by decide)
  · exact fl_on R k
  · exact fl_k R (by decide) (by decide)
  · exact fl_k R (by decide) (by decide)
theorem itF_n (R : RT) : ∀ (n i j : Nat), i ≤ 3 → (i = 0 → j ≠ 1) → itF R n i j = R i j
  | 0, _, _, _, _ => rfl
  | n + 1, i, j, h, h2 => by
    show minF (bmp (itF R n)) 0 i j = R i j
    unfold minF
    rw [if_neg (by omega), if_neg (by omega)]
    unfold bmp
    rw [upR_n (by omega)]
    exact itF_n R n i j h h2
set_option maxRecDepth 100000 in
set_option maxHeartbeats 4000000 in
theorem kX2_letter (l : Launch) (G : GT) (h0 : Nat) (a1 : Nat) (a2 : Nat) (a3 : Nat) (a4 : Nat) (a5 : Nat) (a6 : Nat) (a7 : Nat) (a8 : Nat) (im : Nat) (lm : Nat) (rm : Nat) (pl : Nat) (sd : Int32) (rf : Nat → Nat) (lf2 : Nat → Nat) (ch : Int32) (chz : Int) (h_ch : ch.toInt = chz) (hlm : lm ≤ 96) : Ct l yX2_letter cX2_letter 2 (some .int) 1 21 [.ref h0, .int ch] G [(h0, .inr (2, [.ref a1, .ref a2, .ref a3, .ref a4, .int (nI im), .ref a5, .ref a6, .ref a7, .int (nI lm), .int (nI rm), .int (nI pl), .ref a8, .int sd])), (a5, aI G 96 (cN lf2)), (a7, aI G 7 (cN rf))] (QI G [(h0, .inr (2, [.ref a1, .ref a2, .ref a3, .ref a4, .int (nI im), .ref a5, .ref a6, .ref a7, .int (nI lm), .int (nI rm), .int (nI pl), .ref a8, .int sd])), (a5, aI G 96 (cN lf2)), (a7, aI G 7 (cN rf))] (fun (r : Int32) (u : Unit) => r = anI (cLetter chz lm) (nI (lm + 1))) (fun u => [(h0, .inr (2, [.ref a1, .ref a2, .ref a3, .ref a4, .int (nI im), .ref a5, .ref a6, .ref a7, .int (nI (selN (cLetter chz lm) (lm + 1) lm)), .int (nI rm), .int (nI pl), .ref a8, .int sd])), (a5, aI G 96 (cN (selF (cLetter chz lm) (upN lf2 lm chz.toNat) lf2))), (a7, aI G 7 (cN (rfU rf (cLetter chz lm))))])) := by
  refine en (by decide +kernel) (Nat.le_of_ble_eq_true rfl) ?_
  intro p e s m below meth c ls H locs C hl hw
  have xx := C.1
  have xb := C.2.1
  have hw : Wd G (fA [(h0, .inr (2, [.ref a1, .ref a2, .ref a3, .ref a4, .int (nI im), .ref a5, .ref a6, .ref a7, .int (nI lm), .int (nI rm), .int (nI pl), .ref a8, .int sd])), (a5, aI G 96 (cN lf2)), (a7, aI G 7 (cN rf))]) s [(h0, .inr (2, [.ref a1, .ref a2, .ref a3, .ref a4, .int (nI im), .ref a5, .ref a6, .ref a7, .int (nI lm), .int (nI rm), .int (nI pl), .ref a8, .int sd])), (a5, aI G 96 (cN lf2)), (a7, aI G 7 (cN rf))] H locs := hw
  have hl : lv_has ls 2 [(0, .ref h0), (1, .int ch)] := hl
  refine lv_iload_n xx xb dX2_letter_0 rfl (lv_at hl 1 rfl) ?_
  refine lv_if_ge (tgt := 11) xx xb dX2_letter_1 (by decide) (fun c_1 => ?_) (fun c_1 => ?_)
  · skip
    have c_1 := le_c Int32.toInt_zero h_ch c_1
    refine lv_iload_n xx xb dX2_letter_11 rfl (lv_at hl 1 rfl) ?_
    refine lv_sipush (v := nI 255) xx xb dX2_letter_12 (by decide) ?_
    refine lv_icmp_gt (tgt := 27) xx xb dX2_letter_15 (by decide) (fun c_15 => ?_) (fun c_15 => ?_)
    · skip
      have c_15 := lt_c (tN (by omega)) h_ch c_15
      refine lv_aload_n xx xb dX2_letter_27 rfl (lv_at hl 0 rfl) ?_
      refine lv_bipush (v := (-6)) xx xb dX2_letter_28 (by decide) ?_
      have hM := kX2_no l G h0 a1 a2 a3 a4 a5 a6 a7 a8 im lm rm pl sd rf 6 (by first | assumption | omega)
      refine cv_i C hw hM yvX2_no ml_X2_36 0 rfl rfl rfl [0, 2] rfl rfl (fun _ => (rfl : ([h0, a7] : List Nat) = [h0, a7])) (by decide) ⟨Nat.zero_le _, Nat.zero_le _⟩ hl.1 rfl (Nat.le_of_ble_eq_true rfl) dX2_letter_30 (fun r _ H locs hr hw => ?_)
      have hw : Wd G (fA [(h0, .inr (2, [.ref a1, .ref a2, .ref a3, .ref a4, .int (nI im), .ref a5, .ref a6, .ref a7, .int (nI lm), .int (nI rm), .int (nI pl), .ref a8, .int sd])), (a5, aI G 96 (cN lf2)), (a7, aI G 7 (cN rf))]) s [(h0, .inr (2, [.ref a1, .ref a2, .ref a3, .ref a4, .int (nI im), .ref a5, .ref a6, .ref a7, .int (nI lm), .int (nI rm), .int (nI pl), .ref a8, .int sd])), (a5, aI G 96 (cN lf2)), (a7, aI G 7 (cN (upN rf 6 (rf 6 + 1))))] H locs := hw
      subst hr
      have hc : cLetter chz lm = 6 := by unfold cLetter; (repeat' split) <;> omega
      have hj : 6 ≠ 0 := by omega
      exact rt_i C hw () (by exact (anI_r hc hj _).symm) (by rw [rfU_r hc hj, selN_r hc hj, selF_r hc hj]) dX2_letter_33
    · skip
      have c_15 := nlt_c (tN (by omega)) h_ch c_15
      refine lv_aload_n xx xb dX2_letter_18 rfl (lv_at hl 0 rfl) ?_
      refine m_get C hw 0 rfl fk_X2_84 rfl dX2_letter_19 ?_
      refine lv_bipush (v := nI 96) xx xb dX2_letter_22 (by decide) ?_
      refine lv_icmp_ne (tgt := 34) xx xb dX2_letter_24 (by decide) (fun c_24 => ?_) (fun c_24 => ?_)
      · skip
        have c_24 := ne_c (tN (by omega)) (tN (by omega)) c_24
        refine lv_aload_n xx xb dX2_letter_34 rfl (lv_at hl 0 rfl) ?_
        refine m_get C hw 0 rfl fk_X2_22 rfl dX2_letter_35 ?_
        refine lv_aload_n xx xb dX2_letter_38 rfl (lv_at hl 0 rfl) ?_
        refine m_get C hw 0 rfl fk_X2_84 rfl dX2_letter_39 ?_
        refine lv_iload_n xx xb dX2_letter_42 rfl (lv_at hl 1 rfl) ?_
        refine re_i (nI chz.toNat) (ofT h_ch (by omega) (by omega)) ?_
        refine m_ast C hw 1 rfl lm rfl (by omega) (by decide) (cN (upN lf2 lm chz.toNat)) (cN_u _ _ _) dX2_letter_43 (fun H locs hw => ?_)
        have hw : Wd G (fA [(h0, .inr (2, [.ref a1, .ref a2, .ref a3, .ref a4, .int (nI im), .ref a5, .ref a6, .ref a7, .int (nI lm), .int (nI rm), .int (nI pl), .ref a8, .int sd])), (a5, aI G 96 (cN lf2)), (a7, aI G 7 (cN rf))]) s [(h0, .inr (2, [.ref a1, .ref a2, .ref a3, .ref a4, .int (nI im), .ref a5, .ref a6, .ref a7, .int (nI lm), .int (nI rm), .int (nI pl), .ref a8, .int sd])), (a5, aI G 96 (cN (upN lf2 lm chz.toNat))), (a7, aI G 7 (cN rf))] H locs := hw
        refine lv_aload_n xx xb dX2_letter_44 rfl (lv_at hl 0 rfl) ?_
        refine lv_dup xx xb dX2_letter_45 rfl ?_
        refine m_get C hw 0 rfl fk_X2_84 rfl dX2_letter_46 ?_
        refine lv_iconst (v := nI 1) xx xb dX2_letter_49 (by decide) ?_
        refine lv_iadd xx xb dX2_letter_50 ?_
        refine re_i (nI (lm + 1)) (nI_add _ _) ?_
        refine m_put C hw 0 rfl rfl tyX2 tyX2_ok nmX2 fk_X2_84 rfl rfl rfl rfl (Nat.le_of_ble_eq_true rfl) dX2_letter_51 (fun H locs hw => ?_)
        have hw : Wd G (fA [(h0, .inr (2, [.ref a1, .ref a2, .ref a3, .ref a4, .int (nI im), .ref a5, .ref a6, .ref a7, .int (nI lm), .int (nI rm), .int (nI pl), .ref a8, .int sd])), (a5, aI G 96 (cN lf2)), (a7, aI G 7 (cN rf))]) s [(h0, .inr (2, [.ref a1, .ref a2, .ref a3, .ref a4, .int (nI im), .ref a5, .ref a6, .ref a7, .int (nI (lm + 1)), .int (nI rm), .int (nI pl), .ref a8, .int sd])), (a5, aI G 96 (cN (upN lf2 lm chz.toNat))), (a7, aI G 7 (cN rf))] H locs := hw
        refine lv_aload_n xx xb dX2_letter_54 rfl (lv_at hl 0 rfl) ?_
        refine m_get C hw 0 rfl fk_X2_84 rfl dX2_letter_55 ?_
        have hc : cLetter chz lm = 0 := by unfold cLetter; (repeat' split) <;> omega
        exact rt_i C hw () (by exact (anI_0 hc _).symm) (by rw [rfU_0 hc, selN_0 hc, selF_0 hc]) dX2_letter_58
      · skip
        have c_24 := eq_c (tN (by omega)) (tN (by omega)) c_24
        refine lv_aload_n xx xb dX2_letter_27 rfl (lv_at hl 0 rfl) ?_
        refine lv_bipush (v := (-6)) xx xb dX2_letter_28 (by decide) ?_
        have hM := kX2_no l G h0 a1 a2 a3 a4 a5 a6 a7 a8 im lm rm pl sd rf 6 (by first | assumption | omega)
        refine cv_i C hw hM yvX2_no ml_X2_36 0 rfl rfl rfl [0, 2] rfl rfl (fun _ => (rfl : ([h0, a7] : List Nat) = [h0, a7])) (by decide) ⟨Nat.zero_le _, Nat.zero_le _⟩ hl.1 rfl (Nat.le_of_ble_eq_true rfl) dX2_letter_30 (fun r _ H locs hr hw => ?_)
        have hw : Wd G (fA [(h0, .inr (2, [.ref a1, .ref a2, .ref a3, .ref a4, .int (nI im), .ref a5, .ref a6, .ref a7, .int (nI lm), .int (nI rm), .int (nI pl), .ref a8, .int sd])), (a5, aI G 96 (cN lf2)), (a7, aI G 7 (cN rf))]) s [(h0, .inr (2, [.ref a1, .ref a2, .ref a3, .ref a4, .int (nI im), .ref a5, .ref a6, .ref a7, .int (nI lm), .int (nI rm), .int (nI pl), .ref a8, .int sd])), (a5, aI G 96 (cN lf2)), (a7, aI G 7 (cN (upN rf 6 (rf 6 + 1))))] H locs := hw
        subst hr
        have hc : cLetter chz lm = 6 := by unfold cLetter; (repeat' split) <;> omega
        have hj : 6 ≠ 0 := by omega
        exact rt_i C hw () (by exact (anI_r hc hj _).symm) (by rw [rfU_r hc hj, selN_r hc hj, selF_r hc hj]) dX2_letter_33
  · skip
    have c_1 := nle_c Int32.toInt_zero h_ch c_1
    refine lv_aload_n xx xb dX2_letter_4 rfl (lv_at hl 0 rfl) ?_
    refine lv_bipush (v := (-4)) xx xb dX2_letter_5 (by decide) ?_
    have hM := kX2_no l G h0 a1 a2 a3 a4 a5 a6 a7 a8 im lm rm pl sd rf 4 (by first | assumption | omega)
    refine cv_i C hw hM yvX2_no ml_X2_36 0 rfl rfl rfl [0, 2] rfl rfl (fun _ => (rfl : ([h0, a7] : List Nat) = [h0, a7])) (by decide) ⟨Nat.zero_le _, Nat.zero_le _⟩ hl.1 rfl (Nat.le_of_ble_eq_true rfl) dX2_letter_7 (fun r _ H locs hr hw => ?_)
    have hw : Wd G (fA [(h0, .inr (2, [.ref a1, .ref a2, .ref a3, .ref a4, .int (nI im), .ref a5, .ref a6, .ref a7, .int (nI lm), .int (nI rm), .int (nI pl), .ref a8, .int sd])), (a5, aI G 96 (cN lf2)), (a7, aI G 7 (cN rf))]) s [(h0, .inr (2, [.ref a1, .ref a2, .ref a3, .ref a4, .int (nI im), .ref a5, .ref a6, .ref a7, .int (nI lm), .int (nI rm), .int (nI pl), .ref a8, .int sd])), (a5, aI G 96 (cN lf2)), (a7, aI G 7 (cN (upN rf 4 (rf 4 + 1))))] H locs := hw
    subst hr
    have hc : cLetter chz lm = 4 := by unfold cLetter; (repeat' split) <;> omega
    have hj : 4 ≠ 0 := by omega
    exact rt_i C hw () (by exact (anI_r hc hj _).symm) (by rw [rfU_r hc hj, selN_r hc hj, selF_r hc hj]) dX2_letter_10
set_option maxRecDepth 100000 in
set_option maxHeartbeats 4000000 in
theorem kX2_pulls (l : Launch) (G : GT) (h0 : Nat) (a1 : Nat) (a2 : Nat) (a3 : Nat) (a4 : Nat) (a5 : Nat) (a6 : Nat) (a7 : Nat) (a8 : Nat) (im : Nat) (lm : Nat) (rm : Nat) (pl : Nat) (sd : Int32) (R : RT) (rf : Nat → Nat) (x : Int32) (xz : Int) (v : Int32) (vz : Int) (h_x : x.toInt = xz) (h_v : v.toInt = vz) (hR : OK R) : Ct l yX2_pulls cX2_pulls 4 (some .int) 4 91 [.ref h0, .int x, .int v] G [(h0, .inr (2, [.ref a1, .ref a2, .ref a3, .ref a4, .int (nI im), .ref a5, .ref a6, .ref a7, .int (nI lm), .int (nI rm), .int (nI pl), .ref a8, .int sd])), (a1, aI G 54 (fl R)), (a7, aI G 7 (cN rf))] (QI G [(h0, .inr (2, [.ref a1, .ref a2, .ref a3, .ref a4, .int (nI im), .ref a5, .ref a6, .ref a7, .int (nI lm), .int (nI rm), .int (nI pl), .ref a8, .int sd])), (a1, aI G 54 (fl R)), (a7, aI G 7 (cN rf))] (fun (r : Int32) (u : Unit) => r = anI (wpN R xz vz) (nI (ct (shkF R xz.toNat vz.toNat) (R 0 0)))) (fun u => [(h0, .inr (2, [.ref a1, .ref a2, .ref a3, .ref a4, .int (nI im), .ref a5, .ref a6, .ref a7, .int (nI lm), .int (nI rm), .int (nI pl), .ref a8, .int sd])), (a1, aI G 54 (fl (selR (wpN R xz vz) (pulF R xz.toNat vz.toNat) R))), (a7, aI G 7 (cN (rfU rf (wpN R xz vz))))])) := by
  refine en (by decide +kernel) (Nat.le_of_ble_eq_true rfl) ?_
  intro p e s m below meth c ls H locs C hl hw
  have xx := C.1
  have xb := C.2.1
  have hw : Wd G (fA [(h0, .inr (2, [.ref a1, .ref a2, .ref a3, .ref a4, .int (nI im), .ref a5, .ref a6, .ref a7, .int (nI lm), .int (nI rm), .int (nI pl), .ref a8, .int sd])), (a1, aI G 54 (fl R)), (a7, aI G 7 (cN rf))]) s [(h0, .inr (2, [.ref a1, .ref a2, .ref a3, .ref a4, .int (nI im), .ref a5, .ref a6, .ref a7, .int (nI lm), .int (nI rm), .int (nI pl), .ref a8, .int sd])), (a1, aI G 54 (fl R)), (a7, aI G 7 (cN rf))] H locs := hw
  have hl : lv_has ls 4 [(0, .ref h0), (1, .int x), (2, .int v)] := hl
  obtain ⟨hn, hf0, hpr, hA⟩ := id hR
  have hb6 := wpN_le R xz vz
  refine lv_aload_n xx xb dX2_pulls_0 rfl (lv_at hl 0 rfl) ?_
  refine lv_iload_n xx xb dX2_pulls_1 rfl (lv_at hl 1 rfl) ?_
  refine lv_iload_n xx xb dX2_pulls_2 rfl (lv_at hl 2 rfl) ?_
  have hM := kX2_wrongPull l G h0 a1 a2 a3 a4 a5 a6 a7 a8 im lm rm pl sd R x xz v vz h_x h_v (by first | assumption | omega)
  refine cv_i C hw hM yvX2_wrongPull ml_X2_131 0 rfl rfl rfl [0, 1] rfl rfl (fun _ => (rfl : ([h0, a1] : List Nat) = [h0, a1])) (by decide) ⟨Nat.zero_le _, Nat.zero_le _⟩ hl.1 rfl (Nat.le_of_ble_eq_true rfl) dX2_pulls_3 (fun r _ H locs hr hw => ?_)
  have hw : Wd G (fA [(h0, .inr (2, [.ref a1, .ref a2, .ref a3, .ref a4, .int (nI im), .ref a5, .ref a6, .ref a7, .int (nI lm), .int (nI rm), .int (nI pl), .ref a8, .int sd])), (a1, aI G 54 (fl R)), (a7, aI G 7 (cN rf))]) s [(h0, .inr (2, [.ref a1, .ref a2, .ref a3, .ref a4, .int (nI im), .ref a5, .ref a6, .ref a7, .int (nI lm), .int (nI rm), .int (nI pl), .ref a8, .int sd])), (a1, aI G 54 (fl R)), (a7, aI G 7 (cN rf))] H locs := hw
  subst hr
  refine lv_istore_n (lv' := [(3, .int (nG (wpN R xz vz))), (0, .ref h0), (1, .int x), (2, .int v)]) xx xb dX2_pulls_6 rfl hl (by decide) rfl (fun ls hl => ?_)
  refine lv_iload_n xx xb dX2_pulls_7 rfl (lv_at hl 0 rfl) ?_
  refine lv_if_eq (tgt := 19) xx xb dX2_pulls_8 (by decide) (fun c_8 => ?_) (fun c_8 => ?_)
  · skip
    have c_8 := g0_c (by omega) c_8
    obtain ⟨g1, g2, g3⟩ := wpN_0 c_8
    refine lv_aload_n xx xb dX2_pulls_19 rfl (lv_at hl 1 rfl) ?_
    refine m_get C hw 0 rfl fk_X2_9 rfl dX2_pulls_20 ?_
    refine lv_iload_n xx xb dX2_pulls_23 rfl (lv_at hl 2 rfl) ?_
    refine re_i (onI xz.toNat) ((ofT h_x (by omega) (by omega)).trans (onI_lt (by omega)).symm) ?_
    refine lv_iload_n xx xb dX2_pulls_24 rfl (lv_at hl 3 rfl) ?_
    refine re_i (nI vz.toNat) (ofT h_v (by omega) (by omega)) ?_
    have hM := kX2_pullsIn l G a1 R xz.toNat vz.toNat (by first | assumption | omega) (by first | assumption | omega) (by first | assumption | omega)
    refine cs_i C hw hM ysX2_pullsIn ml_X2_112 rfl [1] rfl rfl (fun _ => (rfl : ([a1] : List Nat) = [a1])) (by decide) ⟨Nat.zero_le _, Nat.zero_le _⟩ hl.1 rfl (Nat.le_of_ble_eq_true rfl) dX2_pulls_25 (fun r _ H locs hr hw => ?_)
    have hw : Wd G (fA [(h0, .inr (2, [.ref a1, .ref a2, .ref a3, .ref a4, .int (nI im), .ref a5, .ref a6, .ref a7, .int (nI lm), .int (nI rm), .int (nI pl), .ref a8, .int sd])), (a1, aI G 54 (fl R)), (a7, aI G 7 (cN rf))]) s [(h0, .inr (2, [.ref a1, .ref a2, .ref a3, .ref a4, .int (nI im), .ref a5, .ref a6, .ref a7, .int (nI lm), .int (nI rm), .int (nI pl), .ref a8, .int sd])), (a1, aI G 54 (fl (pulF R xz.toNat vz.toNat))), (a7, aI G 7 (cN rf))] H locs := hw
    subst hr
    have hc : wpN R xz vz = 0 := by first | assumption | rfl
    exact rt_i C hw () (by exact (anI_0 hc _).symm) (by rw [rfU_0 hc, selR_0 hc]) dX2_pulls_28
  · skip
    have c_8 := g0_n c_8
    refine lv_aload_n xx xb dX2_pulls_11 rfl (lv_at hl 1 rfl) ?_
    refine lv_iload_n xx xb dX2_pulls_12 rfl (lv_at hl 0 rfl) ?_
    have hM := kX2_no l G h0 a1 a2 a3 a4 a5 a6 a7 a8 im lm rm pl sd rf (wpN R xz vz) (by have := wpN_le R xz vz; omega)
    refine cv_i C hw hM yvX2_no ml_X2_36 0 rfl rfl rfl [0, 2] rfl rfl (fun _ => (rfl : ([h0, a7] : List Nat) = [h0, a7])) (by decide) ⟨Nat.zero_le _, Nat.zero_le _⟩ hl.1 rfl (Nat.le_of_ble_eq_true rfl) dX2_pulls_13 (fun r _ H locs hr hw => ?_)
    have hw : Wd G (fA [(h0, .inr (2, [.ref a1, .ref a2, .ref a3, .ref a4, .int (nI im), .ref a5, .ref a6, .ref a7, .int (nI lm), .int (nI rm), .int (nI pl), .ref a8, .int sd])), (a1, aI G 54 (fl R)), (a7, aI G 7 (cN rf))]) s [(h0, .inr (2, [.ref a1, .ref a2, .ref a3, .ref a4, .int (nI im), .ref a5, .ref a6, .ref a7, .int (nI lm), .int (nI rm), .int (nI pl), .ref a8, .int sd])), (a1, aI G 54 (fl R)), (a7, aI G 7 (cN (upN rf (wpN R xz vz) (rf (wpN R xz vz) + 1))))] H locs := hw
    subst hr
    refine lv_goto (tgt := 28) xx xb dX2_pulls_16 (by decide) ?_
    have hc : wpN R xz vz = (wpN R xz vz) := by first | assumption | rfl
    have hj : (wpN R xz vz) ≠ 0 := by omega
    exact rt_i C hw () (by exact (anI_r hc hj _).symm) (by rw [rfU_r hc hj, selR_r hc hj]) dX2_pulls_28
set_option maxRecDepth 100000 in
set_option maxHeartbeats 4000000 in
theorem kX2_floor (l : Launch) (G : GT) (h0 : Nat) (a1 : Nat) (a2 : Nat) (a3 : Nat) (a4 : Nat) (a5 : Nat) (a6 : Nat) (a7 : Nat) (a8 : Nat) (im : Nat) (lm : Nat) (rm : Nat) (pl : Nat) (sd : Int32) (R : RT) (rf : Nat → Nat) (v : Int32) (vz : Int) (h_v : v.toInt = vz) (hR : OK R) : Ct l yX2_floor cX2_floor 3 (some .int) 4 91 [.ref h0, .int v] G [(h0, .inr (2, [.ref a1, .ref a2, .ref a3, .ref a4, .int (nI im), .ref a5, .ref a6, .ref a7, .int (nI lm), .int (nI rm), .int (nI pl), .ref a8, .int sd])), (a1, aI G 54 (fl R)), (a7, aI G 7 (cN rf))] (QI G [(h0, .inr (2, [.ref a1, .ref a2, .ref a3, .ref a4, .int (nI im), .ref a5, .ref a6, .ref a7, .int (nI lm), .int (nI rm), .int (nI pl), .ref a8, .int sd])), (a1, aI G 54 (fl R)), (a7, aI G 7 (cN rf))] (fun (r : Int32) (u : Unit) => r = anI (cFloor R vz) (nI (ct (shkF R 10 vz.toNat) (R 0 0)))) (fun u => [(h0, .inr (2, [.ref a1, .ref a2, .ref a3, .ref a4, .int (nI im), .ref a5, .ref a6, .ref a7, .int (nI lm), .int (nI rm), .int (nI pl), .ref a8, .int sd])), (a1, aI G 54 (fl (selR (cFloor R vz) (pulF R 10 vz.toNat) R))), (a7, aI G 7 (cN (rfU rf (cFloor R vz))))])) := by
  refine en (by decide +kernel) (Nat.le_of_ble_eq_true rfl) ?_
  intro p e s m below meth c ls H locs C hl hw
  have xx := C.1
  have xb := C.2.1
  have hw : Wd G (fA [(h0, .inr (2, [.ref a1, .ref a2, .ref a3, .ref a4, .int (nI im), .ref a5, .ref a6, .ref a7, .int (nI lm), .int (nI rm), .int (nI pl), .ref a8, .int sd])), (a1, aI G 54 (fl R)), (a7, aI G 7 (cN rf))]) s [(h0, .inr (2, [.ref a1, .ref a2, .ref a3, .ref a4, .int (nI im), .ref a5, .ref a6, .ref a7, .int (nI lm), .int (nI rm), .int (nI pl), .ref a8, .int sd])), (a1, aI G 54 (fl R)), (a7, aI G 7 (cN rf))] H locs := hw
  have hl : lv_has ls 3 [(0, .ref h0), (1, .int v)] := hl
  obtain ⟨hn, hf0, hpr, hA⟩ := id hR
  have hb9 := wbN_le vz 9
  refine lv_iload_n xx xb dX2_floor_0 rfl (lv_at hl 1 rfl) ?_
  refine lv_bipush (v := nI 9) xx xb dX2_floor_1 (by decide) ?_
  have hM := kX2_wrongBy l G v vz (nI 9) 9 h_v (tN (by omega))
  refine cs_i C hw hM ysX2_wrongBy ml_X2_128 rfl [] rfl rfl (fun _ => (rfl : ([] : List Nat) = [])) (by decide) ⟨Nat.zero_le _, Nat.zero_le _⟩ hl.1 rfl (Nat.le_of_ble_eq_true rfl) dX2_floor_3 (fun r _ H locs hr hw => ?_)
  have hw : Wd G (fA [(h0, .inr (2, [.ref a1, .ref a2, .ref a3, .ref a4, .int (nI im), .ref a5, .ref a6, .ref a7, .int (nI lm), .int (nI rm), .int (nI pl), .ref a8, .int sd])), (a1, aI G 54 (fl R)), (a7, aI G 7 (cN rf))]) s [(h0, .inr (2, [.ref a1, .ref a2, .ref a3, .ref a4, .int (nI im), .ref a5, .ref a6, .ref a7, .int (nI lm), .int (nI rm), .int (nI pl), .ref a8, .int sd])), (a1, aI G 54 (fl R)), (a7, aI G 7 (cN rf))] H locs := hw
  subst hr
  refine lv_istore_n (lv' := [(2, .int (nG (wbN vz 9))), (0, .ref h0), (1, .int v)]) xx xb dX2_floor_6 rfl hl (by decide) rfl (fun ls hl => ?_)
  refine lv_iload_n xx xb dX2_floor_7 rfl (lv_at hl 0 rfl) ?_
  refine lv_if_ne (tgt := 23) xx xb dX2_floor_8 (by decide) (fun c_8 => ?_) (fun c_8 => ?_)
  · skip
    have c_8 := g0_n c_8
    refine lv_iload_n xx xb dX2_floor_23 rfl (lv_at hl 0 rfl) ?_
    refine lv_if_eq (tgt := 35) xx xb dX2_floor_24 (by decide) (fun c_24 => ?_) (fun c_24 => ?_)
    · skip
      have c_24 := g0_c (by omega) c_24
      obtain ⟨g1, g2⟩ := wbN_0 (z := vz) (a := 9) (by omega)
      refine lv_aload_n xx xb dX2_floor_35 rfl (lv_at hl 1 rfl) ?_
      refine m_get C hw 0 rfl fk_X2_9 rfl dX2_floor_36 ?_
      refine lv_bipush (v := (-9)) xx xb dX2_floor_39 (by decide) ?_
      refine lv_iload_n xx xb dX2_floor_41 rfl (lv_at hl 2 rfl) ?_
      refine re_i (nI vz.toNat) (ofT h_v (by omega) (by omega)) ?_
      have hM := kX2_pullsIn l G a1 R 10 vz.toNat (by first | assumption | omega) (Or.inl rfl) (by first | assumption | omega)
      refine cs_i C hw hM ysX2_pullsIn ml_X2_112 rfl [1] rfl rfl (fun _ => (rfl : ([a1] : List Nat) = [a1])) (by decide) ⟨Nat.zero_le _, Nat.zero_le _⟩ hl.1 rfl (Nat.le_of_ble_eq_true rfl) dX2_floor_42 (fun r _ H locs hr hw => ?_)
      have hw : Wd G (fA [(h0, .inr (2, [.ref a1, .ref a2, .ref a3, .ref a4, .int (nI im), .ref a5, .ref a6, .ref a7, .int (nI lm), .int (nI rm), .int (nI pl), .ref a8, .int sd])), (a1, aI G 54 (fl R)), (a7, aI G 7 (cN rf))]) s [(h0, .inr (2, [.ref a1, .ref a2, .ref a3, .ref a4, .int (nI im), .ref a5, .ref a6, .ref a7, .int (nI lm), .int (nI rm), .int (nI pl), .ref a8, .int sd])), (a1, aI G 54 (fl (pulF R 10 vz.toNat))), (a7, aI G 7 (cN rf))] H locs := hw
      subst hr
      have hc : cFloor R vz = 0 := by unfold cFloor; (repeat' split) <;> omega
      exact rt_i C hw () (by exact (anI_0 hc _).symm) (by rw [rfU_0 hc, selR_0 hc]) dX2_floor_45
    · skip
      have c_24 := g0_n c_24
      refine lv_aload_n xx xb dX2_floor_27 rfl (lv_at hl 1 rfl) ?_
      refine lv_iload_n xx xb dX2_floor_28 rfl (lv_at hl 0 rfl) ?_
      have hM := kX2_no l G h0 a1 a2 a3 a4 a5 a6 a7 a8 im lm rm pl sd rf (wbN vz 9) (by omega)
      refine cv_i C hw hM yvX2_no ml_X2_36 0 rfl rfl rfl [0, 2] rfl rfl (fun _ => (rfl : ([h0, a7] : List Nat) = [h0, a7])) (by decide) ⟨Nat.zero_le _, Nat.zero_le _⟩ hl.1 rfl (Nat.le_of_ble_eq_true rfl) dX2_floor_29 (fun r _ H locs hr hw => ?_)
      have hw : Wd G (fA [(h0, .inr (2, [.ref a1, .ref a2, .ref a3, .ref a4, .int (nI im), .ref a5, .ref a6, .ref a7, .int (nI lm), .int (nI rm), .int (nI pl), .ref a8, .int sd])), (a1, aI G 54 (fl R)), (a7, aI G 7 (cN rf))]) s [(h0, .inr (2, [.ref a1, .ref a2, .ref a3, .ref a4, .int (nI im), .ref a5, .ref a6, .ref a7, .int (nI lm), .int (nI rm), .int (nI pl), .ref a8, .int sd])), (a1, aI G 54 (fl R)), (a7, aI G 7 (cN (upN rf (wbN vz 9) (rf (wbN vz 9) + 1))))] H locs := hw
      subst hr
      refine lv_goto (tgt := 45) xx xb dX2_floor_32 (by decide) ?_
      have hc : cFloor R vz = (wbN vz 9) := by unfold cFloor; (repeat' split) <;> omega
      have hj : (wbN vz 9) ≠ 0 := by omega
      exact rt_i C hw () (by exact (anI_r hc hj _).symm) (by rw [rfU_r hc hj, selR_r hc hj]) dX2_floor_45
  · skip
    have c_8 := g0_c (by omega) c_8
    refine lv_aload_n xx xb dX2_floor_11 rfl (lv_at hl 1 rfl) ?_
    refine m_get C hw 0 rfl fk_X2_9 rfl dX2_floor_12 ?_
    refine lv_iconst (v := nI 2) xx xb dX2_floor_15 (by decide) ?_
    refine m_ald C hw 1 rfl 2 rfl (by omega) (by decide) dX2_floor_16 ?_
    refine re_i (nI (R 0 2)) (fl_h R (by decide)) ?_
    refine lv_if_ne (tgt := 23) xx xb dX2_floor_17 (by decide) (fun c_17 => ?_) (fun c_17 => ?_)
    · skip
      have c_17 := ne_c (tN (by omega)) Int32.toInt_zero c_17
      refine lv_iload_n xx xb dX2_floor_23 rfl (lv_at hl 0 rfl) ?_
      refine lv_if_eq (tgt := 35) xx xb dX2_floor_24 (by decide) (fun c_24 => ?_) (fun c_24 => ?_)
      · skip
        have c_24 := g0_c (by omega) c_24
        obtain ⟨g1, g2⟩ := wbN_0 (z := vz) (a := 9) (by omega)
        refine lv_aload_n xx xb dX2_floor_35 rfl (lv_at hl 1 rfl) ?_
        refine m_get C hw 0 rfl fk_X2_9 rfl dX2_floor_36 ?_
        refine lv_bipush (v := (-9)) xx xb dX2_floor_39 (by decide) ?_
        refine lv_iload_n xx xb dX2_floor_41 rfl (lv_at hl 2 rfl) ?_
        refine re_i (nI vz.toNat) (ofT h_v (by omega) (by omega)) ?_
        have hM := kX2_pullsIn l G a1 R 10 vz.toNat (by first | assumption | omega) (Or.inl rfl) (by first | assumption | omega)
        refine cs_i C hw hM ysX2_pullsIn ml_X2_112 rfl [1] rfl rfl (fun _ => (rfl : ([a1] : List Nat) = [a1])) (by decide) ⟨Nat.zero_le _, Nat.zero_le _⟩ hl.1 rfl (Nat.le_of_ble_eq_true rfl) dX2_floor_42 (fun r _ H locs hr hw => ?_)
        have hw : Wd G (fA [(h0, .inr (2, [.ref a1, .ref a2, .ref a3, .ref a4, .int (nI im), .ref a5, .ref a6, .ref a7, .int (nI lm), .int (nI rm), .int (nI pl), .ref a8, .int sd])), (a1, aI G 54 (fl R)), (a7, aI G 7 (cN rf))]) s [(h0, .inr (2, [.ref a1, .ref a2, .ref a3, .ref a4, .int (nI im), .ref a5, .ref a6, .ref a7, .int (nI lm), .int (nI rm), .int (nI pl), .ref a8, .int sd])), (a1, aI G 54 (fl (pulF R 10 vz.toNat))), (a7, aI G 7 (cN rf))] H locs := hw
        subst hr
        have hc : cFloor R vz = 0 := by unfold cFloor; (repeat' split) <;> omega
        exact rt_i C hw () (by exact (anI_0 hc _).symm) (by rw [rfU_0 hc, selR_0 hc]) dX2_floor_45
      · skip
        have c_24 := g0_n c_24
        refine lv_aload_n xx xb dX2_floor_27 rfl (lv_at hl 1 rfl) ?_
        refine lv_iload_n xx xb dX2_floor_28 rfl (lv_at hl 0 rfl) ?_
        have hM := kX2_no l G h0 a1 a2 a3 a4 a5 a6 a7 a8 im lm rm pl sd rf (wbN vz 9) (by omega)
        refine cv_i C hw hM yvX2_no ml_X2_36 0 rfl rfl rfl [0, 2] rfl rfl (fun _ => (rfl : ([h0, a7] : List Nat) = [h0, a7])) (by decide) ⟨Nat.zero_le _, Nat.zero_le _⟩ hl.1 rfl (Nat.le_of_ble_eq_true rfl) dX2_floor_29 (fun r _ H locs hr hw => ?_)
        have hw : Wd G (fA [(h0, .inr (2, [.ref a1, .ref a2, .ref a3, .ref a4, .int (nI im), .ref a5, .ref a6, .ref a7, .int (nI lm), .int (nI rm), .int (nI pl), .ref a8, .int sd])), (a1, aI G 54 (fl R)), (a7, aI G 7 (cN rf))]) s [(h0, .inr (2, [.ref a1, .ref a2, .ref a3, .ref a4, .int (nI im), .ref a5, .ref a6, .ref a7, .int (nI lm), .int (nI rm), .int (nI pl), .ref a8, .int sd])), (a1, aI G 54 (fl R)), (a7, aI G 7 (cN (upN rf (wbN vz 9) (rf (wbN vz 9) + 1))))] H locs := hw
        subst hr
        refine lv_goto (tgt := 45) xx xb dX2_floor_32 (by decide) ?_
        have hc : cFloor R vz = (wbN vz 9) := by unfold cFloor; (repeat' split) <;> omega
        have hj : (wbN vz 9) ≠ 0 := by omega
        exact rt_i C hw () (by exact (anI_r hc hj _).symm) (by rw [rfU_r hc hj, selR_r hc hj]) dX2_floor_45
    · skip
      have c_17 := eq_c (tN (by omega)) Int32.toInt_zero c_17
      refine lv_bipush (v := (-3)) xx xb dX2_floor_20 (by decide) ?_
      refine lv_istore_n (lv' := [(2, .int (-3)), (0, .ref h0), (1, .int v)]) xx xb dX2_floor_22 rfl hl (by decide) rfl (fun ls hl => ?_)
      refine lv_iload_n xx xb dX2_floor_23 rfl (lv_at hl 0 rfl) ?_
      refine lv_if_eq (tgt := 35) xx xb dX2_floor_24 (by decide) (fun c_24 => ?_) (fun c_24 => ?_)
      · skip
        exact absurd c_24 (by decide)
      · skip
        refine lv_aload_n xx xb dX2_floor_27 rfl (lv_at hl 1 rfl) ?_
        refine lv_iload_n xx xb dX2_floor_28 rfl (lv_at hl 0 rfl) ?_
        have hM := kX2_no l G h0 a1 a2 a3 a4 a5 a6 a7 a8 im lm rm pl sd rf 3 (by omega)
        refine cv_i C hw hM yvX2_no ml_X2_36 0 rfl rfl rfl [0, 2] rfl rfl (fun _ => (rfl : ([h0, a7] : List Nat) = [h0, a7])) (by decide) ⟨Nat.zero_le _, Nat.zero_le _⟩ hl.1 rfl (Nat.le_of_ble_eq_true rfl) dX2_floor_29 (fun r _ H locs hr hw => ?_)
        have hw : Wd G (fA [(h0, .inr (2, [.ref a1, .ref a2, .ref a3, .ref a4, .int (nI im), .ref a5, .ref a6, .ref a7, .int (nI lm), .int (nI rm), .int (nI pl), .ref a8, .int sd])), (a1, aI G 54 (fl R)), (a7, aI G 7 (cN rf))]) s [(h0, .inr (2, [.ref a1, .ref a2, .ref a3, .ref a4, .int (nI im), .ref a5, .ref a6, .ref a7, .int (nI lm), .int (nI rm), .int (nI pl), .ref a8, .int sd])), (a1, aI G 54 (fl R)), (a7, aI G 7 (cN (upN rf 3 (rf 3 + 1))))] H locs := hw
        subst hr
        refine lv_goto (tgt := 45) xx xb dX2_floor_32 (by decide) ?_
        have hc : cFloor R vz = 3 := by unfold cFloor; (repeat' split) <;> omega
        have hj : 3 ≠ 0 := by omega
        exact rt_i C hw () (by exact (anI_r hc hj _).symm) (by rw [rfU_r hc hj, selR_r hc hj]) dX2_floor_45
set_option maxRecDepth 100000 in
set_option maxHeartbeats 4000000 in
theorem kX2_lays (l : Launch) (G : GT) (h0 : Nat) (a1 : Nat) (a2 : Nat) (a3 : Nat) (a4 : Nat) (a5 : Nat) (a6 : Nat) (a7 : Nat) (a8 : Nat) (im : Nat) (lm : Nat) (rm : Nat) (pl : Nat) (sd : Int32) (R : RT) (rf : Nat → Nat) (hR : OK R) : Ct l yX2_lays cX2_lays 3 (some .int) 2 42 [.ref h0] G [(h0, .inr (2, [.ref a1, .ref a2, .ref a3, .ref a4, .int (nI im), .ref a5, .ref a6, .ref a7, .int (nI lm), .int (nI rm), .int (nI pl), .ref a8, .int sd])), (a1, aI G 54 (fl R)), (a7, aI G 7 (cN rf))] (QI G [(h0, .inr (2, [.ref a1, .ref a2, .ref a3, .ref a4, .int (nI im), .ref a5, .ref a6, .ref a7, .int (nI lm), .int (nI rm), .int (nI pl), .ref a8, .int sd])), (a1, aI G 54 (fl R)), (a7, aI G 7 (cN rf))] (fun (r : Int32) (u : Unit) => r = anI (cLays R) (nI (ct (flP R) (R 0 0)))) (fun u => [(h0, .inr (2, [.ref a1, .ref a2, .ref a3, .ref a4, .int (nI im), .ref a5, .ref a6, .ref a7, .int (nI lm), .int (nI rm), .int (nI pl), .ref a8, .int sd])), (a1, aI G 54 (fl (selR (cLays R) (upR R 0 2 1) R))), (a7, aI G 7 (cN (rfU rf (cLays R))))])) := by
  refine en (by decide +kernel) (Nat.le_of_ble_eq_true rfl) ?_
  intro p e s m below meth c ls H locs C hl hw
  have xx := C.1
  have xb := C.2.1
  have hw : Wd G (fA [(h0, .inr (2, [.ref a1, .ref a2, .ref a3, .ref a4, .int (nI im), .ref a5, .ref a6, .ref a7, .int (nI lm), .int (nI rm), .int (nI pl), .ref a8, .int sd])), (a1, aI G 54 (fl R)), (a7, aI G 7 (cN rf))]) s [(h0, .inr (2, [.ref a1, .ref a2, .ref a3, .ref a4, .int (nI im), .ref a5, .ref a6, .ref a7, .int (nI lm), .int (nI rm), .int (nI pl), .ref a8, .int sd])), (a1, aI G 54 (fl R)), (a7, aI G 7 (cN rf))] H locs := hw
  have hl : lv_has ls 3 [(0, .ref h0)] := hl
  obtain ⟨hn, hf0, hpr, hA⟩ := id hR
  have hR1 : OK (upR R 0 2 1) := OK_how (R := R) (fun i hi j hj => upR_n (by omega)) (by rw [upR_s]; omega) (fun a ha => (hA a ha).2.2.2.2) hR
  refine lv_aload_n xx xb dX2_lays_0 rfl (lv_at hl 0 rfl) ?_
  refine m_get C hw 0 rfl fk_X2_9 rfl dX2_lays_1 ?_
  refine lv_iconst (v := nI 2) xx xb dX2_lays_4 (by decide) ?_
  refine m_ald C hw 1 rfl 2 rfl (by omega) (by decide) dX2_lays_5 ?_
  refine re_i (nI (R 0 2)) (fl_h R (by decide)) ?_
  refine lv_iconst (v := nI 1) xx xb dX2_lays_6 (by decide) ?_
  refine lv_icmp_ne (tgt := 17) xx xb dX2_lays_7 (by decide) (fun c_7 => ?_) (fun c_7 => ?_)
  · skip
    have c_7 := ne_c (tN (by omega)) (tN (by omega)) c_7
    refine lv_aload_n xx xb dX2_lays_17 rfl (lv_at hl 0 rfl) ?_
    refine m_get C hw 0 rfl fk_X2_9 rfl dX2_lays_18 ?_
    refine lv_iconst (v := nI 2) xx xb dX2_lays_21 (by decide) ?_
    refine lv_iconst (v := nI 1) xx xb dX2_lays_22 (by decide) ?_
    refine m_ast C hw 1 rfl 2 rfl (by omega) (by decide) (fl (upR R 0 2 1)) (fl_uh _ (by decide)) dX2_lays_23 (fun H locs hw => ?_)
    have hw : Wd G (fA [(h0, .inr (2, [.ref a1, .ref a2, .ref a3, .ref a4, .int (nI im), .ref a5, .ref a6, .ref a7, .int (nI lm), .int (nI rm), .int (nI pl), .ref a8, .int sd])), (a1, aI G 54 (fl R)), (a7, aI G 7 (cN rf))]) s [(h0, .inr (2, [.ref a1, .ref a2, .ref a3, .ref a4, .int (nI im), .ref a5, .ref a6, .ref a7, .int (nI lm), .int (nI rm), .int (nI pl), .ref a8, .int sd])), (a1, aI G 54 (fl (upR R 0 2 1))), (a7, aI G 7 (cN rf))] H locs := hw
    refine lv_iconst (v := nI 0) xx xb dX2_lays_24 (by decide) ?_
    refine lv_istore_n (lv' := [(1, .int (nI 0)), (0, .ref h0)]) xx xb dX2_lays_25 rfl hl (by decide) rfl (fun ls hl => ?_)
    refine lv_iconst (v := nI 0) xx xb dX2_lays_26 (by decide) ?_
    refine lv_istore_n (lv' := [(2, .int (nI 0)), (1, .int (nI 0)), (0, .ref h0)]) xx xb dX2_lays_27 rfl hl (by decide) rfl (fun ls hl => ?_)
    have L_28 : ∀ (fu : Nat) (i : Nat) (H : Heap) (locs : List Loc) (ls : Array Slot), 10 - i < fu → (i ≤ R 0 0) → Wd G (fA [(h0, .inr (2, [.ref a1, .ref a2, .ref a3, .ref a4, .int (nI im), .ref a5, .ref a6, .ref a7, .int (nI lm), .int (nI rm), .int (nI pl), .ref a8, .int sd])), (a1, aI G 54 (fl R)), (a7, aI G 7 (cN rf))]) s [(h0, .inr (2, [.ref a1, .ref a2, .ref a3, .ref a4, .int (nI im), .ref a5, .ref a6, .ref a7, .int (nI lm), .int (nI rm), .int (nI pl), .ref a8, .int sd])), (a1, aI G 54 (fl (upR R 0 2 1))), (a7, aI G 7 (cN rf))] H locs → lv_has ls 3 [(0, .ref h0), (1, .int (nI (ct (flP R) i))), (2, .int (nI i))] → W p l e ({ frames := 2, cells := 0, slots := 0, locals := 42 }) s m (([.ref h0] : List Value).toArray) below meth c H locs 0 0 (MQ below (QI G [(h0, .inr (2, [.ref a1, .ref a2, .ref a3, .ref a4, .int (nI im), .ref a5, .ref a6, .ref a7, .int (nI lm), .int (nI rm), .int (nI pl), .ref a8, .int sd])), (a1, aI G 54 (fl R)), (a7, aI G 7 (cN rf))] (fun (r : Int32) (u : Unit) => r = anI (cLays R) (nI (ct (flP R) (R 0 0)))) (fun u => [(h0, .inr (2, [.ref a1, .ref a2, .ref a3, .ref a4, .int (nI im), .ref a5, .ref a6, .ref a7, .int (nI lm), .int (nI rm), .int (nI pl), .ref a8, .int sd])), (a1, aI G 54 (fl (selR (cLays R) (upR R 0 2 1) R))), (a7, aI G 7 (cN (rfU rf (cLays R))))])) (([.ref h0] : List Value).toArray) s 0 0 (fA [(h0, .inr (2, [.ref a1, .ref a2, .ref a3, .ref a4, .int (nI im), .ref a5, .ref a6, .ref a7, .int (nI lm), .int (nI rm), .int (nI pl), .ref a8, .int sd])), (a1, aI G 54 (fl R)), (a7, aI G 7 (cN rf))])) (F0 m 28 ls []) := by
      intro fu
      induction fu with
      | zero => intro i H locs ls hfu; exact absurd hfu (Nat.not_lt_zero _)
      | succ fu ih_28 =>
        intro i H locs ls hfu hi hw hl
        refine lv_iload_n xx xb dX2_lays_28 rfl (lv_at hl 2 rfl) ?_
        refine lv_aload_n xx xb dX2_lays_29 rfl (lv_at hl 0 rfl) ?_
        refine m_get C hw 0 rfl fk_X2_9 rfl dX2_lays_30 ?_
        refine lv_iconst (v := nI 0) xx xb dX2_lays_33 (by decide) ?_
        refine m_ald C hw 1 rfl 0 rfl (by omega) (by decide) dX2_lays_34 ?_
        refine re_i (nI ((upR R 0 2 1) 0 0)) (fl_h (upR R 0 2 1) (by decide)) ?_
        refine re_i (nI (R 0 0)) rfl ?_
        refine lv_icmp_ge (tgt := 76) xx xb dX2_lays_35 (by decide) (fun c_35 => ?_) (fun c_35 => ?_)
        · skip
          have c_35 := le_c (tN (by omega)) (tN (by omega)) c_35
          have hl : lv_has ls 3 [(0, .ref h0), (1, .int (nI (ct (flP R) (R 0 0)))), (2, .int (nI i))] := by rw [show R 0 0 = i by omega]; exact hl
          refine lv_iload_n xx xb dX2_lays_76 rfl (lv_at hl 1 rfl) ?_
          have hc : cLays R = 0 := by unfold cLays; (repeat' split) <;> omega
          exact rt_i C hw () (by exact (anI_0 hc _).symm) (by rw [rfU_0 hc, selR_0 hc]) dX2_lays_77
        · skip
          have c_35 := nle_c (tN (by omega)) (tN (by omega)) c_35
          obtain ⟨q1, q2, q3, q4, q5⟩ := hA i (by omega)
          refine lv_iload_n xx xb dX2_lays_38 rfl (lv_at hl 1 rfl) ?_
          refine lv_aload_n xx xb dX2_lays_39 rfl (lv_at hl 0 rfl) ?_
          refine m_get C hw 0 rfl fk_X2_9 rfl dX2_lays_40 ?_
          refine lv_iload_n xx xb dX2_lays_43 rfl (lv_at hl 2 rfl) ?_
          have hM := kX2_stands l G a1 (upR R 0 2 1) i hR1 (by show i < R 0 0; omega)
          refine cs_i C hw hM ysX2_stands ml_X2_55 rfl [1] rfl rfl (fun _ => (rfl : ([a1] : List Nat) = [a1])) (by decide) ⟨Nat.zero_le _, Nat.zero_le _⟩ hl.1 rfl (Nat.le_of_ble_eq_true rfl) dX2_lays_44 (fun r _ H locs hr hw => ?_)
          have hw : Wd G (fA [(h0, .inr (2, [.ref a1, .ref a2, .ref a3, .ref a4, .int (nI im), .ref a5, .ref a6, .ref a7, .int (nI lm), .int (nI rm), .int (nI pl), .ref a8, .int sd])), (a1, aI G 54 (fl R)), (a7, aI G 7 (cN rf))]) s [(h0, .inr (2, [.ref a1, .ref a2, .ref a3, .ref a4, .int (nI im), .ref a5, .ref a6, .ref a7, .int (nI lm), .int (nI rm), .int (nI pl), .ref a8, .int sd])), (a1, aI G 54 (fl (upR R 0 2 1))), (a7, aI G 7 (cN rf))] H locs := hw
          subst hr
          refine re_i (if R 4 i = 0 then 1 else 0) rfl ?_
          refine lv_if_eq (tgt := 67) xx xb dX2_lays_47 (by decide) (fun c_47 => ?_) (fun c_47 => ?_)
          · skip
            have c_47 := b0_c c_47
            refine lv_iconst (v := nI 0) xx xb dX2_lays_67 (by decide) ?_
            refine lv_iadd xx xb dX2_lays_68 ?_
            refine re_i (nI ((ct (flP R) i) + 0)) (nI_add _ _) ?_
            refine re_i (nI (ct (flP R) (i + 1))) (congrArg nI (by first | exact ct_t (flP_t c_47 c_60) | exact ct_f (flP_f (by omega)))) ?_
            refine lv_istore_n (lv' := [(1, .int (nI (ct (flP R) (i + 1)))), (0, .ref h0), (2, .int (nI i))]) xx xb dX2_lays_69 rfl hl (by decide) rfl (fun ls hl => ?_)
            refine lv_iinc (v := nI (i + 1)) (lv' := [(2, .int (nI (i + 1))), (1, .int (nI (ct (flP R) (i + 1)))), (0, .ref h0)]) xx xb dX2_lays_70 hl (k := 2) rfl (nI_add _ 1) (by decide) rfl (fun ls hl => ?_)
            refine lv_goto (tgt := 28) xx xb dX2_lays_73 (by decide) ?_
            exact ih_28 (i + 1) H _ ls (by omega) (by omega) hw (lv_sub hl [2, 1, 0] rfl)
          · skip
            have c_47 := b1_c c_47
            refine lv_aload_n xx xb dX2_lays_50 rfl (lv_at hl 0 rfl) ?_
            refine m_get C hw 0 rfl fk_X2_9 rfl dX2_lays_51 ?_
            refine lv_iload_n xx xb dX2_lays_54 rfl (lv_at hl 2 rfl) ?_
            refine lv_iconst (v := nI 2) xx xb dX2_lays_55 (by decide) ?_
            have hM := kX2_of l G i 2 
            refine cs_i C hw hM ysX2_of ml_X2_44 rfl [] rfl rfl (fun _ => (rfl : ([] : List Nat) = [])) (by decide) ⟨Nat.zero_le _, Nat.zero_le _⟩ hl.1 rfl (Nat.le_of_ble_eq_true rfl) dX2_lays_56 (fun r _ H locs hr hw => ?_)
            have hw : Wd G (fA [(h0, .inr (2, [.ref a1, .ref a2, .ref a3, .ref a4, .int (nI im), .ref a5, .ref a6, .ref a7, .int (nI lm), .int (nI rm), .int (nI pl), .ref a8, .int sd])), (a1, aI G 54 (fl R)), (a7, aI G 7 (cN rf))]) s [(h0, .inr (2, [.ref a1, .ref a2, .ref a3, .ref a4, .int (nI im), .ref a5, .ref a6, .ref a7, .int (nI lm), .int (nI rm), .int (nI pl), .ref a8, .int sd])), (a1, aI G 54 (fl (upR R 0 2 1))), (a7, aI G 7 (cN rf))] H locs := hw
            subst hr
            refine m_ald C hw 1 rfl (4 + 5 * i + 2) rfl (by omega) (by decide) dX2_lays_59 ?_
            refine re_i (onI ((upR R 0 2 1) 3 i)) (fl_on (upR R 0 2 1) _) ?_
            refine re_i (onI (R 3 i)) rfl ?_
            refine lv_if_ge (tgt := 67) xx xb dX2_lays_60 (by decide) (fun c_60 => ?_) (fun c_60 => ?_)
            · skip
              have c_60 := onI_nn (by omega) c_60
              refine lv_iconst (v := nI 0) xx xb dX2_lays_67 (by decide) ?_
              refine lv_iadd xx xb dX2_lays_68 ?_
              refine re_i (nI ((ct (flP R) i) + 0)) (nI_add _ _) ?_
              refine re_i (nI (ct (flP R) (i + 1))) (congrArg nI (by first | exact ct_t (flP_t c_47 c_60) | exact ct_f (flP_f (by omega)))) ?_
              refine lv_istore_n (lv' := [(1, .int (nI (ct (flP R) (i + 1)))), (0, .ref h0), (2, .int (nI i))]) xx xb dX2_lays_69 rfl hl (by decide) rfl (fun ls hl => ?_)
              refine lv_iinc (v := nI (i + 1)) (lv' := [(2, .int (nI (i + 1))), (1, .int (nI (ct (flP R) (i + 1)))), (0, .ref h0)]) xx xb dX2_lays_70 hl (k := 2) rfl (nI_add _ 1) (by decide) rfl (fun ls hl => ?_)
              refine lv_goto (tgt := 28) xx xb dX2_lays_73 (by decide) ?_
              exact ih_28 (i + 1) H _ ls (by omega) (by omega) hw (lv_sub hl [2, 1, 0] rfl)
            · skip
              have c_60 := onI_ng (by omega) c_60
              refine lv_iconst (v := nI 1) xx xb dX2_lays_63 (by decide) ?_
              refine lv_goto (tgt := 68) xx xb dX2_lays_64 (by decide) ?_
              refine lv_iadd xx xb dX2_lays_68 ?_
              refine re_i (nI ((ct (flP R) i) + 1)) (nI_add _ _) ?_
              refine re_i (nI (ct (flP R) (i + 1))) (congrArg nI (by first | exact ct_t (flP_t c_47 c_60) | exact ct_f (flP_f (by omega)))) ?_
              refine lv_istore_n (lv' := [(1, .int (nI (ct (flP R) (i + 1)))), (0, .ref h0), (2, .int (nI i))]) xx xb dX2_lays_69 rfl hl (by decide) rfl (fun ls hl => ?_)
              refine lv_iinc (v := nI (i + 1)) (lv' := [(2, .int (nI (i + 1))), (1, .int (nI (ct (flP R) (i + 1)))), (0, .ref h0)]) xx xb dX2_lays_70 hl (k := 2) rfl (nI_add _ 1) (by decide) rfl (fun ls hl => ?_)
              refine lv_goto (tgt := 28) xx xb dX2_lays_73 (by decide) ?_
              exact ih_28 (i + 1) H _ ls (by omega) (by omega) hw (lv_sub hl [2, 1, 0] rfl)
    exact L_28 (_ + 1) 0 H _ ls (Nat.lt_succ_self _) (by omega) hw (lv_sub hl [2, 1, 0] rfl)
  · skip
    have c_7 := eq_c (tN (by omega)) (tN (by omega)) c_7
    refine lv_aload_n xx xb dX2_lays_10 rfl (lv_at hl 0 rfl) ?_
    refine lv_bipush (v := (-3)) xx xb dX2_lays_11 (by decide) ?_
    have hM := kX2_no l G h0 a1 a2 a3 a4 a5 a6 a7 a8 im lm rm pl sd rf 3 (by first | assumption | omega)
    refine cv_i C hw hM yvX2_no ml_X2_36 0 rfl rfl rfl [0, 2] rfl rfl (fun _ => (rfl : ([h0, a7] : List Nat) = [h0, a7])) (by decide) ⟨Nat.zero_le _, Nat.zero_le _⟩ hl.1 rfl (Nat.le_of_ble_eq_true rfl) dX2_lays_13 (fun r _ H locs hr hw => ?_)
    have hw : Wd G (fA [(h0, .inr (2, [.ref a1, .ref a2, .ref a3, .ref a4, .int (nI im), .ref a5, .ref a6, .ref a7, .int (nI lm), .int (nI rm), .int (nI pl), .ref a8, .int sd])), (a1, aI G 54 (fl R)), (a7, aI G 7 (cN rf))]) s [(h0, .inr (2, [.ref a1, .ref a2, .ref a3, .ref a4, .int (nI im), .ref a5, .ref a6, .ref a7, .int (nI lm), .int (nI rm), .int (nI pl), .ref a8, .int sd])), (a1, aI G 54 (fl R)), (a7, aI G 7 (cN (upN rf 3 (rf 3 + 1))))] H locs := hw
    subst hr
    have hc : cLays R = 3 := by unfold cLays; (repeat' split) <;> omega
    have hj : 3 ≠ 0 := by omega
    exact rt_i C hw () (by exact (anI_r hc hj _).symm) (by rw [rfU_r hc hj, selR_r hc hj]) dX2_lays_16
set_option maxRecDepth 100000 in
set_option maxHeartbeats 4000000 in
theorem kX2_setsUp (l : Launch) (G : GT) (h0 : Nat) (a1 : Nat) (a2 : Nat) (a3 : Nat) (a4 : Nat) (a5 : Nat) (a6 : Nat) (a7 : Nat) (a8 : Nat) (im : Nat) (lm : Nat) (rm : Nat) (pl : Nat) (sd : Int32) (R : RT) (rf : Nat → Nat) (x : Int32) (xz : Int) (h_x : x.toInt = xz) (hR : OK R) : Ct l yX2_setsUp cX2_setsUp 2 (some .int) 3 64 [.ref h0, .int x] G [(h0, .inr (2, [.ref a1, .ref a2, .ref a3, .ref a4, .int (nI im), .ref a5, .ref a6, .ref a7, .int (nI lm), .int (nI rm), .int (nI pl), .ref a8, .int sd])), (a1, aI G 54 (fl R)), (a7, aI G 7 (cN rf))] (QI G [(h0, .inr (2, [.ref a1, .ref a2, .ref a3, .ref a4, .int (nI im), .ref a5, .ref a6, .ref a7, .int (nI lm), .int (nI rm), .int (nI pl), .ref a8, .int sd])), (a1, aI G 54 (fl R)), (a7, aI G 7 (cN rf))] (fun (r : Int32) (u : Unit) => r = anI (cSets R xz) (if heldF (setU R xz.toNat) xz.toNat = true then 1 else 0)) (fun u => [(h0, .inr (2, [.ref a1, .ref a2, .ref a3, .ref a4, .int (nI im), .ref a5, .ref a6, .ref a7, .int (nI lm), .int (nI rm), .int (nI pl), .ref a8, .int sd])), (a1, aI G 54 (fl (selR (cSets R xz) (setU R xz.toNat) R))), (a7, aI G 7 (cN (rfU rf (cSets R xz))))])) := by
  refine en (by decide +kernel) (Nat.le_of_ble_eq_true rfl) ?_
  intro p e s m below meth c ls H locs C hl hw
  have xx := C.1
  have xb := C.2.1
  have hw : Wd G (fA [(h0, .inr (2, [.ref a1, .ref a2, .ref a3, .ref a4, .int (nI im), .ref a5, .ref a6, .ref a7, .int (nI lm), .int (nI rm), .int (nI pl), .ref a8, .int sd])), (a1, aI G 54 (fl R)), (a7, aI G 7 (cN rf))]) s [(h0, .inr (2, [.ref a1, .ref a2, .ref a3, .ref a4, .int (nI im), .ref a5, .ref a6, .ref a7, .int (nI lm), .int (nI rm), .int (nI pl), .ref a8, .int sd])), (a1, aI G 54 (fl R)), (a7, aI G 7 (cN rf))] H locs := hw
  have hl : lv_has ls 2 [(0, .ref h0), (1, .int x)] := hl
  obtain ⟨hn, hf0, hpr, hA⟩ := id hR
  refine lv_aload_n xx xb dX2_setsUp_0 rfl (lv_at hl 0 rfl) ?_
  refine lv_iload_n xx xb dX2_setsUp_1 rfl (lv_at hl 1 rfl) ?_
  have hM := kX2_isThing l G h0 a1 a2 a3 a4 a5 a6 a7 a8 im lm rm pl sd R x xz h_x (by first | assumption | omega)
  refine cv_i C hw hM yvX2_isThing ml_X2_105 0 rfl rfl rfl [0, 1] rfl rfl (fun _ => (rfl : ([h0, a1] : List Nat) = [h0, a1])) (by decide) ⟨Nat.zero_le _, Nat.zero_le _⟩ hl.1 rfl (Nat.le_of_ble_eq_true rfl) dX2_setsUp_2 (fun r _ H locs hr hw => ?_)
  have hw : Wd G (fA [(h0, .inr (2, [.ref a1, .ref a2, .ref a3, .ref a4, .int (nI im), .ref a5, .ref a6, .ref a7, .int (nI lm), .int (nI rm), .int (nI pl), .ref a8, .int sd])), (a1, aI G 54 (fl R)), (a7, aI G 7 (cN rf))]) s [(h0, .inr (2, [.ref a1, .ref a2, .ref a3, .ref a4, .int (nI im), .ref a5, .ref a6, .ref a7, .int (nI lm), .int (nI rm), .int (nI pl), .ref a8, .int sd])), (a1, aI G 54 (fl R)), (a7, aI G 7 (cN rf))] H locs := hw
  subst hr
  refine lv_if_ne (tgt := 14) xx xb dX2_setsUp_5 (by decide) (fun c_5 => ?_) (fun c_5 => ?_)
  · skip
    have c_5 := b1_c c_5
    obtain ⟨q1, q2, q3, q4, q5⟩ := hA xz.toNat (by omega)
    refine lv_aload_n xx xb dX2_setsUp_14 rfl (lv_at hl 0 rfl) ?_
    refine m_get C hw 0 rfl fk_X2_9 rfl dX2_setsUp_15 ?_
    refine lv_iload_n xx xb dX2_setsUp_18 rfl (lv_at hl 1 rfl) ?_
    refine re_i (nI xz.toNat) (ofT h_x (by omega) (by omega)) ?_
    refine lv_iconst (v := nI 3) xx xb dX2_setsUp_19 (by decide) ?_
    have hM := kX2_of l G xz.toNat 3 
    refine cs_i C hw hM ysX2_of ml_X2_44 rfl [] rfl rfl (fun _ => (rfl : ([] : List Nat) = [])) (by decide) ⟨Nat.zero_le _, Nat.zero_le _⟩ hl.1 rfl (Nat.le_of_ble_eq_true rfl) dX2_setsUp_20 (fun r _ H locs hr hw => ?_)
    have hw : Wd G (fA [(h0, .inr (2, [.ref a1, .ref a2, .ref a3, .ref a4, .int (nI im), .ref a5, .ref a6, .ref a7, .int (nI lm), .int (nI rm), .int (nI pl), .ref a8, .int sd])), (a1, aI G 54 (fl R)), (a7, aI G 7 (cN rf))]) s [(h0, .inr (2, [.ref a1, .ref a2, .ref a3, .ref a4, .int (nI im), .ref a5, .ref a6, .ref a7, .int (nI lm), .int (nI rm), .int (nI pl), .ref a8, .int sd])), (a1, aI G 54 (fl R)), (a7, aI G 7 (cN rf))] H locs := hw
    subst hr
    refine m_ald C hw 1 rfl (4 + 5 * xz.toNat + 3) rfl (by omega) (by decide) dX2_setsUp_23 ?_
    refine re_i (nI (R 4 xz.toNat)) (fl_k R (by decide) (by decide)) ?_
    refine lv_iconst (v := nI 1) xx xb dX2_setsUp_24 (by decide) ?_
    refine lv_icmp_eq (tgt := 35) xx xb dX2_setsUp_25 (by decide) (fun c_25 => ?_) (fun c_25 => ?_)
    · skip
      have c_25 := eq_c (tN (by omega)) (tN (by omega)) c_25
      refine lv_aload_n xx xb dX2_setsUp_35 rfl (lv_at hl 0 rfl) ?_
      refine m_get C hw 0 rfl fk_X2_9 rfl dX2_setsUp_36 ?_
      refine lv_iload_n xx xb dX2_setsUp_39 rfl (lv_at hl 1 rfl) ?_
      refine re_i (nI xz.toNat) (ofT h_x (by omega) (by omega)) ?_
      refine lv_iconst (v := nI 3) xx xb dX2_setsUp_40 (by decide) ?_
      have hM := kX2_of l G xz.toNat 3 
      refine cs_i C hw hM ysX2_of ml_X2_44 rfl [] rfl rfl (fun _ => (rfl : ([] : List Nat) = [])) (by decide) ⟨Nat.zero_le _, Nat.zero_le _⟩ hl.1 rfl (Nat.le_of_ble_eq_true rfl) dX2_setsUp_41 (fun r _ H locs hr hw => ?_)
      have hw : Wd G (fA [(h0, .inr (2, [.ref a1, .ref a2, .ref a3, .ref a4, .int (nI im), .ref a5, .ref a6, .ref a7, .int (nI lm), .int (nI rm), .int (nI pl), .ref a8, .int sd])), (a1, aI G 54 (fl R)), (a7, aI G 7 (cN rf))]) s [(h0, .inr (2, [.ref a1, .ref a2, .ref a3, .ref a4, .int (nI im), .ref a5, .ref a6, .ref a7, .int (nI lm), .int (nI rm), .int (nI pl), .ref a8, .int sd])), (a1, aI G 54 (fl R)), (a7, aI G 7 (cN rf))] H locs := hw
      subst hr
      refine lv_iconst (v := nI 0) xx xb dX2_setsUp_44 (by decide) ?_
      refine m_ast C hw 1 rfl (4 + 5 * xz.toNat + 3) rfl (by omega) (by decide) (fl (upR R 4 xz.toNat 0)) (fl_uk _ (by decide) (by decide)) dX2_setsUp_45 (fun H locs hw => ?_)
      have hw : Wd G (fA [(h0, .inr (2, [.ref a1, .ref a2, .ref a3, .ref a4, .int (nI im), .ref a5, .ref a6, .ref a7, .int (nI lm), .int (nI rm), .int (nI pl), .ref a8, .int sd])), (a1, aI G 54 (fl R)), (a7, aI G 7 (cN rf))]) s [(h0, .inr (2, [.ref a1, .ref a2, .ref a3, .ref a4, .int (nI im), .ref a5, .ref a6, .ref a7, .int (nI lm), .int (nI rm), .int (nI pl), .ref a8, .int sd])), (a1, aI G 54 (fl (upR R 4 xz.toNat 0))), (a7, aI G 7 (cN rf))] H locs := hw
      refine lv_aload_n xx xb dX2_setsUp_46 rfl (lv_at hl 0 rfl) ?_
      refine m_get C hw 0 rfl fk_X2_9 rfl dX2_setsUp_47 ?_
      refine lv_iload_n xx xb dX2_setsUp_50 rfl (lv_at hl 1 rfl) ?_
      refine re_i (nI xz.toNat) (ofT h_x (by omega) (by omega)) ?_
      refine lv_iconst (v := nI 4) xx xb dX2_setsUp_51 (by decide) ?_
      have hM := kX2_of l G xz.toNat 4 
      refine cs_i C hw hM ysX2_of ml_X2_44 rfl [] rfl rfl (fun _ => (rfl : ([] : List Nat) = [])) (by decide) ⟨Nat.zero_le _, Nat.zero_le _⟩ hl.1 rfl (Nat.le_of_ble_eq_true rfl) dX2_setsUp_52 (fun r _ H locs hr hw => ?_)
      have hw : Wd G (fA [(h0, .inr (2, [.ref a1, .ref a2, .ref a3, .ref a4, .int (nI im), .ref a5, .ref a6, .ref a7, .int (nI lm), .int (nI rm), .int (nI pl), .ref a8, .int sd])), (a1, aI G 54 (fl R)), (a7, aI G 7 (cN rf))]) s [(h0, .inr (2, [.ref a1, .ref a2, .ref a3, .ref a4, .int (nI im), .ref a5, .ref a6, .ref a7, .int (nI lm), .int (nI rm), .int (nI pl), .ref a8, .int sd])), (a1, aI G 54 (fl (upR R 4 xz.toNat 0))), (a7, aI G 7 (cN rf))] H locs := hw
      subst hr
      refine lv_iconst (v := nI 0) xx xb dX2_setsUp_55 (by decide) ?_
      refine m_ast C hw 1 rfl (4 + 5 * xz.toNat + 4) rfl (by omega) (by decide) (fl (upR (upR R 4 xz.toNat 0) 5 xz.toNat 0)) (fl_uk _ (by decide) (by decide)) dX2_setsUp_56 (fun H locs hw => ?_)
      have hw : Wd G (fA [(h0, .inr (2, [.ref a1, .ref a2, .ref a3, .ref a4, .int (nI im), .ref a5, .ref a6, .ref a7, .int (nI lm), .int (nI rm), .int (nI pl), .ref a8, .int sd])), (a1, aI G 54 (fl R)), (a7, aI G 7 (cN rf))]) s [(h0, .inr (2, [.ref a1, .ref a2, .ref a3, .ref a4, .int (nI im), .ref a5, .ref a6, .ref a7, .int (nI lm), .int (nI rm), .int (nI pl), .ref a8, .int sd])), (a1, aI G 54 (fl (upR (upR R 4 xz.toNat 0) 5 xz.toNat 0))), (a7, aI G 7 (cN rf))] H locs := hw
      have hw : Wd G (fA [(h0, .inr (2, [.ref a1, .ref a2, .ref a3, .ref a4, .int (nI im), .ref a5, .ref a6, .ref a7, .int (nI lm), .int (nI rm), .int (nI pl), .ref a8, .int sd])), (a1, aI G 54 (fl R)), (a7, aI G 7 (cN rf))]) s [(h0, .inr (2, [.ref a1, .ref a2, .ref a3, .ref a4, .int (nI im), .ref a5, .ref a6, .ref a7, .int (nI lm), .int (nI rm), .int (nI pl), .ref a8, .int sd])), (a1, aI G 54 (fl (setU R xz.toNat))), (a7, aI G 7 (cN rf))] H locs := hw
      refine lv_aload_n xx xb dX2_setsUp_57 rfl (lv_at hl 0 rfl) ?_
      refine m_get C hw 0 rfl fk_X2_9 rfl dX2_setsUp_58 ?_
      refine lv_iload_n xx xb dX2_setsUp_61 rfl (lv_at hl 1 rfl) ?_
      refine re_i (nI xz.toNat) (ofT h_x (by omega) (by omega)) ?_
      have hM := kX2_isHeld l G a1 (setU R xz.toNat) xz.toNat (OK_setU _ hR) (by show xz.toNat < R 0 0; omega)
      refine cs_i C hw hM ysX2_isHeld ml_X2_70 rfl [1] rfl rfl (fun _ => (rfl : ([a1] : List Nat) = [a1])) (by decide) ⟨Nat.zero_le _, Nat.zero_le _⟩ hl.1 rfl (Nat.le_of_ble_eq_true rfl) dX2_setsUp_62 (fun r _ H locs hr hw => ?_)
      have hw : Wd G (fA [(h0, .inr (2, [.ref a1, .ref a2, .ref a3, .ref a4, .int (nI im), .ref a5, .ref a6, .ref a7, .int (nI lm), .int (nI rm), .int (nI pl), .ref a8, .int sd])), (a1, aI G 54 (fl R)), (a7, aI G 7 (cN rf))]) s [(h0, .inr (2, [.ref a1, .ref a2, .ref a3, .ref a4, .int (nI im), .ref a5, .ref a6, .ref a7, .int (nI lm), .int (nI rm), .int (nI pl), .ref a8, .int sd])), (a1, aI G 54 (fl (setU R xz.toNat))), (a7, aI G 7 (cN rf))] H locs := hw
      subst hr
      refine lv_if_eq (tgt := 72) xx xb dX2_setsUp_65 (by decide) (fun c_65 => ?_) (fun c_65 => ?_)
      · skip
        have c_65 := b0_c c_65
        refine lv_iconst (v := nI 0) xx xb dX2_setsUp_72 (by decide) ?_
        refine re_i (if heldF (setU R xz.toNat) xz.toNat = true then 1 else 0) (by first | exact r1 c_65 | exact r0 c_65) ?_
        have hc : cSets R xz = 0 := by unfold cSets; (repeat' split) <;> omega
        exact rt_i C hw () (by exact (anI_0 hc _).symm) (by rw [rfU_0 hc, selR_0 hc]) dX2_setsUp_73
      · skip
        have c_65 := b1_c c_65
        refine lv_iconst (v := nI 1) xx xb dX2_setsUp_68 (by decide) ?_
        refine lv_goto (tgt := 73) xx xb dX2_setsUp_69 (by decide) ?_
        refine re_i (if heldF (setU R xz.toNat) xz.toNat = true then 1 else 0) (by first | exact r1 c_65 | exact r0 c_65) ?_
        have hc : cSets R xz = 0 := by unfold cSets; (repeat' split) <;> omega
        exact rt_i C hw () (by exact (anI_0 hc _).symm) (by rw [rfU_0 hc, selR_0 hc]) dX2_setsUp_73
    · skip
      have c_25 := ne_c (tN (by omega)) (tN (by omega)) c_25
      refine lv_aload_n xx xb dX2_setsUp_28 rfl (lv_at hl 0 rfl) ?_
      refine lv_bipush (v := (-3)) xx xb dX2_setsUp_29 (by decide) ?_
      have hM := kX2_no l G h0 a1 a2 a3 a4 a5 a6 a7 a8 im lm rm pl sd rf 3 (by first | assumption | omega)
      refine cv_i C hw hM yvX2_no ml_X2_36 0 rfl rfl rfl [0, 2] rfl rfl (fun _ => (rfl : ([h0, a7] : List Nat) = [h0, a7])) (by decide) ⟨Nat.zero_le _, Nat.zero_le _⟩ hl.1 rfl (Nat.le_of_ble_eq_true rfl) dX2_setsUp_31 (fun r _ H locs hr hw => ?_)
      have hw : Wd G (fA [(h0, .inr (2, [.ref a1, .ref a2, .ref a3, .ref a4, .int (nI im), .ref a5, .ref a6, .ref a7, .int (nI lm), .int (nI rm), .int (nI pl), .ref a8, .int sd])), (a1, aI G 54 (fl R)), (a7, aI G 7 (cN rf))]) s [(h0, .inr (2, [.ref a1, .ref a2, .ref a3, .ref a4, .int (nI im), .ref a5, .ref a6, .ref a7, .int (nI lm), .int (nI rm), .int (nI pl), .ref a8, .int sd])), (a1, aI G 54 (fl R)), (a7, aI G 7 (cN (upN rf 3 (rf 3 + 1))))] H locs := hw
      subst hr
      have hc : cSets R xz = 3 := by unfold cSets; (repeat' split) <;> omega
      have hj : 3 ≠ 0 := by omega
      exact rt_i C hw () (by exact (anI_r hc hj _).symm) (by rw [rfU_r hc hj, selR_r hc hj]) dX2_setsUp_34
  · skip
    have c_5 := b0_c c_5
    refine lv_aload_n xx xb dX2_setsUp_8 rfl (lv_at hl 0 rfl) ?_
    refine lv_iconst (v := (-1)) xx xb dX2_setsUp_9 (by decide) ?_
    have hM := kX2_no l G h0 a1 a2 a3 a4 a5 a6 a7 a8 im lm rm pl sd rf 1 (by first | assumption | omega)
    refine cv_i C hw hM yvX2_no ml_X2_36 0 rfl rfl rfl [0, 2] rfl rfl (fun _ => (rfl : ([h0, a7] : List Nat) = [h0, a7])) (by decide) ⟨Nat.zero_le _, Nat.zero_le _⟩ hl.1 rfl (Nat.le_of_ble_eq_true rfl) dX2_setsUp_10 (fun r _ H locs hr hw => ?_)
    have hw : Wd G (fA [(h0, .inr (2, [.ref a1, .ref a2, .ref a3, .ref a4, .int (nI im), .ref a5, .ref a6, .ref a7, .int (nI lm), .int (nI rm), .int (nI pl), .ref a8, .int sd])), (a1, aI G 54 (fl R)), (a7, aI G 7 (cN rf))]) s [(h0, .inr (2, [.ref a1, .ref a2, .ref a3, .ref a4, .int (nI im), .ref a5, .ref a6, .ref a7, .int (nI lm), .int (nI rm), .int (nI pl), .ref a8, .int sd])), (a1, aI G 54 (fl R)), (a7, aI G 7 (cN (upN rf 1 (rf 1 + 1))))] H locs := hw
    subst hr
    have hc : cSets R xz = 1 := by unfold cSets; (repeat' split) <;> omega
    have hj : 1 ≠ 0 := by omega
    exact rt_i C hw () (by exact (anI_r hc hj _).symm) (by rw [rfU_r hc hj, selR_r hc hj]) dX2_setsUp_13
set_option maxRecDepth 100000 in
set_option maxHeartbeats 4000000 in
theorem kX2_turn (l : Launch) (G : GT) (h0 : Nat) (a1 : Nat) (a2 : Nat) (a3 : Nat) (a4 : Nat) (a5 : Nat) (a6 : Nat) (a7 : Nat) (a8 : Nat) (im : Nat) (lm : Nat) (rm : Nat) (pl : Nat) (sd : Int32) (R : RT) (rf : Nat → Nat) (x : Int32) (xz : Int) (k : Int32) (kz : Int) (f : Int32) (fz : Int) (h_x : x.toInt = xz) (h_k : k.toInt = kz) (h_f : f.toInt = fz) (hR : OK R) : Ct l yX2_turn cX2_turn 6 (some .int) 2 43 [.ref h0, .int x, .int k, .int f] G [(h0, .inr (2, [.ref a1, .ref a2, .ref a3, .ref a4, .int (nI im), .ref a5, .ref a6, .ref a7, .int (nI lm), .int (nI rm), .int (nI pl), .ref a8, .int sd])), (a1, aI G 54 (fl R)), (a7, aI G 7 (cN rf))] (QI G [(h0, .inr (2, [.ref a1, .ref a2, .ref a3, .ref a4, .int (nI im), .ref a5, .ref a6, .ref a7, .int (nI lm), .int (nI rm), .int (nI pl), .ref a8, .int sd])), (a1, aI G 54 (fl R)), (a7, aI G 7 (cN rf))] (fun (r : Int32) (u : Unit) => r = anI (cTurn R xz kz fz) (nI (10 * R 1 xz.toNat + R 2 xz.toNat))) (fun u => [(h0, .inr (2, [.ref a1, .ref a2, .ref a3, .ref a4, .int (nI im), .ref a5, .ref a6, .ref a7, .int (nI lm), .int (nI rm), .int (nI pl), .ref a8, .int sd])), (a1, aI G 54 (fl (selR (cTurn R xz kz fz) (turF R xz.toNat kz.toNat fz.toNat) R))), (a7, aI G 7 (cN (rfU rf (cTurn R xz kz fz))))])) := by
  refine en (by decide +kernel) (Nat.le_of_ble_eq_true rfl) ?_
  intro p e s m below meth c ls H locs C hl hw
  have xx := C.1
  have xb := C.2.1
  have hw : Wd G (fA [(h0, .inr (2, [.ref a1, .ref a2, .ref a3, .ref a4, .int (nI im), .ref a5, .ref a6, .ref a7, .int (nI lm), .int (nI rm), .int (nI pl), .ref a8, .int sd])), (a1, aI G 54 (fl R)), (a7, aI G 7 (cN rf))]) s [(h0, .inr (2, [.ref a1, .ref a2, .ref a3, .ref a4, .int (nI im), .ref a5, .ref a6, .ref a7, .int (nI lm), .int (nI rm), .int (nI pl), .ref a8, .int sd])), (a1, aI G 54 (fl R)), (a7, aI G 7 (cN rf))] H locs := hw
  have hl : lv_has ls 6 [(0, .ref h0), (1, .int x), (2, .int k), (3, .int f)] := hl
  obtain ⟨hn, hf0, hpr, hA⟩ := id hR
  have hb9 := wbN_le fz 9
  refine lv_aload_n xx xb dX2_turn_0 rfl (lv_at hl 0 rfl) ?_
  refine lv_iload_n xx xb dX2_turn_1 rfl (lv_at hl 1 rfl) ?_
  have hM := kX2_isThing l G h0 a1 a2 a3 a4 a5 a6 a7 a8 im lm rm pl sd R x xz h_x (by first | assumption | omega)
  refine cv_i C hw hM yvX2_isThing ml_X2_105 0 rfl rfl rfl [0, 1] rfl rfl (fun _ => (rfl : ([h0, a1] : List Nat) = [h0, a1])) (by decide) ⟨Nat.zero_le _, Nat.zero_le _⟩ hl.1 rfl (Nat.le_of_ble_eq_true rfl) dX2_turn_2 (fun r _ H locs hr hw => ?_)
  have hw : Wd G (fA [(h0, .inr (2, [.ref a1, .ref a2, .ref a3, .ref a4, .int (nI im), .ref a5, .ref a6, .ref a7, .int (nI lm), .int (nI rm), .int (nI pl), .ref a8, .int sd])), (a1, aI G 54 (fl R)), (a7, aI G 7 (cN rf))]) s [(h0, .inr (2, [.ref a1, .ref a2, .ref a3, .ref a4, .int (nI im), .ref a5, .ref a6, .ref a7, .int (nI lm), .int (nI rm), .int (nI pl), .ref a8, .int sd])), (a1, aI G 54 (fl R)), (a7, aI G 7 (cN rf))] H locs := hw
  subst hr
  refine lv_if_ne (tgt := 12) xx xb dX2_turn_5 (by decide) (fun c_5 => ?_) (fun c_5 => ?_)
  · skip
    have c_5 := b1_c c_5
    refine lv_iload_n xx xb dX2_turn_12 rfl (lv_at hl 2 rfl) ?_
    refine lv_iconst (v := nI 0) xx xb dX2_turn_13 (by decide) ?_
    refine lv_iconst (v := nI 5) xx xb dX2_turn_14 (by decide) ?_
    have hM := kX2_isIn l G k kz (nI 0) 0 (nI 5) 5 h_k (tN (by omega)) (tN (by omega))
    refine cs_i C hw hM ysX2_isIn ml_X2_40 rfl [] rfl rfl (fun _ => (rfl : ([] : List Nat) = [])) (by decide) ⟨Nat.zero_le _, Nat.zero_le _⟩ hl.1 rfl (Nat.le_of_ble_eq_true rfl) dX2_turn_15 (fun r _ H locs hr hw => ?_)
    have hw : Wd G (fA [(h0, .inr (2, [.ref a1, .ref a2, .ref a3, .ref a4, .int (nI im), .ref a5, .ref a6, .ref a7, .int (nI lm), .int (nI rm), .int (nI pl), .ref a8, .int sd])), (a1, aI G 54 (fl R)), (a7, aI G 7 (cN rf))]) s [(h0, .inr (2, [.ref a1, .ref a2, .ref a3, .ref a4, .int (nI im), .ref a5, .ref a6, .ref a7, .int (nI lm), .int (nI rm), .int (nI pl), .ref a8, .int sd])), (a1, aI G 54 (fl R)), (a7, aI G 7 (cN rf))] H locs := hw
    subst hr
    refine lv_if_ne (tgt := 26) xx xb dX2_turn_18 (by decide) (fun c_18 => ?_) (fun c_18 => ?_)
    · skip
      have c_18 := b1_c c_18
      refine lv_iload_n xx xb dX2_turn_26 rfl (lv_at hl 3 rfl) ?_
      refine lv_bipush (v := nI 9) xx xb dX2_turn_27 (by decide) ?_
      have hM := kX2_wrongBy l G f fz (nI 9) 9 h_f (tN (by omega))
      refine cs_i C hw hM ysX2_wrongBy ml_X2_128 rfl [] rfl rfl (fun _ => (rfl : ([] : List Nat) = [])) (by decide) ⟨Nat.zero_le _, Nat.zero_le _⟩ hl.1 rfl (Nat.le_of_ble_eq_true rfl) dX2_turn_29 (fun r _ H locs hr hw => ?_)
      have hw : Wd G (fA [(h0, .inr (2, [.ref a1, .ref a2, .ref a3, .ref a4, .int (nI im), .ref a5, .ref a6, .ref a7, .int (nI lm), .int (nI rm), .int (nI pl), .ref a8, .int sd])), (a1, aI G 54 (fl R)), (a7, aI G 7 (cN rf))]) s [(h0, .inr (2, [.ref a1, .ref a2, .ref a3, .ref a4, .int (nI im), .ref a5, .ref a6, .ref a7, .int (nI lm), .int (nI rm), .int (nI pl), .ref a8, .int sd])), (a1, aI G 54 (fl R)), (a7, aI G 7 (cN rf))] H locs := hw
      subst hr
      refine lv_istore (lv' := [(4, .int (nG (wbN fz 9))), (0, .ref h0), (1, .int x), (2, .int k), (3, .int f)]) xx xb dX2_turn_32 hl (by decide) rfl (fun ls hl => ?_)
      refine lv_iload xx xb dX2_turn_34 (lv_at hl 0 rfl) ?_
      refine lv_if_eq (tgt := 46) xx xb dX2_turn_36 (by decide) (fun c_36 => ?_) (fun c_36 => ?_)
      · skip
        have c_36 := g0_c (by omega) c_36
        obtain ⟨g1, g2⟩ := wbN_0 (z := fz) (a := 9) (by omega)
        refine lv_bipush (v := nI 10) xx xb dX2_turn_46 (by decide) ?_
        refine lv_aload_n xx xb dX2_turn_48 rfl (lv_at hl 1 rfl) ?_
        refine m_get C hw 0 rfl fk_X2_9 rfl dX2_turn_49 ?_
        refine lv_iload_n xx xb dX2_turn_52 rfl (lv_at hl 2 rfl) ?_
        refine re_i (nI xz.toNat) (ofT h_x (by omega) (by omega)) ?_
        refine lv_iconst (v := nI 0) xx xb dX2_turn_53 (by decide) ?_
        have hM := kX2_of l G xz.toNat 0 
        refine cs_i C hw hM ysX2_of ml_X2_44 rfl [] rfl rfl (fun _ => (rfl : ([] : List Nat) = [])) (by decide) ⟨Nat.zero_le _, Nat.zero_le _⟩ hl.1 rfl (Nat.le_of_ble_eq_true rfl) dX2_turn_54 (fun r _ H locs hr hw => ?_)
        have hw : Wd G (fA [(h0, .inr (2, [.ref a1, .ref a2, .ref a3, .ref a4, .int (nI im), .ref a5, .ref a6, .ref a7, .int (nI lm), .int (nI rm), .int (nI pl), .ref a8, .int sd])), (a1, aI G 54 (fl R)), (a7, aI G 7 (cN rf))]) s [(h0, .inr (2, [.ref a1, .ref a2, .ref a3, .ref a4, .int (nI im), .ref a5, .ref a6, .ref a7, .int (nI lm), .int (nI rm), .int (nI pl), .ref a8, .int sd])), (a1, aI G 54 (fl R)), (a7, aI G 7 (cN rf))] H locs := hw
        subst hr
        refine m_ald C hw 1 rfl (4 + 5 * xz.toNat + 0) rfl (by omega) (by decide) dX2_turn_57 ?_
        refine re_i (nI (R 1 xz.toNat)) (fl_k R (by decide) (by decide)) ?_
        refine lv_imul xx xb dX2_turn_58 ?_
        refine re_i (nI (10 * (R 1 xz.toNat))) (pk_mul _ _) ?_
        refine lv_aload_n xx xb dX2_turn_59 rfl (lv_at hl 1 rfl) ?_
        refine m_get C hw 0 rfl fk_X2_9 rfl dX2_turn_60 ?_
        refine lv_iload_n xx xb dX2_turn_63 rfl (lv_at hl 2 rfl) ?_
        refine re_i (nI xz.toNat) (ofT h_x (by omega) (by omega)) ?_
        refine lv_iconst (v := nI 1) xx xb dX2_turn_64 (by decide) ?_
        have hM := kX2_of l G xz.toNat 1 
        refine cs_i C hw hM ysX2_of ml_X2_44 rfl [] rfl rfl (fun _ => (rfl : ([] : List Nat) = [])) (by decide) ⟨Nat.zero_le _, Nat.zero_le _⟩ hl.1 rfl (Nat.le_of_ble_eq_true rfl) dX2_turn_65 (fun r _ H locs hr hw => ?_)
        have hw : Wd G (fA [(h0, .inr (2, [.ref a1, .ref a2, .ref a3, .ref a4, .int (nI im), .ref a5, .ref a6, .ref a7, .int (nI lm), .int (nI rm), .int (nI pl), .ref a8, .int sd])), (a1, aI G 54 (fl R)), (a7, aI G 7 (cN rf))]) s [(h0, .inr (2, [.ref a1, .ref a2, .ref a3, .ref a4, .int (nI im), .ref a5, .ref a6, .ref a7, .int (nI lm), .int (nI rm), .int (nI pl), .ref a8, .int sd])), (a1, aI G 54 (fl R)), (a7, aI G 7 (cN rf))] H locs := hw
        subst hr
        refine m_ald C hw 1 rfl (4 + 5 * xz.toNat + 1) rfl (by omega) (by decide) dX2_turn_68 ?_
        refine re_i (nI (R 2 xz.toNat)) (fl_k R (by decide) (by decide)) ?_
        refine lv_iadd xx xb dX2_turn_69 ?_
        refine re_i (nI ((10 * (R 1 xz.toNat)) + (R 2 xz.toNat))) (nI_add _ _) ?_
        refine lv_istore (lv' := [(5, .int (nI ((10 * (R 1 xz.toNat)) + (R 2 xz.toNat)))), (4, .int (nG (wbN fz 9))), (0, .ref h0), (1, .int x), (2, .int k), (3, .int f)]) xx xb dX2_turn_70 hl (by decide) rfl (fun ls hl => ?_)
        refine lv_aload_n xx xb dX2_turn_72 rfl (lv_at hl 2 rfl) ?_
        refine m_get C hw 0 rfl fk_X2_9 rfl dX2_turn_73 ?_
        refine lv_iload_n xx xb dX2_turn_76 rfl (lv_at hl 3 rfl) ?_
        refine re_i (nI xz.toNat) (ofT h_x (by omega) (by omega)) ?_
        refine lv_iconst (v := nI 0) xx xb dX2_turn_77 (by decide) ?_
        have hM := kX2_of l G xz.toNat 0 
        refine cs_i C hw hM ysX2_of ml_X2_44 rfl [] rfl rfl (fun _ => (rfl : ([] : List Nat) = [])) (by decide) ⟨Nat.zero_le _, Nat.zero_le _⟩ hl.1 rfl (Nat.le_of_ble_eq_true rfl) dX2_turn_78 (fun r _ H locs hr hw => ?_)
        have hw : Wd G (fA [(h0, .inr (2, [.ref a1, .ref a2, .ref a3, .ref a4, .int (nI im), .ref a5, .ref a6, .ref a7, .int (nI lm), .int (nI rm), .int (nI pl), .ref a8, .int sd])), (a1, aI G 54 (fl R)), (a7, aI G 7 (cN rf))]) s [(h0, .inr (2, [.ref a1, .ref a2, .ref a3, .ref a4, .int (nI im), .ref a5, .ref a6, .ref a7, .int (nI lm), .int (nI rm), .int (nI pl), .ref a8, .int sd])), (a1, aI G 54 (fl R)), (a7, aI G 7 (cN rf))] H locs := hw
        subst hr
        refine lv_iload_n xx xb dX2_turn_81 rfl (lv_at hl 4 rfl) ?_
        refine re_i (nI kz.toNat) (ofT h_k (by omega) (by omega)) ?_
        refine m_ast C hw 1 rfl (4 + 5 * xz.toNat + 0) rfl (by omega) (by decide) (fl (upR R 1 xz.toNat kz.toNat)) (fl_uk _ (by decide) (by decide)) dX2_turn_82 (fun H locs hw => ?_)
        have hw : Wd G (fA [(h0, .inr (2, [.ref a1, .ref a2, .ref a3, .ref a4, .int (nI im), .ref a5, .ref a6, .ref a7, .int (nI lm), .int (nI rm), .int (nI pl), .ref a8, .int sd])), (a1, aI G 54 (fl R)), (a7, aI G 7 (cN rf))]) s [(h0, .inr (2, [.ref a1, .ref a2, .ref a3, .ref a4, .int (nI im), .ref a5, .ref a6, .ref a7, .int (nI lm), .int (nI rm), .int (nI pl), .ref a8, .int sd])), (a1, aI G 54 (fl (upR R 1 xz.toNat kz.toNat))), (a7, aI G 7 (cN rf))] H locs := hw
        refine lv_aload_n xx xb dX2_turn_83 rfl (lv_at hl 2 rfl) ?_
        refine m_get C hw 0 rfl fk_X2_9 rfl dX2_turn_84 ?_
        refine lv_iload_n xx xb dX2_turn_87 rfl (lv_at hl 3 rfl) ?_
        refine re_i (nI xz.toNat) (ofT h_x (by omega) (by omega)) ?_
        refine lv_iconst (v := nI 1) xx xb dX2_turn_88 (by decide) ?_
        have hM := kX2_of l G xz.toNat 1 
        refine cs_i C hw hM ysX2_of ml_X2_44 rfl [] rfl rfl (fun _ => (rfl : ([] : List Nat) = [])) (by decide) ⟨Nat.zero_le _, Nat.zero_le _⟩ hl.1 rfl (Nat.le_of_ble_eq_true rfl) dX2_turn_89 (fun r _ H locs hr hw => ?_)
        have hw : Wd G (fA [(h0, .inr (2, [.ref a1, .ref a2, .ref a3, .ref a4, .int (nI im), .ref a5, .ref a6, .ref a7, .int (nI lm), .int (nI rm), .int (nI pl), .ref a8, .int sd])), (a1, aI G 54 (fl R)), (a7, aI G 7 (cN rf))]) s [(h0, .inr (2, [.ref a1, .ref a2, .ref a3, .ref a4, .int (nI im), .ref a5, .ref a6, .ref a7, .int (nI lm), .int (nI rm), .int (nI pl), .ref a8, .int sd])), (a1, aI G 54 (fl (upR R 1 xz.toNat kz.toNat))), (a7, aI G 7 (cN rf))] H locs := hw
        subst hr
        refine lv_iload_n xx xb dX2_turn_92 rfl (lv_at hl 5 rfl) ?_
        refine re_i (nI fz.toNat) (ofT h_f (by omega) (by omega)) ?_
        refine m_ast C hw 1 rfl (4 + 5 * xz.toNat + 1) rfl (by omega) (by decide) (fl (upR (upR R 1 xz.toNat kz.toNat) 2 xz.toNat fz.toNat)) (fl_uk _ (by decide) (by decide)) dX2_turn_93 (fun H locs hw => ?_)
        have hw : Wd G (fA [(h0, .inr (2, [.ref a1, .ref a2, .ref a3, .ref a4, .int (nI im), .ref a5, .ref a6, .ref a7, .int (nI lm), .int (nI rm), .int (nI pl), .ref a8, .int sd])), (a1, aI G 54 (fl R)), (a7, aI G 7 (cN rf))]) s [(h0, .inr (2, [.ref a1, .ref a2, .ref a3, .ref a4, .int (nI im), .ref a5, .ref a6, .ref a7, .int (nI lm), .int (nI rm), .int (nI pl), .ref a8, .int sd])), (a1, aI G 54 (fl (upR (upR R 1 xz.toNat kz.toNat) 2 xz.toNat fz.toNat))), (a7, aI G 7 (cN rf))] H locs := hw
        have hw : Wd G (fA [(h0, .inr (2, [.ref a1, .ref a2, .ref a3, .ref a4, .int (nI im), .ref a5, .ref a6, .ref a7, .int (nI lm), .int (nI rm), .int (nI pl), .ref a8, .int sd])), (a1, aI G 54 (fl R)), (a7, aI G 7 (cN rf))]) s [(h0, .inr (2, [.ref a1, .ref a2, .ref a3, .ref a4, .int (nI im), .ref a5, .ref a6, .ref a7, .int (nI lm), .int (nI rm), .int (nI pl), .ref a8, .int sd])), (a1, aI G 54 (fl (turF R xz.toNat kz.toNat fz.toNat))), (a7, aI G 7 (cN rf))] H locs := hw
        refine lv_iload xx xb dX2_turn_94 (lv_at hl 0 rfl) ?_
        have hc : cTurn R xz kz fz = 0 := by unfold cTurn; (repeat' split) <;> omega
        exact rt_i C hw () (by exact (anI_0 hc _).symm) (by rw [rfU_0 hc, selR_0 hc]) dX2_turn_96
      · skip
        have c_36 := g0_n c_36
        refine lv_aload_n xx xb dX2_turn_39 rfl (lv_at hl 1 rfl) ?_
        refine lv_iload xx xb dX2_turn_40 (lv_at hl 0 rfl) ?_
        have hM := kX2_no l G h0 a1 a2 a3 a4 a5 a6 a7 a8 im lm rm pl sd rf (wbN fz 9) (by omega)
        refine cv_i C hw hM yvX2_no ml_X2_36 0 rfl rfl rfl [0, 2] rfl rfl (fun _ => (rfl : ([h0, a7] : List Nat) = [h0, a7])) (by decide) ⟨Nat.zero_le _, Nat.zero_le _⟩ hl.1 rfl (Nat.le_of_ble_eq_true rfl) dX2_turn_42 (fun r _ H locs hr hw => ?_)
        have hw : Wd G (fA [(h0, .inr (2, [.ref a1, .ref a2, .ref a3, .ref a4, .int (nI im), .ref a5, .ref a6, .ref a7, .int (nI lm), .int (nI rm), .int (nI pl), .ref a8, .int sd])), (a1, aI G 54 (fl R)), (a7, aI G 7 (cN rf))]) s [(h0, .inr (2, [.ref a1, .ref a2, .ref a3, .ref a4, .int (nI im), .ref a5, .ref a6, .ref a7, .int (nI lm), .int (nI rm), .int (nI pl), .ref a8, .int sd])), (a1, aI G 54 (fl R)), (a7, aI G 7 (cN (upN rf (wbN fz 9) (rf (wbN fz 9) + 1))))] H locs := hw
        subst hr
        have hc : cTurn R xz kz fz = (wbN fz 9) := by unfold cTurn; (repeat' split) <;> omega
        have hj : (wbN fz 9) ≠ 0 := by omega
        exact rt_i C hw () (by exact (anI_r hc hj _).symm) (by rw [rfU_r hc hj, selR_r hc hj]) dX2_turn_45
    · skip
      have c_18 := b0_c c_18
      refine lv_bipush (v := (-2)) xx xb dX2_turn_21 (by decide) ?_
      refine lv_goto (tgt := 32) xx xb dX2_turn_23 (by decide) ?_
      refine lv_istore (lv' := [(4, .int (-2)), (0, .ref h0), (1, .int x), (2, .int k), (3, .int f)]) xx xb dX2_turn_32 hl (by decide) rfl (fun ls hl => ?_)
      refine lv_iload xx xb dX2_turn_34 (lv_at hl 0 rfl) ?_
      refine lv_if_eq (tgt := 46) xx xb dX2_turn_36 (by decide) (fun c_36 => ?_) (fun c_36 => ?_)
      · skip
        exact absurd c_36 (by decide)
      · skip
        refine lv_aload_n xx xb dX2_turn_39 rfl (lv_at hl 1 rfl) ?_
        refine lv_iload xx xb dX2_turn_40 (lv_at hl 0 rfl) ?_
        have hM := kX2_no l G h0 a1 a2 a3 a4 a5 a6 a7 a8 im lm rm pl sd rf 2 (by omega)
        refine cv_i C hw hM yvX2_no ml_X2_36 0 rfl rfl rfl [0, 2] rfl rfl (fun _ => (rfl : ([h0, a7] : List Nat) = [h0, a7])) (by decide) ⟨Nat.zero_le _, Nat.zero_le _⟩ hl.1 rfl (Nat.le_of_ble_eq_true rfl) dX2_turn_42 (fun r _ H locs hr hw => ?_)
        have hw : Wd G (fA [(h0, .inr (2, [.ref a1, .ref a2, .ref a3, .ref a4, .int (nI im), .ref a5, .ref a6, .ref a7, .int (nI lm), .int (nI rm), .int (nI pl), .ref a8, .int sd])), (a1, aI G 54 (fl R)), (a7, aI G 7 (cN rf))]) s [(h0, .inr (2, [.ref a1, .ref a2, .ref a3, .ref a4, .int (nI im), .ref a5, .ref a6, .ref a7, .int (nI lm), .int (nI rm), .int (nI pl), .ref a8, .int sd])), (a1, aI G 54 (fl R)), (a7, aI G 7 (cN (upN rf 2 (rf 2 + 1))))] H locs := hw
        subst hr
        have hc : cTurn R xz kz fz = 2 := by unfold cTurn; (repeat' split) <;> omega
        have hj : 2 ≠ 0 := by omega
        exact rt_i C hw () (by exact (anI_r hc hj _).symm) (by rw [rfU_r hc hj, selR_r hc hj]) dX2_turn_45
  · skip
    have c_5 := b0_c c_5
    refine lv_iconst (v := (-1)) xx xb dX2_turn_8 (by decide) ?_
    refine lv_goto (tgt := 32) xx xb dX2_turn_9 (by decide) ?_
    refine lv_istore (lv' := [(4, .int (-1)), (0, .ref h0), (1, .int x), (2, .int k), (3, .int f)]) xx xb dX2_turn_32 hl (by decide) rfl (fun ls hl => ?_)
    refine lv_iload xx xb dX2_turn_34 (lv_at hl 0 rfl) ?_
    refine lv_if_eq (tgt := 46) xx xb dX2_turn_36 (by decide) (fun c_36 => ?_) (fun c_36 => ?_)
    · skip
      exact absurd c_36 (by decide)
    · skip
      refine lv_aload_n xx xb dX2_turn_39 rfl (lv_at hl 1 rfl) ?_
      refine lv_iload xx xb dX2_turn_40 (lv_at hl 0 rfl) ?_
      have hM := kX2_no l G h0 a1 a2 a3 a4 a5 a6 a7 a8 im lm rm pl sd rf 1 (by omega)
      refine cv_i C hw hM yvX2_no ml_X2_36 0 rfl rfl rfl [0, 2] rfl rfl (fun _ => (rfl : ([h0, a7] : List Nat) = [h0, a7])) (by decide) ⟨Nat.zero_le _, Nat.zero_le _⟩ hl.1 rfl (Nat.le_of_ble_eq_true rfl) dX2_turn_42 (fun r _ H locs hr hw => ?_)
      have hw : Wd G (fA [(h0, .inr (2, [.ref a1, .ref a2, .ref a3, .ref a4, .int (nI im), .ref a5, .ref a6, .ref a7, .int (nI lm), .int (nI rm), .int (nI pl), .ref a8, .int sd])), (a1, aI G 54 (fl R)), (a7, aI G 7 (cN rf))]) s [(h0, .inr (2, [.ref a1, .ref a2, .ref a3, .ref a4, .int (nI im), .ref a5, .ref a6, .ref a7, .int (nI lm), .int (nI rm), .int (nI pl), .ref a8, .int sd])), (a1, aI G 54 (fl R)), (a7, aI G 7 (cN (upN rf 1 (rf 1 + 1))))] H locs := hw
      subst hr
      have hc : cTurn R xz kz fz = 1 := by unfold cTurn; (repeat' split) <;> omega
      have hj : 1 ≠ 0 := by omega
      exact rt_i C hw () (by exact (anI_r hc hj _).symm) (by rw [rfU_r hc hj, selR_r hc hj]) dX2_turn_45
set_option maxRecDepth 100000 in
set_option maxHeartbeats 4000000 in
theorem kX2_minutes (l : Launch) (G : GT) (h0 : Nat) (a1 : Nat) (a2 : Nat) (a3 : Nat) (a4 : Nat) (a5 : Nat) (a6 : Nat) (a7 : Nat) (a8 : Nat) (im : Nat) (lm : Nat) (rm : Nat) (pl : Nat) (sd : Int32) (R : RT) (rf : Nat → Nat) (n : Int32) (nz : Int) (h_n : n.toInt = nz) (hR : OK R) (hK : AK R) (hm : R 0 1 ≤ 999) : Ct l yX2_minutes cX2_minutes 2 (some .int) 5 110 [.ref h0, .int n] G [(h0, .inr (2, [.ref a1, .ref a2, .ref a3, .ref a4, .int (nI im), .ref a5, .ref a6, .ref a7, .int (nI lm), .int (nI rm), .int (nI pl), .ref a8, .int sd])), (a1, aI G 54 (fl R)), (a7, aI G 7 (cN rf))] (QI G [(h0, .inr (2, [.ref a1, .ref a2, .ref a3, .ref a4, .int (nI im), .ref a5, .ref a6, .ref a7, .int (nI lm), .int (nI rm), .int (nI pl), .ref a8, .int sd])), (a1, aI G 54 (fl R)), (a7, aI G 7 (cN rf))] (fun (r : Int32) (u : Unit) => r = anI (cMins R nz) (nI (stN (itF R nz.toNat)))) (fun u => [(h0, .inr (2, [.ref a1, .ref a2, .ref a3, .ref a4, .int (nI im), .ref a5, .ref a6, .ref a7, .int (nI lm), .int (nI rm), .int (nI pl), .ref a8, .int sd])), (a1, aI G 54 (fl (selR (cMins R nz) (itF R nz.toNat) R))), (a7, aI G 7 (cN (rfU rf (cMins R nz))))])) := by
  refine en (by decide +kernel) (Nat.le_of_ble_eq_true rfl) ?_
  intro p e s m below meth c ls H locs C hl hw
  have xx := C.1
  have xb := C.2.1
  have hw : Wd G (fA [(h0, .inr (2, [.ref a1, .ref a2, .ref a3, .ref a4, .int (nI im), .ref a5, .ref a6, .ref a7, .int (nI lm), .int (nI rm), .int (nI pl), .ref a8, .int sd])), (a1, aI G 54 (fl R)), (a7, aI G 7 (cN rf))]) s [(h0, .inr (2, [.ref a1, .ref a2, .ref a3, .ref a4, .int (nI im), .ref a5, .ref a6, .ref a7, .int (nI lm), .int (nI rm), .int (nI pl), .ref a8, .int sd])), (a1, aI G 54 (fl R)), (a7, aI G 7 (cN rf))] H locs := hw
  have hl : lv_has ls 2 [(0, .ref h0), (1, .int n)] := hl
  obtain ⟨hn, hf0, hpr, hA⟩ := id hR
  refine lv_iload_n xx xb dX2_minutes_0 rfl (lv_at hl 1 rfl) ?_
  refine lv_iconst (v := nI 1) xx xb dX2_minutes_1 (by decide) ?_
  refine lv_icmp_ge (tgt := 12) xx xb dX2_minutes_2 (by decide) (fun c_2 => ?_) (fun c_2 => ?_)
  · skip
    have c_2 := le_c (tN (by omega)) h_n c_2
    refine lv_iload_n xx xb dX2_minutes_12 rfl (lv_at hl 1 rfl) ?_
    refine lv_bipush (v := nI 60) xx xb dX2_minutes_13 (by decide) ?_
    refine lv_icmp_gt (tgt := 32) xx xb dX2_minutes_15 (by decide) (fun c_15 => ?_) (fun c_15 => ?_)
    · skip
      have c_15 := lt_c (tN (by omega)) h_n c_15
      refine lv_aload_n xx xb dX2_minutes_32 rfl (lv_at hl 0 rfl) ?_
      refine lv_bipush (v := (-6)) xx xb dX2_minutes_33 (by decide) ?_
      have hM := kX2_no l G h0 a1 a2 a3 a4 a5 a6 a7 a8 im lm rm pl sd rf 6 (by first | assumption | omega)
      refine cv_i C hw hM yvX2_no ml_X2_36 0 rfl rfl rfl [0, 2] rfl rfl (fun _ => (rfl : ([h0, a7] : List Nat) = [h0, a7])) (by decide) ⟨Nat.zero_le _, Nat.zero_le _⟩ hl.1 rfl (Nat.le_of_ble_eq_true rfl) dX2_minutes_35 (fun r _ H locs hr hw => ?_)
      have hw : Wd G (fA [(h0, .inr (2, [.ref a1, .ref a2, .ref a3, .ref a4, .int (nI im), .ref a5, .ref a6, .ref a7, .int (nI lm), .int (nI rm), .int (nI pl), .ref a8, .int sd])), (a1, aI G 54 (fl R)), (a7, aI G 7 (cN rf))]) s [(h0, .inr (2, [.ref a1, .ref a2, .ref a3, .ref a4, .int (nI im), .ref a5, .ref a6, .ref a7, .int (nI lm), .int (nI rm), .int (nI pl), .ref a8, .int sd])), (a1, aI G 54 (fl R)), (a7, aI G 7 (cN (upN rf 6 (rf 6 + 1))))] H locs := hw
      subst hr
      have hc : cMins R nz = 6 := by unfold cMins; (repeat' split) <;> omega
      have hj : 6 ≠ 0 := by omega
      exact rt_i C hw () (by exact (anI_r hc hj _).symm) (by rw [rfU_r hc hj, selR_r hc hj]) dX2_minutes_38
    · skip
      have c_15 := nlt_c (tN (by omega)) h_n c_15
      refine lv_aload_n xx xb dX2_minutes_18 rfl (lv_at hl 0 rfl) ?_
      refine m_get C hw 0 rfl fk_X2_9 rfl dX2_minutes_19 ?_
      refine lv_iconst (v := nI 1) xx xb dX2_minutes_22 (by decide) ?_
      refine m_ald C hw 1 rfl 1 rfl (by omega) (by decide) dX2_minutes_23 ?_
      refine re_i (nI (R 0 1)) (fl_h R (by decide)) ?_
      refine lv_iload_n xx xb dX2_minutes_24 rfl (lv_at hl 1 rfl) ?_
      refine re_i (nI nz.toNat) (ofT h_n (by omega) (by omega)) ?_
      refine lv_iadd xx xb dX2_minutes_25 ?_
      refine re_i (nI ((R 0 1) + nz.toNat)) (nI_add _ _) ?_
      refine lv_sipush (v := nI 999) xx xb dX2_minutes_26 (by decide) ?_
      refine lv_icmp_le (tgt := 39) xx xb dX2_minutes_29 (by decide) (fun c_29 => ?_) (fun c_29 => ?_)
      · skip
        have c_29 := le_c (tN (by omega)) (tN (by omega)) c_29
        refine lv_aload_n xx xb dX2_minutes_39 rfl (lv_at hl 0 rfl) ?_
        refine m_get C hw 0 rfl fk_X2_9 rfl dX2_minutes_40 ?_
        refine lv_iload_n xx xb dX2_minutes_43 rfl (lv_at hl 1 rfl) ?_
        refine re_i (nI nz.toNat) (ofT h_n (by omega) (by omega)) ?_
        have hM := kX2_minutesOn l G a1 R nz.toNat (by first | assumption | omega) (by first | assumption | omega) (by first | assumption | omega)
        refine cs_v C hw hM ysX2_minutesOn ml_X2_115 rfl [1] rfl rfl (fun _ => (rfl : ([a1] : List Nat) = [a1])) (by decide) ⟨Nat.zero_le _, Nat.zero_le _⟩ hl.1 rfl (Nat.le_of_ble_eq_true rfl) dX2_minutes_44 (fun _ H locs hr hw => ?_)
        have hw : Wd G (fA [(h0, .inr (2, [.ref a1, .ref a2, .ref a3, .ref a4, .int (nI im), .ref a5, .ref a6, .ref a7, .int (nI lm), .int (nI rm), .int (nI pl), .ref a8, .int sd])), (a1, aI G 54 (fl R)), (a7, aI G 7 (cN rf))]) s [(h0, .inr (2, [.ref a1, .ref a2, .ref a3, .ref a4, .int (nI im), .ref a5, .ref a6, .ref a7, .int (nI lm), .int (nI rm), .int (nI pl), .ref a8, .int sd])), (a1, aI G 54 (fl (itF R nz.toNat))), (a7, aI G 7 (cN rf))] H locs := hw
        have hS := OK_itF hR nz.toNat
        have hs0 := setF_lt hS 0
        refine lv_aload_n xx xb dX2_minutes_47 rfl (lv_at hl 0 rfl) ?_
        refine m_get C hw 0 rfl fk_X2_9 rfl dX2_minutes_48 ?_
        refine lv_iconst (v := nI 0) xx xb dX2_minutes_51 (by decide) ?_
        have hM := kX2_setOf l G a1 (itF R nz.toNat) 0 (by first | assumption | omega) (by first | assumption | omega)
        refine cs_i C hw hM ysX2_setOf ml_X2_73 rfl [1] rfl rfl (fun _ => (rfl : ([a1] : List Nat) = [a1])) (by decide) ⟨Nat.zero_le _, Nat.zero_le _⟩ hl.1 rfl (Nat.le_of_ble_eq_true rfl) dX2_minutes_52 (fun r _ H locs hr hw => ?_)
        have hw : Wd G (fA [(h0, .inr (2, [.ref a1, .ref a2, .ref a3, .ref a4, .int (nI im), .ref a5, .ref a6, .ref a7, .int (nI lm), .int (nI rm), .int (nI pl), .ref a8, .int sd])), (a1, aI G 54 (fl R)), (a7, aI G 7 (cN rf))]) s [(h0, .inr (2, [.ref a1, .ref a2, .ref a3, .ref a4, .int (nI im), .ref a5, .ref a6, .ref a7, .int (nI lm), .int (nI rm), .int (nI pl), .ref a8, .int sd])), (a1, aI G 54 (fl (itF R nz.toNat))), (a7, aI G 7 (cN rf))] H locs := hw
        subst hr
        have hM := kX2_bits l G (setF (itF R nz.toNat) 0) (by first | assumption | omega)
        refine cs_i C hw hM ysX2_bits ml_X2_67 rfl [] rfl rfl (fun _ => (rfl : ([] : List Nat) = [])) (by decide) ⟨Nat.zero_le _, Nat.zero_le _⟩ hl.1 rfl (Nat.le_of_ble_eq_true rfl) dX2_minutes_55 (fun r _ H locs hr hw => ?_)
        have hw : Wd G (fA [(h0, .inr (2, [.ref a1, .ref a2, .ref a3, .ref a4, .int (nI im), .ref a5, .ref a6, .ref a7, .int (nI lm), .int (nI rm), .int (nI pl), .ref a8, .int sd])), (a1, aI G 54 (fl R)), (a7, aI G 7 (cN rf))]) s [(h0, .inr (2, [.ref a1, .ref a2, .ref a3, .ref a4, .int (nI im), .ref a5, .ref a6, .ref a7, .int (nI lm), .int (nI rm), .int (nI pl), .ref a8, .int sd])), (a1, aI G 54 (fl (itF R nz.toNat))), (a7, aI G 7 (cN rf))] H locs := hw
        subst hr
        refine re_i (nI (stN (itF R nz.toNat))) (congrArg nI (pc_bs _ hS.1)) ?_
        have hc : cMins R nz = 0 := by unfold cMins; (repeat' split) <;> omega
        exact rt_i C hw () (by exact (anI_0 hc _).symm) (by rw [rfU_0 hc, selR_0 hc]) dX2_minutes_58
      · skip
        have c_29 := nle_c (tN (by omega)) (tN (by omega)) c_29
        refine lv_aload_n xx xb dX2_minutes_32 rfl (lv_at hl 0 rfl) ?_
        refine lv_bipush (v := (-6)) xx xb dX2_minutes_33 (by decide) ?_
        have hM := kX2_no l G h0 a1 a2 a3 a4 a5 a6 a7 a8 im lm rm pl sd rf 6 (by first | assumption | omega)
        refine cv_i C hw hM yvX2_no ml_X2_36 0 rfl rfl rfl [0, 2] rfl rfl (fun _ => (rfl : ([h0, a7] : List Nat) = [h0, a7])) (by decide) ⟨Nat.zero_le _, Nat.zero_le _⟩ hl.1 rfl (Nat.le_of_ble_eq_true rfl) dX2_minutes_35 (fun r _ H locs hr hw => ?_)
        have hw : Wd G (fA [(h0, .inr (2, [.ref a1, .ref a2, .ref a3, .ref a4, .int (nI im), .ref a5, .ref a6, .ref a7, .int (nI lm), .int (nI rm), .int (nI pl), .ref a8, .int sd])), (a1, aI G 54 (fl R)), (a7, aI G 7 (cN rf))]) s [(h0, .inr (2, [.ref a1, .ref a2, .ref a3, .ref a4, .int (nI im), .ref a5, .ref a6, .ref a7, .int (nI lm), .int (nI rm), .int (nI pl), .ref a8, .int sd])), (a1, aI G 54 (fl R)), (a7, aI G 7 (cN (upN rf 6 (rf 6 + 1))))] H locs := hw
        subst hr
        have hc : cMins R nz = 6 := by unfold cMins; (repeat' split) <;> omega
        have hj : 6 ≠ 0 := by omega
        exact rt_i C hw () (by exact (anI_r hc hj _).symm) (by rw [rfU_r hc hj, selR_r hc hj]) dX2_minutes_38
  · skip
    have c_2 := nle_c (tN (by omega)) h_n c_2
    refine lv_aload_n xx xb dX2_minutes_5 rfl (lv_at hl 0 rfl) ?_
    refine lv_bipush (v := (-4)) xx xb dX2_minutes_6 (by decide) ?_
    have hM := kX2_no l G h0 a1 a2 a3 a4 a5 a6 a7 a8 im lm rm pl sd rf 4 (by first | assumption | omega)
    refine cv_i C hw hM yvX2_no ml_X2_36 0 rfl rfl rfl [0, 2] rfl rfl (fun _ => (rfl : ([h0, a7] : List Nat) = [h0, a7])) (by decide) ⟨Nat.zero_le _, Nat.zero_le _⟩ hl.1 rfl (Nat.le_of_ble_eq_true rfl) dX2_minutes_8 (fun r _ H locs hr hw => ?_)
    have hw : Wd G (fA [(h0, .inr (2, [.ref a1, .ref a2, .ref a3, .ref a4, .int (nI im), .ref a5, .ref a6, .ref a7, .int (nI lm), .int (nI rm), .int (nI pl), .ref a8, .int sd])), (a1, aI G 54 (fl R)), (a7, aI G 7 (cN rf))]) s [(h0, .inr (2, [.ref a1, .ref a2, .ref a3, .ref a4, .int (nI im), .ref a5, .ref a6, .ref a7, .int (nI lm), .int (nI rm), .int (nI pl), .ref a8, .int sd])), (a1, aI G 54 (fl R)), (a7, aI G 7 (cN (upN rf 4 (rf 4 + 1))))] H locs := hw
    subst hr
    have hc : cMins R nz = 4 := by unfold cMins; (repeat' split) <;> omega
    have hj : 4 ≠ 0 := by omega
    exact rt_i C hw () (by exact (anI_r hc hj _).symm) (by rw [rfU_r hc hj, selR_r hc hj]) dX2_minutes_11
set_option maxRecDepth 100000 in
set_option maxHeartbeats 4000000 in
theorem kX2_behind (l : Launch) (G : GT) (h0 : Nat) (a1 : Nat) (a2 : Nat) (a3 : Nat) (a4 : Nat) (a5 : Nat) (a6 : Nat) (a7 : Nat) (a8 : Nat) (im : Nat) (lm : Nat) (rm : Nat) (pl : Nat) (sd : Int32) (R : RT) (Rm : RT) (rf : Nat → Nat) (x : Int32) (xz : Int) (n : Int32) (nz : Int) (w : Int32) (wz : Int) (h_x : x.toInt = xz) (h_n : n.toInt = nz) (h_w : w.toInt = wz) (hR : OK R) (hK : AK R) : Ct l yX2_behind cX2_behind 5 (some .int) 6 131 [.ref h0, .int x, .int n, .int w] G [(h0, .inr (2, [.ref a1, .ref a2, .ref a3, .ref a4, .int (nI im), .ref a5, .ref a6, .ref a7, .int (nI lm), .int (nI rm), .int (nI pl), .ref a8, .int sd])), (a1, aI G 54 (fl R)), (a2, aI G 54 (fl Rm)), (a7, aI G 7 (cN rf))] (QI G [(h0, .inr (2, [.ref a1, .ref a2, .ref a3, .ref a4, .int (nI im), .ref a5, .ref a6, .ref a7, .int (nI lm), .int (nI rm), .int (nI pl), .ref a8, .int sd])), (a1, aI G 54 (fl R)), (a2, aI G 54 (fl Rm)), (a7, aI G 7 (cN rf))] (fun (r : Int32) (u : Unit) => r = anI (cBeh R xz nz wz) (vBeh R xz.toNat nz.toNat wz)) (fun u => [(h0, .inr (2, [.ref a1, .ref a2, .ref a3, .ref a4, .int (nI im), .ref a5, .ref a6, .ref a7, .int (nI lm), .int (nI rm), .int (nI pl), .ref a8, .int sd])), (a1, aI G 54 (fl R)), (a2, aI G 54 (fl (selR (cBeh R xz nz wz) (itF R nz.toNat) Rm))), (a7, aI G 7 (cN (rfU rf (cBeh R xz nz wz))))])) := by
  refine en (by decide +kernel) (Nat.le_of_ble_eq_true rfl) ?_
  intro p e s m below meth c ls H locs C hl hw
  have xx := C.1
  have xb := C.2.1
  have hw : Wd G (fA [(h0, .inr (2, [.ref a1, .ref a2, .ref a3, .ref a4, .int (nI im), .ref a5, .ref a6, .ref a7, .int (nI lm), .int (nI rm), .int (nI pl), .ref a8, .int sd])), (a1, aI G 54 (fl R)), (a2, aI G 54 (fl Rm)), (a7, aI G 7 (cN rf))]) s [(h0, .inr (2, [.ref a1, .ref a2, .ref a3, .ref a4, .int (nI im), .ref a5, .ref a6, .ref a7, .int (nI lm), .int (nI rm), .int (nI pl), .ref a8, .int sd])), (a1, aI G 54 (fl R)), (a2, aI G 54 (fl Rm)), (a7, aI G 7 (cN rf))] H locs := hw
  have hl : lv_has ls 5 [(0, .ref h0), (1, .int x), (2, .int n), (3, .int w)] := hl
  obtain ⟨hn, hf0, hpr, hA⟩ := id hR
  have hb9 := wbN_le nz 99
  refine lv_aload_n xx xb dX2_behind_0 rfl (lv_at hl 0 rfl) ?_
  refine lv_iload_n xx xb dX2_behind_1 rfl (lv_at hl 1 rfl) ?_
  have hM := kX2_isThing l G h0 a1 a2 a3 a4 a5 a6 a7 a8 im lm rm pl sd R x xz h_x (by first | assumption | omega)
  refine cv_i C hw hM yvX2_isThing ml_X2_105 0 rfl rfl rfl [0, 1] rfl rfl (fun _ => (rfl : ([h0, a1] : List Nat) = [h0, a1])) (by decide) ⟨Nat.zero_le _, Nat.zero_le _⟩ hl.1 rfl (Nat.le_of_ble_eq_true rfl) dX2_behind_2 (fun r _ H locs hr hw => ?_)
  have hw : Wd G (fA [(h0, .inr (2, [.ref a1, .ref a2, .ref a3, .ref a4, .int (nI im), .ref a5, .ref a6, .ref a7, .int (nI lm), .int (nI rm), .int (nI pl), .ref a8, .int sd])), (a1, aI G 54 (fl R)), (a2, aI G 54 (fl Rm)), (a7, aI G 7 (cN rf))]) s [(h0, .inr (2, [.ref a1, .ref a2, .ref a3, .ref a4, .int (nI im), .ref a5, .ref a6, .ref a7, .int (nI lm), .int (nI rm), .int (nI pl), .ref a8, .int sd])), (a1, aI G 54 (fl R)), (a2, aI G 54 (fl Rm)), (a7, aI G 7 (cN rf))] H locs := hw
  subst hr
  refine lv_if_eq (tgt := 17) xx xb dX2_behind_5 (by decide) (fun c_5 => ?_) (fun c_5 => ?_)
  · skip
    have c_5 := b0_c c_5
    refine lv_iconst (v := (-1)) xx xb dX2_behind_17 (by decide) ?_
    refine lv_istore (lv' := [(4, .int (-1)), (0, .ref h0), (1, .int x), (2, .int n), (3, .int w)]) xx xb dX2_behind_18 hl (by decide) rfl (fun ls hl => ?_)
    refine lv_iload xx xb dX2_behind_20 (lv_at hl 0 rfl) ?_
    refine lv_if_ne (tgt := 38) xx xb dX2_behind_22 (by decide) (fun c_22 => ?_) (fun c_22 => ?_)
    · skip
      refine lv_iload xx xb dX2_behind_38 (lv_at hl 0 rfl) ?_
      refine lv_if_eq (tgt := 50) xx xb dX2_behind_40 (by decide) (fun c_40 => ?_) (fun c_40 => ?_)
      · skip
        exact absurd c_40 (by decide)
      · skip
        refine lv_aload_n xx xb dX2_behind_43 rfl (lv_at hl 1 rfl) ?_
        refine lv_iload xx xb dX2_behind_44 (lv_at hl 0 rfl) ?_
        have hM := kX2_no l G h0 a1 a2 a3 a4 a5 a6 a7 a8 im lm rm pl sd rf 1 (by omega)
        refine cv_i C hw hM yvX2_no ml_X2_36 0 rfl rfl rfl [0, 3] rfl rfl (fun _ => (rfl : ([h0, a7] : List Nat) = [h0, a7])) (by decide) ⟨Nat.zero_le _, Nat.zero_le _⟩ hl.1 rfl (Nat.le_of_ble_eq_true rfl) dX2_behind_46 (fun r _ H locs hr hw => ?_)
        have hw : Wd G (fA [(h0, .inr (2, [.ref a1, .ref a2, .ref a3, .ref a4, .int (nI im), .ref a5, .ref a6, .ref a7, .int (nI lm), .int (nI rm), .int (nI pl), .ref a8, .int sd])), (a1, aI G 54 (fl R)), (a2, aI G 54 (fl Rm)), (a7, aI G 7 (cN rf))]) s [(h0, .inr (2, [.ref a1, .ref a2, .ref a3, .ref a4, .int (nI im), .ref a5, .ref a6, .ref a7, .int (nI lm), .int (nI rm), .int (nI pl), .ref a8, .int sd])), (a1, aI G 54 (fl R)), (a2, aI G 54 (fl Rm)), (a7, aI G 7 (cN (upN rf 1 (rf 1 + 1))))] H locs := hw
        subst hr
        have hc : cBeh R xz nz wz = 1 := by unfold cBeh; (repeat' split) <;> omega
        have hj : 1 ≠ 0 := by omega
        exact rt_i C hw () (by exact (anI_r hc hj _).symm) (by rw [rfU_r hc hj, selR_r hc hj]) dX2_behind_49
    · skip
      exact absurd c_22 (by decide)
  · skip
    have c_5 := b1_c c_5
    refine lv_iload_n xx xb dX2_behind_8 rfl (lv_at hl 2 rfl) ?_
    refine lv_bipush (v := nI 99) xx xb dX2_behind_9 (by decide) ?_
    have hM := kX2_wrongBy l G n nz (nI 99) 99 h_n (tN (by omega))
    refine cs_i C hw hM ysX2_wrongBy ml_X2_128 rfl [] rfl rfl (fun _ => (rfl : ([] : List Nat) = [])) (by decide) ⟨Nat.zero_le _, Nat.zero_le _⟩ hl.1 rfl (Nat.le_of_ble_eq_true rfl) dX2_behind_11 (fun r _ H locs hr hw => ?_)
    have hw : Wd G (fA [(h0, .inr (2, [.ref a1, .ref a2, .ref a3, .ref a4, .int (nI im), .ref a5, .ref a6, .ref a7, .int (nI lm), .int (nI rm), .int (nI pl), .ref a8, .int sd])), (a1, aI G 54 (fl R)), (a2, aI G 54 (fl Rm)), (a7, aI G 7 (cN rf))]) s [(h0, .inr (2, [.ref a1, .ref a2, .ref a3, .ref a4, .int (nI im), .ref a5, .ref a6, .ref a7, .int (nI lm), .int (nI rm), .int (nI pl), .ref a8, .int sd])), (a1, aI G 54 (fl R)), (a2, aI G 54 (fl Rm)), (a7, aI G 7 (cN rf))] H locs := hw
    subst hr
    refine lv_goto (tgt := 18) xx xb dX2_behind_14 (by decide) ?_
    refine lv_istore (lv' := [(4, .int (nG (wbN nz 99))), (0, .ref h0), (1, .int x), (2, .int n), (3, .int w)]) xx xb dX2_behind_18 hl (by decide) rfl (fun ls hl => ?_)
    refine lv_iload xx xb dX2_behind_20 (lv_at hl 0 rfl) ?_
    refine lv_if_ne (tgt := 38) xx xb dX2_behind_22 (by decide) (fun c_22 => ?_) (fun c_22 => ?_)
    · skip
      have c_22 := g0_n c_22
      refine lv_iload xx xb dX2_behind_38 (lv_at hl 0 rfl) ?_
      refine lv_if_eq (tgt := 50) xx xb dX2_behind_40 (by decide) (fun c_40 => ?_) (fun c_40 => ?_)
      · skip
        have c_40 := g0_c (by omega) c_40
        obtain ⟨g1, g2⟩ := wbN_0 (z := nz) (a := 99) (by omega)
        have hS := OK_itF hR nz.toNat
        have hS4 := hS.2.2.2 xz.toNat (by rw [itF_00]; omega)
        refine lv_aload_n xx xb dX2_behind_50 rfl (lv_at hl 1 rfl) ?_
        refine lv_iload_n xx xb dX2_behind_51 rfl (lv_at hl 3 rfl) ?_
        refine re_i (nI nz.toNat) (ofT h_n (by omega) (by omega)) ?_
        have hM := kX2_takes l G h0 a1 a2 a3 a4 a5 a6 a7 a8 im lm rm pl sd R Rm nz.toNat (by first | assumption | omega) (by first | assumption | omega) (by first | assumption | omega)
        refine cv_v C hw hM yvX2_takes ml_X2_134 0 rfl rfl rfl [0, 1, 2] rfl rfl (fun _ => (rfl : ([h0, a1, a2] : List Nat) = [h0, a1, a2])) (by decide) ⟨Nat.zero_le _, Nat.zero_le _⟩ hl.1 rfl (Nat.le_of_ble_eq_true rfl) dX2_behind_52 (fun _ H locs hr hw => ?_)
        have hw : Wd G (fA [(h0, .inr (2, [.ref a1, .ref a2, .ref a3, .ref a4, .int (nI im), .ref a5, .ref a6, .ref a7, .int (nI lm), .int (nI rm), .int (nI pl), .ref a8, .int sd])), (a1, aI G 54 (fl R)), (a2, aI G 54 (fl Rm)), (a7, aI G 7 (cN rf))]) s [(h0, .inr (2, [.ref a1, .ref a2, .ref a3, .ref a4, .int (nI im), .ref a5, .ref a6, .ref a7, .int (nI lm), .int (nI rm), .int (nI pl), .ref a8, .int sd])), (a1, aI G 54 (fl R)), (a2, aI G 54 (fl (itF R nz.toNat))), (a7, aI G 7 (cN rf))] H locs := hw
        refine lv_iload_n xx xb dX2_behind_55 rfl (lv_at hl 4 rfl) ?_
        refine lv_if_ne (tgt := 72) xx xb dX2_behind_56 (by decide) (fun c_56 => ?_) (fun c_56 => ?_)
        · skip
          have c_56 := ne_c h_w Int32.toInt_zero c_56
          refine lv_iload_n xx xb dX2_behind_72 rfl (lv_at hl 4 rfl) ?_
          refine lv_iconst (v := nI 1) xx xb dX2_behind_73 (by decide) ?_
          refine lv_icmp_ne (tgt := 90) xx xb dX2_behind_74 (by decide) (fun c_74 => ?_) (fun c_74 => ?_)
          · skip
            have c_74 := ne_c h_w (tN (by omega)) c_74
            refine lv_aload_n xx xb dX2_behind_90 rfl (lv_at hl 1 rfl) ?_
            have hM := kX2_standingIn l G h0 a1 a2 a3 a4 a5 a6 a7 a8 im lm rm pl sd (itF R nz.toNat) (by first | assumption | omega)
            refine cv_i C hw hM yvX2_standingIn ml_X2_138 0 rfl rfl rfl [0, 2] rfl rfl (fun _ => (rfl : ([h0, a2] : List Nat) = [h0, a2])) (by decide) ⟨Nat.zero_le _, Nat.zero_le _⟩ hl.1 rfl (Nat.le_of_ble_eq_true rfl) dX2_behind_91 (fun r _ H locs hr hw => ?_)
            have hw : Wd G (fA [(h0, .inr (2, [.ref a1, .ref a2, .ref a3, .ref a4, .int (nI im), .ref a5, .ref a6, .ref a7, .int (nI lm), .int (nI rm), .int (nI pl), .ref a8, .int sd])), (a1, aI G 54 (fl R)), (a2, aI G 54 (fl Rm)), (a7, aI G 7 (cN rf))]) s [(h0, .inr (2, [.ref a1, .ref a2, .ref a3, .ref a4, .int (nI im), .ref a5, .ref a6, .ref a7, .int (nI lm), .int (nI rm), .int (nI pl), .ref a8, .int sd])), (a1, aI G 54 (fl R)), (a2, aI G 54 (fl (itF R nz.toNat))), (a7, aI G 7 (cN rf))] H locs := hw
            subst hr
            refine re_i (vBeh R xz.toNat nz.toNat wz) (by unfold vBeh; first | (rw [if_pos (by omega)]; done) | (rw [if_neg (by omega), if_pos (by omega)]; done) | (rw [if_neg (by omega), if_neg (by omega)]; done)) ?_
            have hc : cBeh R xz nz wz = 0 := by unfold cBeh; (repeat' split) <;> omega
            exact rt_i C hw () (by exact (anI_0 hc _).symm) (by rw [rfU_0 hc, selR_0 hc]) dX2_behind_94
          · skip
            have c_74 := eq_c h_w (tN (by omega)) c_74
            refine lv_aload_n xx xb dX2_behind_77 rfl (lv_at hl 1 rfl) ?_
            refine m_get C hw 0 rfl fk_X2_13 rfl dX2_behind_78 ?_
            refine lv_iload_n xx xb dX2_behind_81 rfl (lv_at hl 2 rfl) ?_
            refine re_i (nI xz.toNat) (ofT h_x (by omega) (by omega)) ?_
            refine lv_iconst (v := nI 4) xx xb dX2_behind_82 (by decide) ?_
            have hM := kX2_of l G xz.toNat 4 
            refine cs_i C hw hM ysX2_of ml_X2_44 rfl [] rfl rfl (fun _ => (rfl : ([] : List Nat) = [])) (by decide) ⟨Nat.zero_le _, Nat.zero_le _⟩ hl.1 rfl (Nat.le_of_ble_eq_true rfl) dX2_behind_83 (fun r _ H locs hr hw => ?_)
            have hw : Wd G (fA [(h0, .inr (2, [.ref a1, .ref a2, .ref a3, .ref a4, .int (nI im), .ref a5, .ref a6, .ref a7, .int (nI lm), .int (nI rm), .int (nI pl), .ref a8, .int sd])), (a1, aI G 54 (fl R)), (a2, aI G 54 (fl Rm)), (a7, aI G 7 (cN rf))]) s [(h0, .inr (2, [.ref a1, .ref a2, .ref a3, .ref a4, .int (nI im), .ref a5, .ref a6, .ref a7, .int (nI lm), .int (nI rm), .int (nI pl), .ref a8, .int sd])), (a1, aI G 54 (fl R)), (a2, aI G 54 (fl (itF R nz.toNat))), (a7, aI G 7 (cN rf))] H locs := hw
            subst hr
            refine m_ald C hw 2 rfl (4 + 5 * xz.toNat + 4) rfl (by omega) (by decide) dX2_behind_86 ?_
            refine re_i (nI ((itF R nz.toNat) 5 xz.toNat)) (fl_k (itF R nz.toNat) (by decide) (by decide)) ?_
            refine lv_goto (tgt := 94) xx xb dX2_behind_87 (by decide) ?_
            refine re_i (vBeh R xz.toNat nz.toNat wz) (by unfold vBeh; first | (rw [if_pos (by omega)]; done) | (rw [if_neg (by omega), if_pos (by omega)]; done) | (rw [if_neg (by omega), if_neg (by omega)]; done)) ?_
            have hc : cBeh R xz nz wz = 0 := by unfold cBeh; (repeat' split) <;> omega
            exact rt_i C hw () (by exact (anI_0 hc _).symm) (by rw [rfU_0 hc, selR_0 hc]) dX2_behind_94
        · skip
          have c_56 := eq_c h_w Int32.toInt_zero c_56
          refine lv_aload_n xx xb dX2_behind_59 rfl (lv_at hl 1 rfl) ?_
          refine m_get C hw 0 rfl fk_X2_13 rfl dX2_behind_60 ?_
          refine lv_iload_n xx xb dX2_behind_63 rfl (lv_at hl 2 rfl) ?_
          refine re_i (nI xz.toNat) (ofT h_x (by omega) (by omega)) ?_
          refine lv_iconst (v := nI 3) xx xb dX2_behind_64 (by decide) ?_
          have hM := kX2_of l G xz.toNat 3 
          refine cs_i C hw hM ysX2_of ml_X2_44 rfl [] rfl rfl (fun _ => (rfl : ([] : List Nat) = [])) (by decide) ⟨Nat.zero_le _, Nat.zero_le _⟩ hl.1 rfl (Nat.le_of_ble_eq_true rfl) dX2_behind_65 (fun r _ H locs hr hw => ?_)
          have hw : Wd G (fA [(h0, .inr (2, [.ref a1, .ref a2, .ref a3, .ref a4, .int (nI im), .ref a5, .ref a6, .ref a7, .int (nI lm), .int (nI rm), .int (nI pl), .ref a8, .int sd])), (a1, aI G 54 (fl R)), (a2, aI G 54 (fl Rm)), (a7, aI G 7 (cN rf))]) s [(h0, .inr (2, [.ref a1, .ref a2, .ref a3, .ref a4, .int (nI im), .ref a5, .ref a6, .ref a7, .int (nI lm), .int (nI rm), .int (nI pl), .ref a8, .int sd])), (a1, aI G 54 (fl R)), (a2, aI G 54 (fl (itF R nz.toNat))), (a7, aI G 7 (cN rf))] H locs := hw
          subst hr
          refine m_ald C hw 2 rfl (4 + 5 * xz.toNat + 3) rfl (by omega) (by decide) dX2_behind_68 ?_
          refine re_i (nI ((itF R nz.toNat) 4 xz.toNat)) (fl_k (itF R nz.toNat) (by decide) (by decide)) ?_
          refine lv_goto (tgt := 94) xx xb dX2_behind_69 (by decide) ?_
          refine re_i (vBeh R xz.toNat nz.toNat wz) (by unfold vBeh; first | (rw [if_pos (by omega)]; done) | (rw [if_neg (by omega), if_pos (by omega)]; done) | (rw [if_neg (by omega), if_neg (by omega)]; done)) ?_
          have hc : cBeh R xz nz wz = 0 := by unfold cBeh; (repeat' split) <;> omega
          exact rt_i C hw () (by exact (anI_0 hc _).symm) (by rw [rfU_0 hc, selR_0 hc]) dX2_behind_94
      · skip
        have c_40 := g0_n c_40
        refine lv_aload_n xx xb dX2_behind_43 rfl (lv_at hl 1 rfl) ?_
        refine lv_iload xx xb dX2_behind_44 (lv_at hl 0 rfl) ?_
        have hM := kX2_no l G h0 a1 a2 a3 a4 a5 a6 a7 a8 im lm rm pl sd rf (wbN nz 99) (by omega)
        refine cv_i C hw hM yvX2_no ml_X2_36 0 rfl rfl rfl [0, 3] rfl rfl (fun _ => (rfl : ([h0, a7] : List Nat) = [h0, a7])) (by decide) ⟨Nat.zero_le _, Nat.zero_le _⟩ hl.1 rfl (Nat.le_of_ble_eq_true rfl) dX2_behind_46 (fun r _ H locs hr hw => ?_)
        have hw : Wd G (fA [(h0, .inr (2, [.ref a1, .ref a2, .ref a3, .ref a4, .int (nI im), .ref a5, .ref a6, .ref a7, .int (nI lm), .int (nI rm), .int (nI pl), .ref a8, .int sd])), (a1, aI G 54 (fl R)), (a2, aI G 54 (fl Rm)), (a7, aI G 7 (cN rf))]) s [(h0, .inr (2, [.ref a1, .ref a2, .ref a3, .ref a4, .int (nI im), .ref a5, .ref a6, .ref a7, .int (nI lm), .int (nI rm), .int (nI pl), .ref a8, .int sd])), (a1, aI G 54 (fl R)), (a2, aI G 54 (fl Rm)), (a7, aI G 7 (cN (upN rf (wbN nz 99) (rf (wbN nz 99) + 1))))] H locs := hw
        subst hr
        have hc : cBeh R xz nz wz = (wbN nz 99) := by unfold cBeh; (repeat' split) <;> omega
        have hj : (wbN nz 99) ≠ 0 := by omega
        exact rt_i C hw () (by exact (anI_r hc hj _).symm) (by rw [rfU_r hc hj, selR_r hc hj]) dX2_behind_49
    · skip
      have c_22 := g0_c (by omega) c_22
      refine lv_iload_n xx xb dX2_behind_25 rfl (lv_at hl 4 rfl) ?_
      refine lv_iconst (v := nI 0) xx xb dX2_behind_26 (by decide) ?_
      refine lv_iconst (v := nI 2) xx xb dX2_behind_27 (by decide) ?_
      have hM := kX2_isIn l G w wz (nI 0) 0 (nI 2) 2 h_w (tN (by omega)) (tN (by omega))
      refine cs_i C hw hM ysX2_isIn ml_X2_40 rfl [] rfl rfl (fun _ => (rfl : ([] : List Nat) = [])) (by decide) ⟨Nat.zero_le _, Nat.zero_le _⟩ hl.1 rfl (Nat.le_of_ble_eq_true rfl) dX2_behind_28 (fun r _ H locs hr hw => ?_)
      have hw : Wd G (fA [(h0, .inr (2, [.ref a1, .ref a2, .ref a3, .ref a4, .int (nI im), .ref a5, .ref a6, .ref a7, .int (nI lm), .int (nI rm), .int (nI pl), .ref a8, .int sd])), (a1, aI G 54 (fl R)), (a2, aI G 54 (fl Rm)), (a7, aI G 7 (cN rf))]) s [(h0, .inr (2, [.ref a1, .ref a2, .ref a3, .ref a4, .int (nI im), .ref a5, .ref a6, .ref a7, .int (nI lm), .int (nI rm), .int (nI pl), .ref a8, .int sd])), (a1, aI G 54 (fl R)), (a2, aI G 54 (fl Rm)), (a7, aI G 7 (cN rf))] H locs := hw
      subst hr
      refine lv_if_ne (tgt := 38) xx xb dX2_behind_31 (by decide) (fun c_31 => ?_) (fun c_31 => ?_)
      · skip
        have c_31 := b1_c c_31
        refine lv_iload xx xb dX2_behind_38 (lv_at hl 0 rfl) ?_
        refine lv_if_eq (tgt := 50) xx xb dX2_behind_40 (by decide) (fun c_40 => ?_) (fun c_40 => ?_)
        · skip
          have c_40 := g0_c (by omega) c_40
          obtain ⟨g1, g2⟩ := wbN_0 (z := nz) (a := 99) (by omega)
          have hS := OK_itF hR nz.toNat
          have hS4 := hS.2.2.2 xz.toNat (by rw [itF_00]; omega)
          refine lv_aload_n xx xb dX2_behind_50 rfl (lv_at hl 1 rfl) ?_
          refine lv_iload_n xx xb dX2_behind_51 rfl (lv_at hl 3 rfl) ?_
          refine re_i (nI nz.toNat) (ofT h_n (by omega) (by omega)) ?_
          have hM := kX2_takes l G h0 a1 a2 a3 a4 a5 a6 a7 a8 im lm rm pl sd R Rm nz.toNat (by first | assumption | omega) (by first | assumption | omega) (by first | assumption | omega)
          refine cv_v C hw hM yvX2_takes ml_X2_134 0 rfl rfl rfl [0, 1, 2] rfl rfl (fun _ => (rfl : ([h0, a1, a2] : List Nat) = [h0, a1, a2])) (by decide) ⟨Nat.zero_le _, Nat.zero_le _⟩ hl.1 rfl (Nat.le_of_ble_eq_true rfl) dX2_behind_52 (fun _ H locs hr hw => ?_)
          have hw : Wd G (fA [(h0, .inr (2, [.ref a1, .ref a2, .ref a3, .ref a4, .int (nI im), .ref a5, .ref a6, .ref a7, .int (nI lm), .int (nI rm), .int (nI pl), .ref a8, .int sd])), (a1, aI G 54 (fl R)), (a2, aI G 54 (fl Rm)), (a7, aI G 7 (cN rf))]) s [(h0, .inr (2, [.ref a1, .ref a2, .ref a3, .ref a4, .int (nI im), .ref a5, .ref a6, .ref a7, .int (nI lm), .int (nI rm), .int (nI pl), .ref a8, .int sd])), (a1, aI G 54 (fl R)), (a2, aI G 54 (fl (itF R nz.toNat))), (a7, aI G 7 (cN rf))] H locs := hw
          refine lv_iload_n xx xb dX2_behind_55 rfl (lv_at hl 4 rfl) ?_
          refine lv_if_ne (tgt := 72) xx xb dX2_behind_56 (by decide) (fun c_56 => ?_) (fun c_56 => ?_)
          · skip
            have c_56 := ne_c h_w Int32.toInt_zero c_56
            refine lv_iload_n xx xb dX2_behind_72 rfl (lv_at hl 4 rfl) ?_
            refine lv_iconst (v := nI 1) xx xb dX2_behind_73 (by decide) ?_
            refine lv_icmp_ne (tgt := 90) xx xb dX2_behind_74 (by decide) (fun c_74 => ?_) (fun c_74 => ?_)
            · skip
              have c_74 := ne_c h_w (tN (by omega)) c_74
              refine lv_aload_n xx xb dX2_behind_90 rfl (lv_at hl 1 rfl) ?_
              have hM := kX2_standingIn l G h0 a1 a2 a3 a4 a5 a6 a7 a8 im lm rm pl sd (itF R nz.toNat) (by first | assumption | omega)
              refine cv_i C hw hM yvX2_standingIn ml_X2_138 0 rfl rfl rfl [0, 2] rfl rfl (fun _ => (rfl : ([h0, a2] : List Nat) = [h0, a2])) (by decide) ⟨Nat.zero_le _, Nat.zero_le _⟩ hl.1 rfl (Nat.le_of_ble_eq_true rfl) dX2_behind_91 (fun r _ H locs hr hw => ?_)
              have hw : Wd G (fA [(h0, .inr (2, [.ref a1, .ref a2, .ref a3, .ref a4, .int (nI im), .ref a5, .ref a6, .ref a7, .int (nI lm), .int (nI rm), .int (nI pl), .ref a8, .int sd])), (a1, aI G 54 (fl R)), (a2, aI G 54 (fl Rm)), (a7, aI G 7 (cN rf))]) s [(h0, .inr (2, [.ref a1, .ref a2, .ref a3, .ref a4, .int (nI im), .ref a5, .ref a6, .ref a7, .int (nI lm), .int (nI rm), .int (nI pl), .ref a8, .int sd])), (a1, aI G 54 (fl R)), (a2, aI G 54 (fl (itF R nz.toNat))), (a7, aI G 7 (cN rf))] H locs := hw
              subst hr
              refine re_i (vBeh R xz.toNat nz.toNat wz) (by unfold vBeh; first | (rw [if_pos (by omega)]; done) | (rw [if_neg (by omega), if_pos (by omega)]; done) | (rw [if_neg (by omega), if_neg (by omega)]; done)) ?_
              have hc : cBeh R xz nz wz = 0 := by unfold cBeh; (repeat' split) <;> omega
              exact rt_i C hw () (by exact (anI_0 hc _).symm) (by rw [rfU_0 hc, selR_0 hc]) dX2_behind_94
            · skip
              have c_74 := eq_c h_w (tN (by omega)) c_74
              refine lv_aload_n xx xb dX2_behind_77 rfl (lv_at hl 1 rfl) ?_
              refine m_get C hw 0 rfl fk_X2_13 rfl dX2_behind_78 ?_
              refine lv_iload_n xx xb dX2_behind_81 rfl (lv_at hl 2 rfl) ?_
              refine re_i (nI xz.toNat) (ofT h_x (by omega) (by omega)) ?_
              refine lv_iconst (v := nI 4) xx xb dX2_behind_82 (by decide) ?_
              have hM := kX2_of l G xz.toNat 4 
              refine cs_i C hw hM ysX2_of ml_X2_44 rfl [] rfl rfl (fun _ => (rfl : ([] : List Nat) = [])) (by decide) ⟨Nat.zero_le _, Nat.zero_le _⟩ hl.1 rfl (Nat.le_of_ble_eq_true rfl) dX2_behind_83 (fun r _ H locs hr hw => ?_)
              have hw : Wd G (fA [(h0, .inr (2, [.ref a1, .ref a2, .ref a3, .ref a4, .int (nI im), .ref a5, .ref a6, .ref a7, .int (nI lm), .int (nI rm), .int (nI pl), .ref a8, .int sd])), (a1, aI G 54 (fl R)), (a2, aI G 54 (fl Rm)), (a7, aI G 7 (cN rf))]) s [(h0, .inr (2, [.ref a1, .ref a2, .ref a3, .ref a4, .int (nI im), .ref a5, .ref a6, .ref a7, .int (nI lm), .int (nI rm), .int (nI pl), .ref a8, .int sd])), (a1, aI G 54 (fl R)), (a2, aI G 54 (fl (itF R nz.toNat))), (a7, aI G 7 (cN rf))] H locs := hw
              subst hr
              refine m_ald C hw 2 rfl (4 + 5 * xz.toNat + 4) rfl (by omega) (by decide) dX2_behind_86 ?_
              refine re_i (nI ((itF R nz.toNat) 5 xz.toNat)) (fl_k (itF R nz.toNat) (by decide) (by decide)) ?_
              refine lv_goto (tgt := 94) xx xb dX2_behind_87 (by decide) ?_
              refine re_i (vBeh R xz.toNat nz.toNat wz) (by unfold vBeh; first | (rw [if_pos (by omega)]; done) | (rw [if_neg (by omega), if_pos (by omega)]; done) | (rw [if_neg (by omega), if_neg (by omega)]; done)) ?_
              have hc : cBeh R xz nz wz = 0 := by unfold cBeh; (repeat' split) <;> omega
              exact rt_i C hw () (by exact (anI_0 hc _).symm) (by rw [rfU_0 hc, selR_0 hc]) dX2_behind_94
          · skip
            have c_56 := eq_c h_w Int32.toInt_zero c_56
            refine lv_aload_n xx xb dX2_behind_59 rfl (lv_at hl 1 rfl) ?_
            refine m_get C hw 0 rfl fk_X2_13 rfl dX2_behind_60 ?_
            refine lv_iload_n xx xb dX2_behind_63 rfl (lv_at hl 2 rfl) ?_
            refine re_i (nI xz.toNat) (ofT h_x (by omega) (by omega)) ?_
            refine lv_iconst (v := nI 3) xx xb dX2_behind_64 (by decide) ?_
            have hM := kX2_of l G xz.toNat 3 
            refine cs_i C hw hM ysX2_of ml_X2_44 rfl [] rfl rfl (fun _ => (rfl : ([] : List Nat) = [])) (by decide) ⟨Nat.zero_le _, Nat.zero_le _⟩ hl.1 rfl (Nat.le_of_ble_eq_true rfl) dX2_behind_65 (fun r _ H locs hr hw => ?_)
            have hw : Wd G (fA [(h0, .inr (2, [.ref a1, .ref a2, .ref a3, .ref a4, .int (nI im), .ref a5, .ref a6, .ref a7, .int (nI lm), .int (nI rm), .int (nI pl), .ref a8, .int sd])), (a1, aI G 54 (fl R)), (a2, aI G 54 (fl Rm)), (a7, aI G 7 (cN rf))]) s [(h0, .inr (2, [.ref a1, .ref a2, .ref a3, .ref a4, .int (nI im), .ref a5, .ref a6, .ref a7, .int (nI lm), .int (nI rm), .int (nI pl), .ref a8, .int sd])), (a1, aI G 54 (fl R)), (a2, aI G 54 (fl (itF R nz.toNat))), (a7, aI G 7 (cN rf))] H locs := hw
            subst hr
            refine m_ald C hw 2 rfl (4 + 5 * xz.toNat + 3) rfl (by omega) (by decide) dX2_behind_68 ?_
            refine re_i (nI ((itF R nz.toNat) 4 xz.toNat)) (fl_k (itF R nz.toNat) (by decide) (by decide)) ?_
            refine lv_goto (tgt := 94) xx xb dX2_behind_69 (by decide) ?_
            refine re_i (vBeh R xz.toNat nz.toNat wz) (by unfold vBeh; first | (rw [if_pos (by omega)]; done) | (rw [if_neg (by omega), if_pos (by omega)]; done) | (rw [if_neg (by omega), if_neg (by omega)]; done)) ?_
            have hc : cBeh R xz nz wz = 0 := by unfold cBeh; (repeat' split) <;> omega
            exact rt_i C hw () (by exact (anI_0 hc _).symm) (by rw [rfU_0 hc, selR_0 hc]) dX2_behind_94
        · skip
          have c_40 := g0_n c_40
          refine lv_aload_n xx xb dX2_behind_43 rfl (lv_at hl 1 rfl) ?_
          refine lv_iload xx xb dX2_behind_44 (lv_at hl 0 rfl) ?_
          have hM := kX2_no l G h0 a1 a2 a3 a4 a5 a6 a7 a8 im lm rm pl sd rf (wbN nz 99) (by omega)
          refine cv_i C hw hM yvX2_no ml_X2_36 0 rfl rfl rfl [0, 3] rfl rfl (fun _ => (rfl : ([h0, a7] : List Nat) = [h0, a7])) (by decide) ⟨Nat.zero_le _, Nat.zero_le _⟩ hl.1 rfl (Nat.le_of_ble_eq_true rfl) dX2_behind_46 (fun r _ H locs hr hw => ?_)
          have hw : Wd G (fA [(h0, .inr (2, [.ref a1, .ref a2, .ref a3, .ref a4, .int (nI im), .ref a5, .ref a6, .ref a7, .int (nI lm), .int (nI rm), .int (nI pl), .ref a8, .int sd])), (a1, aI G 54 (fl R)), (a2, aI G 54 (fl Rm)), (a7, aI G 7 (cN rf))]) s [(h0, .inr (2, [.ref a1, .ref a2, .ref a3, .ref a4, .int (nI im), .ref a5, .ref a6, .ref a7, .int (nI lm), .int (nI rm), .int (nI pl), .ref a8, .int sd])), (a1, aI G 54 (fl R)), (a2, aI G 54 (fl Rm)), (a7, aI G 7 (cN (upN rf (wbN nz 99) (rf (wbN nz 99) + 1))))] H locs := hw
          subst hr
          have hc : cBeh R xz nz wz = (wbN nz 99) := by unfold cBeh; (repeat' split) <;> omega
          have hj : (wbN nz 99) ≠ 0 := by omega
          exact rt_i C hw () (by exact (anI_r hc hj _).symm) (by rw [rfU_r hc hj, selR_r hc hj]) dX2_behind_49
      · skip
        have c_31 := b0_c c_31
        refine lv_bipush (v := (-2)) xx xb dX2_behind_34 (by decide) ?_
        refine lv_istore (lv' := [(4, .int (-2)), (0, .ref h0), (1, .int x), (2, .int n), (3, .int w)]) xx xb dX2_behind_36 hl (by decide) rfl (fun ls hl => ?_)
        refine lv_iload xx xb dX2_behind_38 (lv_at hl 0 rfl) ?_
        refine lv_if_eq (tgt := 50) xx xb dX2_behind_40 (by decide) (fun c_40 => ?_) (fun c_40 => ?_)
        · skip
          exact absurd c_40 (by decide)
        · skip
          refine lv_aload_n xx xb dX2_behind_43 rfl (lv_at hl 1 rfl) ?_
          refine lv_iload xx xb dX2_behind_44 (lv_at hl 0 rfl) ?_
          have hM := kX2_no l G h0 a1 a2 a3 a4 a5 a6 a7 a8 im lm rm pl sd rf 2 (by omega)
          refine cv_i C hw hM yvX2_no ml_X2_36 0 rfl rfl rfl [0, 3] rfl rfl (fun _ => (rfl : ([h0, a7] : List Nat) = [h0, a7])) (by decide) ⟨Nat.zero_le _, Nat.zero_le _⟩ hl.1 rfl (Nat.le_of_ble_eq_true rfl) dX2_behind_46 (fun r _ H locs hr hw => ?_)
          have hw : Wd G (fA [(h0, .inr (2, [.ref a1, .ref a2, .ref a3, .ref a4, .int (nI im), .ref a5, .ref a6, .ref a7, .int (nI lm), .int (nI rm), .int (nI pl), .ref a8, .int sd])), (a1, aI G 54 (fl R)), (a2, aI G 54 (fl Rm)), (a7, aI G 7 (cN rf))]) s [(h0, .inr (2, [.ref a1, .ref a2, .ref a3, .ref a4, .int (nI im), .ref a5, .ref a6, .ref a7, .int (nI lm), .int (nI rm), .int (nI pl), .ref a8, .int sd])), (a1, aI G 54 (fl R)), (a2, aI G 54 (fl Rm)), (a7, aI G 7 (cN (upN rf 2 (rf 2 + 1))))] H locs := hw
          subst hr
          have hc : cBeh R xz nz wz = 2 := by unfold cBeh; (repeat' split) <;> omega
          have hj : 2 ≠ 0 := by omega
          exact rt_i C hw () (by exact (anI_r hc hj _).symm) (by rw [rfU_r hc hj, selR_r hc hj]) dX2_behind_49
set_option maxRecDepth 100000 in
set_option maxHeartbeats 4000000 in
theorem kX2_falls (l : Launch) (G : GT) (h0 : Nat) (a1 : Nat) (a2 : Nat) (a3 : Nat) (a4 : Nat) (a5 : Nat) (a6 : Nat) (a7 : Nat) (a8 : Nat) (im : Nat) (lm : Nat) (rm : Nat) (pl : Nat) (sd : Int32) (R : RT) (Rm : RT) (rf : Nat → Nat) (x : Int32) (xz : Int) (h_x : x.toInt = xz) (hR : OK R) (hK : AK R) : Ct l yX2_falls cX2_falls 2 (some .int) 6 131 [.ref h0, .int x] G [(h0, .inr (2, [.ref a1, .ref a2, .ref a3, .ref a4, .int (nI im), .ref a5, .ref a6, .ref a7, .int (nI lm), .int (nI rm), .int (nI pl), .ref a8, .int sd])), (a1, aI G 54 (fl R)), (a2, aI G 54 (fl Rm)), (a7, aI G 7 (cN rf))] (QI G [(h0, .inr (2, [.ref a1, .ref a2, .ref a3, .ref a4, .int (nI im), .ref a5, .ref a6, .ref a7, .int (nI lm), .int (nI rm), .int (nI pl), .ref a8, .int sd])), (a1, aI G 54 (fl R)), (a2, aI G 54 (fl Rm)), (a7, aI G 7 (cN rf))] (fun (r : Int32) (u : Unit) => r = anI (cThg R xz) (ftI (ftN R xz.toNat))) (fun u => [(h0, .inr (2, [.ref a1, .ref a2, .ref a3, .ref a4, .int (nI im), .ref a5, .ref a6, .ref a7, .int (nI lm), .int (nI rm), .int (nI pl), .ref a8, .int sd])), (a1, aI G 54 (fl R)), (a2, aI G 54 (fl (selR (cThg R xz) (itF R (ftN R xz.toNat)) Rm))), (a7, aI G 7 (cN (rfU rf (cThg R xz))))])) := by
  refine en (by decide +kernel) (Nat.le_of_ble_eq_true rfl) ?_
  intro p e s m below meth c ls H locs C hl hw
  have xx := C.1
  have xb := C.2.1
  have hw : Wd G (fA [(h0, .inr (2, [.ref a1, .ref a2, .ref a3, .ref a4, .int (nI im), .ref a5, .ref a6, .ref a7, .int (nI lm), .int (nI rm), .int (nI pl), .ref a8, .int sd])), (a1, aI G 54 (fl R)), (a2, aI G 54 (fl Rm)), (a7, aI G 7 (cN rf))]) s [(h0, .inr (2, [.ref a1, .ref a2, .ref a3, .ref a4, .int (nI im), .ref a5, .ref a6, .ref a7, .int (nI lm), .int (nI rm), .int (nI pl), .ref a8, .int sd])), (a1, aI G 54 (fl R)), (a2, aI G 54 (fl Rm)), (a7, aI G 7 (cN rf))] H locs := hw
  have hl : lv_has ls 2 [(0, .ref h0), (1, .int x)] := hl
  obtain ⟨hn, hf0, hpr, hA⟩ := id hR
  refine lv_aload_n xx xb dX2_falls_0 rfl (lv_at hl 0 rfl) ?_
  refine lv_iload_n xx xb dX2_falls_1 rfl (lv_at hl 1 rfl) ?_
  have hM := kX2_isThing l G h0 a1 a2 a3 a4 a5 a6 a7 a8 im lm rm pl sd R x xz h_x (by first | assumption | omega)
  refine cv_i C hw hM yvX2_isThing ml_X2_105 0 rfl rfl rfl [0, 1] rfl rfl (fun _ => (rfl : ([h0, a1] : List Nat) = [h0, a1])) (by decide) ⟨Nat.zero_le _, Nat.zero_le _⟩ hl.1 rfl (Nat.le_of_ble_eq_true rfl) dX2_falls_2 (fun r _ H locs hr hw => ?_)
  have hw : Wd G (fA [(h0, .inr (2, [.ref a1, .ref a2, .ref a3, .ref a4, .int (nI im), .ref a5, .ref a6, .ref a7, .int (nI lm), .int (nI rm), .int (nI pl), .ref a8, .int sd])), (a1, aI G 54 (fl R)), (a2, aI G 54 (fl Rm)), (a7, aI G 7 (cN rf))]) s [(h0, .inr (2, [.ref a1, .ref a2, .ref a3, .ref a4, .int (nI im), .ref a5, .ref a6, .ref a7, .int (nI lm), .int (nI rm), .int (nI pl), .ref a8, .int sd])), (a1, aI G 54 (fl R)), (a2, aI G 54 (fl Rm)), (a7, aI G 7 (cN rf))] H locs := hw
  subst hr
  refine lv_if_eq (tgt := 16) xx xb dX2_falls_5 (by decide) (fun c_5 => ?_) (fun c_5 => ?_)
  · skip
    have c_5 := b0_c c_5
    refine lv_aload_n xx xb dX2_falls_16 rfl (lv_at hl 0 rfl) ?_
    refine lv_iconst (v := (-1)) xx xb dX2_falls_17 (by decide) ?_
    have hM := kX2_no l G h0 a1 a2 a3 a4 a5 a6 a7 a8 im lm rm pl sd rf 1 (by first | assumption | omega)
    refine cv_i C hw hM yvX2_no ml_X2_36 0 rfl rfl rfl [0, 3] rfl rfl (fun _ => (rfl : ([h0, a7] : List Nat) = [h0, a7])) (by decide) ⟨Nat.zero_le _, Nat.zero_le _⟩ hl.1 rfl (Nat.le_of_ble_eq_true rfl) dX2_falls_18 (fun r _ H locs hr hw => ?_)
    have hw : Wd G (fA [(h0, .inr (2, [.ref a1, .ref a2, .ref a3, .ref a4, .int (nI im), .ref a5, .ref a6, .ref a7, .int (nI lm), .int (nI rm), .int (nI pl), .ref a8, .int sd])), (a1, aI G 54 (fl R)), (a2, aI G 54 (fl Rm)), (a7, aI G 7 (cN rf))]) s [(h0, .inr (2, [.ref a1, .ref a2, .ref a3, .ref a4, .int (nI im), .ref a5, .ref a6, .ref a7, .int (nI lm), .int (nI rm), .int (nI pl), .ref a8, .int sd])), (a1, aI G 54 (fl R)), (a2, aI G 54 (fl Rm)), (a7, aI G 7 (cN (upN rf 1 (rf 1 + 1))))] H locs := hw
    subst hr
    have hc : cThg R xz = 1 := by unfold cThg; (repeat' split) <;> omega
    have hj : 1 ≠ 0 := by omega
    exact rt_i C hw () (by exact (anI_r hc hj _).symm) (by rw [rfU_r hc hj, selR_r hc hj]) dX2_falls_21
  · skip
    have c_5 := b1_c c_5
    refine lv_aload_n xx xb dX2_falls_8 rfl (lv_at hl 0 rfl) ?_
    refine lv_iload_n xx xb dX2_falls_9 rfl (lv_at hl 1 rfl) ?_
    refine re_i (nI xz.toNat) (ofT h_x (by omega) (by omega)) ?_
    have hM := kX2_fallsOf l G h0 a1 a2 a3 a4 a5 a6 a7 a8 im lm rm pl sd R Rm xz.toNat (by first | assumption | omega) (by first | assumption | omega) (by first | assumption | omega)
    refine cv_i C hw hM yvX2_fallsOf ml_X2_144 0 rfl rfl rfl [0, 1, 2] rfl rfl (fun _ => (rfl : ([h0, a1, a2] : List Nat) = [h0, a1, a2])) (by decide) ⟨Nat.zero_le _, Nat.zero_le _⟩ hl.1 rfl (Nat.le_of_ble_eq_true rfl) dX2_falls_10 (fun r _ H locs hr hw => ?_)
    have hw : Wd G (fA [(h0, .inr (2, [.ref a1, .ref a2, .ref a3, .ref a4, .int (nI im), .ref a5, .ref a6, .ref a7, .int (nI lm), .int (nI rm), .int (nI pl), .ref a8, .int sd])), (a1, aI G 54 (fl R)), (a2, aI G 54 (fl Rm)), (a7, aI G 7 (cN rf))]) s [(h0, .inr (2, [.ref a1, .ref a2, .ref a3, .ref a4, .int (nI im), .ref a5, .ref a6, .ref a7, .int (nI lm), .int (nI rm), .int (nI pl), .ref a8, .int sd])), (a1, aI G 54 (fl R)), (a2, aI G 54 (fl (itF R (ftN R xz.toNat)))), (a7, aI G 7 (cN rf))] H locs := hw
    subst hr
    refine lv_goto (tgt := 21) xx xb dX2_falls_13 (by decide) ?_
    have hc : cThg R xz = 0 := by unfold cThg; (repeat' split) <;> omega
    exact rt_i C hw () (by exact (anI_0 hc _).symm) (by rw [rfU_0 hc, selR_0 hc]) dX2_falls_21
