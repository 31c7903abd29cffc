noncomputable def lsN (R : RT) (k : Nat) : Nat := lf (fun v => decide (bs (shkF R k v) (R 0 0) = 0)) 10
def cLater (R : RT) (x v n : Int) : Nat := if 0 ≤ x ∧ x < ((R 0 0 : Nat) : Int) then (if v < 0 ∨ n < 0 then 4 else if 9 < v ∨ 99 < n then 6 else if R 4 x.toNat = 0 then 0 else 3) else 1
def vLater (R : RT) (k v n : Nat) : Nat := anN (anN (setF (itF (pulF R k v) n) 1) (bs (shkF R k v) (R 0 0))) (setF (itF R n) 1)
def cWhat (w : Int) : Nat := if 0 ≤ w ∧ w ≤ 1 then 0 else 2
def watP (R : RT) : Nat → Bool := fun a => decide (R 4 a = 0) && decide (R 1 a = 4)
def watN (R : RT) : Nat := if setF R 1 = 0 then 0 else ct (watP R) (R 0 0)
def surB (R : RT) : Nat → Bool
  | 0 => true
  | a + 1 => surB R a && (!decide (R 4 a = 0) || heldF R a)
def vWat (R : RT) (w : Int) : Int32 := if w = 0 then nI (watN R) else if surB R (R 0 0) = true then 1 else 0
/-- how many can be set up so, one behind the other -/
noncomputable def rcN : Nat → RT → Nat
  | 0, _ => 0
  | f + 1, R => if rbO R = 10 then 0 else rcN f (upR R 4 (rbO R) 0) + 1
noncomputable def vReb (R : RT) (w : Int) : Int32 := if w = 0 then onI (rbO R) else nI (rcN 10 R)
theorem OK_up4 {R : RT} (k : Nat) (h : OK R) : OK (upR R 4 k 0) := by
  refine OK_how (R := R) (fun i hi j _ => upR_n (by omega)) h.2.1 (fun a ha => ?_) h
  have h4 := (h.2.2.2 a ha).2.2.2.2
  unfold upR
  split
  · omega
  · exact h4
/-- how many LIE, as a measure -/
def lyN (R : RT) : Nat := ct (isS R 1) (R 0 0)
theorem ct_lt {P P' : Nat → Bool} : ∀ {n k : Nat}, k < n → (∀ a, P' a = true → P a = true) → P k = true → P' k = false → ct P' n < ct P n
  | 0, k, h, _, _, _ => absurd h (Nat.not_lt_zero _)
  | n + 1, k, h, hs, h1, h2 => by
    have mono : ∀ m, ct P' m ≤ ct P m := by
      intro m
      induction m with
      | zero => exact Nat.le_refl _
      | succ m ih =>
        unfold ct
        by_cases q : P' m = true
        · rw [if_pos q, if_pos (hs m q)]; omega
        · rw [if_neg q]; split <;> omega
    by_cases e : k = n
    · subst e
      show ct P' k + (if P' k = true then 1 else 0) < ct P k + (if P k = true then 1 else 0)
      rw [h1, h2]
      have := mono k
      simp; omega
    · have ih := ct_lt (n := n) (by omega : k < n) hs h1 h2
      show ct P' n + (if P' n = true then 1 else 0) < ct P n + (if P n = true then 1 else 0)
      by_cases q : P' n = true
      · rw [if_pos q, if_pos (hs n q)]; omega
      · rw [if_neg q]; split <;> omega
theorem lyN_lt {R : RT} {k : Nat} (hk : k < R 0 0) (h : R 4 k = 1) : lyN (upR R 4 k 0) < lyN R := by
  unfold lyN
  rw [upR_n (by omega)]
  refine ct_lt hk (fun a ha => ?_) (by simp [isS, h]) (by simp [isS, upR_s])
  simp only [isS, decide_eq_true_eq] at ha ⊢
  unfold upR at ha
  split at ha
  · omega
  · exact ha
theorem rcN_s {R : RT} {f : Nat} (h : rbO R ≠ 10) : rcN (f + 1) R = rcN f (upR R 4 (rbO R) 0) + 1 := if_neg h
theorem rcN_0 {R : RT} {f : Nat} (h : rbO R = 10) : rcN f R = 0 := by
  cases f
  · rfl
  · exact if_pos h
theorem rcN_l {R : RT} {f : Nat} (h : rbO R ≠ 10) (hf : lyN R ≤ f) (hk : rbO R < R 0 0) (h1 : R 4 (rbO R) = 1) : ∃ g, f = g + 1 ∧ lyN (upR R 4 (rbO R) 0) ≤ g ∧ rcN f R = rcN g (upR R 4 (rbO R) 0) + 1 := by
  have hl := lyN_lt hk h1
  refine ⟨f - 1, by omega, by omega, ?_⟩
  obtain ⟨g, rfl⟩ : ∃ g, f = g + 1 := ⟨f - 1, by omega⟩
  exact rcN_s h
/-- towers -/
def hgt (R : RT) : Nat → Nat → Nat
  | 0, _ => 0
  | f + 1, k => if R 3 k < 10 then hgt R f (R 3 k) + 1 else 0
def bot (R : RT) : Nat → Nat → Nat
  | 0, k => k
  | f + 1, k => if R 3 k < 10 then bot R f (R 3 k) else k
theorem hgt_s {R : RT} {f k : Nat} (h : R 3 k < 10) : hgt R (f + 1) k = hgt R f (R 3 k) + 1 := if_pos h
theorem hgt_0 {R : RT} {f k : Nat} (h : ¬ R 3 k < 10) : hgt R f k = 0 := by
  cases f
  · rfl
  · exact if_neg h
theorem bot_s {R : RT} {f k : Nat} (h : R 3 k < 10) : bot R (f + 1) k = bot R f (R 3 k) := if_pos h
theorem bot_0 {R : RT} {f k : Nat} (h : ¬ R 3 k < 10) : bot R f k = k := by
  cases f
  · rfl
  · exact if_neg h
def abvP (R : RT) (k : Nat) : Nat → Bool := fun a => rch R k 11 (R 3 a)
def cTow (R : RT) (x w : Int) : Nat := if 0 ≤ x ∧ x < ((R 0 0 : Nat) : Int) then (if 0 ≤ w ∧ w ≤ 2 then 0 else 2) else 1
def vTow (R : RT) (k : Nat) (w : Int) : Int32 := if w = 0 then nI (hgt R 11 k) else if w = 1 then nI (bs (abvP R k) (R 0 0)) else nI (bot R 11 k)
def watA (R : RT) (i : Nat) : Nat := if setF R 1 = 0 then 0 else ct (watP R) i
theorem watA_0 (R : RT) : watA R 0 = 0 := by unfold watA; split <;> rfl
theorem watA_e (R : RT) : watN R = watA R (R 0 0) := rfl
theorem watA_s1 {R : RT} {i : Nat} (hs : setF R 1 ≠ 0) (h4 : R 4 i = 0) (h1 : R 1 i = 4) : watA R i + 1 = watA R (i + 1) := by
  unfold watA
  rw [if_neg hs, if_neg hs]
  exact ct_t (by simp [watP, h4, h1])
theorem watA_s0 {R : RT} {i : Nat} (h : setF R 1 = 0 ∨ R 4 i ≠ 0 ∨ R 1 i ≠ 4) : watA R i + 0 = watA R (i + 1) := by
  unfold watA
  by_cases q : setF R 1 = 0
  · rw [if_pos q, if_pos q]
  · rw [if_neg q, if_neg q]
    refine ct_f ?_
    unfold watP
    by_cases h4 : R 4 i = 0
    · have h1 : R 1 i ≠ 4 := by omega
      simp [h4, h1]
    · simp [h4]
theorem watA_n {R : RT} {i : Nat} (h : ¬ R 4 i = 0) : watA R i = watA R (i + 1) := watA_s0 (Or.inr (Or.inl h))
theorem vWat_0 {R : RT} {w : Int} (h : w = 0) : vWat R w = nI (watN R) := if_pos h
theorem vWat_1 {R : RT} {w : Int} (h : w ≠ 0) : vWat R w = if surB R (R 0 0) = true then 1 else 0 := if_neg h
theorem surB_t {R : RT} {i : Nat} (h : heldF R i = true) : surB R i = surB R (i + 1) := by
  show surB R i = (surB R i && (!decide (R 4 i = 0) || heldF R i))
  simp [h]
theorem surB_f {R : RT} {i : Nat} (h4 : R 4 i = 0) (h : ¬ heldF R i = true) : surB R (i + 1) = false := by
  show (surB R i && (!decide (R 4 i = 0) || heldF R i)) = false
  simp [h4, h]
theorem surB_n {R : RT} {i : Nat} (h : ¬ R 4 i = 0) : surB R i = surB R (i + 1) := by
  show surB R i = (surB R i && (!decide (R 4 i = 0) || heldF R i))
  simp [h]
set_option maxRecDepth 100000 in
set_option maxHeartbeats 4000000 in
theorem kX2_leastSpeed (l : Launch) (G : GT) (h0 : Nat) (a1 : Nat) (a2 : Nat) (a3 : Nat) (a4 : Nat) (a5 : Nat) (a6 : Nat) (a7 : Nat) (a8 : Nat) (im : Nat) (lm : Nat) (rm : Nat) (pl : Nat) (sd : Int32) (R : RT) (rf : Nat → Nat) (x : Int32) (xz : Int) (h_x : x.toInt = xz) (hR : OK R) : Ct l yX2_leastSpeed cX2_leastSpeed 4 (some .int) 3 67 [.ref h0, .int x] G [(h0, .inr (2, [.ref a1, .ref a2, .ref a3, .ref a4, .int (nI im), .ref a5, .ref a6, .ref a7, .int (nI lm), .int (nI rm), .int (nI pl), .ref a8, .int sd])), (a1, aI G 54 (fl R)), (a7, aI G 7 (cN rf))] (QI G [(h0, .inr (2, [.ref a1, .ref a2, .ref a3, .ref a4, .int (nI im), .ref a5, .ref a6, .ref a7, .int (nI lm), .int (nI rm), .int (nI pl), .ref a8, .int sd])), (a1, aI G 54 (fl R)), (a7, aI G 7 (cN rf))] (fun (r : Int32) (u : Unit) => r = anI (wpN R xz 0) (onI (lsN R xz.toNat))) (fun u => [(h0, .inr (2, [.ref a1, .ref a2, .ref a3, .ref a4, .int (nI im), .ref a5, .ref a6, .ref a7, .int (nI lm), .int (nI rm), .int (nI pl), .ref a8, .int sd])), (a1, aI G 54 (fl R)), (a7, aI G 7 (cN (rfU rf (wpN R xz 0))))])) := by
  refine en (by decide +kernel) (Nat.le_of_ble_eq_true rfl) ?_
  intro p e s m below meth c ls H locs C hl hw
  have xx := C.1
  have xb := C.2.1
  have hw : Wd G (fA [(h0, .inr (2, [.ref a1, .ref a2, .ref a3, .ref a4, .int (nI im), .ref a5, .ref a6, .ref a7, .int (nI lm), .int (nI rm), .int (nI pl), .ref a8, .int sd])), (a1, aI G 54 (fl R)), (a7, aI G 7 (cN rf))]) s [(h0, .inr (2, [.ref a1, .ref a2, .ref a3, .ref a4, .int (nI im), .ref a5, .ref a6, .ref a7, .int (nI lm), .int (nI rm), .int (nI pl), .ref a8, .int sd])), (a1, aI G 54 (fl R)), (a7, aI G 7 (cN rf))] H locs := hw
  have hl : lv_has ls 4 [(0, .ref h0), (1, .int x)] := hl
  obtain ⟨hn, hf0, hpr, hA⟩ := id hR
  have hb6 := wpN_le R xz 0
  refine lv_aload_n xx xb dX2_leastSpeed_0 rfl (lv_at hl 0 rfl) ?_
  refine lv_iload_n xx xb dX2_leastSpeed_1 rfl (lv_at hl 1 rfl) ?_
  refine lv_iconst (v := nI 0) xx xb dX2_leastSpeed_2 (by decide) ?_
  have hM := kX2_wrongPull l G h0 a1 a2 a3 a4 a5 a6 a7 a8 im lm rm pl sd R x xz (nI 0) 0 h_x (tN (by omega)) (by first | assumption | omega)
  refine cv_i C hw hM yvX2_wrongPull ml_X2_131 0 rfl rfl rfl [0, 1] rfl rfl (fun _ => (rfl : ([h0, a1] : List Nat) = [h0, a1])) (by decide) ⟨Nat.zero_le _, Nat.zero_le _⟩ hl.1 rfl (Nat.le_of_ble_eq_true rfl) dX2_leastSpeed_3 (fun r _ H locs hr hw => ?_)
  have hw : Wd G (fA [(h0, .inr (2, [.ref a1, .ref a2, .ref a3, .ref a4, .int (nI im), .ref a5, .ref a6, .ref a7, .int (nI lm), .int (nI rm), .int (nI pl), .ref a8, .int sd])), (a1, aI G 54 (fl R)), (a7, aI G 7 (cN rf))]) s [(h0, .inr (2, [.ref a1, .ref a2, .ref a3, .ref a4, .int (nI im), .ref a5, .ref a6, .ref a7, .int (nI lm), .int (nI rm), .int (nI pl), .ref a8, .int sd])), (a1, aI G 54 (fl R)), (a7, aI G 7 (cN rf))] H locs := hw
  subst hr
  refine lv_istore_n (lv' := [(2, .int (nG (wpN R xz 0))), (0, .ref h0), (1, .int x)]) xx xb dX2_leastSpeed_6 rfl hl (by decide) rfl (fun ls hl => ?_)
  refine lv_iload_n xx xb dX2_leastSpeed_7 rfl (lv_at hl 0 rfl) ?_
  refine lv_if_eq (tgt := 17) xx xb dX2_leastSpeed_8 (by decide) (fun c_8 => ?_) (fun c_8 => ?_)
  · skip
    have c_8 := g0_c (by omega) c_8
    obtain ⟨g1, g2, g3⟩ := wpN_0 c_8
    have hb10 := fun v => bs_lt (shkF R xz.toNat v) (R 0 0)
    have h210 : 2 ^ R 0 0 ≤ 2 ^ 10 := Nat.pow_le_pow_right (by decide) hn
    refine lv_iconst (v := nI 0) xx xb dX2_leastSpeed_17 (by decide) ?_
    refine lv_istore_n (lv' := [(3, .int (nI 0)), (2, .int (nG (wpN R xz 0))), (0, .ref h0), (1, .int x)]) xx xb dX2_leastSpeed_18 rfl hl (by decide) rfl (fun ls hl => ?_)
    have L_19 : ∀ (fu : Nat) (i : Nat) (H : Heap) (locs : List Loc) (ls : Array Slot), 10 - i < fu → (i ≤ 10) → (∀ j, j < i → decide (bs (shkF R xz.toNat j) (R 0 0) = 0) = false) → Wd G (fA [(h0, .inr (2, [.ref a1, .ref a2, .ref a3, .ref a4, .int (nI im), .ref a5, .ref a6, .ref a7, .int (nI lm), .int (nI rm), .int (nI pl), .ref a8, .int sd])), (a1, aI G 54 (fl R)), (a7, aI G 7 (cN rf))]) s [(h0, .inr (2, [.ref a1, .ref a2, .ref a3, .ref a4, .int (nI im), .ref a5, .ref a6, .ref a7, .int (nI lm), .int (nI rm), .int (nI pl), .ref a8, .int sd])), (a1, aI G 54 (fl R)), (a7, aI G 7 (cN rf))] H locs → lv_has ls 4 [(0, .ref h0), (1, .int x), (3, .int (nI i))] → W p l e ({ frames := 3, cells := 0, slots := 0, locals := 67 }) s m (([.ref h0, .int x] : List Value).toArray) below meth c H locs 0 0 (MQ below (QI G [(h0, .inr (2, [.ref a1, .ref a2, .ref a3, .ref a4, .int (nI im), .ref a5, .ref a6, .ref a7, .int (nI lm), .int (nI rm), .int (nI pl), .ref a8, .int sd])), (a1, aI G 54 (fl R)), (a7, aI G 7 (cN rf))] (fun (r : Int32) (u : Unit) => r = anI (wpN R xz 0) (onI (lsN R xz.toNat))) (fun u => [(h0, .inr (2, [.ref a1, .ref a2, .ref a3, .ref a4, .int (nI im), .ref a5, .ref a6, .ref a7, .int (nI lm), .int (nI rm), .int (nI pl), .ref a8, .int sd])), (a1, aI G 54 (fl R)), (a7, aI G 7 (cN (rfU rf (wpN R xz 0))))])) (([.ref h0, .int x] : List Value).toArray) s 0 0 (fA [(h0, .inr (2, [.ref a1, .ref a2, .ref a3, .ref a4, .int (nI im), .ref a5, .ref a6, .ref a7, .int (nI lm), .int (nI rm), .int (nI pl), .ref a8, .int sd])), (a1, aI G 54 (fl R)), (a7, aI G 7 (cN rf))])) (F0 m 19 ls []) := by
      intro fu
      induction fu with
      | zero => intro i H locs ls hfu; exact absurd hfu (Nat.not_lt_zero _)
      | succ fu ih_19 =>
        intro i H locs ls hfu hi hP hw hl
        refine lv_iload_n xx xb dX2_leastSpeed_19 rfl (lv_at hl 2 rfl) ?_
        refine lv_bipush (v := nI 10) xx xb dX2_leastSpeed_20 (by decide) ?_
        refine lv_icmp_ge (tgt := 45) xx xb dX2_leastSpeed_22 (by decide) (fun c_22 => ?_) (fun c_22 => ?_)
        · skip
          have c_22 := le_c (tN (by omega)) (tN (by omega)) c_22
          refine lv_bipush (v := (-9)) xx xb dX2_leastSpeed_45 (by decide) ?_
          refine re_i (onI (lsN R xz.toNat)) (by rw [show lsN R xz.toNat = 10 from lf_eq _ _ _ (Nat.le_refl _) (fun j hj => hP j (by omega)) (fun q => absurd q (by omega))]; rfl) ?_
          have hc : wpN R xz 0 = 0 := by first | assumption | rfl
          exact rt_i C hw () (by exact (anI_0 hc _).symm) (by rw [rfU_0 hc]) dX2_leastSpeed_47
        · skip
          have c_22 := nle_c (tN (by omega)) (tN (by omega)) c_22
          have hbi := hb10 i
          refine lv_aload_n xx xb dX2_leastSpeed_25 rfl (lv_at hl 0 rfl) ?_
          refine m_get C hw 0 rfl fk_X2_9 rfl dX2_leastSpeed_26 ?_
          refine lv_iload_n xx xb dX2_leastSpeed_29 rfl (lv_at hl 1 rfl) ?_
          refine re_i (onI xz.toNat) ((ofT h_x (by omega) (by omega)).trans (onI_lt (by omega)).symm) ?_
          refine lv_iload_n xx xb dX2_leastSpeed_30 rfl (lv_at hl 2 rfl) ?_
          have hM := kX2_shaken l G a1 R xz.toNat i (by first | assumption | omega) (by first | assumption | omega) (by first | assumption | omega)
          refine cs_i C hw hM ysX2_shaken ml_X2_63 rfl [1] rfl rfl (fun _ => (rfl : ([a1] : List Nat) = [a1])) (by decide) ⟨Nat.zero_le _, Nat.zero_le _⟩ hl.1 rfl (Nat.le_of_ble_eq_true rfl) dX2_leastSpeed_31 (fun r _ H locs hr hw => ?_)
          have hw : Wd G (fA [(h0, .inr (2, [.ref a1, .ref a2, .ref a3, .ref a4, .int (nI im), .ref a5, .ref a6, .ref a7, .int (nI lm), .int (nI rm), .int (nI pl), .ref a8, .int sd])), (a1, aI G 54 (fl R)), (a7, aI G 7 (cN rf))]) s [(h0, .inr (2, [.ref a1, .ref a2, .ref a3, .ref a4, .int (nI im), .ref a5, .ref a6, .ref a7, .int (nI lm), .int (nI rm), .int (nI pl), .ref a8, .int sd])), (a1, aI G 54 (fl R)), (a7, aI G 7 (cN rf))] H locs := hw
          subst hr
          refine lv_if_ne (tgt := 39) xx xb dX2_leastSpeed_34 (by decide) (fun c_34 => ?_) (fun c_34 => ?_)
          · skip
            have c_34 := ne_c (tN (by omega)) Int32.toInt_zero c_34
            have hP2 : ∀ j, j < i + 1 → decide (bs (shkF R xz.toNat j) (R 0 0) = 0) = false := fun j hj => by
              by_cases hj2 : j < i
              · exact hP j hj2
              · have e : j = i := (by omega)
                rw [e, decide_eq_false_iff_not]; omega
            refine lv_iinc (v := nI (i + 1)) (lv' := [(3, .int (nI (i + 1))), (0, .ref h0), (1, .int x)]) xx xb dX2_leastSpeed_39 hl (k := 2) rfl (nI_add _ 1) (by decide) rfl (fun ls hl => ?_)
            refine lv_goto (tgt := 19) xx xb dX2_leastSpeed_42 (by decide) ?_
            exact ih_19 (i + 1) H _ ls (by omega) (by omega) hP2 hw (lv_sub hl [1, 2, 0] rfl)
          · skip
            have c_34 := eq_c (tN (by omega)) Int32.toInt_zero c_34
            have hls : lsN R xz.toNat = i := lf_eq _ _ _ (by omega) hP (fun _ => by rw [decide_eq_true_eq]; omega)
            refine lv_iload_n xx xb dX2_leastSpeed_37 rfl (lv_at hl 2 rfl) ?_
            refine re_i (onI (lsN R xz.toNat)) (by rw [hls]; exact (onI_lt (by omega)).symm) ?_
            have hc : wpN R xz 0 = 0 := by first | assumption | rfl
            exact rt_i C hw () (by exact (anI_0 hc _).symm) (by rw [rfU_0 hc]) dX2_leastSpeed_38
    exact L_19 (_ + 1) 0 H _ ls (Nat.lt_succ_self _) (by omega) (fun j hj => absurd hj (Nat.not_lt_zero _)) hw (lv_sub hl [2, 3, 0] rfl)
  · skip
    have c_8 := g0_n c_8
    refine lv_aload_n xx xb dX2_leastSpeed_11 rfl (lv_at hl 1 rfl) ?_
    refine lv_iload_n xx xb dX2_leastSpeed_12 rfl (lv_at hl 0 rfl) ?_
    have hM := kX2_no l G h0 a1 a2 a3 a4 a5 a6 a7 a8 im lm rm pl sd rf (wpN R xz 0) (by omega)
    refine cv_i C hw hM yvX2_no ml_X2_36 0 rfl rfl rfl [0, 2] rfl rfl (fun _ => (rfl : ([h0, a7] : List Nat) = [h0, a7])) (by decide) ⟨Nat.zero_le _, Nat.zero_le _⟩ hl.1 rfl (Nat.le_of_ble_eq_true rfl) dX2_leastSpeed_13 (fun r _ H locs hr hw => ?_)
    have hw : Wd G (fA [(h0, .inr (2, [.ref a1, .ref a2, .ref a3, .ref a4, .int (nI im), .ref a5, .ref a6, .ref a7, .int (nI lm), .int (nI rm), .int (nI pl), .ref a8, .int sd])), (a1, aI G 54 (fl R)), (a7, aI G 7 (cN rf))]) s [(h0, .inr (2, [.ref a1, .ref a2, .ref a3, .ref a4, .int (nI im), .ref a5, .ref a6, .ref a7, .int (nI lm), .int (nI rm), .int (nI pl), .ref a8, .int sd])), (a1, aI G 54 (fl R)), (a7, aI G 7 (cN (upN rf (wpN R xz 0) (rf (wpN R xz 0) + 1))))] H locs := hw
    subst hr
    have hc : wpN R xz 0 = (wpN R xz 0) := by first | assumption | rfl
    have hj : (wpN R xz 0) ≠ 0 := by omega
    exact rt_i C hw () (by exact (anI_r hc hj _).symm) (by rw [rfU_r hc hj]) dX2_leastSpeed_16
set_option maxRecDepth 100000 in
set_option maxHeartbeats 4000000 in
theorem kX2_atOnce (l : Launch) (G : GT) (h0 : Nat) (a1 : Nat) (a2 : Nat) (a3 : Nat) (a4 : Nat) (a5 : Nat) (a6 : Nat) (a7 : Nat) (a8 : Nat) (im : Nat) (lm : Nat) (rm : Nat) (pl : Nat) (sd : Int32) (R : RT) (rf : Nat → Nat) (x : Int32) (xz : Int) (v : Int32) (vz : Int) (h_x : x.toInt = xz) (h_v : v.toInt = vz) (hR : OK R) : Ct l yX2_atOnce cX2_atOnce 4 (some .int) 3 67 [.ref h0, .int x, .int v] G [(h0, .inr (2, [.ref a1, .ref a2, .ref a3, .ref a4, .int (nI im), .ref a5, .ref a6, .ref a7, .int (nI lm), .int (nI rm), .int (nI pl), .ref a8, .int sd])), (a1, aI G 54 (fl R)), (a7, aI G 7 (cN rf))] (QI G [(h0, .inr (2, [.ref a1, .ref a2, .ref a3, .ref a4, .int (nI im), .ref a5, .ref a6, .ref a7, .int (nI lm), .int (nI rm), .int (nI pl), .ref a8, .int sd])), (a1, aI G 54 (fl R)), (a7, aI G 7 (cN rf))] (fun (r : Int32) (u : Unit) => r = anI (wpN R xz vz) (nI (bs (shkF R xz.toNat vz.toNat) (R 0 0)))) (fun u => [(h0, .inr (2, [.ref a1, .ref a2, .ref a3, .ref a4, .int (nI im), .ref a5, .ref a6, .ref a7, .int (nI lm), .int (nI rm), .int (nI pl), .ref a8, .int sd])), (a1, aI G 54 (fl R)), (a7, aI G 7 (cN (rfU rf (wpN R xz vz))))])) := by
  refine en (by decide +kernel) (Nat.le_of_ble_eq_true rfl) ?_
  intro p e s m below meth c ls H locs C hl hw
  have xx := C.1
  have xb := C.2.1
  have hw : Wd G (fA [(h0, .inr (2, [.ref a1, .ref a2, .ref a3, .ref a4, .int (nI im), .ref a5, .ref a6, .ref a7, .int (nI lm), .int (nI rm), .int (nI pl), .ref a8, .int sd])), (a1, aI G 54 (fl R)), (a7, aI G 7 (cN rf))]) s [(h0, .inr (2, [.ref a1, .ref a2, .ref a3, .ref a4, .int (nI im), .ref a5, .ref a6, .ref a7, .int (nI lm), .int (nI rm), .int (nI pl), .ref a8, .int sd])), (a1, aI G 54 (fl R)), (a7, aI G 7 (cN rf))] H locs := hw
  have hl : lv_has ls 4 [(0, .ref h0), (1, .int x), (2, .int v)] := hl
  obtain ⟨hn, hf0, hpr, hA⟩ := id hR
  have hb6 := wpN_le R xz vz
  refine lv_aload_n xx xb dX2_atOnce_0 rfl (lv_at hl 0 rfl) ?_
  refine lv_iload_n xx xb dX2_atOnce_1 rfl (lv_at hl 1 rfl) ?_
  refine lv_iload_n xx xb dX2_atOnce_2 rfl (lv_at hl 2 rfl) ?_
  have hM := kX2_wrongPull l G h0 a1 a2 a3 a4 a5 a6 a7 a8 im lm rm pl sd R x xz v vz h_x h_v (by first | assumption | omega)
  refine cv_i C hw hM yvX2_wrongPull ml_X2_131 0 rfl rfl rfl [0, 1] rfl rfl (fun _ => (rfl : ([h0, a1] : List Nat) = [h0, a1])) (by decide) ⟨Nat.zero_le _, Nat.zero_le _⟩ hl.1 rfl (Nat.le_of_ble_eq_true rfl) dX2_atOnce_3 (fun r _ H locs hr hw => ?_)
  have hw : Wd G (fA [(h0, .inr (2, [.ref a1, .ref a2, .ref a3, .ref a4, .int (nI im), .ref a5, .ref a6, .ref a7, .int (nI lm), .int (nI rm), .int (nI pl), .ref a8, .int sd])), (a1, aI G 54 (fl R)), (a7, aI G 7 (cN rf))]) s [(h0, .inr (2, [.ref a1, .ref a2, .ref a3, .ref a4, .int (nI im), .ref a5, .ref a6, .ref a7, .int (nI lm), .int (nI rm), .int (nI pl), .ref a8, .int sd])), (a1, aI G 54 (fl R)), (a7, aI G 7 (cN rf))] H locs := hw
  subst hr
  refine lv_istore_n (lv' := [(3, .int (nG (wpN R xz vz))), (0, .ref h0), (1, .int x), (2, .int v)]) xx xb dX2_atOnce_6 rfl hl (by decide) rfl (fun ls hl => ?_)
  refine lv_iload_n xx xb dX2_atOnce_7 rfl (lv_at hl 0 rfl) ?_
  refine lv_if_eq (tgt := 19) xx xb dX2_atOnce_8 (by decide) (fun c_8 => ?_) (fun c_8 => ?_)
  · skip
    have c_8 := g0_c (by omega) c_8
    obtain ⟨g1, g2, g3⟩ := wpN_0 c_8
    refine lv_aload_n xx xb dX2_atOnce_19 rfl (lv_at hl 1 rfl) ?_
    refine m_get C hw 0 rfl fk_X2_9 rfl dX2_atOnce_20 ?_
    refine lv_iload_n xx xb dX2_atOnce_23 rfl (lv_at hl 2 rfl) ?_
    refine re_i (onI xz.toNat) ((ofT h_x (by omega) (by omega)).trans (onI_lt (by omega)).symm) ?_
    refine lv_iload_n xx xb dX2_atOnce_24 rfl (lv_at hl 3 rfl) ?_
    refine re_i (nI vz.toNat) (ofT h_v (by omega) (by omega)) ?_
    have hM := kX2_shaken l G a1 R xz.toNat vz.toNat (by first | assumption | omega) (by first | assumption | omega) (by first | assumption | omega)
    refine cs_i C hw hM ysX2_shaken ml_X2_63 rfl [1] rfl rfl (fun _ => (rfl : ([a1] : List Nat) = [a1])) (by decide) ⟨Nat.zero_le _, Nat.zero_le _⟩ hl.1 rfl (Nat.le_of_ble_eq_true rfl) dX2_atOnce_25 (fun r _ H locs hr hw => ?_)
    have hw : Wd G (fA [(h0, .inr (2, [.ref a1, .ref a2, .ref a3, .ref a4, .int (nI im), .ref a5, .ref a6, .ref a7, .int (nI lm), .int (nI rm), .int (nI pl), .ref a8, .int sd])), (a1, aI G 54 (fl R)), (a7, aI G 7 (cN rf))]) s [(h0, .inr (2, [.ref a1, .ref a2, .ref a3, .ref a4, .int (nI im), .ref a5, .ref a6, .ref a7, .int (nI lm), .int (nI rm), .int (nI pl), .ref a8, .int sd])), (a1, aI G 54 (fl R)), (a7, aI G 7 (cN rf))] H locs := hw
    subst hr
    have hc : wpN R xz vz = 0 := by first | assumption | rfl
    exact rt_i C hw () (by exact (anI_0 hc _).symm) (by rw [rfU_0 hc]) dX2_atOnce_28
  · skip
    have c_8 := g0_n c_8
    refine lv_aload_n xx xb dX2_atOnce_11 rfl (lv_at hl 1 rfl) ?_
    refine lv_iload_n xx xb dX2_atOnce_12 rfl (lv_at hl 0 rfl) ?_
    have hM := kX2_no l G h0 a1 a2 a3 a4 a5 a6 a7 a8 im lm rm pl sd rf (wpN R xz vz) (by omega)
    refine cv_i C hw hM yvX2_no ml_X2_36 0 rfl rfl rfl [0, 2] rfl rfl (fun _ => (rfl : ([h0, a7] : List Nat) = [h0, a7])) (by decide) ⟨Nat.zero_le _, Nat.zero_le _⟩ hl.1 rfl (Nat.le_of_ble_eq_true rfl) dX2_atOnce_13 (fun r _ H locs hr hw => ?_)
    have hw : Wd G (fA [(h0, .inr (2, [.ref a1, .ref a2, .ref a3, .ref a4, .int (nI im), .ref a5, .ref a6, .ref a7, .int (nI lm), .int (nI rm), .int (nI pl), .ref a8, .int sd])), (a1, aI G 54 (fl R)), (a7, aI G 7 (cN rf))]) s [(h0, .inr (2, [.ref a1, .ref a2, .ref a3, .ref a4, .int (nI im), .ref a5, .ref a6, .ref a7, .int (nI lm), .int (nI rm), .int (nI pl), .ref a8, .int sd])), (a1, aI G 54 (fl R)), (a7, aI G 7 (cN (upN rf (wpN R xz vz) (rf (wpN R xz vz) + 1))))] H locs := hw
    subst hr
    refine lv_goto (tgt := 28) xx xb dX2_atOnce_16 (by decide) ?_
    have hc : wpN R xz vz = (wpN R xz vz) := by first | assumption | rfl
    have hj : (wpN R xz vz) ≠ 0 := by omega
    exact rt_i C hw () (by exact (anI_r hc hj _).symm) (by rw [rfU_r hc hj]) dX2_atOnce_28
set_option maxRecDepth 100000 in
set_option maxHeartbeats 4000000 in
theorem kX2_later (l : Launch) (G : GT) (h0 : Nat) (a1 : Nat) (a2 : Nat) (a3 : Nat) (a4 : Nat) (a5 : Nat) (a6 : Nat) (a7 : Nat) (a8 : Nat) (im : Nat) (lm : Nat) (rm : Nat) (pl : Nat) (sd : Int32) (R : RT) (Rm : RT) (rf : Nat → Nat) (x : Int32) (xz : Int) (v : Int32) (vz : Int) (n : Int32) (nz : Int) (h_x : x.toInt = xz) (h_v : v.toInt = vz) (h_n : n.toInt = nz) (hR : OK R) (hK : AK R) : Ct l yX2_later cX2_later 8 (some .int) 6 131 [.ref h0, .int x, .int v, .int n] G [(h0, .inr (2, [.ref a1, .ref a2, .ref a3, .ref a4, .int (nI im), .ref a5, .ref a6, .ref a7, .int (nI lm), .int (nI rm), .int (nI pl), .ref a8, .int sd])), (a1, aI G 54 (fl R)), (a2, aI G 54 (fl Rm)), (a7, aI G 7 (cN rf))] (QI G [(h0, .inr (2, [.ref a1, .ref a2, .ref a3, .ref a4, .int (nI im), .ref a5, .ref a6, .ref a7, .int (nI lm), .int (nI rm), .int (nI pl), .ref a8, .int sd])), (a1, aI G 54 (fl R)), (a2, aI G 54 (fl Rm)), (a7, aI G 7 (cN rf))] (fun (r : Int32) (u : Unit) => r = anI (cLater R xz vz nz) (nI (vLater R xz.toNat vz.toNat nz.toNat))) (fun u => [(h0, .inr (2, [.ref a1, .ref a2, .ref a3, .ref a4, .int (nI im), .ref a5, .ref a6, .ref a7, .int (nI lm), .int (nI rm), .int (nI pl), .ref a8, .int sd])), (a1, aI G 54 (fl R)), (a2, aI G 54 (fl (selR (cLater R xz vz nz) (itF (pulF R xz.toNat vz.toNat) nz.toNat) Rm))), (a7, aI G 7 (cN (rfU rf (cLater R xz vz nz))))])) := by
  refine en (by decide +kernel) (Nat.le_of_ble_eq_true rfl) ?_
  intro p e s m below meth c ls H locs C hl hw
  have xx := C.1
  have xb := C.2.1
  have hw : Wd G (fA [(h0, .inr (2, [.ref a1, .ref a2, .ref a3, .ref a4, .int (nI im), .ref a5, .ref a6, .ref a7, .int (nI lm), .int (nI rm), .int (nI pl), .ref a8, .int sd])), (a1, aI G 54 (fl R)), (a2, aI G 54 (fl Rm)), (a7, aI G 7 (cN rf))]) s [(h0, .inr (2, [.ref a1, .ref a2, .ref a3, .ref a4, .int (nI im), .ref a5, .ref a6, .ref a7, .int (nI lm), .int (nI rm), .int (nI pl), .ref a8, .int sd])), (a1, aI G 54 (fl R)), (a2, aI G 54 (fl Rm)), (a7, aI G 7 (cN rf))] H locs := hw
  have hl : lv_has ls 8 [(0, .ref h0), (1, .int x), (2, .int v), (3, .int n)] := hl
  obtain ⟨hn, hf0, hpr, hA⟩ := id hR
  refine lv_aload_n xx xb dX2_later_0 rfl (lv_at hl 0 rfl) ?_
  refine lv_iload_n xx xb dX2_later_1 rfl (lv_at hl 1 rfl) ?_
  have hM := kX2_isThing l G h0 a1 a2 a3 a4 a5 a6 a7 a8 im lm rm pl sd R x xz h_x (by first | assumption | omega)
  refine cv_i C hw hM yvX2_isThing ml_X2_105 0 rfl rfl rfl [0, 1] rfl rfl (fun _ => (rfl : ([h0, a1] : List Nat) = [h0, a1])) (by decide) ⟨Nat.zero_le _, Nat.zero_le _⟩ hl.1 rfl (Nat.le_of_ble_eq_true rfl) dX2_later_2 (fun r _ H locs hr hw => ?_)
  have hw : Wd G (fA [(h0, .inr (2, [.ref a1, .ref a2, .ref a3, .ref a4, .int (nI im), .ref a5, .ref a6, .ref a7, .int (nI lm), .int (nI rm), .int (nI pl), .ref a8, .int sd])), (a1, aI G 54 (fl R)), (a2, aI G 54 (fl Rm)), (a7, aI G 7 (cN rf))]) s [(h0, .inr (2, [.ref a1, .ref a2, .ref a3, .ref a4, .int (nI im), .ref a5, .ref a6, .ref a7, .int (nI lm), .int (nI rm), .int (nI pl), .ref a8, .int sd])), (a1, aI G 54 (fl R)), (a2, aI G 54 (fl Rm)), (a7, aI G 7 (cN rf))] H locs := hw
  subst hr
  refine lv_if_ne (tgt := 12) xx xb dX2_later_5 (by decide) (fun c_5 => ?_) (fun c_5 => ?_)
  · skip
    have c_5 := b1_c c_5
    refine lv_iload_n xx xb dX2_later_12 rfl (lv_at hl 2 rfl) ?_
    refine lv_if_lt (tgt := 20) xx xb dX2_later_13 (by decide) (fun c_13 => ?_) (fun c_13 => ?_)
    · skip
      have c_13 := lt_c h_v Int32.toInt_zero c_13
      refine lv_bipush (v := (-4)) xx xb dX2_later_20 (by decide) ?_
      refine lv_goto (tgt := 59) xx xb dX2_later_22 (by decide) ?_
      refine lv_istore (lv' := [(4, .int (-4)), (0, .ref h0), (1, .int x), (2, .int v), (3, .int n)]) xx xb dX2_later_59 hl (by decide) rfl (fun ls hl => ?_)
      refine lv_iload xx xb dX2_later_61 (lv_at hl 0 rfl) ?_
      refine lv_if_eq (tgt := 73) xx xb dX2_later_63 (by decide) (fun c_63 => ?_) (fun c_63 => ?_)
      · skip
        exact absurd c_63 (by decide)
      · skip
        refine lv_aload_n xx xb dX2_later_66 rfl (lv_at hl 1 rfl) ?_
        refine lv_iload xx xb dX2_later_67 (lv_at hl 0 rfl) ?_
        have hM := kX2_no l G h0 a1 a2 a3 a4 a5 a6 a7 a8 im lm rm pl sd rf 4 (by first | assumption | omega)
        refine cv_i C hw hM yvX2_no ml_X2_36 0 rfl rfl rfl [0, 3] rfl rfl (fun _ => (rfl : ([h0, a7] : List Nat) = [h0, a7])) (by decide) ⟨Nat.zero_le _, Nat.zero_le _⟩ hl.1 rfl (Nat.le_of_ble_eq_true rfl) dX2_later_69 (fun r _ H locs hr hw => ?_)
        have hw : Wd G (fA [(h0, .inr (2, [.ref a1, .ref a2, .ref a3, .ref a4, .int (nI im), .ref a5, .ref a6, .ref a7, .int (nI lm), .int (nI rm), .int (nI pl), .ref a8, .int sd])), (a1, aI G 54 (fl R)), (a2, aI G 54 (fl Rm)), (a7, aI G 7 (cN rf))]) s [(h0, .inr (2, [.ref a1, .ref a2, .ref a3, .ref a4, .int (nI im), .ref a5, .ref a6, .ref a7, .int (nI lm), .int (nI rm), .int (nI pl), .ref a8, .int sd])), (a1, aI G 54 (fl R)), (a2, aI G 54 (fl Rm)), (a7, aI G 7 (cN (upN rf 4 (rf 4 + 1))))] H locs := hw
        subst hr
        have hc : cLater R xz vz nz = 4 := by unfold cLater; (repeat' split) <;> omega
        have hj : 4 ≠ 0 := by omega
        exact rt_i C hw () (by exact (anI_r hc hj _).symm) (by rw [rfU_r hc hj, selR_r hc hj]) dX2_later_72
    · skip
      have c_13 := nlt_c h_v Int32.toInt_zero c_13
      refine lv_iload_n xx xb dX2_later_16 rfl (lv_at hl 3 rfl) ?_
      refine lv_if_ge (tgt := 25) xx xb dX2_later_17 (by decide) (fun c_17 => ?_) (fun c_17 => ?_)
      · skip
        have c_17 := le_c Int32.toInt_zero h_n c_17
        refine lv_iload_n xx xb dX2_later_25 rfl (lv_at hl 2 rfl) ?_
        refine lv_bipush (v := nI 9) xx xb dX2_later_26 (by decide) ?_
        refine lv_icmp_gt (tgt := 37) xx xb dX2_later_28 (by decide) (fun c_28 => ?_) (fun c_28 => ?_)
        · skip
          have c_28 := lt_c (tN (by omega)) h_v c_28
          refine lv_bipush (v := (-6)) xx xb dX2_later_37 (by decide) ?_
          refine lv_goto (tgt := 59) xx xb dX2_later_39 (by decide) ?_
          refine lv_istore (lv' := [(4, .int (-6)), (0, .ref h0), (1, .int x), (2, .int v), (3, .int n)]) xx xb dX2_later_59 hl (by decide) rfl (fun ls hl => ?_)
          refine lv_iload xx xb dX2_later_61 (lv_at hl 0 rfl) ?_
          refine lv_if_eq (tgt := 73) xx xb dX2_later_63 (by decide) (fun c_63 => ?_) (fun c_63 => ?_)
          · skip
            exact absurd c_63 (by decide)
          · skip
            refine lv_aload_n xx xb dX2_later_66 rfl (lv_at hl 1 rfl) ?_
            refine lv_iload xx xb dX2_later_67 (lv_at hl 0 rfl) ?_
            have hM := kX2_no l G h0 a1 a2 a3 a4 a5 a6 a7 a8 im lm rm pl sd rf 6 (by first | assumption | omega)
            refine cv_i C hw hM yvX2_no ml_X2_36 0 rfl rfl rfl [0, 3] rfl rfl (fun _ => (rfl : ([h0, a7] : List Nat) = [h0, a7])) (by decide) ⟨Nat.zero_le _, Nat.zero_le _⟩ hl.1 rfl (Nat.le_of_ble_eq_true rfl) dX2_later_69 (fun r _ H locs hr hw => ?_)
            have hw : Wd G (fA [(h0, .inr (2, [.ref a1, .ref a2, .ref a3, .ref a4, .int (nI im), .ref a5, .ref a6, .ref a7, .int (nI lm), .int (nI rm), .int (nI pl), .ref a8, .int sd])), (a1, aI G 54 (fl R)), (a2, aI G 54 (fl Rm)), (a7, aI G 7 (cN rf))]) s [(h0, .inr (2, [.ref a1, .ref a2, .ref a3, .ref a4, .int (nI im), .ref a5, .ref a6, .ref a7, .int (nI lm), .int (nI rm), .int (nI pl), .ref a8, .int sd])), (a1, aI G 54 (fl R)), (a2, aI G 54 (fl Rm)), (a7, aI G 7 (cN (upN rf 6 (rf 6 + 1))))] H locs := hw
            subst hr
            have hc : cLater R xz vz nz = 6 := by unfold cLater; (repeat' split) <;> omega
            have hj : 6 ≠ 0 := by omega
            exact rt_i C hw () (by exact (anI_r hc hj _).symm) (by rw [rfU_r hc hj, selR_r hc hj]) dX2_later_72
        · skip
          have c_28 := nlt_c (tN (by omega)) h_v c_28
          refine lv_iload_n xx xb dX2_later_31 rfl (lv_at hl 3 rfl) ?_
          refine lv_bipush (v := nI 99) xx xb dX2_later_32 (by decide) ?_
          refine lv_icmp_le (tgt := 42) xx xb dX2_later_34 (by decide) (fun c_34 => ?_) (fun c_34 => ?_)
          · skip
            have c_34 := le_c h_n (tN (by omega)) c_34
            refine lv_aload_n xx xb dX2_later_42 rfl (lv_at hl 0 rfl) ?_
            refine m_get C hw 0 rfl fk_X2_9 rfl dX2_later_43 ?_
            refine lv_iload_n xx xb dX2_later_46 rfl (lv_at hl 1 rfl) ?_
            refine re_i (nI xz.toNat) (ofT h_x (by omega) (by omega)) ?_
            have hM := kX2_stands l G a1 R xz.toNat (by first | assumption | omega) (by first | assumption | omega)
            refine cs_i C hw hM ysX2_stands ml_X2_55 rfl [1] rfl rfl (fun _ => (rfl : ([a1] : List Nat) = [a1])) (by decide) ⟨Nat.zero_le _, Nat.zero_le _⟩ hl.1 rfl (Nat.le_of_ble_eq_true rfl) dX2_later_47 (fun r _ H locs hr hw => ?_)
            have hw : Wd G (fA [(h0, .inr (2, [.ref a1, .ref a2, .ref a3, .ref a4, .int (nI im), .ref a5, .ref a6, .ref a7, .int (nI lm), .int (nI rm), .int (nI pl), .ref a8, .int sd])), (a1, aI G 54 (fl R)), (a2, aI G 54 (fl Rm)), (a7, aI G 7 (cN rf))]) s [(h0, .inr (2, [.ref a1, .ref a2, .ref a3, .ref a4, .int (nI im), .ref a5, .ref a6, .ref a7, .int (nI lm), .int (nI rm), .int (nI pl), .ref a8, .int sd])), (a1, aI G 54 (fl R)), (a2, aI G 54 (fl Rm)), (a7, aI G 7 (cN rf))] H locs := hw
            subst hr
            refine lv_if_eq (tgt := 57) xx xb dX2_later_50 (by decide) (fun c_50 => ?_) (fun c_50 => ?_)
            · skip
              have c_50 := b0_c c_50
              refine lv_bipush (v := (-3)) xx xb dX2_later_57 (by decide) ?_
              refine lv_istore (lv' := [(4, .int (-3)), (0, .ref h0), (1, .int x), (2, .int v), (3, .int n)]) xx xb dX2_later_59 hl (by decide) rfl (fun ls hl => ?_)
              refine lv_iload xx xb dX2_later_61 (lv_at hl 0 rfl) ?_
              refine lv_if_eq (tgt := 73) xx xb dX2_later_63 (by decide) (fun c_63 => ?_) (fun c_63 => ?_)
              · skip
                exact absurd c_63 (by decide)
              · skip
                refine lv_aload_n xx xb dX2_later_66 rfl (lv_at hl 1 rfl) ?_
                refine lv_iload xx xb dX2_later_67 (lv_at hl 0 rfl) ?_
                have hM := kX2_no l G h0 a1 a2 a3 a4 a5 a6 a7 a8 im lm rm pl sd rf 3 (by first | assumption | omega)
                refine cv_i C hw hM yvX2_no ml_X2_36 0 rfl rfl rfl [0, 3] rfl rfl (fun _ => (rfl : ([h0, a7] : List Nat) = [h0, a7])) (by decide) ⟨Nat.zero_le _, Nat.zero_le _⟩ hl.1 rfl (Nat.le_of_ble_eq_true rfl) dX2_later_69 (fun r _ H locs hr hw => ?_)
                have hw : Wd G (fA [(h0, .inr (2, [.ref a1, .ref a2, .ref a3, .ref a4, .int (nI im), .ref a5, .ref a6, .ref a7, .int (nI lm), .int (nI rm), .int (nI pl), .ref a8, .int sd])), (a1, aI G 54 (fl R)), (a2, aI G 54 (fl Rm)), (a7, aI G 7 (cN rf))]) s [(h0, .inr (2, [.ref a1, .ref a2, .ref a3, .ref a4, .int (nI im), .ref a5, .ref a6, .ref a7, .int (nI lm), .int (nI rm), .int (nI pl), .ref a8, .int sd])), (a1, aI G 54 (fl R)), (a2, aI G 54 (fl Rm)), (a7, aI G 7 (cN (upN rf 3 (rf 3 + 1))))] H locs := hw
                subst hr
                have hc : cLater R xz vz nz = 3 := by unfold cLater; (repeat' split) <;> omega
                have hj : 3 ≠ 0 := by omega
                exact rt_i C hw () (by exact (anI_r hc hj _).symm) (by rw [rfU_r hc hj, selR_r hc hj]) dX2_later_72
            · skip
              have c_50 := b1_c c_50
              refine lv_iconst (v := nI 0) xx xb dX2_later_53 (by decide) ?_
              refine lv_goto (tgt := 59) xx xb dX2_later_54 (by decide) ?_
              refine lv_istore (lv' := [(4, .int (nI 0)), (0, .ref h0), (1, .int x), (2, .int v), (3, .int n)]) xx xb dX2_later_59 hl (by decide) rfl (fun ls hl => ?_)
              refine lv_iload xx xb dX2_later_61 (lv_at hl 0 rfl) ?_
              refine lv_if_eq (tgt := 73) xx xb dX2_later_63 (by decide) (fun c_63 => ?_) (fun c_63 => ?_)
              · skip
                have hS := OK_itF hR nz.toNat
                have hs1 := setF_lt hS 1
                have hP := OK_pulF xz.toNat vz.toNat hR (Or.inr (by omega))
                have hPK := AK_pulF xz.toNat vz.toNat hK
                have hPS := OK_itF hP nz.toNat
                refine lv_aload_n xx xb dX2_later_73 rfl (lv_at hl 1 rfl) ?_
                refine lv_iload_n xx xb dX2_later_74 rfl (lv_at hl 4 rfl) ?_
                refine re_i (nI nz.toNat) (ofT h_n (by omega) (by omega)) ?_
                have hM := kX2_takes l G h0 a1 a2 a3 a4 a5 a6 a7 a8 im lm rm pl sd R Rm nz.toNat (by first | assumption | omega) (by first | assumption | omega) (by first | assumption | omega)
                refine cv_v C hw hM yvX2_takes ml_X2_134 0 rfl rfl rfl [0, 1, 2] rfl rfl (fun _ => (rfl : ([h0, a1, a2] : List Nat) = [h0, a1, a2])) (by decide) ⟨Nat.zero_le _, Nat.zero_le _⟩ hl.1 rfl (Nat.le_of_ble_eq_true rfl) dX2_later_75 (fun _ H locs hr hw => ?_)
                have hw : Wd G (fA [(h0, .inr (2, [.ref a1, .ref a2, .ref a3, .ref a4, .int (nI im), .ref a5, .ref a6, .ref a7, .int (nI lm), .int (nI rm), .int (nI pl), .ref a8, .int sd])), (a1, aI G 54 (fl R)), (a2, aI G 54 (fl Rm)), (a7, aI G 7 (cN rf))]) s [(h0, .inr (2, [.ref a1, .ref a2, .ref a3, .ref a4, .int (nI im), .ref a5, .ref a6, .ref a7, .int (nI lm), .int (nI rm), .int (nI pl), .ref a8, .int sd])), (a1, aI G 54 (fl R)), (a2, aI G 54 (fl (itF R nz.toNat))), (a7, aI G 7 (cN rf))] H locs := hw
                refine lv_aload_n xx xb dX2_later_78 rfl (lv_at hl 1 rfl) ?_
                refine m_get C hw 0 rfl fk_X2_13 rfl dX2_later_79 ?_
                refine lv_iconst (v := nI 1) xx xb dX2_later_82 (by decide) ?_
                have hM := kX2_setOf l G a2 (itF R nz.toNat) 1 (by first | assumption | omega) (by first | assumption | omega)
                refine cs_i C hw hM ysX2_setOf ml_X2_73 rfl [2] rfl rfl (fun _ => (rfl : ([a2] : List Nat) = [a2])) (by decide) ⟨Nat.zero_le _, Nat.zero_le _⟩ hl.1 rfl (Nat.le_of_ble_eq_true rfl) dX2_later_83 (fun r _ H locs hr hw => ?_)
                have hw : Wd G (fA [(h0, .inr (2, [.ref a1, .ref a2, .ref a3, .ref a4, .int (nI im), .ref a5, .ref a6, .ref a7, .int (nI lm), .int (nI rm), .int (nI pl), .ref a8, .int sd])), (a1, aI G 54 (fl R)), (a2, aI G 54 (fl Rm)), (a7, aI G 7 (cN rf))]) s [(h0, .inr (2, [.ref a1, .ref a2, .ref a3, .ref a4, .int (nI im), .ref a5, .ref a6, .ref a7, .int (nI lm), .int (nI rm), .int (nI pl), .ref a8, .int sd])), (a1, aI G 54 (fl R)), (a2, aI G 54 (fl (itF R nz.toNat))), (a7, aI G 7 (cN rf))] H locs := hw
                subst hr
                refine lv_istore (lv' := [(5, .int (nI (setF (itF R nz.toNat) 1))), (4, .int (nI 0)), (0, .ref h0), (1, .int x), (2, .int v), (3, .int n)]) xx xb dX2_later_86 hl (by decide) rfl (fun ls hl => ?_)
                refine lv_aload_n xx xb dX2_later_88 rfl (lv_at hl 2 rfl) ?_
                refine m_get C hw 0 rfl fk_X2_9 rfl dX2_later_89 ?_
                refine lv_aload_n xx xb dX2_later_92 rfl (lv_at hl 2 rfl) ?_
                refine m_get C hw 0 rfl fk_X2_13 rfl dX2_later_93 ?_
                have hM := kX2_copies l G a1 a2 (fl R) (fl (itF R nz.toNat)) 
                refine cs_v C hw hM ysX2_copies ml_X2_121 rfl [1, 2] rfl rfl (fun _ => (rfl : ([a1, a2] : List Nat) = [a1, a2])) (by decide) ⟨Nat.zero_le _, Nat.zero_le _⟩ hl.1 rfl (Nat.le_of_ble_eq_true rfl) dX2_later_96 (fun _ H locs hr hw => ?_)
                have hw : Wd G (fA [(h0, .inr (2, [.ref a1, .ref a2, .ref a3, .ref a4, .int (nI im), .ref a5, .ref a6, .ref a7, .int (nI lm), .int (nI rm), .int (nI pl), .ref a8, .int sd])), (a1, aI G 54 (fl R)), (a2, aI G 54 (fl Rm)), (a7, aI G 7 (cN rf))]) s [(h0, .inr (2, [.ref a1, .ref a2, .ref a3, .ref a4, .int (nI im), .ref a5, .ref a6, .ref a7, .int (nI lm), .int (nI rm), .int (nI pl), .ref a8, .int sd])), (a1, aI G 54 (fl R)), (a2, aI G 54 (fl R)), (a7, aI G 7 (cN rf))] H locs := hw
                refine lv_aload_n xx xb dX2_later_99 rfl (lv_at hl 2 rfl) ?_
                refine m_get C hw 0 rfl fk_X2_9 rfl dX2_later_100 ?_
                refine lv_iload_n xx xb dX2_later_103 rfl (lv_at hl 3 rfl) ?_
                refine re_i (onI xz.toNat) ((ofT h_x (by omega) (by omega)).trans (onI_lt (by omega)).symm) ?_
                refine lv_iload_n xx xb dX2_later_104 rfl (lv_at hl 4 rfl) ?_
                refine re_i (nI vz.toNat) (ofT h_v (by omega) (by omega)) ?_
                have hM := kX2_shaken l G a1 R xz.toNat vz.toNat (by first | assumption | omega) (by first | assumption | omega) (by first | assumption | omega)
                refine cs_i C hw hM ysX2_shaken ml_X2_63 rfl [1] rfl rfl (fun _ => (rfl : ([a1] : List Nat) = [a1])) (by decide) ⟨Nat.zero_le _, Nat.zero_le _⟩ hl.1 rfl (Nat.le_of_ble_eq_true rfl) dX2_later_105 (fun r _ H locs hr hw => ?_)
                have hw : Wd G (fA [(h0, .inr (2, [.ref a1, .ref a2, .ref a3, .ref a4, .int (nI im), .ref a5, .ref a6, .ref a7, .int (nI lm), .int (nI rm), .int (nI pl), .ref a8, .int sd])), (a1, aI G 54 (fl R)), (a2, aI G 54 (fl Rm)), (a7, aI G 7 (cN rf))]) s [(h0, .inr (2, [.ref a1, .ref a2, .ref a3, .ref a4, .int (nI im), .ref a5, .ref a6, .ref a7, .int (nI lm), .int (nI rm), .int (nI pl), .ref a8, .int sd])), (a1, aI G 54 (fl R)), (a2, aI G 54 (fl R)), (a7, aI G 7 (cN rf))] H locs := hw
                subst hr
                refine lv_istore (lv' := [(6, .int (nI (bs (shkF R xz.toNat vz.toNat) (R 0 0)))), (5, .int (nI (setF (itF R nz.toNat) 1))), (4, .int (nI 0)), (0, .ref h0), (1, .int x), (2, .int v), (3, .int n)]) xx xb dX2_later_108 hl (by decide) rfl (fun ls hl => ?_)
                refine lv_aload_n xx xb dX2_later_110 rfl (lv_at hl 3 rfl) ?_
                refine m_get C hw 0 rfl fk_X2_13 rfl dX2_later_111 ?_
                refine lv_iload_n xx xb dX2_later_114 rfl (lv_at hl 4 rfl) ?_
                refine re_i (onI xz.toNat) ((ofT h_x (by omega) (by omega)).trans (onI_lt (by omega)).symm) ?_
                refine lv_iload_n xx xb dX2_later_115 rfl (lv_at hl 5 rfl) ?_
                refine re_i (nI vz.toNat) (ofT h_v (by omega) (by omega)) ?_
                have hM := kX2_pullsIn l G a2 R xz.toNat vz.toNat (by first | assumption | omega) (by first | assumption | omega) (by first | assumption | omega)
                refine cs_i C hw hM ysX2_pullsIn ml_X2_112 rfl [2] rfl rfl (fun _ => (rfl : ([a2] : List Nat) = [a2])) (by decide) ⟨Nat.zero_le _, Nat.zero_le _⟩ hl.1 rfl (Nat.le_of_ble_eq_true rfl) dX2_later_116 (fun r _ H locs hr hw => ?_)
                have hw : Wd G (fA [(h0, .inr (2, [.ref a1, .ref a2, .ref a3, .ref a4, .int (nI im), .ref a5, .ref a6, .ref a7, .int (nI lm), .int (nI rm), .int (nI pl), .ref a8, .int sd])), (a1, aI G 54 (fl R)), (a2, aI G 54 (fl Rm)), (a7, aI G 7 (cN rf))]) s [(h0, .inr (2, [.ref a1, .ref a2, .ref a3, .ref a4, .int (nI im), .ref a5, .ref a6, .ref a7, .int (nI lm), .int (nI rm), .int (nI pl), .ref a8, .int sd])), (a1, aI G 54 (fl R)), (a2, aI G 54 (fl (pulF R xz.toNat vz.toNat))), (a7, aI G 7 (cN rf))] H locs := hw
                subst hr
                refine lv_istore (lv' := [(7, .int (nI (ct (shkF R xz.toNat vz.toNat) (R 0 0)))), (6, .int (nI (bs (shkF R xz.toNat vz.toNat) (R 0 0)))), (5, .int (nI (setF (itF R nz.toNat) 1))), (4, .int (nI 0)), (0, .ref h0), (1, .int x), (2, .int v), (3, .int n)]) xx xb dX2_later_119 hl (by decide) rfl (fun ls hl => ?_)
                refine lv_aload_n xx xb dX2_later_121 rfl (lv_at hl 4 rfl) ?_
                refine m_get C hw 0 rfl fk_X2_13 rfl dX2_later_122 ?_
                refine lv_iload_n xx xb dX2_later_125 rfl (lv_at hl 7 rfl) ?_
                refine re_i (nI nz.toNat) (ofT h_n (by omega) (by omega)) ?_
                have hM := kX2_minutesOn l G a2 (pulF R xz.toNat vz.toNat) nz.toNat (by first | assumption | omega) (by first | assumption | omega) (by first | assumption | omega)
                refine cs_v C hw hM ysX2_minutesOn ml_X2_115 rfl [2] rfl rfl (fun _ => (rfl : ([a2] : List Nat) = [a2])) (by decide) ⟨Nat.zero_le _, Nat.zero_le _⟩ hl.1 rfl (Nat.le_of_ble_eq_true rfl) dX2_later_126 (fun _ H locs hr hw => ?_)
                have hw : Wd G (fA [(h0, .inr (2, [.ref a1, .ref a2, .ref a3, .ref a4, .int (nI im), .ref a5, .ref a6, .ref a7, .int (nI lm), .int (nI rm), .int (nI pl), .ref a8, .int sd])), (a1, aI G 54 (fl R)), (a2, aI G 54 (fl Rm)), (a7, aI G 7 (cN rf))]) s [(h0, .inr (2, [.ref a1, .ref a2, .ref a3, .ref a4, .int (nI im), .ref a5, .ref a6, .ref a7, .int (nI lm), .int (nI rm), .int (nI pl), .ref a8, .int sd])), (a1, aI G 54 (fl R)), (a2, aI G 54 (fl (itF (pulF R xz.toNat vz.toNat) nz.toNat))), (a7, aI G 7 (cN rf))] H locs := hw
                refine lv_aload_n xx xb dX2_later_129 rfl (lv_at hl 4 rfl) ?_
                refine m_get C hw 0 rfl fk_X2_13 rfl dX2_later_130 ?_
                refine lv_iconst (v := nI 1) xx xb dX2_later_133 (by decide) ?_
                have hM := kX2_setOf l G a2 (itF (pulF R xz.toNat vz.toNat) nz.toNat) 1 (by first | assumption | omega) (by first | assumption | omega)
                refine cs_i C hw hM ysX2_setOf ml_X2_73 rfl [2] rfl rfl (fun _ => (rfl : ([a2] : List Nat) = [a2])) (by decide) ⟨Nat.zero_le _, Nat.zero_le _⟩ hl.1 rfl (Nat.le_of_ble_eq_true rfl) dX2_later_134 (fun r _ H locs hr hw => ?_)
                have hw : Wd G (fA [(h0, .inr (2, [.ref a1, .ref a2, .ref a3, .ref a4, .int (nI im), .ref a5, .ref a6, .ref a7, .int (nI lm), .int (nI rm), .int (nI pl), .ref a8, .int sd])), (a1, aI G 54 (fl R)), (a2, aI G 54 (fl Rm)), (a7, aI G 7 (cN rf))]) s [(h0, .inr (2, [.ref a1, .ref a2, .ref a3, .ref a4, .int (nI im), .ref a5, .ref a6, .ref a7, .int (nI lm), .int (nI rm), .int (nI pl), .ref a8, .int sd])), (a1, aI G 54 (fl R)), (a2, aI G 54 (fl (itF (pulF R xz.toNat vz.toNat) nz.toNat))), (a7, aI G 7 (cN rf))] H locs := hw
                subst hr
                refine lv_iload xx xb dX2_later_137 (lv_at hl 1 rfl) ?_
                refine lv_iconst (v := (-1)) xx xb dX2_later_139 (by decide) ?_
                refine lv_ixor xx xb dX2_later_140 ?_
                refine lv_iand xx xb dX2_later_141 ?_
                refine re_i (nI (anN (setF (itF (pulF R xz.toNat vz.toNat) nz.toNat) 1) (bs (shkF R xz.toNat vz.toNat) (R 0 0)))) (an_N _ _) ?_
                refine lv_iload xx xb dX2_later_142 (lv_at hl 2 rfl) ?_
                refine lv_iconst (v := (-1)) xx xb dX2_later_144 (by decide) ?_
                refine lv_ixor xx xb dX2_later_145 ?_
                refine lv_iand xx xb dX2_later_146 ?_
                refine re_i (nI (vLater R xz.toNat vz.toNat nz.toNat)) (an_N _ _) ?_
                have hc : cLater R xz vz nz = 0 := by unfold cLater; (repeat' split) <;> omega
                exact rt_i C hw () (by exact (anI_0 hc _).symm) (by rw [rfU_0 hc, selR_0 hc]) dX2_later_147
              · skip
                exact absurd (by decide) c_63
          · skip
            have c_34 := nle_c h_n (tN (by omega)) c_34
            refine lv_bipush (v := (-6)) xx xb dX2_later_37 (by decide) ?_
            refine lv_goto (tgt := 59) xx xb dX2_later_39 (by decide) ?_
            refine lv_istore (lv' := [(4, .int (-6)), (0, .ref h0), (1, .int x), (2, .int v), (3, .int n)]) xx xb dX2_later_59 hl (by decide) rfl (fun ls hl => ?_)
            refine lv_iload xx xb dX2_later_61 (lv_at hl 0 rfl) ?_
            refine lv_if_eq (tgt := 73) xx xb dX2_later_63 (by decide) (fun c_63 => ?_) (fun c_63 => ?_)
            · skip
              exact absurd c_63 (by decide)
            · skip
              refine lv_aload_n xx xb dX2_later_66 rfl (lv_at hl 1 rfl) ?_
              refine lv_iload xx xb dX2_later_67 (lv_at hl 0 rfl) ?_
              have hM := kX2_no l G h0 a1 a2 a3 a4 a5 a6 a7 a8 im lm rm pl sd rf 6 (by first | assumption | omega)
              refine cv_i C hw hM yvX2_no ml_X2_36 0 rfl rfl rfl [0, 3] rfl rfl (fun _ => (rfl : ([h0, a7] : List Nat) = [h0, a7])) (by decide) ⟨Nat.zero_le _, Nat.zero_le _⟩ hl.1 rfl (Nat.le_of_ble_eq_true rfl) dX2_later_69 (fun r _ H locs hr hw => ?_)
              have hw : Wd G (fA [(h0, .inr (2, [.ref a1, .ref a2, .ref a3, .ref a4, .int (nI im), .ref a5, .ref a6, .ref a7, .int (nI lm), .int (nI rm), .int (nI pl), .ref a8, .int sd])), (a1, aI G 54 (fl R)), (a2, aI G 54 (fl Rm)), (a7, aI G 7 (cN rf))]) s [(h0, .inr (2, [.ref a1, .ref a2, .ref a3, .ref a4, .int (nI im), .ref a5, .ref a6, .ref a7, .int (nI lm), .int (nI rm), .int (nI pl), .ref a8, .int sd])), (a1, aI G 54 (fl R)), (a2, aI G 54 (fl Rm)), (a7, aI G 7 (cN (upN rf 6 (rf 6 + 1))))] H locs := hw
              subst hr
              have hc : cLater R xz vz nz = 6 := by unfold cLater; (repeat' split) <;> omega
              have hj : 6 ≠ 0 := by omega
              exact rt_i C hw () (by exact (anI_r hc hj _).symm) (by rw [rfU_r hc hj, selR_r hc hj]) dX2_later_72
      · skip
        have c_17 := nle_c Int32.toInt_zero h_n c_17
        refine lv_bipush (v := (-4)) xx xb dX2_later_20 (by decide) ?_
        refine lv_goto (tgt := 59) xx xb dX2_later_22 (by decide) ?_
        refine lv_istore (lv' := [(4, .int (-4)), (0, .ref h0), (1, .int x), (2, .int v), (3, .int n)]) xx xb dX2_later_59 hl (by decide) rfl (fun ls hl => ?_)
        refine lv_iload xx xb dX2_later_61 (lv_at hl 0 rfl) ?_
        refine lv_if_eq (tgt := 73) xx xb dX2_later_63 (by decide) (fun c_63 => ?_) (fun c_63 => ?_)
        · skip
          exact absurd c_63 (by decide)
        · skip
          refine lv_aload_n xx xb dX2_later_66 rfl (lv_at hl 1 rfl) ?_
          refine lv_iload xx xb dX2_later_67 (lv_at hl 0 rfl) ?_
          have hM := kX2_no l G h0 a1 a2 a3 a4 a5 a6 a7 a8 im lm rm pl sd rf 4 (by first | assumption | omega)
          refine cv_i C hw hM yvX2_no ml_X2_36 0 rfl rfl rfl [0, 3] rfl rfl (fun _ => (rfl : ([h0, a7] : List Nat) = [h0, a7])) (by decide) ⟨Nat.zero_le _, Nat.zero_le _⟩ hl.1 rfl (Nat.le_of_ble_eq_true rfl) dX2_later_69 (fun r _ H locs hr hw => ?_)
          have hw : Wd G (fA [(h0, .inr (2, [.ref a1, .ref a2, .ref a3, .ref a4, .int (nI im), .ref a5, .ref a6, .ref a7, .int (nI lm), .int (nI rm), .int (nI pl), .ref a8, .int sd])), (a1, aI G 54 (fl R)), (a2, aI G 54 (fl Rm)), (a7, aI G 7 (cN rf))]) s [(h0, .inr (2, [.ref a1, .ref a2, .ref a3, .ref a4, .int (nI im), .ref a5, .ref a6, .ref a7, .int (nI lm), .int (nI rm), .int (nI pl), .ref a8, .int sd])), (a1, aI G 54 (fl R)), (a2, aI G 54 (fl Rm)), (a7, aI G 7 (cN (upN rf 4 (rf 4 + 1))))] H locs := hw
          subst hr
          have hc : cLater R xz vz nz = 4 := by unfold cLater; (repeat' split) <;> omega
          have hj : 4 ≠ 0 := by omega
          exact rt_i C hw () (by exact (anI_r hc hj _).symm) (by rw [rfU_r hc hj, selR_r hc hj]) dX2_later_72
  · skip
    have c_5 := b0_c c_5
    refine lv_iconst (v := (-1)) xx xb dX2_later_8 (by decide) ?_
    refine lv_goto (tgt := 59) xx xb dX2_later_9 (by decide) ?_
    refine lv_istore (lv' := [(4, .int (-1)), (0, .ref h0), (1, .int x), (2, .int v), (3, .int n)]) xx xb dX2_later_59 hl (by decide) rfl (fun ls hl => ?_)
    refine lv_iload xx xb dX2_later_61 (lv_at hl 0 rfl) ?_
    refine lv_if_eq (tgt := 73) xx xb dX2_later_63 (by decide) (fun c_63 => ?_) (fun c_63 => ?_)
    · skip
      exact absurd c_63 (by decide)
    · skip
      refine lv_aload_n xx xb dX2_later_66 rfl (lv_at hl 1 rfl) ?_
      refine lv_iload xx xb dX2_later_67 (lv_at hl 0 rfl) ?_
      have hM := kX2_no l G h0 a1 a2 a3 a4 a5 a6 a7 a8 im lm rm pl sd rf 1 (by first | assumption | omega)
      refine cv_i C hw hM yvX2_no ml_X2_36 0 rfl rfl rfl [0, 3] rfl rfl (fun _ => (rfl : ([h0, a7] : List Nat) = [h0, a7])) (by decide) ⟨Nat.zero_le _, Nat.zero_le _⟩ hl.1 rfl (Nat.le_of_ble_eq_true rfl) dX2_later_69 (fun r _ H locs hr hw => ?_)
      have hw : Wd G (fA [(h0, .inr (2, [.ref a1, .ref a2, .ref a3, .ref a4, .int (nI im), .ref a5, .ref a6, .ref a7, .int (nI lm), .int (nI rm), .int (nI pl), .ref a8, .int sd])), (a1, aI G 54 (fl R)), (a2, aI G 54 (fl Rm)), (a7, aI G 7 (cN rf))]) s [(h0, .inr (2, [.ref a1, .ref a2, .ref a3, .ref a4, .int (nI im), .ref a5, .ref a6, .ref a7, .int (nI lm), .int (nI rm), .int (nI pl), .ref a8, .int sd])), (a1, aI G 54 (fl R)), (a2, aI G 54 (fl Rm)), (a7, aI G 7 (cN (upN rf 1 (rf 1 + 1))))] H locs := hw
      subst hr
      have hc : cLater R xz vz nz = 1 := by unfold cLater; (repeat' split) <;> omega
      have hj : 1 ≠ 0 := by omega
      exact rt_i C hw () (by exact (anI_r hc hj _).symm) (by rw [rfU_r hc hj, selR_r hc hj]) dX2_later_72
set_option maxRecDepth 100000 in
set_option maxHeartbeats 4000000 in
theorem kX2_floorFalls (l : Launch) (G : GT) (h0 : Nat) (a1 : Nat) (a2 : Nat) (a3 : Nat) (a4 : Nat) (a5 : Nat) (a6 : Nat) (a7 : Nat) (a8 : Nat) (im : Nat) (lm : Nat) (rm : Nat) (pl : Nat) (sd : Int32) (R : RT) (rf : Nat → Nat) (v : Int32) (vz : Int) (h_v : v.toInt = vz) (hR : OK R) : Ct l yX2_floorFalls cX2_floorFalls 3 (some .int) 3 67 [.ref h0, .int v] G [(h0, .inr (2, [.ref a1, .ref a2, .ref a3, .ref a4, .int (nI im), .ref a5, .ref a6, .ref a7, .int (nI lm), .int (nI rm), .int (nI pl), .ref a8, .int sd])), (a1, aI G 54 (fl R)), (a7, aI G 7 (cN rf))] (QI G [(h0, .inr (2, [.ref a1, .ref a2, .ref a3, .ref a4, .int (nI im), .ref a5, .ref a6, .ref a7, .int (nI lm), .int (nI rm), .int (nI pl), .ref a8, .int sd])), (a1, aI G 54 (fl R)), (a7, aI G 7 (cN rf))] (fun (r : Int32) (u : Unit) => r = anI (wbN vz 9) (if R 0 2 = 0 then -9 else nI (ct (shkF R 10 vz.toNat) (R 0 0)))) (fun u => [(h0, .inr (2, [.ref a1, .ref a2, .ref a3, .ref a4, .int (nI im), .ref a5, .ref a6, .ref a7, .int (nI lm), .int (nI rm), .int (nI pl), .ref a8, .int sd])), (a1, aI G 54 (fl R)), (a7, aI G 7 (cN (rfU rf (wbN vz 9))))])) := by
  refine en (by decide +kernel) (Nat.le_of_ble_eq_true rfl) ?_
  intro p e s m below meth c ls H locs C hl hw
  have xx := C.1
  have xb := C.2.1
  have hw : Wd G (fA [(h0, .inr (2, [.ref a1, .ref a2, .ref a3, .ref a4, .int (nI im), .ref a5, .ref a6, .ref a7, .int (nI lm), .int (nI rm), .int (nI pl), .ref a8, .int sd])), (a1, aI G 54 (fl R)), (a7, aI G 7 (cN rf))]) s [(h0, .inr (2, [.ref a1, .ref a2, .ref a3, .ref a4, .int (nI im), .ref a5, .ref a6, .ref a7, .int (nI lm), .int (nI rm), .int (nI pl), .ref a8, .int sd])), (a1, aI G 54 (fl R)), (a7, aI G 7 (cN rf))] H locs := hw
  have hl : lv_has ls 3 [(0, .ref h0), (1, .int v)] := hl
  obtain ⟨hn, hf0, hpr, hA⟩ := id hR
  have hb9 := wbN_le vz 9
  have hb10 := bs_lt (shkF R 10 vz.toNat) (R 0 0)
  have h210 : 2 ^ R 0 0 ≤ 2 ^ 10 := Nat.pow_le_pow_right (by decide) hn
  refine lv_iload_n xx xb dX2_floorFalls_0 rfl (lv_at hl 1 rfl) ?_
  refine lv_bipush (v := nI 9) xx xb dX2_floorFalls_1 (by decide) ?_
  have hM := kX2_wrongBy l G v vz (nI 9) 9 h_v (tN (by omega))
  refine cs_i C hw hM ysX2_wrongBy ml_X2_128 rfl [] rfl rfl (fun _ => (rfl : ([] : List Nat) = [])) (by decide) ⟨Nat.zero_le _, Nat.zero_le _⟩ hl.1 rfl (Nat.le_of_ble_eq_true rfl) dX2_floorFalls_3 (fun r _ H locs hr hw => ?_)
  have hw : Wd G (fA [(h0, .inr (2, [.ref a1, .ref a2, .ref a3, .ref a4, .int (nI im), .ref a5, .ref a6, .ref a7, .int (nI lm), .int (nI rm), .int (nI pl), .ref a8, .int sd])), (a1, aI G 54 (fl R)), (a7, aI G 7 (cN rf))]) s [(h0, .inr (2, [.ref a1, .ref a2, .ref a3, .ref a4, .int (nI im), .ref a5, .ref a6, .ref a7, .int (nI lm), .int (nI rm), .int (nI pl), .ref a8, .int sd])), (a1, aI G 54 (fl R)), (a7, aI G 7 (cN rf))] H locs := hw
  subst hr
  refine lv_istore_n (lv' := [(2, .int (nG (wbN vz 9))), (0, .ref h0), (1, .int v)]) xx xb dX2_floorFalls_6 rfl hl (by decide) rfl (fun ls hl => ?_)
  refine lv_iload_n xx xb dX2_floorFalls_7 rfl (lv_at hl 0 rfl) ?_
  refine lv_if_eq (tgt := 17) xx xb dX2_floorFalls_8 (by decide) (fun c_8 => ?_) (fun c_8 => ?_)
  · skip
    have c_8 := g0_c (by omega) c_8
    obtain ⟨g1, g2⟩ := wbN_0 c_8
    refine lv_aload_n xx xb dX2_floorFalls_17 rfl (lv_at hl 1 rfl) ?_
    refine m_get C hw 0 rfl fk_X2_9 rfl dX2_floorFalls_18 ?_
    refine lv_iconst (v := nI 2) xx xb dX2_floorFalls_21 (by decide) ?_
    refine m_ald C hw 1 rfl 2 rfl (by omega) (by decide) dX2_floorFalls_22 ?_
    refine re_i (nI (R 0 2)) (fl_h R (by decide)) ?_
    refine lv_if_ne (tgt := 31) xx xb dX2_floorFalls_23 (by decide) (fun c_23 => ?_) (fun c_23 => ?_)
    · skip
      have c_23 := ne_c (tN (by omega)) Int32.toInt_zero c_23
      refine lv_aload_n xx xb dX2_floorFalls_31 rfl (lv_at hl 1 rfl) ?_
      refine m_get C hw 0 rfl fk_X2_9 rfl dX2_floorFalls_32 ?_
      refine lv_bipush (v := (-9)) xx xb dX2_floorFalls_35 (by decide) ?_
      refine lv_iload_n xx xb dX2_floorFalls_37 rfl (lv_at hl 2 rfl) ?_
      refine re_i (nI vz.toNat) (ofT h_v (by omega) (by omega)) ?_
      have hM := kX2_shaken l G a1 R 10 vz.toNat (by first | assumption | omega) (by first | assumption | omega) (by first | assumption | omega)
      refine cs_i C hw hM ysX2_shaken ml_X2_63 rfl [1] rfl rfl (fun _ => (rfl : ([a1] : List Nat) = [a1])) (by decide) ⟨Nat.zero_le _, Nat.zero_le _⟩ hl.1 rfl (Nat.le_of_ble_eq_true rfl) dX2_floorFalls_38 (fun r _ H locs hr hw => ?_)
      have hw : Wd G (fA [(h0, .inr (2, [.ref a1, .ref a2, .ref a3, .ref a4, .int (nI im), .ref a5, .ref a6, .ref a7, .int (nI lm), .int (nI rm), .int (nI pl), .ref a8, .int sd])), (a1, aI G 54 (fl R)), (a7, aI G 7 (cN rf))]) s [(h0, .inr (2, [.ref a1, .ref a2, .ref a3, .ref a4, .int (nI im), .ref a5, .ref a6, .ref a7, .int (nI lm), .int (nI rm), .int (nI pl), .ref a8, .int sd])), (a1, aI G 54 (fl R)), (a7, aI G 7 (cN rf))] H locs := hw
      subst hr
      have hM := kX2_bits l G (bs (shkF R 10 vz.toNat) (R 0 0)) (by first | assumption | omega)
      refine cs_i C hw hM ysX2_bits ml_X2_67 rfl [] rfl rfl (fun _ => (rfl : ([] : List Nat) = [])) (by decide) ⟨Nat.zero_le _, Nat.zero_le _⟩ hl.1 rfl (Nat.le_of_ble_eq_true rfl) dX2_floorFalls_41 (fun r _ H locs hr hw => ?_)
      have hw : Wd G (fA [(h0, .inr (2, [.ref a1, .ref a2, .ref a3, .ref a4, .int (nI im), .ref a5, .ref a6, .ref a7, .int (nI lm), .int (nI rm), .int (nI pl), .ref a8, .int sd])), (a1, aI G 54 (fl R)), (a7, aI G 7 (cN rf))]) s [(h0, .inr (2, [.ref a1, .ref a2, .ref a3, .ref a4, .int (nI im), .ref a5, .ref a6, .ref a7, .int (nI lm), .int (nI rm), .int (nI pl), .ref a8, .int sd])), (a1, aI G 54 (fl R)), (a7, aI G 7 (cN rf))] H locs := hw
      subst hr
      refine re_i (if R 0 2 = 0 then -9 else nI (ct (shkF R 10 vz.toNat) (R 0 0))) (by first | (rw [if_pos (by omega)]; done) | (rw [if_neg (by omega)]; exact congrArg nI (pc_bs _ hn))) ?_
      have hc : wbN vz 9 = 0 := by first | assumption | rfl
      exact rt_i C hw () (by exact (anI_0 hc _).symm) (by rw [rfU_0 hc]) dX2_floorFalls_44
    · skip
      have c_23 := eq_c (tN (by omega)) Int32.toInt_zero c_23
      refine lv_bipush (v := (-9)) xx xb dX2_floorFalls_26 (by decide) ?_
      refine lv_goto (tgt := 44) xx xb dX2_floorFalls_28 (by decide) ?_
      refine re_i (if R 0 2 = 0 then -9 else nI (ct (shkF R 10 vz.toNat) (R 0 0))) (by first | (rw [if_pos (by omega)]; done) | (rw [if_neg (by omega)]; exact congrArg nI (pc_bs _ hn))) ?_
      have hc : wbN vz 9 = 0 := by first | assumption | rfl
      exact rt_i C hw () (by exact (anI_0 hc _).symm) (by rw [rfU_0 hc]) dX2_floorFalls_44
  · skip
    have c_8 := g0_n c_8
    refine lv_aload_n xx xb dX2_floorFalls_11 rfl (lv_at hl 1 rfl) ?_
    refine lv_iload_n xx xb dX2_floorFalls_12 rfl (lv_at hl 0 rfl) ?_
    have hM := kX2_no l G h0 a1 a2 a3 a4 a5 a6 a7 a8 im lm rm pl sd rf (wbN vz 9) (by omega)
    refine cv_i C hw hM yvX2_no ml_X2_36 0 rfl rfl rfl [0, 2] rfl rfl (fun _ => (rfl : ([h0, a7] : List Nat) = [h0, a7])) (by decide) ⟨Nat.zero_le _, Nat.zero_le _⟩ hl.1 rfl (Nat.le_of_ble_eq_true rfl) dX2_floorFalls_13 (fun r _ H locs hr hw => ?_)
    have hw : Wd G (fA [(h0, .inr (2, [.ref a1, .ref a2, .ref a3, .ref a4, .int (nI im), .ref a5, .ref a6, .ref a7, .int (nI lm), .int (nI rm), .int (nI pl), .ref a8, .int sd])), (a1, aI G 54 (fl R)), (a7, aI G 7 (cN rf))]) s [(h0, .inr (2, [.ref a1, .ref a2, .ref a3, .ref a4, .int (nI im), .ref a5, .ref a6, .ref a7, .int (nI lm), .int (nI rm), .int (nI pl), .ref a8, .int sd])), (a1, aI G 54 (fl R)), (a7, aI G 7 (cN (upN rf (wbN vz 9) (rf (wbN vz 9) + 1))))] H locs := hw
    subst hr
    have hc : wbN vz 9 = (wbN vz 9) := by first | assumption | rfl
    have hj : (wbN vz 9) ≠ 0 := by omega
    exact rt_i C hw () (by exact (anI_r hc hj _).symm) (by rw [rfU_r hc hj]) dX2_floorFalls_16
set_option maxRecDepth 100000 in
set_option maxHeartbeats 4000000 in
theorem kX2_watched (l : Launch) (G : GT) (h0 : Nat) (a1 : Nat) (a2 : Nat) (a3 : Nat) (a4 : Nat) (a5 : Nat) (a6 : Nat) (a7 : Nat) (a8 : Nat) (im : Nat) (lm : Nat) (rm : Nat) (pl : Nat) (sd : Int32) (R : RT) (rf : Nat → Nat) (ww : Int32) (wwz : Int) (h_ww : ww.toInt = wwz) (hR : OK R) : Ct l yX2_watched cX2_watched 5 (some .int) 3 64 [.ref h0, .int ww] G [(h0, .inr (2, [.ref a1, .ref a2, .ref a3, .ref a4, .int (nI im), .ref a5, .ref a6, .ref a7, .int (nI lm), .int (nI rm), .int (nI pl), .ref a8, .int sd])), (a1, aI G 54 (fl R)), (a7, aI G 7 (cN rf))] (QI G [(h0, .inr (2, [.ref a1, .ref a2, .ref a3, .ref a4, .int (nI im), .ref a5, .ref a6, .ref a7, .int (nI lm), .int (nI rm), .int (nI pl), .ref a8, .int sd])), (a1, aI G 54 (fl R)), (a7, aI G 7 (cN rf))] (fun (r : Int32) (u : Unit) => r = anI (cWhat wwz) (vWat R wwz)) (fun u => [(h0, .inr (2, [.ref a1, .ref a2, .ref a3, .ref a4, .int (nI im), .ref a5, .ref a6, .ref a7, .int (nI lm), .int (nI rm), .int (nI pl), .ref a8, .int sd])), (a1, aI G 54 (fl R)), (a7, aI G 7 (cN (rfU rf (cWhat wwz))))])) := by
  refine en (by decide +kernel) (Nat.le_of_ble_eq_true rfl) ?_
  intro p e s m below meth c ls H locs C hl hw
  have xx := C.1
  have xb := C.2.1
  have hw : Wd G (fA [(h0, .inr (2, [.ref a1, .ref a2, .ref a3, .ref a4, .int (nI im), .ref a5, .ref a6, .ref a7, .int (nI lm), .int (nI rm), .int (nI pl), .ref a8, .int sd])), (a1, aI G 54 (fl R)), (a7, aI G 7 (cN rf))]) s [(h0, .inr (2, [.ref a1, .ref a2, .ref a3, .ref a4, .int (nI im), .ref a5, .ref a6, .ref a7, .int (nI lm), .int (nI rm), .int (nI pl), .ref a8, .int sd])), (a1, aI G 54 (fl R)), (a7, aI G 7 (cN rf))] H locs := hw
  have hl : lv_has ls 5 [(0, .ref h0), (1, .int ww)] := hl
  obtain ⟨hn, hf0, hpr, hA⟩ := id hR
  have hs1 := setF_lt hR 1
  refine lv_iload_n xx xb dX2_watched_0 rfl (lv_at hl 1 rfl) ?_
  refine lv_iconst (v := nI 0) xx xb dX2_watched_1 (by decide) ?_
  refine lv_iconst (v := nI 1) xx xb dX2_watched_2 (by decide) ?_
  have hM := kX2_isIn l G ww wwz (nI 0) 0 (nI 1) 1 h_ww (tN (by omega)) (tN (by omega))
  refine cs_i C hw hM ysX2_isIn ml_X2_40 rfl [] rfl rfl (fun _ => (rfl : ([] : List Nat) = [])) (by decide) ⟨Nat.zero_le _, Nat.zero_le _⟩ hl.1 rfl (Nat.le_of_ble_eq_true rfl) dX2_watched_3 (fun r _ H locs hr hw => ?_)
  have hw : Wd G (fA [(h0, .inr (2, [.ref a1, .ref a2, .ref a3, .ref a4, .int (nI im), .ref a5, .ref a6, .ref a7, .int (nI lm), .int (nI rm), .int (nI pl), .ref a8, .int sd])), (a1, aI G 54 (fl R)), (a7, aI G 7 (cN rf))]) s [(h0, .inr (2, [.ref a1, .ref a2, .ref a3, .ref a4, .int (nI im), .ref a5, .ref a6, .ref a7, .int (nI lm), .int (nI rm), .int (nI pl), .ref a8, .int sd])), (a1, aI G 54 (fl R)), (a7, aI G 7 (cN rf))] H locs := hw
  subst hr
  refine lv_if_ne (tgt := 16) xx xb dX2_watched_6 (by decide) (fun c_6 => ?_) (fun c_6 => ?_)
  · skip
    have c_6 := b1_c c_6
    refine lv_iconst (v := nI 0) xx xb dX2_watched_16 (by decide) ?_
    refine lv_istore_n (lv' := [(2, .int (nI 0)), (0, .ref h0), (1, .int ww)]) xx xb dX2_watched_17 rfl hl (by decide) rfl (fun ls hl => ?_)
    refine lv_iconst (v := nI 1) xx xb dX2_watched_18 (by decide) ?_
    refine lv_istore_n (lv' := [(3, .int (nI 1)), (2, .int (nI 0)), (0, .ref h0), (1, .int ww)]) xx xb dX2_watched_19 rfl hl (by decide) rfl (fun ls hl => ?_)
    refine lv_iconst (v := nI 0) xx xb dX2_watched_20 (by decide) ?_
    refine lv_istore (lv' := [(4, .int (nI 0)), (3, .int (nI 1)), (2, .int (nI 0)), (0, .ref h0), (1, .int ww)]) xx xb dX2_watched_21 hl (by decide) rfl (fun ls hl => ?_)
    have hl : lv_has ls 5 [(4, .int (nI 0)), (3, .int (if surB R 0 = true then 1 else 0)), (2, .int (nI 0)), (0, .ref h0), (1, .int ww)] := hl
    have hl : lv_has ls 5 [(4, .int (nI 0)), (3, .int (if surB R 0 = true then 1 else 0)), (2, .int (nI (watA R 0))), (0, .ref h0), (1, .int ww)] := by rw [watA_0]; exact hl
    have L_23 : ∀ (fu : Nat) (i : Nat) (H : Heap) (locs : List Loc) (ls : Array Slot), 10 - i < fu → (i ≤ R 0 0) → Wd G (fA [(h0, .inr (2, [.ref a1, .ref a2, .ref a3, .ref a4, .int (nI im), .ref a5, .ref a6, .ref a7, .int (nI lm), .int (nI rm), .int (nI pl), .ref a8, .int sd])), (a1, aI G 54 (fl R)), (a7, aI G 7 (cN rf))]) s [(h0, .inr (2, [.ref a1, .ref a2, .ref a3, .ref a4, .int (nI im), .ref a5, .ref a6, .ref a7, .int (nI lm), .int (nI rm), .int (nI pl), .ref a8, .int sd])), (a1, aI G 54 (fl R)), (a7, aI G 7 (cN rf))] H locs → lv_has ls 5 [(0, .ref h0), (1, .int ww), (2, .int (nI (watA R i))), (3, .int (if surB R i = true then 1 else 0)), (4, .int (nI i))] → W p l e ({ frames := 3, cells := 0, slots := 0, locals := 64 }) s m (([.ref h0, .int ww] : List Value).toArray) below meth c H locs 0 0 (MQ below (QI G [(h0, .inr (2, [.ref a1, .ref a2, .ref a3, .ref a4, .int (nI im), .ref a5, .ref a6, .ref a7, .int (nI lm), .int (nI rm), .int (nI pl), .ref a8, .int sd])), (a1, aI G 54 (fl R)), (a7, aI G 7 (cN rf))] (fun (r : Int32) (u : Unit) => r = anI (cWhat wwz) (vWat R wwz)) (fun u => [(h0, .inr (2, [.ref a1, .ref a2, .ref a3, .ref a4, .int (nI im), .ref a5, .ref a6, .ref a7, .int (nI lm), .int (nI rm), .int (nI pl), .ref a8, .int sd])), (a1, aI G 54 (fl R)), (a7, aI G 7 (cN (rfU rf (cWhat wwz))))])) (([.ref h0, .int ww] : List Value).toArray) s 0 0 (fA [(h0, .inr (2, [.ref a1, .ref a2, .ref a3, .ref a4, .int (nI im), .ref a5, .ref a6, .ref a7, .int (nI lm), .int (nI rm), .int (nI pl), .ref a8, .int sd])), (a1, aI G 54 (fl R)), (a7, aI G 7 (cN rf))])) (F0 m 23 ls []) := by
      intro fu
      induction fu with
      | zero => intro i H locs ls hfu; exact absurd hfu (Nat.not_lt_zero _)
      | succ fu ih_23 =>
        intro i H locs ls hfu hi hw hl
        refine lv_iload xx xb dX2_watched_23 (lv_at hl 4 rfl) ?_
        refine lv_aload_n xx xb dX2_watched_25 rfl (lv_at hl 0 rfl) ?_
        refine m_get C hw 0 rfl fk_X2_9 rfl dX2_watched_26 ?_
        refine lv_iconst (v := nI 0) xx xb dX2_watched_29 (by decide) ?_
        refine m_ald C hw 1 rfl 0 rfl (by omega) (by decide) dX2_watched_30 ?_
        refine re_i (nI (R 0 0)) (fl_h R (by decide)) ?_
        refine lv_icmp_ge (tgt := 107) xx xb dX2_watched_31 (by decide) (fun c_31 => ?_) (fun c_31 => ?_)
        · skip
          have c_31 := le_c (tN (by omega)) (tN (by omega)) c_31
          refine lv_iload_n xx xb dX2_watched_107 rfl (lv_at hl 1 rfl) ?_
          refine lv_if_ne (tgt := 115) xx xb dX2_watched_108 (by decide) (fun c_108 => ?_) (fun c_108 => ?_)
          · skip
            have c_108 := ne_c h_ww Int32.toInt_zero c_108
            refine lv_iload_n xx xb dX2_watched_115 rfl (lv_at hl 3 rfl) ?_
            refine re_i (vWat R wwz) (by first | (rw [vWat_0 (by omega), watA_e, show R 0 0 = i by omega]; done) | (rw [vWat_1 (by omega), show R 0 0 = i by omega]; done)) ?_
            have hc : cWhat wwz = 0 := by unfold cWhat; (repeat' split) <;> omega
            exact rt_i C hw () (by exact (anI_0 hc _).symm) (by rw [rfU_0 hc]) dX2_watched_116
          · skip
            have c_108 := eq_c h_ww Int32.toInt_zero c_108
            refine lv_iload_n xx xb dX2_watched_111 rfl (lv_at hl 2 rfl) ?_
            refine lv_goto (tgt := 116) xx xb dX2_watched_112 (by decide) ?_
            refine re_i (vWat R wwz) (by first | (rw [vWat_0 (by omega), watA_e, show R 0 0 = i by omega]; done) | (rw [vWat_1 (by omega), show R 0 0 = i by omega]; done)) ?_
            have hc : cWhat wwz = 0 := by unfold cWhat; (repeat' split) <;> omega
            exact rt_i C hw () (by exact (anI_0 hc _).symm) (by rw [rfU_0 hc]) dX2_watched_116
        · skip
          have c_31 := nle_c (tN (by omega)) (tN (by omega)) c_31
          obtain ⟨q1, q2, q3, q4, q5⟩ := hA i (by omega)
          refine lv_aload_n xx xb dX2_watched_34 rfl (lv_at hl 0 rfl) ?_
          refine m_get C hw 0 rfl fk_X2_9 rfl dX2_watched_35 ?_
          refine lv_iload xx xb dX2_watched_38 (lv_at hl 4 rfl) ?_
          have hM := kX2_stands l G a1 R i (by first | assumption | omega) (by first | assumption | omega)
          refine cs_i C hw hM ysX2_stands ml_X2_55 rfl [1] rfl rfl (fun _ => (rfl : ([a1] : List Nat) = [a1])) (by decide) ⟨Nat.zero_le _, Nat.zero_le _⟩ hl.1 rfl (Nat.le_of_ble_eq_true rfl) dX2_watched_40 (fun r _ H locs hr hw => ?_)
          have hw : Wd G (fA [(h0, .inr (2, [.ref a1, .ref a2, .ref a3, .ref a4, .int (nI im), .ref a5, .ref a6, .ref a7, .int (nI lm), .int (nI rm), .int (nI pl), .ref a8, .int sd])), (a1, aI G 54 (fl R)), (a7, aI G 7 (cN rf))]) s [(h0, .inr (2, [.ref a1, .ref a2, .ref a3, .ref a4, .int (nI im), .ref a5, .ref a6, .ref a7, .int (nI lm), .int (nI rm), .int (nI pl), .ref a8, .int sd])), (a1, aI G 54 (fl R)), (a7, aI G 7 (cN rf))] H locs := hw
          subst hr
          refine lv_if_ne (tgt := 49) xx xb dX2_watched_43 (by decide) (fun c_43 => ?_) (fun c_43 => ?_)
          · skip
            have c_43 := b1_c c_43
            refine lv_iload_n xx xb dX2_watched_49 rfl (lv_at hl 2 rfl) ?_
            refine lv_aload_n xx xb dX2_watched_50 rfl (lv_at hl 0 rfl) ?_
            refine m_get C hw 0 rfl fk_X2_9 rfl dX2_watched_51 ?_
            refine lv_iload xx xb dX2_watched_54 (lv_at hl 4 rfl) ?_
            refine lv_iconst (v := nI 0) xx xb dX2_watched_56 (by decide) ?_
            have hM := kX2_of l G i 0 
            refine cs_i C hw hM ysX2_of ml_X2_44 rfl [] rfl rfl (fun _ => (rfl : ([] : List Nat) = [])) (by decide) ⟨Nat.zero_le _, Nat.zero_le _⟩ hl.1 rfl (Nat.le_of_ble_eq_true rfl) dX2_watched_57 (fun r _ H locs hr hw => ?_)
            have hw : Wd G (fA [(h0, .inr (2, [.ref a1, .ref a2, .ref a3, .ref a4, .int (nI im), .ref a5, .ref a6, .ref a7, .int (nI lm), .int (nI rm), .int (nI pl), .ref a8, .int sd])), (a1, aI G 54 (fl R)), (a7, aI G 7 (cN rf))]) s [(h0, .inr (2, [.ref a1, .ref a2, .ref a3, .ref a4, .int (nI im), .ref a5, .ref a6, .ref a7, .int (nI lm), .int (nI rm), .int (nI pl), .ref a8, .int sd])), (a1, aI G 54 (fl R)), (a7, aI G 7 (cN rf))] H locs := hw
            subst hr
            refine m_ald C hw 1 rfl (4 + 5 * i + 0) rfl (by omega) (by decide) dX2_watched_60 ?_
            refine re_i (nI (R 1 i)) (fl_k R (by decide) (by decide)) ?_
            refine lv_iconst (v := nI 4) xx xb dX2_watched_61 (by decide) ?_
            refine lv_icmp_ne (tgt := 80) xx xb dX2_watched_62 (by decide) (fun c_62 => ?_) (fun c_62 => ?_)
            · skip
              have c_62 := ne_c (tN (by omega)) (tN (by omega)) c_62
              refine lv_iconst (v := nI 0) xx xb dX2_watched_80 (by decide) ?_
              refine lv_iadd xx xb dX2_watched_81 ?_
              refine re_i (nI ((watA R i) + 0)) (nI_add _ _) ?_
              refine re_i (nI (watA R (i + 1))) (congrArg nI (by first | exact watA_s1 (by omega) c_43 (by omega) | exact watA_s0 (by omega))) ?_
              refine lv_istore_n (lv' := [(2, .int (nI (watA R (i + 1)))), (0, .ref h0), (1, .int ww), (3, .int (if surB R i = true then 1 else 0)), (4, .int (nI i))]) xx xb dX2_watched_82 rfl hl (by decide) rfl (fun ls hl => ?_)
              refine lv_aload_n xx xb dX2_watched_83 rfl (lv_at hl 1 rfl) ?_
              refine m_get C hw 0 rfl fk_X2_9 rfl dX2_watched_84 ?_
              refine lv_iload xx xb dX2_watched_87 (lv_at hl 4 rfl) ?_
              have hM := kX2_isHeld l G a1 R i (by first | assumption | omega) (by first | assumption | omega)
              refine cs_i C hw hM ysX2_isHeld ml_X2_70 rfl [1] rfl rfl (fun _ => (rfl : ([a1] : List Nat) = [a1])) (by decide) ⟨Nat.zero_le _, Nat.zero_le _⟩ hl.1 rfl (Nat.le_of_ble_eq_true rfl) dX2_watched_89 (fun r _ H locs hr hw => ?_)
              have hw : Wd G (fA [(h0, .inr (2, [.ref a1, .ref a2, .ref a3, .ref a4, .int (nI im), .ref a5, .ref a6, .ref a7, .int (nI lm), .int (nI rm), .int (nI pl), .ref a8, .int sd])), (a1, aI G 54 (fl R)), (a7, aI G 7 (cN rf))]) s [(h0, .inr (2, [.ref a1, .ref a2, .ref a3, .ref a4, .int (nI im), .ref a5, .ref a6, .ref a7, .int (nI lm), .int (nI rm), .int (nI pl), .ref a8, .int sd])), (a1, aI G 54 (fl R)), (a7, aI G 7 (cN rf))] H locs := hw
              subst hr
              refine lv_if_eq (tgt := 99) xx xb dX2_watched_92 (by decide) (fun c_92 => ?_) (fun c_92 => ?_)
              · skip
                have c_92 := b0_c c_92
                refine lv_iconst (v := nI 0) xx xb dX2_watched_99 (by decide) ?_
                refine re_i (if surB R (i + 1) = true then 1 else 0) (by first | (rw [surB_t c_92]; done) | (exact r0 (by rw [surB_f c_43 c_92]; decide))) ?_
                refine lv_istore_n (lv' := [(3, .int (if surB R (i + 1) = true then 1 else 0)), (2, .int (nI (watA R (i + 1)))), (0, .ref h0), (1, .int ww), (4, .int (nI i))]) xx xb dX2_watched_100 rfl hl (by decide) rfl (fun ls hl => ?_)
                refine lv_iinc (v := nI (i + 1)) (lv' := [(4, .int (nI (i + 1))), (3, .int (if surB R (i + 1) = true then 1 else 0)), (2, .int (nI (watA R (i + 1)))), (0, .ref h0), (1, .int ww)]) xx xb dX2_watched_101 hl (k := 4) rfl (nI_add _ 1) (by decide) rfl (fun ls hl => ?_)
                refine lv_goto (tgt := 23) xx xb dX2_watched_104 (by decide) ?_
                exact ih_23 (i + 1) H _ ls (by omega) (by omega) hw (lv_sub hl [3, 4, 2, 1, 0] rfl)
              · skip
                have c_92 := b1_c c_92
                refine lv_iload_n xx xb dX2_watched_95 rfl (lv_at hl 3 rfl) ?_
                refine lv_goto (tgt := 100) xx xb dX2_watched_96 (by decide) ?_
                refine re_i (if surB R (i + 1) = true then 1 else 0) (by first | (rw [surB_t c_92]; done) | (exact r0 (by rw [surB_f c_43 c_92]; decide))) ?_
                refine lv_istore_n (lv' := [(3, .int (if surB R (i + 1) = true then 1 else 0)), (2, .int (nI (watA R (i + 1)))), (0, .ref h0), (1, .int ww), (4, .int (nI i))]) xx xb dX2_watched_100 rfl hl (by decide) rfl (fun ls hl => ?_)
                refine lv_iinc (v := nI (i + 1)) (lv' := [(4, .int (nI (i + 1))), (3, .int (if surB R (i + 1) = true then 1 else 0)), (2, .int (nI (watA R (i + 1)))), (0, .ref h0), (1, .int ww)]) xx xb dX2_watched_101 hl (k := 4) rfl (nI_add _ 1) (by decide) rfl (fun ls hl => ?_)
                refine lv_goto (tgt := 23) xx xb dX2_watched_104 (by decide) ?_
                exact ih_23 (i + 1) H _ ls (by omega) (by omega) hw (lv_sub hl [3, 4, 2, 1, 0] rfl)
            · skip
              have c_62 := eq_c (tN (by omega)) (tN (by omega)) c_62
              refine lv_aload_n xx xb dX2_watched_65 rfl (lv_at hl 0 rfl) ?_
              refine m_get C hw 0 rfl fk_X2_9 rfl dX2_watched_66 ?_
              refine lv_iconst (v := nI 1) xx xb dX2_watched_69 (by decide) ?_
              have hM := kX2_setOf l G a1 R 1 (by first | assumption | omega) (by first | assumption | omega)
              refine cs_i C hw hM ysX2_setOf ml_X2_73 rfl [1] rfl rfl (fun _ => (rfl : ([a1] : List Nat) = [a1])) (by decide) ⟨Nat.zero_le _, Nat.zero_le _⟩ hl.1 rfl (Nat.le_of_ble_eq_true rfl) dX2_watched_70 (fun r _ H locs hr hw => ?_)
              have hw : Wd G (fA [(h0, .inr (2, [.ref a1, .ref a2, .ref a3, .ref a4, .int (nI im), .ref a5, .ref a6, .ref a7, .int (nI lm), .int (nI rm), .int (nI pl), .ref a8, .int sd])), (a1, aI G 54 (fl R)), (a7, aI G 7 (cN rf))]) s [(h0, .inr (2, [.ref a1, .ref a2, .ref a3, .ref a4, .int (nI im), .ref a5, .ref a6, .ref a7, .int (nI lm), .int (nI rm), .int (nI pl), .ref a8, .int sd])), (a1, aI G 54 (fl R)), (a7, aI G 7 (cN rf))] H locs := hw
              subst hr
              refine lv_if_eq (tgt := 80) xx xb dX2_watched_73 (by decide) (fun c_73 => ?_) (fun c_73 => ?_)
              · skip
                have c_73 := eq_c (tN (by omega)) Int32.toInt_zero c_73
                refine lv_iconst (v := nI 0) xx xb dX2_watched_80 (by decide) ?_
                refine lv_iadd xx xb dX2_watched_81 ?_
                refine re_i (nI ((watA R i) + 0)) (nI_add _ _) ?_
                refine re_i (nI (watA R (i + 1))) (congrArg nI (by first | exact watA_s1 (by omega) c_43 (by omega) | exact watA_s0 (by omega))) ?_
                refine lv_istore_n (lv' := [(2, .int (nI (watA R (i + 1)))), (0, .ref h0), (1, .int ww), (3, .int (if surB R i = true then 1 else 0)), (4, .int (nI i))]) xx xb dX2_watched_82 rfl hl (by decide) rfl (fun ls hl => ?_)
                refine lv_aload_n xx xb dX2_watched_83 rfl (lv_at hl 1 rfl) ?_
                refine m_get C hw 0 rfl fk_X2_9 rfl dX2_watched_84 ?_
                refine lv_iload xx xb dX2_watched_87 (lv_at hl 4 rfl) ?_
                have hM := kX2_isHeld l G a1 R i (by first | assumption | omega) (by first | assumption | omega)
                refine cs_i C hw hM ysX2_isHeld ml_X2_70 rfl [1] rfl rfl (fun _ => (rfl : ([a1] : List Nat) = [a1])) (by decide) ⟨Nat.zero_le _, Nat.zero_le _⟩ hl.1 rfl (Nat.le_of_ble_eq_true rfl) dX2_watched_89 (fun r _ H locs hr hw => ?_)
                have hw : Wd G (fA [(h0, .inr (2, [.ref a1, .ref a2, .ref a3, .ref a4, .int (nI im), .ref a5, .ref a6, .ref a7, .int (nI lm), .int (nI rm), .int (nI pl), .ref a8, .int sd])), (a1, aI G 54 (fl R)), (a7, aI G 7 (cN rf))]) s [(h0, .inr (2, [.ref a1, .ref a2, .ref a3, .ref a4, .int (nI im), .ref a5, .ref a6, .ref a7, .int (nI lm), .int (nI rm), .int (nI pl), .ref a8, .int sd])), (a1, aI G 54 (fl R)), (a7, aI G 7 (cN rf))] H locs := hw
                subst hr
                refine lv_if_eq (tgt := 99) xx xb dX2_watched_92 (by decide) (fun c_92 => ?_) (fun c_92 => ?_)
                · skip
                  have c_92 := b0_c c_92
                  refine lv_iconst (v := nI 0) xx xb dX2_watched_99 (by decide) ?_
                  refine re_i (if surB R (i + 1) = true then 1 else 0) (by first | (rw [surB_t c_92]; done) | (exact r0 (by rw [surB_f c_43 c_92]; decide))) ?_
                  refine lv_istore_n (lv' := [(3, .int (if surB R (i + 1) = true then 1 else 0)), (2, .int (nI (watA R (i + 1)))), (0, .ref h0), (1, .int ww), (4, .int (nI i))]) xx xb dX2_watched_100 rfl hl (by decide) rfl (fun ls hl => ?_)
                  refine lv_iinc (v := nI (i + 1)) (lv' := [(4, .int (nI (i + 1))), (3, .int (if surB R (i + 1) = true then 1 else 0)), (2, .int (nI (watA R (i + 1)))), (0, .ref h0), (1, .int ww)]) xx xb dX2_watched_101 hl (k := 4) rfl (nI_add _ 1) (by decide) rfl (fun ls hl => ?_)
                  refine lv_goto (tgt := 23) xx xb dX2_watched_104 (by decide) ?_
                  exact ih_23 (i + 1) H _ ls (by omega) (by omega) hw (lv_sub hl [3, 4, 2, 1, 0] rfl)
                · skip
                  have c_92 := b1_c c_92
                  refine lv_iload_n xx xb dX2_watched_95 rfl (lv_at hl 3 rfl) ?_
                  refine lv_goto (tgt := 100) xx xb dX2_watched_96 (by decide) ?_
                  refine re_i (if surB R (i + 1) = true then 1 else 0) (by first | (rw [surB_t c_92]; done) | (exact r0 (by rw [surB_f c_43 c_92]; decide))) ?_
                  refine lv_istore_n (lv' := [(3, .int (if surB R (i + 1) = true then 1 else 0)), (2, .int (nI (watA R (i + 1)))), (0, .ref h0), (1, .int ww), (4, .int (nI i))]) xx xb dX2_watched_100 rfl hl (by decide) rfl (fun ls hl => ?_)
                  refine lv_iinc (v := nI (i + 1)) (lv' := [(4, .int (nI (i + 1))), (3, .int (if surB R (i + 1) = true then 1 else 0)), (2, .int (nI (watA R (i + 1)))), (0, .ref h0), (1, .int ww)]) xx xb dX2_watched_101 hl (k := 4) rfl (nI_add _ 1) (by decide) rfl (fun ls hl => ?_)
                  refine lv_goto (tgt := 23) xx xb dX2_watched_104 (by decide) ?_
                  exact ih_23 (i + 1) H _ ls (by omega) (by omega) hw (lv_sub hl [3, 4, 2, 1, 0] rfl)
              · skip
                have c_73 := ne_c (tN (by omega)) Int32.toInt_zero c_73
                refine lv_iconst (v := nI 1) xx xb dX2_watched_76 (by decide) ?_
                refine lv_goto (tgt := 81) xx xb dX2_watched_77 (by decide) ?_
                refine lv_iadd xx xb dX2_watched_81 ?_
                refine re_i (nI ((watA R i) + 1)) (nI_add _ _) ?_
                refine re_i (nI (watA R (i + 1))) (congrArg nI (by first | exact watA_s1 (by omega) c_43 (by omega) | exact watA_s0 (by omega))) ?_
                refine lv_istore_n (lv' := [(2, .int (nI (watA R (i + 1)))), (0, .ref h0), (1, .int ww), (3, .int (if surB R i = true then 1 else 0)), (4, .int (nI i))]) xx xb dX2_watched_82 rfl hl (by decide) rfl (fun ls hl => ?_)
                refine lv_aload_n xx xb dX2_watched_83 rfl (lv_at hl 1 rfl) ?_
                refine m_get C hw 0 rfl fk_X2_9 rfl dX2_watched_84 ?_
                refine lv_iload xx xb dX2_watched_87 (lv_at hl 4 rfl) ?_
                have hM := kX2_isHeld l G a1 R i (by first | assumption | omega) (by first | assumption | omega)
                refine cs_i C hw hM ysX2_isHeld ml_X2_70 rfl [1] rfl rfl (fun _ => (rfl : ([a1] : List Nat) = [a1])) (by decide) ⟨Nat.zero_le _, Nat.zero_le _⟩ hl.1 rfl (Nat.le_of_ble_eq_true rfl) dX2_watched_89 (fun r _ H locs hr hw => ?_)
                have hw : Wd G (fA [(h0, .inr (2, [.ref a1, .ref a2, .ref a3, .ref a4, .int (nI im), .ref a5, .ref a6, .ref a7, .int (nI lm), .int (nI rm), .int (nI pl), .ref a8, .int sd])), (a1, aI G 54 (fl R)), (a7, aI G 7 (cN rf))]) s [(h0, .inr (2, [.ref a1, .ref a2, .ref a3, .ref a4, .int (nI im), .ref a5, .ref a6, .ref a7, .int (nI lm), .int (nI rm), .int (nI pl), .ref a8, .int sd])), (a1, aI G 54 (fl R)), (a7, aI G 7 (cN rf))] H locs := hw
                subst hr
                refine lv_if_eq (tgt := 99) xx xb dX2_watched_92 (by decide) (fun c_92 => ?_) (fun c_92 => ?_)
                · skip
                  have c_92 := b0_c c_92
                  refine lv_iconst (v := nI 0) xx xb dX2_watched_99 (by decide) ?_
                  refine re_i (if surB R (i + 1) = true then 1 else 0) (by first | (rw [surB_t c_92]; done) | (exact r0 (by rw [surB_f c_43 c_92]; decide))) ?_
                  refine lv_istore_n (lv' := [(3, .int (if surB R (i + 1) = true then 1 else 0)), (2, .int (nI (watA R (i + 1)))), (0, .ref h0), (1, .int ww), (4, .int (nI i))]) xx xb dX2_watched_100 rfl hl (by decide) rfl (fun ls hl => ?_)
                  refine lv_iinc (v := nI (i + 1)) (lv' := [(4, .int (nI (i + 1))), (3, .int (if surB R (i + 1) = true then 1 else 0)), (2, .int (nI (watA R (i + 1)))), (0, .ref h0), (1, .int ww)]) xx xb dX2_watched_101 hl (k := 4) rfl (nI_add _ 1) (by decide) rfl (fun ls hl => ?_)
                  refine lv_goto (tgt := 23) xx xb dX2_watched_104 (by decide) ?_
                  exact ih_23 (i + 1) H _ ls (by omega) (by omega) hw (lv_sub hl [3, 4, 2, 1, 0] rfl)
                · skip
                  have c_92 := b1_c c_92
                  refine lv_iload_n xx xb dX2_watched_95 rfl (lv_at hl 3 rfl) ?_
                  refine lv_goto (tgt := 100) xx xb dX2_watched_96 (by decide) ?_
                  refine re_i (if surB R (i + 1) = true then 1 else 0) (by first | (rw [surB_t c_92]; done) | (exact r0 (by rw [surB_f c_43 c_92]; decide))) ?_
                  refine lv_istore_n (lv' := [(3, .int (if surB R (i + 1) = true then 1 else 0)), (2, .int (nI (watA R (i + 1)))), (0, .ref h0), (1, .int ww), (4, .int (nI i))]) xx xb dX2_watched_100 rfl hl (by decide) rfl (fun ls hl => ?_)
                  refine lv_iinc (v := nI (i + 1)) (lv' := [(4, .int (nI (i + 1))), (3, .int (if surB R (i + 1) = true then 1 else 0)), (2, .int (nI (watA R (i + 1)))), (0, .ref h0), (1, .int ww)]) xx xb dX2_watched_101 hl (k := 4) rfl (nI_add _ 1) (by decide) rfl (fun ls hl => ?_)
                  refine lv_goto (tgt := 23) xx xb dX2_watched_104 (by decide) ?_
                  exact ih_23 (i + 1) H _ ls (by omega) (by omega) hw (lv_sub hl [3, 4, 2, 1, 0] rfl)
          · skip
            have c_43 := b0_c c_43
            refine lv_goto (tgt := 101) xx xb dX2_watched_46 (by decide) ?_
            have hl : lv_has ls 5 [(0, .ref h0), (1, .int ww), (2, .int (nI (watA R (i + 1)))), (3, .int (if surB R i = true then 1 else 0)), (4, .int (nI i))] := by rw [← show watA R i = watA R (i + 1) from watA_n c_43]; exact hl
            have hl : lv_has ls 5 [(0, .ref h0), (1, .int ww), (2, .int (nI (watA R (i + 1)))), (3, .int (if surB R (i + 1) = true then 1 else 0)), (4, .int (nI i))] := by rw [← show surB R i = surB R (i + 1) from surB_n c_43]; exact hl
            refine lv_iinc (v := nI (i + 1)) (lv' := [(4, .int (nI (i + 1))), (0, .ref h0), (1, .int ww), (2, .int (nI (watA R (i + 1)))), (3, .int (if surB R (i + 1) = true then 1 else 0))]) xx xb dX2_watched_101 hl (k := 4) rfl (nI_add _ 1) (by decide) rfl (fun ls hl => ?_)
            refine lv_goto (tgt := 23) xx xb dX2_watched_104 (by decide) ?_
            exact ih_23 (i + 1) H _ ls (by omega) (by omega) hw (lv_sub hl [1, 2, 3, 4, 0] rfl)
    exact L_23 (_ + 1) 0 H _ ls (Nat.lt_succ_self _) (by omega) hw (lv_sub hl [3, 4, 2, 1, 0] rfl)
  · skip
    have c_6 := b0_c c_6
    refine lv_aload_n xx xb dX2_watched_9 rfl (lv_at hl 0 rfl) ?_
    refine lv_bipush (v := (-2)) xx xb dX2_watched_10 (by decide) ?_
    have hM := kX2_no l G h0 a1 a2 a3 a4 a5 a6 a7 a8 im lm rm pl sd rf 2 (by first | assumption | omega)
    refine cv_i C hw hM yvX2_no ml_X2_36 0 rfl rfl rfl [0, 2] rfl rfl (fun _ => (rfl : ([h0, a7] : List Nat) = [h0, a7])) (by decide) ⟨Nat.zero_le _, Nat.zero_le _⟩ hl.1 rfl (Nat.le_of_ble_eq_true rfl) dX2_watched_12 (fun r _ H locs hr hw => ?_)
    have hw : Wd G (fA [(h0, .inr (2, [.ref a1, .ref a2, .ref a3, .ref a4, .int (nI im), .ref a5, .ref a6, .ref a7, .int (nI lm), .int (nI rm), .int (nI pl), .ref a8, .int sd])), (a1, aI G 54 (fl R)), (a7, aI G 7 (cN rf))]) s [(h0, .inr (2, [.ref a1, .ref a2, .ref a3, .ref a4, .int (nI im), .ref a5, .ref a6, .ref a7, .int (nI lm), .int (nI rm), .int (nI pl), .ref a8, .int sd])), (a1, aI G 54 (fl R)), (a7, aI G 7 (cN (upN rf 2 (rf 2 + 1))))] H locs := hw
    subst hr
    have hc : cWhat wwz = 2 := by unfold cWhat; (repeat' split) <;> omega
    have hj : 2 ≠ 0 := by omega
    exact rt_i C hw () (by exact (anI_r hc hj _).symm) (by rw [rfU_r hc hj]) dX2_watched_15
set_option maxRecDepth 100000 in
set_option maxHeartbeats 4000000 in
theorem kX2_rebuild (l : Launch) (G : GT) (h0 : Nat) (a1 : Nat) (a2 : Nat) (a3 : Nat) (a4 : Nat) (a5 : Nat) (a6 : Nat) (a7 : Nat) (a8 : Nat) (im : Nat) (lm : Nat) (rm : Nat) (pl : Nat) (sd : Int32) (R : RT) (Rm : RT) (rf : Nat → Nat) (ww : Int32) (wwz : Int) (h_ww : ww.toInt = wwz) (hR : OK R) : Ct l yX2_rebuild cX2_rebuild 4 (some .int) 4 85 [.ref h0, .int ww] G [(h0, .inr (2, [.ref a1, .ref a2, .ref a3, .ref a4, .int (nI im), .ref a5, .ref a6, .ref a7, .int (nI lm), .int (nI rm), .int (nI pl), .ref a8, .int sd])), (a1, aI G 54 (fl R)), (a2, aI G 54 (fl Rm)), (a7, aI G 7 (cN rf))] (QI G [(h0, .inr (2, [.ref a1, .ref a2, .ref a3, .ref a4, .int (nI im), .ref a5, .ref a6, .ref a7, .int (nI lm), .int (nI rm), .int (nI pl), .ref a8, .int sd])), (a1, aI G 54 (fl R)), (a2, aI G 54 (fl Rm)), (a7, aI G 7 (cN rf))] (fun (r : Int32) (u : RT) => r = anI (cWhat wwz) (vReb R wwz)) (fun u => [(h0, .inr (2, [.ref a1, .ref a2, .ref a3, .ref a4, .int (nI im), .ref a5, .ref a6, .ref a7, .int (nI lm), .int (nI rm), .int (nI pl), .ref a8, .int sd])), (a1, aI G 54 (fl R)), (a2, aI G 54 (fl u)), (a7, aI G 7 (cN (rfU rf (cWhat wwz))))])) := by
  refine en (by decide +kernel) (Nat.le_of_ble_eq_true rfl) ?_
  intro p e s m below meth c ls H locs C hl hw
  have xx := C.1
  have xb := C.2.1
  have hw : Wd G (fA [(h0, .inr (2, [.ref a1, .ref a2, .ref a3, .ref a4, .int (nI im), .ref a5, .ref a6, .ref a7, .int (nI lm), .int (nI rm), .int (nI pl), .ref a8, .int sd])), (a1, aI G 54 (fl R)), (a2, aI G 54 (fl Rm)), (a7, aI G 7 (cN rf))]) s [(h0, .inr (2, [.ref a1, .ref a2, .ref a3, .ref a4, .int (nI im), .ref a5, .ref a6, .ref a7, .int (nI lm), .int (nI rm), .int (nI pl), .ref a8, .int sd])), (a1, aI G 54 (fl R)), (a2, aI G 54 (fl Rm)), (a7, aI G 7 (cN rf))] H locs := hw
  have hl : lv_has ls 4 [(0, .ref h0), (1, .int ww)] := hl
  obtain ⟨hn, hf0, hpr, hA⟩ := id hR
  refine lv_iload_n xx xb dX2_rebuild_0 rfl (lv_at hl 1 rfl) ?_
  refine lv_iconst (v := nI 0) xx xb dX2_rebuild_1 (by decide) ?_
  refine lv_iconst (v := nI 1) xx xb dX2_rebuild_2 (by decide) ?_
  have hM := kX2_isIn l G ww wwz (nI 0) 0 (nI 1) 1 h_ww (tN (by omega)) (tN (by omega))
  refine cs_i C hw hM ysX2_isIn ml_X2_40 rfl [] rfl rfl (fun _ => (rfl : ([] : List Nat) = [])) (by decide) ⟨Nat.zero_le _, Nat.zero_le _⟩ hl.1 rfl (Nat.le_of_ble_eq_true rfl) dX2_rebuild_3 (fun r _ H locs hr hw => ?_)
  have hw : Wd G (fA [(h0, .inr (2, [.ref a1, .ref a2, .ref a3, .ref a4, .int (nI im), .ref a5, .ref a6, .ref a7, .int (nI lm), .int (nI rm), .int (nI pl), .ref a8, .int sd])), (a1, aI G 54 (fl R)), (a2, aI G 54 (fl Rm)), (a7, aI G 7 (cN rf))]) s [(h0, .inr (2, [.ref a1, .ref a2, .ref a3, .ref a4, .int (nI im), .ref a5, .ref a6, .ref a7, .int (nI lm), .int (nI rm), .int (nI pl), .ref a8, .int sd])), (a1, aI G 54 (fl R)), (a2, aI G 54 (fl Rm)), (a7, aI G 7 (cN rf))] H locs := hw
  subst hr
  refine lv_if_ne (tgt := 16) xx xb dX2_rebuild_6 (by decide) (fun c_6 => ?_) (fun c_6 => ?_)
  · skip
    have c_6 := b1_c c_6
    refine lv_iload_n xx xb dX2_rebuild_16 rfl (lv_at hl 1 rfl) ?_
    refine lv_if_ne (tgt := 28) xx xb dX2_rebuild_17 (by decide) (fun c_17 => ?_) (fun c_17 => ?_)
    · skip
      have c_17 := ne_c h_ww Int32.toInt_zero c_17
      refine lv_aload_n xx xb dX2_rebuild_28 rfl (lv_at hl 0 rfl) ?_
      refine m_get C hw 0 rfl fk_X2_9 rfl dX2_rebuild_29 ?_
      refine lv_aload_n xx xb dX2_rebuild_32 rfl (lv_at hl 0 rfl) ?_
      refine m_get C hw 0 rfl fk_X2_13 rfl dX2_rebuild_33 ?_
      have hM := kX2_copies l G a1 a2 (fl R) (fl Rm) 
      refine cs_v C hw hM ysX2_copies ml_X2_121 rfl [1, 2] rfl rfl (fun _ => (rfl : ([a1, a2] : List Nat) = [a1, a2])) (by decide) ⟨Nat.zero_le _, Nat.zero_le _⟩ hl.1 rfl (Nat.le_of_ble_eq_true rfl) dX2_rebuild_36 (fun _ H locs hr hw => ?_)
      have hw : Wd G (fA [(h0, .inr (2, [.ref a1, .ref a2, .ref a3, .ref a4, .int (nI im), .ref a5, .ref a6, .ref a7, .int (nI lm), .int (nI rm), .int (nI pl), .ref a8, .int sd])), (a1, aI G 54 (fl R)), (a2, aI G 54 (fl Rm)), (a7, aI G 7 (cN rf))]) s [(h0, .inr (2, [.ref a1, .ref a2, .ref a3, .ref a4, .int (nI im), .ref a5, .ref a6, .ref a7, .int (nI lm), .int (nI rm), .int (nI pl), .ref a8, .int sd])), (a1, aI G 54 (fl R)), (a2, aI G 54 (fl R)), (a7, aI G 7 (cN rf))] H locs := hw
      refine lv_iconst (v := nI 0) xx xb dX2_rebuild_39 (by decide) ?_
      refine lv_istore_n (lv' := [(2, .int (nI 0)), (0, .ref h0), (1, .int ww)]) xx xb dX2_rebuild_40 rfl hl (by decide) rfl (fun ls hl => ?_)
      refine lv_aload_n xx xb dX2_rebuild_41 rfl (lv_at hl 1 rfl) ?_
      refine m_get C hw 0 rfl fk_X2_13 rfl dX2_rebuild_42 ?_
      have hM := kX2_rebuilt l G a2 R (by first | assumption | omega)
      refine cs_i C hw hM ysX2_rebuilt ml_X2_161 rfl [2] rfl rfl (fun _ => (rfl : ([a2] : List Nat) = [a2])) (by decide) ⟨Nat.zero_le _, Nat.zero_le _⟩ hl.1 rfl (Nat.le_of_ble_eq_true rfl) dX2_rebuild_45 (fun r _ H locs hr hw => ?_)
      have hw : Wd G (fA [(h0, .inr (2, [.ref a1, .ref a2, .ref a3, .ref a4, .int (nI im), .ref a5, .ref a6, .ref a7, .int (nI lm), .int (nI rm), .int (nI pl), .ref a8, .int sd])), (a1, aI G 54 (fl R)), (a2, aI G 54 (fl Rm)), (a7, aI G 7 (cN rf))]) s [(h0, .inr (2, [.ref a1, .ref a2, .ref a3, .ref a4, .int (nI im), .ref a5, .ref a6, .ref a7, .int (nI lm), .int (nI rm), .int (nI pl), .ref a8, .int sd])), (a1, aI G 54 (fl R)), (a2, aI G 54 (fl R)), (a7, aI G 7 (cN rf))] H locs := hw
      subst hr
      refine lv_istore_n (lv' := [(3, .int (onI (rbO R))), (2, .int (nI 0)), (0, .ref h0), (1, .int ww)]) xx xb dX2_rebuild_48 rfl hl (by decide) rfl (fun ls hl => ?_)
      have L_49 : ∀ (fu : Nat) (S : RT) (h : Nat) (f : Nat) (H : Heap) (locs : List Loc) (ls : Array Slot), f < fu → (OK S) → (lyN S ≤ f) → (rcN f S + h = rcN 10 R) → Wd G (fA [(h0, .inr (2, [.ref a1, .ref a2, .ref a3, .ref a4, .int (nI im), .ref a5, .ref a6, .ref a7, .int (nI lm), .int (nI rm), .int (nI pl), .ref a8, .int sd])), (a1, aI G 54 (fl R)), (a2, aI G 54 (fl Rm)), (a7, aI G 7 (cN rf))]) s [(h0, .inr (2, [.ref a1, .ref a2, .ref a3, .ref a4, .int (nI im), .ref a5, .ref a6, .ref a7, .int (nI lm), .int (nI rm), .int (nI pl), .ref a8, .int sd])), (a1, aI G 54 (fl R)), (a2, aI G 54 (fl S)), (a7, aI G 7 (cN rf))] H locs → lv_has ls 4 [(0, .ref h0), (2, .int (nI h)), (3, .int (onI (rbO S)))] → W p l e ({ frames := 4, cells := 0, slots := 0, locals := 85 }) s m (([.ref h0, .int ww] : List Value).toArray) below meth c H locs 0 0 (MQ below (QI G [(h0, .inr (2, [.ref a1, .ref a2, .ref a3, .ref a4, .int (nI im), .ref a5, .ref a6, .ref a7, .int (nI lm), .int (nI rm), .int (nI pl), .ref a8, .int sd])), (a1, aI G 54 (fl R)), (a2, aI G 54 (fl Rm)), (a7, aI G 7 (cN rf))] (fun (r : Int32) (u : RT) => r = anI (cWhat wwz) (vReb R wwz)) (fun u => [(h0, .inr (2, [.ref a1, .ref a2, .ref a3, .ref a4, .int (nI im), .ref a5, .ref a6, .ref a7, .int (nI lm), .int (nI rm), .int (nI pl), .ref a8, .int sd])), (a1, aI G 54 (fl R)), (a2, aI G 54 (fl u)), (a7, aI G 7 (cN (rfU rf (cWhat wwz))))])) (([.ref h0, .int ww] : List Value).toArray) s 0 0 (fA [(h0, .inr (2, [.ref a1, .ref a2, .ref a3, .ref a4, .int (nI im), .ref a5, .ref a6, .ref a7, .int (nI lm), .int (nI rm), .int (nI pl), .ref a8, .int sd])), (a1, aI G 54 (fl R)), (a2, aI G 54 (fl Rm)), (a7, aI G 7 (cN rf))])) (F0 m 49 ls []) := by
        intro fu
        induction fu with
        | zero => intro S h f H locs ls hfu; exact absurd hfu (Nat.not_lt_zero _)
        | succ fu ih_49 =>
          intro S h f H locs ls hfu hS hf hrc hw hl
          have hbl := rbO_le S hS
          have hsn9 := hS.1
          refine lv_iload_n xx xb dX2_rebuild_49 rfl (lv_at hl 2 rfl) ?_
          refine lv_if_lt (tgt := 78) xx xb dX2_rebuild_50 (by decide) (fun c_50 => ?_) (fun c_50 => ?_)
          · skip
            have c_50 := (onI_neg (by omega)).mp c_50
            refine lv_iload_n xx xb dX2_rebuild_78 rfl (lv_at hl 1 rfl) ?_
            refine re_i (vReb R wwz) (by unfold vReb; rw [if_neg (by omega), ← hrc, rcN_0 c_50, Nat.zero_add]) ?_
            have hc : cWhat wwz = 0 := by unfold cWhat; (repeat' split) <;> omega
            exact rt_i C hw S (by exact (anI_0 hc _).symm) (by rw [rfU_0 hc]) dX2_rebuild_79
          · skip
            have c_50 := mt (onI_neg (by omega)).mpr c_50
            have hb := rbO_lt c_50
            obtain ⟨hsn, hs2, hs3, hSA⟩ := id hS
            refine lv_aload_n xx xb dX2_rebuild_53 rfl (lv_at hl 0 rfl) ?_
            refine m_get C hw 0 rfl fk_X2_13 rfl dX2_rebuild_54 ?_
            refine lv_iload_n xx xb dX2_rebuild_57 rfl (lv_at hl 2 rfl) ?_
            refine re_i (nI (rbO S)) (onI_lt (by omega)) ?_
            refine lv_iconst (v := nI 3) xx xb dX2_rebuild_58 (by decide) ?_
            have hM := kX2_of l G (rbO S) 3 
            refine cs_i C hw hM ysX2_of ml_X2_44 rfl [] rfl rfl (fun _ => (rfl : ([] : List Nat) = [])) (by decide) ⟨Nat.zero_le _, Nat.zero_le _⟩ hl.1 rfl (Nat.le_of_ble_eq_true rfl) dX2_rebuild_59 (fun r _ H locs hr hw => ?_)
            have hw : Wd G (fA [(h0, .inr (2, [.ref a1, .ref a2, .ref a3, .ref a4, .int (nI im), .ref a5, .ref a6, .ref a7, .int (nI lm), .int (nI rm), .int (nI pl), .ref a8, .int sd])), (a1, aI G 54 (fl R)), (a2, aI G 54 (fl Rm)), (a7, aI G 7 (cN rf))]) s [(h0, .inr (2, [.ref a1, .ref a2, .ref a3, .ref a4, .int (nI im), .ref a5, .ref a6, .ref a7, .int (nI lm), .int (nI rm), .int (nI pl), .ref a8, .int sd])), (a1, aI G 54 (fl R)), (a2, aI G 54 (fl S)), (a7, aI G 7 (cN rf))] H locs := hw
            subst hr
            refine lv_iconst (v := nI 0) xx xb dX2_rebuild_62 (by decide) ?_
            refine m_ast C hw 2 rfl (4 + 5 * (rbO S) + 3) rfl (by omega) (by decide) (fl (upR S 4 (rbO S) 0)) (fl_uk _ (by decide) (by decide)) dX2_rebuild_63 (fun H locs hw => ?_)
            have hw : Wd G (fA [(h0, .inr (2, [.ref a1, .ref a2, .ref a3, .ref a4, .int (nI im), .ref a5, .ref a6, .ref a7, .int (nI lm), .int (nI rm), .int (nI pl), .ref a8, .int sd])), (a1, aI G 54 (fl R)), (a2, aI G 54 (fl Rm)), (a7, aI G 7 (cN rf))]) s [(h0, .inr (2, [.ref a1, .ref a2, .ref a3, .ref a4, .int (nI im), .ref a5, .ref a6, .ref a7, .int (nI lm), .int (nI rm), .int (nI pl), .ref a8, .int sd])), (a1, aI G 54 (fl R)), (a2, aI G 54 (fl (upR S 4 (rbO S) 0))), (a7, aI G 7 (cN rf))] H locs := hw
            have hw : Wd G (fA [(h0, .inr (2, [.ref a1, .ref a2, .ref a3, .ref a4, .int (nI im), .ref a5, .ref a6, .ref a7, .int (nI lm), .int (nI rm), .int (nI pl), .ref a8, .int sd])), (a1, aI G 54 (fl R)), (a2, aI G 54 (fl Rm)), (a7, aI G 7 (cN rf))]) s [(h0, .inr (2, [.ref a1, .ref a2, .ref a3, .ref a4, .int (nI im), .ref a5, .ref a6, .ref a7, .int (nI lm), .int (nI rm), .int (nI pl), .ref a8, .int sd])), (a1, aI G 54 (fl R)), (a2, aI G 54 (fl (upR S 4 (rbO S) 0))), (a7, aI G 7 (cN rf))] H locs := hw
            have hS2 := OK_up4 (rbO S) hS
            have hl2 : lyN S ≤ f ∧ rbO S ≠ 10 := ⟨hf, c_50⟩
            obtain ⟨g, hg1, hg2, hg3⟩ := rcN_l c_50 hf hb.1 hb.2.1
            refine lv_iinc (v := nI (h + 1)) (lv' := [(2, .int (nI (h + 1))), (0, .ref h0), (3, .int (onI (rbO S)))]) xx xb dX2_rebuild_64 hl (k := 1) rfl (nI_add _ 1) (by decide) rfl (fun ls hl => ?_)
            refine lv_aload_n xx xb dX2_rebuild_67 rfl (lv_at hl 1 rfl) ?_
            refine m_get C hw 0 rfl fk_X2_13 rfl dX2_rebuild_68 ?_
            have hM := kX2_rebuilt l G a2 (upR S 4 (rbO S) 0) hS2
            refine cs_i C hw hM ysX2_rebuilt ml_X2_161 rfl [2] rfl rfl (fun _ => (rfl : ([a2] : List Nat) = [a2])) (by decide) ⟨Nat.zero_le _, Nat.zero_le _⟩ hl.1 rfl (Nat.le_of_ble_eq_true rfl) dX2_rebuild_71 (fun r _ H locs hr hw => ?_)
            have hw : Wd G (fA [(h0, .inr (2, [.ref a1, .ref a2, .ref a3, .ref a4, .int (nI im), .ref a5, .ref a6, .ref a7, .int (nI lm), .int (nI rm), .int (nI pl), .ref a8, .int sd])), (a1, aI G 54 (fl R)), (a2, aI G 54 (fl Rm)), (a7, aI G 7 (cN rf))]) s [(h0, .inr (2, [.ref a1, .ref a2, .ref a3, .ref a4, .int (nI im), .ref a5, .ref a6, .ref a7, .int (nI lm), .int (nI rm), .int (nI pl), .ref a8, .int sd])), (a1, aI G 54 (fl R)), (a2, aI G 54 (fl (upR S 4 (rbO S) 0))), (a7, aI G 7 (cN rf))] H locs := hw
            subst hr
            refine lv_istore_n (lv' := [(3, .int (onI (rbO (upR S 4 (rbO S) 0)))), (2, .int (nI (h + 1))), (0, .ref h0)]) xx xb dX2_rebuild_74 rfl hl (by decide) rfl (fun ls hl => ?_)
            refine lv_goto (tgt := 49) xx xb dX2_rebuild_75 (by decide) ?_
            exact ih_49 (upR S 4 (rbO S) 0) (h + 1) g H _ ls (by omega) hS2 hg2 (by rw [← hrc, hg3]; omega) hw (lv_sub hl [2, 1, 0] rfl)
      exact L_49 (_ + 1) R 0 10 H _ ls (Nat.lt_succ_self _) hR (Nat.le_trans (ct_le _ _) hn) rfl hw (lv_sub hl [2, 1, 0] rfl)
    · skip
      have c_17 := eq_c h_ww Int32.toInt_zero c_17
      refine lv_aload_n xx xb dX2_rebuild_20 rfl (lv_at hl 0 rfl) ?_
      refine m_get C hw 0 rfl fk_X2_9 rfl dX2_rebuild_21 ?_
      have hM := kX2_rebuilt l G a1 R (by first | assumption | omega)
      refine cs_i C hw hM ysX2_rebuilt ml_X2_161 rfl [1] rfl rfl (fun _ => (rfl : ([a1] : List Nat) = [a1])) (by decide) ⟨Nat.zero_le _, Nat.zero_le _⟩ hl.1 rfl (Nat.le_of_ble_eq_true rfl) dX2_rebuild_24 (fun r _ H locs hr hw => ?_)
      have hw : Wd G (fA [(h0, .inr (2, [.ref a1, .ref a2, .ref a3, .ref a4, .int (nI im), .ref a5, .ref a6, .ref a7, .int (nI lm), .int (nI rm), .int (nI pl), .ref a8, .int sd])), (a1, aI G 54 (fl R)), (a2, aI G 54 (fl Rm)), (a7, aI G 7 (cN rf))]) s [(h0, .inr (2, [.ref a1, .ref a2, .ref a3, .ref a4, .int (nI im), .ref a5, .ref a6, .ref a7, .int (nI lm), .int (nI rm), .int (nI pl), .ref a8, .int sd])), (a1, aI G 54 (fl R)), (a2, aI G 54 (fl Rm)), (a7, aI G 7 (cN rf))] H locs := hw
      subst hr
      refine re_i (vReb R wwz) (by unfold vReb; rw [if_pos (by omega)]) ?_
      have hc : cWhat wwz = 0 := by unfold cWhat; (repeat' split) <;> omega
      exact rt_i C hw Rm (by exact (anI_0 hc _).symm) (by rw [rfU_0 hc]) dX2_rebuild_27
  · skip
    have c_6 := b0_c c_6
    refine lv_aload_n xx xb dX2_rebuild_9 rfl (lv_at hl 0 rfl) ?_
    refine lv_bipush (v := (-2)) xx xb dX2_rebuild_10 (by decide) ?_
    have hM := kX2_no l G h0 a1 a2 a3 a4 a5 a6 a7 a8 im lm rm pl sd rf 2 (by first | assumption | omega)
    refine cv_i C hw hM yvX2_no ml_X2_36 0 rfl rfl rfl [0, 3] rfl rfl (fun _ => (rfl : ([h0, a7] : List Nat) = [h0, a7])) (by decide) ⟨Nat.zero_le _, Nat.zero_le _⟩ hl.1 rfl (Nat.le_of_ble_eq_true rfl) dX2_rebuild_12 (fun r _ H locs hr hw => ?_)
    have hw : Wd G (fA [(h0, .inr (2, [.ref a1, .ref a2, .ref a3, .ref a4, .int (nI im), .ref a5, .ref a6, .ref a7, .int (nI lm), .int (nI rm), .int (nI pl), .ref a8, .int sd])), (a1, aI G 54 (fl R)), (a2, aI G 54 (fl Rm)), (a7, aI G 7 (cN rf))]) s [(h0, .inr (2, [.ref a1, .ref a2, .ref a3, .ref a4, .int (nI im), .ref a5, .ref a6, .ref a7, .int (nI lm), .int (nI rm), .int (nI pl), .ref a8, .int sd])), (a1, aI G 54 (fl R)), (a2, aI G 54 (fl Rm)), (a7, aI G 7 (cN (upN rf 2 (rf 2 + 1))))] H locs := hw
    subst hr
    have hc : cWhat wwz = 2 := by unfold cWhat; (repeat' split) <;> omega
    have hj : 2 ≠ 0 := by omega
    exact rt_i C hw Rm (by exact (anI_r hc hj _).symm) (by rw [rfU_r hc hj]) dX2_rebuild_15
set_option maxRecDepth 100000 in
set_option maxHeartbeats 4000000 in
theorem kX2_tower (l : Launch) (G : GT) (h0 : Nat) (a1 : Nat) (a2 : Nat) (a3 : Nat) (a4 : Nat) (a5 : Nat) (a6 : Nat) (a7 : Nat) (a8 : Nat) (im : Nat) (lm : Nat) (rm : Nat) (pl : Nat) (sd : Int32) (R : RT) (rf : Nat → Nat) (x : Int32) (xz : Int) (ww : Int32) (wwz : Int) (h_x : x.toInt = xz) (h_ww : ww.toInt = wwz) (hR : OK R) : Ct l yX2_tower cX2_tower 7 (some .int) 2 44 [.ref h0, .int x, .int ww] G [(h0, .inr (2, [.ref a1, .ref a2, .ref a3, .ref a4, .int (nI im), .ref a5, .ref a6, .ref a7, .int (nI lm), .int (nI rm), .int (nI pl), .ref a8, .int sd])), (a1, aI G 54 (fl R)), (a7, aI G 7 (cN rf))] (QI G [(h0, .inr (2, [.ref a1, .ref a2, .ref a3, .ref a4, .int (nI im), .ref a5, .ref a6, .ref a7, .int (nI lm), .int (nI rm), .int (nI pl), .ref a8, .int sd])), (a1, aI G 54 (fl R)), (a7, aI G 7 (cN rf))] (fun (r : Int32) (u : Unit) => r = anI (cTow R xz wwz) (vTow R xz.toNat wwz)) (fun u => [(h0, .inr (2, [.ref a1, .ref a2, .ref a3, .ref a4, .int (nI im), .ref a5, .ref a6, .ref a7, .int (nI lm), .int (nI rm), .int (nI pl), .ref a8, .int sd])), (a1, aI G 54 (fl R)), (a7, aI G 7 (cN (rfU rf (cTow R xz wwz))))])) := by
  refine en (by decide +kernel) (Nat.le_of_ble_eq_true rfl) ?_
  intro p e s m below meth c ls H locs C hl hw
  have xx := C.1
  have xb := C.2.1
  have hw : Wd G (fA [(h0, .inr (2, [.ref a1, .ref a2, .ref a3, .ref a4, .int (nI im), .ref a5, .ref a6, .ref a7, .int (nI lm), .int (nI rm), .int (nI pl), .ref a8, .int sd])), (a1, aI G 54 (fl R)), (a7, aI G 7 (cN rf))]) s [(h0, .inr (2, [.ref a1, .ref a2, .ref a3, .ref a4, .int (nI im), .ref a5, .ref a6, .ref a7, .int (nI lm), .int (nI rm), .int (nI pl), .ref a8, .int sd])), (a1, aI G 54 (fl R)), (a7, aI G 7 (cN rf))] H locs := hw
  have hl : lv_has ls 7 [(0, .ref h0), (1, .int x), (2, .int ww)] := hl
  obtain ⟨hn, hf0, hpr, hA⟩ := id hR
  refine lv_aload_n xx xb dX2_tower_0 rfl (lv_at hl 0 rfl) ?_
  refine lv_iload_n xx xb dX2_tower_1 rfl (lv_at hl 1 rfl) ?_
  have hM := kX2_isThing l G h0 a1 a2 a3 a4 a5 a6 a7 a8 im lm rm pl sd R x xz h_x (by first | assumption | omega)
  refine cv_i C hw hM yvX2_isThing ml_X2_105 0 rfl rfl rfl [0, 1] rfl rfl (fun _ => (rfl : ([h0, a1] : List Nat) = [h0, a1])) (by decide) ⟨Nat.zero_le _, Nat.zero_le _⟩ hl.1 rfl (Nat.le_of_ble_eq_true rfl) dX2_tower_2 (fun r _ H locs hr hw => ?_)
  have hw : Wd G (fA [(h0, .inr (2, [.ref a1, .ref a2, .ref a3, .ref a4, .int (nI im), .ref a5, .ref a6, .ref a7, .int (nI lm), .int (nI rm), .int (nI pl), .ref a8, .int sd])), (a1, aI G 54 (fl R)), (a7, aI G 7 (cN rf))]) s [(h0, .inr (2, [.ref a1, .ref a2, .ref a3, .ref a4, .int (nI im), .ref a5, .ref a6, .ref a7, .int (nI lm), .int (nI rm), .int (nI pl), .ref a8, .int sd])), (a1, aI G 54 (fl R)), (a7, aI G 7 (cN rf))] H locs := hw
  subst hr
  refine lv_if_ne (tgt := 14) xx xb dX2_tower_5 (by decide) (fun c_5 => ?_) (fun c_5 => ?_)
  · skip
    have c_5 := b1_c c_5
    refine lv_iload_n xx xb dX2_tower_14 rfl (lv_at hl 2 rfl) ?_
    refine lv_iconst (v := nI 0) xx xb dX2_tower_15 (by decide) ?_
    refine lv_iconst (v := nI 2) xx xb dX2_tower_16 (by decide) ?_
    have hM := kX2_isIn l G ww wwz (nI 0) 0 (nI 2) 2 h_ww (tN (by omega)) (tN (by omega))
    refine cs_i C hw hM ysX2_isIn ml_X2_40 rfl [] rfl rfl (fun _ => (rfl : ([] : List Nat) = [])) (by decide) ⟨Nat.zero_le _, Nat.zero_le _⟩ hl.1 rfl (Nat.le_of_ble_eq_true rfl) dX2_tower_17 (fun r _ H locs hr hw => ?_)
    have hw : Wd G (fA [(h0, .inr (2, [.ref a1, .ref a2, .ref a3, .ref a4, .int (nI im), .ref a5, .ref a6, .ref a7, .int (nI lm), .int (nI rm), .int (nI pl), .ref a8, .int sd])), (a1, aI G 54 (fl R)), (a7, aI G 7 (cN rf))]) s [(h0, .inr (2, [.ref a1, .ref a2, .ref a3, .ref a4, .int (nI im), .ref a5, .ref a6, .ref a7, .int (nI lm), .int (nI rm), .int (nI pl), .ref a8, .int sd])), (a1, aI G 54 (fl R)), (a7, aI G 7 (cN rf))] H locs := hw
    subst hr
    refine lv_if_ne (tgt := 30) xx xb dX2_tower_20 (by decide) (fun c_20 => ?_) (fun c_20 => ?_)
    · skip
      have c_20 := b1_c c_20
      refine lv_iconst (v := nI 0) xx xb dX2_tower_30 (by decide) ?_
      refine lv_istore_n (lv' := [(3, .int (nI 0)), (0, .ref h0), (1, .int x), (2, .int ww)]) xx xb dX2_tower_31 rfl hl (by decide) rfl (fun ls hl => ?_)
      refine lv_iconst (v := nI 0) xx xb dX2_tower_32 (by decide) ?_
      refine lv_istore (lv' := [(4, .int (nI 0)), (3, .int (nI 0)), (0, .ref h0), (1, .int x), (2, .int ww)]) xx xb dX2_tower_33 hl (by decide) rfl (fun ls hl => ?_)
      refine lv_iload_n xx xb dX2_tower_35 rfl (lv_at hl 3 rfl) ?_
      refine re_i (nI xz.toNat) (ofT h_x (by omega) (by omega)) ?_
      refine lv_istore (lv' := [(5, .int (nI xz.toNat)), (4, .int (nI 0)), (3, .int (nI 0)), (0, .ref h0), (1, .int x), (2, .int ww)]) xx xb dX2_tower_36 hl (by decide) rfl (fun ls hl => ?_)
      refine lv_iconst (v := nI 0) xx xb dX2_tower_38 (by decide) ?_
      refine lv_istore (lv' := [(6, .int (nI 0)), (5, .int (nI xz.toNat)), (4, .int (nI 0)), (3, .int (nI 0)), (0, .ref h0), (1, .int x), (2, .int ww)]) xx xb dX2_tower_39 hl (by decide) rfl (fun ls hl => ?_)
      have L_41 : ∀ (fu : Nat) (i : Nat) (H : Heap) (locs : List Loc) (ls : Array Slot), 10 - i < fu → (i ≤ R 0 0) → Wd G (fA [(h0, .inr (2, [.ref a1, .ref a2, .ref a3, .ref a4, .int (nI im), .ref a5, .ref a6, .ref a7, .int (nI lm), .int (nI rm), .int (nI pl), .ref a8, .int sd])), (a1, aI G 54 (fl R)), (a7, aI G 7 (cN rf))]) s [(h0, .inr (2, [.ref a1, .ref a2, .ref a3, .ref a4, .int (nI im), .ref a5, .ref a6, .ref a7, .int (nI lm), .int (nI rm), .int (nI pl), .ref a8, .int sd])), (a1, aI G 54 (fl R)), (a7, aI G 7 (cN rf))] H locs → lv_has ls 7 [(0, .ref h0), (1, .int x), (2, .int ww), (3, .int (nI (bs (abvP R xz.toNat) i))), (4, .int (nI 0)), (5, .int (nI xz.toNat)), (6, .int (nI i))] → W p l e ({ frames := 2, cells := 0, slots := 0, locals := 44 }) s m (([.ref h0, .int x, .int ww] : List Value).toArray) below meth c H locs 0 0 (MQ below (QI G [(h0, .inr (2, [.ref a1, .ref a2, .ref a3, .ref a4, .int (nI im), .ref a5, .ref a6, .ref a7, .int (nI lm), .int (nI rm), .int (nI pl), .ref a8, .int sd])), (a1, aI G 54 (fl R)), (a7, aI G 7 (cN rf))] (fun (r : Int32) (u : Unit) => r = anI (cTow R xz wwz) (vTow R xz.toNat wwz)) (fun u => [(h0, .inr (2, [.ref a1, .ref a2, .ref a3, .ref a4, .int (nI im), .ref a5, .ref a6, .ref a7, .int (nI lm), .int (nI rm), .int (nI pl), .ref a8, .int sd])), (a1, aI G 54 (fl R)), (a7, aI G 7 (cN (rfU rf (cTow R xz wwz))))])) (([.ref h0, .int x, .int ww] : List Value).toArray) s 0 0 (fA [(h0, .inr (2, [.ref a1, .ref a2, .ref a3, .ref a4, .int (nI im), .ref a5, .ref a6, .ref a7, .int (nI lm), .int (nI rm), .int (nI pl), .ref a8, .int sd])), (a1, aI G 54 (fl R)), (a7, aI G 7 (cN rf))])) (F0 m 41 ls []) := by
        intro fu
        induction fu with
        | zero => intro i H locs ls hfu; exact absurd hfu (Nat.not_lt_zero _)
        | succ fu ih_41 =>
          intro i H locs ls hfu hi hw hl
          refine lv_iload xx xb dX2_tower_41 (lv_at hl 6 rfl) ?_
          refine lv_aload_n xx xb dX2_tower_43 rfl (lv_at hl 0 rfl) ?_
          refine m_get C hw 0 rfl fk_X2_9 rfl dX2_tower_44 ?_
          refine lv_iconst (v := nI 0) xx xb dX2_tower_47 (by decide) ?_
          refine m_ald C hw 1 rfl 0 rfl (by omega) (by decide) dX2_tower_48 ?_
          refine re_i (nI (R 0 0)) (fl_h R (by decide)) ?_
          refine lv_icmp_ge (tgt := 79) xx xb dX2_tower_49 (by decide) (fun c_49 => ?_) (fun c_49 => ?_)
          · skip
            have c_49 := le_c (tN (by omega)) (tN (by omega)) c_49
            have hin : i = R 0 0 := by omega
            have hl : lv_has ls 7 [(0, .ref h0), (1, .int x), (2, .int ww), (3, .int (nI (bs (abvP R xz.toNat) (R 0 0)))), (4, .int (nI 0)), (5, .int (nI xz.toNat)), (6, .int (nI i))] := by rw [← hin]; exact hl
            have L_79 : ∀ (fu : Nat) (b : Nat) (h : Nat) (f : Nat) (H : Heap) (locs : List Loc) (ls : Array Slot), f < fu → (b < R 0 0) → (b + 1 ≤ f) → (hgt R f b + h = hgt R 11 xz.toNat) → (bot R f b = bot R 11 xz.toNat) → Wd G (fA [(h0, .inr (2, [.ref a1, .ref a2, .ref a3, .ref a4, .int (nI im), .ref a5, .ref a6, .ref a7, .int (nI lm), .int (nI rm), .int (nI pl), .ref a8, .int sd])), (a1, aI G 54 (fl R)), (a7, aI G 7 (cN rf))]) s [(h0, .inr (2, [.ref a1, .ref a2, .ref a3, .ref a4, .int (nI im), .ref a5, .ref a6, .ref a7, .int (nI lm), .int (nI rm), .int (nI pl), .ref a8, .int sd])), (a1, aI G 54 (fl R)), (a7, aI G 7 (cN rf))] H locs → lv_has ls 7 [(0, .ref h0), (1, .int x), (2, .int ww), (3, .int (nI (bs (abvP R xz.toNat) (R 0 0)))), (4, .int (nI h)), (5, .int (nI b))] → W p l e ({ frames := 2, cells := 0, slots := 0, locals := 44 }) s m (([.ref h0, .int x, .int ww] : List Value).toArray) below meth c H locs 0 0 (MQ below (QI G [(h0, .inr (2, [.ref a1, .ref a2, .ref a3, .ref a4, .int (nI im), .ref a5, .ref a6, .ref a7, .int (nI lm), .int (nI rm), .int (nI pl), .ref a8, .int sd])), (a1, aI G 54 (fl R)), (a7, aI G 7 (cN rf))] (fun (r : Int32) (u : Unit) => r = anI (cTow R xz wwz) (vTow R xz.toNat wwz)) (fun u => [(h0, .inr (2, [.ref a1, .ref a2, .ref a3, .ref a4, .int (nI im), .ref a5, .ref a6, .ref a7, .int (nI lm), .int (nI rm), .int (nI pl), .ref a8, .int sd])), (a1, aI G 54 (fl R)), (a7, aI G 7 (cN (rfU rf (cTow R xz wwz))))])) (([.ref h0, .int x, .int ww] : List Value).toArray) s 0 0 (fA [(h0, .inr (2, [.ref a1, .ref a2, .ref a3, .ref a4, .int (nI im), .ref a5, .ref a6, .ref a7, .int (nI lm), .int (nI rm), .int (nI pl), .ref a8, .int sd])), (a1, aI G 54 (fl R)), (a7, aI G 7 (cN rf))])) (F0 m 79 ls []) := by
              intro fu
              induction fu with
              | zero => intro b h f H locs ls hfu; exact absurd hfu (Nat.not_lt_zero _)
              | succ fu ih_79 =>
                intro b h f H locs ls hfu hbn hf hh hb hw hl
                obtain ⟨q1, q2, q3, q4, q5⟩ := hA b (by omega)
                refine lv_aload_n xx xb dX2_tower_79 rfl (lv_at hl 0 rfl) ?_
                refine m_get C hw 0 rfl fk_X2_9 rfl dX2_tower_80 ?_
                refine lv_iload xx xb dX2_tower_83 (lv_at hl 5 rfl) ?_
                refine lv_iconst (v := nI 2) xx xb dX2_tower_85 (by decide) ?_
                have hM := kX2_of l G b 2 
                refine cs_i C hw hM ysX2_of ml_X2_44 rfl [] rfl rfl (fun _ => (rfl : ([] : List Nat) = [])) (by decide) ⟨Nat.zero_le _, Nat.zero_le _⟩ hl.1 rfl (Nat.le_of_ble_eq_true rfl) dX2_tower_86 (fun r _ H locs hr hw => ?_)
                have hw : Wd G (fA [(h0, .inr (2, [.ref a1, .ref a2, .ref a3, .ref a4, .int (nI im), .ref a5, .ref a6, .ref a7, .int (nI lm), .int (nI rm), .int (nI pl), .ref a8, .int sd])), (a1, aI G 54 (fl R)), (a7, aI G 7 (cN rf))]) s [(h0, .inr (2, [.ref a1, .ref a2, .ref a3, .ref a4, .int (nI im), .ref a5, .ref a6, .ref a7, .int (nI lm), .int (nI rm), .int (nI pl), .ref a8, .int sd])), (a1, aI G 54 (fl R)), (a7, aI G 7 (cN rf))] H locs := hw
                subst hr
                refine m_ald C hw 1 rfl (4 + 5 * b + 2) rfl (by omega) (by decide) dX2_tower_89 ?_
                refine re_i (onI (R 3 b)) (fl_on R _) ?_
                refine lv_if_lt (tgt := 112) xx xb dX2_tower_90 (by decide) (fun c_90 => ?_) (fun c_90 => ?_)
                · skip
                  have c_90 := (onI_neg (by omega)).mp c_90
                  refine lv_iload_n xx xb dX2_tower_112 rfl (lv_at hl 2 rfl) ?_
                  refine lv_if_ne (tgt := 121) xx xb dX2_tower_113 (by decide) (fun c_113 => ?_) (fun c_113 => ?_)
                  · skip
                    have c_113 := ne_c h_ww Int32.toInt_zero c_113
                    have hr3 : ¬ R 3 b < 10 := by omega
                    have hh3 := hgt_0 (f := f) hr3
                    have hb3 := bot_0 (f := f) hr3
                    refine lv_iload_n xx xb dX2_tower_121 rfl (lv_at hl 2 rfl) ?_
                    refine lv_iconst (v := nI 1) xx xb dX2_tower_122 (by decide) ?_
                    refine lv_icmp_ne (tgt := 130) xx xb dX2_tower_123 (by decide) (fun c_123 => ?_) (fun c_123 => ?_)
                    · skip
                      have c_123 := ne_c h_ww (tN (by omega)) c_123
                      refine lv_iload xx xb dX2_tower_130 (lv_at hl 5 rfl) ?_
                      refine re_i (vTow R xz.toNat wwz) (by unfold vTow; first | (rw [if_pos (by omega), ← hh, hh3, Nat.zero_add]; done) | (rw [if_neg (by omega), if_pos (by omega)]; done) | (rw [if_neg (by omega), if_neg (by omega), ← hb, hb3]; done)) ?_
                      have hc : cTow R xz wwz = 0 := by unfold cTow; (repeat' split) <;> omega
                      exact rt_i C hw () (by exact (anI_0 hc _).symm) (by rw [rfU_0 hc]) dX2_tower_132
                    · skip
                      have c_123 := eq_c h_ww (tN (by omega)) c_123
                      refine lv_iload_n xx xb dX2_tower_126 rfl (lv_at hl 3 rfl) ?_
                      refine lv_goto (tgt := 132) xx xb dX2_tower_127 (by decide) ?_
                      refine re_i (vTow R xz.toNat wwz) (by unfold vTow; first | (rw [if_pos (by omega), ← hh, hh3, Nat.zero_add]; done) | (rw [if_neg (by omega), if_pos (by omega)]; done) | (rw [if_neg (by omega), if_neg (by omega), ← hb, hb3]; done)) ?_
                      have hc : cTow R xz wwz = 0 := by unfold cTow; (repeat' split) <;> omega
                      exact rt_i C hw () (by exact (anI_0 hc _).symm) (by rw [rfU_0 hc]) dX2_tower_132
                  · skip
                    have c_113 := eq_c h_ww Int32.toInt_zero c_113
                    have hr3 : ¬ R 3 b < 10 := by omega
                    have hh3 := hgt_0 (f := f) hr3
                    have hb3 := bot_0 (f := f) hr3
                    refine lv_iload xx xb dX2_tower_116 (lv_at hl 4 rfl) ?_
                    refine lv_goto (tgt := 132) xx xb dX2_tower_118 (by decide) ?_
                    refine re_i (vTow R xz.toNat wwz) (by unfold vTow; first | (rw [if_pos (by omega), ← hh, hh3, Nat.zero_add]; done) | (rw [if_neg (by omega), if_pos (by omega)]; done) | (rw [if_neg (by omega), if_neg (by omega), ← hb, hb3]; done)) ?_
                    have hc : cTow R xz wwz = 0 := by unfold cTow; (repeat' split) <;> omega
                    exact rt_i C hw () (by exact (anI_0 hc _).symm) (by rw [rfU_0 hc]) dX2_tower_132
                · skip
                  have c_90 := mt (onI_neg (by omega)).mpr c_90
                  refine lv_aload_n xx xb dX2_tower_93 rfl (lv_at hl 0 rfl) ?_
                  refine m_get C hw 0 rfl fk_X2_9 rfl dX2_tower_94 ?_
                  refine lv_iload xx xb dX2_tower_97 (lv_at hl 5 rfl) ?_
                  refine lv_iconst (v := nI 2) xx xb dX2_tower_99 (by decide) ?_
                  have hM := kX2_of l G b 2 
                  refine cs_i C hw hM ysX2_of ml_X2_44 rfl [] rfl rfl (fun _ => (rfl : ([] : List Nat) = [])) (by decide) ⟨Nat.zero_le _, Nat.zero_le _⟩ hl.1 rfl (Nat.le_of_ble_eq_true rfl) dX2_tower_100 (fun r _ H locs hr hw => ?_)
                  have hw : Wd G (fA [(h0, .inr (2, [.ref a1, .ref a2, .ref a3, .ref a4, .int (nI im), .ref a5, .ref a6, .ref a7, .int (nI lm), .int (nI rm), .int (nI pl), .ref a8, .int sd])), (a1, aI G 54 (fl R)), (a7, aI G 7 (cN rf))]) s [(h0, .inr (2, [.ref a1, .ref a2, .ref a3, .ref a4, .int (nI im), .ref a5, .ref a6, .ref a7, .int (nI lm), .int (nI rm), .int (nI pl), .ref a8, .int sd])), (a1, aI G 54 (fl R)), (a7, aI G 7 (cN rf))] H locs := hw
                  subst hr
                  refine m_ald C hw 1 rfl (4 + 5 * b + 2) rfl (by omega) (by decide) dX2_tower_103 ?_
                  refine re_i (onI (R 3 b)) (fl_on R _) ?_
                  refine re_i (nI (R 3 b)) (onI_lt (by omega)) ?_
                  refine lv_istore (lv' := [(5, .int (nI (R 3 b))), (0, .ref h0), (1, .int x), (2, .int ww), (3, .int (nI (bs (abvP R xz.toNat) (R 0 0)))), (4, .int (nI h))]) xx xb dX2_tower_104 hl (by decide) rfl (fun ls hl => ?_)
                  obtain ⟨f1, rfl⟩ : ∃ z, f = z + 1 := ⟨f - 1, by omega⟩
                  have hr3 : R 3 b < 10 := by omega
                  have hh2 := hgt_s (f := f1) hr3
                  have hb2 := bot_s (f := f1) hr3
                  refine lv_iinc (v := nI (h + 1)) (lv' := [(4, .int (nI (h + 1))), (5, .int (nI (R 3 b))), (0, .ref h0), (1, .int x), (2, .int ww), (3, .int (nI (bs (abvP R xz.toNat) (R 0 0))))]) xx xb dX2_tower_106 hl (k := 5) rfl (nI_add _ 1) (by decide) rfl (fun ls hl => ?_)
                  refine lv_goto (tgt := 79) xx xb dX2_tower_109 (by decide) ?_
                  exact ih_79 (R 3 b) (h + 1) f1 H _ ls (by omega) (by omega) (by omega) (by rw [← hh, hh2]; omega) (by rw [← hb, hb2]) hw (lv_sub hl [2, 3, 4, 5, 0, 1] rfl)
            exact L_79 (_ + 1) xz.toNat 0 11 H _ ls (Nat.lt_succ_self _) (by omega) (by omega) rfl rfl hw (lv_sub hl [0, 1, 2, 3, 4, 5] rfl)
          · skip
            have c_49 := nle_c (tN (by omega)) (tN (by omega)) c_49
            obtain ⟨q1, q2, q3, q4, q5⟩ := hA i (by omega)
            refine lv_iload_n xx xb dX2_tower_52 rfl (lv_at hl 3 rfl) ?_
            refine lv_aload_n xx xb dX2_tower_53 rfl (lv_at hl 0 rfl) ?_
            refine lv_iload xx xb dX2_tower_54 (lv_at hl 6 rfl) ?_
            refine lv_iload_n xx xb dX2_tower_56 rfl (lv_at hl 1 rfl) ?_
            refine re_i (nI xz.toNat) (ofT h_x (by omega) (by omega)) ?_
            have hM := kX2_isAbove l G h0 a1 a2 a3 a4 a5 a6 a7 a8 im lm rm pl sd R i xz.toNat (by first | assumption | omega) (by first | assumption | omega) (by first | assumption | omega)
            refine cv_i C hw hM yvX2_isAbove ml_X2_148 0 rfl rfl rfl [0, 1] rfl rfl (fun _ => (rfl : ([h0, a1] : List Nat) = [h0, a1])) (by decide) ⟨Nat.zero_le _, Nat.zero_le _⟩ hl.1 rfl (Nat.le_of_ble_eq_true rfl) dX2_tower_57 (fun r _ H locs hr hw => ?_)
            have hw : Wd G (fA [(h0, .inr (2, [.ref a1, .ref a2, .ref a3, .ref a4, .int (nI im), .ref a5, .ref a6, .ref a7, .int (nI lm), .int (nI rm), .int (nI pl), .ref a8, .int sd])), (a1, aI G 54 (fl R)), (a7, aI G 7 (cN rf))]) s [(h0, .inr (2, [.ref a1, .ref a2, .ref a3, .ref a4, .int (nI im), .ref a5, .ref a6, .ref a7, .int (nI lm), .int (nI rm), .int (nI pl), .ref a8, .int sd])), (a1, aI G 54 (fl R)), (a7, aI G 7 (cN rf))] H locs := hw
            subst hr
            refine lv_if_eq (tgt := 70) xx xb dX2_tower_60 (by decide) (fun c_60 => ?_) (fun c_60 => ?_)
            · skip
              have c_60 := b0_c c_60
              refine lv_iconst (v := nI 0) xx xb dX2_tower_70 (by decide) ?_
              refine lv_ior xx xb dX2_tower_71 ?_
              refine re_i (nI ((bs (abvP R xz.toNat) i) ||| 0)) (or_N _ _) ?_
              refine re_i (nI (bs (abvP R xz.toNat) (i + 1))) (congrArg nI (by first | exact bs_orT c_60 | exact bs_orF (Bool.eq_false_iff.mpr c_60))) ?_
              refine lv_istore_n (lv' := [(3, .int (nI (bs (abvP R xz.toNat) (i + 1)))), (0, .ref h0), (1, .int x), (2, .int ww), (4, .int (nI 0)), (5, .int (nI xz.toNat)), (6, .int (nI i))]) xx xb dX2_tower_72 rfl hl (by decide) rfl (fun ls hl => ?_)
              refine lv_iinc (v := nI (i + 1)) (lv' := [(6, .int (nI (i + 1))), (3, .int (nI (bs (abvP R xz.toNat) (i + 1)))), (0, .ref h0), (1, .int x), (2, .int ww), (4, .int (nI 0)), (5, .int (nI xz.toNat))]) xx xb dX2_tower_73 hl (k := 6) rfl (nI_add _ 1) (by decide) rfl (fun ls hl => ?_)
              refine lv_goto (tgt := 41) xx xb dX2_tower_76 (by decide) ?_
              exact ih_41 (i + 1) H _ ls (by omega) (by omega) hw (lv_sub hl [2, 3, 4, 1, 5, 6, 0] rfl)
            · skip
              have c_60 := b1_c c_60
              refine lv_iconst (v := nI 1) xx xb dX2_tower_63 (by decide) ?_
              refine lv_iload xx xb dX2_tower_64 (lv_at hl 6 rfl) ?_
              refine lv_ishl xx xb dX2_tower_66 ?_
              refine re_i (nI (2 ^ i)) (shl1 (by omega)) ?_
              refine lv_goto (tgt := 71) xx xb dX2_tower_67 (by decide) ?_
              refine lv_ior xx xb dX2_tower_71 ?_
              refine re_i (nI ((bs (abvP R xz.toNat) i) ||| (2 ^ i))) (or_N _ _) ?_
              refine re_i (nI (bs (abvP R xz.toNat) (i + 1))) (congrArg nI (by first | exact bs_orT c_60 | exact bs_orF (Bool.eq_false_iff.mpr c_60))) ?_
              refine lv_istore_n (lv' := [(3, .int (nI (bs (abvP R xz.toNat) (i + 1)))), (0, .ref h0), (1, .int x), (2, .int ww), (4, .int (nI 0)), (5, .int (nI xz.toNat)), (6, .int (nI i))]) xx xb dX2_tower_72 rfl hl (by decide) rfl (fun ls hl => ?_)
              refine lv_iinc (v := nI (i + 1)) (lv' := [(6, .int (nI (i + 1))), (3, .int (nI (bs (abvP R xz.toNat) (i + 1)))), (0, .ref h0), (1, .int x), (2, .int ww), (4, .int (nI 0)), (5, .int (nI xz.toNat))]) xx xb dX2_tower_73 hl (k := 6) rfl (nI_add _ 1) (by decide) rfl (fun ls hl => ?_)
              refine lv_goto (tgt := 41) xx xb dX2_tower_76 (by decide) ?_
              exact ih_41 (i + 1) H _ ls (by omega) (by omega) hw (lv_sub hl [2, 3, 4, 1, 5, 6, 0] rfl)
      exact L_41 (_ + 1) 0 H _ ls (Nat.lt_succ_self _) (by omega) hw (lv_sub hl [4, 5, 6, 3, 2, 1, 0] rfl)
    · skip
      have c_20 := b0_c c_20
      refine lv_aload_n xx xb dX2_tower_23 rfl (lv_at hl 0 rfl) ?_
      refine lv_bipush (v := (-2)) xx xb dX2_tower_24 (by decide) ?_
      have hM := kX2_no l G h0 a1 a2 a3 a4 a5 a6 a7 a8 im lm rm pl sd rf 2 (by first | assumption | omega)
      refine cv_i C hw hM yvX2_no ml_X2_36 0 rfl rfl rfl [0, 2] rfl rfl (fun _ => (rfl : ([h0, a7] : List Nat) = [h0, a7])) (by decide) ⟨Nat.zero_le _, Nat.zero_le _⟩ hl.1 rfl (Nat.le_of_ble_eq_true rfl) dX2_tower_26 (fun r _ H locs hr hw => ?_)
      have hw : Wd G (fA [(h0, .inr (2, [.ref a1, .ref a2, .ref a3, .ref a4, .int (nI im), .ref a5, .ref a6, .ref a7, .int (nI lm), .int (nI rm), .int (nI pl), .ref a8, .int sd])), (a1, aI G 54 (fl R)), (a7, aI G 7 (cN rf))]) s [(h0, .inr (2, [.ref a1, .ref a2, .ref a3, .ref a4, .int (nI im), .ref a5, .ref a6, .ref a7, .int (nI lm), .int (nI rm), .int (nI pl), .ref a8, .int sd])), (a1, aI G 54 (fl R)), (a7, aI G 7 (cN (upN rf 2 (rf 2 + 1))))] H locs := hw
      subst hr
      have hc : cTow R xz wwz = 2 := by unfold cTow; (repeat' split) <;> omega
      have hj : 2 ≠ 0 := by omega
      exact rt_i C hw () (by exact (anI_r hc hj _).symm) (by rw [rfU_r hc hj]) dX2_tower_29
  · skip
    have c_5 := b0_c c_5
    refine lv_aload_n xx xb dX2_tower_8 rfl (lv_at hl 0 rfl) ?_
    refine lv_iconst (v := (-1)) xx xb dX2_tower_9 (by decide) ?_
    have hM := kX2_no l G h0 a1 a2 a3 a4 a5 a6 a7 a8 im lm rm pl sd rf 1 (by first | assumption | omega)
    refine cv_i C hw hM yvX2_no ml_X2_36 0 rfl rfl rfl [0, 2] rfl rfl (fun _ => (rfl : ([h0, a7] : List Nat) = [h0, a7])) (by decide) ⟨Nat.zero_le _, Nat.zero_le _⟩ hl.1 rfl (Nat.le_of_ble_eq_true rfl) dX2_tower_10 (fun r _ H locs hr hw => ?_)
    have hw : Wd G (fA [(h0, .inr (2, [.ref a1, .ref a2, .ref a3, .ref a4, .int (nI im), .ref a5, .ref a6, .ref a7, .int (nI lm), .int (nI rm), .int (nI pl), .ref a8, .int sd])), (a1, aI G 54 (fl R)), (a7, aI G 7 (cN rf))]) s [(h0, .inr (2, [.ref a1, .ref a2, .ref a3, .ref a4, .int (nI im), .ref a5, .ref a6, .ref a7, .int (nI lm), .int (nI rm), .int (nI pl), .ref a8, .int sd])), (a1, aI G 54 (fl R)), (a7, aI G 7 (cN (upN rf 1 (rf 1 + 1))))] H locs := hw
    subst hr
    have hc : cTow R xz wwz = 1 := by unfold cTow; (repeat' split) <;> omega
    have hj : 1 ≠ 0 := by omega
    exact rt_i C hw () (by exact (anI_r hc hj _).symm) (by rw [rfU_r hc hj]) dX2_tower_13
